section
-- ===== PART A: goes FIRST, ahead of the names: the tables' words, and 'selects' of the private methods out of them =====
/-- a private method of a class that the tables say can be made, by its rows of tables_1 -/
def lw_okq (q : MethodName × Nat) : Prop := (q.1.cls ≠ "java/lang/invoke/MethodHandle" ∧ q.1.cls ≠ "java/lang/invoke/VarHandle") ∧ Cond.instantiable q.1.cls q.2 ∈ tables_1 ∧ Cond.privateMethod q.1 ∈ tables_1 ∧ Cond.instanceMethod q.1 ∈ tables_1
theorem lw_p0 : lw_okq (⟨"ConsulDesk", "refuse", "(I)I"⟩, 13) := ⟨⟨by decide +kernel, by decide +kernel⟩, List.mem_of_getElem? (i := 24) (by decide +kernel), List.mem_of_getElem? (i := 164) (by decide +kernel), List.mem_of_getElem? (i := 165) (by decide +kernel)⟩
theorem lw_p1 : lw_okq (⟨"ConsulDesk", "accept", "(I)I"⟩, 13) := ⟨⟨by decide +kernel, by decide +kernel⟩, List.mem_of_getElem? (i := 24) (by decide +kernel), List.mem_of_getElem? (i := 208) (by decide +kernel), List.mem_of_getElem? (i := 209) (by decide +kernel)⟩
theorem lw_p2 : lw_okq (⟨"ConsulDesk$Tokens", "cutOne", "(LConsulDesk$Tape;II)I"⟩, 4) := ⟨⟨by decide +kernel, by decide +kernel⟩, List.mem_of_getElem? (i := 53) (by decide +kernel), List.mem_of_getElem? (i := 228) (by decide +kernel), List.mem_of_getElem? (i := 229) (by decide +kernel)⟩
theorem lw_p3 : lw_okq (⟨"ConsulDesk$Tokens", "cutWord", "(LConsulDesk$Tape;II)I"⟩, 4) := ⟨⟨by decide +kernel, by decide +kernel⟩, List.mem_of_getElem? (i := 53) (by decide +kernel), List.mem_of_getElem? (i := 239) (by decide +kernel), List.mem_of_getElem? (i := 240) (by decide +kernel)⟩
theorem lw_p4 : lw_okq (⟨"ConsulDesk$Tokens", "put", "(III)V"⟩, 4) := ⟨⟨by decide +kernel, by decide +kernel⟩, List.mem_of_getElem? (i := 53) (by decide +kernel), List.mem_of_getElem? (i := 305) (by decide +kernel), List.mem_of_getElem? (i := 306) (by decide +kernel)⟩
theorem lw_p5 : lw_okq (⟨"ConsulDesk$Tokens", "cutNumber", "(LConsulDesk$Tape;II)I"⟩, 4) := ⟨⟨by decide +kernel, by decide +kernel⟩, List.mem_of_getElem? (i := 53) (by decide +kernel), List.mem_of_getElem? (i := 312) (by decide +kernel), List.mem_of_getElem? (i := 313) (by decide +kernel)⟩
theorem lw_p6 : lw_okq (⟨"ConsulDesk$Reader", "skip", "(I)Z"⟩, 6) := ⟨⟨by decide +kernel, by decide +kernel⟩, List.mem_of_getElem? (i := 75) (by decide +kernel), List.mem_of_getElem? (i := 381) (by decide +kernel), List.mem_of_getElem? (i := 382) (by decide +kernel)⟩
theorem lw_p7 : lw_okq (⟨"ConsulDesk$Reader", "readLine", "(I)LConsulDesk$Line;"⟩, 6) := ⟨⟨by decide +kernel, by decide +kernel⟩, List.mem_of_getElem? (i := 75) (by decide +kernel), List.mem_of_getElem? (i := 387) (by decide +kernel), List.mem_of_getElem? (i := 388) (by decide +kernel)⟩
theorem lw_p8 : lw_okq (⟨"ConsulDesk$Reader", "blame", "(I)V"⟩, 6) := ⟨⟨by decide +kernel, by decide +kernel⟩, List.mem_of_getElem? (i := 75) (by decide +kernel), List.mem_of_getElem? (i := 391) (by decide +kernel), List.mem_of_getElem? (i := 392) (by decide +kernel)⟩
theorem lw_p9 : lw_okq (⟨"ConsulDesk$Reader", "need", "(I)I"⟩, 6) := ⟨⟨by decide +kernel, by decide +kernel⟩, List.mem_of_getElem? (i := 75) (by decide +kernel), List.mem_of_getElem? (i := 395) (by decide +kernel), List.mem_of_getElem? (i := 396) (by decide +kernel)⟩
theorem lw_p10 : lw_okq (⟨"ConsulDesk$Reader", "readTests", "(LConsulDesk$Line;)V"⟩, 6) := ⟨⟨by decide +kernel, by decide +kernel⟩, List.mem_of_getElem? (i := 75) (by decide +kernel), List.mem_of_getElem? (i := 421) (by decide +kernel), List.mem_of_getElem? (i := 422) (by decide +kernel)⟩
theorem lw_p11 : lw_okq (⟨"ConsulDesk$Reader", "readTest", "(I)LConsulDesk$Test;"⟩, 6) := ⟨⟨by decide +kernel, by decide +kernel⟩, List.mem_of_getElem? (i := 75) (by decide +kernel), List.mem_of_getElem? (i := 425) (by decide +kernel), List.mem_of_getElem? (i := 426) (by decide +kernel)⟩
theorem lw_p12 : lw_okq (⟨"ConsulDesk$Reader", "needName", "()I"⟩, 6) := ⟨⟨by decide +kernel, by decide +kernel⟩, List.mem_of_getElem? (i := 75) (by decide +kernel), List.mem_of_getElem? (i := 432) (by decide +kernel), List.mem_of_getElem? (i := 433) (by decide +kernel)⟩
theorem lw_p13 : lw_okq (⟨"ConsulDesk$Reader", "readTerms", "(LConsulDesk$Line;)V"⟩, 6) := ⟨⟨by decide +kernel, by decide +kernel⟩, List.mem_of_getElem? (i := 75) (by decide +kernel), List.mem_of_getElem? (i := 452) (by decide +kernel), List.mem_of_getElem? (i := 453) (by decide +kernel)⟩
theorem lw_p14 : lw_okq (⟨"ConsulDesk$Reader", "readTerm", "(I)LConsulDesk$Term;"⟩, 6) := ⟨⟨by decide +kernel, by decide +kernel⟩, List.mem_of_getElem? (i := 75) (by decide +kernel), List.mem_of_getElem? (i := 456) (by decide +kernel), List.mem_of_getElem? (i := 457) (by decide +kernel)⟩
theorem lw_p15 : lw_okq (⟨"ConsulDesk", "sendOut", "()V"⟩, 13) := ⟨⟨by decide +kernel, by decide +kernel⟩, List.mem_of_getElem? (i := 24) (by decide +kernel), List.mem_of_getElem? (i := 493) (by decide +kernel), List.mem_of_getElem? (i := 494) (by decide +kernel)⟩
def lw_privs_1 : List (MethodName × Nat) := [(⟨"ConsulDesk", "refuse", "(I)I"⟩, 13), (⟨"ConsulDesk", "accept", "(I)I"⟩, 13), (⟨"ConsulDesk$Tokens", "cutOne", "(LConsulDesk$Tape;II)I"⟩, 4), (⟨"ConsulDesk$Tokens", "cutWord", "(LConsulDesk$Tape;II)I"⟩, 4), (⟨"ConsulDesk$Tokens", "put", "(III)V"⟩, 4), (⟨"ConsulDesk$Tokens", "cutNumber", "(LConsulDesk$Tape;II)I"⟩, 4), (⟨"ConsulDesk$Reader", "skip", "(I)Z"⟩, 6), (⟨"ConsulDesk$Reader", "readLine", "(I)LConsulDesk$Line;"⟩, 6), (⟨"ConsulDesk$Reader", "blame", "(I)V"⟩, 6), (⟨"ConsulDesk$Reader", "need", "(I)I"⟩, 6), (⟨"ConsulDesk$Reader", "readTests", "(LConsulDesk$Line;)V"⟩, 6), (⟨"ConsulDesk$Reader", "readTest", "(I)LConsulDesk$Test;"⟩, 6), (⟨"ConsulDesk$Reader", "needName", "()I"⟩, 6), (⟨"ConsulDesk$Reader", "readTerms", "(LConsulDesk$Line;)V"⟩, 6), (⟨"ConsulDesk$Reader", "readTerm", "(I)LConsulDesk$Term;"⟩, 6), (⟨"ConsulDesk", "sendOut", "()V"⟩, 13)]
theorem lw_r1 : ∀ q ∈ lw_privs_1, lw_okq q := List.forall_mem_cons.mpr ⟨lw_p0, List.forall_mem_cons.mpr ⟨lw_p1, List.forall_mem_cons.mpr ⟨lw_p2, List.forall_mem_cons.mpr ⟨lw_p3, List.forall_mem_cons.mpr ⟨lw_p4, List.forall_mem_cons.mpr ⟨lw_p5, List.forall_mem_cons.mpr ⟨lw_p6, List.forall_mem_cons.mpr ⟨lw_p7, List.forall_mem_cons.mpr ⟨lw_p8, List.forall_mem_cons.mpr ⟨lw_p9, List.forall_mem_cons.mpr ⟨lw_p10, List.forall_mem_cons.mpr ⟨lw_p11, List.forall_mem_cons.mpr ⟨lw_p12, List.forall_mem_cons.mpr ⟨lw_p13, List.forall_mem_cons.mpr ⟨lw_p14, List.forall_mem_cons.mpr ⟨lw_p15, fun _ h => absurd h List.not_mem_nil⟩⟩⟩⟩⟩⟩⟩⟩⟩⟩⟩⟩⟩⟩⟩⟩
theorem lw_p16 : lw_okq (⟨"ConsulDesk", "portAt", "(I)LConsulDesk$Port;"⟩, 13) := ⟨⟨by decide +kernel, by decide +kernel⟩, List.mem_of_getElem? (i := 24) (by decide +kernel), List.mem_of_getElem? (i := 497) (by decide +kernel), List.mem_of_getElem? (i := 498) (by decide +kernel)⟩
theorem lw_p17 : lw_okq (⟨"ConsulDesk$Port", "accountsCome", "(I)I"⟩, 8) := ⟨⟨by decide +kernel, by decide +kernel⟩, List.mem_of_getElem? (i := 167) (by decide +kernel), List.mem_of_getElem? (i := 567) (by decide +kernel), List.mem_of_getElem? (i := 568) (by decide +kernel)⟩
theorem lw_p18 : lw_okq (⟨"ConsulDesk$Port", "isOut", "(II)Z"⟩, 8) := ⟨⟨by decide +kernel, by decide +kernel⟩, List.mem_of_getElem? (i := 167) (by decide +kernel), List.mem_of_getElem? (i := 572) (by decide +kernel), List.mem_of_getElem? (i := 573) (by decide +kernel)⟩
theorem lw_p19 : lw_okq (⟨"ConsulDesk$Port", "isAskOut", "(II)Z"⟩, 8) := ⟨⟨by decide +kernel, by decide +kernel⟩, List.mem_of_getElem? (i := 167) (by decide +kernel), List.mem_of_getElem? (i := 576) (by decide +kernel), List.mem_of_getElem? (i := 577) (by decide +kernel)⟩
theorem lw_p20 : lw_okq (⟨"ConsulDesk", "tariffAt", "(I)LConsulDesk$Tariff;"⟩, 13) := ⟨⟨by decide +kernel, by decide +kernel⟩, List.mem_of_getElem? (i := 24) (by decide +kernel), List.mem_of_getElem? (i := 600) (by decide +kernel), List.mem_of_getElem? (i := 601) (by decide +kernel)⟩
theorem lw_p21 : lw_okq (⟨"ConsulDesk$Change", "tryWorth", "([IIII)V"⟩, 3) := ⟨⟨by decide +kernel, by decide +kernel⟩, List.mem_of_getElem? (i := 102) (by decide +kernel), List.mem_of_getElem? (i := 682) (by decide +kernel), List.mem_of_getElem? (i := 683) (by decide +kernel)⟩
theorem lw_p22 : lw_okq (⟨"ConsulDesk", "paperAt", "(I)LConsulDesk$Paper;"⟩, 13) := ⟨⟨by decide +kernel, by decide +kernel⟩, List.mem_of_getElem? (i := 24) (by decide +kernel), List.mem_of_getElem? (i := 710) (by decide +kernel), List.mem_of_getElem? (i := 711) (by decide +kernel)⟩
theorem lw_p23 : lw_okq (⟨"ConsulDesk", "isKnown", "(LConsulDesk$Paper;I)Z"⟩, 13) := ⟨⟨by decide +kernel, by decide +kernel⟩, List.mem_of_getElem? (i := 24) (by decide +kernel), List.mem_of_getElem? (i := 723) (by decide +kernel), List.mem_of_getElem? (i := 724) (by decide +kernel)⟩
theorem lw_p24 : lw_okq (⟨"ConsulDesk", "knownDay", "(LConsulDesk$Paper;)I"⟩, 13) := ⟨⟨by decide +kernel, by decide +kernel⟩, List.mem_of_getElem? (i := 24) (by decide +kernel), List.mem_of_getElem? (i := 727) (by decide +kernel), List.mem_of_getElem? (i := 728) (by decide +kernel)⟩
theorem lw_p25 : lw_okq (⟨"ConsulDesk", "isPast", "(I)Z"⟩, 13) := ⟨⟨by decide +kernel, by decide +kernel⟩, List.mem_of_getElem? (i := 24) (by decide +kernel), List.mem_of_getElem? (i := 746) (by decide +kernel), List.mem_of_getElem? (i := 747) (by decide +kernel)⟩
theorem lw_p26 : lw_okq (⟨"ConsulDesk", "isKnownOf", "(III)Z"⟩, 13) := ⟨⟨by decide +kernel, by decide +kernel⟩, List.mem_of_getElem? (i := 24) (by decide +kernel), List.mem_of_getElem? (i := 750) (by decide +kernel), List.mem_of_getElem? (i := 751) (by decide +kernel)⟩
theorem lw_p27 : lw_okq (⟨"ConsulDesk", "chargedFor", "(I)I"⟩, 13) := ⟨⟨by decide +kernel, by decide +kernel⟩, List.mem_of_getElem? (i := 24) (by decide +kernel), List.mem_of_getElem? (i := 758) (by decide +kernel), List.mem_of_getElem? (i := 759) (by decide +kernel)⟩
theorem lw_p28 : lw_okq (⟨"ConsulDesk", "homeFee", "(I)I"⟩, 13) := ⟨⟨by decide +kernel, by decide +kernel⟩, List.mem_of_getElem? (i := 24) (by decide +kernel), List.mem_of_getElem? (i := 766) (by decide +kernel), List.mem_of_getElem? (i := 767) (by decide +kernel)⟩
theorem lw_p29 : lw_okq (⟨"java/lang/Throwable", "fillInStackTrace", "(I)Ljava/lang/Throwable;"⟩, 6) := ⟨⟨by decide +kernel, by decide +kernel⟩, List.mem_of_getElem? (i := 828) (by decide +kernel), List.mem_of_getElem? (i := 826) (by decide +kernel), List.mem_of_getElem? (i := 827) (by decide +kernel)⟩
theorem lw_p30 : lw_okq (⟨"ConsulDeskModel", "refused", "(I)I"⟩, 50) := ⟨⟨by decide +kernel, by decide +kernel⟩, List.mem_of_getElem? (i := 786) (by decide +kernel), List.mem_of_getElem? (i := 1021) (by decide +kernel), List.mem_of_getElem? (i := 1022) (by decide +kernel)⟩
theorem lw_p31 : lw_okq (⟨"ConsulDeskModel", "sends", "(III)V"⟩, 50) := ⟨⟨by decide +kernel, by decide +kernel⟩, List.mem_of_getElem? (i := 786) (by decide +kernel), List.mem_of_getElem? (i := 1025) (by decide +kernel), List.mem_of_getElem? (i := 1026) (by decide +kernel)⟩
def lw_privs_2 : List (MethodName × Nat) := [(⟨"ConsulDesk", "portAt", "(I)LConsulDesk$Port;"⟩, 13), (⟨"ConsulDesk$Port", "accountsCome", "(I)I"⟩, 8), (⟨"ConsulDesk$Port", "isOut", "(II)Z"⟩, 8), (⟨"ConsulDesk$Port", "isAskOut", "(II)Z"⟩, 8), (⟨"ConsulDesk", "tariffAt", "(I)LConsulDesk$Tariff;"⟩, 13), (⟨"ConsulDesk$Change", "tryWorth", "([IIII)V"⟩, 3), (⟨"ConsulDesk", "paperAt", "(I)LConsulDesk$Paper;"⟩, 13), (⟨"ConsulDesk", "isKnown", "(LConsulDesk$Paper;I)Z"⟩, 13), (⟨"ConsulDesk", "knownDay", "(LConsulDesk$Paper;)I"⟩, 13), (⟨"ConsulDesk", "isPast", "(I)Z"⟩, 13), (⟨"ConsulDesk", "isKnownOf", "(III)Z"⟩, 13), (⟨"ConsulDesk", "chargedFor", "(I)I"⟩, 13), (⟨"ConsulDesk", "homeFee", "(I)I"⟩, 13), (⟨"java/lang/Throwable", "fillInStackTrace", "(I)Ljava/lang/Throwable;"⟩, 6), (⟨"ConsulDeskModel", "refused", "(I)I"⟩, 50), (⟨"ConsulDeskModel", "sends", "(III)V"⟩, 50)]
theorem lw_r2 : ∀ q ∈ lw_privs_2, lw_okq q := List.forall_mem_cons.mpr ⟨lw_p16, List.forall_mem_cons.mpr ⟨lw_p17, List.forall_mem_cons.mpr ⟨lw_p18, List.forall_mem_cons.mpr ⟨lw_p19, List.forall_mem_cons.mpr ⟨lw_p20, List.forall_mem_cons.mpr ⟨lw_p21, List.forall_mem_cons.mpr ⟨lw_p22, List.forall_mem_cons.mpr ⟨lw_p23, List.forall_mem_cons.mpr ⟨lw_p24, List.forall_mem_cons.mpr ⟨lw_p25, List.forall_mem_cons.mpr ⟨lw_p26, List.forall_mem_cons.mpr ⟨lw_p27, List.forall_mem_cons.mpr ⟨lw_p28, List.forall_mem_cons.mpr ⟨lw_p29, List.forall_mem_cons.mpr ⟨lw_p30, List.forall_mem_cons.mpr ⟨lw_p31, fun _ h => absurd h List.not_mem_nil⟩⟩⟩⟩⟩⟩⟩⟩⟩⟩⟩⟩⟩⟩⟩⟩
theorem lw_p32 : lw_okq (⟨"ConsulDeskModel", "done", "(I)I"⟩, 50) := ⟨⟨by decide +kernel, by decide +kernel⟩, List.mem_of_getElem? (i := 786) (by decide +kernel), List.mem_of_getElem? (i := 1030) (by decide +kernel), List.mem_of_getElem? (i := 1031) (by decide +kernel)⟩
theorem lw_p33 : lw_okq (⟨"ConsulDeskModel", "reads", "()V"⟩, 50) := ⟨⟨by decide +kernel, by decide +kernel⟩, List.mem_of_getElem? (i := 786) (by decide +kernel), List.mem_of_getElem? (i := 1042) (by decide +kernel), List.mem_of_getElem? (i := 1043) (by decide +kernel)⟩
theorem lw_p34 : lw_okq (⟨"ConsulDeskModel", "next", "()V"⟩, 50) := ⟨⟨by decide +kernel, by decide +kernel⟩, List.mem_of_getElem? (i := 786) (by decide +kernel), List.mem_of_getElem? (i := 1046) (by decide +kernel), List.mem_of_getElem? (i := 1047) (by decide +kernel)⟩
theorem lw_p35 : lw_okq (⟨"ConsulDeskModel", "byteAt", "(I)I"⟩, 50) := ⟨⟨by decide +kernel, by decide +kernel⟩, List.mem_of_getElem? (i := 786) (by decide +kernel), List.mem_of_getElem? (i := 1050) (by decide +kernel), List.mem_of_getElem? (i := 1051) (by decide +kernel)⟩
theorem lw_p36 : lw_okq (⟨"ConsulDeskModel", "isWord", "(Ljava/lang/String;)Z"⟩, 50) := ⟨⟨by decide +kernel, by decide +kernel⟩, List.mem_of_getElem? (i := 786) (by decide +kernel), List.mem_of_getElem? (i := 1062) (by decide +kernel), List.mem_of_getElem? (i := 1063) (by decide +kernel)⟩
theorem lw_p37 : lw_okq (⟨"ConsulDeskModel", "stop", "(I)LConsulDeskModel$Stop;"⟩, 50) := ⟨⟨by decide +kernel, by decide +kernel⟩, List.mem_of_getElem? (i := 786) (by decide +kernel), List.mem_of_getElem? (i := 1071) (by decide +kernel), List.mem_of_getElem? (i := 1072) (by decide +kernel)⟩
theorem lw_p38 : lw_okq (⟨"ConsulDeskModel", "readTest", "(I)V"⟩, 50) := ⟨⟨by decide +kernel, by decide +kernel⟩, List.mem_of_getElem? (i := 786) (by decide +kernel), List.mem_of_getElem? (i := 1076) (by decide +kernel), List.mem_of_getElem? (i := 1077) (by decide +kernel)⟩
theorem lw_p39 : lw_okq (⟨"ConsulDeskModel", "nameHere", "()I"⟩, 50) := ⟨⟨by decide +kernel, by decide +kernel⟩, List.mem_of_getElem? (i := 786) (by decide +kernel), List.mem_of_getElem? (i := 1080) (by decide +kernel), List.mem_of_getElem? (i := 1081) (by decide +kernel)⟩
theorem lw_p40 : lw_okq (⟨"ConsulDeskModel", "is", "(I)Z"⟩, 50) := ⟨⟨by decide +kernel, by decide +kernel⟩, List.mem_of_getElem? (i := 786) (by decide +kernel), List.mem_of_getElem? (i := 1090) (by decide +kernel), List.mem_of_getElem? (i := 1091) (by decide +kernel)⟩
theorem lw_p41 : lw_okq (⟨"ConsulDeskModel", "readTerm", "(I)V"⟩, 50) := ⟨⟨by decide +kernel, by decide +kernel⟩, List.mem_of_getElem? (i := 786) (by decide +kernel), List.mem_of_getElem? (i := 1094) (by decide +kernel), List.mem_of_getElem? (i := 1095) (by decide +kernel)⟩
theorem lw_p42 : lw_okq (⟨"ConsulDeskModel", "isPort", "(I)Z"⟩, 50) := ⟨⟨by decide +kernel, by decide +kernel⟩, List.mem_of_getElem? (i := 786) (by decide +kernel), List.mem_of_getElem? (i := 1110) (by decide +kernel), List.mem_of_getElem? (i := 1111) (by decide +kernel)⟩
theorem lw_p43 : lw_okq (⟨"ConsulDeskModel", "isTariff", "(I)Z"⟩, 50) := ⟨⟨by decide +kernel, by decide +kernel⟩, List.mem_of_getElem? (i := 786) (by decide +kernel), List.mem_of_getElem? (i := 1114) (by decide +kernel), List.mem_of_getElem? (i := 1115) (by decide +kernel)⟩
theorem lw_p44 : lw_okq (⟨"ConsulDeskModel", "hasCome", "(III)Z"⟩, 50) := ⟨⟨by decide +kernel, by decide +kernel⟩, List.mem_of_getElem? (i := 786) (by decide +kernel), List.mem_of_getElem? (i := 1118) (by decide +kernel), List.mem_of_getElem? (i := 1119) (by decide +kernel)⟩
theorem lw_p45 : lw_okq (⟨"ConsulDeskModel", "comes", "(II)I"⟩, 50) := ⟨⟨by decide +kernel, by decide +kernel⟩, List.mem_of_getElem? (i := 786) (by decide +kernel), List.mem_of_getElem? (i := 1122) (by decide +kernel), List.mem_of_getElem? (i := 1123) (by decide +kernel)⟩
theorem lw_p46 : lw_okq (⟨"ConsulDeskModel", "asks", "(II)V"⟩, 50) := ⟨⟨by decide +kernel, by decide +kernel⟩, List.mem_of_getElem? (i := 786) (by decide +kernel), List.mem_of_getElem? (i := 1130) (by decide +kernel), List.mem_of_getElem? (i := 1131) (by decide +kernel)⟩
theorem lw_p47 : lw_okq (⟨"ConsulDeskModel", "forceOf", "(I)I"⟩, 50) := ⟨⟨by decide +kernel, by decide +kernel⟩, List.mem_of_getElem? (i := 786) (by decide +kernel), List.mem_of_getElem? (i := 1138) (by decide +kernel), List.mem_of_getElem? (i := 1139) (by decide +kernel)⟩
def lw_privs_3 : List (MethodName × Nat) := [(⟨"ConsulDeskModel", "done", "(I)I"⟩, 50), (⟨"ConsulDeskModel", "reads", "()V"⟩, 50), (⟨"ConsulDeskModel", "next", "()V"⟩, 50), (⟨"ConsulDeskModel", "byteAt", "(I)I"⟩, 50), (⟨"ConsulDeskModel", "isWord", "(Ljava/lang/String;)Z"⟩, 50), (⟨"ConsulDeskModel", "stop", "(I)LConsulDeskModel$Stop;"⟩, 50), (⟨"ConsulDeskModel", "readTest", "(I)V"⟩, 50), (⟨"ConsulDeskModel", "nameHere", "()I"⟩, 50), (⟨"ConsulDeskModel", "is", "(I)Z"⟩, 50), (⟨"ConsulDeskModel", "readTerm", "(I)V"⟩, 50), (⟨"ConsulDeskModel", "isPort", "(I)Z"⟩, 50), (⟨"ConsulDeskModel", "isTariff", "(I)Z"⟩, 50), (⟨"ConsulDeskModel", "hasCome", "(III)Z"⟩, 50), (⟨"ConsulDeskModel", "comes", "(II)I"⟩, 50), (⟨"ConsulDeskModel", "asks", "(II)V"⟩, 50), (⟨"ConsulDeskModel", "forceOf", "(I)I"⟩, 50)]
theorem lw_r3 : ∀ q ∈ lw_privs_3, lw_okq q := List.forall_mem_cons.mpr ⟨lw_p32, List.forall_mem_cons.mpr ⟨lw_p33, List.forall_mem_cons.mpr ⟨lw_p34, List.forall_mem_cons.mpr ⟨lw_p35, List.forall_mem_cons.mpr ⟨lw_p36, List.forall_mem_cons.mpr ⟨lw_p37, List.forall_mem_cons.mpr ⟨lw_p38, List.forall_mem_cons.mpr ⟨lw_p39, List.forall_mem_cons.mpr ⟨lw_p40, List.forall_mem_cons.mpr ⟨lw_p41, List.forall_mem_cons.mpr ⟨lw_p42, List.forall_mem_cons.mpr ⟨lw_p43, List.forall_mem_cons.mpr ⟨lw_p44, List.forall_mem_cons.mpr ⟨lw_p45, List.forall_mem_cons.mpr ⟨lw_p46, List.forall_mem_cons.mpr ⟨lw_p47, fun _ h => absurd h List.not_mem_nil⟩⟩⟩⟩⟩⟩⟩⟩⟩⟩⟩⟩⟩⟩⟩⟩
theorem lw_p48 : lw_okq (⟨"ConsulDeskModel", "feeOf", "(IIIIII)I"⟩, 50) := ⟨⟨by decide +kernel, by decide +kernel⟩, List.mem_of_getElem? (i := 786) (by decide +kernel), List.mem_of_getElem? (i := 1165) (by decide +kernel), List.mem_of_getElem? (i := 1166) (by decide +kernel)⟩
theorem lw_p49 : lw_okq (⟨"ConsulDeskModel", "chooses", "(II)Z"⟩, 50) := ⟨⟨by decide +kernel, by decide +kernel⟩, List.mem_of_getElem? (i := 786) (by decide +kernel), List.mem_of_getElem? (i := 1177) (by decide +kernel), List.mem_of_getElem? (i := 1178) (by decide +kernel)⟩
theorem lw_p50 : lw_okq (⟨"ConsulDeskModel", "homeOf", "(I)I"⟩, 50) := ⟨⟨by decide +kernel, by decide +kernel⟩, List.mem_of_getElem? (i := 786) (by decide +kernel), List.mem_of_getElem? (i := 1198) (by decide +kernel), List.mem_of_getElem? (i := 1199) (by decide +kernel)⟩
theorem lw_p51 : lw_okq (⟨"ConsulDeskModel", "homesFee", "(I)I"⟩, 50) := ⟨⟨by decide +kernel, by decide +kernel⟩, List.mem_of_getElem? (i := 786) (by decide +kernel), List.mem_of_getElem? (i := 1222) (by decide +kernel), List.mem_of_getElem? (i := 1223) (by decide +kernel)⟩
def lw_privs_4 : List (MethodName × Nat) := [(⟨"ConsulDeskModel", "feeOf", "(IIIIII)I"⟩, 50), (⟨"ConsulDeskModel", "chooses", "(II)Z"⟩, 50), (⟨"ConsulDeskModel", "homeOf", "(I)I"⟩, 50), (⟨"ConsulDeskModel", "homesFee", "(I)I"⟩, 50)]
theorem lw_r4 : ∀ q ∈ lw_privs_4, lw_okq q := List.forall_mem_cons.mpr ⟨lw_p48, List.forall_mem_cons.mpr ⟨lw_p49, List.forall_mem_cons.mpr ⟨lw_p50, List.forall_mem_cons.mpr ⟨lw_p51, fun _ h => absurd h List.not_mem_nil⟩⟩⟩⟩
def lw_privs : List (MethodName × Nat) := lw_privs_1 ++ (lw_privs_2 ++ (lw_privs_3 ++ (lw_privs_4)))
def lw_tbl : List Cond := k2_sels lw_privs ++ tables_1
theorem lw_privs_ok : ∀ q ∈ lw_privs, lw_okq q := by
  show ∀ q ∈ lw_privs_1 ++ (lw_privs_2 ++ (lw_privs_3 ++ (lw_privs_4))), lw_okq q
  exact List.forall_mem_append.mpr ⟨lw_r1, List.forall_mem_append.mpr ⟨lw_r2, List.forall_mem_append.mpr ⟨lw_r3, lw_r4⟩⟩⟩

/-- the words of the tables that every method may lean on -/
def gt_ws : List Cond := lw_tbl.filter goodWord
theorem gt_good : ∀ w ∈ gt_ws, goodWord w = true := fun w h => (List.mem_filter.mp h).2
theorem gt_tbl : ∀ w ∈ gt_ws, w ∈ lw_tbl := fun w h => (List.mem_filter.mp h).1
theorem gt_of {w : Cond} (n : Nat) (h : tables_1[n]? = some w) (g : goodWord w = true) : w ∈ gt_ws := List.mem_filter.mpr ⟨List.mem_append_right _ (List.mem_of_getElem? h), g⟩
theorem gt_sel {w : Cond} (n : Nat) (h : (k2_sels lw_privs)[n]? = some w) (g : goodWord w = true) : w ∈ gt_ws := List.mem_filter.mpr ⟨List.mem_append_left _ (List.mem_of_getElem? h), g⟩
end
section
def RX0 : String := "ConsulDesk$Change"
def TX0 : u_T := fun k => match k with
  | 0 => ("ConsulDesk$Change", "tried", "[I", true)
  | 1 => ("ConsulDesk$Change", "best", "[I", false)
  | _ => ("ConsulDesk$Change", "bestMany", "I", false)
def tyX0 : Nat → FieldType := fun k => match k with
  | 0 => .array .int
  | 1 => .array .int
  | _ => .int
theorem nmX0 : ∀ a, a < 3 → ∀ b, b < 3 → a ≠ b → (TX0 a).2.1 ≠ (TX0 b).2.1 := by decide +kernel
theorem tyX0_ok : ∀ k, k < 3 → parseFieldDescriptor (TX0 k).2.2.1 = some (tyX0 k) := by decide +kernel
abbrev cX0_init : ByteArray := prog_2_method_1_code
def yX0_init : MethodName := ⟨RX0, "<init>", "()V"⟩
abbrev cX0_fewest : ByteArray := prog_2_method_2_code
def yX0_fewest : MethodName := ⟨RX0, "fewest", "([II)[I"⟩
abbrev cX0_tryWorth : ByteArray := prog_2_method_3_code
def yX0_tryWorth : MethodName := ⟨RX0, "tryWorth", "([IIII)V"⟩
def RX1 : String := "ConsulDesk$Line"
def TX1 : u_T := fun k => match k with
  | 0 => ("ConsulDesk$Line", "kind", "I", true)
  | 1 => ("ConsulDesk$Line", "tests", "[LConsulDesk$Test;", true)
  | _ => ("ConsulDesk$Line", "terms", "[LConsulDesk$Term;", true)
def tyX1 : Nat → FieldType := fun k => match k with
  | 0 => .int
  | 1 => .array (.object "ConsulDesk$Test")
  | _ => .array (.object "ConsulDesk$Term")
theorem nmX1 : ∀ a, a < 3 → ∀ b, b < 3 → a ≠ b → (TX1 a).2.1 ≠ (TX1 b).2.1 := by decide +kernel
theorem tyX1_ok : ∀ k, k < 3 → parseFieldDescriptor (TX1 k).2.2.1 = some (tyX1 k) := by decide +kernel
abbrev cX1_init : ByteArray := prog_3_method_1_code
def yX1_init : MethodName := ⟨RX1, "<init>", "(I)V"⟩
abbrev cX1_fits : ByteArray := prog_3_method_2_code
def yX1_fits : MethodName := ⟨RX1, "fits", "(LConsulDesk$Paper;)Z"⟩
abbrev cX1_total : ByteArray := prog_3_method_3_code
def yX1_total : MethodName := ⟨RX1, "total", "(LConsulDesk$Paper;)I"⟩
def RX2 : String := "ConsulDesk$Paper"
def TX2 : u_T := fun k => match k with
  | 0 => ("ConsulDesk$Paper", "port", "I", true)
  | 1 => ("ConsulDesk$Paper", "kind", "I", true)
  | 2 => ("ConsulDesk$Paper", "value", "I", true)
  | 3 => ("ConsulDesk$Paper", "sheets", "I", true)
  | 4 => ("ConsulDesk$Paper", "ahead", "I", true)
  | 5 => ("ConsulDesk$Paper", "day", "I", false)
  | 6 => ("ConsulDesk$Paper", "charged", "I", false)
  | 7 => ("ConsulDesk$Paper", "tariff", "I", false)
  | _ => ("ConsulDesk$Paper", "taken", "[I", false)
def tyX2 : Nat → FieldType := fun k => match k with
  | 0 => .int
  | 1 => .int
  | 2 => .int
  | 3 => .int
  | 4 => .int
  | 5 => .int
  | 6 => .int
  | 7 => .int
  | _ => .array .int
theorem nmX2 : ∀ a, a < 9 → ∀ b, b < 9 → a ≠ b → (TX2 a).2.1 ≠ (TX2 b).2.1 := by decide +kernel
theorem tyX2_ok : ∀ k, k < 9 → parseFieldDescriptor (TX2 k).2.2.1 = some (tyX2 k) := by decide +kernel
abbrev cX2_init : ByteArray := prog_4_method_1_code
def yX2_init : MethodName := ⟨RX2, "<init>", "(IIIII)V"⟩
abbrev cX2_charge : ByteArray := prog_4_method_2_code
def yX2_charge : MethodName := ⟨RX2, "charge", "(III[I)V"⟩
abbrev cX2_measure : ByteArray := prog_4_method_3_code
def yX2_measure : MethodName := ⟨RX2, "measure", "(I)I"⟩
abbrev cX2_stampsOf : ByteArray := prog_4_method_4_code
def yX2_stampsOf : MethodName := ⟨RX2, "stampsOf", "(I)I"⟩
abbrev cX2_allStamps : ByteArray := prog_4_method_5_code
def yX2_allStamps : MethodName := ⟨RX2, "allStamps", "()I"⟩
def RX3 : String := "ConsulDesk$Port"
def TX3 : u_T := fun k => match k with
  | 0 => ("ConsulDesk$Port", "days", "I", true)
  | 1 => ("ConsulDesk$Port", "opened", "I", true)
  | 2 => ("ConsulDesk$Port", "stock", "[I", true)
  | 3 => ("ConsulDesk$Port", "firstDays", "[I", true)
  | 4 => ("ConsulDesk$Port", "losses", "[Z", true)
  | 5 => ("ConsulDesk$Port", "sent", "I", false)
  | 6 => ("ConsulDesk$Port", "chest", "I", false)
  | _ => ("ConsulDesk$Port", "papers", "I", false)
def tyX3 : Nat → FieldType := fun k => match k with
  | 0 => .int
  | 1 => .int
  | 2 => .array .int
  | 3 => .array .int
  | 4 => .array .boolean
  | 5 => .int
  | 6 => .int
  | _ => .int
theorem nmX3 : ∀ a, a < 8 → ∀ b, b < 8 → a ≠ b → (TX3 a).2.1 ≠ (TX3 b).2.1 := by decide +kernel
theorem tyX3_ok : ∀ k, k < 8 → parseFieldDescriptor (TX3 k).2.2.1 = some (tyX3 k) := by decide +kernel
abbrev cX3_init : ByteArray := prog_5_method_1_code
def yX3_init : MethodName := ⟨RX3, "<init>", "(II)V"⟩
abbrev cX3_send : ByteArray := prog_5_method_2_code
def yX3_send : MethodName := ⟨RX3, "send", "(I)V"⟩
abbrev cX3_wasSent : ByteArray := prog_5_method_3_code
def yX3_wasSent : MethodName := ⟨RX3, "wasSent", "(I)Z"⟩
abbrev cX3_lose : ByteArray := prog_5_method_4_code
def yX3_lose : MethodName := ⟨RX3, "lose", "(II)Z"⟩
abbrev cX3_askDay : ByteArray := prog_5_method_5_code
def yX3_askDay : MethodName := ⟨RX3, "askDay", "(II)I"⟩
abbrev cX3_comeDay : ByteArray := prog_5_method_6_code
def yX3_comeDay : MethodName := ⟨RX3, "comeDay", "(II)I"⟩
abbrev cX3_inForce : ByteArray := prog_5_method_7_code
def yX3_inForce : MethodName := ⟨RX3, "inForce", "(I)I"⟩
abbrev cX3_onTheWay : ByteArray := prog_5_method_8_code
def yX3_onTheWay : MethodName := ⟨RX3, "onTheWay", "(II)I"⟩
abbrev cX3_isOut : ByteArray := prog_5_method_9_code
def yX3_isOut : MethodName := ⟨RX3, "isOut", "(II)Z"⟩
abbrev cX3_isAskOut : ByteArray := prog_5_method_10_code
def yX3_isAskOut : MethodName := ⟨RX3, "isAskOut", "(II)Z"⟩
abbrev cX3_accountsSent : ByteArray := prog_5_method_11_code
def yX3_accountsSent : MethodName := ⟨RX3, "accountsSent", "(I)I"⟩
abbrev cX3_accountsCome : ByteArray := prog_5_method_12_code
def yX3_accountsCome : MethodName := ⟨RX3, "accountsCome", "(I)I"⟩
abbrev cX3_stampsOf : ByteArray := prog_5_method_13_code
def yX3_stampsOf : MethodName := ⟨RX3, "stampsOf", "(I)I"⟩
abbrev cX3_addStamps : ByteArray := prog_5_method_14_code
def yX3_addStamps : MethodName := ⟨RX3, "addStamps", "(II)V"⟩
abbrev cX3_book : ByteArray := prog_5_method_15_code
def yX3_book : MethodName := ⟨RX3, "book", "(I[I)V"⟩
def RX4 : String := "ConsulDesk$Reader"
def TX4 : u_T := fun k => match k with
  | 0 => ("ConsulDesk$Reader", "fault", "I", false)
  | 1 => ("ConsulDesk$Reader", "place", "I", false)
  | 2 => ("ConsulDesk$Reader", "tokens", "LConsulDesk$Tokens;", true)
  | 3 => ("ConsulDesk$Reader", "next", "I", false)
  | 4 => ("ConsulDesk$Reader", "kind", "I", false)
  | _ => ("ConsulDesk$Reader", "number", "I", false)
def tyX4 : Nat → FieldType := fun k => match k with
  | 0 => .int
  | 1 => .int
  | 2 => .object "ConsulDesk$Tokens"
  | 3 => .int
  | 4 => .int
  | _ => .int
theorem nmX4 : ∀ a, a < 6 → ∀ b, b < 6 → a ≠ b → (TX4 a).2.1 ≠ (TX4 b).2.1 := by decide +kernel
theorem tyX4_ok : ∀ k, k < 6 → parseFieldDescriptor (TX4 k).2.2.1 = some (tyX4 k) := by decide +kernel
abbrev cX4_init : ByteArray := prog_6_method_1_code
def yX4_init : MethodName := ⟨RX4, "<init>", "(LConsulDesk$Tokens;)V"⟩
abbrev cX4_read : ByteArray := prog_6_method_2_code
def yX4_read : MethodName := ⟨RX4, "read", "()[LConsulDesk$Line;"⟩
abbrev cX4_readLine : ByteArray := prog_6_method_3_code
def yX4_readLine : MethodName := ⟨RX4, "readLine", "(I)LConsulDesk$Line;"⟩
abbrev cX4_readTests : ByteArray := prog_6_method_4_code
def yX4_readTests : MethodName := ⟨RX4, "readTests", "(LConsulDesk$Line;)V"⟩
abbrev cX4_readTest : ByteArray := prog_6_method_5_code
def yX4_readTest : MethodName := ⟨RX4, "readTest", "(I)LConsulDesk$Test;"⟩
abbrev cX4_readTerms : ByteArray := prog_6_method_6_code
def yX4_readTerms : MethodName := ⟨RX4, "readTerms", "(LConsulDesk$Line;)V"⟩
abbrev cX4_readTerm : ByteArray := prog_6_method_7_code
def yX4_readTerm : MethodName := ⟨RX4, "readTerm", "(I)LConsulDesk$Term;"⟩
abbrev cX4_needName : ByteArray := prog_6_method_8_code
def yX4_needName : MethodName := ⟨RX4, "needName", "()I"⟩
abbrev cX4_need : ByteArray := prog_6_method_9_code
def yX4_need : MethodName := ⟨RX4, "need", "(I)I"⟩
abbrev cX4_skip : ByteArray := prog_6_method_10_code
def yX4_skip : MethodName := ⟨RX4, "skip", "(I)Z"⟩
abbrev cX4_blame : ByteArray := prog_6_method_11_code
def yX4_blame : MethodName := ⟨RX4, "blame", "(I)V"⟩
abbrev cX4_isName : ByteArray := prog_6_method_12_code
def yX4_isName : MethodName := ⟨RX4, "isName", "(I)Z"⟩
def RX5 : String := "ConsulDesk$Tape"
def TX5 : u_T := fun k => match k with
  | 0 => ("ConsulDesk$Tape", "bytes", "[I", true)
  | _ => ("ConsulDesk$Tape", "length", "I", false)
def tyX5 : Nat → FieldType := fun k => match k with
  | 0 => .array .int
  | _ => .int
theorem nmX5 : ∀ a, a < 2 → ∀ b, b < 2 → a ≠ b → (TX5 a).2.1 ≠ (TX5 b).2.1 := by decide +kernel
theorem tyX5_ok : ∀ k, k < 2 → parseFieldDescriptor (TX5 k).2.2.1 = some (tyX5 k) := by decide +kernel
abbrev cX5_init : ByteArray := prog_7_method_1_code
def yX5_init : MethodName := ⟨RX5, "<init>", "()V"⟩
abbrev cX5_add : ByteArray := prog_7_method_2_code
def yX5_add : MethodName := ⟨RX5, "add", "(I)V"⟩
abbrev cX5_clear : ByteArray := prog_7_method_3_code
def yX5_clear : MethodName := ⟨RX5, "clear", "()V"⟩
abbrev cX5_at : ByteArray := prog_7_method_4_code
def yX5_at : MethodName := ⟨RX5, "at", "(I)I"⟩
def RX6 : String := "ConsulDesk$Tariff"
def TX6 : u_T := fun k => match k with
  | 0 => ("ConsulDesk$Tariff", "day", "I", true)
  | _ => ("ConsulDesk$Tariff", "lines", "[LConsulDesk$Line;", true)
def tyX6 : Nat → FieldType := fun k => match k with
  | 0 => .int
  | _ => .array (.object "ConsulDesk$Line")
theorem nmX6 : ∀ a, a < 2 → ∀ b, b < 2 → a ≠ b → (TX6 a).2.1 ≠ (TX6 b).2.1 := by decide +kernel
theorem tyX6_ok : ∀ k, k < 2 → parseFieldDescriptor (TX6 k).2.2.1 = some (tyX6 k) := by decide +kernel
abbrev cX6_init : ByteArray := prog_8_method_1_code
def yX6_init : MethodName := ⟨RX6, "<init>", "(I[LConsulDesk$Line;)V"⟩
abbrev cX6_feeOf : ByteArray := prog_8_method_2_code
def yX6_feeOf : MethodName := ⟨RX6, "feeOf", "(LConsulDesk$Paper;)I"⟩
def RX7 : String := "ConsulDesk$Term"
def TX7 : u_T := fun k => match k with
  | 0 => ("ConsulDesk$Term", "factor", "I", true)
  | 1 => ("ConsulDesk$Term", "name", "I", true)
  | _ => ("ConsulDesk$Term", "divisor", "I", true)
def tyX7 : Nat → FieldType := fun k => match k with
  | 0 => .int
  | 1 => .int
  | _ => .int
theorem nmX7 : ∀ a, a < 3 → ∀ b, b < 3 → a ≠ b → (TX7 a).2.1 ≠ (TX7 b).2.1 := by decide +kernel
theorem tyX7_ok : ∀ k, k < 3 → parseFieldDescriptor (TX7 k).2.2.1 = some (tyX7 k) := by decide +kernel
abbrev cX7_init : ByteArray := prog_9_method_1_code
def yX7_init : MethodName := ⟨RX7, "<init>", "(III)V"⟩
abbrev cX7_amount : ByteArray := prog_9_method_2_code
def yX7_amount : MethodName := ⟨RX7, "amount", "(LConsulDesk$Paper;)I"⟩
def RX8 : String := "ConsulDesk$Test"
def TX8 : u_T := fun k => match k with
  | 0 => ("ConsulDesk$Test", "name", "I", true)
  | 1 => ("ConsulDesk$Test", "sign", "I", true)
  | _ => ("ConsulDesk$Test", "number", "I", true)
def tyX8 : Nat → FieldType := fun k => match k with
  | 0 => .int
  | 1 => .int
  | _ => .int
theorem nmX8 : ∀ a, a < 3 → ∀ b, b < 3 → a ≠ b → (TX8 a).2.1 ≠ (TX8 b).2.1 := by decide +kernel
theorem tyX8_ok : ∀ k, k < 3 → parseFieldDescriptor (TX8 k).2.2.1 = some (tyX8 k) := by decide +kernel
abbrev cX8_init : ByteArray := prog_10_method_1_code
def yX8_init : MethodName := ⟨RX8, "<init>", "(III)V"⟩
abbrev cX8_holds : ByteArray := prog_10_method_2_code
def yX8_holds : MethodName := ⟨RX8, "holds", "(LConsulDesk$Paper;)Z"⟩
def RX9 : String := "ConsulDesk$Tokens"
def TX9 : u_T := fun k => match k with
  | 0 => ("ConsulDesk$Tokens", "kinds", "[I", true)
  | 1 => ("ConsulDesk$Tokens", "places", "[I", true)
  | 2 => ("ConsulDesk$Tokens", "numbers", "[I", true)
  | _ => ("ConsulDesk$Tokens", "many", "I", false)
def tyX9 : Nat → FieldType := fun k => match k with
  | 0 => .array .int
  | 1 => .array .int
  | 2 => .array .int
  | _ => .int
theorem nmX9 : ∀ a, a < 4 → ∀ b, b < 4 → a ≠ b → (TX9 a).2.1 ≠ (TX9 b).2.1 := by decide +kernel
theorem tyX9_ok : ∀ k, k < 4 → parseFieldDescriptor (TX9 k).2.2.1 = some (tyX9 k) := by decide +kernel
abbrev cX9_init : ByteArray := prog_11_method_1_code
def yX9_init : MethodName := ⟨RX9, "<init>", "()V"⟩
abbrev cX9_cut : ByteArray := prog_11_method_2_code
def yX9_cut : MethodName := ⟨RX9, "cut", "(LConsulDesk$Tape;I)V"⟩
abbrev cX9_cutOne : ByteArray := prog_11_method_3_code
def yX9_cutOne : MethodName := ⟨RX9, "cutOne", "(LConsulDesk$Tape;II)I"⟩
abbrev cX9_cutWord : ByteArray := prog_11_method_4_code
def yX9_cutWord : MethodName := ⟨RX9, "cutWord", "(LConsulDesk$Tape;II)I"⟩
abbrev cX9_cutNumber : ByteArray := prog_11_method_5_code
def yX9_cutNumber : MethodName := ⟨RX9, "cutNumber", "(LConsulDesk$Tape;II)I"⟩
abbrev cX9_put : ByteArray := prog_11_method_6_code
def yX9_put : MethodName := ⟨RX9, "put", "(III)V"⟩
abbrev cX9_isLetter : ByteArray := prog_11_method_7_code
def yX9_isLetter : MethodName := ⟨RX9, "isLetter", "(I)Z"⟩
abbrev cX9_isDigit : ByteArray := prog_11_method_8_code
def yX9_isDigit : MethodName := ⟨RX9, "isDigit", "(I)Z"⟩
abbrev cX9_wordKind : ByteArray := prog_11_method_9_code
def yX9_wordKind : MethodName := ⟨RX9, "wordKind", "(LConsulDesk$Tape;II)I"⟩
abbrev cX9_isWord : ByteArray := prog_11_method_10_code
def yX9_isWord : MethodName := ⟨RX9, "isWord", "(LConsulDesk$Tape;IILjava/lang/String;)Z"⟩
def RX10 : String := "ConsulDesk"
def TX10 : u_T := fun k => match k with
  | 0 => ("ConsulDesk", "ports", "[LConsulDesk$Port;", true)
  | 1 => ("ConsulDesk", "tariffs", "[LConsulDesk$Tariff;", true)
  | 2 => ("ConsulDesk", "papers", "[LConsulDesk$Paper;", true)
  | 3 => ("ConsulDesk", "tape", "LConsulDesk$Tape;", true)
  | 4 => ("ConsulDesk", "tokens", "LConsulDesk$Tokens;", true)
  | 5 => ("ConsulDesk", "reader", "LConsulDesk$Reader;", true)
  | 6 => ("ConsulDesk", "change", "LConsulDesk$Change;", true)
  | 7 => ("ConsulDesk", "portCount", "I", false)
  | 8 => ("ConsulDesk", "tariffCount", "I", false)
  | 9 => ("ConsulDesk", "paperCount", "I", false)
  | 10 => ("ConsulDesk", "today", "I", false)
  | 11 => ("ConsulDesk", "lastTrouble", "I", false)
  | _ => ("ConsulDesk", "lastFault", "I", false)
def tyX10 : Nat → FieldType := fun k => match k with
  | 0 => .array (.object "ConsulDesk$Port")
  | 1 => .array (.object "ConsulDesk$Tariff")
  | 2 => .array (.object "ConsulDesk$Paper")
  | 3 => .object "ConsulDesk$Tape"
  | 4 => .object "ConsulDesk$Tokens"
  | 5 => .object "ConsulDesk$Reader"
  | 6 => .object "ConsulDesk$Change"
  | 7 => .int
  | 8 => .int
  | 9 => .int
  | 10 => .int
  | 11 => .int
  | _ => .int
theorem nmX10 : ∀ a, a < 13 → ∀ b, b < 13 → a ≠ b → (TX10 a).2.1 ≠ (TX10 b).2.1 := by decide +kernel
theorem tyX10_ok : ∀ k, k < 13 → parseFieldDescriptor (TX10 k).2.2.1 = some (tyX10 k) := by decide +kernel
abbrev cX10_init : ByteArray := prog_1_method_1_code
def yX10_init : MethodName := ⟨RX10, "<init>", "()V"⟩
abbrev cX10_port : ByteArray := prog_1_method_2_code
def yX10_port : MethodName := ⟨RX10, "port", "(I)I"⟩
abbrev cX10_feed : ByteArray := prog_1_method_3_code
def yX10_feed : MethodName := ⟨RX10, "feed", "(IIIII)I"⟩
abbrev cX10_tariff : ByteArray := prog_1_method_4_code
def yX10_tariff : MethodName := ⟨RX10, "tariff", "(I)I"⟩
abbrev cX10_fault : ByteArray := prog_1_method_5_code
def yX10_fault : MethodName := ⟨RX10, "fault", "()I"⟩
abbrev cX10_where : ByteArray := prog_1_method_6_code
def yX10_where : MethodName := ⟨RX10, "where", "()I"⟩
abbrev cX10_lost : ByteArray := prog_1_method_7_code
def yX10_lost : MethodName := ⟨RX10, "lost", "(II)Z"⟩
abbrev cX10_pass : ByteArray := prog_1_method_8_code
def yX10_pass : MethodName := ⟨RX10, "pass", "(I)I"⟩
abbrev cX10_force : ByteArray := prog_1_method_9_code
def yX10_force : MethodName := ⟨RX10, "force", "(I)I"⟩
abbrev cX10_came : ByteArray := prog_1_method_10_code
def yX10_came : MethodName := ⟨RX10, "came", "(II)I"⟩
abbrev cX10_asked : ByteArray := prog_1_method_11_code
def yX10_asked : MethodName := ⟨RX10, "asked", "(II)I"⟩
abbrev cX10_under : ByteArray := prog_1_method_12_code
def yX10_under : MethodName := ⟨RX10, "under", "(I)I"⟩
abbrev cX10_stock : ByteArray := prog_1_method_13_code
def yX10_stock : MethodName := ⟨RX10, "stock", "(III)I"⟩
abbrev cX10_fee : ByteArray := prog_1_method_14_code
def yX10_fee : MethodName := ⟨RX10, "fee", "(IIIII)I"⟩
abbrev cX10_seal : ByteArray := prog_1_method_15_code
def yX10_seal : MethodName := ⟨RX10, "seal", "(IIII)I"⟩
abbrev cX10_paper : ByteArray := prog_1_method_16_code
def yX10_paper : MethodName := ⟨RX10, "paper", "(II)I"⟩
abbrev cX10_stamps : ByteArray := prog_1_method_17_code
def yX10_stamps : MethodName := ⟨RX10, "stamps", "(II)I"⟩
abbrev cX10_about : ByteArray := prog_1_method_18_code
def yX10_about : MethodName := ⟨RX10, "about", "(II)I"⟩
abbrev cX10_known : ByteArray := prog_1_method_19_code
def yX10_known : MethodName := ⟨RX10, "known", "(II)I"⟩
abbrev cX10_sum : ByteArray := prog_1_method_20_code
def yX10_sum : MethodName := ⟨RX10, "sum", "(II)I"⟩
abbrev cX10_homes : ByteArray := prog_1_method_21_code
def yX10_homes : MethodName := ⟨RX10, "homes", "(I)I"⟩
abbrev cX10_difference : ByteArray := prog_1_method_22_code
def yX10_difference : MethodName := ⟨RX10, "difference", "(I)I"⟩
abbrev cX10_unlike : ByteArray := prog_1_method_23_code
def yX10_unlike : MethodName := ⟨RX10, "unlike", "(I)I"⟩
abbrev cX10_count : ByteArray := prog_1_method_24_code
def yX10_count : MethodName := ⟨RX10, "count", "(I)I"⟩
abbrev cX10_trouble : ByteArray := prog_1_method_25_code
def yX10_trouble : MethodName := ⟨RX10, "trouble", "()I"⟩
abbrev cX10_refuse : ByteArray := prog_1_method_26_code
def yX10_refuse : MethodName := ⟨RX10, "refuse", "(I)I"⟩
abbrev cX10_accept : ByteArray := prog_1_method_27_code
def yX10_accept : MethodName := ⟨RX10, "accept", "(I)I"⟩
abbrev cX10_portAt : ByteArray := prog_1_method_28_code
def yX10_portAt : MethodName := ⟨RX10, "portAt", "(I)LConsulDesk$Port;"⟩
abbrev cX10_tariffAt : ByteArray := prog_1_method_29_code
def yX10_tariffAt : MethodName := ⟨RX10, "tariffAt", "(I)LConsulDesk$Tariff;"⟩
abbrev cX10_paperAt : ByteArray := prog_1_method_30_code
def yX10_paperAt : MethodName := ⟨RX10, "paperAt", "(I)LConsulDesk$Paper;"⟩
abbrev cX10_isWorth : ByteArray := prog_1_method_31_code
def yX10_isWorth : MethodName := ⟨RX10, "isWorth", "(I)Z"⟩
abbrev cX10_isPaper : ByteArray := prog_1_method_32_code
def yX10_isPaper : MethodName := ⟨RX10, "isPaper", "(III)Z"⟩
abbrev cX10_isPast : ByteArray := prog_1_method_33_code
def yX10_isPast : MethodName := ⟨RX10, "isPast", "(I)Z"⟩
abbrev cX10_sendOut : ByteArray := prog_1_method_34_code
def yX10_sendOut : MethodName := ⟨RX10, "sendOut", "()V"⟩
abbrev cX10_knownDay : ByteArray := prog_1_method_35_code
def yX10_knownDay : MethodName := ⟨RX10, "knownDay", "(LConsulDesk$Paper;)I"⟩
abbrev cX10_isKnown : ByteArray := prog_1_method_36_code
def yX10_isKnown : MethodName := ⟨RX10, "isKnown", "(LConsulDesk$Paper;I)Z"⟩
abbrev cX10_isKnownOf : ByteArray := prog_1_method_37_code
def yX10_isKnownOf : MethodName := ⟨RX10, "isKnownOf", "(III)Z"⟩
abbrev cX10_chargedFor : ByteArray := prog_1_method_38_code
def yX10_chargedFor : MethodName := ⟨RX10, "chargedFor", "(I)I"⟩
abbrev cX10_homeFee : ByteArray := prog_1_method_39_code
def yX10_homeFee : MethodName := ⟨RX10, "homeFee", "(I)I"⟩
abbrev cX10_accountsBelow : ByteArray := prog_1_method_40_code
def yX10_accountsBelow : MethodName := ⟨RX10, "accountsBelow", "(I)I"⟩
def RX11 : String := "ConsulDeskModel$Stop"
def TX11 : u_T := fun k => match k with
  | 0 => ("java/lang/Throwable", "cause", "Ljava/lang/Throwable;", false)
  | 1 => ("java/lang/Throwable", "stackTrace", "[Ljava/lang/StackTraceElement;", false)
  | 2 => ("java/lang/Throwable", "suppressedExceptions", "Ljava/util/List;", false)
  | 3 => ("java/lang/Throwable", "detailMessage", "Ljava/lang/String;", false)
  | 4 => ("java/lang/Throwable", "backtrace", "Ljava/lang/Object;", false)
  | 5 => ("java/lang/Throwable", "depth", "I", false)
  | 6 => ("ConsulDeskModel$Stop", "kind", "I", false)
  | _ => ("ConsulDeskModel$Stop", "place", "I", false)
def tyX11 : Nat → FieldType := fun k => match k with
  | 0 => .object "java/lang/Throwable"
  | 1 => .array (.object "java/lang/StackTraceElement")
  | 2 => .object "java/util/List"
  | 3 => .object "java/lang/String"
  | 4 => .object "java/lang/Object"
  | 5 => .int
  | 6 => .int
  | _ => .int
theorem nmX11 : ∀ a, a < 8 → ∀ b, b < 8 → a ≠ b → (TX11 a).2.1 ≠ (TX11 b).2.1 := by decide +kernel
theorem tyX11_ok : ∀ k, k < 8 → parseFieldDescriptor (TX11 k).2.2.1 = some (tyX11 k) := by decide +kernel
abbrev cX11_init : ByteArray := prog_14_method_1_code
def yX11_init : MethodName := ⟨RX11, "<init>", "()V"⟩
def RX12 : String := "ConsulDeskModel"
def TX12 : u_T := fun k => match k with
  | 0 => ("ConsulDeskModel", "thrown", "I", false)
  | 1 => ("ConsulDeskModel", "trouble", "I", false)
  | 2 => ("ConsulDeskModel", "where", "I", false)
  | 3 => ("ConsulDeskModel", "fault", "I", false)
  | 4 => ("ConsulDeskModel", "stop", "LConsulDeskModel$Stop;", true)
  | 5 => ("ConsulDeskModel", "tape", "[B", true)
  | 6 => ("ConsulDeskModel", "taped", "I", false)
  | 7 => ("ConsulDeskModel", "size", "I", false)
  | 8 => ("ConsulDeskModel", "at", "I", false)
  | 9 => ("ConsulDeskModel", "sort", "I", false)
  | 10 => ("ConsulDeskModel", "place", "I", false)
  | 11 => ("ConsulDeskModel", "sign", "I", false)
  | 12 => ("ConsulDeskModel", "number", "I", false)
  | 13 => ("ConsulDeskModel", "word", "J", false)
  | 14 => ("ConsulDeskModel", "tariffs", "I", false)
  | 15 => ("ConsulDeskModel", "told", "[I", true)
  | 16 => ("ConsulDeskModel", "lines", "[I", true)
  | 17 => ("ConsulDeskModel", "kind", "[I", true)
  | 18 => ("ConsulDeskModel", "tests", "[I", true)
  | 19 => ("ConsulDeskModel", "terms", "[I", true)
  | 20 => ("ConsulDeskModel", "testName", "[I", true)
  | 21 => ("ConsulDeskModel", "testSign", "[I", true)
  | 22 => ("ConsulDeskModel", "testNumber", "[I", true)
  | 23 => ("ConsulDeskModel", "termName", "[I", true)
  | 24 => ("ConsulDeskModel", "times", "[I", true)
  | 25 => ("ConsulDeskModel", "by", "[I", true)
  | 26 => ("ConsulDeskModel", "ports", "I", false)
  | 27 => ("ConsulDeskModel", "today", "I", false)
  | 28 => ("ConsulDeskModel", "days", "[I", true)
  | 29 => ("ConsulDeskModel", "opened", "[I", true)
  | 30 => ("ConsulDeskModel", "chest", "[I", true)
  | 31 => ("ConsulDeskModel", "sealedBy", "[I", true)
  | 32 => ("ConsulDeskModel", "accounts", "[I", true)
  | 33 => ("ConsulDeskModel", "stock", "[I", true)
  | 34 => ("ConsulDeskModel", "first", "[I", true)
  | 35 => ("ConsulDeskModel", "again", "[I", true)
  | 36 => ("ConsulDeskModel", "askedOn", "[I", true)
  | 37 => ("ConsulDeskModel", "isLost", "[Z", true)
  | 38 => ("ConsulDeskModel", "papers", "I", false)
  | 39 => ("ConsulDeskModel", "paperPort", "[I", true)
  | 40 => ("ConsulDeskModel", "paperKind", "[I", true)
  | 41 => ("ConsulDeskModel", "value", "[I", true)
  | 42 => ("ConsulDeskModel", "sheets", "[I", true)
  | 43 => ("ConsulDeskModel", "day", "[I", true)
  | 44 => ("ConsulDeskModel", "fee", "[I", true)
  | 45 => ("ConsulDeskModel", "tariff", "[I", true)
  | 46 => ("ConsulDeskModel", "ahead", "[I", true)
  | 47 => ("ConsulDeskModel", "stamp", "[I", true)
  | 48 => ("ConsulDeskModel", "least", "[J", true)
  | _ => ("ConsulDeskModel", "chosen", "[I", true)
def tyX12 : Nat → FieldType := fun k => match k with
  | 0 => .int
  | 1 => .int
  | 2 => .int
  | 3 => .int
  | 4 => .object "ConsulDeskModel$Stop"
  | 5 => .array .byte
  | 6 => .int
  | 7 => .int
  | 8 => .int
  | 9 => .int
  | 10 => .int
  | 11 => .int
  | 12 => .int
  | 13 => .long
  | 14 => .int
  | 15 => .array .int
  | 16 => .array .int
  | 17 => .array .int
  | 18 => .array .int
  | 19 => .array .int
  | 20 => .array .int
  | 21 => .array .int
  | 22 => .array .int
  | 23 => .array .int
  | 24 => .array .int
  | 25 => .array .int
  | 26 => .int
  | 27 => .int
  | 28 => .array .int
  | 29 => .array .int
  | 30 => .array .int
  | 31 => .array .int
  | 32 => .array .int
  | 33 => .array .int
  | 34 => .array .int
  | 35 => .array .int
  | 36 => .array .int
  | 37 => .array .boolean
  | 38 => .int
  | 39 => .array .int
  | 40 => .array .int
  | 41 => .array .int
  | 42 => .array .int
  | 43 => .array .int
  | 44 => .array .int
  | 45 => .array .int
  | 46 => .array .int
  | 47 => .array .int
  | 48 => .array .long
  | _ => .array .int
theorem nmX12 : ∀ a, a < 50 → ∀ b, b < 50 → a ≠ b → (TX12 a).2.1 ≠ (TX12 b).2.1 := by decide +kernel
theorem tyX12_ok : ∀ k, k < 50 → parseFieldDescriptor (TX12 k).2.2.1 = some (tyX12 k) := by decide +kernel
abbrev cX12_init : ByteArray := prog_13_method_1_code
def yX12_init : MethodName := ⟨RX12, "<init>", "()V"⟩
abbrev cX12_refused : ByteArray := prog_13_method_3_code
def yX12_refused : MethodName := ⟨RX12, "refused", "(I)I"⟩
abbrev cX12_done : ByteArray := prog_13_method_4_code
def yX12_done : MethodName := ⟨RX12, "done", "(I)I"⟩
abbrev cX12_in : ByteArray := prog_13_method_5_code
def yX12_in : MethodName := ⟨RX12, "in", "(III)Z"⟩
abbrev cX12_stop : ByteArray := prog_13_method_6_code
def yX12_stop : MethodName := ⟨RX12, "stop", "(I)LConsulDeskModel$Stop;"⟩
abbrev cX12_byteAt : ByteArray := prog_13_method_7_code
def yX12_byteAt : MethodName := ⟨RX12, "byteAt", "(I)I"⟩
abbrev cX12_isLetter : ByteArray := prog_13_method_8_code
def yX12_isLetter : MethodName := ⟨RX12, "isLetter", "(I)Z"⟩
abbrev cX12_isDigit : ByteArray := prog_13_method_9_code
def yX12_isDigit : MethodName := ⟨RX12, "isDigit", "(I)Z"⟩
abbrev cX12_wordOf : ByteArray := prog_13_method_10_code
def yX12_wordOf : MethodName := ⟨RX12, "wordOf", "(Ljava/lang/String;)J"⟩
abbrev cX12_next : ByteArray := prog_13_method_11_code
def yX12_next : MethodName := ⟨RX12, "next", "()V"⟩
abbrev cX12_isWord : ByteArray := prog_13_method_12_code
def yX12_isWord : MethodName := ⟨RX12, "isWord", "(Ljava/lang/String;)Z"⟩
abbrev cX12_is : ByteArray := prog_13_method_13_code
def yX12_is : MethodName := ⟨RX12, "is", "(I)Z"⟩
abbrev cX12_nameHere : ByteArray := prog_13_method_14_code
def yX12_nameHere : MethodName := ⟨RX12, "nameHere", "()I"⟩
abbrev cX12_reads : ByteArray := prog_13_method_15_code
def yX12_reads : MethodName := ⟨RX12, "reads", "()V"⟩
abbrev cX12_readTest : ByteArray := prog_13_method_16_code
def yX12_readTest : MethodName := ⟨RX12, "readTest", "(I)V"⟩
abbrev cX12_readTerm : ByteArray := prog_13_method_17_code
def yX12_readTerm : MethodName := ⟨RX12, "readTerm", "(I)V"⟩
abbrev cX12_valueOf : ByteArray := prog_13_method_18_code
def yX12_valueOf : MethodName := ⟨RX12, "valueOf", "(IIIII)I"⟩
abbrev cX12_feeOf : ByteArray := prog_13_method_19_code
def yX12_feeOf : MethodName := ⟨RX12, "feeOf", "(IIIIII)I"⟩
abbrev cX12_port : ByteArray := prog_13_method_20_code
def yX12_port : MethodName := ⟨RX12, "port", "(I)I"⟩
abbrev cX12_sends : ByteArray := prog_13_method_21_code
def yX12_sends : MethodName := ⟨RX12, "sends", "(III)V"⟩
abbrev cX12_feed : ByteArray := prog_13_method_22_code
def yX12_feed : MethodName := ⟨RX12, "feed", "(IIIII)I"⟩
abbrev cX12_tariff : ByteArray := prog_13_method_23_code
def yX12_tariff : MethodName := ⟨RX12, "tariff", "(I)I"⟩
abbrev cX12_fault : ByteArray := prog_13_method_24_code
def yX12_fault : MethodName := ⟨RX12, "fault", "()I"⟩
abbrev cX12_where : ByteArray := prog_13_method_25_code
def yX12_where : MethodName := ⟨RX12, "where", "()I"⟩
abbrev cX12_isPort : ByteArray := prog_13_method_26_code
def yX12_isPort : MethodName := ⟨RX12, "isPort", "(I)Z"⟩
abbrev cX12_isTariff : ByteArray := prog_13_method_27_code
def yX12_isTariff : MethodName := ⟨RX12, "isTariff", "(I)Z"⟩
abbrev cX12_comes : ByteArray := prog_13_method_28_code
def yX12_comes : MethodName := ⟨RX12, "comes", "(II)I"⟩
abbrev cX12_hasCome : ByteArray := prog_13_method_29_code
def yX12_hasCome : MethodName := ⟨RX12, "hasCome", "(III)Z"⟩
abbrev cX12_lost : ByteArray := prog_13_method_30_code
def yX12_lost : MethodName := ⟨RX12, "lost", "(II)Z"⟩
abbrev cX12_asks : ByteArray := prog_13_method_31_code
def yX12_asks : MethodName := ⟨RX12, "asks", "(II)V"⟩
abbrev cX12_pass : ByteArray := prog_13_method_32_code
def yX12_pass : MethodName := ⟨RX12, "pass", "(I)I"⟩
abbrev cX12_forceOf : ByteArray := prog_13_method_33_code
def yX12_forceOf : MethodName := ⟨RX12, "forceOf", "(I)I"⟩
abbrev cX12_force : ByteArray := prog_13_method_34_code
def yX12_force : MethodName := ⟨RX12, "force", "(I)I"⟩
abbrev cX12_came : ByteArray := prog_13_method_35_code
def yX12_came : MethodName := ⟨RX12, "came", "(II)I"⟩
abbrev cX12_asked : ByteArray := prog_13_method_36_code
def yX12_asked : MethodName := ⟨RX12, "asked", "(II)I"⟩
abbrev cX12_under : ByteArray := prog_13_method_37_code
def yX12_under : MethodName := ⟨RX12, "under", "(I)I"⟩
abbrev cX12_stock : ByteArray := prog_13_method_38_code
def yX12_stock : MethodName := ⟨RX12, "stock", "(III)I"⟩
abbrev cX12_isPaper : ByteArray := prog_13_method_39_code
def yX12_isPaper : MethodName := ⟨RX12, "isPaper", "(III)Z"⟩
abbrev cX12_fee : ByteArray := prog_13_method_40_code
def yX12_fee : MethodName := ⟨RX12, "fee", "(IIIII)I"⟩
abbrev cX12_chooses : ByteArray := prog_13_method_41_code
def yX12_chooses : MethodName := ⟨RX12, "chooses", "(II)Z"⟩
abbrev cX12_seal : ByteArray := prog_13_method_42_code
def yX12_seal : MethodName := ⟨RX12, "seal", "(IIII)I"⟩
abbrev cX12_homeOf : ByteArray := prog_13_method_43_code
def yX12_homeOf : MethodName := ⟨RX12, "homeOf", "(I)I"⟩
abbrev cX12_paper : ByteArray := prog_13_method_44_code
def yX12_paper : MethodName := ⟨RX12, "paper", "(II)I"⟩
abbrev cX12_stamps : ByteArray := prog_13_method_45_code
def yX12_stamps : MethodName := ⟨RX12, "stamps", "(II)I"⟩
abbrev cX12_about : ByteArray := prog_13_method_46_code
def yX12_about : MethodName := ⟨RX12, "about", "(II)I"⟩
abbrev cX12_known : ByteArray := prog_13_method_47_code
def yX12_known : MethodName := ⟨RX12, "known", "(II)I"⟩
abbrev cX12_sum : ByteArray := prog_13_method_48_code
def yX12_sum : MethodName := ⟨RX12, "sum", "(II)I"⟩
abbrev cX12_homesFee : ByteArray := prog_13_method_49_code
def yX12_homesFee : MethodName := ⟨RX12, "homesFee", "(I)I"⟩
abbrev cX12_homes : ByteArray := prog_13_method_50_code
def yX12_homes : MethodName := ⟨RX12, "homes", "(I)I"⟩
abbrev cX12_difference : ByteArray := prog_13_method_51_code
def yX12_difference : MethodName := ⟨RX12, "difference", "(I)I"⟩
abbrev cX12_unlike : ByteArray := prog_13_method_52_code
def yX12_unlike : MethodName := ⟨RX12, "unlike", "(I)I"⟩
abbrev cX12_count : ByteArray := prog_13_method_53_code
def yX12_count : MethodName := ⟨RX12, "count", "(I)I"⟩
abbrev cX12_trouble : ByteArray := prog_13_method_54_code
def yX12_trouble : MethodName := ⟨RX12, "trouble", "()I"⟩
def RJ11 : String := "java/lang/Character"
def TJ11 : u_T := fun k => match k with
  | _ => ("", "", "", false)
def tyJ11 : Nat → FieldType := fun k => match k with
  | _ => .int
theorem nmJ11 : ∀ a, a < 0 → ∀ b, b < 0 → a ≠ b → (TJ11 a).2.1 ≠ (TJ11 b).2.1 := by decide +kernel
theorem tyJ11_ok : ∀ k, k < 0 → parseFieldDescriptor (TJ11 k).2.2.1 = some (tyJ11 k) := by decide +kernel
abbrev cJ11_isValidCodePoint_9a6ad : ByteArray := prog_15_method_11_code
def yJ11_isValidCodePoint_9a6ad : MethodName := ⟨RJ11, "isValidCodePoint", "(I)Z"⟩
abbrev cJ11_highSurrogate_5068e : ByteArray := prog_15_method_28_code
def yJ11_highSurrogate_5068e : MethodName := ⟨RJ11, "highSurrogate", "(I)C"⟩
abbrev cJ11_lowSurrogate_5068e : ByteArray := prog_15_method_29_code
def yJ11_lowSurrogate_5068e : MethodName := ⟨RJ11, "lowSurrogate", "(I)C"⟩
def RJx8e188 : String := "java/lang/Cloneable"
def TJx8e188 : u_T := fun k => match k with
  | _ => ("", "", "", false)
def tyJx8e188 : Nat → FieldType := fun k => match k with
  | _ => .int
theorem nmJx8e188 : ∀ a, a < 0 → ∀ b, b < 0 → a ≠ b → (TJx8e188 a).2.1 ≠ (TJx8e188 b).2.1 := by decide +kernel
theorem tyJx8e188_ok : ∀ k, k < 0 → parseFieldDescriptor (TJx8e188 k).2.2.1 = some (tyJx8e188 k) := by decide +kernel
def RJ9 : String := "java/lang/Math"
def TJ9 : u_T := fun k => match k with
  | _ => ("", "", "", false)
def tyJ9 : Nat → FieldType := fun k => match k with
  | _ => .int
theorem nmJ9 : ∀ a, a < 0 → ∀ b, b < 0 → a ≠ b → (TJ9 a).2.1 ≠ (TJ9 b).2.1 := by decide +kernel
theorem tyJ9_ok : ∀ k, k < 0 → parseFieldDescriptor (TJ9 k).2.2.1 = some (tyJ9 k) := by decide +kernel
abbrev cJ9_max_7cf53 : ByteArray := prog_18_method_65_code
def yJ9_max_7cf53 : MethodName := ⟨RJ9, "max", "(II)I"⟩
abbrev cJ9_min_7cf53 : ByteArray := prog_18_method_69_code
def yJ9_min_7cf53 : MethodName := ⟨RJ9, "min", "(II)I"⟩
abbrev cJ9_min_f86c9 : ByteArray := prog_18_method_70_code
def yJ9_min_f86c9 : MethodName := ⟨RJ9, "min", "(JJ)J"⟩
def RJ0 : String := "java/lang/String"
def TJ0 : u_T := fun k => match k with
  | _ => ("", "", "", false)
def tyJ0 : Nat → FieldType := fun k => match k with
  | _ => .int
theorem nmJ0 : ∀ a, a < 0 → ∀ b, b < 0 → a ≠ b → (TJ0 a).2.1 ≠ (TJ0 b).2.1 := by decide +kernel
theorem tyJ0_ok : ∀ k, k < 0 → parseFieldDescriptor (TJ0 k).2.2.1 = some (tyJ0 k) := by decide +kernel
abbrev cJ0_length_8abf5 : ByteArray := prog_20_method_54_code
def yJ0_length_8abf5 : MethodName := ⟨RJ0, "length", "()I"⟩
abbrev cJ0_charAt_5068e : ByteArray := prog_20_method_56_code
def yJ0_charAt_5068e : MethodName := ⟨RJ0, "charAt", "(I)C"⟩
abbrev cJ0_indexOf_0f7a4 : ByteArray := prog_20_method_79_code
def yJ0_indexOf_0f7a4 : MethodName := ⟨RJ0, "indexOf", "(I)I"⟩
abbrev cJ0_indexOf_7cf53 : ByteArray := prog_20_method_80_code
def yJ0_indexOf_7cf53 : MethodName := ⟨RJ0, "indexOf", "(II)I"⟩
abbrev cJ0_coder_7d493 : ByteArray := prog_20_method_152_code
def yJ0_coder_7d493 : MethodName := ⟨RJ0, "coder", "()B"⟩
abbrev cJ0_isLatin1_aae02 : ByteArray := prog_20_method_154_code
def yJ0_isLatin1_aae02 : MethodName := ⟨RJ0, "isLatin1", "()Z"⟩
abbrev cJ0_checkIndex_df160 : ByteArray := prog_20_method_155_code
def yJ0_checkIndex_df160 : MethodName := ⟨RJ0, "checkIndex", "(II)V"⟩
abbrev cJ0_checkBoundsBeginEnd_23922 : ByteArray := prog_20_method_158_code
def yJ0_checkBoundsBeginEnd_23922 : MethodName := ⟨RJ0, "checkBoundsBeginEnd", "(III)V"⟩
def RJ1 : String := "java/lang/StringLatin1"
def TJ1 : u_T := fun k => match k with
  | _ => ("", "", "", false)
def tyJ1 : Nat → FieldType := fun k => match k with
  | _ => .int
theorem nmJ1 : ∀ a, a < 0 → ∀ b, b < 0 → a ≠ b → (TJ1 a).2.1 ≠ (TJ1 b).2.1 := by decide +kernel
theorem tyJ1_ok : ∀ k, k < 0 → parseFieldDescriptor (TJ1 k).2.2.1 = some (tyJ1 k) := by decide +kernel
abbrev cJ1_charAt_3b067 : ByteArray := prog_21_method_2_code
def yJ1_charAt_3b067 : MethodName := ⟨RJ1, "charAt", "([BI)C"⟩
abbrev cJ1_canEncode_9a6ad : ByteArray := prog_21_method_4_code
def yJ1_canEncode_9a6ad : MethodName := ⟨RJ1, "canEncode", "(I)Z"⟩
abbrev cJ1_indexOf_4cfef : ByteArray := prog_21_method_22_code
def yJ1_indexOf_4cfef : MethodName := ⟨RJ1, "indexOf", "([BIII)I"⟩
abbrev cJ1_indexOfChar_4cfef : ByteArray := prog_21_method_23_code
def yJ1_indexOfChar_4cfef : MethodName := ⟨RJ1, "indexOfChar", "([BIII)I"⟩
def RJ2 : String := "java/lang/StringUTF16"
def TJ2 : u_T := fun k => match k with
  | _ => ("", "", "", false)
def tyJ2 : Nat → FieldType := fun k => match k with
  | _ => .int
theorem nmJ2 : ∀ a, a < 0 → ∀ b, b < 0 → a ≠ b → (TJ2 a).2.1 ≠ (TJ2 b).2.1 := by decide +kernel
theorem tyJ2_ok : ∀ k, k < 0 → parseFieldDescriptor (TJ2 k).2.2.1 = some (tyJ2 k) := by decide +kernel
abbrev cJ2_getChar_3b067 : ByteArray := prog_22_method_5_code
def yJ2_getChar_3b067 : MethodName := ⟨RJ2, "getChar", "([BI)C"⟩
abbrev cJ2_length_9d52b : ByteArray := prog_22_method_6_code
def yJ2_length_9d52b : MethodName := ⟨RJ2, "length", "([B)I"⟩
abbrev cJ2_indexOf_4cfef : ByteArray := prog_22_method_40_code
def yJ2_indexOf_4cfef : MethodName := ⟨RJ2, "indexOf", "([BIII)I"⟩
abbrev cJ2_indexOfChar_4cfef : ByteArray := prog_22_method_47_code
def yJ2_indexOfChar_4cfef : MethodName := ⟨RJ2, "indexOfChar", "([BIII)I"⟩
abbrev cJ2_indexOfCharUnsafe_4cfef : ByteArray := prog_22_method_48_code
def yJ2_indexOfCharUnsafe_4cfef : MethodName := ⟨RJ2, "indexOfCharUnsafe", "([BIII)I"⟩
abbrev cJ2_indexOfSupplementary_4cfef : ByteArray := prog_22_method_49_code
def yJ2_indexOfSupplementary_4cfef : MethodName := ⟨RJ2, "indexOfSupplementary", "([BIII)I"⟩
abbrev cJ2_charAt_3b067 : ByteArray := prog_22_method_83_code
def yJ2_charAt_3b067 : MethodName := ⟨RJ2, "charAt", "([BI)C"⟩
abbrev cJ2_checkIndex_2214a : ByteArray := prog_22_method_91_code
def yJ2_checkIndex_2214a : MethodName := ⟨RJ2, "checkIndex", "(I[B)V"⟩
abbrev cJ2_checkBoundsBeginEnd_d044e : ByteArray := prog_22_method_93_code
def yJ2_checkBoundsBeginEnd_d044e : MethodName := ⟨RJ2, "checkBoundsBeginEnd", "(II[B)V"⟩
def RJ3 : String := "jdk/internal/util/Preconditions"
def TJ3 : u_T := fun k => match k with
  | _ => ("", "", "", false)
def tyJ3 : Nat → FieldType := fun k => match k with
  | _ => .int
theorem nmJ3 : ∀ a, a < 0 → ∀ b, b < 0 → a ≠ b → (TJ3 a).2.1 ≠ (TJ3 b).2.1 := by decide +kernel
theorem tyJ3_ok : ∀ k, k < 0 → parseFieldDescriptor (TJ3 k).2.2.1 = some (tyJ3 k) := by decide +kernel
abbrev cJ3_checkIndex_8e157 : ByteArray := prog_24_method_11_code
def yJ3_checkIndex_8e157 : MethodName := ⟨RJ3, "checkIndex", "(IILjava/util/function/BiFunction;)I"⟩
abbrev cJ3_checkFromToIndex_8c36e : ByteArray := prog_24_method_12_code
def yJ3_checkFromToIndex_8c36e : MethodName := ⟨RJ3, "checkFromToIndex", "(IIILjava/util/function/BiFunction;)I"⟩
def RL : String := "ConsulDeskLaw"
abbrev cL_law : ByteArray := code
def yL_law : MethodName := ⟨RL, "law", "([I)Z"⟩
end
section
/-! the memory as total functions: a shape for each address, and what its places hold -/
abbrev mm_S : Type := Nat ⊕ (Nat × Nat)
abbrev mm_M : Type := (Nat → Option mm_S) × (Nat → Nat → Int32) × (Nat → Nat → Int64) × (Nat → Nat → Option Nat) × Nat
def mm_sh (M : mm_M) (a : Nat) : Option mm_S := M.1 a
def mm_I (M : mm_M) (a : Nat) : Nat → Int32 := M.2.1 a
def mm_L (M : mm_M) (a : Nat) : Nat → Int64 := M.2.2.1 a
def mm_R (M : mm_M) (a : Nat) : Nat → Option Nat := M.2.2.2.1 a
def mm_z (M : mm_M) : Nat := M.2.2.2.2
def mm_u {α : Type} (f : Nat → Nat → α) (a k : Nat) (v : α) : Nat → Nat → α := fun b j => if b = a ∧ j = k then v else f b j
def mm_f {α : Type} (f : Nat → Nat → α) (a : Nat) (v : α) : Nat → Nat → α := fun b j => if b = a then v else f b j
def mm_sI (M : mm_M) (a k : Nat) (v : Int32) : mm_M := (M.1, mm_u M.2.1 a k v, M.2.2)
def mm_sL (M : mm_M) (a k : Nat) (v : Int64) : mm_M := (M.1, M.2.1, mm_u M.2.2.1 a k v, M.2.2.2)
def mm_sR (M : mm_M) (a k : Nat) (v : Option Nat) : mm_M := (M.1, M.2.1, M.2.2.1, mm_u M.2.2.2.1 a k v, M.2.2.2.2)
def mm_new (M : mm_M) (s : mm_S) : mm_M := (fun b => if b = mm_z M then some s else M.1 b, mm_f M.2.1 (mm_z M) 0, mm_f M.2.2.1 (mm_z M) 0, mm_f M.2.2.2.1 (mm_z M) none, mm_z M + 1)
/-! the classes whose objects the memory holds, and the kinds of arrays: 0 int, 1 byte, 2 boolean, 3 long, 4 .. references; 10 and 11 are tables of ints and of bytes that nobody writes -/
abbrev mm_cl : List vw_C := [(RX0, TX0, 3), (RX1, TX1, 3), (RX2, TX2, 9), (RX3, TX3, 8), (RX4, TX4, 6), (RX5, TX5, 2), (RX6, TX6, 2), (RX7, TX7, 3), (RX8, TX8, 3), (RX9, TX9, 4), (RX10, TX10, 13), (RX11, TX11, 8), (RX12, TX12, 50)]
def mm_ty (ci : Nat) : Nat → FieldType := match ci with
  | 0 => tyX0 | 1 => tyX1 | 2 => tyX2 | 3 => tyX3 | 4 => tyX4 | 5 => tyX5 | 6 => tyX6 | 7 => tyX7 | 8 => tyX8 | 9 => tyX9 | 10 => tyX10 | 11 => tyX11 | _ => tyX12
def mm_el (k : Nat) : FieldType := match k with
  | 0 => .int | 1 => .byte | 2 => .boolean | 3 => .long | 4 => .object "ConsulDesk$Line" | 5 => .object "ConsulDesk$Paper" | 6 => .object "ConsulDesk$Port" | 7 => .object "ConsulDesk$Tariff" | 8 => .object "ConsulDesk$Term" | _ => .object "ConsulDesk$Test"
def mm_fv (i : Nat → Int32) (l : Nat → Int64) (r : Nat → Option Nat) (k : Nat) (ty : FieldType) : Value := match ty with
  | .long => .long (l k)
  | .object _ => va_rf (r k)
  | .array _ => va_rf (r k)
  | _ => .int (i k)
def mm_ar (i : Nat → Int32) (l : Nat → Int64) (r : Nat → Option Nat) (k n : Nat) : vp_A := (n, if k < 3 then .inl i else if k = 3 then .inr (.inl l) else .inr (.inr (.inr (.inr r))))
/-- what the machine is asked for: the classes' numbers and slots, the array classes, where the law began, the statics' values -/
abbrev mm_G : Type := va_G × (Nat → ClassId) × Nat × (Nat → Value) × (Nat → Nat) × (Nat → Nat)
abbrev mm_sz (G : mm_G) : Nat := G.2.2.1
def mm_tb (ty : FieldType) (n : Nat) (i : Nat → Int32) (U : State) (H : Heap) (a : Nat) : Prop := ∃ cell : Cell, H[a]? = some cell ∧ U.isArrayOf cell ty ∧ cell.vm ≠ .unknown ∧ n ≤ cell.slots.size ∧ cell.slots.size.toInt32 = Int32.ofNat n ∧ ∀ j : Nat, j < n → cell.slots[j]? = some (.int (i j))
def mm_at (G : mm_G) (U : State) (H : Heap) (a : Nat) (s : mm_S) (i : Nat → Int32) (l : Nat → Int64) (r : Nat → Option Nat) : Prop := match s with
  | .inl ci => mm_sz G ≤ a ∧ ∃ q : vw_C, mm_cl[ci]? = some q ∧ t_OB a (G.1.1 ci) q.2.2 (G.1.2 ci) H (fun k => mm_fv i l r k (mm_ty ci k))
  | .inr (k, n) => if k < 10 then mm_sz G ≤ a ∧ H[a]? = some (vp_cell (G.2.1 k) (mm_ar i l r k n)) else a < mm_sz G ∧ mm_tb (if k = 10 then .int else .byte) n i U H a
def mm_ok (G : mm_G) (M : mm_M) (U : State) (H : Heap) : Prop := (∀ a s, mm_sh M a = some s → mm_at G U H a s (mm_I M a) (mm_L M a) (mm_R M a)) ∧ H.size = mm_z M
theorem mm_at_kept {G : mm_G} {U : State} {H H1 : Heap} {a : Nat} {s : mm_S} {i : Nat → Int32} {l : Nat → Int64} {r : Nat → Option Nat} (h : mm_at G U H a s i l r) (hq : H1[a]? = H[a]?) : mm_at G U H1 a s i l r := by
  rcases s with ci | ⟨k, n⟩
  · obtain ⟨h0, q, h1, h2⟩ := h
    exact ⟨h0, q, h1, h2.kept hq⟩
  · unfold mm_at at h ⊢
    by_cases hk : k < 10
    · simp only [hk, if_true] at h ⊢
      exact ⟨h.1, by rw [hq]; exact h.2⟩
    · simp only [hk, if_false] at h ⊢
      obtain ⟨h0, cell, h1, h2⟩ := h
      exact ⟨h0, cell, by rw [hq]; exact h1, h2⟩
theorem mm_at_lt {G : mm_G} {U : State} {H : Heap} {a : Nat} {s : mm_S} {i : Nat → Int32} {l : Nat → Int64} {r : Nat → Option Nat} (h : mm_at G U H a s i l r) : a < H.size := by
  rcases s with ci | ⟨k, n⟩
  · obtain ⟨h0, q, h1, cell, h2, -⟩ := h
    exact (Array.getElem?_eq_some_iff.mp h2).1
  · unfold mm_at at h
    by_cases hk : k < 10
    · simp only [hk, if_true] at h
      exact (Array.getElem?_eq_some_iff.mp h.2).1
    · simp only [hk, if_false] at h
      obtain ⟨h0, cell, h1, h2⟩ := h
      exact (Array.getElem?_eq_some_iff.mp h1).1
theorem mm_at_moved {G : mm_G} {u U : State} {H : Heap} {a : Nat} {s : mm_S} {i : Nat → Int32} {l : Nat → Int64} {r : Nat → Option Nat} (hvm : u.vm.Alike U.vm) (h : mm_at G u H a s i l r) : mm_at G U H a s i l r := by
  rcases s with ci | ⟨k, n⟩
  · exact h
  · unfold mm_at at h ⊢
    by_cases hk : k < 10
    · simp only [hk, if_true] at h ⊢
      exact h
    · simp only [hk, if_false] at h ⊢
      obtain ⟨h0, cell, h1, h2, h3⟩ := h
      exact ⟨h0, cell, h1, State.isArrayOf_alike hvm h2, h3⟩
theorem mm_ok_lt {G : mm_G} {M : mm_M} {U : State} {H : Heap} (h : mm_ok G M U H) {a : Nat} {s : mm_S} (hs : mm_sh M a = some s) : a < mm_z M := by
  rw [← h.2]; exact mm_at_lt (h.1 a s hs)
theorem mm_ok_moved {G : mm_G} {M : mm_M} {u U : State} {H : Heap} (hvm : u.vm.Alike U.vm) (h : mm_ok G M u H) : mm_ok G M U H := ⟨fun a s hs => mm_at_moved hvm (h.1 a s hs), h.2⟩
/-- one cell has changed -/
theorem mm_ok_put {G : mm_G} {M M1 : mm_M} {U : State} {H H1 : Heap} {a : Nat} {s : mm_S} (h : mm_ok G M U H) (hs : mm_sh M a = some s) (hsh : mm_sh M1 = mm_sh M) (hz : mm_z M1 = mm_z M) (he : ∀ b, b ≠ a → mm_I M1 b = mm_I M b ∧ mm_L M1 b = mm_L M b ∧ mm_R M1 b = mm_R M b)
    (hH : H1.size = H.size) (ho : ∀ q : Nat, q ≠ a → H1[q]? = H[q]?) (hat : mm_at G U H1 a s (mm_I M1 a) (mm_L M1 a) (mm_R M1 a)) : mm_ok G M1 U H1 := by
  refine ⟨fun b t hb => ?_, by rw [hH, hz]; exact h.2⟩
  rw [hsh] at hb
  by_cases hba : b = a
  · subst hba
    cases hs.symm.trans hb
    exact hat
  · obtain ⟨e1, e2, e3⟩ := he b hba
    rw [e1, e2, e3]
    exact mm_at_kept (h.1 b t hb) (ho b hba)
theorem mm_u_ne {α : Type} {f : Nat → Nat → α} {a k b : Nat} {v : α} (h : b ≠ a) : mm_u f a k v b = f b := by
  funext j
  simp [mm_u, h]
theorem mm_f_ne {α : Type} {f : Nat → Nat → α} {a b : Nat} {v : α} (h : b ≠ a) : mm_f f a v b = f b := by
  funext j
  simp [mm_f, h]
theorem mm_f_self {α : Type} {f : Nat → Nat → α} {a : Nat} {v : α} : mm_f f a v a = fun _ => v := by
  funext j
  simp [mm_f]
theorem mm_I_sI (M : mm_M) (a k b j : Nat) (v : Int32) : mm_I (mm_sI M a k v) b j = if b = a ∧ j = k then v else mm_I M b j := rfl
theorem mm_L_sL (M : mm_M) (a k b j : Nat) (v : Int64) : mm_L (mm_sL M a k v) b j = if b = a ∧ j = k then v else mm_L M b j := rfl
theorem mm_R_sR (M : mm_M) (a k b j : Nat) (v : Option Nat) : mm_R (mm_sR M a k v) b j = if b = a ∧ j = k then v else mm_R M b j := rfl
theorem mm_ne_sI {M : mm_M} {a k : Nat} {v : Int32} (b : Nat) (h : b ≠ a) : mm_I (mm_sI M a k v) b = mm_I M b ∧ mm_L (mm_sI M a k v) b = mm_L M b ∧ mm_R (mm_sI M a k v) b = mm_R M b := ⟨mm_u_ne h, rfl, rfl⟩
theorem mm_ne_sL {M : mm_M} {a k : Nat} {v : Int64} (b : Nat) (h : b ≠ a) : mm_I (mm_sL M a k v) b = mm_I M b ∧ mm_L (mm_sL M a k v) b = mm_L M b ∧ mm_R (mm_sL M a k v) b = mm_R M b := ⟨rfl, mm_u_ne h, rfl⟩
theorem mm_ne_sR {M : mm_M} {a k : Nat} {v : Option Nat} (b : Nat) (h : b ≠ a) : mm_I (mm_sR M a k v) b = mm_I M b ∧ mm_L (mm_sR M a k v) b = mm_L M b ∧ mm_R (mm_sR M a k v) b = mm_R M b := ⟨rfl, rfl, mm_u_ne h⟩
/-- one cell is new -/
theorem mm_ok_new {G : mm_G} {M : mm_M} {U : State} {H H1 : Heap} (h : mm_ok G M U H) (s : mm_S) (hH : H1.size = H.size + 1) (ho : ∀ q : Nat, q < H.size → H1[q]? = H[q]?) (hat : mm_at G U H1 H.size s (fun _ => 0) (fun _ => 0) (fun _ => none)) : mm_ok G (mm_new M s) U H1 := by
  have hz := h.2
  refine ⟨fun b t hb => ?_, by rw [hH, hz]; rfl⟩
  by_cases hbz : b = mm_z M
  · have hb' : mm_sh (mm_new M s) b = some s := by
      show (if b = mm_z M then some s else M.1 b) = some s
      rw [if_pos hbz]
    cases hb'.symm.trans hb
    have e1 : mm_I (mm_new M s) b = fun _ => 0 := by subst hbz; exact mm_f_self
    have e2 : mm_L (mm_new M s) b = fun _ => 0 := by subst hbz; exact mm_f_self
    have e3 : mm_R (mm_new M s) b = fun _ => none := by subst hbz; exact mm_f_self
    rw [e1, e2, e3, hbz, ← hz]
    exact hat
  · have hb' : mm_sh (mm_new M s) b = mm_sh M b := by
      show (if b = mm_z M then some s else M.1 b) = M.1 b
      rw [if_neg hbz]
    have e1 : mm_I (mm_new M s) b = mm_I M b := mm_f_ne hbz
    have e2 : mm_L (mm_new M s) b = mm_L M b := mm_f_ne hbz
    have e3 : mm_R (mm_new M s) b = mm_R M b := mm_f_ne hbz
    rw [hb'] at hb
    rw [e1, e2, e3]
    exact mm_at_kept (h.1 b t hb) (ho b (by rw [hz]; exact mm_ok_lt h hb))
theorem mm_sh_new {G : mm_G} {M : mm_M} {U : State} {H : Heap} (h : mm_ok G M U H) (s : mm_S) {b : Nat} {t : mm_S} (hb : mm_sh M b = some t) : mm_sh (mm_new M s) b = some t ∧ b ≠ mm_z M := by
  have hne : b ≠ mm_z M := Nat.ne_of_lt (mm_ok_lt h hb)
  refine ⟨?_, hne⟩
  show (if b = mm_z M then some s else M.1 b) = some t
  rw [if_neg hne]; exact hb
/-! the locals, by their places -/
def mm_pl (lv : List (Option Value)) : List (Nat × Value) := (List.range lv.length).filterMap (fun j => ((lv[j]?).join).map (fun v => (j, v)))
def mm_lv (ls : Array Slot) (n : Nat) (lv : List (Option Value)) : Prop := lv_has ls n (mm_pl lv)
theorem mm_pl_mem {lv : List (Option Value)} {q : Nat × Value} : q ∈ mm_pl lv ↔ lv[q.1]? = some (some q.2) := by
  unfold mm_pl
  rw [List.mem_filterMap]
  constructor
  · rintro ⟨j, hj, h⟩
    cases hv : lv[j]? with
    | none => simp [hv] at h
    | some w =>
      cases w with
      | none => simp [hv] at h
      | some v =>
        simp [hv] at h
        rw [← h]
        exact hv
  · intro h
    refine ⟨q.1, List.mem_range.mpr (List.getElem?_eq_some_iff.mp h).1, ?_⟩
    rw [h]
    rfl
theorem mm_lv_at {ls : Array Slot} {n : Nat} {lv : List (Option Value)} (h : mm_lv ls n lv) {i : Nat} {v : Value} (hi : lv[i]? = some (some v)) : ls[i]? = some (.val v) := h.2.2 (i, v) (mm_pl_mem.mpr hi)
/-- what stands just ahead of place i is no long -/
def mm_c1 (lv : List (Option Value)) (i : Nat) : Bool := match i with
  | 0 => true
  | j + 1 => match lv[j]? with
    | some (some v) => v.category == 1
    | _ => true
theorem mm_c1_spec {lv : List (Option Value)} {i : Nat} (h : mm_c1 lv i = true) {j : Nat} {v : Value} (hj : lv[j]? = some (some v)) (hi : j + 1 = i) : (v.category == 2) = false := by
  subst hi
  simp only [mm_c1, hj] at h
  have := eq_of_beq h
  rw [this]; rfl
theorem mm_lv_sub {ls : Array Slot} {n : Nat} {lv : List (Option Value)} {l : List (Nat × Value)} (h : lv_has ls n l) (hs : ∀ (i : Nat) (v : Value), lv[i]? = some (some v) → (i, v) ∈ l) : mm_lv ls n lv :=
  ⟨h.1, h.2.1, fun q hq => h.2.2 q (hs q.1 q.2 (mm_pl_mem.mp hq))⟩
theorem mm_lv_weak {ls : Array Slot} {n : Nat} {lv lv' : List (Option Value)} (h : mm_lv ls n lv) (hs : ∀ (i : Nat) (v : Value), lv'[i]? = some (some v) → lv[i]? = some (some v)) : mm_lv ls n lv' :=
  mm_lv_sub h (fun i v hv => mm_pl_mem.mpr (hs i v hv))
theorem mm_lv_set1 {ls : Array Slot} {n : Nat} {lv : List (Option Value)} {i : Nat} {v : Value} (hc : mm_c1 lv i = true) (h : lv_has ls n ((i, v) :: (mm_pl lv).filter (fun q => !(q.1 == i) && !(q.1 + 1 == i && q.2.category == 2)))) : mm_lv ls n (lv.set i (some v)) := by
  refine mm_lv_sub h (fun j w hj => ?_)
  by_cases hji : i = j
  · subst hji
    have hlt : i < lv.length := by
      have := (List.getElem?_eq_some_iff.mp hj).1
      simpa using this
    rw [List.getElem?_set_self hlt] at hj
    cases hj
    exact List.mem_cons_self
  · rw [List.getElem?_set_ne hji] at hj
    refine List.mem_cons_of_mem _ (List.mem_filter.mpr ⟨mm_pl_mem.mpr hj, ?_⟩)
    have h1 : (j == i) = false := by simp [Ne.symm hji]
    simp only [h1, Bool.not_false, Bool.true_and]
    by_cases hj1 : j + 1 = i
    · rw [mm_c1_spec hc hj hj1]; simp
    · have h2 : (j + 1 == i) = false := by simp [hj1]
      simp [h2]
theorem mm_lv_set2 {ls : Array Slot} {n : Nat} {lv : List (Option Value)} {i : Nat} {v : Value} (hc : mm_c1 lv i = true) (h : lv_has ls n ((i, v) :: (mm_pl lv).filter (fun q => !(q.1 == i) && (!(q.1 == i + 1) && !(q.1 + 1 == i && q.2.category == 2))))) : mm_lv ls n ((lv.set i (some v)).set (i + 1) none) := by
  refine mm_lv_sub h (fun j w hj => ?_)
  by_cases hj2 : i + 1 = j
  · subst hj2
    rw [List.getElem?_set] at hj
    simp at hj
  · rw [List.getElem?_set_ne hj2] at hj
    by_cases hji : i = j
    · subst hji
      have hlt : i < lv.length := by
        have := (List.getElem?_eq_some_iff.mp hj).1
        simpa using this
      rw [List.getElem?_set_self hlt] at hj
      cases hj
      exact List.mem_cons_self
    · rw [List.getElem?_set_ne hji] at hj
      refine List.mem_cons_of_mem _ (List.mem_filter.mpr ⟨mm_pl_mem.mpr hj, ?_⟩)
      have h1 : (j == i) = false := by simp [Ne.symm hji]
      have h3 : (j == i + 1) = false := by simp [Ne.symm hj2]
      simp only [h1, h3, Bool.not_false, Bool.true_and]
      by_cases hj1 : j + 1 = i
      · rw [mm_c1_spec hc hj hj1]; simp
      · have h2 : (j + 1 == i) = false := by simp [hj1]
        simp [h2]
/-! the classes' words, types and names, by their numbers -/
theorem mm_in0 : ∀ w ∈ u_ws RX0 TX0 3, w ∈ gt_ws := by decide +kernel
theorem mm_in1 : ∀ w ∈ u_ws RX1 TX1 3, w ∈ gt_ws := by decide +kernel
theorem mm_in2 : ∀ w ∈ u_ws RX2 TX2 9, w ∈ gt_ws := by decide +kernel
theorem mm_in3 : ∀ w ∈ u_ws RX3 TX3 8, w ∈ gt_ws := by decide +kernel
theorem mm_in4 : ∀ w ∈ u_ws RX4 TX4 6, w ∈ gt_ws := by decide +kernel
theorem mm_in5 : ∀ w ∈ u_ws RX5 TX5 2, w ∈ gt_ws := by decide +kernel
theorem mm_in6 : ∀ w ∈ u_ws RX6 TX6 2, w ∈ gt_ws := by decide +kernel
theorem mm_in7 : ∀ w ∈ u_ws RX7 TX7 3, w ∈ gt_ws := by decide +kernel
theorem mm_in8 : ∀ w ∈ u_ws RX8 TX8 3, w ∈ gt_ws := by decide +kernel
theorem mm_in9 : ∀ w ∈ u_ws RX9 TX9 4, w ∈ gt_ws := by decide +kernel
theorem mm_in10 : ∀ w ∈ u_ws RX10 TX10 13, w ∈ gt_ws := by decide +kernel
theorem mm_in11 : ∀ w ∈ u_ws RX11 TX11 8, w ∈ gt_ws := by decide +kernel
theorem mm_in12 : ∀ w ∈ u_ws RX12 TX12 50, w ∈ gt_ws := by decide +kernel
theorem mm_cases {P : Nat → vw_C → Prop} (h0 : P 0 (RX0, TX0, 3)) (h1 : P 1 (RX1, TX1, 3)) (h2 : P 2 (RX2, TX2, 9)) (h3 : P 3 (RX3, TX3, 8)) (h4 : P 4 (RX4, TX4, 6)) (h5 : P 5 (RX5, TX5, 2)) (h6 : P 6 (RX6, TX6, 2)) (h7 : P 7 (RX7, TX7, 3)) (h8 : P 8 (RX8, TX8, 3)) (h9 : P 9 (RX9, TX9, 4)) (h10 : P 10 (RX10, TX10, 13)) (h11 : P 11 (RX11, TX11, 8)) (h12 : P 12 (RX12, TX12, 50)) : ∀ (ci : Nat) (q : vw_C), mm_cl[ci]? = some q → P ci q := by
  intro ci q h
  match ci, h with
  | 0, h => cases h; exact h0
  | 1, h => cases h; exact h1
  | 2, h => cases h; exact h2
  | 3, h => cases h; exact h3
  | 4, h => cases h; exact h4
  | 5, h => cases h; exact h5
  | 6, h => cases h; exact h6
  | 7, h => cases h; exact h7
  | 8, h => cases h; exact h8
  | 9, h => cases h; exact h9
  | 10, h => cases h; exact h10
  | 11, h => cases h; exact h11
  | 12, h => cases h; exact h12
  | n + 13, h => cases h
theorem mm_in : ∀ (ci : Nat) (q : vw_C), mm_cl[ci]? = some q → ∀ w ∈ u_ws q.1 q.2.1 q.2.2, w ∈ gt_ws := mm_cases mm_in0 mm_in1 mm_in2 mm_in3 mm_in4 mm_in5 mm_in6 mm_in7 mm_in8 mm_in9 mm_in10 mm_in11 mm_in12
theorem mm_tyok : ∀ (ci : Nat) (q : vw_C), mm_cl[ci]? = some q → ∀ k, k < q.2.2 → parseFieldDescriptor (q.2.1 k).2.2.1 = some (mm_ty ci k) := mm_cases tyX0_ok tyX1_ok tyX2_ok tyX3_ok tyX4_ok tyX5_ok tyX6_ok tyX7_ok tyX8_ok tyX9_ok tyX10_ok tyX11_ok tyX12_ok
theorem mm_nm : ∀ (ci : Nat) (q : vw_C), mm_cl[ci]? = some q → ∀ a, a < q.2.2 → ∀ b, b < q.2.2 → a ≠ b → (q.2.1 a).2.1 ≠ (q.2.1 b).2.1 := mm_cases nmX0 nmX1 nmX2 nmX3 nmX4 nmX5 nmX6 nmX7 nmX8 nmX9 nmX10 nmX11 nmX12
end
section
/-! THE CLAIM OUT OF ONE WALK OF THE LAW'S BODY. Your part is whole_start (and what it stands on); all else here is the same for every law, but numbers. -/
def R_law : String := "ConsulDeskLaw"
def lw_P (b : Addr) (xs : List Int32) (args : Array Value) (s : State) : Prop := args = #[.ref b] ∧ s.IntsAt b xs ∧ xs.length ≤ 3072 ∧ (Jvm.Cond.and given_1 narrow_1).before args s = true
def lw_Q (_ : Array Value) (s : State) (o : Outcome) (t : State) : Prop := o = .returned (some (.int 1)) ∧ Framed s o t [] 601024 7293034
def lw_Z (below : List Frame) (a : Array Value) (s : State) : State → Prop := fun t => ∃ o, t.status = .running ∧ Ended t below o ∧ lw_Q a s o t
/-- the law's own end, with 1 on the stack, nothing written that was there before, its room as the claim has it -/
theorem lw_ret {p : Program} {l : Launch} {e : Env} {s : State} {m : MethodId} {below : List Frame} {meth : Method} {c : Code} {b : Nat} (hx : p.tables.exec = Jvm.exec) (hb : c.code = code) (hr : meth.sig.returnType = ret) (hlocks : meth.locks = false) {pc : Nat} {H : Heap} {ls : Array Slot} (hdg : decode code pc = .ok (.ireturn, 1)) : W p l e room_1 s m #[Value.ref b] below meth c H [] 601024 7293034 (lw_Z below #[Value.ref b] s) (F0 m pc ls [.int 1]) := by
  intro T hT X
  obtain ⟨fs, hret, hrun, hended, hW, hframe⟩ := X.leave (v := some (.int 1)) (hlocks := hlocks) (fun h => by rw [hr] at h; cases h)
  have hmeth' : T.vm.method? m = some meth := X.method'
  refine ⟨T.setFrames fs, ?_, .returned (some (.int 1)), hrun, hended, rfl, ⟨_, rfl⟩, hW, hframe⟩
  jvm_step X.here [X.here.top, hx, hb, hdg, hmeth', hr, ret, narrow_b1]
  (try refine ⟨rfl, ?_⟩); (try refine ⟨rfl, ?_⟩)
  first | (intro acts; rw [hret _ acts rfl rfl rfl]) | rw [hret _ _ rfl rfl rfl]
  exact Steps.refl _
/-- what holds at the law's entry: the machine, the code, the tables' words (any of lw_tbl by 'hts w (by decide +kernel)'), the script of L ints xs at the cell b, what the Statement gives of the start (any of its parts by flat_of_before) -/
def lw_At (p : Program) (s : State) (m : MethodId) (meth : Method) (c : Code) (b L : Nat) (xs : Nat → Int32) : Prop :=
  p.tables.exec = Jvm.exec ∧ c.code = code ∧ meth.sig.returnType = ret ∧ c.maxLocals = 4 ∧ s.vm.findClass R_law = some m.cls ∧ (∀ w ∈ lw_tbl, w.before #[Value.ref b] s = true) ∧ va_X b L xs s s.heap ∧ b < s.heap.size ∧ meth.locks = false ∧ (Jvm.Cond.and given_1 narrow_1).before #[Value.ref b] s = true

/-! ===== the judgements: wa (a frame of a method, over a memory), ma (a method's contract, over a memory) ===== -/
/-- a method: its name, its bytes, its locals, what it returns -/
abbrev mm_J : Type := MethodName × ByteArray × Nat × Option FieldType
def mm_ws (J : mm_J) : List Cond := Cond.code J.1 J.2.1 J.2.2.1 J.2.2.2 :: gt_ws
def mm_rm (d mc ms : Nat) : Room := { frames := d, cells := mc, slots := ms, locals := 80 * d }
def mm_tys (G : mm_G) : List (ClassId × FieldType) := [(G.2.1 0, mm_el 0), (G.2.1 1, mm_el 1), (G.2.1 2, mm_el 2), (G.2.1 3, mm_el 3), (G.2.1 4, mm_el 4), (G.2.1 5, mm_el 5), (G.2.1 6, mm_el 6), (G.2.1 7, mm_el 7), (G.2.1 8, mm_el 8), (G.2.1 9, mm_el 9)]
theorem mm_tys_at (G : mm_G) {k : Nat} (hk : k < 10) : (mm_tys G)[k]? = some (G.2.1 k, mm_el k) := by
  match k, hk with
  | 0, _ => rfl
  | 1, _ => rfl
  | 2, _ => rfl
  | 3, _ => rfl
  | 4, _ => rfl
  | 5, _ => rfl
  | 6, _ => rfl
  | 7, _ => rfl
  | 8, _ => rfl
  | 9, _ => rfl
  | n + 10, h => exact absurd h (by omega)
/-- words of a nest, casts and arrays of classes: not among those that a contract carries -/
def mm_nw : List Cond := [.fieldLinkNest "ConsulDesk$Change" 7 "ConsulDesk" "WORTHS" "[I" "ConsulDesk", .fieldLinkNest "ConsulDesk$Port" 9 "ConsulDesk" "WORTHS" "[I" "ConsulDesk", .fieldLinkNest "ConsulDesk$Change" 34 "ConsulDesk" "SPARED" "[I" "ConsulDesk", .fieldLinkNest "ConsulDesk$Paper" 40 "ConsulDesk" "WORTHS" "[I" "ConsulDesk", .fieldLinkNest "ConsulDeskModel" 129 "ConsulDeskModel$Stop" "kind" "I" "ConsulDeskModel", .fieldLinkNest "ConsulDeskModel" 134 "ConsulDeskModel$Stop" "place" "I" "ConsulDeskModel",
  .methodLinkNest "ConsulDesk" 29 ⟨"ConsulDesk$Tape", "<init>", "()V"⟩ "ConsulDesk", .methodLinkNest "ConsulDesk" 36 ⟨"ConsulDesk$Tokens", "<init>", "()V"⟩ "ConsulDesk", .methodLinkNest "ConsulDesk" 52 ⟨"ConsulDesk$Change", "<init>", "()V"⟩ "ConsulDesk", .methodLinkNest "ConsulDesk$Port" 66 ⟨"ConsulDesk", "accountsBelow", "(I)I"⟩ "ConsulDesk",
  .castable "[I" "java/lang/Cloneable", .castable "ConsulDeskModel$Stop" "ConsulDeskModel$Stop",
  .arrayOver (.object "ConsulDesk$Port"), .arrayOver (.object "ConsulDesk$Tariff"), .arrayOver (.object "ConsulDesk$Paper"), .arrayOver (.object "ConsulDesk$Line"), .arrayOver (.object "ConsulDesk$Test"), .arrayOver (.object "ConsulDesk$Term")]
theorem mm_nw_warm : ∀ w ∈ mm_nw, ∀ s U : State, s.WarmedH U.vm → va_Nw w s → va_Nw w U := by
  intro w hw s U hW h
  unfold mm_nw at hw
  simp only [List.mem_cons, List.not_mem_nil, or_false] at hw
  rcases hw with rfl | rfl | rfl | rfl | rfl | rfl | rfl | rfl | rfl | rfl | rfl | rfl | rfl | rfl | rfl | rfl | rfl | rfl
  all_goals first | exact va_Nw.warmF hW h | exact va_Nw.warmM hW h | exact va_Nw.warmC hW h | exact va_AO.moved hW.alike h
theorem mm_nw_same : ∀ w ∈ mm_nw, ∀ s U : State, s.vm = U.vm → va_Nw w s → va_Nw w U := by
  intro w hw s U hv h
  unfold mm_nw at hw
  simp only [List.mem_cons, List.not_mem_nil, or_false] at hw
  have hal : s.vm.Alike U.vm := by rw [hv]; exact Vm.Alike.refl U.vm
  rcases hw with rfl | rfl | rfl | rfl | rfl | rfl | rfl | rfl | rfl | rfl | rfl | rfl | rfl | rfl | rfl | rfl | rfl | rfl
  all_goals first | exact va_AO.moved hal h | exact va_Nw.same rfl hv h
/-- the statics that nobody writes -/
def mm_Zn : List (String × String × String) := [("ConsulDesk", "WORTHS", "[I"), ("ConsulDesk", "SPARED", "[I"), ("ConsulDeskModel", "WORTH", "[I"), ("java/lang/String", "COMPACT_STRINGS", "Z"), ("java/lang/Throwable", "UNASSIGNED_STACK", "[Ljava/lang/StackTraceElement;"), ("java/lang/Throwable", "SUPPRESSED_SENTINEL", "Ljava/util/List;"), ("jdk/internal/util/Preconditions", "SIOOBE_FORMATTER", "Ljava/util/function/BiFunction;")]
/-- the texts: their lengths and bytes; where each is named -/
def mm_tl : List Nat := [3, 4, 3, 2, 5, 6, 4, 6, 7]
def mm_tx : List (List Int32) := [[102, 101, 101], [119, 104, 101, 110], [97, 110, 100], [105, 115], [118, 97, 108, 117, 101], [115, 104, 101, 101, 116, 115], [112, 111, 114, 116], [115, 101, 97, 108, 101, 100], [60, 62, 61, 43, 42, 47, 59]]
def mm_tr : List (String × Nat × String × Nat) := [("ConsulDesk$Tokens", 68, "fee", 0), ("ConsulDesk$Tokens", 74, "when", 1), ("ConsulDesk$Tokens", 76, "and", 2), ("ConsulDesk$Tokens", 78, "is", 3), ("ConsulDesk$Tokens", 80, "value", 4), ("ConsulDesk$Tokens", 82, "sheets", 5), ("ConsulDesk$Tokens", 84, "port", 6), ("ConsulDesk$Tokens", 86, "sealed", 7), ("ConsulDesk$Tokens", 58, "<>=+*/;", 8),
  ("ConsulDeskModel", 181, "fee", 0), ("ConsulDeskModel", 186, "when", 1), ("ConsulDeskModel", 188, "and", 2), ("ConsulDeskModel", 190, "is", 3), ("ConsulDeskModel", 195, "value", 4), ("ConsulDeskModel", 196, "sheets", 5), ("ConsulDeskModel", 197, "port", 6), ("ConsulDeskModel", 199, "sealed", 7)]
def mm_fr (G : mm_G) : Nat → Prop := fun a => mm_sz G ≤ a
/-- what the tables, the statics and the texts are, at a state with a heap -/
def mm_K (G : mm_G) (U : State) : Prop := va_K G.1 mm_cl (mm_tys G) U ∧ (∀ w ∈ mm_nw, va_Nw w U) ∧ ∀ q ∈ mm_tr, vk_R q.1 q.2.1 q.2.2.1 (G.2.2.2.2.1 q.2.2.2) U
def mm_Z (G : mm_G) (U : State) (H : Heap) : Prop := (∀ (k : Nat) (q : String × String × String), mm_Zn[k]? = some q → va_Z q.1 q.2.1 q.2.2 (G.2.2.2.1 k) (mm_fr G) U H) ∧ vk_S 9 mm_tl mm_tx G.2.2.2.2.1 G.2.2.2.2.2 (mm_fr G) U H
theorem mm_K_warm {G : mm_G} {s U : State} (hW : s.WarmedH U.vm) (h : mm_K G s) : mm_K G U := ⟨va_K.moved hW.alike h.1, fun w hw => mm_nw_warm w hw s U hW (h.2.1 w hw), fun q hq => vk_R.warm hW (h.2.2 q hq)⟩
theorem mm_K_same {G : mm_G} {s U : State} (hv : s.vm = U.vm) (h : mm_K G s) : mm_K G U := ⟨va_K.moved (u := s) (by rw [hv]; exact Vm.Alike.refl U.vm) h.1, fun w hw => mm_nw_same w hw s U hv (h.2.1 w hw), fun q hq => vk_R.same hv.symm (h.2.2 q hq)⟩
theorem mm_Z_moved {G : mm_G} {u U : State} {H : Heap} (hvm : u.vm.Alike U.vm) (h : mm_Z G u H) : mm_Z G U H := ⟨fun k q hq => va_Z.moved hvm (h.1 k q hq), vk_S.moved hvm h.2⟩
theorem mm_Z_kept {G : mm_G} {U : State} {H H1 : Heap} (h : mm_Z G U H) (hq : ∀ a : Nat, a < H.size → ¬ mm_fr G a → H1[a]? = H[a]?) : mm_Z G U H1 := ⟨fun k q h1 => (h.1 k q h1).kept hq, h.2.kept hq⟩
def mm_pre (G : mm_G) (M : mm_M) (U : State) : Prop := mm_ok G M U U.heap ∧ mm_K G U ∧ mm_Z G U U.heap ∧ mm_sz G ≤ U.heap.size
def mm_post (G : mm_G) (Q : Option Value → mm_M → Prop) : Array Value → State → Outcome → State → Prop := fun _ st oc t => (∃ (o : Option Value) (M' : mm_M), oc = .returned o ∧ Q o M' ∧ mm_ok G M' t t.heap) ∧ va_F (mm_fr G) st t
/-- the contract: called with av in the memory M it returns, Q -/
def ma_ (G : mm_G) (J : mm_J) (d mc ms : Nat) (av : List Value) (M : mm_M) (Q : Option Value → mm_M → Prop) : Prop := ∀ l : Launch, Met l J.1 (mm_ws J) (mm_rm d mc ms) (va_Pc av (mm_pre G M)) (mm_post G Q) mc ms (mm_fr G)
def wa_E (fl : Bool) (G : mm_G) (Q : Option Value → mm_M → Prop) (mc ms : Nat) (below : List Frame) (args : Array Value) (s : State) : State → Prop := match fl with
  | false => MQ below (mm_post G Q) args s mc ms (mm_fr G)
  | true => lw_Z below args s
def wa_C (G : mm_G) (J : mm_J) (d mc ms : Nat) (p : Program) (R : Room) (s : State) (m : MethodId) (args : Array Value) (meth : Method) (c : Code) : Prop :=
  (p.tables.exec = Jvm.exec ∧ c.code = J.2.1 ∧ c.maxLocals = J.2.2.1 ∧ s.vm.findClass J.1.cls = some m.cls ∧ ∀ w ∈ gt_ws, w.before args s = true) ∧ meth.sig.returnType = J.2.2.2 ∧ meth.locks = false ∧ meth.name = J.1.name ∧ mm_K G s ∧ mm_Z G s s.heap ∧ mm_sz G ≤ s.heap.size ∧ (mc ≤ R.cells ∧ ms ≤ R.slots ∧ d ≤ R.frames ∧ 80 * d ≤ R.locals)
/-- a frame of J at pc with locals lv and stack st, over the memory M, comes to the method's end with Q; kc cells of ks slots are still to be made -/
def wa_ (fl : Bool) (G : mm_G) (J : mm_J) (d mc ms : Nat) (Q : Option Value → mm_M → Prop) (kc ks : Nat) (M : mm_M) (pc : Nat) (lv : List (Option Value)) (st : List Value) : Prop :=
  ∀ (p : Program) (l : Launch) (e : Env) (R : Room) (s : State) (m : MethodId) (args : Array Value) (below : List Frame) (meth : Method) (c : Code) (H : Heap) (locs : List Loc) (cells slots : Nat) (ls : Array Slot),
    wa_C G J d mc ms p R s m args meth c → mm_ok G M s H → va_S (mm_fr G) s.heap H locs → cells + kc ≤ mc → slots + ks ≤ ms → mm_lv ls J.2.2.1 lv →
    W p l e R s m args below meth c H locs cells slots (wa_E fl G Q mc ms below args s) (F0 m pc ls st)
theorem mm_S_new {G : mm_G} {H0 H H1 : Heap} {locs : List Loc} (h : va_S (mm_fr G) H0 H locs) (z : H.size ≤ H1.size) (o : ∀ q : Nat, q < H.size → H1[q]? = H[q]?) : va_S (mm_fr G) H0 H1 locs :=
  ⟨Nat.le_trans h.1 z, fun q h1 h2 => (o q (Nat.lt_of_lt_of_le h1 h.1)).trans (h.2.1 q h1 h2), h.2.2⟩
theorem ma_of {G : mm_G} {J : mm_J} {d mc ms : Nat} {av : List Value} {M : mm_M} {Q : Option Value → mm_M → Prop} (lv : List (Option Value)) (hy : plainName J.1.cls = true) (hlv : mm_pl lv = lv_args 0 av) (hlen : (lg_sl av).length ≤ J.2.2.1) (h : wa_ false G J d mc ms Q mc ms M 0 lv []) : ma_ G J d mc ms av M Q := by
  intro l
  refine Met.ofW (cc := J.2.1) (maxL := J.2.2.1) (ret := J.2.2.2) hy rfl ?_
  intro p e s m args below meth c s₁ B hml hv
  obtain ⟨rfl, hok, hK, hZ, hsz⟩ := hv
  have hts := atoms_spec (ws := mm_ws J) B.pre
  have hl := lv_entry av (n := J.2.2.1) hlen
  rw [← hlv] at hl
  rw [lg_entry_eq]
  exact h p l e _ s m av.toArray below meth c s.heap [] 0 0 _ ⟨⟨B.exec, B.bytes, hml, findClass_of_methodNamed B.named, fun w hw => hts w (List.mem_cons_of_mem _ hw)⟩, B.returns, B.notSynchronized, (name_of_methodNamed B.named B.method).1, hK, hZ, hsz, Nat.le_refl _, Nat.le_refl _, Nat.le_refl _, Nat.le_refl _⟩ hok va_S.rf (Nat.le_of_eq (Nat.zero_add _)) (Nat.le_of_eq (Nat.zero_add _)) hl
end
section
section ROWS1
variable {fl : Bool} {G : mm_G} {J : mm_J} {d mc ms kc ks : Nat} {Q : Option Value → mm_M → Prop} {M : mm_M} {pc : Nat} {lv : List (Option Value)} {st : List Value}
theorem wa_iconst {n : Int} {v : Int32} (hd : decode J.2.1 pc = .ok (.iconst n, 1)) (hv : Int32.ofInt n = v) (kk : wa_ fl G J d mc ms Q kc ks M (pc + 1) lv (.int v :: st)) : wa_ fl G J d mc ms Q kc ks M pc lv st := by
  intro p l e R s m args below meth c H locs cells slots ls C hok hS hc hs hl
  exact lv_iconst C.1.1 C.1.2.1 hd hv (kk p l e R s m args below meth c H locs cells slots ls C hok hS hc hs hl)
theorem wa_bipush {n : Int} {v : Int32} (hd : decode J.2.1 pc = .ok (.bipush n, 2)) (hv : (Int8.ofInt n).toInt32 = v) (kk : wa_ fl G J d mc ms Q kc ks M (pc + 2) lv (.int v :: st)) : wa_ fl G J d mc ms Q kc ks M pc lv st := by
  intro p l e R s m args below meth c H locs cells slots ls C hok hS hc hs hl
  exact lv_bipush C.1.1 C.1.2.1 hd hv (kk p l e R s m args below meth c H locs cells slots ls C hok hS hc hs hl)
theorem wa_sipush {n : Int} {v : Int32} (hd : decode J.2.1 pc = .ok (.sipush n, 3)) (hv : (Int16.ofInt n).toInt32 = v) (kk : wa_ fl G J d mc ms Q kc ks M (pc + 3) lv (.int v :: st)) : wa_ fl G J d mc ms Q kc ks M pc lv st := by
  intro p l e R s m args below meth c H locs cells slots ls C hok hS hc hs hl
  exact lv_sipush C.1.1 C.1.2.1 hd hv (kk p l e R s m args below meth c H locs cells slots ls C hok hS hc hs hl)
theorem wa_lconst {n : Fin 2} {v : Int64} (hd : decode J.2.1 pc = .ok (.lconst n, 1)) (hv : Int64.ofNat (n : Nat) = v) (kk : wa_ fl G J d mc ms Q kc ks M (pc + 1) lv (.long v :: st)) : wa_ fl G J d mc ms Q kc ks M pc lv st := by
  intro p l e R s m args below meth c H locs cells slots ls C hok hS hc hs hl
  exact lv_lconst C.1.1 C.1.2.1 hd hv (kk p l e R s m args below meth c H locs cells slots ls C hok hS hc hs hl)
theorem wa_iload_n {k : Fin 4} {x : Int32} (hd : decode J.2.1 pc = .ok (.iload_n k, 1)) (hv : lv[(k : Nat)]? = some (some (.int x))) (kk : wa_ fl G J d mc ms Q kc ks M (pc + 1) lv (.int x :: st)) : wa_ fl G J d mc ms Q kc ks M pc lv st := by
  intro p l e R s m args below meth c H locs cells slots ls C hok hS hc hs hl
  exact lv_iload_n C.1.1 C.1.2.1 hd rfl (mm_lv_at hl hv) (kk p l e R s m args below meth c H locs cells slots ls C hok hS hc hs hl)
theorem wa_iload {i : Nat} {x : Int32} (hd : decode J.2.1 pc = .ok (.iload i, 2)) (hv : lv[i]? = some (some (.int x))) (kk : wa_ fl G J d mc ms Q kc ks M (pc + 2) lv (.int x :: st)) : wa_ fl G J d mc ms Q kc ks M pc lv st := by
  intro p l e R s m args below meth c H locs cells slots ls C hok hS hc hs hl
  exact lv_iload C.1.1 C.1.2.1 hd (mm_lv_at hl hv) (kk p l e R s m args below meth c H locs cells slots ls C hok hS hc hs hl)
theorem wa_lload_n {k : Fin 4} {x : Int64} (hd : decode J.2.1 pc = .ok (.lload_n k, 1)) (hv : lv[(k : Nat)]? = some (some (.long x))) (kk : wa_ fl G J d mc ms Q kc ks M (pc + 1) lv (.long x :: st)) : wa_ fl G J d mc ms Q kc ks M pc lv st := by
  intro p l e R s m args below meth c H locs cells slots ls C hok hS hc hs hl
  exact lv_lload_n C.1.1 C.1.2.1 hd rfl (mm_lv_at hl hv) (kk p l e R s m args below meth c H locs cells slots ls C hok hS hc hs hl)
theorem wa_lload {i : Nat} {x : Int64} (hd : decode J.2.1 pc = .ok (.lload i, 2)) (hv : lv[i]? = some (some (.long x))) (kk : wa_ fl G J d mc ms Q kc ks M (pc + 2) lv (.long x :: st)) : wa_ fl G J d mc ms Q kc ks M pc lv st := by
  intro p l e R s m args below meth c H locs cells slots ls C hok hS hc hs hl
  exact lv_lload C.1.1 C.1.2.1 hd (mm_lv_at hl hv) (kk p l e R s m args below meth c H locs cells slots ls C hok hS hc hs hl)
def mm_isr : Value → Bool
  | .ref _ => true
  | .null => true
  | _ => false
theorem wa_aload_n {k : Fin 4} {v : Value} (hd : decode J.2.1 pc = .ok (.aload_n k, 1)) (hv : lv[(k : Nat)]? = some (some v)) (hr : mm_isr v = true) (kk : wa_ fl G J d mc ms Q kc ks M (pc + 1) lv (v :: st)) : wa_ fl G J d mc ms Q kc ks M pc lv st := by
  intro p l e R s m args below meth c H locs cells slots ls C hok hS hc hs hl
  cases v with
  | ref x => exact lv_aload_n C.1.1 C.1.2.1 hd rfl (mm_lv_at hl hv) (kk p l e R s m args below meth c H locs cells slots ls C hok hS hc hs hl)
  | null => exact lv_aload_nN C.1.1 C.1.2.1 hd rfl (mm_lv_at hl hv) (kk p l e R s m args below meth c H locs cells slots ls C hok hS hc hs hl)
  | _ => cases hr
theorem wa_aload {i : Nat} {v : Value} (hd : decode J.2.1 pc = .ok (.aload i, 2)) (hv : lv[i]? = some (some v)) (hr : mm_isr v = true) (kk : wa_ fl G J d mc ms Q kc ks M (pc + 2) lv (v :: st)) : wa_ fl G J d mc ms Q kc ks M pc lv st := by
  intro p l e R s m args below meth c H locs cells slots ls C hok hS hc hs hl
  cases v with
  | ref x => exact lv_aload C.1.1 C.1.2.1 hd (mm_lv_at hl hv) (kk p l e R s m args below meth c H locs cells slots ls C hok hS hc hs hl)
  | null => exact lv_aloadN C.1.1 C.1.2.1 hd (mm_lv_at hl hv) (kk p l e R s m args below meth c H locs cells slots ls C hok hS hc hs hl)
  | _ => cases hr
theorem wa_istore_n {k : Fin 4} {x : Int32} {lv' : List (Option Value)} (hd : decode J.2.1 pc = .ok (.istore_n k, 1)) (hn : (k : Nat) < J.2.2.1) (hcat : mm_c1 lv (k : Nat) = true) (hlv : lv.set (k : Nat) (some (.int x)) = lv') (kk : wa_ fl G J d mc ms Q kc ks M (pc + 1) lv' st) : wa_ fl G J d mc ms Q kc ks M pc lv (.int x :: st) := by
  intro p l e R s m args below meth c H locs cells slots ls C hok hS hc hs hl
  exact lv_istore_n C.1.1 C.1.2.1 hd rfl hl hn rfl (fun ls' h' => kk p l e R s m args below meth c H locs cells slots ls' C hok hS hc hs (by subst hlv; exact mm_lv_set1 hcat h'))
theorem wa_istore {i : Nat} {x : Int32} {lv' : List (Option Value)} (hd : decode J.2.1 pc = .ok (.istore i, 2)) (hn : i < J.2.2.1) (hcat : mm_c1 lv i = true) (hlv : lv.set i (some (.int x)) = lv') (kk : wa_ fl G J d mc ms Q kc ks M (pc + 2) lv' st) : wa_ fl G J d mc ms Q kc ks M pc lv (.int x :: st) := by
  intro p l e R s m args below meth c H locs cells slots ls C hok hS hc hs hl
  exact lv_istore C.1.1 C.1.2.1 hd hl hn rfl (fun ls' h' => kk p l e R s m args below meth c H locs cells slots ls' C hok hS hc hs (by subst hlv; exact mm_lv_set1 hcat h'))
theorem wa_iinc {i : Nat} {n : Int} {x v : Int32} {lv' : List (Option Value)} (hd : decode J.2.1 pc = .ok (.iinc i n, 3)) (hx : lv[i]? = some (some (.int x))) (hv : x + Int32.ofInt n = v) (hn : i < J.2.2.1) (hcat : mm_c1 lv i = true) (hlv : lv.set i (some (.int v)) = lv') (kk : wa_ fl G J d mc ms Q kc ks M (pc + 3) lv' st) : wa_ fl G J d mc ms Q kc ks M pc lv st := by
  intro p l e R s m args below meth c H locs cells slots ls C hok hS hc hs hl
  obtain ⟨k, hk⟩ := List.getElem?_of_mem (mm_pl_mem.mpr hx : (i, Value.int x) ∈ mm_pl lv)
  exact lv_iinc C.1.1 C.1.2.1 hd hl hk hv hn rfl (fun ls' h' => kk p l e R s m args below meth c H locs cells slots ls' C hok hS hc hs (by subst hlv; exact mm_lv_set1 hcat h'))
theorem wa_lstore_n {k : Fin 4} {x : Int64} {lv' : List (Option Value)} (hd : decode J.2.1 pc = .ok (.lstore_n k, 1)) (hn : (k : Nat) + 1 < J.2.2.1) (hcat : mm_c1 lv (k : Nat) = true) (hlv : (lv.set (k : Nat) (some (.long x))).set ((k : Nat) + 1) none = lv') (kk : wa_ fl G J d mc ms Q kc ks M (pc + 1) lv' st) : wa_ fl G J d mc ms Q kc ks M pc lv (.long x :: st) := by
  intro p l e R s m args below meth c H locs cells slots ls C hok hS hc hs hl
  exact lv_lstore_n C.1.1 C.1.2.1 hd rfl hl hn rfl (fun ls' h' => kk p l e R s m args below meth c H locs cells slots ls' C hok hS hc hs (by subst hlv; exact mm_lv_set2 hcat h'))
theorem wa_lstore {i : Nat} {x : Int64} {lv' : List (Option Value)} (hd : decode J.2.1 pc = .ok (.lstore i, 2)) (hn : i + 1 < J.2.2.1) (hcat : mm_c1 lv i = true) (hlv : (lv.set i (some (.long x))).set (i + 1) none = lv') (kk : wa_ fl G J d mc ms Q kc ks M (pc + 2) lv' st) : wa_ fl G J d mc ms Q kc ks M pc lv (.long x :: st) := by
  intro p l e R s m args below meth c H locs cells slots ls C hok hS hc hs hl
  exact lv_lstore C.1.1 C.1.2.1 hd hl hn rfl (fun ls' h' => kk p l e R s m args below meth c H locs cells slots ls' C hok hS hc hs (by subst hlv; exact mm_lv_set2 hcat h'))
theorem wa_astore_n {k : Fin 4} {lv' : List (Option Value)} {v : Value} (hd : decode J.2.1 pc = .ok (.astore_n k, 1)) (hn : (k : Nat) < J.2.2.1) (hcat : mm_c1 lv (k : Nat) = true) (hlv : lv.set (k : Nat) (some (v)) = lv') (hr : mm_isr v = true) (kk : wa_ fl G J d mc ms Q kc ks M (pc + 1) lv' st) : wa_ fl G J d mc ms Q kc ks M pc lv (v :: st) := by
  intro p l e R s m args below meth c H locs cells slots ls C hok hS hc hs hl
  cases v with
  | ref x => exact lv_astore_n C.1.1 C.1.2.1 hd rfl hl hn rfl (fun ls' h' => kk p l e R s m args below meth c H locs cells slots ls' C hok hS hc hs (by subst hlv; exact mm_lv_set1 hcat h'))
  | null => exact lv_astore_nN C.1.1 C.1.2.1 hd rfl hl hn rfl (fun ls' h' => kk p l e R s m args below meth c H locs cells slots ls' C hok hS hc hs (by subst hlv; exact mm_lv_set1 hcat h'))
  | _ => cases hr
theorem wa_astore {i : Nat} {lv' : List (Option Value)} {v : Value} (hd : decode J.2.1 pc = .ok (.astore i, 2)) (hn : i < J.2.2.1) (hcat : mm_c1 lv i = true) (hlv : lv.set i (some (v)) = lv') (hr : mm_isr v = true) (kk : wa_ fl G J d mc ms Q kc ks M (pc + 2) lv' st) : wa_ fl G J d mc ms Q kc ks M pc lv (v :: st) := by
  intro p l e R s m args below meth c H locs cells slots ls C hok hS hc hs hl
  cases v with
  | ref x => exact lv_astore C.1.1 C.1.2.1 hd hl hn rfl (fun ls' h' => kk p l e R s m args below meth c H locs cells slots ls' C hok hS hc hs (by subst hlv; exact mm_lv_set1 hcat h'))
  | null => exact lv_astoreN C.1.1 C.1.2.1 hd hl hn rfl (fun ls' h' => kk p l e R s m args below meth c H locs cells slots ls' C hok hS hc hs (by subst hlv; exact mm_lv_set1 hcat h'))
  | _ => cases hr
theorem wa_iadd {x y : Int32} (hd : decode J.2.1 pc = .ok (.iadd, 1))  (kk : wa_ fl G J d mc ms Q kc ks M (pc + 1) lv (.int (x + y) :: st)) : wa_ fl G J d mc ms Q kc ks M pc lv (.int y :: .int x :: st) := by
  intro p l e R s m args below meth c H locs cells slots ls C hok hS hc hs hl
  exact lv_iadd C.1.1 C.1.2.1 hd (kk p l e R s m args below meth c H locs cells slots ls C hok hS hc hs hl)
theorem wa_isub {x y : Int32} (hd : decode J.2.1 pc = .ok (.isub, 1))  (kk : wa_ fl G J d mc ms Q kc ks M (pc + 1) lv (.int (x - y) :: st)) : wa_ fl G J d mc ms Q kc ks M pc lv (.int y :: .int x :: st) := by
  intro p l e R s m args below meth c H locs cells slots ls C hok hS hc hs hl
  exact lv_isub C.1.1 C.1.2.1 hd (kk p l e R s m args below meth c H locs cells slots ls C hok hS hc hs hl)
theorem wa_imul {x y : Int32} (hd : decode J.2.1 pc = .ok (.imul, 1))  (kk : wa_ fl G J d mc ms Q kc ks M (pc + 1) lv (.int (x * y) :: st)) : wa_ fl G J d mc ms Q kc ks M pc lv (.int y :: .int x :: st) := by
  intro p l e R s m args below meth c H locs cells slots ls C hok hS hc hs hl
  exact lv_imul C.1.1 C.1.2.1 hd (kk p l e R s m args below meth c H locs cells slots ls C hok hS hc hs hl)
theorem wa_iand {x y : Int32} (hd : decode J.2.1 pc = .ok (.iand, 1))  (kk : wa_ fl G J d mc ms Q kc ks M (pc + 1) lv (.int (x &&& y) :: st)) : wa_ fl G J d mc ms Q kc ks M pc lv (.int y :: .int x :: st) := by
  intro p l e R s m args below meth c H locs cells slots ls C hok hS hc hs hl
  exact lv_iand C.1.1 C.1.2.1 hd (kk p l e R s m args below meth c H locs cells slots ls C hok hS hc hs hl)
theorem wa_ishl {x y : Int32} (hd : decode J.2.1 pc = .ok (.ishl, 1))  (kk : wa_ fl G J d mc ms Q kc ks M (pc + 1) lv (.int (x <<< (y &&& 31)) :: st)) : wa_ fl G J d mc ms Q kc ks M pc lv (.int y :: .int x :: st) := by
  intro p l e R s m args below meth c H locs cells slots ls C hok hS hc hs hl
  exact lv_ishl C.1.1 C.1.2.1 hd (kk p l e R s m args below meth c H locs cells slots ls C hok hS hc hs hl)
theorem wa_ishr {x y : Int32} (hd : decode J.2.1 pc = .ok (.ishr, 1))  (kk : wa_ fl G J d mc ms Q kc ks M (pc + 1) lv (.int (x >>> (y &&& 31)) :: st)) : wa_ fl G J d mc ms Q kc ks M pc lv (.int y :: .int x :: st) := by
  intro p l e R s m args below meth c H locs cells slots ls C hok hS hc hs hl
  exact lv_ishr C.1.1 C.1.2.1 hd (kk p l e R s m args below meth c H locs cells slots ls C hok hS hc hs hl)
theorem wa_idiv {x y : Int32} (hd : decode J.2.1 pc = .ok (.idiv, 1)) (hne : ¬ y = 0) (kk : wa_ fl G J d mc ms Q kc ks M (pc + 1) lv (.int (x / y) :: st)) : wa_ fl G J d mc ms Q kc ks M pc lv (.int y :: .int x :: st) := by
  intro p l e R s m args below meth c H locs cells slots ls C hok hS hc hs hl
  exact lv_idiv C.1.1 C.1.2.1 hd hne (kk p l e R s m args below meth c H locs cells slots ls C hok hS hc hs hl)
theorem wa_irem {x y : Int32} (hd : decode J.2.1 pc = .ok (.irem, 1)) (hne : ¬ y = 0) (kk : wa_ fl G J d mc ms Q kc ks M (pc + 1) lv (.int (x - x / y * y) :: st)) : wa_ fl G J d mc ms Q kc ks M pc lv (.int y :: .int x :: st) := by
  intro p l e R s m args below meth c H locs cells slots ls C hok hS hc hs hl
  exact lv_irem C.1.1 C.1.2.1 hd hne (kk p l e R s m args below meth c H locs cells slots ls C hok hS hc hs hl)
theorem wa_iushr {x y : Int32} (hd : decode J.2.1 pc = .ok (.iushr, 1))  (kk : wa_ fl G J d mc ms Q kc ks M (pc + 1) lv (.int ((x.toUInt32 >>> (y.toUInt32 &&& Int32.toUInt32 31)).toInt32) :: st)) : wa_ fl G J d mc ms Q kc ks M pc lv (.int y :: .int x :: st) := by
  intro p l e R s m args below meth c H locs cells slots ls C hok hS hc hs hl
  exact lv_iushr C.1.1 C.1.2.1 hd rfl (kk p l e R s m args below meth c H locs cells slots ls C hok hS hc hs hl)
theorem wa_ineg {x : Int32} (hd : decode J.2.1 pc = .ok (.ineg, 1))  (kk : wa_ fl G J d mc ms Q kc ks M (pc + 1) lv (.int (-x) :: st)) : wa_ fl G J d mc ms Q kc ks M pc lv (.int x :: st) := by
  intro p l e R s m args below meth c H locs cells slots ls C hok hS hc hs hl
  exact lv_ineg C.1.1 C.1.2.1 hd (kk p l e R s m args below meth c H locs cells slots ls C hok hS hc hs hl)
theorem wa_i2l {x : Int32} (hd : decode J.2.1 pc = .ok (.i2l, 1))  (kk : wa_ fl G J d mc ms Q kc ks M (pc + 1) lv (.long x.toInt64 :: st)) : wa_ fl G J d mc ms Q kc ks M pc lv (.int x :: st) := by
  intro p l e R s m args below meth c H locs cells slots ls C hok hS hc hs hl
  exact lv_i2l C.1.1 C.1.2.1 hd rfl (kk p l e R s m args below meth c H locs cells slots ls C hok hS hc hs hl)
theorem wa_l2i {x : Int64} (hd : decode J.2.1 pc = .ok (.l2i, 1))  (kk : wa_ fl G J d mc ms Q kc ks M (pc + 1) lv (.int x.toInt32 :: st)) : wa_ fl G J d mc ms Q kc ks M pc lv (.long x :: st) := by
  intro p l e R s m args below meth c H locs cells slots ls C hok hS hc hs hl
  exact lv_l2i C.1.1 C.1.2.1 hd rfl (kk p l e R s m args below meth c H locs cells slots ls C hok hS hc hs hl)
theorem wa_i2b {x : Int32} (hd : decode J.2.1 pc = .ok (.i2b, 1))  (kk : wa_ fl G J d mc ms Q kc ks M (pc + 1) lv (.int x.toInt8.toInt32 :: st)) : wa_ fl G J d mc ms Q kc ks M pc lv (.int x :: st) := by
  intro p l e R s m args below meth c H locs cells slots ls C hok hS hc hs hl
  exact lv_i2b C.1.1 C.1.2.1 hd rfl (kk p l e R s m args below meth c H locs cells slots ls C hok hS hc hs hl)
theorem wa_i2c {x : Int32} (hd : decode J.2.1 pc = .ok (.i2c, 1))  (kk : wa_ fl G J d mc ms Q kc ks M (pc + 1) lv (.int (x.toUInt32 % 65536).toInt32 :: st)) : wa_ fl G J d mc ms Q kc ks M pc lv (.int x :: st) := by
  intro p l e R s m args below meth c H locs cells slots ls C hok hS hc hs hl
  exact lv_i2c C.1.1 C.1.2.1 hd rfl (kk p l e R s m args below meth c H locs cells slots ls C hok hS hc hs hl)
theorem wa_ladd {x y : Int64} (hd : decode J.2.1 pc = .ok (.ladd, 1))  (kk : wa_ fl G J d mc ms Q kc ks M (pc + 1) lv (.long (x + y) :: st)) : wa_ fl G J d mc ms Q kc ks M pc lv (.long y :: .long x :: st) := by
  intro p l e R s m args below meth c H locs cells slots ls C hok hS hc hs hl
  exact lv_ladd C.1.1 C.1.2.1 hd (kk p l e R s m args below meth c H locs cells slots ls C hok hS hc hs hl)
theorem wa_lsub {x y : Int64} (hd : decode J.2.1 pc = .ok (.lsub, 1))  (kk : wa_ fl G J d mc ms Q kc ks M (pc + 1) lv (.long (x - y) :: st)) : wa_ fl G J d mc ms Q kc ks M pc lv (.long y :: .long x :: st) := by
  intro p l e R s m args below meth c H locs cells slots ls C hok hS hc hs hl
  exact lv_lsub C.1.1 C.1.2.1 hd (kk p l e R s m args below meth c H locs cells slots ls C hok hS hc hs hl)
theorem wa_lmul {x y : Int64} (hd : decode J.2.1 pc = .ok (.lmul, 1))  (kk : wa_ fl G J d mc ms Q kc ks M (pc + 1) lv (.long (x * y) :: st)) : wa_ fl G J d mc ms Q kc ks M pc lv (.long y :: .long x :: st) := by
  intro p l e R s m args below meth c H locs cells slots ls C hok hS hc hs hl
  exact lv_lmul C.1.1 C.1.2.1 hd (kk p l e R s m args below meth c H locs cells slots ls C hok hS hc hs hl)
theorem wa_land {x y : Int64} (hd : decode J.2.1 pc = .ok (.land, 1))  (kk : wa_ fl G J d mc ms Q kc ks M (pc + 1) lv (.long (x &&& y) :: st)) : wa_ fl G J d mc ms Q kc ks M pc lv (.long y :: .long x :: st) := by
  intro p l e R s m args below meth c H locs cells slots ls C hok hS hc hs hl
  exact lv_land C.1.1 C.1.2.1 hd (kk p l e R s m args below meth c H locs cells slots ls C hok hS hc hs hl)
theorem wa_lshl {x : Int64} {y : Int32} (hd : decode J.2.1 pc = .ok (.lshl, 1))  (kk : wa_ fl G J d mc ms Q kc ks M (pc + 1) lv (.long (x <<< (y.toInt64 &&& 63)) :: st)) : wa_ fl G J d mc ms Q kc ks M pc lv (.int y :: .long x :: st) := by
  intro p l e R s m args below meth c H locs cells slots ls C hok hS hc hs hl
  exact lv_lshl C.1.1 C.1.2.1 hd rfl (kk p l e R s m args below meth c H locs cells slots ls C hok hS hc hs hl)
theorem wa_lshr {x : Int64} {y : Int32} (hd : decode J.2.1 pc = .ok (.lshr, 1))  (kk : wa_ fl G J d mc ms Q kc ks M (pc + 1) lv (.long (x >>> (y.toInt64 &&& 63)) :: st)) : wa_ fl G J d mc ms Q kc ks M pc lv (.int y :: .long x :: st) := by
  intro p l e R s m args below meth c H locs cells slots ls C hok hS hc hs hl
  exact lv_lshr C.1.1 C.1.2.1 hd rfl (kk p l e R s m args below meth c H locs cells slots ls C hok hS hc hs hl)
theorem wa_lcmp {x y : Int64} (hd : decode J.2.1 pc = .ok (.lcmp, 1))  (kk : wa_ fl G J d mc ms Q kc ks M (pc + 1) lv (.int (lg_cmp x y) :: st)) : wa_ fl G J d mc ms Q kc ks M pc lv (.long y :: .long x :: st) := by
  intro p l e R s m args below meth c H locs cells slots ls C hok hS hc hs hl
  exact W.lcmp C.1.1 C.1.2.1 hd (kk p l e R s m args below meth c H locs cells slots ls C hok hS hc hs hl)
theorem wa_dup {v : Value} (hd : decode J.2.1 pc = .ok (.dup, 1)) (hv : v.category = 1) (kk : wa_ fl G J d mc ms Q kc ks M (pc + 1) lv (v :: v :: st)) : wa_ fl G J d mc ms Q kc ks M pc lv (v :: st) := by
  intro p l e R s m args below meth c H locs cells slots ls C hok hS hc hs hl
  exact lv_dup C.1.1 C.1.2.1 hd hv (kk p l e R s m args below meth c H locs cells slots ls C hok hS hc hs hl)
theorem wa_pop {v : Value} (hd : decode J.2.1 pc = .ok (.pop, 1)) (hv : v.category = 1) (kk : wa_ fl G J d mc ms Q kc ks M (pc + 1) lv st) : wa_ fl G J d mc ms Q kc ks M pc lv (v :: st) := by
  intro p l e R s m args below meth c H locs cells slots ls C hok hS hc hs hl
  exact lv_pop C.1.1 C.1.2.1 hd hv (kk p l e R s m args below meth c H locs cells slots ls C hok hS hc hs hl)
theorem wa_dup2 {v w : Value} (hd : decode J.2.1 pc = .ok (.dup2, 1)) (hv : v.category = 1) (hw : w.category = 1) (kk : wa_ fl G J d mc ms Q kc ks M (pc + 1) lv (v :: w :: v :: w :: st)) : wa_ fl G J d mc ms Q kc ks M pc lv (v :: w :: st) := by
  intro p l e R s m args below meth c H locs cells slots ls C hok hS hc hs hl
  exact lv_dup2_11 C.1.1 C.1.2.1 hd hv hw (kk p l e R s m args below meth c H locs cells slots ls C hok hS hc hs hl)
theorem wa_null  (hd : decode J.2.1 pc = .ok (.aconst_null, 1))  (kk : wa_ fl G J d mc ms Q kc ks M (pc + 1) lv (.null :: st)) : wa_ fl G J d mc ms Q kc ks M pc lv st := by
  intro p l e R s m args below meth c H locs cells slots ls C hok hS hc hs hl
  exact lv_null C.1.1 C.1.2.1 hd (kk p l e R s m args below meth c H locs cells slots ls C hok hS hc hs hl)
theorem wa_ldc {i : Nat} {v : Int32} (hd : decode J.2.1 pc = .ok (.ldc i, 2)) (hw : Cond.constant J.1.cls i v ∈ gt_ws) (kk : wa_ fl G J d mc ms Q kc ks M (pc + 2) lv (.int v :: st)) : wa_ fl G J d mc ms Q kc ks M pc lv st := by
  intro p l e R s m args below meth c H locs cells slots ls C hok hS hc hs hl
  exact lv_ldc C.1.1 C.1.2.1 C.1.2.2.2.1 (C.1.2.2.2.2 _ hw) hd (kk p l e R s m args below meth c H locs cells slots ls C hok hS hc hs hl)
theorem wa_ldc2 {i : Nat} {v : Int64} (hd : decode J.2.1 pc = .ok (.ldc2_w i, 3)) (hw : Cond.constantLong J.1.cls i v ∈ gt_ws) (kk : wa_ fl G J d mc ms Q kc ks M (pc + 3) lv (.long v :: st)) : wa_ fl G J d mc ms Q kc ks M pc lv st := by
  intro p l e R s m args below meth c H locs cells slots ls C hok hS hc hs hl
  exact lv_ldc2 C.1.1 C.1.2.1 C.1.2.2.2.1 (C.1.2.2.2.2 _ hw) hd (kk p l e R s m args below meth c H locs cells slots ls C hok hS hc hs hl)
theorem wa_ldcS {i k : Nat} {tx : String} (hd : decode J.2.1 pc = .ok (.ldc i, 2)) (hw : (J.1.cls, i, tx, k) ∈ mm_tr) (kk : wa_ fl G J d mc ms Q kc ks M (pc + 2) lv (.ref (G.2.2.2.2.1 k) :: st)) : wa_ fl G J d mc ms Q kc ks M pc lv st := by
  intro p l e R s m args below meth c H locs cells slots ls C hok hS hc hs hl
  exact va_ldcS C.1.1 C.1.2.1 C.1.2.2.2.1 (C.2.2.2.2.1.2.2 _ hw) hd (kk p l e R s m args below meth c H locs cells slots ls C hok hS hc hs hl)
theorem wa_if_eq {x : Int32} {off : Int} {tgt : Nat} (hd : decode J.2.1 pc = .ok (.ifCond .eq off, 3)) (ht : (pc : Int) + off = (tgt : Int)) (kt : x = 0 → wa_ fl G J d mc ms Q kc ks M tgt lv st) (kf : ¬ x = 0 → wa_ fl G J d mc ms Q kc ks M (pc + 3) lv st) : wa_ fl G J d mc ms Q kc ks M pc lv (.int x :: st) := by
  intro p l e R s m args below meth c H locs cells slots ls C hok hS hc hs hl
  exact lv_if_eq C.1.1 C.1.2.1 hd ht (fun q => kt q p l e R s m args below meth c H locs cells slots ls C hok hS hc hs hl) (fun q => kf q p l e R s m args below meth c H locs cells slots ls C hok hS hc hs hl)
theorem wa_icmp_eq {x y : Int32} {off : Int} {tgt : Nat} (hd : decode J.2.1 pc = .ok (.if_icmp .eq off, 3)) (ht : (pc : Int) + off = (tgt : Int)) (kt : x = y → wa_ fl G J d mc ms Q kc ks M tgt lv st) (kf : ¬ x = y → wa_ fl G J d mc ms Q kc ks M (pc + 3) lv st) : wa_ fl G J d mc ms Q kc ks M pc lv (.int y :: .int x :: st) := by
  intro p l e R s m args below meth c H locs cells slots ls C hok hS hc hs hl
  exact lv_icmp_eq C.1.1 C.1.2.1 hd ht (fun q => kt q p l e R s m args below meth c H locs cells slots ls C hok hS hc hs hl) (fun q => kf q p l e R s m args below meth c H locs cells slots ls C hok hS hc hs hl)
theorem wa_if_ne {x : Int32} {off : Int} {tgt : Nat} (hd : decode J.2.1 pc = .ok (.ifCond .ne off, 3)) (ht : (pc : Int) + off = (tgt : Int)) (kt : (¬ x = 0) → wa_ fl G J d mc ms Q kc ks M tgt lv st) (kf : x = 0 → wa_ fl G J d mc ms Q kc ks M (pc + 3) lv st) : wa_ fl G J d mc ms Q kc ks M pc lv (.int x :: st) := by
  intro p l e R s m args below meth c H locs cells slots ls C hok hS hc hs hl
  exact lv_if_ne C.1.1 C.1.2.1 hd ht (fun q => kt q p l e R s m args below meth c H locs cells slots ls C hok hS hc hs hl) (fun q => kf q p l e R s m args below meth c H locs cells slots ls C hok hS hc hs hl)
theorem wa_icmp_ne {x y : Int32} {off : Int} {tgt : Nat} (hd : decode J.2.1 pc = .ok (.if_icmp .ne off, 3)) (ht : (pc : Int) + off = (tgt : Int)) (kt : (¬ x = y) → wa_ fl G J d mc ms Q kc ks M tgt lv st) (kf : x = y → wa_ fl G J d mc ms Q kc ks M (pc + 3) lv st) : wa_ fl G J d mc ms Q kc ks M pc lv (.int y :: .int x :: st) := by
  intro p l e R s m args below meth c H locs cells slots ls C hok hS hc hs hl
  exact lv_icmp_ne C.1.1 C.1.2.1 hd ht (fun q => kt q p l e R s m args below meth c H locs cells slots ls C hok hS hc hs hl) (fun q => kf q p l e R s m args below meth c H locs cells slots ls C hok hS hc hs hl)
theorem wa_if_lt {x : Int32} {off : Int} {tgt : Nat} (hd : decode J.2.1 pc = .ok (.ifCond .lt off, 3)) (ht : (pc : Int) + off = (tgt : Int)) (kt : x < 0 → wa_ fl G J d mc ms Q kc ks M tgt lv st) (kf : ¬ x < 0 → wa_ fl G J d mc ms Q kc ks M (pc + 3) lv st) : wa_ fl G J d mc ms Q kc ks M pc lv (.int x :: st) := by
  intro p l e R s m args below meth c H locs cells slots ls C hok hS hc hs hl
  exact lv_if_lt C.1.1 C.1.2.1 hd ht (fun q => kt q p l e R s m args below meth c H locs cells slots ls C hok hS hc hs hl) (fun q => kf q p l e R s m args below meth c H locs cells slots ls C hok hS hc hs hl)
theorem wa_icmp_lt {x y : Int32} {off : Int} {tgt : Nat} (hd : decode J.2.1 pc = .ok (.if_icmp .lt off, 3)) (ht : (pc : Int) + off = (tgt : Int)) (kt : x < y → wa_ fl G J d mc ms Q kc ks M tgt lv st) (kf : ¬ x < y → wa_ fl G J d mc ms Q kc ks M (pc + 3) lv st) : wa_ fl G J d mc ms Q kc ks M pc lv (.int y :: .int x :: st) := by
  intro p l e R s m args below meth c H locs cells slots ls C hok hS hc hs hl
  exact lv_icmp_lt C.1.1 C.1.2.1 hd ht (fun q => kt q p l e R s m args below meth c H locs cells slots ls C hok hS hc hs hl) (fun q => kf q p l e R s m args below meth c H locs cells slots ls C hok hS hc hs hl)
theorem wa_if_ge {x : Int32} {off : Int} {tgt : Nat} (hd : decode J.2.1 pc = .ok (.ifCond .ge off, 3)) (ht : (pc : Int) + off = (tgt : Int)) (kt : 0 ≤ x → wa_ fl G J d mc ms Q kc ks M tgt lv st) (kf : ¬ 0 ≤ x → wa_ fl G J d mc ms Q kc ks M (pc + 3) lv st) : wa_ fl G J d mc ms Q kc ks M pc lv (.int x :: st) := by
  intro p l e R s m args below meth c H locs cells slots ls C hok hS hc hs hl
  exact lv_if_ge C.1.1 C.1.2.1 hd ht (fun q => kt q p l e R s m args below meth c H locs cells slots ls C hok hS hc hs hl) (fun q => kf q p l e R s m args below meth c H locs cells slots ls C hok hS hc hs hl)
theorem wa_icmp_ge {x y : Int32} {off : Int} {tgt : Nat} (hd : decode J.2.1 pc = .ok (.if_icmp .ge off, 3)) (ht : (pc : Int) + off = (tgt : Int)) (kt : y ≤ x → wa_ fl G J d mc ms Q kc ks M tgt lv st) (kf : ¬ y ≤ x → wa_ fl G J d mc ms Q kc ks M (pc + 3) lv st) : wa_ fl G J d mc ms Q kc ks M pc lv (.int y :: .int x :: st) := by
  intro p l e R s m args below meth c H locs cells slots ls C hok hS hc hs hl
  exact lv_icmp_ge C.1.1 C.1.2.1 hd ht (fun q => kt q p l e R s m args below meth c H locs cells slots ls C hok hS hc hs hl) (fun q => kf q p l e R s m args below meth c H locs cells slots ls C hok hS hc hs hl)
theorem wa_if_gt {x : Int32} {off : Int} {tgt : Nat} (hd : decode J.2.1 pc = .ok (.ifCond .gt off, 3)) (ht : (pc : Int) + off = (tgt : Int)) (kt : 0 < x → wa_ fl G J d mc ms Q kc ks M tgt lv st) (kf : ¬ 0 < x → wa_ fl G J d mc ms Q kc ks M (pc + 3) lv st) : wa_ fl G J d mc ms Q kc ks M pc lv (.int x :: st) := by
  intro p l e R s m args below meth c H locs cells slots ls C hok hS hc hs hl
  exact lv_if_gt C.1.1 C.1.2.1 hd ht (fun q => kt q p l e R s m args below meth c H locs cells slots ls C hok hS hc hs hl) (fun q => kf q p l e R s m args below meth c H locs cells slots ls C hok hS hc hs hl)
theorem wa_icmp_gt {x y : Int32} {off : Int} {tgt : Nat} (hd : decode J.2.1 pc = .ok (.if_icmp .gt off, 3)) (ht : (pc : Int) + off = (tgt : Int)) (kt : y < x → wa_ fl G J d mc ms Q kc ks M tgt lv st) (kf : ¬ y < x → wa_ fl G J d mc ms Q kc ks M (pc + 3) lv st) : wa_ fl G J d mc ms Q kc ks M pc lv (.int y :: .int x :: st) := by
  intro p l e R s m args below meth c H locs cells slots ls C hok hS hc hs hl
  exact lv_icmp_gt C.1.1 C.1.2.1 hd ht (fun q => kt q p l e R s m args below meth c H locs cells slots ls C hok hS hc hs hl) (fun q => kf q p l e R s m args below meth c H locs cells slots ls C hok hS hc hs hl)
theorem wa_if_le {x : Int32} {off : Int} {tgt : Nat} (hd : decode J.2.1 pc = .ok (.ifCond .le off, 3)) (ht : (pc : Int) + off = (tgt : Int)) (kt : x ≤ 0 → wa_ fl G J d mc ms Q kc ks M tgt lv st) (kf : ¬ x ≤ 0 → wa_ fl G J d mc ms Q kc ks M (pc + 3) lv st) : wa_ fl G J d mc ms Q kc ks M pc lv (.int x :: st) := by
  intro p l e R s m args below meth c H locs cells slots ls C hok hS hc hs hl
  exact lv_if_le C.1.1 C.1.2.1 hd ht (fun q => kt q p l e R s m args below meth c H locs cells slots ls C hok hS hc hs hl) (fun q => kf q p l e R s m args below meth c H locs cells slots ls C hok hS hc hs hl)
theorem wa_icmp_le {x y : Int32} {off : Int} {tgt : Nat} (hd : decode J.2.1 pc = .ok (.if_icmp .le off, 3)) (ht : (pc : Int) + off = (tgt : Int)) (kt : x ≤ y → wa_ fl G J d mc ms Q kc ks M tgt lv st) (kf : ¬ x ≤ y → wa_ fl G J d mc ms Q kc ks M (pc + 3) lv st) : wa_ fl G J d mc ms Q kc ks M pc lv (.int y :: .int x :: st) := by
  intro p l e R s m args below meth c H locs cells slots ls C hok hS hc hs hl
  exact lv_icmp_le C.1.1 C.1.2.1 hd ht (fun q => kt q p l e R s m args below meth c H locs cells slots ls C hok hS hc hs hl) (fun q => kf q p l e R s m args below meth c H locs cells slots ls C hok hS hc hs hl)
theorem wa_goto {off : Int} {tgt : Nat} (hd : decode J.2.1 pc = .ok (.goto off, 3)) (ht : (pc : Int) + off = (tgt : Int)) (kk : wa_ fl G J d mc ms Q kc ks M tgt lv st) : wa_ fl G J d mc ms Q kc ks M pc lv st := by
  intro p l e R s m args below meth c H locs cells slots ls C hok hS hc hs hl
  exact lv_goto C.1.1 C.1.2.1 hd ht (kk p l e R s m args below meth c H locs cells slots ls C hok hS hc hs hl)
theorem wa_ifnullR {x : Nat} {off : Int} (hd : decode J.2.1 pc = .ok (.ifnull off, 3)) (kk : wa_ fl G J d mc ms Q kc ks M (pc + 3) lv st) : wa_ fl G J d mc ms Q kc ks M pc lv (.ref x :: st) := by
  intro p l e R s m args below meth c H locs cells slots ls C hok hS hc hs hl
  exact lv_ifnull C.1.1 C.1.2.1 hd (kk p l e R s m args below meth c H locs cells slots ls C hok hS hc hs hl)
theorem wa_ifnullN {off : Int} {tgt : Nat} (hd : decode J.2.1 pc = .ok (.ifnull off, 3)) (ht : (pc : Int) + off = (tgt : Int)) (kk : wa_ fl G J d mc ms Q kc ks M tgt lv st) : wa_ fl G J d mc ms Q kc ks M pc lv (.null :: st) := by
  intro p l e R s m args below meth c H locs cells slots ls C hok hS hc hs hl
  exact lv_ifnullN C.1.1 C.1.2.1 hd ht (kk p l e R s m args below meth c H locs cells slots ls C hok hS hc hs hl)
theorem wa_ifnonnullR {x : Nat} {off : Int} {tgt : Nat} (hd : decode J.2.1 pc = .ok (.ifnonnull off, 3)) (ht : (pc : Int) + off = (tgt : Int)) (kk : wa_ fl G J d mc ms Q kc ks M tgt lv st) : wa_ fl G J d mc ms Q kc ks M pc lv (.ref x :: st) := by
  intro p l e R s m args below meth c H locs cells slots ls C hok hS hc hs hl
  exact lv_ifnonnull C.1.1 C.1.2.1 hd ht (kk p l e R s m args below meth c H locs cells slots ls C hok hS hc hs hl)
theorem wa_ifnonnullN {off : Int} (hd : decode J.2.1 pc = .ok (.ifnonnull off, 3)) (kk : wa_ fl G J d mc ms Q kc ks M (pc + 3) lv st) : wa_ fl G J d mc ms Q kc ks M pc lv (.null :: st) := by
  intro p l e R s m args below meth c H locs cells slots ls C hok hS hc hs hl
  exact lv_ifnonnullN C.1.1 C.1.2.1 hd (kk p l e R s m args below meth c H locs cells slots ls C hok hS hc hs hl)
theorem wa_tableOut {dflt lo hi : Int} {offs : Array Int} {len : Nat} {x : Int32} {tgt : Nat} (hd : decode J.2.1 pc = .ok (.tableswitch dflt lo hi offs, len)) (h : x.toInt < lo ∨ hi < x.toInt) (ht : (pc : Int) + dflt = (tgt : Int)) (kk : wa_ fl G J d mc ms Q kc ks M tgt lv st) : wa_ fl G J d mc ms Q kc ks M pc lv (.int x :: st) := by
  intro p l e R s m args below meth c H locs cells slots ls C hok hS hc hs hl
  exact lv_tableOut C.1.1 C.1.2.1 hd h ht (kk p l e R s m args below meth c H locs cells slots ls C hok hS hc hs hl)
theorem wa_tableIn {dflt lo hi : Int} {offs : Array Int} {len : Nat} {x : Int32} {off : Int} {tgt : Nat} (hd : decode J.2.1 pc = .ok (.tableswitch dflt lo hi offs, len)) (h1 : ¬ x.toInt < lo) (h2 : ¬ hi < x.toInt) (ho : offs[(x.toInt - lo).toNat]? = some off) (ht : (pc : Int) + off = (tgt : Int)) (kk : wa_ fl G J d mc ms Q kc ks M tgt lv st) : wa_ fl G J d mc ms Q kc ks M pc lv (.int x :: st) := by
  intro p l e R s m args below meth c H locs cells slots ls C hok hS hc hs hl
  exact lv_tableIn C.1.1 C.1.2.1 hd h1 h2 ho ht (kk p l e R s m args below meth c H locs cells slots ls C hok hS hc hs hl)
theorem wa_lv {lv' : List (Option Value)} (hs' : ∀ (i : Nat) (v : Value), lv'[i]? = some (some v) → lv[i]? = some (some v)) (kk : wa_ fl G J d mc ms Q kc ks M pc lv' st) : wa_ fl G J d mc ms Q kc ks M pc lv st := by
  intro p l e R s m args below meth c H locs cells slots ls C hok hS hc hs hl
  exact kk p l e R s m args below meth c H locs cells slots ls C hok hS hc hs (mm_lv_weak hl hs')
theorem wa_kc {kc' ks' : Nat} (h1 : kc' ≤ kc) (h2 : ks' ≤ ks) (kk : wa_ fl G J d mc ms Q kc' ks' M pc lv st) : wa_ fl G J d mc ms Q kc ks M pc lv st := by
  intro p l e R s m args below meth c H locs cells slots ls C hok hS hc hs hl
  exact kk p l e R s m args below meth c H locs cells slots ls C hok hS (Nat.le_trans (Nat.add_le_add_left h1 _) hc) (Nat.le_trans (Nat.add_le_add_left h2 _) hs) hl
theorem wa_topi {x : Int32} (kk : ∀ y : Int32, y = x → wa_ fl G J d mc ms Q kc ks M pc lv (.int y :: st)) : wa_ fl G J d mc ms Q kc ks M pc lv (.int x :: st) := kk x rfl
theorem wa_lt {a : Nat} {t : mm_S} (ha : mm_sh M a = some t) (kk : a < mm_z M → wa_ fl G J d mc ms Q kc ks M pc lv st) : wa_ fl G J d mc ms Q kc ks M pc lv st := by
  intro p l e R s m args below meth c H locs cells slots ls C hok hS hc hs hl
  exact kk (mm_ok_lt hok ha) p l e R s m args below meth c H locs cells slots ls C hok hS hc hs hl
theorem wa_iret {v : Int32} (hd : decode J.2.1 pc = .ok (.ireturn, 1)) (hr : J.2.2.2 = some .int) (hQ : Q (some (.int v)) M) : wa_ false G J d mc ms Q kc ks M pc lv [(.int v)] := by
  intro p l e R s m args below meth c H locs cells slots ls C hok hS hc hs hl
  refine W.widen (k := mc) (n := ms) (by omega) (by omega) ?_
  exact W.iret (v := v) C.1.1 C.1.2.1 (C.2.1.trans hr) (fun t ht hW => ⟨⟨_, M, rfl, hQ, by rw [ht]; exact mm_ok_moved hW.alike hok⟩, hS.F ht⟩) hS.2.2 hd C.2.2.1
theorem wa_zret {v : Int32} {ty : FieldType} (hd : decode J.2.1 pc = .ok (.ireturn, 1)) (hr : J.2.2.2 = some ty) (hn : narrow ty (.int v) = .int v) (hQ : Q (some (.int v)) M) : wa_ false G J d mc ms Q kc ks M pc lv [(.int v)] := by
  intro p l e R s m args below meth c H locs cells slots ls C hok hS hc hs hl
  refine W.widen (k := mc) (n := ms) (by omega) (by omega) ?_
  exact W.zret (v := v) C.1.1 C.1.2.1 (C.2.1.trans hr) hn (fun t ht hW => ⟨⟨_, M, rfl, hQ, by rw [ht]; exact mm_ok_moved hW.alike hok⟩, hS.F ht⟩) hS.2.2 hd C.2.2.1
theorem wa_lret {v : Int64} (hd : decode J.2.1 pc = .ok (.lreturn, 1)) (hr : J.2.2.2 = some .long) (hQ : Q (some (.long v)) M) : wa_ false G J d mc ms Q kc ks M pc lv [(.long v)] := by
  intro p l e R s m args below meth c H locs cells slots ls C hok hS hc hs hl
  refine W.widen (k := mc) (n := ms) (by omega) (by omega) ?_
  exact W.lret (v := v) C.1.1 C.1.2.1 (C.2.1.trans hr) (fun t ht hW => ⟨⟨_, M, rfl, hQ, by rw [ht]; exact mm_ok_moved hW.alike hok⟩, hS.F ht⟩) hS.2.2 hd C.2.2.1
theorem wa_vret  (hd : decode J.2.1 pc = .ok (.return_, 1)) (hr : J.2.2.2 = none) (hQ : Q none M) : wa_ false G J d mc ms Q kc ks M pc lv [] := by
  intro p l e R s m args below meth c H locs cells slots ls C hok hS hc hs hl
  refine W.widen (k := mc) (n := ms) (by omega) (by omega) ?_
  exact W.vret C.1.1 C.1.2.1 (C.2.1.trans hr) (fun t ht hW => ⟨⟨_, M, rfl, hQ, by rw [ht]; exact mm_ok_moved hW.alike hok⟩, hS.F ht⟩) hS.2.2 hd C.2.2.1
theorem wa_aret {v : Value} {ty : FieldType} (hd : decode J.2.1 pc = .ok (.areturn, 1)) (hr : J.2.2.2 = some ty) (hty : (∃ n, ty = .object n) ∨ ∃ t, ty = .array t) (hv : mm_isr v = true) (hQ : Q (some v) M) : wa_ false G J d mc ms Q kc ks M pc lv [v] := by
  intro p l e R s m args below meth c H locs cells slots ls C hok hS hc hs hl
  refine W.widen (k := mc) (n := ms) (by omega) (by omega) ?_
  exact W.aret (v := v) C.1.1 C.1.2.1 (C.2.1.trans hr) hty (by cases v with
    | ref x => exact Or.inr ⟨x, rfl⟩
    | null => exact Or.inl rfl
    | _ => cases hv) (fun t ht hW => ⟨⟨_, M, rfl, hQ, by rw [ht]; exact mm_ok_moved hW.alike hok⟩, hS.F ht⟩) hS.2.2 hd C.2.2.1
end ROWS1
end
section
section ROWS2
variable {fl : Bool} {G : mm_G} {J : mm_J} {d mc ms kc ks : Nat} {Q : Option Value → mm_M → Prop} {M : mm_M} {pc : Nat} {lv : List (Option Value)} {st : List Value}
/-- what an object of the memory gives to a getfield -/
theorem mm_obj {G : mm_G} {M : mm_M} {s : State} {H : Heap} (hok : mm_ok G M s H) {a ci : Nat} (hs : mm_sh M a = some (.inl ci)) {q : vw_C} (hq : mm_cl[ci]? = some q) : mm_sz G ≤ a ∧ t_OB a (G.1.1 ci) q.2.2 (G.1.2 ci) H (fun k => mm_fv (mm_I M a) (mm_L M a) (mm_R M a) k (mm_ty ci k)) := by
  obtain ⟨h0, q', h1, h2⟩ := hok.1 a _ hs
  cases h1.symm.trans hq
  exact ⟨h0, h2⟩
theorem mm_getf {p : Program} {l : Launch} {e : Env} {R : Room} {s : State} {m : MethodId} {args : Array Value} {below : List Frame} {meth : Method} {c : Code} {H : Heap} {locs : List Loc} {cells slots : Nat} {Qs : State → Prop} {ls : Array Slot} (C : wa_C G J d mc ms p R s m args meth c) (hok : mm_ok G M s H) {a ci k i : Nat} {q : vw_C} (hs : mm_sh M a = some (.inl ci)) (hq : mm_cl[ci]? = some q) (hk : k < q.2.2)
    (hd : decode J.2.1 pc = .ok (.getfield i, 3)) (hw : Cond.fieldLink J.1.cls i (q.2.1 k).1 (q.2.1 k).2.1 (q.2.1 k).2.2.1 ∈ gt_ws)
    (kk : W p l e R s m args below meth c H locs cells slots Qs (F0 m (pc + 3) ls (mm_fv (mm_I M a) (mm_L M a) (mm_R M a) k (mm_ty ci k) :: st))) : W p l e R s m args below meth c H locs cells slots Qs (F0 m pc ls (.ref a :: st)) := by
  obtain ⟨-, cell, q1, q2, q3, q4⟩ := mm_obj hok hs hq
  obtain ⟨hS, hfc, kC, hkC, hkind⟩ := C.2.2.2.2.1.1.1 ci _ hq
  obtain ⟨cf, kf, fi, f, hi, hsl⟩ := hS k hk
  refine W.getf C.1.1 C.1.2.1 C.1.2.2.2.1 (C.1.2.2.2.2 _ hw) hi (u_facts hfc hkC (u_lays C.1.2.2.2.2 (mm_in ci q hq) hk) hi).1 q1 (by rw [q3]; exact fun h => by cases h) ?_ rfl rfl hd kk
  rw [hsl, q4 k hk]
theorem wa_getI {a ci k i : Nat} {q : vw_C} (hd : decode J.2.1 pc = .ok (.getfield i, 3)) (hq : mm_cl[ci]? = some q) (hk : k < q.2.2) (hw : Cond.fieldLink J.1.cls i (q.2.1 k).1 (q.2.1 k).2.1 (q.2.1 k).2.2.1 ∈ gt_ws) (hs : mm_sh M a = some (.inl ci)) (hty : mm_ty ci k = .int) (kk : wa_ fl G J d mc ms Q kc ks M (pc + 3) lv (.int (mm_I M a k) :: st)) : wa_ fl G J d mc ms Q kc ks M pc lv (.ref a :: st) := by
  intro p l e R s m args below meth c H locs cells slots ls C hok hS hc hs' hl
  refine mm_getf C hok hs hq hk hd hw ?_
  rw [hty]
  exact kk p l e R s m args below meth c H locs cells slots ls C hok hS hc hs' hl
theorem wa_getL {a ci k i : Nat} {q : vw_C} (hd : decode J.2.1 pc = .ok (.getfield i, 3)) (hq : mm_cl[ci]? = some q) (hk : k < q.2.2) (hw : Cond.fieldLink J.1.cls i (q.2.1 k).1 (q.2.1 k).2.1 (q.2.1 k).2.2.1 ∈ gt_ws) (hs : mm_sh M a = some (.inl ci)) (hty : mm_ty ci k = .long) (kk : wa_ fl G J d mc ms Q kc ks M (pc + 3) lv (.long (mm_L M a k) :: st)) : wa_ fl G J d mc ms Q kc ks M pc lv (.ref a :: st) := by
  intro p l e R s m args below meth c H locs cells slots ls C hok hS hc hs' hl
  refine mm_getf C hok hs hq hk hd hw ?_
  rw [hty]
  exact kk p l e R s m args below meth c H locs cells slots ls C hok hS hc hs' hl
/-- a type of references -/
def mm_rt : FieldType → Bool
  | .object _ => true
  | .array _ => true
  | _ => false
theorem mm_fv_r {i : Nat → Int32} {l : Nat → Int64} {r : Nat → Option Nat} {k : Nat} {ty : FieldType} (h : mm_rt ty = true) : mm_fv i l r k ty = va_rf (r k) := by
  cases ty <;> first | rfl | cases h
theorem wa_getR {a ci k i : Nat} {q : vw_C} {v : Value} (hd : decode J.2.1 pc = .ok (.getfield i, 3)) (hq : mm_cl[ci]? = some q) (hk : k < q.2.2) (hw : Cond.fieldLink J.1.cls i (q.2.1 k).1 (q.2.1 k).2.1 (q.2.1 k).2.2.1 ∈ gt_ws) (hs : mm_sh M a = some (.inl ci)) (hty : mm_rt (mm_ty ci k) = true) (hv : va_rf (mm_R M a k) = v) (kk : wa_ fl G J d mc ms Q kc ks M (pc + 3) lv (v :: st)) : wa_ fl G J d mc ms Q kc ks M pc lv (.ref a :: st) := by
  intro p l e R s m args below meth c H locs cells slots ls C hok hS hc hs' hl
  refine mm_getf C hok hs hq hk hd hw ?_
  rw [mm_fv_r hty, hv]
  exact kk p l e R s m args below meth c H locs cells slots ls C hok hS hc hs' hl
/-- how a memory takes a value at a place, by its type -/
def mm_put (M : mm_M) (a k : Nat) (v : Value) : mm_M := match v with
  | .int x => mm_sI M a k x
  | .long x => mm_sL M a k x
  | .ref x => mm_sR M a k (some x)
  | .null => mm_sR M a k none
  | _ => M
def mm_kd (ty : FieldType) (v : Value) : Bool := match ty, v with
  | .int, .int _ => true
  | .long, .long _ => true
  | .object _, .ref _ => true
  | .object _, .null => true
  | .array _, .ref _ => true
  | .array _, .null => true
  | _, _ => false
theorem mm_put_sh (M : mm_M) (a k : Nat) (v : Value) : mm_sh (mm_put M a k v) = mm_sh M := by cases v <;> rfl
theorem mm_put_z (M : mm_M) (a k : Nat) (v : Value) : mm_z (mm_put M a k v) = mm_z M := by cases v <;> rfl
theorem mm_put_ne (M : mm_M) (a k : Nat) (v : Value) (b : Nat) (h : b ≠ a) : mm_I (mm_put M a k v) b = mm_I M b ∧ mm_L (mm_put M a k v) b = mm_L M b ∧ mm_R (mm_put M a k v) b = mm_R M b := by
  cases v <;> first | exact mm_ne_sI b h | exact mm_ne_sL b h | exact mm_ne_sR b h | exact ⟨rfl, rfl, rfl⟩
theorem mm_put_fv (M : mm_M) (a k : Nat) (v : Value) (ty : Nat → FieldType) (hk : mm_kd (ty k) v = true) (j : Nat) : updV (fun k => mm_fv (mm_I M a) (mm_L M a) (mm_R M a) k (ty k)) k v j = mm_fv (mm_I (mm_put M a k v) a) (mm_L (mm_put M a k v) a) (mm_R (mm_put M a k v) a) j (ty j) := by
  by_cases hj : j = k
  · subst hj
    simp only [updV, if_true]
    cases hty : ty j <;> cases v <;> simp_all [mm_kd, mm_fv, mm_put, mm_I, mm_L, mm_R, mm_sI, mm_sL, mm_sR, mm_u, va_rf]
  · simp only [updV, if_neg hj]
    cases v <;> simp [mm_fv, mm_put, mm_I, mm_L, mm_R, mm_sI, mm_sL, mm_sR, mm_u, hj]
theorem mm_kd_n {ty : FieldType} {v : Value} (h : mm_kd ty v = true) : narrow ty v = v ∧ fits ty v = true := by
  cases ty <;> cases v <;> simp_all [mm_kd, narrow, fits]
theorem mm_S_put {G : mm_G} {H0 H H1 : Heap} {locs : List Loc} {a k : Nat} (h : va_S (mm_fr G) H0 H locs) (z : H1.size = H.size) (oq : ∀ q : Nat, q ≠ a → H1[q]? = H[q]?) (ha : mm_sz G ≤ a) : va_S (mm_fr G) H0 H1 (locs ++ [⟨a, k⟩]) := h.put z oq ha
theorem wa_put {a ci k i : Nat} {q : vw_C} {v : Value} (hd : decode J.2.1 pc = .ok (.putfield i, 3)) (hq : mm_cl[ci]? = some q) (hk : k < q.2.2) (hw : Cond.fieldLink J.1.cls i (q.2.1 k).1 (q.2.1 k).2.1 (q.2.1 k).2.2.1 ∈ gt_ws) (hf : (q.2.1 k).2.2.2 = false) (hs : mm_sh M a = some (.inl ci)) (hkd : mm_kd (mm_ty ci k) v = true) (kk : wa_ fl G J d mc ms Q kc ks (mm_put M a k v) (pc + 3) lv st) : wa_ fl G J d mc ms Q kc ks M pc lv (v :: .ref a :: st) := by
  intro p l e R s m args below meth c H locs cells slots ls C hok hS hc hs' hl
  have hap := va_apart (own := J.1.cls) C.1.2.2.2.2 (mm_in ci q hq) (mm_ty ci) (mm_tyok ci q hq) (mm_nm ci q hq) C.2.2.2.2.1.1 hq
  obtain ⟨hge, cell, q1, q2, q3, q4⟩ := mm_obj hok hs hq
  obtain ⟨hSl, hfc, kC, hkC, hkind⟩ := C.2.2.2.2.1.1.1 ci _ hq
  obtain ⟨cf, kf, fi, f, hi, hsl⟩ := hSl k hk
  have hlay := C.1.2.2.2.2 _ (mm_in ci q hq _ (u_in_lay hk))
  unfold u_lay at hlay
  rw [if_neg (by rw [hf]; decide)] at hlay
  have hst := (u_facts hfc hkC (u_lays C.1.2.2.2.2 (mm_in ci q hq) hk) hi).1
  obtain ⟨hn1, hn2⟩ := mm_kd_n hkd
  have h6 := u_store hfc hkC hkind hlay hi (mm_tyok ci q hq k hk) hn1 hn2
  refine W.putK C.1.1 C.1.2.1 (f := f) ⟨C.1.2.2.2.1, C.1.2.2.2.2 _ hw, ⟨_, _, _, hi⟩, hst⟩ (by rw [q2]; exact h6) q1 q3 (by rw [hsl]; exact k2_hasslot (q4 k hk)) rfl rfl hd fun H' e1 e2 e3 => ?_
  rw [hsl] at e1 ⊢
  refine kk p l e R s m args below meth c H' _ cells slots ls C (mm_ok_put hok hs (mm_put_sh M a k v) (mm_put_z M a k v) (mm_put_ne M a k v) e2 e3 ?_) (mm_S_put hS e2 e3 hge) hc hs' hl
  exact ⟨hge, q, hq, t_OB.to (V := updV (fun k => mm_fv (mm_I M a) (mm_L M a) (mm_R M a) k (mm_ty ci k)) k v) ⟨_, e1, q2, q3, t_set q4 hap hk v⟩ (fun j _ => mm_put_fv M a k v (mm_ty ci) hkd j)⟩
theorem wa_putF {a ci k i : Nat} {q : vw_C} {v : Value} (hd : decode J.2.1 pc = .ok (.putfield i, 3)) (hq : mm_cl[ci]? = some q) (hk : k < q.2.2) (hw : Cond.fieldLink J.1.cls i (q.2.1 k).1 (q.2.1 k).2.1 (q.2.1 k).2.2.1 ∈ gt_ws) (hf : (q.2.1 k).2.2.2 = true) (hin : J.1.name = "<init>") (hdecl : (q.2.1 k).1 = J.1.cls) (hs : mm_sh M a = some (.inl ci)) (hkd : mm_kd (mm_ty ci k) v = true) (kk : wa_ fl G J d mc ms Q kc ks (mm_put M a k v) (pc + 3) lv st) : wa_ fl G J d mc ms Q kc ks M pc lv (v :: .ref a :: st) := by
  intro p l e R s m args below meth c H locs cells slots ls C hok hS hc hs' hl
  have hap := va_apart (own := J.1.cls) C.1.2.2.2.2 (mm_in ci q hq) (mm_ty ci) (mm_tyok ci q hq) (mm_nm ci q hq) C.2.2.2.2.1.1 hq
  obtain ⟨hge, cell, q1, q2, q3, q4⟩ := mm_obj hok hs hq
  obtain ⟨hSl, hfc, kC, hkC, hkind⟩ := C.2.2.2.2.1.1.1 ci _ hq
  obtain ⟨cf, kf, fi, f, hi, hsl⟩ := hSl k hk
  have hlay := C.1.2.2.2.2 _ (mm_in ci q hq _ (u_in_lay hk))
  unfold u_lay at hlay
  rw [if_pos hf] at hlay
  have hst := (u_facts hfc hkC (u_lays C.1.2.2.2.2 (mm_in ci q hq) hk) hi).1
  have hcf : m.cls = cf := by
    obtain ⟨_, _, c', _, _, _, -, -, hf', -, -, -, hown2, -⟩ := Cond.laysFinal_spec hlay
    have e1 : c' = cf := by have := hi.symm.trans hf'; simp at this; exact this.1.symm
    rw [hdecl] at hown2
    rw [← e1]; exact Option.some.inj (C.1.2.2.2.1.symm.trans hown2)
  obtain ⟨hn1, hn2⟩ := mm_kd_n hkd
  have h6 := u_fits hfc hkC hkind (Or.inr hlay) hi (mm_tyok ci q hq k hk) hn1 hn2
  refine W.putFinK C.1.1 C.1.2.1 C.1.2.2.2.1 (C.1.2.2.2.2 _ hw) hi hst hcf (C.2.2.2.1.trans hin) (by rw [q2]; exact h6) q1 q3 (by rw [hsl]; exact k2_hasslot (q4 k hk)) rfl rfl hd fun H' e1 e2 e3 => ?_
  rw [hsl] at e1 ⊢
  refine kk p l e R s m args below meth c H' _ cells slots ls C (mm_ok_put hok hs (mm_put_sh M a k v) (mm_put_z M a k v) (mm_put_ne M a k v) e2 e3 ?_) (mm_S_put hS e2 e3 hge) hc hs' hl
  exact ⟨hge, q, hq, t_OB.to (V := updV (fun k => mm_fv (mm_I M a) (mm_L M a) (mm_R M a) k (mm_ty ci k)) k v) ⟨_, e1, q2, q3, t_set q4 hap hk v⟩ (fun j _ => mm_put_fv M a k v (mm_ty ci) hkd j)⟩
/-! arrays -/
theorem mm_arr {G : mm_G} {M : mm_M} {s : State} {H : Heap} (hok : mm_ok G M s H) {a k n : Nat} (hs : mm_sh M a = some (.inr (k, n))) (hk : k < 10) : mm_sz G ≤ a ∧ H[a]? = some (vp_cell (G.2.1 k) (mm_ar (mm_I M a) (mm_L M a) (mm_R M a) k n)) := by
  have h := hok.1 a _ hs
  simp only [mm_at, hk, if_true] at h
  exact h
theorem mm_tbl {G : mm_G} {M : mm_M} {s : State} {H : Heap} (hok : mm_ok G M s H) {a k n : Nat} (hs : mm_sh M a = some (.inr (k, n))) (hk : ¬ k < 10) : mm_tb (if k = 10 then .int else .byte) n (mm_I M a) s H a := by
  have h := hok.1 a _ hs
  simp only [mm_at, hk, if_false] at h
  exact h.2
theorem mm_aK {G : mm_G} {s : State} (hK : mm_K G s) {k : Nat} (hk : k < 10) : ArrOfT s (G.2.1 k) (mm_el k) ∧ va_RA s (G.2.1 k) (mm_el k) := hK.1.2 k _ (mm_tys_at G hk)
theorem wa_alen {a k n : Nat} (hd : decode J.2.1 pc = .ok (.arraylength, 1)) (hs : mm_sh M a = some (.inr (k, n))) (kk : wa_ fl G J d mc ms Q kc ks M (pc + 1) lv (.int (Int32.ofNat n) :: st)) : wa_ fl G J d mc ms Q kc ks M pc lv (.ref a :: st) := by
  intro p l e R s m args below meth c H locs cells slots ls C hok hS hc hs' hl
  have kk' := kk p l e R s m args below meth c H locs cells slots ls C hok hS hc hs' hl
  by_cases hk : k < 10
  · obtain ⟨-, hcell⟩ := mm_arr hok hs hk
    have hA := (mm_aK C.2.2.2.2.1 hk).1
    unfold mm_ar at hcell
    by_cases h3 : k < 3
    · simp only [h3, if_true] at hcell
      exact W.alen (n := Int32.ofNat n) C.1.1 C.1.2.1 hcell (hA n (fun j => .int (mm_I M a j))) (by rw [vp_cell_i, arrV_size] <;> rfl) rfl rfl hd kk'
    · by_cases h4 : k = 3
      · subst h4
        have hcell : H[a]? = some (vp_cell (G.2.1 3) (n, .inr (.inl (mm_L M a)))) := hcell
        exact W.alen (n := Int32.ofNat n) C.1.1 C.1.2.1 hcell (hA n (fun j => .long (mm_L M a j))) (by rw [vp_cell_l, arrV_size] <;> rfl) rfl rfl hd kk'
      · simp only [h3, h4, if_false] at hcell
        exact W.alen (n := Int32.ofNat n) C.1.1 C.1.2.1 hcell (hA n (fun j => va_rf (mm_R M a j))) (by rw [vp_cell_q, arrV_size] <;> rfl) rfl rfl hd kk'
  · obtain ⟨cell, h1, h2, -, -, h5, -⟩ := mm_tbl hok hs hk
    exact W.alen (n := Int32.ofNat n) C.1.1 C.1.2.1 h1 h2 h5 rfl rfl hd kk'
theorem wa_iald {a k n : Nat} {i : Int32} (hd : decode J.2.1 pc = .ok (.iaload, 1)) (hs : mm_sh M a = some (.inr (k, n))) (hk : k = 0 ∨ k = 10) (hin : vp_in i n) (kk : wa_ fl G J d mc ms Q kc ks M (pc + 1) lv (.int (mm_I M a i.toNatClampNeg) :: st)) : wa_ fl G J d mc ms Q kc ks M pc lv (.int i :: .ref a :: st) := by
  intro p l e R s m args below meth c H locs cells slots ls C hok hS hc hs' hl
  have kk' := kk p l e R s m args below meth c H locs cells slots ls C hok hS hc hs' hl
  have hlt : i.toNatClampNeg < n := Nat.not_le.mp fun q => hin (Or.inr q)
  rcases hk with rfl | rfl
  · obtain ⟨-, hcell⟩ := mm_arr hok hs (by decide)
    have hcell : H[a]? = some (vp_cell (G.2.1 0) (n, .inl (mm_I M a))) := hcell
    exact W.iald (v := .int (mm_I M a i.toNatClampNeg)) C.1.1 C.1.2.1 hcell ((mm_aK C.2.2.2.2.1 (k := 0) (by decide)).1 n (fun j => .int (mm_I M a j))) (fun q => by cases q) (by show ¬ (i < 0 ∨ (arrV _ _ _).slots.size ≤ _); rw [arrV_size]; exact hin) (by show (arrV _ _ _).slots[_]? = _; rw [arrV_read _ _ hlt]) rfl rfl hd kk'
  · obtain ⟨cell, h1, h2, h3, h4, h5, h6⟩ := mm_tbl hok hs (by decide)
    have hin' : ¬ (i < 0 ∨ cell.slots.size ≤ i.toNatClampNeg) := by
      intro q
      rcases q with q | q
      · exact hin (Or.inl q)
      · omega
    exact W.iald (v := .int (mm_I M a i.toNatClampNeg)) C.1.1 C.1.2.1 h1 h2 h3 hin' (h6 _ hlt) rfl rfl hd kk'
theorem wa_bald {a k n : Nat} {i : Int32} (hd : decode J.2.1 pc = .ok (.baload, 1)) (hs : mm_sh M a = some (.inr (k, n))) (hk : k = 1 ∨ k = 2) (hin : vp_in i n) (kk : wa_ fl G J d mc ms Q kc ks M (pc + 1) lv (.int (mm_I M a i.toNatClampNeg) :: st)) : wa_ fl G J d mc ms Q kc ks M pc lv (.int i :: .ref a :: st) := by
  intro p l e R s m args below meth c H locs cells slots ls C hok hS hc hs' hl
  have kk' := kk p l e R s m args below meth c H locs cells slots ls C hok hS hc hs' hl
  have hlt : i.toNatClampNeg < n := Nat.not_le.mp fun q => hin (Or.inr q)
  rcases hk with rfl | rfl
  · obtain ⟨-, hcell⟩ := mm_arr hok hs (by decide)
    have hcell : H[a]? = some (vp_cell (G.2.1 1) (n, .inl (mm_I M a))) := hcell
    exact W.bald (v := .int (mm_I M a i.toNatClampNeg)) C.1.1 C.1.2.1 hcell ((mm_aK C.2.2.2.2.1 (k := 1) (by decide)).1 n (fun j => .int (mm_I M a j))) (fun q => by cases q) (by show ¬ (i < 0 ∨ (arrV _ _ _).slots.size ≤ _); rw [arrV_size]; exact hin) (by show (arrV _ _ _).slots[_]? = _; rw [arrV_read _ _ hlt]) rfl rfl hd kk'
  · obtain ⟨-, hcell⟩ := mm_arr hok hs (by decide)
    have hcell : H[a]? = some (vp_cell (G.2.1 2) (n, .inl (mm_I M a))) := hcell
    exact W.zald (v := .int (mm_I M a i.toNatClampNeg)) C.1.1 C.1.2.1 hcell ((mm_aK C.2.2.2.2.1 (k := 2) (by decide)).1 n (fun j => .int (mm_I M a j))) (fun q => by cases q) (by show ¬ (i < 0 ∨ (arrV _ _ _).slots.size ≤ _); rw [arrV_size]; exact hin) (by show (arrV _ _ _).slots[_]? = _; rw [arrV_read _ _ hlt]) rfl rfl hd kk'
theorem wa_lald {a n : Nat} {i : Int32} (hd : decode J.2.1 pc = .ok (.laload, 1)) (hs : mm_sh M a = some (.inr (3, n))) (hin : vp_in i n) (kk : wa_ fl G J d mc ms Q kc ks M (pc + 1) lv (.long (mm_L M a i.toNatClampNeg) :: st)) : wa_ fl G J d mc ms Q kc ks M pc lv (.int i :: .ref a :: st) := by
  intro p l e R s m args below meth c H locs cells slots ls C hok hS hc hs' hl
  have kk' := kk p l e R s m args below meth c H locs cells slots ls C hok hS hc hs' hl
  have hlt : i.toNatClampNeg < n := Nat.not_le.mp fun q => hin (Or.inr q)
  obtain ⟨-, hcell⟩ := mm_arr hok hs (by decide)
  have hcell : H[a]? = some (vp_cell (G.2.1 3) (n, .inr (.inl (mm_L M a)))) := hcell
  exact W.lald (v := .long (mm_L M a i.toNatClampNeg)) C.1.1 C.1.2.1 hcell ((mm_aK C.2.2.2.2.1 (k := 3) (by decide)).1 n (fun j => .long (mm_L M a j))) (fun q => by cases q) (by show ¬ (i < 0 ∨ (arrV _ _ _).slots.size ≤ _); rw [arrV_size]; exact hin) (by show (arrV _ _ _).slots[_]? = _; rw [arrV_read _ _ hlt]) rfl rfl hd kk'
theorem mm_ar_r {i : Nat → Int32} {l : Nat → Int64} {r : Nat → Option Nat} {k n : Nat} (h : 3 < k) : mm_ar i l r k n = (n, .inr (.inr (.inr (.inr r)))) := by
  unfold mm_ar
  rw [if_neg (by omega), if_neg (by omega)]
theorem mm_el_r {k : Nat} (h : 3 < k) : ∃ C : String, mm_el k = .object C := by
  match k, h with
  | 4, _ => exact ⟨_, rfl⟩
  | 5, _ => exact ⟨_, rfl⟩
  | 6, _ => exact ⟨_, rfl⟩
  | 7, _ => exact ⟨_, rfl⟩
  | 8, _ => exact ⟨_, rfl⟩
  | n + 9, _ => exact ⟨_, rfl⟩
theorem wa_aald {a k n : Nat} {i : Int32} {v : Value} (hd : decode J.2.1 pc = .ok (.aaload, 1)) (hs : mm_sh M a = some (.inr (k, n))) (hk3 : 3 < k) (hk : k < 10) (hin : vp_in i n) (hv : va_rf (mm_R M a i.toNatClampNeg) = v) (kk : wa_ fl G J d mc ms Q kc ks M (pc + 1) lv (v :: st)) : wa_ fl G J d mc ms Q kc ks M pc lv (.int i :: .ref a :: st) := by
  intro p l e R s m args below meth c H locs cells slots ls C hok hS hc hs' hl
  have kk' := kk p l e R s m args below meth c H locs cells slots ls C hok hS hc hs' hl
  subst hv
  have hlt : i.toNatClampNeg < n := Nat.not_le.mp fun q => hin (Or.inr q)
  obtain ⟨-, hcell⟩ := mm_arr hok hs hk
  rw [mm_ar_r hk3] at hcell
  obtain ⟨CC, hCC⟩ := mm_el_r hk3
  have hA := (mm_aK C.2.2.2.2.1 hk).1
  rw [hCC] at hA
  exact W.aald (v := va_rf (mm_R M a i.toNatClampNeg)) (ty := .object CC) C.1.1 C.1.2.1 hcell (hA n (fun j => va_rf (mm_R M a j))) rfl (fun q => by cases q) (by show ¬ (i < 0 ∨ (arrV _ _ _).slots.size ≤ _); rw [arrV_size]; exact hin) (by show (arrV _ _ _).slots[_]? = _; rw [arrV_read _ _ hlt]) rfl rfl hd kk'
theorem wa_iast {a n : Nat} {i x : Int32} (hd : decode J.2.1 pc = .ok (.iastore, 1)) (hs : mm_sh M a = some (.inr (0, n))) (hin : vp_in i n) (kk : wa_ fl G J d mc ms Q kc ks (mm_sI M a i.toNatClampNeg x) (pc + 1) lv st) : wa_ fl G J d mc ms Q kc ks M pc lv (.int x :: .int i :: .ref a :: st) := by
  intro p l e R s m args below meth c H locs cells slots ls C hok hS hc hs' hl
  obtain ⟨hge, hcell⟩ := mm_arr hok hs (by decide)
  refine W.iast C.1.1 C.1.2.1 hcell ((mm_aK C.2.2.2.2.1 (k := 0) (by decide)).1 n (fun j => .int (mm_I M a j))) (fun q => by cases q) (by show ¬ (i < 0 ∨ (arrV _ _ _).slots.size ≤ _); rw [arrV_size]; exact hin) rfl rfl hd fun H1 e1 z oq => ?_
  refine kk p l e R s m args below meth c H1 _ cells slots ls C (mm_ok_put hok hs rfl rfl (fun b hb => mm_ne_sI b hb) z oq ⟨hge, ?_⟩) (mm_S_put hS z oq hge) hc hs' hl
  rw [e1]
  show some ((vp_cell _ (n, .inl (mm_I M a))).setSlot _ _) = some (vp_cell _ (n, .inl (mm_I (mm_sI M a i.toNatClampNeg x) a)))
  rw [vp_cell_i, vp_cell_i, arrV_store]
  congr 2
  funext j
  by_cases hq : j = i.toNatClampNeg
  · subst hq
    simp [updV, mm_I, mm_sI, mm_u]
  · simp [updV, mm_I, mm_sI, mm_u, hq]
theorem wa_bast {a n : Nat} {i x : Int32} (hd : decode J.2.1 pc = .ok (.bastore, 1)) (hs : mm_sh M a = some (.inr (1, n))) (hin : vp_in i n) (kk : wa_ fl G J d mc ms Q kc ks (mm_sI M a i.toNatClampNeg (vp_nar .byte x)) (pc + 1) lv st) : wa_ fl G J d mc ms Q kc ks M pc lv (.int x :: .int i :: .ref a :: st) := by
  intro p l e R s m args below meth c H locs cells slots ls C hok hS hc hs' hl
  obtain ⟨hge, hcell⟩ := mm_arr hok hs (by decide)
  refine W.bast C.1.1 C.1.2.1 hcell ((mm_aK C.2.2.2.2.1 (k := 1) (by decide)).1 n (fun j => .int (mm_I M a j))) (fun q => by cases q) (by show ¬ (i < 0 ∨ (arrV _ _ _).slots.size ≤ _); rw [arrV_size]; exact hin) rfl rfl hd fun H1 e1 z oq => ?_
  refine kk p l e R s m args below meth c H1 _ cells slots ls C (mm_ok_put hok hs rfl rfl (fun b hb => mm_ne_sI b hb) z oq ⟨hge, ?_⟩) (mm_S_put hS z oq hge) hc hs' hl
  rw [e1]
  show some ((vp_cell _ (n, .inl (mm_I M a))).setSlot _ _) = some (vp_cell _ (n, .inl (mm_I (mm_sI M a i.toNatClampNeg (vp_nar .byte x)) a)))
  rw [vp_cell_i, vp_cell_i, arrV_store]
  congr 2
  funext j
  by_cases hq : j = i.toNatClampNeg
  · subst hq
    simp [updV, mm_I, mm_sI, mm_u, vp_nar, narrow]
  · simp [updV, mm_I, mm_sI, mm_u, hq]
theorem wa_zast {a n : Nat} {i x : Int32} (hd : decode J.2.1 pc = .ok (.bastore, 1)) (hs : mm_sh M a = some (.inr (2, n))) (hin : vp_in i n) (hx : narrow .boolean (.int x) = .int x) (kk : wa_ fl G J d mc ms Q kc ks (mm_sI M a i.toNatClampNeg x) (pc + 1) lv st) : wa_ fl G J d mc ms Q kc ks M pc lv (.int x :: .int i :: .ref a :: st) := by
  intro p l e R s m args below meth c H locs cells slots ls C hok hS hc hs' hl
  obtain ⟨hge, hcell⟩ := mm_arr hok hs (by decide)
  refine W.zast C.1.1 C.1.2.1 hcell ((mm_aK C.2.2.2.2.1 (k := 2) (by decide)).1 n (fun j => .int (mm_I M a j))) (fun q => by cases q) (by show ¬ (i < 0 ∨ (arrV _ _ _).slots.size ≤ _); rw [arrV_size]; exact hin) rfl rfl hd fun H1 e1 z oq => ?_
  refine kk p l e R s m args below meth c H1 _ cells slots ls C (mm_ok_put hok hs rfl rfl (fun b hb => mm_ne_sI b hb) z oq ⟨hge, ?_⟩) (mm_S_put hS z oq hge) hc hs' hl
  rw [e1]
  show some ((vp_cell _ (n, .inl (mm_I M a))).setSlot _ _) = some (vp_cell _ (n, .inl (mm_I (mm_sI M a i.toNatClampNeg x) a)))
  rw [vp_cell_i, vp_cell_i, hx, arrV_store]
  congr 2
  funext j
  by_cases hq : j = i.toNatClampNeg
  · subst hq
    simp [updV, mm_I, mm_sI, mm_u]
  · simp [updV, mm_I, mm_sI, mm_u, hq]
theorem wa_last {a n : Nat} {i : Int32} {x : Int64} (hd : decode J.2.1 pc = .ok (.lastore, 1)) (hs : mm_sh M a = some (.inr (3, n))) (hin : vp_in i n) (kk : wa_ fl G J d mc ms Q kc ks (mm_sL M a i.toNatClampNeg x) (pc + 1) lv st) : wa_ fl G J d mc ms Q kc ks M pc lv (.long x :: .int i :: .ref a :: st) := by
  intro p l e R s m args below meth c H locs cells slots ls C hok hS hc hs' hl
  obtain ⟨hge, hcell⟩ := mm_arr hok hs (by decide)
  refine W.last C.1.1 C.1.2.1 hcell ((mm_aK C.2.2.2.2.1 (k := 3) (by decide)).1 n (fun j => .long (mm_L M a j))) (fun q => by cases q) (by show ¬ (i < 0 ∨ (arrV _ _ _).slots.size ≤ _); rw [arrV_size]; exact hin) rfl rfl hd fun H1 e1 z oq => ?_
  refine kk p l e R s m args below meth c H1 _ cells slots ls C (mm_ok_put hok hs rfl rfl (fun b hb => mm_ne_sL b hb) z oq ⟨hge, ?_⟩) (mm_S_put hS z oq hge) hc hs' hl
  rw [e1]
  show some ((vp_cell _ (n, .inr (.inl (mm_L M a)))).setSlot _ _) = some (vp_cell _ (n, .inr (.inl (mm_L (mm_sL M a i.toNatClampNeg x) a))))
  rw [vp_cell_l, vp_cell_l, arrV_store]
  congr 2
  funext j
  by_cases hq : j = i.toNatClampNeg
  · subst hq
    simp [updV, mm_L, mm_sL, mm_u]
  · simp [updV, mm_L, mm_sL, mm_u, hq]
end ROWS2
end
section
section ROWS3
variable {fl : Bool} {G : mm_G} {J : mm_J} {d mc ms kc ks : Nat} {Q : Option Value → mm_M → Prop} {M : mm_M} {pc : Nat} {lv : List (Option Value)} {st : List Value}
def mm_okt : FieldType → Bool
  | .float => false
  | .double => false
  | _ => true
theorem mm_dv {ty : FieldType} (h : mm_okt ty = true) (k : Nat) : defaultValue ty = mm_fv (fun _ => 0) (fun _ => 0) (fun _ => none) k ty := by
  cases ty <;> first | rfl | cases h
theorem mm_okts : ∀ (ci : Nat) (q : vw_C), mm_cl[ci]? = some q → ∀ k, k < q.2.2 → mm_okt (mm_ty ci k) = true := mm_cases (by decide +kernel) (by decide +kernel) (by decide +kernel) (by decide +kernel) (by decide +kernel) (by decide +kernel) (by decide +kernel) (by decide +kernel) (by decide +kernel) (by decide +kernel) (by decide +kernel) (by decide +kernel) (by decide +kernel)
theorem mm_grow {G : mm_G} {s : State} {H : Heap} {locs : List Loc} {n : Nat} (h : mm_sz G ≤ s.heap.size) (hS : va_S (mm_fr G) s.heap H locs) (hn : H.size = n) : mm_sz G ≤ n := by rw [← hn]; exact Nat.le_trans h hS.1
/-- all that is there stays, apart from the new one -/
def mm_ext (M : mm_M) (s : mm_S) : Prop := ∀ (b : Nat) (t : mm_S), mm_sh M b = some t → mm_sh (mm_new M s) b = some t ∧ b ≠ mm_z M ∧ b < mm_z M
theorem wa_new {ci i n : Nat} {q : vw_C} (hd : decode J.2.1 pc = .ok (.new i, 3)) (hq : mm_cl[ci]? = some q) (hn : q.2.2 = n) (hw1 : Cond.classLink J.1.cls i q.1 ∈ gt_ws) (hw2 : Cond.instantiable q.1 q.2.2 ∈ gt_ws) (hw3 : Cond.initialized q.1 ∈ gt_ws) (kk : mm_ext M (.inl ci) → wa_ fl G J d mc ms Q kc ks (mm_new M (.inl ci)) (pc + 3) lv (.ref (mm_z M) :: st)) : wa_ fl G J d mc ms Q (kc + 1) (ks + n) M pc lv st := by
  intro p l e R s m args below meth c H locs cells slots ls C hok hS hc hs hl
  subst hn
  have hKn := C.2.2.2.2.1.1.1 ci q hq
  have hR := C.2.2.2.2.2.2.2
  refine W.newcK C.1.1 C.1.2.1 C.1.2.2.2.1 (C.1.2.2.2.2 _ hw1) (C.1.2.2.2.2 _ hw2) (C.1.2.2.2.2 _ hw3) rfl hd (by omega) (by omega) hKn.2.1 rfl fun H1 kC hkC e1 z1 o1 => ?_
  rw [hok.2]
  refine kk (fun b t hb => ⟨(mm_sh_new hok (.inl ci) hb).1, (mm_sh_new hok (.inl ci) hb).2, mm_ok_lt hok hb⟩) p l e R s m args below meth c H1 locs _ _ ls C (mm_ok_new hok (.inl ci) z1 o1 ⟨mm_grow C.2.2.2.2.2.2.1 hS rfl, q, hq, ?_⟩) (mm_S_new hS (by omega) o1) (by omega) (by omega) hl
  exact (u_born (mm_ty ci) C.1.2.2.2.2 (mm_in ci q hq) hKn hkC e1 (mm_tyok ci q hq)).to (fun k hk => mm_dv (mm_okts ci q hq k hk) k)
theorem mm_ar0 {k n : Nat} (hk : k < 10) (cA : ClassId) : vp_cell cA (mm_ar (fun _ => 0) (fun _ => 0) (fun _ => none) k n) = arrV cA n (fun _ => defaultValue (mm_el k)) := by
  match k, hk with
  | 0, _ => rfl
  | 1, _ => rfl
  | 2, _ => rfl
  | 3, _ => rfl
  | 4, _ => rfl
  | 5, _ => rfl
  | 6, _ => rfl
  | 7, _ => rfl
  | 8, _ => rfl
  | 9, _ => rfl
  | n + 10, h => exact absurd h (by omega)
theorem mm_arn {k n : Nat} (hk : k < 10) (G : mm_G) (U : State) (H : Heap) (a : Nat) (h1 : mm_sz G ≤ a) (h2 : H[a]? = some (arrV (G.2.1 k) n (fun _ => defaultValue (mm_el k)))) : mm_at G U H a (.inr (k, n)) (fun _ => 0) (fun _ => 0) (fun _ => none) := by
  simp only [mm_at, hk, if_true]
  exact ⟨h1, by rw [mm_ar0 hk]; exact h2⟩
theorem wa_newa {k n : Nat} {at_ : ArrayType} {x : Int32} (hd : decode J.2.1 pc = .ok (.newarray at_, 2)) (hk : k < 4) (hty : newarray.typeOf at_ = mm_el k) (hw : Cond.arrayClass (mm_el k) ∈ gt_ws) (hx : ¬ x < 0) (hn : x.toNatClampNeg = n) (hb : n * 8 ≤ 536870912) (kk : mm_ext M (.inr (k, n)) → wa_ fl G J d mc ms Q kc ks (mm_new M (.inr (k, n))) (pc + 2) lv (.ref (mm_z M) :: st)) : wa_ fl G J d mc ms Q (kc + 1) (ks + n) M pc lv (.int x :: st) := by
  intro p l e R s m args below meth c H locs cells slots ls C hok hS hc hs hl
  have hR := C.2.2.2.2.2.2.2
  have hk10 : k < 10 := by omega
  have hcb : n * componentBytes (newarray.typeOf at_) ≤ 536870912 := by
    refine Nat.le_trans (Nat.mul_le_mul_left n ?_) hb
    rw [hty]
    match k, hk with
    | 0, _ => decide
    | 1, _ => decide
    | 2, _ => decide
    | 3, _ => decide
  refine va_newaK C.1.1 C.1.2.1 (by rw [hty]; exact C.1.2.2.2.2 _ hw) rfl hd rfl hx hn hcb (by omega) (by omega) rfl fun H1 cA e1 z1 o1 hAr hNm => ?_
  rw [hty] at e1 hNm
  have hRA := (mm_aK C.2.2.2.2.1 hk10).2
  have hcA : cA = G.2.1 k := by
    match k, hk, hNm, hRA with
    | 0, _, h1, h2 => exact Option.some.inj (h1.symm.trans h2)
    | 1, _, h1, h2 => exact Option.some.inj (h1.symm.trans h2)
    | 2, _, h1, h2 => exact Option.some.inj (h1.symm.trans h2)
    | 3, _, h1, h2 => exact Option.some.inj (h1.symm.trans h2)
  subst hcA
  rw [hok.2]
  exact kk (fun b t hb => ⟨(mm_sh_new hok (.inr (k, n)) hb).1, (mm_sh_new hok (.inr (k, n)) hb).2, mm_ok_lt hok hb⟩) p l e R s m args below meth c H1 locs _ _ ls C (mm_ok_new hok (.inr (k, n)) z1 o1 (mm_arn hk10 G s H1 _ (mm_grow C.2.2.2.2.2.2.1 hS rfl) e1)) (mm_S_new hS (by omega) o1) (by omega) (by omega) hl
theorem wa_anew {k n i : Nat} {CC : String} {x : Int32} (hd : decode J.2.1 pc = .ok (.anewarray i, 3)) (hk : k < 10) (hty : mm_el k = .object CC) (hw : Cond.classLink J.1.cls i CC ∈ gt_ws) (ho : Cond.arrayOver (.object CC) ∈ mm_nw) (hx : ¬ x < 0) (hn : x.toNatClampNeg = n) (hb : n * 4 ≤ 536870912) (kk : mm_ext M (.inr (k, n)) → wa_ fl G J d mc ms Q kc ks (mm_new M (.inr (k, n))) (pc + 3) lv (.ref (mm_z M) :: st)) : wa_ fl G J d mc ms Q (kc + 1) (ks + n) M pc lv (.int x :: st) := by
  intro p l e R s m args below meth c H locs cells slots ls C hok hS hc hs hl
  have hR := C.2.2.2.2.2.2.2
  subst hn
  refine W.anew C.1.1 C.1.2.1 C.1.2.2.2.1 (C.1.2.2.2.2 _ hw) (va_AO.use (C.2.2.2.2.1.2.1 _ ho)) rfl hd rfl hx hb (by omega) (by omega) fun cA kA comp f1 f2 f3 f4 => ?_
  have hRA := (mm_aK C.2.2.2.2.1 hk).2
  rw [hty] at hRA
  obtain ⟨-, -, -, -, -, hNm⟩ := hRA
  have hcA : cA = G.2.1 k := Option.some.inj (f1.symm.trans hNm)
  subst hcA
  generalize hH1 : H.push ({ cls := G.2.1 k, slots := Array.replicate x.toNatClampNeg .null, vm := .none } : Cell) = H1
  have z1 : H1.size = H.size + 1 := by rw [← hH1, Array.size_push]
  have e1 : H1[H.size]? = some (arrV (G.2.1 k) x.toNatClampNeg (fun _ => .null)) := by rw [← hH1, Array.getElem?_push_size, ← arrV_new]
  have o1 : ∀ q : Nat, q < H.size → H1[q]? = H[q]? := fun q hq => by rw [← hH1, Array.getElem?_push, if_neg (Nat.ne_of_lt hq)]
  rw [hok.2]
  exact kk (fun b t hb => ⟨(mm_sh_new hok (.inr (k, x.toNatClampNeg)) hb).1, (mm_sh_new hok (.inr (k, x.toNatClampNeg)) hb).2, mm_ok_lt hok hb⟩) p l e R s m args below meth c H1 locs _ _ ls C (mm_ok_new hok (.inr (k, x.toNatClampNeg)) z1 o1 (mm_arn hk G s H1 _ (mm_grow C.2.2.2.2.2.2.1 hS rfl) (by rw [hty]; exact e1))) (mm_S_new hS (by omega) o1) (by omega) (by omega) hl
/-! stores of references -/
theorem wa_aast {a k n ci v : Nat} {q : vw_C} {i : Int32} (hd : decode J.2.1 pc = .ok (.aastore, 1)) (hs : mm_sh M a = some (.inr (k, n))) (hk3 : 3 < k) (hk : k < 10) (hv : mm_sh M v = some (.inl ci)) (hq : mm_cl[ci]? = some q) (hty : mm_el k = .object q.1) (hin : vp_in i n) (kk : wa_ fl G J d mc ms Q kc ks (mm_sR M a i.toNatClampNeg (some v)) (pc + 1) lv st) : wa_ fl G J d mc ms Q kc ks M pc lv (.ref v :: .int i :: .ref a :: st) := by
  intro p l e R s m args below meth c H locs cells slots ls C hok hS hc hs' hl
  have hlt : i.toNatClampNeg < n := Nat.not_le.mp fun q => hin (Or.inr q)
  have h0 : ¬ i < 0 := fun q => hin (Or.inl q)
  obtain ⟨hge, hcell⟩ := mm_arr hok hs hk
  rw [mm_ar_r hk3] at hcell
  obtain ⟨-, cellV, g1, g2, g3, -⟩ := mm_obj hok hv hq
  have hcls := (C.2.2.2.2.1.1.1 ci q hq).2
  have hRA := (mm_aK C.2.2.2.2.1 hk).2
  rw [hty] at hRA
  obtain ⟨kA, comp, k1, k2, k3, -⟩ := hRA
  have hcomp : comp = G.1.1 ci := Option.some.inj (k3.symm.trans hcls.1)
  subst hcomp
  obtain ⟨kC, hkC, -⟩ := hcls.2
  refine W.aast C.1.1 C.1.2.1 hcell (fun q h => by cases h) (fun h => by cases h) k1 k2 rfl hkC ⟨h0, by show _ < (arrV _ _ _).slots.size; rw [arrV_size]; exact hlt⟩ g1 (fun q h => by rw [g3] at h; cases h) (by rw [g2]; exact hkC) (by rw [g2]; exact va_assign hcls) rfl rfl hd fun H1 e1 z oq => ?_
  refine kk p l e R s m args below meth c H1 _ cells slots ls C (mm_ok_put hok hs rfl rfl (fun b hb => mm_ne_sR b hb) z oq ?_) (mm_S_put hS z oq hge) hc hs' hl
  simp only [mm_at, hk, if_true]
  refine ⟨hge, ?_⟩
  rw [e1, mm_ar_r hk3, vp_cell_q, vp_cell_q, arrV_store]
  congr 2
  funext j
  by_cases hq : j = i.toNatClampNeg
  · subst hq
    simp [updV, mm_R, mm_sR, mm_u, va_rf]
  · simp [updV, mm_R, mm_sR, mm_u, hq]
/-! statics -/
theorem wa_gets {k i : Nat} {C n dd : String} {v : Value} (hd : decode J.2.1 pc = .ok (.getstatic i, 3)) (hz : mm_Zn[k]? = some (C, n, dd)) (hw : Cond.fieldLink J.1.cls i C n dd ∈ gt_ws) (hv : G.2.2.2.1 k = v) (kk : wa_ fl G J d mc ms Q kc ks M (pc + 3) lv (v :: st)) : wa_ fl G J d mc ms Q kc ks M pc lv st := by
  intro p l e R s m args below meth c H locs cells slots ls C hok hS hc hs' hl
  subst hv
  exact va_gets C.1.1 C.1.2.1 (C.2.2.2.2.2.1.1 k _ hz) hS C.1.2.2.2.1 (C.1.2.2.2.2 _ hw) (fun _ h => h) hd (kk p l e R s m args below meth c H locs cells slots ls C hok hS hc hs' hl)
theorem wa_getsN {k i : Nat} {C n dd host : String} {v : Value} (hd : decode J.2.1 pc = .ok (.getstatic i, 3)) (hz : mm_Zn[k]? = some (C, n, dd)) (hw : Cond.fieldLinkNest J.1.cls i C n dd host ∈ mm_nw) (hv : G.2.2.2.1 k = v) (kk : wa_ fl G J d mc ms Q kc ks M (pc + 3) lv (v :: st)) : wa_ fl G J d mc ms Q kc ks M pc lv st := by
  intro p l e R s m args below meth c H locs cells slots ls C hok hS hc hs' hl
  subst hv
  exact va_getsN C.1.1 C.1.2.1 (C.2.2.2.2.2.1.1 k _ hz) hS C.1.2.2.2.1 (va_Nw.use rfl (C.2.2.2.2.1.2.1 _ hw)) (fun _ h => h) hd (kk p l e R s m args below meth c H locs cells slots ls C hok hS hc hs' hl)
/-! calls -/
theorem mm_good {J2 : mm_J} (h : Cond.code J2.1 J2.2.1 J2.2.2.1 J2.2.2.2 ∈ gt_ws) : GoodIn gt_ws (mm_ws J2) := by
  intro w hw
  have hm : w ∈ gt_ws := by
    rcases List.mem_cons.mp hw with rfl | h1
    · exact h
    · exact h1
  exact ⟨hm, good_of_word (gt_good w hm)⟩
def lk_B (own : String) (i : Nat) (J2 : mm_J) (n : Nat) : Prop := Cond.methodLink own i J2.1 ∈ gt_ws ∧ Cond.code J2.1 J2.2.1 J2.2.2.1 J2.2.2.2 ∈ gt_ws ∧ Cond.initialized J2.1.cls ∈ gt_ws ∧ (J2.1.cls ≠ "java/lang/invoke/MethodHandle" ∧ J2.1.cls ≠ "java/lang/invoke/VarHandle" ∧ (parseMethodDescriptor J2.1.desc).map (fun d => d.parameters.length) = some n) ∧ J2.2.2.1 ≤ 61
def lk_V (own : String) (i : Nat) (J2 : mm_J) (n : Nat) : Prop := lk_B own i J2 n ∧ Cond.instanceMethod J2.1 ∈ gt_ws ∧ Cond.selects J2.1.cls J2.1 J2.1 ∈ gt_ws
def lk_S (own : String) (i : Nat) (J2 : mm_J) (n : Nat) : Prop := lk_B own i J2 n ∧ Cond.static J2.1 ∈ gt_ws
def lk_I (own : String) (i : Nat) (J2 : mm_J) (n : Nat) : Prop := lk_B own i J2 n ∧ J2.1.name = "<init>" ∧ Cond.instanceMethod J2.1 ∈ gt_ws
def mm_res (o : Option Value) (st : List Value) : List Value := match o with
  | some v => v :: st
  | none => st
theorem mm_res_eq (o : Option Value) (st : List Value) : o.toList ++ st = mm_res o st := by cases o <;> rfl
theorem mm_blind (G : mm_G) (M : mm_M) (av : List Value) : FrameBlind (va_Pc av (mm_pre G M)) := by
  intro a U g mk h
  obtain ⟨h1, h2, h3, h4, h5⟩ := h
  exact ⟨h1, mm_ok_moved (u := U) (U := U.calling g mk a) (Vm.Alike.refl U.vm) h2, mm_K_same (s := U) (U := U.calling g mk a) rfl h3, mm_Z_moved (u := U) (U := U.calling g mk a) (Vm.Alike.refl U.vm) h4, h5⟩
theorem mm_enter {p : Program} {R : Room} {s : State} {m : MethodId} {args : Array Value} {meth : Method} {c : Code} {H : Heap} {locs : List Loc} (C : wa_C G J d mc ms p R s m args meth c) (hok : mm_ok G M s H) (hS : va_S (mm_fr G) s.heap H locs) (av : List Value) : ∀ U : State, U.heap = H → s.WarmedH U.vm → va_Pc av (mm_pre G M) av.toArray U := by
  intro U hU hW
  refine ⟨rfl, by rw [hU]; exact mm_ok_moved hW.alike hok, mm_K_warm hW C.2.2.2.2.1, ?_, by rw [hU]; exact Nat.le_trans C.2.2.2.2.2.2.1 hS.1⟩
  rw [hU]
  exact mm_Z_moved hW.alike (mm_Z_kept C.2.2.2.2.2.1 hS.2.1)
theorem mm_call {p : Program} {l : Launch} {e : Env} {R : Room} {s : State} {m : MethodId} {args : Array Value} {below : List Frame} {meth : Method} {c : Code} {H : Heap} {locs : List Loc} {cells slots mc2 ms2 : Nat} {Qs : State → Prop} {ls : Array Slot} {st0 rest : List Value} {Q2 : Option Value → mm_M → Prop} {av : Array Value}
    (hr : va_Run p l e R s m args below meth c H locs cells slots mc2 ms2 (F0 m pc ls st0) rest (mm_post G Q2 av) (mm_fr G)) (hS : va_S (mm_fr G) s.heap H locs)
    (kk : ∀ (o : Option Value) (M' : mm_M) (H1 : Heap) (locs1 : List Loc), Q2 o M' → mm_ok G M' s H1 → va_S (mm_fr G) s.heap H1 locs1 → W p l e R s m args below meth c H1 locs1 (cells + mc2) (slots + ms2) Qs (F0 m (pc + 3) ls (mm_res o rest))) : W p l e R s m args below meth c H locs cells slots Qs (F0 m pc ls st0) := by
  intro T hT X
  obtain ⟨v, st₀, t, T', L, h0, X', hL, e1, e2, ⟨⟨o, M', hv, hq, hb⟩, hz, hk⟩, stp⟩ := hr T hT X
  cases hv
  rw [h0] at hz hk
  have hal : t.vm.Alike s.vm := by
    have h1 : s.vm.Alike T'.vm := X'.warmed.alike
    rw [e2] at h1
    exact h1.symm
  obtain ⟨t2, a1, b1⟩ := kk v M' T'.heap (locs ++ L) hq (by rw [e1]; exact mm_ok_moved hal hb)
    ⟨Nat.le_trans hS.1 (by rw [e1]; exact hz), fun q h1 h2 => by rw [e1, hk q (Nat.lt_of_lt_of_le h1 hS.1) h2]; exact hS.2.1 q h1 h2, fun q hq => by
      rcases List.mem_append.mp hq with h | h
      · exact hS.2.2 q h
      · exact hL q h⟩ T' rfl X'
  rw [← mm_res_eq] at a1
  exact ⟨t2, stp t2 a1, b1⟩
theorem mm_cat {m : MethodId} {pc : Nat} {ls : Array Slot} {st rest : List Value} (h : (rest.map fun v => v.category).sum ≤ 8) : 2 * (F0 m pc ls st).monitorRoom + (rest.map fun v => v.category).sum ≤ 8 := lv_room h
theorem wa_callV {J2 : mm_J} {d2 mc2 ms2 i n ci b : Nat} {As rest st0 : List Value} {q : vw_C} {kc' ks' : Nat} (hd : decode J.2.1 pc = .ok (.invokevirtual i, 3)) (hL : lk_V J.1.cls i J2 n) (hn : As.length = n) (hst : st0 = As.reverse ++ .ref b :: rest) (hs : mm_sh M b = some (.inl ci)) (hq : mm_cl[ci]? = some q) (hcls : q.1 = J2.1.cls) (hcat : (rest.map fun v => v.category).sum ≤ 8) (h1 : mc2 + kc' ≤ kc) (h2 : ms2 + ks' ≤ ks)
    (hM : ma_ G J2 d2 mc2 ms2 (.ref b :: As) M (fun o M' => wa_ fl G J (d2 + 1) mc ms Q kc' ks' M' (pc + 3) lv (mm_res o rest))) : wa_ fl G J (d2 + 1) mc ms Q kc ks M pc lv st0 := by
  intro p l e R s m args below meth c H locs cells slots ls C hok hS hc hs' hl
  obtain ⟨⟨w1, w2, w3, w4, w5⟩, w6, w7⟩ := hL
  have hR := C.2.2.2.2.2.2.2
  have hts := C.1.2.2.2.2
  obtain ⟨-, cell, g1, g2, g3, -⟩ := mm_obj hok hs hq
  have hcl := (C.2.2.2.2.1.1.1 ci q hq).2.1
  have hcb : CallB R s args J.1.cls i J2.1 J2.2.1 J2.2.2.1 J2.2.2.2 (mm_ws J2) (mm_rm d2 mc2 ms2) mc2 ms2 n := callB_of (Ts := gt_ws) n hts (mm_good w2) rfl rfl rfl (hts _ w3) (hts _ w1) w4 ⟨by show d2 + 1 ≤ _; omega, by show 8 + (J2.2.2.1 + 11) + 80 * d2 ≤ _; omega⟩
  refine mm_call (va_runV (C := J2.1.cls) (As := As) (rest := rest) (b := b) C.1 (hM l) ⟨hcb, hts _ w6, hts _ w7⟩ ⟨mm_blind G M _, ⟨cell, g1, by rw [g3]; rfl, by rw [g2, ← hcls]; exact hcl⟩, mm_enter C hok hS (.ref b :: As)⟩ rfl hn hl.1 hst (mm_cat hcat) hd ⟨by omega, by omega⟩) hS ?_
  intro o M' H1 locs1 hQ hok1 hS1
  exact hQ p l e R s m args below meth c H1 locs1 _ _ ls C hok1 hS1 (by omega) (by omega) hl
theorem wa_callS {J2 : mm_J} {d2 mc2 ms2 i n : Nat} {As rest st0 : List Value} {kc' ks' : Nat} (hd : decode J.2.1 pc = .ok (.invokestatic i, 3)) (hL : lk_S J.1.cls i J2 n) (hn : As.length = n) (hst : st0 = As.reverse ++ rest) (hcat : (rest.map fun v => v.category).sum ≤ 8) (h1 : mc2 + kc' ≤ kc) (h2 : ms2 + ks' ≤ ks)
    (hM : ma_ G J2 d2 mc2 ms2 As M (fun o M' => wa_ fl G J (d2 + 1) mc ms Q kc' ks' M' (pc + 3) lv (mm_res o rest))) : wa_ fl G J (d2 + 1) mc ms Q kc ks M pc lv st0 := by
  intro p l e R s m args below meth c H locs cells slots ls C hok hS hc hs' hl
  obtain ⟨⟨w1, w2, w3, w4, w5⟩, w6⟩ := hL
  have hR := C.2.2.2.2.2.2.2
  have hts := C.1.2.2.2.2
  have hcb : CallB R s args J.1.cls i J2.1 J2.2.1 J2.2.2.1 J2.2.2.2 (mm_ws J2) (mm_rm d2 mc2 ms2) mc2 ms2 n := callB_of (Ts := gt_ws) n hts (mm_good w2) rfl rfl rfl (hts _ w3) (hts _ w1) w4 ⟨by show d2 + 1 ≤ _; omega, by show 8 + (J2.2.2.1 + 11) + 80 * d2 ≤ _; omega⟩
  refine mm_call (va_runS (As := As) (rest := rest) C.1 (hM l) ⟨hcb, hts _ w6⟩ ⟨mm_blind G M _, mm_enter C hok hS As⟩ rfl hn hl.1 hst (mm_cat hcat) hd ⟨by omega, by omega⟩) hS ?_
  intro o M' H1 locs1 hQ hok1 hS1
  exact hQ p l e R s m args below meth c H1 locs1 _ _ ls C hok1 hS1 (by omega) (by omega) hl
theorem wa_callI {J2 : mm_J} {d2 mc2 ms2 i n b : Nat} {As rest st0 : List Value} {kc' ks' : Nat} (hd : decode J.2.1 pc = .ok (.invokespecial i, 3)) (hL : lk_I J.1.cls i J2 n) (hret : J2.2.2.2 = none) (hn : As.length = n) (hst : st0 = As.reverse ++ .ref b :: rest) (hcat : (rest.map fun v => v.category).sum ≤ 8) (h1 : mc2 + kc' ≤ kc) (h2 : ms2 + ks' ≤ ks)
    (hM : ma_ G J2 d2 mc2 ms2 (.ref b :: As) M (fun o M' => wa_ fl G J (d2 + 1) mc ms Q kc' ks' M' (pc + 3) lv (mm_res o rest))) : wa_ fl G J (d2 + 1) mc ms Q kc ks M pc lv st0 := by
  intro p l e R s m args below meth c H locs cells slots ls C hok hS hc hs' hl
  obtain ⟨⟨w1, w2, w3, w4, w5⟩, w6, w7⟩ := hL
  have hR := C.2.2.2.2.2.2.2
  have hts := C.1.2.2.2.2
  have hcb : CallB R s args J.1.cls i J2.1 J2.2.1 J2.2.2.1 none (mm_ws J2) (mm_rm d2 mc2 ms2) mc2 ms2 n := by
    rw [← hret]
    exact callB_of (Ts := gt_ws) n hts (mm_good w2) rfl rfl rfl (hts _ w3) (hts _ w1) w4 ⟨by show d2 + 1 ≤ _; omega, by show 8 + (J2.2.2.1 + 11) + 80 * d2 ≤ _; omega⟩
  refine mm_call (va_runI (As := As) (rest := rest) (b := b) C.1 (hM l) ⟨hcb, w6, hts _ w7⟩ ⟨mm_blind G M _, mm_enter C hok hS (.ref b :: As)⟩ rfl hn hl.1 hst (mm_cat hcat) hd ⟨by omega, by omega⟩) hS ?_
  intro o M' H1 locs1 hQ hok1 hS1
  exact hQ p l e R s m args below meth c H1 locs1 _ _ ls C hok1 hS1 (by omega) (by omega) hl
/-- the call of Object's own constructor -/
theorem wa_obj {i a : Nat} (hd : decode J.2.1 pc = .ok (.invokespecial i, 3)) (hw : Cond.methodLink J.1.cls i objectInit ∈ gt_ws) (hw2 : Cond.instanceMethod objectInit ∈ gt_ws) (hw3 : Cond.code objectInit ⟨#[0xb1]⟩ 1 none ∈ gt_ws) (hcat : (st.map fun v => v.category).sum ≤ 8) (kk : wa_ fl G J (d + 1) mc ms Q kc ks M (pc + 3) lv st) : wa_ fl G J (d + 1) mc ms Q kc ks M pc lv (.ref a :: st) := by
  intro p l e R s m args below meth c H locs cells slots ls C hok hS hc hs' hl
  have hR := C.2.2.2.2.2.2.2
  have hts := C.1.2.2.2.2
  refine W.objInit C.1.1 C.1.2.1 C.1.2.2.2.1 (hts _ hw) (hts _ hw2) (hts _ hw3) rfl (by rw [C.1.2.2.1]; exact hl.1) rfl hd (by omega) ?_ (kk p l e R s m args below meth c H locs cells slots ls C hok hS hc hs' hl)
  have := mm_cat (m := m) (pc := pc) (ls := ls) (st := .ref a :: st) hcat
  omega
end ROWS3
end
section
abbrev jX0_init : mm_J := (yX0_init, cX0_init, 1, none)
abbrev jX0_fewest : mm_J := (yX0_fewest, cX0_fewest, 3, (Option.some (FieldType.array FieldType.int)))
abbrev jX0_tryWorth : mm_J := (yX0_tryWorth, cX0_tryWorth, 7, none)
abbrev jX1_init : mm_J := (yX1_init, cX1_init, 2, none)
abbrev jX1_fits : mm_J := (yX1_fits, cX1_fits, 4, (some FieldType.boolean))
abbrev jX1_total : mm_J := (yX1_total, cX1_total, 5, (some FieldType.int))
abbrev jX2_init : mm_J := (yX2_init, cX2_init, 6, none)
abbrev jX2_charge : mm_J := (yX2_charge, cX2_charge, 5, none)
abbrev jX2_measure : mm_J := (yX2_measure, cX2_measure, 2, (some FieldType.int))
abbrev jX2_stampsOf : mm_J := (yX2_stampsOf, cX2_stampsOf, 2, (some FieldType.int))
abbrev jX2_allStamps : mm_J := (yX2_allStamps, cX2_allStamps, 3, (some FieldType.int))
abbrev jX3_init : mm_J := (yX3_init, cX3_init, 3, none)
abbrev jX3_send : mm_J := (yX3_send, cX3_send, 2, none)
abbrev jX3_wasSent : mm_J := (yX3_wasSent, cX3_wasSent, 2, (some FieldType.boolean))
abbrev jX3_lose : mm_J := (yX3_lose, cX3_lose, 3, (some FieldType.boolean))
abbrev jX3_askDay : mm_J := (yX3_askDay, cX3_askDay, 4, (some FieldType.int))
abbrev jX3_comeDay : mm_J := (yX3_comeDay, cX3_comeDay, 5, (some FieldType.int))
abbrev jX3_inForce : mm_J := (yX3_inForce, cX3_inForce, 3, (some FieldType.int))
abbrev jX3_onTheWay : mm_J := (yX3_onTheWay, cX3_onTheWay, 5, (some FieldType.int))
abbrev jX3_isOut : mm_J := (yX3_isOut, cX3_isOut, 4, (some FieldType.boolean))
abbrev jX3_isAskOut : mm_J := (yX3_isAskOut, cX3_isAskOut, 4, (some FieldType.boolean))
abbrev jX3_accountsSent : mm_J := (yX3_accountsSent, cX3_accountsSent, 2, (some FieldType.int))
abbrev jX3_accountsCome : mm_J := (yX3_accountsCome, cX3_accountsCome, 2, (some FieldType.int))
abbrev jX3_stampsOf : mm_J := (yX3_stampsOf, cX3_stampsOf, 2, (some FieldType.int))
abbrev jX3_addStamps : mm_J := (yX3_addStamps, cX3_addStamps, 3, none)
abbrev jX3_book : mm_J := (yX3_book, cX3_book, 4, none)
abbrev jX4_init : mm_J := (yX4_init, cX4_init, 2, none)
abbrev jX4_read : mm_J := (yX4_read, cX4_read, 4, (Option.some (FieldType.array (FieldType.object "ConsulDesk$Line"))))
abbrev jX4_readLine : mm_J := (yX4_readLine, cX4_readLine, 3, (Option.some (FieldType.object "ConsulDesk$Line")))
abbrev jX4_readTests : mm_J := (yX4_readTests, cX4_readTests, 4, none)
abbrev jX4_readTest : mm_J := (yX4_readTest, cX4_readTest, 4, (Option.some (FieldType.object "ConsulDesk$Test")))
abbrev jX4_readTerms : mm_J := (yX4_readTerms, cX4_readTerms, 4, none)
abbrev jX4_readTerm : mm_J := (yX4_readTerm, cX4_readTerm, 5, (Option.some (FieldType.object "ConsulDesk$Term")))
abbrev jX4_needName : mm_J := (yX4_needName, cX4_needName, 2, (some FieldType.int))
abbrev jX4_need : mm_J := (yX4_need, cX4_need, 3, (some FieldType.int))
abbrev jX4_skip : mm_J := (yX4_skip, cX4_skip, 2, (some FieldType.boolean))
abbrev jX4_blame : mm_J := (yX4_blame, cX4_blame, 2, none)
abbrev jX4_isName : mm_J := (yX4_isName, cX4_isName, 1, (some FieldType.boolean))
abbrev jX5_init : mm_J := (yX5_init, cX5_init, 1, none)
abbrev jX5_add : mm_J := (yX5_add, cX5_add, 3, none)
abbrev jX5_clear : mm_J := (yX5_clear, cX5_clear, 1, none)
abbrev jX5_at : mm_J := (yX5_at, cX5_at, 2, (some FieldType.int))
abbrev jX6_init : mm_J := (yX6_init, cX6_init, 3, none)
abbrev jX6_feeOf : mm_J := (yX6_feeOf, cX6_feeOf, 4, (some FieldType.int))
abbrev jX7_init : mm_J := (yX7_init, cX7_init, 4, none)
abbrev jX7_amount : mm_J := (yX7_amount, cX7_amount, 3, (some FieldType.int))
abbrev jX8_init : mm_J := (yX8_init, cX8_init, 4, none)
abbrev jX8_holds : mm_J := (yX8_holds, cX8_holds, 3, (some FieldType.boolean))
abbrev jX9_init : mm_J := (yX9_init, cX9_init, 1, none)
abbrev jX9_cut : mm_J := (yX9_cut, cX9_cut, 4, none)
abbrev jX9_cutOne : mm_J := (yX9_cutOne, cX9_cutOne, 5, (some FieldType.int))
abbrev jX9_cutWord : mm_J := (yX9_cutWord, cX9_cutWord, 5, (some FieldType.int))
abbrev jX9_cutNumber : mm_J := (yX9_cutNumber, cX9_cutNumber, 6, (some FieldType.int))
abbrev jX9_put : mm_J := (yX9_put, cX9_put, 4, none)
abbrev jX9_isLetter : mm_J := (yX9_isLetter, cX9_isLetter, 1, (some FieldType.boolean))
abbrev jX9_isDigit : mm_J := (yX9_isDigit, cX9_isDigit, 1, (some FieldType.boolean))
abbrev jX9_wordKind : mm_J := (yX9_wordKind, cX9_wordKind, 3, (some FieldType.int))
abbrev jX9_isWord : mm_J := (yX9_isWord, cX9_isWord, 5, (some FieldType.boolean))
abbrev jX10_init : mm_J := (yX10_init, cX10_init, 1, none)
abbrev jX10_port : mm_J := (yX10_port, cX10_port, 4, (some FieldType.int))
abbrev jX10_feed : mm_J := (yX10_feed, cX10_feed, 6, (some FieldType.int))
abbrev jX10_tariff : mm_J := (yX10_tariff, cX10_tariff, 3, (some FieldType.int))
abbrev jX10_fault : mm_J := (yX10_fault, cX10_fault, 1, (some FieldType.int))
abbrev jX10_where : mm_J := (yX10_where, cX10_where, 1, (some FieldType.int))
abbrev jX10_lost : mm_J := (yX10_lost, cX10_lost, 4, (some FieldType.boolean))
abbrev jX10_pass : mm_J := (yX10_pass, cX10_pass, 2, (some FieldType.int))
abbrev jX10_force : mm_J := (yX10_force, cX10_force, 3, (some FieldType.int))
abbrev jX10_came : mm_J := (yX10_came, cX10_came, 4, (some FieldType.int))
abbrev jX10_asked : mm_J := (yX10_asked, cX10_asked, 4, (some FieldType.int))
abbrev jX10_under : mm_J := (yX10_under, cX10_under, 5, (some FieldType.int))
abbrev jX10_stock : mm_J := (yX10_stock, cX10_stock, 5, (some FieldType.int))
abbrev jX10_fee : mm_J := (yX10_fee, cX10_fee, 8, (some FieldType.int))
abbrev jX10_seal : mm_J := (yX10_seal, cX10_seal, 11, (some FieldType.int))
abbrev jX10_paper : mm_J := (yX10_paper, cX10_paper, 4, (some FieldType.int))
abbrev jX10_stamps : mm_J := (yX10_stamps, cX10_stamps, 4, (some FieldType.int))
abbrev jX10_about : mm_J := (yX10_about, cX10_about, 4, (some FieldType.int))
abbrev jX10_known : mm_J := (yX10_known, cX10_known, 5, (some FieldType.int))
abbrev jX10_sum : mm_J := (yX10_sum, cX10_sum, 5, (some FieldType.int))
abbrev jX10_homes : mm_J := (yX10_homes, cX10_homes, 2, (some FieldType.int))
abbrev jX10_difference : mm_J := (yX10_difference, cX10_difference, 5, (some FieldType.int))
abbrev jX10_unlike : mm_J := (yX10_unlike, cX10_unlike, 4, (some FieldType.int))
abbrev jX10_count : mm_J := (yX10_count, cX10_count, 2, (some FieldType.int))
abbrev jX10_trouble : mm_J := (yX10_trouble, cX10_trouble, 1, (some FieldType.int))
abbrev jX10_refuse : mm_J := (yX10_refuse, cX10_refuse, 2, (some FieldType.int))
abbrev jX10_accept : mm_J := (yX10_accept, cX10_accept, 2, (some FieldType.int))
abbrev jX10_portAt : mm_J := (yX10_portAt, cX10_portAt, 2, (Option.some (FieldType.object "ConsulDesk$Port")))
abbrev jX10_tariffAt : mm_J := (yX10_tariffAt, cX10_tariffAt, 2, (Option.some (FieldType.object "ConsulDesk$Tariff")))
abbrev jX10_paperAt : mm_J := (yX10_paperAt, cX10_paperAt, 2, (Option.some (FieldType.object "ConsulDesk$Paper")))
abbrev jX10_isWorth : mm_J := (yX10_isWorth, cX10_isWorth, 1, (some FieldType.boolean))
abbrev jX10_isPaper : mm_J := (yX10_isPaper, cX10_isPaper, 3, (some FieldType.boolean))
abbrev jX10_isPast : mm_J := (yX10_isPast, cX10_isPast, 2, (some FieldType.boolean))
abbrev jX10_sendOut : mm_J := (yX10_sendOut, cX10_sendOut, 3, none)
abbrev jX10_knownDay : mm_J := (yX10_knownDay, cX10_knownDay, 4, (some FieldType.int))
abbrev jX10_isKnown : mm_J := (yX10_isKnown, cX10_isKnown, 3, (some FieldType.boolean))
abbrev jX10_isKnownOf : mm_J := (yX10_isKnownOf, cX10_isKnownOf, 5, (some FieldType.boolean))
abbrev jX10_chargedFor : mm_J := (yX10_chargedFor, cX10_chargedFor, 3, (some FieldType.int))
abbrev jX10_homeFee : mm_J := (yX10_homeFee, cX10_homeFee, 6, (some FieldType.int))
abbrev jX10_accountsBelow : mm_J := (yX10_accountsBelow, cX10_accountsBelow, 1, (some FieldType.int))
abbrev jX11_init : mm_J := (yX11_init, cX11_init, 1, none)
abbrev jX12_init : mm_J := (yX12_init, cX12_init, 1, none)
abbrev jX12_refused : mm_J := (yX12_refused, cX12_refused, 2, (some FieldType.int))
abbrev jX12_done : mm_J := (yX12_done, cX12_done, 2, (some FieldType.int))
abbrev jX12_in : mm_J := (yX12_in, cX12_in, 3, (some FieldType.boolean))
abbrev jX12_stop : mm_J := (yX12_stop, cX12_stop, 2, (Option.some (FieldType.object "ConsulDeskModel$Stop")))
abbrev jX12_byteAt : mm_J := (yX12_byteAt, cX12_byteAt, 2, (some FieldType.int))
abbrev jX12_isLetter : mm_J := (yX12_isLetter, cX12_isLetter, 1, (some FieldType.boolean))
abbrev jX12_isDigit : mm_J := (yX12_isDigit, cX12_isDigit, 1, (some FieldType.boolean))
abbrev jX12_wordOf : mm_J := (yX12_wordOf, cX12_wordOf, 4, (some FieldType.long))
abbrev jX12_next : mm_J := (yX12_next, cX12_next, 3, none)
abbrev jX12_isWord : mm_J := (yX12_isWord, cX12_isWord, 2, (some FieldType.boolean))
abbrev jX12_is : mm_J := (yX12_is, cX12_is, 2, (some FieldType.boolean))
abbrev jX12_nameHere : mm_J := (yX12_nameHere, cX12_nameHere, 2, (some FieldType.int))
abbrev jX12_reads : mm_J := (yX12_reads, cX12_reads, 6, none)
abbrev jX12_readTest : mm_J := (yX12_readTest, cX12_readTest, 4, none)
abbrev jX12_readTerm : mm_J := (yX12_readTerm, cX12_readTerm, 4, none)
abbrev jX12_valueOf : mm_J := (yX12_valueOf, cX12_valueOf, 5, (some FieldType.int))
abbrev jX12_feeOf : mm_J := (yX12_feeOf, cX12_feeOf, 11, (some FieldType.int))
abbrev jX12_port : mm_J := (yX12_port, cX12_port, 3, (some FieldType.int))
abbrev jX12_sends : mm_J := (yX12_sends, cX12_sends, 4, none)
abbrev jX12_feed : mm_J := (yX12_feed, cX12_feed, 8, (some FieldType.int))
abbrev jX12_fault : mm_J := (yX12_fault, cX12_fault, 1, (some FieldType.int))
abbrev jX12_where : mm_J := (yX12_where, cX12_where, 1, (some FieldType.int))
abbrev jX12_isPort : mm_J := (yX12_isPort, cX12_isPort, 2, (some FieldType.boolean))
abbrev jX12_isTariff : mm_J := (yX12_isTariff, cX12_isTariff, 2, (some FieldType.boolean))
abbrev jX12_comes : mm_J := (yX12_comes, cX12_comes, 4, (some FieldType.int))
abbrev jX12_hasCome : mm_J := (yX12_hasCome, cX12_hasCome, 4, (some FieldType.boolean))
abbrev jX12_lost : mm_J := (yX12_lost, cX12_lost, 5, (some FieldType.boolean))
abbrev jX12_asks : mm_J := (yX12_asks, cX12_asks, 6, none)
abbrev jX12_pass : mm_J := (yX12_pass, cX12_pass, 4, (some FieldType.int))
abbrev jX12_forceOf : mm_J := (yX12_forceOf, cX12_forceOf, 3, (some FieldType.int))
abbrev jX12_force : mm_J := (yX12_force, cX12_force, 2, (some FieldType.int))
abbrev jX12_came : mm_J := (yX12_came, cX12_came, 3, (some FieldType.int))
abbrev jX12_asked : mm_J := (yX12_asked, cX12_asked, 3, (some FieldType.int))
abbrev jX12_under : mm_J := (yX12_under, cX12_under, 7, (some FieldType.int))
abbrev jX12_stock : mm_J := (yX12_stock, cX12_stock, 5, (some FieldType.int))
abbrev jX12_isPaper : mm_J := (yX12_isPaper, cX12_isPaper, 3, (some FieldType.boolean))
abbrev jX12_fee : mm_J := (yX12_fee, cX12_fee, 7, (some FieldType.int))
abbrev jX12_chooses : mm_J := (yX12_chooses, cX12_chooses, 12, (some FieldType.boolean))
abbrev jX12_seal : mm_J := (yX12_seal, cX12_seal, 9, (some FieldType.int))
abbrev jX12_homeOf : mm_J := (yX12_homeOf, cX12_homeOf, 2, (some FieldType.int))
abbrev jX12_paper : mm_J := (yX12_paper, cX12_paper, 5, (some FieldType.int))
abbrev jX12_stamps : mm_J := (yX12_stamps, cX12_stamps, 3, (some FieldType.int))
abbrev jX12_about : mm_J := (yX12_about, cX12_about, 3, (some FieldType.int))
abbrev jX12_known : mm_J := (yX12_known, cX12_known, 5, (some FieldType.int))
abbrev jX12_sum : mm_J := (yX12_sum, cX12_sum, 5, (some FieldType.int))
abbrev jX12_homesFee : mm_J := (yX12_homesFee, cX12_homesFee, 4, (some FieldType.int))
abbrev jX12_homes : mm_J := (yX12_homes, cX12_homes, 2, (some FieldType.int))
abbrev jX12_difference : mm_J := (yX12_difference, cX12_difference, 4, (some FieldType.int))
abbrev jX12_unlike : mm_J := (yX12_unlike, cX12_unlike, 4, (some FieldType.int))
abbrev jX12_count : mm_J := (yX12_count, cX12_count, 2, (some FieldType.int))
abbrev jX12_trouble : mm_J := (yX12_trouble, cX12_trouble, 1, (some FieldType.int))
abbrev jJ11_isValidCodePoint_9a6ad : mm_J := (yJ11_isValidCodePoint_9a6ad, cJ11_isValidCodePoint_9a6ad, 2, (some FieldType.boolean))
abbrev jJ11_highSurrogate_5068e : mm_J := (yJ11_highSurrogate_5068e, cJ11_highSurrogate_5068e, 1, (some FieldType.char))
abbrev jJ11_lowSurrogate_5068e : mm_J := (yJ11_lowSurrogate_5068e, cJ11_lowSurrogate_5068e, 1, (some FieldType.char))
abbrev jJ9_max_7cf53 : mm_J := (yJ9_max_7cf53, cJ9_max_7cf53, 2, (some FieldType.int))
abbrev jJ9_min_7cf53 : mm_J := (yJ9_min_7cf53, cJ9_min_7cf53, 2, (some FieldType.int))
abbrev jJ9_min_f86c9 : mm_J := (yJ9_min_f86c9, cJ9_min_f86c9, 4, (some FieldType.long))
abbrev jJ0_length_8abf5 : mm_J := (yJ0_length_8abf5, cJ0_length_8abf5, 1, (some FieldType.int))
abbrev jJ0_charAt_5068e : mm_J := (yJ0_charAt_5068e, cJ0_charAt_5068e, 2, (some FieldType.char))
abbrev jJ0_indexOf_0f7a4 : mm_J := (yJ0_indexOf_0f7a4, cJ0_indexOf_0f7a4, 2, (some FieldType.int))
abbrev jJ0_indexOf_7cf53 : mm_J := (yJ0_indexOf_7cf53, cJ0_indexOf_7cf53, 3, (some FieldType.int))
abbrev jJ0_coder_7d493 : mm_J := (yJ0_coder_7d493, cJ0_coder_7d493, 1, (some FieldType.byte))
abbrev jJ0_isLatin1_aae02 : mm_J := (yJ0_isLatin1_aae02, cJ0_isLatin1_aae02, 1, (some FieldType.boolean))
abbrev jJ0_checkIndex_df160 : mm_J := (yJ0_checkIndex_df160, cJ0_checkIndex_df160, 2, none)
abbrev jJ0_checkBoundsBeginEnd_23922 : mm_J := (yJ0_checkBoundsBeginEnd_23922, cJ0_checkBoundsBeginEnd_23922, 3, none)
abbrev jJ1_charAt_3b067 : mm_J := (yJ1_charAt_3b067, cJ1_charAt_3b067, 2, (some FieldType.char))
abbrev jJ1_canEncode_9a6ad : mm_J := (yJ1_canEncode_9a6ad, cJ1_canEncode_9a6ad, 1, (some FieldType.boolean))
abbrev jJ1_indexOf_4cfef : mm_J := (yJ1_indexOf_4cfef, cJ1_indexOf_4cfef, 4, (some FieldType.int))
abbrev jJ1_indexOfChar_4cfef : mm_J := (yJ1_indexOfChar_4cfef, cJ1_indexOfChar_4cfef, 6, (some FieldType.int))
abbrev jJ2_getChar_3b067 : mm_J := (yJ2_getChar_3b067, cJ2_getChar_3b067, 2, (some FieldType.char))
abbrev jJ2_length_9d52b : mm_J := (yJ2_length_9d52b, cJ2_length_9d52b, 1, (some FieldType.int))
abbrev jJ2_indexOf_4cfef : mm_J := (yJ2_indexOf_4cfef, cJ2_indexOf_4cfef, 4, (some FieldType.int))
abbrev jJ2_indexOfChar_4cfef : mm_J := (yJ2_indexOfChar_4cfef, cJ2_indexOfChar_4cfef, 4, (some FieldType.int))
abbrev jJ2_indexOfCharUnsafe_4cfef : mm_J := (yJ2_indexOfCharUnsafe_4cfef, cJ2_indexOfCharUnsafe_4cfef, 5, (some FieldType.int))
abbrev jJ2_indexOfSupplementary_4cfef : mm_J := (yJ2_indexOfSupplementary_4cfef, cJ2_indexOfSupplementary_4cfef, 7, (some FieldType.int))
abbrev jJ2_charAt_3b067 : mm_J := (yJ2_charAt_3b067, cJ2_charAt_3b067, 2, (some FieldType.char))
abbrev jJ2_checkIndex_2214a : mm_J := (yJ2_checkIndex_2214a, cJ2_checkIndex_2214a, 2, none)
abbrev jJ2_checkBoundsBeginEnd_d044e : mm_J := (yJ2_checkBoundsBeginEnd_d044e, cJ2_checkBoundsBeginEnd_d044e, 3, none)
abbrev jJ3_checkIndex_8e157 : mm_J := (yJ3_checkIndex_8e157, cJ3_checkIndex_8e157, 3, (some FieldType.int))
abbrev jJ3_checkFromToIndex_8c36e : mm_J := (yJ3_checkFromToIndex_8c36e, cJ3_checkFromToIndex_8c36e, 4, (some FieldType.int))
theorem wi_obj : Cond.instanceMethod objectInit ∈ gt_ws := gt_of 29 (by decide +kernel) (by decide +kernel)
theorem wk_obj : Cond.code objectInit ⟨#[0xb1]⟩ 1 none ∈ gt_ws := gt_of 30 (by decide +kernel) (by decide +kernel)
theorem wn_X5 : Cond.initialized RX5 ∈ gt_ws := gt_of 2 (by decide +kernel) (by decide +kernel)
theorem wt_X5 : Cond.instantiable RX5 2 ∈ gt_ws := gt_of 38 (by decide +kernel) (by decide +kernel)
theorem wn_J0 : Cond.initialized RJ0 ∈ gt_ws := gt_of 12 (by decide +kernel) (by decide +kernel)
theorem wn_J2 : Cond.initialized RJ2 ∈ gt_ws := gt_of 15 (by decide +kernel) (by decide +kernel)
theorem wn_J1 : Cond.initialized RJ1 ∈ gt_ws := gt_of 13 (by decide +kernel) (by decide +kernel)
theorem wn_X12 : Cond.initialized RX12 ∈ gt_ws := gt_of 6 (by decide +kernel) (by decide +kernel)
theorem wt_X12 : Cond.instantiable RX12 50 ∈ gt_ws := gt_of 786 (by decide +kernel) (by decide +kernel)
theorem wn_X4 : Cond.initialized RX4 ∈ gt_ws := gt_of 4 (by decide +kernel) (by decide +kernel)
theorem wt_X4 : Cond.instantiable RX4 6 ∈ gt_ws := gt_of 75 (by decide +kernel) (by decide +kernel)
theorem wn_X11 : Cond.initialized RX11 ∈ gt_ws := gt_of 10 (by decide +kernel) (by decide +kernel)
theorem wt_X11 : Cond.instantiable RX11 8 ∈ gt_ws := gt_of 792 (by decide +kernel) (by decide +kernel)
theorem wn_X9 : Cond.initialized RX9 ∈ gt_ws := gt_of 3 (by decide +kernel) (by decide +kernel)
theorem wt_X9 : Cond.instantiable RX9 4 ∈ gt_ws := gt_of 53 (by decide +kernel) (by decide +kernel)
theorem wn_J9 : Cond.initialized RJ9 ∈ gt_ws := gt_of 16 (by decide +kernel) (by decide +kernel)
theorem wn_X8 : Cond.initialized RX8 ∈ gt_ws := gt_of 19 (by decide +kernel) (by decide +kernel)
theorem wt_X8 : Cond.instantiable RX8 3 ∈ gt_ws := gt_of 436 (by decide +kernel) (by decide +kernel)
theorem wn_X10 : Cond.initialized RX10 ∈ gt_ws := gt_of 1 (by decide +kernel) (by decide +kernel)
theorem wt_X10 : Cond.instantiable RX10 13 ∈ gt_ws := gt_of 24 (by decide +kernel) (by decide +kernel)
theorem wn_L : Cond.initialized RL ∈ gt_ws := gt_of 0 (by decide +kernel) (by decide +kernel)
theorem wn_X3 : Cond.initialized RX3 ∈ gt_ws := gt_of 11 (by decide +kernel) (by decide +kernel)
theorem wt_X3 : Cond.instantiable RX3 8 ∈ gt_ws := gt_of 167 (by decide +kernel) (by decide +kernel)
theorem wn_X7 : Cond.initialized RX7 ∈ gt_ws := gt_of 20 (by decide +kernel) (by decide +kernel)
theorem wt_X7 : Cond.instantiable RX7 3 ∈ gt_ws := gt_of 460 (by decide +kernel) (by decide +kernel)
theorem wn_J3 : Cond.initialized RJ3 ∈ gt_ws := gt_of 14 (by decide +kernel) (by decide +kernel)
theorem wn_X0 : Cond.initialized RX0 ∈ gt_ws := gt_of 5 (by decide +kernel) (by decide +kernel)
theorem wt_X0 : Cond.instantiable RX0 3 ∈ gt_ws := gt_of 102 (by decide +kernel) (by decide +kernel)
theorem wn_X2 : Cond.initialized RX2 ∈ gt_ws := gt_of 22 (by decide +kernel) (by decide +kernel)
theorem wt_X2 : Cond.instantiable RX2 9 ∈ gt_ws := gt_of 606 (by decide +kernel) (by decide +kernel)
theorem wn_J11 : Cond.initialized RJ11 ∈ gt_ws := gt_of 17 (by decide +kernel) (by decide +kernel)
theorem wn_X1 : Cond.initialized RX1 ∈ gt_ws := gt_of 18 (by decide +kernel) (by decide +kernel)
theorem wt_X1 : Cond.instantiable RX1 3 ∈ gt_ws := gt_of 398 (by decide +kernel) (by decide +kernel)
theorem wn_X6 : Cond.initialized RX6 ∈ gt_ws := gt_of 21 (by decide +kernel) (by decide +kernel)
theorem wt_X6 : Cond.instantiable RX6 2 ∈ gt_ws := gt_of 479 (by decide +kernel) (by decide +kernel)
theorem wr_int : Cond.arrayClass .int ∈ gt_ws := gt_of 51 (by decide +kernel) (by decide +kernel)
theorem wr_boolean : Cond.arrayClass .boolean ∈ gt_ws := gt_of 202 (by decide +kernel) (by decide +kernel)
theorem wr_byte : Cond.arrayClass .byte ∈ gt_ws := gt_of 419 (by decide +kernel) (by decide +kernel)
theorem wr_long : Cond.arrayClass .long ∈ gt_ws := gt_of 1012 (by decide +kernel) (by decide +kernel)
theorem wd_X0_init : Cond.code jX0_init.1 jX0_init.2.1 jX0_init.2.2.1 jX0_init.2.2.2 ∈ gt_ws := gt_of 105 (by decide +kernel) (by decide +kernel)
theorem wm_X0_init : Cond.instanceMethod jX0_init.1 ∈ gt_ws := gt_of 104 (by decide +kernel) (by decide +kernel)
theorem wd_X0_fewest : Cond.code jX0_fewest.1 jX0_fewest.2.1 jX0_fewest.2.2.1 jX0_fewest.2.2.2 ∈ gt_ws := gt_of 680 (by decide +kernel) (by decide +kernel)
theorem wm_X0_fewest : Cond.instanceMethod jX0_fewest.1 ∈ gt_ws := gt_of 678 (by decide +kernel) (by decide +kernel)
theorem we_X0_fewest : Cond.selects jX0_fewest.1.cls jX0_fewest.1 jX0_fewest.1 ∈ gt_ws := gt_of 679 (by decide +kernel) (by decide +kernel)
theorem wd_X0_tryWorth : Cond.code jX0_tryWorth.1 jX0_tryWorth.2.1 jX0_tryWorth.2.2.1 jX0_tryWorth.2.2.2 ∈ gt_ws := gt_of 684 (by decide +kernel) (by decide +kernel)
theorem wm_X0_tryWorth : Cond.instanceMethod jX0_tryWorth.1 ∈ gt_ws := gt_of 683 (by decide +kernel) (by decide +kernel)
theorem we_X0_tryWorth : Cond.selects jX0_tryWorth.1.cls jX0_tryWorth.1 jX0_tryWorth.1 ∈ gt_ws := gt_sel 21 (by decide +kernel) (by decide +kernel)
theorem wd_X1_init : Cond.code jX1_init.1 jX1_init.2.1 jX1_init.2.2.1 jX1_init.2.2.2 ∈ gt_ws := gt_of 401 (by decide +kernel) (by decide +kernel)
theorem wm_X1_init : Cond.instanceMethod jX1_init.1 ∈ gt_ws := gt_of 400 (by decide +kernel) (by decide +kernel)
theorem wd_X1_fits : Cond.code jX1_fits.1 jX1_fits.2.1 jX1_fits.2.2.1 jX1_fits.2.2.2 ∈ gt_ws := gt_of 654 (by decide +kernel) (by decide +kernel)
theorem wm_X1_fits : Cond.instanceMethod jX1_fits.1 ∈ gt_ws := gt_of 652 (by decide +kernel) (by decide +kernel)
theorem we_X1_fits : Cond.selects jX1_fits.1.cls jX1_fits.1 jX1_fits.1 ∈ gt_ws := gt_of 653 (by decide +kernel) (by decide +kernel)
theorem wd_X1_total : Cond.code jX1_total.1 jX1_total.2.1 jX1_total.2.2.1 jX1_total.2.2.2 ∈ gt_ws := gt_of 666 (by decide +kernel) (by decide +kernel)
theorem wm_X1_total : Cond.instanceMethod jX1_total.1 ∈ gt_ws := gt_of 664 (by decide +kernel) (by decide +kernel)
theorem we_X1_total : Cond.selects jX1_total.1.cls jX1_total.1 jX1_total.1 ∈ gt_ws := gt_of 665 (by decide +kernel) (by decide +kernel)
theorem wd_X2_init : Cond.code jX2_init.1 jX2_init.2.1 jX2_init.2.2.1 jX2_init.2.2.2 ∈ gt_ws := gt_of 609 (by decide +kernel) (by decide +kernel)
theorem wm_X2_init : Cond.instanceMethod jX2_init.1 ∈ gt_ws := gt_of 608 (by decide +kernel) (by decide +kernel)
theorem wd_X2_charge : Cond.code jX2_charge.1 jX2_charge.2.1 jX2_charge.2.2.1 jX2_charge.2.2.2 ∈ gt_ws := gt_of 699 (by decide +kernel) (by decide +kernel)
theorem wm_X2_charge : Cond.instanceMethod jX2_charge.1 ∈ gt_ws := gt_of 697 (by decide +kernel) (by decide +kernel)
theorem we_X2_charge : Cond.selects jX2_charge.1.cls jX2_charge.1 jX2_charge.1 ∈ gt_ws := gt_of 698 (by decide +kernel) (by decide +kernel)
theorem wd_X2_measure : Cond.code jX2_measure.1 jX2_measure.2.1 jX2_measure.2.2.1 jX2_measure.2.2.2 ∈ gt_ws := gt_of 662 (by decide +kernel) (by decide +kernel)
theorem wm_X2_measure : Cond.instanceMethod jX2_measure.1 ∈ gt_ws := gt_of 660 (by decide +kernel) (by decide +kernel)
theorem we_X2_measure : Cond.selects jX2_measure.1.cls jX2_measure.1 jX2_measure.1 ∈ gt_ws := gt_of 661 (by decide +kernel) (by decide +kernel)
theorem wd_X2_stampsOf : Cond.code jX2_stampsOf.1 jX2_stampsOf.2.1 jX2_stampsOf.2.2.1 jX2_stampsOf.2.2.2 ∈ gt_ws := gt_of 721 (by decide +kernel) (by decide +kernel)
theorem wm_X2_stampsOf : Cond.instanceMethod jX2_stampsOf.1 ∈ gt_ws := gt_of 719 (by decide +kernel) (by decide +kernel)
theorem we_X2_stampsOf : Cond.selects jX2_stampsOf.1.cls jX2_stampsOf.1 jX2_stampsOf.1 ∈ gt_ws := gt_of 720 (by decide +kernel) (by decide +kernel)
theorem wd_X2_allStamps : Cond.code jX2_allStamps.1 jX2_allStamps.2.1 jX2_allStamps.2.2.1 jX2_allStamps.2.2.2 ∈ gt_ws := gt_of 716 (by decide +kernel) (by decide +kernel)
theorem wm_X2_allStamps : Cond.instanceMethod jX2_allStamps.1 ∈ gt_ws := gt_of 714 (by decide +kernel) (by decide +kernel)
theorem we_X2_allStamps : Cond.selects jX2_allStamps.1.cls jX2_allStamps.1 jX2_allStamps.1 ∈ gt_ws := gt_of 715 (by decide +kernel) (by decide +kernel)
theorem wd_X3_init : Cond.code jX3_init.1 jX3_init.2.1 jX3_init.2.2.1 jX3_init.2.2.2 ∈ gt_ws := gt_of 170 (by decide +kernel) (by decide +kernel)
theorem wm_X3_init : Cond.instanceMethod jX3_init.1 ∈ gt_ws := gt_of 169 (by decide +kernel) (by decide +kernel)
theorem wd_X3_send : Cond.code jX3_send.1 jX3_send.2.1 jX3_send.2.2.1 jX3_send.2.2.2 ∈ gt_ws := gt_of 206 (by decide +kernel) (by decide +kernel)
theorem wm_X3_send : Cond.instanceMethod jX3_send.1 ∈ gt_ws := gt_of 204 (by decide +kernel) (by decide +kernel)
theorem we_X3_send : Cond.selects jX3_send.1.cls jX3_send.1 jX3_send.1 ∈ gt_ws := gt_of 205 (by decide +kernel) (by decide +kernel)
theorem wd_X3_wasSent : Cond.code jX3_wasSent.1 jX3_wasSent.2.1 jX3_wasSent.2.2.1 jX3_wasSent.2.2.2 ∈ gt_ws := gt_of 515 (by decide +kernel) (by decide +kernel)
theorem wm_X3_wasSent : Cond.instanceMethod jX3_wasSent.1 ∈ gt_ws := gt_of 513 (by decide +kernel) (by decide +kernel)
theorem we_X3_wasSent : Cond.selects jX3_wasSent.1.cls jX3_wasSent.1 jX3_wasSent.1 ∈ gt_ws := gt_of 514 (by decide +kernel) (by decide +kernel)
theorem wd_X3_lose : Cond.code jX3_lose.1 jX3_lose.2.1 jX3_lose.2.2.1 jX3_lose.2.2.2 ∈ gt_ws := gt_of 519 (by decide +kernel) (by decide +kernel)
theorem wm_X3_lose : Cond.instanceMethod jX3_lose.1 ∈ gt_ws := gt_of 517 (by decide +kernel) (by decide +kernel)
theorem we_X3_lose : Cond.selects jX3_lose.1.cls jX3_lose.1 jX3_lose.1 ∈ gt_ws := gt_of 518 (by decide +kernel) (by decide +kernel)
theorem wd_X3_askDay : Cond.code jX3_askDay.1 jX3_askDay.2.1 jX3_askDay.2.2.1 jX3_askDay.2.2.2 ∈ gt_ws := gt_of 540 (by decide +kernel) (by decide +kernel)
theorem wm_X3_askDay : Cond.instanceMethod jX3_askDay.1 ∈ gt_ws := gt_of 538 (by decide +kernel) (by decide +kernel)
theorem we_X3_askDay : Cond.selects jX3_askDay.1.cls jX3_askDay.1 jX3_askDay.1 ∈ gt_ws := gt_of 539 (by decide +kernel) (by decide +kernel)
theorem wd_X3_comeDay : Cond.code jX3_comeDay.1 jX3_comeDay.2.1 jX3_comeDay.2.2.1 jX3_comeDay.2.2.2 ∈ gt_ws := gt_of 536 (by decide +kernel) (by decide +kernel)
theorem wm_X3_comeDay : Cond.instanceMethod jX3_comeDay.1 ∈ gt_ws := gt_of 534 (by decide +kernel) (by decide +kernel)
theorem we_X3_comeDay : Cond.selects jX3_comeDay.1.cls jX3_comeDay.1 jX3_comeDay.1 ∈ gt_ws := gt_of 535 (by decide +kernel) (by decide +kernel)
theorem wd_X3_inForce : Cond.code jX3_inForce.1 jX3_inForce.2.1 jX3_inForce.2.2.1 jX3_inForce.2.2.2 ∈ gt_ws := gt_of 532 (by decide +kernel) (by decide +kernel)
theorem wm_X3_inForce : Cond.instanceMethod jX3_inForce.1 ∈ gt_ws := gt_of 530 (by decide +kernel) (by decide +kernel)
theorem we_X3_inForce : Cond.selects jX3_inForce.1.cls jX3_inForce.1 jX3_inForce.1 ∈ gt_ws := gt_of 531 (by decide +kernel) (by decide +kernel)
theorem wd_X3_onTheWay : Cond.code jX3_onTheWay.1 jX3_onTheWay.2.1 jX3_onTheWay.2.2.1 jX3_onTheWay.2.2.2 ∈ gt_ws := gt_of 558 (by decide +kernel) (by decide +kernel)
theorem wm_X3_onTheWay : Cond.instanceMethod jX3_onTheWay.1 ∈ gt_ws := gt_of 556 (by decide +kernel) (by decide +kernel)
theorem we_X3_onTheWay : Cond.selects jX3_onTheWay.1.cls jX3_onTheWay.1 jX3_onTheWay.1 ∈ gt_ws := gt_of 557 (by decide +kernel) (by decide +kernel)
theorem wd_X3_isOut : Cond.code jX3_isOut.1 jX3_isOut.2.1 jX3_isOut.2.2.1 jX3_isOut.2.2.2 ∈ gt_ws := gt_of 574 (by decide +kernel) (by decide +kernel)
theorem wm_X3_isOut : Cond.instanceMethod jX3_isOut.1 ∈ gt_ws := gt_of 573 (by decide +kernel) (by decide +kernel)
theorem we_X3_isOut : Cond.selects jX3_isOut.1.cls jX3_isOut.1 jX3_isOut.1 ∈ gt_ws := gt_sel 18 (by decide +kernel) (by decide +kernel)
theorem wd_X3_isAskOut : Cond.code jX3_isAskOut.1 jX3_isAskOut.2.1 jX3_isAskOut.2.2.1 jX3_isAskOut.2.2.2 ∈ gt_ws := gt_of 578 (by decide +kernel) (by decide +kernel)
theorem wm_X3_isAskOut : Cond.instanceMethod jX3_isAskOut.1 ∈ gt_ws := gt_of 577 (by decide +kernel) (by decide +kernel)
theorem we_X3_isAskOut : Cond.selects jX3_isAskOut.1.cls jX3_isAskOut.1 jX3_isAskOut.1 ∈ gt_ws := gt_sel 19 (by decide +kernel) (by decide +kernel)
theorem wd_X3_accountsSent : Cond.code jX3_accountsSent.1 jX3_accountsSent.2.1 jX3_accountsSent.2.2.1 jX3_accountsSent.2.2.2 ∈ gt_ws := gt_of 562 (by decide +kernel) (by decide +kernel)
theorem wm_X3_accountsSent : Cond.instanceMethod jX3_accountsSent.1 ∈ gt_ws := gt_of 560 (by decide +kernel) (by decide +kernel)
theorem we_X3_accountsSent : Cond.selects jX3_accountsSent.1.cls jX3_accountsSent.1 jX3_accountsSent.1 ∈ gt_ws := gt_of 561 (by decide +kernel) (by decide +kernel)
theorem wd_X3_accountsCome : Cond.code jX3_accountsCome.1 jX3_accountsCome.2.1 jX3_accountsCome.2.2.1 jX3_accountsCome.2.2.2 ∈ gt_ws := gt_of 569 (by decide +kernel) (by decide +kernel)
theorem wm_X3_accountsCome : Cond.instanceMethod jX3_accountsCome.1 ∈ gt_ws := gt_of 568 (by decide +kernel) (by decide +kernel)
theorem we_X3_accountsCome : Cond.selects jX3_accountsCome.1.cls jX3_accountsCome.1 jX3_accountsCome.1 ∈ gt_ws := gt_sel 17 (by decide +kernel) (by decide +kernel)
theorem wd_X3_stampsOf : Cond.code jX3_stampsOf.1 jX3_stampsOf.2.1 jX3_stampsOf.2.2.1 jX3_stampsOf.2.2.2 ∈ gt_ws := gt_of 590 (by decide +kernel) (by decide +kernel)
theorem wm_X3_stampsOf : Cond.instanceMethod jX3_stampsOf.1 ∈ gt_ws := gt_of 588 (by decide +kernel) (by decide +kernel)
theorem we_X3_stampsOf : Cond.selects jX3_stampsOf.1.cls jX3_stampsOf.1 jX3_stampsOf.1 ∈ gt_ws := gt_of 589 (by decide +kernel) (by decide +kernel)
theorem wd_X3_addStamps : Cond.code jX3_addStamps.1 jX3_addStamps.2.1 jX3_addStamps.2.2.1 jX3_addStamps.2.2.2 ∈ gt_ws := gt_of 594 (by decide +kernel) (by decide +kernel)
theorem wm_X3_addStamps : Cond.instanceMethod jX3_addStamps.1 ∈ gt_ws := gt_of 592 (by decide +kernel) (by decide +kernel)
theorem we_X3_addStamps : Cond.selects jX3_addStamps.1.cls jX3_addStamps.1 jX3_addStamps.1 ∈ gt_ws := gt_of 593 (by decide +kernel) (by decide +kernel)
theorem wd_X3_book : Cond.code jX3_book.1 jX3_book.2.1 jX3_book.2.2.1 jX3_book.2.2.2 ∈ gt_ws := gt_of 703 (by decide +kernel) (by decide +kernel)
theorem wm_X3_book : Cond.instanceMethod jX3_book.1 ∈ gt_ws := gt_of 701 (by decide +kernel) (by decide +kernel)
theorem we_X3_book : Cond.selects jX3_book.1.cls jX3_book.1 jX3_book.1 ∈ gt_ws := gt_of 702 (by decide +kernel) (by decide +kernel)
theorem wd_X4_init : Cond.code jX4_init.1 jX4_init.2.1 jX4_init.2.2.1 jX4_init.2.2.2 ∈ gt_ws := gt_of 78 (by decide +kernel) (by decide +kernel)
theorem wm_X4_init : Cond.instanceMethod jX4_init.1 ∈ gt_ws := gt_of 77 (by decide +kernel) (by decide +kernel)
theorem wd_X4_read : Cond.code jX4_read.1 jX4_read.2.1 jX4_read.2.2.1 jX4_read.2.2.2 ∈ gt_ws := gt_of 379 (by decide +kernel) (by decide +kernel)
theorem wm_X4_read : Cond.instanceMethod jX4_read.1 ∈ gt_ws := gt_of 377 (by decide +kernel) (by decide +kernel)
theorem we_X4_read : Cond.selects jX4_read.1.cls jX4_read.1 jX4_read.1 ∈ gt_ws := gt_of 378 (by decide +kernel) (by decide +kernel)
theorem wd_X4_readLine : Cond.code jX4_readLine.1 jX4_readLine.2.1 jX4_readLine.2.2.1 jX4_readLine.2.2.2 ∈ gt_ws := gt_of 389 (by decide +kernel) (by decide +kernel)
theorem wm_X4_readLine : Cond.instanceMethod jX4_readLine.1 ∈ gt_ws := gt_of 388 (by decide +kernel) (by decide +kernel)
theorem we_X4_readLine : Cond.selects jX4_readLine.1.cls jX4_readLine.1 jX4_readLine.1 ∈ gt_ws := gt_sel 7 (by decide +kernel) (by decide +kernel)
theorem wd_X4_readTests : Cond.code jX4_readTests.1 jX4_readTests.2.1 jX4_readTests.2.2.1 jX4_readTests.2.2.2 ∈ gt_ws := gt_of 423 (by decide +kernel) (by decide +kernel)
theorem wm_X4_readTests : Cond.instanceMethod jX4_readTests.1 ∈ gt_ws := gt_of 422 (by decide +kernel) (by decide +kernel)
theorem we_X4_readTests : Cond.selects jX4_readTests.1.cls jX4_readTests.1 jX4_readTests.1 ∈ gt_ws := gt_sel 10 (by decide +kernel) (by decide +kernel)
theorem wd_X4_readTest : Cond.code jX4_readTest.1 jX4_readTest.2.1 jX4_readTest.2.2.1 jX4_readTest.2.2.2 ∈ gt_ws := gt_of 427 (by decide +kernel) (by decide +kernel)
theorem wm_X4_readTest : Cond.instanceMethod jX4_readTest.1 ∈ gt_ws := gt_of 426 (by decide +kernel) (by decide +kernel)
theorem we_X4_readTest : Cond.selects jX4_readTest.1.cls jX4_readTest.1 jX4_readTest.1 ∈ gt_ws := gt_sel 11 (by decide +kernel) (by decide +kernel)
theorem wd_X4_readTerms : Cond.code jX4_readTerms.1 jX4_readTerms.2.1 jX4_readTerms.2.2.1 jX4_readTerms.2.2.2 ∈ gt_ws := gt_of 454 (by decide +kernel) (by decide +kernel)
theorem wm_X4_readTerms : Cond.instanceMethod jX4_readTerms.1 ∈ gt_ws := gt_of 453 (by decide +kernel) (by decide +kernel)
theorem we_X4_readTerms : Cond.selects jX4_readTerms.1.cls jX4_readTerms.1 jX4_readTerms.1 ∈ gt_ws := gt_sel 13 (by decide +kernel) (by decide +kernel)
theorem wd_X4_readTerm : Cond.code jX4_readTerm.1 jX4_readTerm.2.1 jX4_readTerm.2.2.1 jX4_readTerm.2.2.2 ∈ gt_ws := gt_of 458 (by decide +kernel) (by decide +kernel)
theorem wm_X4_readTerm : Cond.instanceMethod jX4_readTerm.1 ∈ gt_ws := gt_of 457 (by decide +kernel) (by decide +kernel)
theorem we_X4_readTerm : Cond.selects jX4_readTerm.1.cls jX4_readTerm.1 jX4_readTerm.1 ∈ gt_ws := gt_sel 14 (by decide +kernel) (by decide +kernel)
theorem wd_X4_needName : Cond.code jX4_needName.1 jX4_needName.2.1 jX4_needName.2.2.1 jX4_needName.2.2.2 ∈ gt_ws := gt_of 434 (by decide +kernel) (by decide +kernel)
theorem wm_X4_needName : Cond.instanceMethod jX4_needName.1 ∈ gt_ws := gt_of 433 (by decide +kernel) (by decide +kernel)
theorem we_X4_needName : Cond.selects jX4_needName.1.cls jX4_needName.1 jX4_needName.1 ∈ gt_ws := gt_sel 12 (by decide +kernel) (by decide +kernel)
theorem wd_X4_need : Cond.code jX4_need.1 jX4_need.2.1 jX4_need.2.2.1 jX4_need.2.2.2 ∈ gt_ws := gt_of 397 (by decide +kernel) (by decide +kernel)
theorem wm_X4_need : Cond.instanceMethod jX4_need.1 ∈ gt_ws := gt_of 396 (by decide +kernel) (by decide +kernel)
theorem we_X4_need : Cond.selects jX4_need.1.cls jX4_need.1 jX4_need.1 ∈ gt_ws := gt_sel 9 (by decide +kernel) (by decide +kernel)
theorem wd_X4_skip : Cond.code jX4_skip.1 jX4_skip.2.1 jX4_skip.2.2.1 jX4_skip.2.2.2 ∈ gt_ws := gt_of 383 (by decide +kernel) (by decide +kernel)
theorem wm_X4_skip : Cond.instanceMethod jX4_skip.1 ∈ gt_ws := gt_of 382 (by decide +kernel) (by decide +kernel)
theorem we_X4_skip : Cond.selects jX4_skip.1.cls jX4_skip.1 jX4_skip.1 ∈ gt_ws := gt_sel 6 (by decide +kernel) (by decide +kernel)
theorem wd_X4_blame : Cond.code jX4_blame.1 jX4_blame.2.1 jX4_blame.2.2.1 jX4_blame.2.2.2 ∈ gt_ws := gt_of 393 (by decide +kernel) (by decide +kernel)
theorem wm_X4_blame : Cond.instanceMethod jX4_blame.1 ∈ gt_ws := gt_of 392 (by decide +kernel) (by decide +kernel)
theorem we_X4_blame : Cond.selects jX4_blame.1.cls jX4_blame.1 jX4_blame.1 ∈ gt_ws := gt_sel 8 (by decide +kernel) (by decide +kernel)
theorem wd_X4_isName : Cond.code jX4_isName.1 jX4_isName.2.1 jX4_isName.2.2.1 jX4_isName.2.2.2 ∈ gt_ws := gt_of 430 (by decide +kernel) (by decide +kernel)
theorem ws_X4_isName : Cond.static jX4_isName.1 ∈ gt_ws := gt_of 429 (by decide +kernel) (by decide +kernel)
theorem wd_X5_init : Cond.code jX5_init.1 jX5_init.2.1 jX5_init.2.2.1 jX5_init.2.2.2 ∈ gt_ws := gt_of 41 (by decide +kernel) (by decide +kernel)
theorem wm_X5_init : Cond.instanceMethod jX5_init.1 ∈ gt_ws := gt_of 40 (by decide +kernel) (by decide +kernel)
theorem wd_X5_add : Cond.code jX5_add.1 jX5_add.2.1 jX5_add.2.2.1 jX5_add.2.2.2 ∈ gt_ws := gt_of 218 (by decide +kernel) (by decide +kernel)
theorem wm_X5_add : Cond.instanceMethod jX5_add.1 ∈ gt_ws := gt_of 216 (by decide +kernel) (by decide +kernel)
theorem we_X5_add : Cond.selects jX5_add.1.cls jX5_add.1 jX5_add.1 ∈ gt_ws := gt_of 217 (by decide +kernel) (by decide +kernel)
theorem wd_X5_clear : Cond.code jX5_clear.1 jX5_clear.2.1 jX5_clear.2.2.1 jX5_clear.2.2.2 ∈ gt_ws := gt_of 478 (by decide +kernel) (by decide +kernel)
theorem wm_X5_clear : Cond.instanceMethod jX5_clear.1 ∈ gt_ws := gt_of 476 (by decide +kernel) (by decide +kernel)
theorem we_X5_clear : Cond.selects jX5_clear.1.cls jX5_clear.1 jX5_clear.1 ∈ gt_ws := gt_of 477 (by decide +kernel) (by decide +kernel)
theorem wd_X5_at : Cond.code jX5_at.1 jX5_at.2.1 jX5_at.2.2.1 jX5_at.2.2.2 ∈ gt_ws := gt_of 234 (by decide +kernel) (by decide +kernel)
theorem wm_X5_at : Cond.instanceMethod jX5_at.1 ∈ gt_ws := gt_of 232 (by decide +kernel) (by decide +kernel)
theorem we_X5_at : Cond.selects jX5_at.1.cls jX5_at.1 jX5_at.1 ∈ gt_ws := gt_of 233 (by decide +kernel) (by decide +kernel)
theorem wd_X6_init : Cond.code jX6_init.1 jX6_init.2.1 jX6_init.2.2.1 jX6_init.2.2.2 ∈ gt_ws := gt_of 482 (by decide +kernel) (by decide +kernel)
theorem wm_X6_init : Cond.instanceMethod jX6_init.1 ∈ gt_ws := gt_of 481 (by decide +kernel) (by decide +kernel)
theorem wd_X6_feeOf : Cond.code jX6_feeOf.1 jX6_feeOf.2.1 jX6_feeOf.2.2.1 jX6_feeOf.2.2.2 ∈ gt_ws := gt_of 650 (by decide +kernel) (by decide +kernel)
theorem wm_X6_feeOf : Cond.instanceMethod jX6_feeOf.1 ∈ gt_ws := gt_of 648 (by decide +kernel) (by decide +kernel)
theorem we_X6_feeOf : Cond.selects jX6_feeOf.1.cls jX6_feeOf.1 jX6_feeOf.1 ∈ gt_ws := gt_of 649 (by decide +kernel) (by decide +kernel)
theorem wd_X7_init : Cond.code jX7_init.1 jX7_init.2.1 jX7_init.2.2.1 jX7_init.2.2.2 ∈ gt_ws := gt_of 463 (by decide +kernel) (by decide +kernel)
theorem wm_X7_init : Cond.instanceMethod jX7_init.1 ∈ gt_ws := gt_of 462 (by decide +kernel) (by decide +kernel)
theorem wd_X7_amount : Cond.code jX7_amount.1 jX7_amount.2.1 jX7_amount.2.2.1 jX7_amount.2.2.2 ∈ gt_ws := gt_of 670 (by decide +kernel) (by decide +kernel)
theorem wm_X7_amount : Cond.instanceMethod jX7_amount.1 ∈ gt_ws := gt_of 668 (by decide +kernel) (by decide +kernel)
theorem we_X7_amount : Cond.selects jX7_amount.1.cls jX7_amount.1 jX7_amount.1 ∈ gt_ws := gt_of 669 (by decide +kernel) (by decide +kernel)
theorem wd_X8_init : Cond.code jX8_init.1 jX8_init.2.1 jX8_init.2.2.1 jX8_init.2.2.2 ∈ gt_ws := gt_of 439 (by decide +kernel) (by decide +kernel)
theorem wm_X8_init : Cond.instanceMethod jX8_init.1 ∈ gt_ws := gt_of 438 (by decide +kernel) (by decide +kernel)
theorem wd_X8_holds : Cond.code jX8_holds.1 jX8_holds.2.1 jX8_holds.2.2.1 jX8_holds.2.2.2 ∈ gt_ws := gt_of 658 (by decide +kernel) (by decide +kernel)
theorem wm_X8_holds : Cond.instanceMethod jX8_holds.1 ∈ gt_ws := gt_of 656 (by decide +kernel) (by decide +kernel)
theorem we_X8_holds : Cond.selects jX8_holds.1.cls jX8_holds.1 jX8_holds.1 ∈ gt_ws := gt_of 657 (by decide +kernel) (by decide +kernel)
theorem wd_X9_init : Cond.code jX9_init.1 jX9_init.2.1 jX9_init.2.2.1 jX9_init.2.2.2 ∈ gt_ws := gt_of 56 (by decide +kernel) (by decide +kernel)
theorem wm_X9_init : Cond.instanceMethod jX9_init.1 ∈ gt_ws := gt_of 55 (by decide +kernel) (by decide +kernel)
theorem wd_X9_cut : Cond.code jX9_cut.1 jX9_cut.2.1 jX9_cut.2.2.1 jX9_cut.2.2.2 ∈ gt_ws := gt_of 226 (by decide +kernel) (by decide +kernel)
theorem wm_X9_cut : Cond.instanceMethod jX9_cut.1 ∈ gt_ws := gt_of 224 (by decide +kernel) (by decide +kernel)
theorem we_X9_cut : Cond.selects jX9_cut.1.cls jX9_cut.1 jX9_cut.1 ∈ gt_ws := gt_of 225 (by decide +kernel) (by decide +kernel)
theorem wd_X9_cutOne : Cond.code jX9_cutOne.1 jX9_cutOne.2.1 jX9_cutOne.2.2.1 jX9_cutOne.2.2.2 ∈ gt_ws := gt_of 230 (by decide +kernel) (by decide +kernel)
theorem wm_X9_cutOne : Cond.instanceMethod jX9_cutOne.1 ∈ gt_ws := gt_of 229 (by decide +kernel) (by decide +kernel)
theorem we_X9_cutOne : Cond.selects jX9_cutOne.1.cls jX9_cutOne.1 jX9_cutOne.1 ∈ gt_ws := gt_sel 2 (by decide +kernel) (by decide +kernel)
theorem wd_X9_cutWord : Cond.code jX9_cutWord.1 jX9_cutWord.2.1 jX9_cutWord.2.2.1 jX9_cutWord.2.2.2 ∈ gt_ws := gt_of 241 (by decide +kernel) (by decide +kernel)
theorem wm_X9_cutWord : Cond.instanceMethod jX9_cutWord.1 ∈ gt_ws := gt_of 240 (by decide +kernel) (by decide +kernel)
theorem we_X9_cutWord : Cond.selects jX9_cutWord.1.cls jX9_cutWord.1 jX9_cutWord.1 ∈ gt_ws := gt_sel 3 (by decide +kernel) (by decide +kernel)
theorem wd_X9_cutNumber : Cond.code jX9_cutNumber.1 jX9_cutNumber.2.1 jX9_cutNumber.2.2.1 jX9_cutNumber.2.2.2 ∈ gt_ws := gt_of 314 (by decide +kernel) (by decide +kernel)
theorem wm_X9_cutNumber : Cond.instanceMethod jX9_cutNumber.1 ∈ gt_ws := gt_of 313 (by decide +kernel) (by decide +kernel)
theorem we_X9_cutNumber : Cond.selects jX9_cutNumber.1.cls jX9_cutNumber.1 jX9_cutNumber.1 ∈ gt_ws := gt_sel 5 (by decide +kernel) (by decide +kernel)
theorem wd_X9_put : Cond.code jX9_put.1 jX9_put.2.1 jX9_put.2.2.1 jX9_put.2.2.2 ∈ gt_ws := gt_of 307 (by decide +kernel) (by decide +kernel)
theorem wm_X9_put : Cond.instanceMethod jX9_put.1 ∈ gt_ws := gt_of 306 (by decide +kernel) (by decide +kernel)
theorem we_X9_put : Cond.selects jX9_put.1.cls jX9_put.1 jX9_put.1 ∈ gt_ws := gt_sel 4 (by decide +kernel) (by decide +kernel)
theorem wd_X9_isLetter : Cond.code jX9_isLetter.1 jX9_isLetter.2.1 jX9_isLetter.2.2.1 jX9_isLetter.2.2.2 ∈ gt_ws := gt_of 237 (by decide +kernel) (by decide +kernel)
theorem ws_X9_isLetter : Cond.static jX9_isLetter.1 ∈ gt_ws := gt_of 236 (by decide +kernel) (by decide +kernel)
theorem wd_X9_isDigit : Cond.code jX9_isDigit.1 jX9_isDigit.2.1 jX9_isDigit.2.2.1 jX9_isDigit.2.2.2 ∈ gt_ws := gt_of 310 (by decide +kernel) (by decide +kernel)
theorem ws_X9_isDigit : Cond.static jX9_isDigit.1 ∈ gt_ws := gt_of 309 (by decide +kernel) (by decide +kernel)
theorem wd_X9_wordKind : Cond.code jX9_wordKind.1 jX9_wordKind.2.1 jX9_wordKind.2.2.1 jX9_wordKind.2.2.2 ∈ gt_ws := gt_of 244 (by decide +kernel) (by decide +kernel)
theorem ws_X9_wordKind : Cond.static jX9_wordKind.1 ∈ gt_ws := gt_of 243 (by decide +kernel) (by decide +kernel)
theorem wd_X9_isWord : Cond.code jX9_isWord.1 jX9_isWord.2.1 jX9_isWord.2.2.1 jX9_isWord.2.2.2 ∈ gt_ws := gt_of 248 (by decide +kernel) (by decide +kernel)
theorem ws_X9_isWord : Cond.static jX9_isWord.1 ∈ gt_ws := gt_of 247 (by decide +kernel) (by decide +kernel)
theorem wd_X10_init : Cond.code jX10_init.1 jX10_init.2.1 jX10_init.2.2.1 jX10_init.2.2.2 ∈ gt_ws := gt_of 27 (by decide +kernel) (by decide +kernel)
theorem wm_X10_init : Cond.instanceMethod jX10_init.1 ∈ gt_ws := gt_of 26 (by decide +kernel) (by decide +kernel)
theorem wd_X10_port : Cond.code jX10_port.1 jX10_port.2.1 jX10_port.2.2.1 jX10_port.2.2.2 ∈ gt_ws := gt_of 162 (by decide +kernel) (by decide +kernel)
theorem wm_X10_port : Cond.instanceMethod jX10_port.1 ∈ gt_ws := gt_of 160 (by decide +kernel) (by decide +kernel)
theorem we_X10_port : Cond.selects jX10_port.1.cls jX10_port.1 jX10_port.1 ∈ gt_ws := gt_of 161 (by decide +kernel) (by decide +kernel)
theorem wd_X10_feed : Cond.code jX10_feed.1 jX10_feed.2.1 jX10_feed.2.2.1 jX10_feed.2.2.2 ∈ gt_ws := gt_of 214 (by decide +kernel) (by decide +kernel)
theorem wm_X10_feed : Cond.instanceMethod jX10_feed.1 ∈ gt_ws := gt_of 212 (by decide +kernel) (by decide +kernel)
theorem we_X10_feed : Cond.selects jX10_feed.1.cls jX10_feed.1 jX10_feed.1 ∈ gt_ws := gt_of 213 (by decide +kernel) (by decide +kernel)
theorem wd_X10_tariff : Cond.code jX10_tariff.1 jX10_tariff.2.1 jX10_tariff.2.2.1 jX10_tariff.2.2.2 ∈ gt_ws := gt_of 222 (by decide +kernel) (by decide +kernel)
theorem wm_X10_tariff : Cond.instanceMethod jX10_tariff.1 ∈ gt_ws := gt_of 220 (by decide +kernel) (by decide +kernel)
theorem we_X10_tariff : Cond.selects jX10_tariff.1.cls jX10_tariff.1 jX10_tariff.1 ∈ gt_ws := gt_of 221 (by decide +kernel) (by decide +kernel)
theorem wd_X10_fault : Cond.code jX10_fault.1 jX10_fault.2.1 jX10_fault.2.2.1 jX10_fault.2.2.2 ∈ gt_ws := gt_of 503 (by decide +kernel) (by decide +kernel)
theorem wm_X10_fault : Cond.instanceMethod jX10_fault.1 ∈ gt_ws := gt_of 501 (by decide +kernel) (by decide +kernel)
theorem we_X10_fault : Cond.selects jX10_fault.1.cls jX10_fault.1 jX10_fault.1 ∈ gt_ws := gt_of 502 (by decide +kernel) (by decide +kernel)
theorem wd_X10_where : Cond.code jX10_where.1 jX10_where.2.1 jX10_where.2.2.1 jX10_where.2.2.2 ∈ gt_ws := gt_of 507 (by decide +kernel) (by decide +kernel)
theorem wm_X10_where : Cond.instanceMethod jX10_where.1 ∈ gt_ws := gt_of 505 (by decide +kernel) (by decide +kernel)
theorem we_X10_where : Cond.selects jX10_where.1.cls jX10_where.1 jX10_where.1 ∈ gt_ws := gt_of 506 (by decide +kernel) (by decide +kernel)
theorem wd_X10_lost : Cond.code jX10_lost.1 jX10_lost.2.1 jX10_lost.2.2.1 jX10_lost.2.2.2 ∈ gt_ws := gt_of 511 (by decide +kernel) (by decide +kernel)
theorem wm_X10_lost : Cond.instanceMethod jX10_lost.1 ∈ gt_ws := gt_of 509 (by decide +kernel) (by decide +kernel)
theorem we_X10_lost : Cond.selects jX10_lost.1.cls jX10_lost.1 jX10_lost.1 ∈ gt_ws := gt_of 510 (by decide +kernel) (by decide +kernel)
theorem wd_X10_pass : Cond.code jX10_pass.1 jX10_pass.2.1 jX10_pass.2.2.1 jX10_pass.2.2.2 ∈ gt_ws := gt_of 524 (by decide +kernel) (by decide +kernel)
theorem wm_X10_pass : Cond.instanceMethod jX10_pass.1 ∈ gt_ws := gt_of 522 (by decide +kernel) (by decide +kernel)
theorem we_X10_pass : Cond.selects jX10_pass.1.cls jX10_pass.1 jX10_pass.1 ∈ gt_ws := gt_of 523 (by decide +kernel) (by decide +kernel)
theorem wd_X10_force : Cond.code jX10_force.1 jX10_force.2.1 jX10_force.2.2.1 jX10_force.2.2.2 ∈ gt_ws := gt_of 528 (by decide +kernel) (by decide +kernel)
theorem wm_X10_force : Cond.instanceMethod jX10_force.1 ∈ gt_ws := gt_of 526 (by decide +kernel) (by decide +kernel)
theorem we_X10_force : Cond.selects jX10_force.1.cls jX10_force.1 jX10_force.1 ∈ gt_ws := gt_of 527 (by decide +kernel) (by decide +kernel)
theorem wd_X10_came : Cond.code jX10_came.1 jX10_came.2.1 jX10_came.2.2.1 jX10_came.2.2.2 ∈ gt_ws := gt_of 544 (by decide +kernel) (by decide +kernel)
theorem wm_X10_came : Cond.instanceMethod jX10_came.1 ∈ gt_ws := gt_of 542 (by decide +kernel) (by decide +kernel)
theorem we_X10_came : Cond.selects jX10_came.1.cls jX10_came.1 jX10_came.1 ∈ gt_ws := gt_of 543 (by decide +kernel) (by decide +kernel)
theorem wd_X10_asked : Cond.code jX10_asked.1 jX10_asked.2.1 jX10_asked.2.2.1 jX10_asked.2.2.2 ∈ gt_ws := gt_of 549 (by decide +kernel) (by decide +kernel)
theorem wm_X10_asked : Cond.instanceMethod jX10_asked.1 ∈ gt_ws := gt_of 547 (by decide +kernel) (by decide +kernel)
theorem we_X10_asked : Cond.selects jX10_asked.1.cls jX10_asked.1 jX10_asked.1 ∈ gt_ws := gt_of 548 (by decide +kernel) (by decide +kernel)
theorem wd_X10_under : Cond.code jX10_under.1 jX10_under.2.1 jX10_under.2.2.1 jX10_under.2.2.2 ∈ gt_ws := gt_of 554 (by decide +kernel) (by decide +kernel)
theorem wm_X10_under : Cond.instanceMethod jX10_under.1 ∈ gt_ws := gt_of 552 (by decide +kernel) (by decide +kernel)
theorem we_X10_under : Cond.selects jX10_under.1.cls jX10_under.1 jX10_under.1 ∈ gt_ws := gt_of 553 (by decide +kernel) (by decide +kernel)
theorem wd_X10_stock : Cond.code jX10_stock.1 jX10_stock.2.1 jX10_stock.2.2.1 jX10_stock.2.2.2 ∈ gt_ws := gt_of 582 (by decide +kernel) (by decide +kernel)
theorem wm_X10_stock : Cond.instanceMethod jX10_stock.1 ∈ gt_ws := gt_of 580 (by decide +kernel) (by decide +kernel)
theorem we_X10_stock : Cond.selects jX10_stock.1.cls jX10_stock.1 jX10_stock.1 ∈ gt_ws := gt_of 581 (by decide +kernel) (by decide +kernel)
theorem wd_X10_fee : Cond.code jX10_fee.1 jX10_fee.2.1 jX10_fee.2.2.1 jX10_fee.2.2.2 ∈ gt_ws := gt_of 598 (by decide +kernel) (by decide +kernel)
theorem wm_X10_fee : Cond.instanceMethod jX10_fee.1 ∈ gt_ws := gt_of 596 (by decide +kernel) (by decide +kernel)
theorem we_X10_fee : Cond.selects jX10_fee.1.cls jX10_fee.1 jX10_fee.1 ∈ gt_ws := gt_of 597 (by decide +kernel) (by decide +kernel)
theorem wd_X10_seal : Cond.code jX10_seal.1 jX10_seal.2.1 jX10_seal.2.2.1 jX10_seal.2.2.2 ∈ gt_ws := gt_of 676 (by decide +kernel) (by decide +kernel)
theorem wm_X10_seal : Cond.instanceMethod jX10_seal.1 ∈ gt_ws := gt_of 674 (by decide +kernel) (by decide +kernel)
theorem we_X10_seal : Cond.selects jX10_seal.1.cls jX10_seal.1 jX10_seal.1 ∈ gt_ws := gt_of 675 (by decide +kernel) (by decide +kernel)
theorem wd_X10_paper : Cond.code jX10_paper.1 jX10_paper.2.1 jX10_paper.2.2.1 jX10_paper.2.2.2 ∈ gt_ws := gt_of 708 (by decide +kernel) (by decide +kernel)
theorem wm_X10_paper : Cond.instanceMethod jX10_paper.1 ∈ gt_ws := gt_of 706 (by decide +kernel) (by decide +kernel)
theorem we_X10_paper : Cond.selects jX10_paper.1.cls jX10_paper.1 jX10_paper.1 ∈ gt_ws := gt_of 707 (by decide +kernel) (by decide +kernel)
theorem wd_X10_stamps : Cond.code jX10_stamps.1 jX10_stamps.2.1 jX10_stamps.2.2.1 jX10_stamps.2.2.2 ∈ gt_ws := gt_of 734 (by decide +kernel) (by decide +kernel)
theorem wm_X10_stamps : Cond.instanceMethod jX10_stamps.1 ∈ gt_ws := gt_of 732 (by decide +kernel) (by decide +kernel)
theorem we_X10_stamps : Cond.selects jX10_stamps.1.cls jX10_stamps.1 jX10_stamps.1 ∈ gt_ws := gt_of 733 (by decide +kernel) (by decide +kernel)
theorem wd_X10_about : Cond.code jX10_about.1 jX10_about.2.1 jX10_about.2.2.1 jX10_about.2.2.2 ∈ gt_ws := gt_of 739 (by decide +kernel) (by decide +kernel)
theorem wm_X10_about : Cond.instanceMethod jX10_about.1 ∈ gt_ws := gt_of 737 (by decide +kernel) (by decide +kernel)
theorem we_X10_about : Cond.selects jX10_about.1.cls jX10_about.1 jX10_about.1 ∈ gt_ws := gt_of 738 (by decide +kernel) (by decide +kernel)
theorem wd_X10_known : Cond.code jX10_known.1 jX10_known.2.1 jX10_known.2.2.1 jX10_known.2.2.2 ∈ gt_ws := gt_of 744 (by decide +kernel) (by decide +kernel)
theorem wm_X10_known : Cond.instanceMethod jX10_known.1 ∈ gt_ws := gt_of 742 (by decide +kernel) (by decide +kernel)
theorem we_X10_known : Cond.selects jX10_known.1.cls jX10_known.1 jX10_known.1 ∈ gt_ws := gt_of 743 (by decide +kernel) (by decide +kernel)
theorem wd_X10_sum : Cond.code jX10_sum.1 jX10_sum.2.1 jX10_sum.2.2.1 jX10_sum.2.2.2 ∈ gt_ws := gt_of 756 (by decide +kernel) (by decide +kernel)
theorem wm_X10_sum : Cond.instanceMethod jX10_sum.1 ∈ gt_ws := gt_of 754 (by decide +kernel) (by decide +kernel)
theorem we_X10_sum : Cond.selects jX10_sum.1.cls jX10_sum.1 jX10_sum.1 ∈ gt_ws := gt_of 755 (by decide +kernel) (by decide +kernel)
theorem wd_X10_homes : Cond.code jX10_homes.1 jX10_homes.2.1 jX10_homes.2.2.1 jX10_homes.2.2.2 ∈ gt_ws := gt_of 764 (by decide +kernel) (by decide +kernel)
theorem wm_X10_homes : Cond.instanceMethod jX10_homes.1 ∈ gt_ws := gt_of 762 (by decide +kernel) (by decide +kernel)
theorem we_X10_homes : Cond.selects jX10_homes.1.cls jX10_homes.1 jX10_homes.1 ∈ gt_ws := gt_of 763 (by decide +kernel) (by decide +kernel)
theorem wd_X10_difference : Cond.code jX10_difference.1 jX10_difference.2.1 jX10_difference.2.2.1 jX10_difference.2.2.2 ∈ gt_ws := gt_of 772 (by decide +kernel) (by decide +kernel)
theorem wm_X10_difference : Cond.instanceMethod jX10_difference.1 ∈ gt_ws := gt_of 770 (by decide +kernel) (by decide +kernel)
theorem we_X10_difference : Cond.selects jX10_difference.1.cls jX10_difference.1 jX10_difference.1 ∈ gt_ws := gt_of 771 (by decide +kernel) (by decide +kernel)
theorem wd_X10_unlike : Cond.code jX10_unlike.1 jX10_unlike.2.1 jX10_unlike.2.2.1 jX10_unlike.2.2.2 ∈ gt_ws := gt_of 776 (by decide +kernel) (by decide +kernel)
theorem wm_X10_unlike : Cond.instanceMethod jX10_unlike.1 ∈ gt_ws := gt_of 774 (by decide +kernel) (by decide +kernel)
theorem we_X10_unlike : Cond.selects jX10_unlike.1.cls jX10_unlike.1 jX10_unlike.1 ∈ gt_ws := gt_of 775 (by decide +kernel) (by decide +kernel)
theorem wd_X10_count : Cond.code jX10_count.1 jX10_count.2.1 jX10_count.2.2.1 jX10_count.2.2.2 ∈ gt_ws := gt_of 780 (by decide +kernel) (by decide +kernel)
theorem wm_X10_count : Cond.instanceMethod jX10_count.1 ∈ gt_ws := gt_of 778 (by decide +kernel) (by decide +kernel)
theorem we_X10_count : Cond.selects jX10_count.1.cls jX10_count.1 jX10_count.1 ∈ gt_ws := gt_of 779 (by decide +kernel) (by decide +kernel)
theorem wd_X10_trouble : Cond.code jX10_trouble.1 jX10_trouble.2.1 jX10_trouble.2.2.1 jX10_trouble.2.2.2 ∈ gt_ws := gt_of 784 (by decide +kernel) (by decide +kernel)
theorem wm_X10_trouble : Cond.instanceMethod jX10_trouble.1 ∈ gt_ws := gt_of 782 (by decide +kernel) (by decide +kernel)
theorem we_X10_trouble : Cond.selects jX10_trouble.1.cls jX10_trouble.1 jX10_trouble.1 ∈ gt_ws := gt_of 783 (by decide +kernel) (by decide +kernel)
theorem wd_X10_refuse : Cond.code jX10_refuse.1 jX10_refuse.2.1 jX10_refuse.2.2.1 jX10_refuse.2.2.2 ∈ gt_ws := gt_of 166 (by decide +kernel) (by decide +kernel)
theorem wm_X10_refuse : Cond.instanceMethod jX10_refuse.1 ∈ gt_ws := gt_of 165 (by decide +kernel) (by decide +kernel)
theorem we_X10_refuse : Cond.selects jX10_refuse.1.cls jX10_refuse.1 jX10_refuse.1 ∈ gt_ws := gt_sel 0 (by decide +kernel) (by decide +kernel)
theorem wd_X10_accept : Cond.code jX10_accept.1 jX10_accept.2.1 jX10_accept.2.2.1 jX10_accept.2.2.2 ∈ gt_ws := gt_of 210 (by decide +kernel) (by decide +kernel)
theorem wm_X10_accept : Cond.instanceMethod jX10_accept.1 ∈ gt_ws := gt_of 209 (by decide +kernel) (by decide +kernel)
theorem we_X10_accept : Cond.selects jX10_accept.1.cls jX10_accept.1 jX10_accept.1 ∈ gt_ws := gt_sel 1 (by decide +kernel) (by decide +kernel)
theorem wd_X10_portAt : Cond.code jX10_portAt.1 jX10_portAt.2.1 jX10_portAt.2.2.1 jX10_portAt.2.2.2 ∈ gt_ws := gt_of 499 (by decide +kernel) (by decide +kernel)
theorem wm_X10_portAt : Cond.instanceMethod jX10_portAt.1 ∈ gt_ws := gt_of 498 (by decide +kernel) (by decide +kernel)
theorem we_X10_portAt : Cond.selects jX10_portAt.1.cls jX10_portAt.1 jX10_portAt.1 ∈ gt_ws := gt_sel 16 (by decide +kernel) (by decide +kernel)
theorem wd_X10_tariffAt : Cond.code jX10_tariffAt.1 jX10_tariffAt.2.1 jX10_tariffAt.2.2.1 jX10_tariffAt.2.2.2 ∈ gt_ws := gt_of 602 (by decide +kernel) (by decide +kernel)
theorem wm_X10_tariffAt : Cond.instanceMethod jX10_tariffAt.1 ∈ gt_ws := gt_of 601 (by decide +kernel) (by decide +kernel)
theorem we_X10_tariffAt : Cond.selects jX10_tariffAt.1.cls jX10_tariffAt.1 jX10_tariffAt.1 ∈ gt_ws := gt_sel 20 (by decide +kernel) (by decide +kernel)
theorem wd_X10_paperAt : Cond.code jX10_paperAt.1 jX10_paperAt.2.1 jX10_paperAt.2.2.1 jX10_paperAt.2.2.2 ∈ gt_ws := gt_of 712 (by decide +kernel) (by decide +kernel)
theorem wm_X10_paperAt : Cond.instanceMethod jX10_paperAt.1 ∈ gt_ws := gt_of 711 (by decide +kernel) (by decide +kernel)
theorem we_X10_paperAt : Cond.selects jX10_paperAt.1.cls jX10_paperAt.1 jX10_paperAt.1 ∈ gt_ws := gt_sel 22 (by decide +kernel) (by decide +kernel)
theorem wd_X10_isWorth : Cond.code jX10_isWorth.1 jX10_isWorth.2.1 jX10_isWorth.2.2.1 jX10_isWorth.2.2.2 ∈ gt_ws := gt_of 585 (by decide +kernel) (by decide +kernel)
theorem ws_X10_isWorth : Cond.static jX10_isWorth.1 ∈ gt_ws := gt_of 584 (by decide +kernel) (by decide +kernel)
theorem wd_X10_isPaper : Cond.code jX10_isPaper.1 jX10_isPaper.2.1 jX10_isPaper.2.2.1 jX10_isPaper.2.2.2 ∈ gt_ws := gt_of 605 (by decide +kernel) (by decide +kernel)
theorem ws_X10_isPaper : Cond.static jX10_isPaper.1 ∈ gt_ws := gt_of 604 (by decide +kernel) (by decide +kernel)
theorem wd_X10_isPast : Cond.code jX10_isPast.1 jX10_isPast.2.1 jX10_isPast.2.2.1 jX10_isPast.2.2.2 ∈ gt_ws := gt_of 748 (by decide +kernel) (by decide +kernel)
theorem wm_X10_isPast : Cond.instanceMethod jX10_isPast.1 ∈ gt_ws := gt_of 747 (by decide +kernel) (by decide +kernel)
theorem we_X10_isPast : Cond.selects jX10_isPast.1.cls jX10_isPast.1 jX10_isPast.1 ∈ gt_ws := gt_sel 25 (by decide +kernel) (by decide +kernel)
theorem wd_X10_sendOut : Cond.code jX10_sendOut.1 jX10_sendOut.2.1 jX10_sendOut.2.2.1 jX10_sendOut.2.2.2 ∈ gt_ws := gt_of 495 (by decide +kernel) (by decide +kernel)
theorem wm_X10_sendOut : Cond.instanceMethod jX10_sendOut.1 ∈ gt_ws := gt_of 494 (by decide +kernel) (by decide +kernel)
theorem we_X10_sendOut : Cond.selects jX10_sendOut.1.cls jX10_sendOut.1 jX10_sendOut.1 ∈ gt_ws := gt_sel 15 (by decide +kernel) (by decide +kernel)
theorem wd_X10_knownDay : Cond.code jX10_knownDay.1 jX10_knownDay.2.1 jX10_knownDay.2.2.1 jX10_knownDay.2.2.2 ∈ gt_ws := gt_of 729 (by decide +kernel) (by decide +kernel)
theorem wm_X10_knownDay : Cond.instanceMethod jX10_knownDay.1 ∈ gt_ws := gt_of 728 (by decide +kernel) (by decide +kernel)
theorem we_X10_knownDay : Cond.selects jX10_knownDay.1.cls jX10_knownDay.1 jX10_knownDay.1 ∈ gt_ws := gt_sel 24 (by decide +kernel) (by decide +kernel)
theorem wd_X10_isKnown : Cond.code jX10_isKnown.1 jX10_isKnown.2.1 jX10_isKnown.2.2.1 jX10_isKnown.2.2.2 ∈ gt_ws := gt_of 725 (by decide +kernel) (by decide +kernel)
theorem wm_X10_isKnown : Cond.instanceMethod jX10_isKnown.1 ∈ gt_ws := gt_of 724 (by decide +kernel) (by decide +kernel)
theorem we_X10_isKnown : Cond.selects jX10_isKnown.1.cls jX10_isKnown.1 jX10_isKnown.1 ∈ gt_ws := gt_sel 23 (by decide +kernel) (by decide +kernel)
theorem wd_X10_isKnownOf : Cond.code jX10_isKnownOf.1 jX10_isKnownOf.2.1 jX10_isKnownOf.2.2.1 jX10_isKnownOf.2.2.2 ∈ gt_ws := gt_of 752 (by decide +kernel) (by decide +kernel)
theorem wm_X10_isKnownOf : Cond.instanceMethod jX10_isKnownOf.1 ∈ gt_ws := gt_of 751 (by decide +kernel) (by decide +kernel)
theorem we_X10_isKnownOf : Cond.selects jX10_isKnownOf.1.cls jX10_isKnownOf.1 jX10_isKnownOf.1 ∈ gt_ws := gt_sel 26 (by decide +kernel) (by decide +kernel)
theorem wd_X10_chargedFor : Cond.code jX10_chargedFor.1 jX10_chargedFor.2.1 jX10_chargedFor.2.2.1 jX10_chargedFor.2.2.2 ∈ gt_ws := gt_of 760 (by decide +kernel) (by decide +kernel)
theorem wm_X10_chargedFor : Cond.instanceMethod jX10_chargedFor.1 ∈ gt_ws := gt_of 759 (by decide +kernel) (by decide +kernel)
theorem we_X10_chargedFor : Cond.selects jX10_chargedFor.1.cls jX10_chargedFor.1 jX10_chargedFor.1 ∈ gt_ws := gt_sel 27 (by decide +kernel) (by decide +kernel)
theorem wd_X10_homeFee : Cond.code jX10_homeFee.1 jX10_homeFee.2.1 jX10_homeFee.2.2.1 jX10_homeFee.2.2.2 ∈ gt_ws := gt_of 768 (by decide +kernel) (by decide +kernel)
theorem wm_X10_homeFee : Cond.instanceMethod jX10_homeFee.1 ∈ gt_ws := gt_of 767 (by decide +kernel) (by decide +kernel)
theorem we_X10_homeFee : Cond.selects jX10_homeFee.1.cls jX10_homeFee.1 jX10_homeFee.1 ∈ gt_ws := gt_sel 28 (by decide +kernel) (by decide +kernel)
theorem wd_X10_accountsBelow : Cond.code jX10_accountsBelow.1 jX10_accountsBelow.2.1 jX10_accountsBelow.2.2.1 jX10_accountsBelow.2.2.2 ∈ gt_ws := gt_of 565 (by decide +kernel) (by decide +kernel)
theorem ws_X10_accountsBelow : Cond.static jX10_accountsBelow.1 ∈ gt_ws := gt_of 564 (by decide +kernel) (by decide +kernel)
theorem wd_X11_init : Cond.code jX11_init.1 jX11_init.2.1 jX11_init.2.2.1 jX11_init.2.2.2 ∈ gt_ws := gt_of 832 (by decide +kernel) (by decide +kernel)
theorem wm_X11_init : Cond.instanceMethod jX11_init.1 ∈ gt_ws := gt_of 831 (by decide +kernel) (by decide +kernel)
theorem wd_X12_init : Cond.code jX12_init.1 jX12_init.2.1 jX12_init.2.2.1 jX12_init.2.2.2 ∈ gt_ws := gt_of 789 (by decide +kernel) (by decide +kernel)
theorem wm_X12_init : Cond.instanceMethod jX12_init.1 ∈ gt_ws := gt_of 788 (by decide +kernel) (by decide +kernel)
theorem wd_X12_refused : Cond.code jX12_refused.1 jX12_refused.2.1 jX12_refused.2.2.1 jX12_refused.2.2.2 ∈ gt_ws := gt_of 1023 (by decide +kernel) (by decide +kernel)
theorem wm_X12_refused : Cond.instanceMethod jX12_refused.1 ∈ gt_ws := gt_of 1022 (by decide +kernel) (by decide +kernel)
theorem we_X12_refused : Cond.selects jX12_refused.1.cls jX12_refused.1 jX12_refused.1 ∈ gt_ws := gt_sel 30 (by decide +kernel) (by decide +kernel)
theorem wd_X12_done : Cond.code jX12_done.1 jX12_done.2.1 jX12_done.2.2.1 jX12_done.2.2.2 ∈ gt_ws := gt_of 1032 (by decide +kernel) (by decide +kernel)
theorem wm_X12_done : Cond.instanceMethod jX12_done.1 ∈ gt_ws := gt_of 1031 (by decide +kernel) (by decide +kernel)
theorem we_X12_done : Cond.selects jX12_done.1.cls jX12_done.1 jX12_done.1 ∈ gt_ws := gt_sel 32 (by decide +kernel) (by decide +kernel)
theorem wd_X12_in : Cond.code jX12_in.1 jX12_in.2.1 jX12_in.2.2.1 jX12_in.2.2.2 ∈ gt_ws := gt_of 1019 (by decide +kernel) (by decide +kernel)
theorem ws_X12_in : Cond.static jX12_in.1 ∈ gt_ws := gt_of 1018 (by decide +kernel) (by decide +kernel)
theorem wd_X12_stop : Cond.code jX12_stop.1 jX12_stop.2.1 jX12_stop.2.2.1 jX12_stop.2.2.2 ∈ gt_ws := gt_of 1073 (by decide +kernel) (by decide +kernel)
theorem wm_X12_stop : Cond.instanceMethod jX12_stop.1 ∈ gt_ws := gt_of 1072 (by decide +kernel) (by decide +kernel)
theorem we_X12_stop : Cond.selects jX12_stop.1.cls jX12_stop.1 jX12_stop.1 ∈ gt_ws := gt_sel 37 (by decide +kernel) (by decide +kernel)
theorem wd_X12_byteAt : Cond.code jX12_byteAt.1 jX12_byteAt.2.1 jX12_byteAt.2.2.1 jX12_byteAt.2.2.2 ∈ gt_ws := gt_of 1052 (by decide +kernel) (by decide +kernel)
theorem wm_X12_byteAt : Cond.instanceMethod jX12_byteAt.1 ∈ gt_ws := gt_of 1051 (by decide +kernel) (by decide +kernel)
theorem we_X12_byteAt : Cond.selects jX12_byteAt.1.cls jX12_byteAt.1 jX12_byteAt.1 ∈ gt_ws := gt_sel 35 (by decide +kernel) (by decide +kernel)
theorem wd_X12_isLetter : Cond.code jX12_isLetter.1 jX12_isLetter.2.1 jX12_isLetter.2.2.1 jX12_isLetter.2.2.2 ∈ gt_ws := gt_of 1055 (by decide +kernel) (by decide +kernel)
theorem ws_X12_isLetter : Cond.static jX12_isLetter.1 ∈ gt_ws := gt_of 1054 (by decide +kernel) (by decide +kernel)
theorem wd_X12_isDigit : Cond.code jX12_isDigit.1 jX12_isDigit.2.1 jX12_isDigit.2.2.1 jX12_isDigit.2.2.2 ∈ gt_ws := gt_of 1059 (by decide +kernel) (by decide +kernel)
theorem ws_X12_isDigit : Cond.static jX12_isDigit.1 ∈ gt_ws := gt_of 1058 (by decide +kernel) (by decide +kernel)
theorem wd_X12_wordOf : Cond.code jX12_wordOf.1 jX12_wordOf.2.1 jX12_wordOf.2.2.1 jX12_wordOf.2.2.2 ∈ gt_ws := gt_of 1067 (by decide +kernel) (by decide +kernel)
theorem ws_X12_wordOf : Cond.static jX12_wordOf.1 ∈ gt_ws := gt_of 1066 (by decide +kernel) (by decide +kernel)
theorem wd_X12_next : Cond.code jX12_next.1 jX12_next.2.1 jX12_next.2.2.1 jX12_next.2.2.2 ∈ gt_ws := gt_of 1048 (by decide +kernel) (by decide +kernel)
theorem wm_X12_next : Cond.instanceMethod jX12_next.1 ∈ gt_ws := gt_of 1047 (by decide +kernel) (by decide +kernel)
theorem we_X12_next : Cond.selects jX12_next.1.cls jX12_next.1 jX12_next.1 ∈ gt_ws := gt_sel 34 (by decide +kernel) (by decide +kernel)
theorem wd_X12_isWord : Cond.code jX12_isWord.1 jX12_isWord.2.1 jX12_isWord.2.2.1 jX12_isWord.2.2.2 ∈ gt_ws := gt_of 1064 (by decide +kernel) (by decide +kernel)
theorem wm_X12_isWord : Cond.instanceMethod jX12_isWord.1 ∈ gt_ws := gt_of 1063 (by decide +kernel) (by decide +kernel)
theorem we_X12_isWord : Cond.selects jX12_isWord.1.cls jX12_isWord.1 jX12_isWord.1 ∈ gt_ws := gt_sel 36 (by decide +kernel) (by decide +kernel)
theorem wd_X12_is : Cond.code jX12_is.1 jX12_is.2.1 jX12_is.2.2.1 jX12_is.2.2.2 ∈ gt_ws := gt_of 1092 (by decide +kernel) (by decide +kernel)
theorem wm_X12_is : Cond.instanceMethod jX12_is.1 ∈ gt_ws := gt_of 1091 (by decide +kernel) (by decide +kernel)
theorem we_X12_is : Cond.selects jX12_is.1.cls jX12_is.1 jX12_is.1 ∈ gt_ws := gt_sel 40 (by decide +kernel) (by decide +kernel)
theorem wd_X12_nameHere : Cond.code jX12_nameHere.1 jX12_nameHere.2.1 jX12_nameHere.2.2.1 jX12_nameHere.2.2.2 ∈ gt_ws := gt_of 1082 (by decide +kernel) (by decide +kernel)
theorem wm_X12_nameHere : Cond.instanceMethod jX12_nameHere.1 ∈ gt_ws := gt_of 1081 (by decide +kernel) (by decide +kernel)
theorem we_X12_nameHere : Cond.selects jX12_nameHere.1.cls jX12_nameHere.1 jX12_nameHere.1 ∈ gt_ws := gt_sel 39 (by decide +kernel) (by decide +kernel)
theorem wd_X12_reads : Cond.code jX12_reads.1 jX12_reads.2.1 jX12_reads.2.2.1 jX12_reads.2.2.2 ∈ gt_ws := gt_of 1044 (by decide +kernel) (by decide +kernel)
theorem wm_X12_reads : Cond.instanceMethod jX12_reads.1 ∈ gt_ws := gt_of 1043 (by decide +kernel) (by decide +kernel)
theorem we_X12_reads : Cond.selects jX12_reads.1.cls jX12_reads.1 jX12_reads.1 ∈ gt_ws := gt_sel 33 (by decide +kernel) (by decide +kernel)
theorem wd_X12_readTest : Cond.code jX12_readTest.1 jX12_readTest.2.1 jX12_readTest.2.2.1 jX12_readTest.2.2.2 ∈ gt_ws := gt_of 1078 (by decide +kernel) (by decide +kernel)
theorem wm_X12_readTest : Cond.instanceMethod jX12_readTest.1 ∈ gt_ws := gt_of 1077 (by decide +kernel) (by decide +kernel)
theorem we_X12_readTest : Cond.selects jX12_readTest.1.cls jX12_readTest.1 jX12_readTest.1 ∈ gt_ws := gt_sel 38 (by decide +kernel) (by decide +kernel)
theorem wd_X12_readTerm : Cond.code jX12_readTerm.1 jX12_readTerm.2.1 jX12_readTerm.2.2.1 jX12_readTerm.2.2.2 ∈ gt_ws := gt_of 1096 (by decide +kernel) (by decide +kernel)
theorem wm_X12_readTerm : Cond.instanceMethod jX12_readTerm.1 ∈ gt_ws := gt_of 1095 (by decide +kernel) (by decide +kernel)
theorem we_X12_readTerm : Cond.selects jX12_readTerm.1.cls jX12_readTerm.1 jX12_readTerm.1 ∈ gt_ws := gt_sel 41 (by decide +kernel) (by decide +kernel)
theorem wd_X12_valueOf : Cond.code jX12_valueOf.1 jX12_valueOf.2.1 jX12_valueOf.2.2.1 jX12_valueOf.2.2.2 ∈ gt_ws := gt_of 1170 (by decide +kernel) (by decide +kernel)
theorem ws_X12_valueOf : Cond.static jX12_valueOf.1 ∈ gt_ws := gt_of 1169 (by decide +kernel) (by decide +kernel)
theorem wd_X12_feeOf : Cond.code jX12_feeOf.1 jX12_feeOf.2.1 jX12_feeOf.2.2.1 jX12_feeOf.2.2.2 ∈ gt_ws := gt_of 1167 (by decide +kernel) (by decide +kernel)
theorem wm_X12_feeOf : Cond.instanceMethod jX12_feeOf.1 ∈ gt_ws := gt_of 1166 (by decide +kernel) (by decide +kernel)
theorem we_X12_feeOf : Cond.selects jX12_feeOf.1.cls jX12_feeOf.1 jX12_feeOf.1 ∈ gt_ws := gt_sel 48 (by decide +kernel) (by decide +kernel)
theorem wd_X12_port : Cond.code jX12_port.1 jX12_port.2.1 jX12_port.2.2.1 jX12_port.2.2.2 ∈ gt_ws := gt_of 1016 (by decide +kernel) (by decide +kernel)
theorem wm_X12_port : Cond.instanceMethod jX12_port.1 ∈ gt_ws := gt_of 1014 (by decide +kernel) (by decide +kernel)
theorem we_X12_port : Cond.selects jX12_port.1.cls jX12_port.1 jX12_port.1 ∈ gt_ws := gt_of 1015 (by decide +kernel) (by decide +kernel)
theorem wd_X12_sends : Cond.code jX12_sends.1 jX12_sends.2.1 jX12_sends.2.2.1 jX12_sends.2.2.2 ∈ gt_ws := gt_of 1027 (by decide +kernel) (by decide +kernel)
theorem wm_X12_sends : Cond.instanceMethod jX12_sends.1 ∈ gt_ws := gt_of 1026 (by decide +kernel) (by decide +kernel)
theorem we_X12_sends : Cond.selects jX12_sends.1.cls jX12_sends.1 jX12_sends.1 ∈ gt_ws := gt_sel 31 (by decide +kernel) (by decide +kernel)
theorem wd_X12_feed : Cond.code jX12_feed.1 jX12_feed.2.1 jX12_feed.2.2.1 jX12_feed.2.2.2 ∈ gt_ws := gt_of 1036 (by decide +kernel) (by decide +kernel)
theorem wm_X12_feed : Cond.instanceMethod jX12_feed.1 ∈ gt_ws := gt_of 1034 (by decide +kernel) (by decide +kernel)
theorem we_X12_feed : Cond.selects jX12_feed.1.cls jX12_feed.1 jX12_feed.1 ∈ gt_ws := gt_of 1035 (by decide +kernel) (by decide +kernel)
theorem wd_X12_fault : Cond.code jX12_fault.1 jX12_fault.2.1 jX12_fault.2.2.1 jX12_fault.2.2.2 ∈ gt_ws := gt_of 1100 (by decide +kernel) (by decide +kernel)
theorem wm_X12_fault : Cond.instanceMethod jX12_fault.1 ∈ gt_ws := gt_of 1098 (by decide +kernel) (by decide +kernel)
theorem we_X12_fault : Cond.selects jX12_fault.1.cls jX12_fault.1 jX12_fault.1 ∈ gt_ws := gt_of 1099 (by decide +kernel) (by decide +kernel)
theorem wd_X12_where : Cond.code jX12_where.1 jX12_where.2.1 jX12_where.2.2.1 jX12_where.2.2.2 ∈ gt_ws := gt_of 1104 (by decide +kernel) (by decide +kernel)
theorem wm_X12_where : Cond.instanceMethod jX12_where.1 ∈ gt_ws := gt_of 1102 (by decide +kernel) (by decide +kernel)
theorem we_X12_where : Cond.selects jX12_where.1.cls jX12_where.1 jX12_where.1 ∈ gt_ws := gt_of 1103 (by decide +kernel) (by decide +kernel)
theorem wd_X12_isPort : Cond.code jX12_isPort.1 jX12_isPort.2.1 jX12_isPort.2.2.1 jX12_isPort.2.2.2 ∈ gt_ws := gt_of 1112 (by decide +kernel) (by decide +kernel)
theorem wm_X12_isPort : Cond.instanceMethod jX12_isPort.1 ∈ gt_ws := gt_of 1111 (by decide +kernel) (by decide +kernel)
theorem we_X12_isPort : Cond.selects jX12_isPort.1.cls jX12_isPort.1 jX12_isPort.1 ∈ gt_ws := gt_sel 42 (by decide +kernel) (by decide +kernel)
theorem wd_X12_isTariff : Cond.code jX12_isTariff.1 jX12_isTariff.2.1 jX12_isTariff.2.2.1 jX12_isTariff.2.2.2 ∈ gt_ws := gt_of 1116 (by decide +kernel) (by decide +kernel)
theorem wm_X12_isTariff : Cond.instanceMethod jX12_isTariff.1 ∈ gt_ws := gt_of 1115 (by decide +kernel) (by decide +kernel)
theorem we_X12_isTariff : Cond.selects jX12_isTariff.1.cls jX12_isTariff.1 jX12_isTariff.1 ∈ gt_ws := gt_sel 43 (by decide +kernel) (by decide +kernel)
theorem wd_X12_comes : Cond.code jX12_comes.1 jX12_comes.2.1 jX12_comes.2.2.1 jX12_comes.2.2.2 ∈ gt_ws := gt_of 1124 (by decide +kernel) (by decide +kernel)
theorem wm_X12_comes : Cond.instanceMethod jX12_comes.1 ∈ gt_ws := gt_of 1123 (by decide +kernel) (by decide +kernel)
theorem we_X12_comes : Cond.selects jX12_comes.1.cls jX12_comes.1 jX12_comes.1 ∈ gt_ws := gt_sel 45 (by decide +kernel) (by decide +kernel)
theorem wd_X12_hasCome : Cond.code jX12_hasCome.1 jX12_hasCome.2.1 jX12_hasCome.2.2.1 jX12_hasCome.2.2.2 ∈ gt_ws := gt_of 1120 (by decide +kernel) (by decide +kernel)
theorem wm_X12_hasCome : Cond.instanceMethod jX12_hasCome.1 ∈ gt_ws := gt_of 1119 (by decide +kernel) (by decide +kernel)
theorem we_X12_hasCome : Cond.selects jX12_hasCome.1.cls jX12_hasCome.1 jX12_hasCome.1 ∈ gt_ws := gt_sel 44 (by decide +kernel) (by decide +kernel)
theorem wd_X12_lost : Cond.code jX12_lost.1 jX12_lost.2.1 jX12_lost.2.2.1 jX12_lost.2.2.2 ∈ gt_ws := gt_of 1108 (by decide +kernel) (by decide +kernel)
theorem wm_X12_lost : Cond.instanceMethod jX12_lost.1 ∈ gt_ws := gt_of 1106 (by decide +kernel) (by decide +kernel)
theorem we_X12_lost : Cond.selects jX12_lost.1.cls jX12_lost.1 jX12_lost.1 ∈ gt_ws := gt_of 1107 (by decide +kernel) (by decide +kernel)
theorem wd_X12_asks : Cond.code jX12_asks.1 jX12_asks.2.1 jX12_asks.2.2.1 jX12_asks.2.2.2 ∈ gt_ws := gt_of 1132 (by decide +kernel) (by decide +kernel)
theorem wm_X12_asks : Cond.instanceMethod jX12_asks.1 ∈ gt_ws := gt_of 1131 (by decide +kernel) (by decide +kernel)
theorem we_X12_asks : Cond.selects jX12_asks.1.cls jX12_asks.1 jX12_asks.1 ∈ gt_ws := gt_sel 46 (by decide +kernel) (by decide +kernel)
theorem wd_X12_pass : Cond.code jX12_pass.1 jX12_pass.2.1 jX12_pass.2.2.1 jX12_pass.2.2.2 ∈ gt_ws := gt_of 1128 (by decide +kernel) (by decide +kernel)
theorem wm_X12_pass : Cond.instanceMethod jX12_pass.1 ∈ gt_ws := gt_of 1126 (by decide +kernel) (by decide +kernel)
theorem we_X12_pass : Cond.selects jX12_pass.1.cls jX12_pass.1 jX12_pass.1 ∈ gt_ws := gt_of 1127 (by decide +kernel) (by decide +kernel)
theorem wd_X12_forceOf : Cond.code jX12_forceOf.1 jX12_forceOf.2.1 jX12_forceOf.2.2.1 jX12_forceOf.2.2.2 ∈ gt_ws := gt_of 1140 (by decide +kernel) (by decide +kernel)
theorem wm_X12_forceOf : Cond.instanceMethod jX12_forceOf.1 ∈ gt_ws := gt_of 1139 (by decide +kernel) (by decide +kernel)
theorem we_X12_forceOf : Cond.selects jX12_forceOf.1.cls jX12_forceOf.1 jX12_forceOf.1 ∈ gt_ws := gt_sel 47 (by decide +kernel) (by decide +kernel)
theorem wd_X12_force : Cond.code jX12_force.1 jX12_force.2.1 jX12_force.2.2.1 jX12_force.2.2.2 ∈ gt_ws := gt_of 1136 (by decide +kernel) (by decide +kernel)
theorem wm_X12_force : Cond.instanceMethod jX12_force.1 ∈ gt_ws := gt_of 1134 (by decide +kernel) (by decide +kernel)
theorem we_X12_force : Cond.selects jX12_force.1.cls jX12_force.1 jX12_force.1 ∈ gt_ws := gt_of 1135 (by decide +kernel) (by decide +kernel)
theorem wd_X12_came : Cond.code jX12_came.1 jX12_came.2.1 jX12_came.2.2.1 jX12_came.2.2.2 ∈ gt_ws := gt_of 1144 (by decide +kernel) (by decide +kernel)
theorem wm_X12_came : Cond.instanceMethod jX12_came.1 ∈ gt_ws := gt_of 1142 (by decide +kernel) (by decide +kernel)
theorem we_X12_came : Cond.selects jX12_came.1.cls jX12_came.1 jX12_came.1 ∈ gt_ws := gt_of 1143 (by decide +kernel) (by decide +kernel)
theorem wd_X12_asked : Cond.code jX12_asked.1 jX12_asked.2.1 jX12_asked.2.2.1 jX12_asked.2.2.2 ∈ gt_ws := gt_of 1148 (by decide +kernel) (by decide +kernel)
theorem wm_X12_asked : Cond.instanceMethod jX12_asked.1 ∈ gt_ws := gt_of 1146 (by decide +kernel) (by decide +kernel)
theorem we_X12_asked : Cond.selects jX12_asked.1.cls jX12_asked.1 jX12_asked.1 ∈ gt_ws := gt_of 1147 (by decide +kernel) (by decide +kernel)
theorem wd_X12_under : Cond.code jX12_under.1 jX12_under.2.1 jX12_under.2.2.1 jX12_under.2.2.2 ∈ gt_ws := gt_of 1152 (by decide +kernel) (by decide +kernel)
theorem wm_X12_under : Cond.instanceMethod jX12_under.1 ∈ gt_ws := gt_of 1150 (by decide +kernel) (by decide +kernel)
theorem we_X12_under : Cond.selects jX12_under.1.cls jX12_under.1 jX12_under.1 ∈ gt_ws := gt_of 1151 (by decide +kernel) (by decide +kernel)
theorem wd_X12_stock : Cond.code jX12_stock.1 jX12_stock.2.1 jX12_stock.2.2.1 jX12_stock.2.2.2 ∈ gt_ws := gt_of 1156 (by decide +kernel) (by decide +kernel)
theorem wm_X12_stock : Cond.instanceMethod jX12_stock.1 ∈ gt_ws := gt_of 1154 (by decide +kernel) (by decide +kernel)
theorem we_X12_stock : Cond.selects jX12_stock.1.cls jX12_stock.1 jX12_stock.1 ∈ gt_ws := gt_of 1155 (by decide +kernel) (by decide +kernel)
theorem wd_X12_isPaper : Cond.code jX12_isPaper.1 jX12_isPaper.2.1 jX12_isPaper.2.2.1 jX12_isPaper.2.2.2 ∈ gt_ws := gt_of 1163 (by decide +kernel) (by decide +kernel)
theorem ws_X12_isPaper : Cond.static jX12_isPaper.1 ∈ gt_ws := gt_of 1162 (by decide +kernel) (by decide +kernel)
theorem wd_X12_fee : Cond.code jX12_fee.1 jX12_fee.2.1 jX12_fee.2.2.1 jX12_fee.2.2.2 ∈ gt_ws := gt_of 1160 (by decide +kernel) (by decide +kernel)
theorem wm_X12_fee : Cond.instanceMethod jX12_fee.1 ∈ gt_ws := gt_of 1158 (by decide +kernel) (by decide +kernel)
theorem we_X12_fee : Cond.selects jX12_fee.1.cls jX12_fee.1 jX12_fee.1 ∈ gt_ws := gt_of 1159 (by decide +kernel) (by decide +kernel)
theorem wd_X12_chooses : Cond.code jX12_chooses.1 jX12_chooses.2.1 jX12_chooses.2.2.1 jX12_chooses.2.2.2 ∈ gt_ws := gt_of 1179 (by decide +kernel) (by decide +kernel)
theorem wm_X12_chooses : Cond.instanceMethod jX12_chooses.1 ∈ gt_ws := gt_of 1178 (by decide +kernel) (by decide +kernel)
theorem we_X12_chooses : Cond.selects jX12_chooses.1.cls jX12_chooses.1 jX12_chooses.1 ∈ gt_ws := gt_sel 49 (by decide +kernel) (by decide +kernel)
theorem wd_X12_seal : Cond.code jX12_seal.1 jX12_seal.2.1 jX12_seal.2.2.1 jX12_seal.2.2.2 ∈ gt_ws := gt_of 1175 (by decide +kernel) (by decide +kernel)
theorem wm_X12_seal : Cond.instanceMethod jX12_seal.1 ∈ gt_ws := gt_of 1173 (by decide +kernel) (by decide +kernel)
theorem we_X12_seal : Cond.selects jX12_seal.1.cls jX12_seal.1 jX12_seal.1 ∈ gt_ws := gt_of 1174 (by decide +kernel) (by decide +kernel)
theorem wd_X12_homeOf : Cond.code jX12_homeOf.1 jX12_homeOf.2.1 jX12_homeOf.2.2.1 jX12_homeOf.2.2.2 ∈ gt_ws := gt_of 1200 (by decide +kernel) (by decide +kernel)
theorem wm_X12_homeOf : Cond.instanceMethod jX12_homeOf.1 ∈ gt_ws := gt_of 1199 (by decide +kernel) (by decide +kernel)
theorem we_X12_homeOf : Cond.selects jX12_homeOf.1.cls jX12_homeOf.1 jX12_homeOf.1 ∈ gt_ws := gt_sel 50 (by decide +kernel) (by decide +kernel)
theorem wd_X12_paper : Cond.code jX12_paper.1 jX12_paper.2.1 jX12_paper.2.2.1 jX12_paper.2.2.2 ∈ gt_ws := gt_of 1196 (by decide +kernel) (by decide +kernel)
theorem wm_X12_paper : Cond.instanceMethod jX12_paper.1 ∈ gt_ws := gt_of 1194 (by decide +kernel) (by decide +kernel)
theorem we_X12_paper : Cond.selects jX12_paper.1.cls jX12_paper.1 jX12_paper.1 ∈ gt_ws := gt_of 1195 (by decide +kernel) (by decide +kernel)
theorem wd_X12_stamps : Cond.code jX12_stamps.1 jX12_stamps.2.1 jX12_stamps.2.2.1 jX12_stamps.2.2.2 ∈ gt_ws := gt_of 1204 (by decide +kernel) (by decide +kernel)
theorem wm_X12_stamps : Cond.instanceMethod jX12_stamps.1 ∈ gt_ws := gt_of 1202 (by decide +kernel) (by decide +kernel)
theorem we_X12_stamps : Cond.selects jX12_stamps.1.cls jX12_stamps.1 jX12_stamps.1 ∈ gt_ws := gt_of 1203 (by decide +kernel) (by decide +kernel)
theorem wd_X12_about : Cond.code jX12_about.1 jX12_about.2.1 jX12_about.2.2.1 jX12_about.2.2.2 ∈ gt_ws := gt_of 1208 (by decide +kernel) (by decide +kernel)
theorem wm_X12_about : Cond.instanceMethod jX12_about.1 ∈ gt_ws := gt_of 1206 (by decide +kernel) (by decide +kernel)
theorem we_X12_about : Cond.selects jX12_about.1.cls jX12_about.1 jX12_about.1 ∈ gt_ws := gt_of 1207 (by decide +kernel) (by decide +kernel)
theorem wd_X12_known : Cond.code jX12_known.1 jX12_known.2.1 jX12_known.2.2.1 jX12_known.2.2.2 ∈ gt_ws := gt_of 1212 (by decide +kernel) (by decide +kernel)
theorem wm_X12_known : Cond.instanceMethod jX12_known.1 ∈ gt_ws := gt_of 1210 (by decide +kernel) (by decide +kernel)
theorem we_X12_known : Cond.selects jX12_known.1.cls jX12_known.1 jX12_known.1 ∈ gt_ws := gt_of 1211 (by decide +kernel) (by decide +kernel)
theorem wd_X12_sum : Cond.code jX12_sum.1 jX12_sum.2.1 jX12_sum.2.2.1 jX12_sum.2.2.2 ∈ gt_ws := gt_of 1216 (by decide +kernel) (by decide +kernel)
theorem wm_X12_sum : Cond.instanceMethod jX12_sum.1 ∈ gt_ws := gt_of 1214 (by decide +kernel) (by decide +kernel)
theorem we_X12_sum : Cond.selects jX12_sum.1.cls jX12_sum.1 jX12_sum.1 ∈ gt_ws := gt_of 1215 (by decide +kernel) (by decide +kernel)
theorem wd_X12_homesFee : Cond.code jX12_homesFee.1 jX12_homesFee.2.1 jX12_homesFee.2.2.1 jX12_homesFee.2.2.2 ∈ gt_ws := gt_of 1224 (by decide +kernel) (by decide +kernel)
theorem wm_X12_homesFee : Cond.instanceMethod jX12_homesFee.1 ∈ gt_ws := gt_of 1223 (by decide +kernel) (by decide +kernel)
theorem we_X12_homesFee : Cond.selects jX12_homesFee.1.cls jX12_homesFee.1 jX12_homesFee.1 ∈ gt_ws := gt_sel 51 (by decide +kernel) (by decide +kernel)
theorem wd_X12_homes : Cond.code jX12_homes.1 jX12_homes.2.1 jX12_homes.2.2.1 jX12_homes.2.2.2 ∈ gt_ws := gt_of 1220 (by decide +kernel) (by decide +kernel)
theorem wm_X12_homes : Cond.instanceMethod jX12_homes.1 ∈ gt_ws := gt_of 1218 (by decide +kernel) (by decide +kernel)
theorem we_X12_homes : Cond.selects jX12_homes.1.cls jX12_homes.1 jX12_homes.1 ∈ gt_ws := gt_of 1219 (by decide +kernel) (by decide +kernel)
theorem wd_X12_difference : Cond.code jX12_difference.1 jX12_difference.2.1 jX12_difference.2.2.1 jX12_difference.2.2.2 ∈ gt_ws := gt_of 1228 (by decide +kernel) (by decide +kernel)
theorem wm_X12_difference : Cond.instanceMethod jX12_difference.1 ∈ gt_ws := gt_of 1226 (by decide +kernel) (by decide +kernel)
theorem we_X12_difference : Cond.selects jX12_difference.1.cls jX12_difference.1 jX12_difference.1 ∈ gt_ws := gt_of 1227 (by decide +kernel) (by decide +kernel)
theorem wd_X12_unlike : Cond.code jX12_unlike.1 jX12_unlike.2.1 jX12_unlike.2.2.1 jX12_unlike.2.2.2 ∈ gt_ws := gt_of 1232 (by decide +kernel) (by decide +kernel)
theorem wm_X12_unlike : Cond.instanceMethod jX12_unlike.1 ∈ gt_ws := gt_of 1230 (by decide +kernel) (by decide +kernel)
theorem we_X12_unlike : Cond.selects jX12_unlike.1.cls jX12_unlike.1 jX12_unlike.1 ∈ gt_ws := gt_of 1231 (by decide +kernel) (by decide +kernel)
theorem wd_X12_count : Cond.code jX12_count.1 jX12_count.2.1 jX12_count.2.2.1 jX12_count.2.2.2 ∈ gt_ws := gt_of 1236 (by decide +kernel) (by decide +kernel)
theorem wm_X12_count : Cond.instanceMethod jX12_count.1 ∈ gt_ws := gt_of 1234 (by decide +kernel) (by decide +kernel)
theorem we_X12_count : Cond.selects jX12_count.1.cls jX12_count.1 jX12_count.1 ∈ gt_ws := gt_of 1235 (by decide +kernel) (by decide +kernel)
theorem wd_X12_trouble : Cond.code jX12_trouble.1 jX12_trouble.2.1 jX12_trouble.2.2.1 jX12_trouble.2.2.2 ∈ gt_ws := gt_of 1240 (by decide +kernel) (by decide +kernel)
theorem wm_X12_trouble : Cond.instanceMethod jX12_trouble.1 ∈ gt_ws := gt_of 1238 (by decide +kernel) (by decide +kernel)
theorem we_X12_trouble : Cond.selects jX12_trouble.1.cls jX12_trouble.1 jX12_trouble.1 ∈ gt_ws := gt_of 1239 (by decide +kernel) (by decide +kernel)
theorem wd_J11_isValidCodePoint_9a6ad : Cond.code jJ11_isValidCodePoint_9a6ad.1 jJ11_isValidCodePoint_9a6ad.2.1 jJ11_isValidCodePoint_9a6ad.2.2.1 jJ11_isValidCodePoint_9a6ad.2.2.2 ∈ gt_ws := gt_of 366 (by decide +kernel) (by decide +kernel)
theorem ws_J11_isValidCodePoint_9a6ad : Cond.static jJ11_isValidCodePoint_9a6ad.1 ∈ gt_ws := gt_of 365 (by decide +kernel) (by decide +kernel)
theorem wd_J11_highSurrogate_5068e : Cond.code jJ11_highSurrogate_5068e.1 jJ11_highSurrogate_5068e.2.1 jJ11_highSurrogate_5068e.2.2.1 jJ11_highSurrogate_5068e.2.2.2 ∈ gt_ws := gt_of 369 (by decide +kernel) (by decide +kernel)
theorem ws_J11_highSurrogate_5068e : Cond.static jJ11_highSurrogate_5068e.1 ∈ gt_ws := gt_of 368 (by decide +kernel) (by decide +kernel)
theorem wd_J11_lowSurrogate_5068e : Cond.code jJ11_lowSurrogate_5068e.1 jJ11_lowSurrogate_5068e.2.1 jJ11_lowSurrogate_5068e.2.2.1 jJ11_lowSurrogate_5068e.2.2.2 ∈ gt_ws := gt_of 373 (by decide +kernel) (by decide +kernel)
theorem ws_J11_lowSurrogate_5068e : Cond.static jJ11_lowSurrogate_5068e.1 ∈ gt_ws := gt_of 372 (by decide +kernel) (by decide +kernel)
theorem wd_J9_max_7cf53 : Cond.code jJ9_max_7cf53.1 jJ9_max_7cf53.2.1 jJ9_max_7cf53.2.2.1 jJ9_max_7cf53.2.2.2 ∈ gt_ws := gt_of 333 (by decide +kernel) (by decide +kernel)
theorem ws_J9_max_7cf53 : Cond.static jJ9_max_7cf53.1 ∈ gt_ws := gt_of 332 (by decide +kernel) (by decide +kernel)
theorem wd_J9_min_7cf53 : Cond.code jJ9_min_7cf53.1 jJ9_min_7cf53.2.1 jJ9_min_7cf53.2.2.1 jJ9_min_7cf53.2.2.2 ∈ gt_ws := gt_of 336 (by decide +kernel) (by decide +kernel)
theorem ws_J9_min_7cf53 : Cond.static jJ9_min_7cf53.1 ∈ gt_ws := gt_of 335 (by decide +kernel) (by decide +kernel)
theorem wd_J9_min_f86c9 : Cond.code jJ9_min_f86c9.1 jJ9_min_f86c9.2.1 jJ9_min_f86c9.2.2.1 jJ9_min_f86c9.2.2.2 ∈ gt_ws := gt_of 1189 (by decide +kernel) (by decide +kernel)
theorem ws_J9_min_f86c9 : Cond.static jJ9_min_f86c9.1 ∈ gt_ws := gt_of 1188 (by decide +kernel) (by decide +kernel)
theorem wd_J0_length_8abf5 : Cond.code jJ0_length_8abf5.1 jJ0_length_8abf5.2.1 jJ0_length_8abf5.2.2.1 jJ0_length_8abf5.2.2.2 ∈ gt_ws := gt_of 252 (by decide +kernel) (by decide +kernel)
theorem wm_J0_length_8abf5 : Cond.instanceMethod jJ0_length_8abf5.1 ∈ gt_ws := gt_of 250 (by decide +kernel) (by decide +kernel)
theorem we_J0_length_8abf5 : Cond.selects jJ0_length_8abf5.1.cls jJ0_length_8abf5.1 jJ0_length_8abf5.1 ∈ gt_ws := gt_of 251 (by decide +kernel) (by decide +kernel)
theorem wd_J0_charAt_5068e : Cond.code jJ0_charAt_5068e.1 jJ0_charAt_5068e.2.1 jJ0_charAt_5068e.2.2.1 jJ0_charAt_5068e.2.2.2 ∈ gt_ws := gt_of 262 (by decide +kernel) (by decide +kernel)
theorem wm_J0_charAt_5068e : Cond.instanceMethod jJ0_charAt_5068e.1 ∈ gt_ws := gt_of 260 (by decide +kernel) (by decide +kernel)
theorem we_J0_charAt_5068e : Cond.selects jJ0_charAt_5068e.1.cls jJ0_charAt_5068e.1 jJ0_charAt_5068e.1 ∈ gt_ws := gt_of 261 (by decide +kernel) (by decide +kernel)
theorem wd_J0_indexOf_0f7a4 : Cond.code jJ0_indexOf_0f7a4.1 jJ0_indexOf_0f7a4.2.1 jJ0_indexOf_0f7a4.2.2.1 jJ0_indexOf_0f7a4.2.2.2 ∈ gt_ws := gt_of 319 (by decide +kernel) (by decide +kernel)
theorem wm_J0_indexOf_0f7a4 : Cond.instanceMethod jJ0_indexOf_0f7a4.1 ∈ gt_ws := gt_of 317 (by decide +kernel) (by decide +kernel)
theorem we_J0_indexOf_0f7a4 : Cond.selects jJ0_indexOf_0f7a4.1.cls jJ0_indexOf_0f7a4.1 jJ0_indexOf_0f7a4.1 ∈ gt_ws := gt_of 318 (by decide +kernel) (by decide +kernel)
theorem wd_J0_indexOf_7cf53 : Cond.code jJ0_indexOf_7cf53.1 jJ0_indexOf_7cf53.2.1 jJ0_indexOf_7cf53.2.2.1 jJ0_indexOf_7cf53.2.2.2 ∈ gt_ws := gt_of 323 (by decide +kernel) (by decide +kernel)
theorem wm_J0_indexOf_7cf53 : Cond.instanceMethod jJ0_indexOf_7cf53.1 ∈ gt_ws := gt_of 321 (by decide +kernel) (by decide +kernel)
theorem we_J0_indexOf_7cf53 : Cond.selects jJ0_indexOf_7cf53.1.cls jJ0_indexOf_7cf53.1 jJ0_indexOf_7cf53.1 ∈ gt_ws := gt_of 322 (by decide +kernel) (by decide +kernel)
theorem wd_J0_coder_7d493 : Cond.code jJ0_coder_7d493.1 jJ0_coder_7d493.2.1 jJ0_coder_7d493.2.2.1 jJ0_coder_7d493.2.2.2 ∈ gt_ws := gt_of 256 (by decide +kernel) (by decide +kernel)
theorem wm_J0_coder_7d493 : Cond.instanceMethod jJ0_coder_7d493.1 ∈ gt_ws := gt_of 254 (by decide +kernel) (by decide +kernel)
theorem we_J0_coder_7d493 : Cond.selects jJ0_coder_7d493.1.cls jJ0_coder_7d493.1 jJ0_coder_7d493.1 ∈ gt_ws := gt_of 255 (by decide +kernel) (by decide +kernel)
theorem wd_J0_isLatin1_aae02 : Cond.code jJ0_isLatin1_aae02.1 jJ0_isLatin1_aae02.2.1 jJ0_isLatin1_aae02.2.2.1 jJ0_isLatin1_aae02.2.2.2 ∈ gt_ws := gt_of 266 (by decide +kernel) (by decide +kernel)
theorem wm_J0_isLatin1_aae02 : Cond.instanceMethod jJ0_isLatin1_aae02.1 ∈ gt_ws := gt_of 264 (by decide +kernel) (by decide +kernel)
theorem we_J0_isLatin1_aae02 : Cond.selects jJ0_isLatin1_aae02.1.cls jJ0_isLatin1_aae02.1 jJ0_isLatin1_aae02.1 ∈ gt_ws := gt_of 265 (by decide +kernel) (by decide +kernel)
theorem wd_J0_checkIndex_df160 : Cond.code jJ0_checkIndex_df160.1 jJ0_checkIndex_df160.2.1 jJ0_checkIndex_df160.2.2.1 jJ0_checkIndex_df160.2.2.2 ∈ gt_ws := gt_of 272 (by decide +kernel) (by decide +kernel)
theorem ws_J0_checkIndex_df160 : Cond.static jJ0_checkIndex_df160.1 ∈ gt_ws := gt_of 271 (by decide +kernel) (by decide +kernel)
theorem wd_J0_checkBoundsBeginEnd_23922 : Cond.code jJ0_checkBoundsBeginEnd_23922.1 jJ0_checkBoundsBeginEnd_23922.2.1 jJ0_checkBoundsBeginEnd_23922.2.2.1 jJ0_checkBoundsBeginEnd_23922.2.2.2 ∈ gt_ws := gt_of 354 (by decide +kernel) (by decide +kernel)
theorem ws_J0_checkBoundsBeginEnd_23922 : Cond.static jJ0_checkBoundsBeginEnd_23922.1 ∈ gt_ws := gt_of 353 (by decide +kernel) (by decide +kernel)
theorem wd_J1_charAt_3b067 : Cond.code jJ1_charAt_3b067.1 jJ1_charAt_3b067.2.1 jJ1_charAt_3b067.2.2.1 jJ1_charAt_3b067.2.2.2 ∈ gt_ws := gt_of 269 (by decide +kernel) (by decide +kernel)
theorem ws_J1_charAt_3b067 : Cond.static jJ1_charAt_3b067.1 ∈ gt_ws := gt_of 268 (by decide +kernel) (by decide +kernel)
theorem wd_J1_canEncode_9a6ad : Cond.code jJ1_canEncode_9a6ad.1 jJ1_canEncode_9a6ad.2.1 jJ1_canEncode_9a6ad.2.2.1 jJ1_canEncode_9a6ad.2.2.2 ∈ gt_ws := gt_of 330 (by decide +kernel) (by decide +kernel)
theorem ws_J1_canEncode_9a6ad : Cond.static jJ1_canEncode_9a6ad.1 ∈ gt_ws := gt_of 329 (by decide +kernel) (by decide +kernel)
theorem wd_J1_indexOf_4cfef : Cond.code jJ1_indexOf_4cfef.1 jJ1_indexOf_4cfef.2.1 jJ1_indexOf_4cfef.2.2.1 jJ1_indexOf_4cfef.2.2.2 ∈ gt_ws := gt_of 327 (by decide +kernel) (by decide +kernel)
theorem ws_J1_indexOf_4cfef : Cond.static jJ1_indexOf_4cfef.1 ∈ gt_ws := gt_of 326 (by decide +kernel) (by decide +kernel)
theorem wd_J1_indexOfChar_4cfef : Cond.code jJ1_indexOfChar_4cfef.1 jJ1_indexOfChar_4cfef.2.1 jJ1_indexOfChar_4cfef.2.2.1 jJ1_indexOfChar_4cfef.2.2.2 ∈ gt_ws := gt_of 339 (by decide +kernel) (by decide +kernel)
theorem ws_J1_indexOfChar_4cfef : Cond.static jJ1_indexOfChar_4cfef.1 ∈ gt_ws := gt_of 338 (by decide +kernel) (by decide +kernel)
theorem wd_J2_getChar_3b067 : Cond.code jJ2_getChar_3b067.1 jJ2_getChar_3b067.2.1 jJ2_getChar_3b067.2.2.1 jJ2_getChar_3b067.2.2.2 ∈ gt_ws := gt_of 290 (by decide +kernel) (by decide +kernel)
theorem ws_J2_getChar_3b067 : Cond.static jJ2_getChar_3b067.1 ∈ gt_ws := gt_of 289 (by decide +kernel) (by decide +kernel)
theorem wd_J2_length_9d52b : Cond.code jJ2_length_9d52b.1 jJ2_length_9d52b.2.1 jJ2_length_9d52b.2.2.1 jJ2_length_9d52b.2.2.2 ∈ gt_ws := gt_of 286 (by decide +kernel) (by decide +kernel)
theorem ws_J2_length_9d52b : Cond.static jJ2_length_9d52b.1 ∈ gt_ws := gt_of 285 (by decide +kernel) (by decide +kernel)
theorem wd_J2_indexOf_4cfef : Cond.code jJ2_indexOf_4cfef.1 jJ2_indexOf_4cfef.2.1 jJ2_indexOf_4cfef.2.2.1 jJ2_indexOf_4cfef.2.2.2 ∈ gt_ws := gt_of 342 (by decide +kernel) (by decide +kernel)
theorem ws_J2_indexOf_4cfef : Cond.static jJ2_indexOf_4cfef.1 ∈ gt_ws := gt_of 341 (by decide +kernel) (by decide +kernel)
theorem wd_J2_indexOfChar_4cfef : Cond.code jJ2_indexOfChar_4cfef.1 jJ2_indexOfChar_4cfef.2.1 jJ2_indexOfChar_4cfef.2.2.1 jJ2_indexOfChar_4cfef.2.2.2 ∈ gt_ws := gt_of 348 (by decide +kernel) (by decide +kernel)
theorem ws_J2_indexOfChar_4cfef : Cond.static jJ2_indexOfChar_4cfef.1 ∈ gt_ws := gt_of 347 (by decide +kernel) (by decide +kernel)
theorem wd_J2_indexOfCharUnsafe_4cfef : Cond.code jJ2_indexOfCharUnsafe_4cfef.1 jJ2_indexOfCharUnsafe_4cfef.2.1 jJ2_indexOfCharUnsafe_4cfef.2.2.1 jJ2_indexOfCharUnsafe_4cfef.2.2.2 ∈ gt_ws := gt_of 360 (by decide +kernel) (by decide +kernel)
theorem ws_J2_indexOfCharUnsafe_4cfef : Cond.static jJ2_indexOfCharUnsafe_4cfef.1 ∈ gt_ws := gt_of 359 (by decide +kernel) (by decide +kernel)
theorem wd_J2_indexOfSupplementary_4cfef : Cond.code jJ2_indexOfSupplementary_4cfef.1 jJ2_indexOfSupplementary_4cfef.2.1 jJ2_indexOfSupplementary_4cfef.2.2.1 jJ2_indexOfSupplementary_4cfef.2.2.2 ∈ gt_ws := gt_of 363 (by decide +kernel) (by decide +kernel)
theorem ws_J2_indexOfSupplementary_4cfef : Cond.static jJ2_indexOfSupplementary_4cfef.1 ∈ gt_ws := gt_of 362 (by decide +kernel) (by decide +kernel)
theorem wd_J2_charAt_3b067 : Cond.code jJ2_charAt_3b067.1 jJ2_charAt_3b067.2.1 jJ2_charAt_3b067.2.2.1 jJ2_charAt_3b067.2.2.2 ∈ gt_ws := gt_of 280 (by decide +kernel) (by decide +kernel)
theorem ws_J2_charAt_3b067 : Cond.static jJ2_charAt_3b067.1 ∈ gt_ws := gt_of 279 (by decide +kernel) (by decide +kernel)
theorem wd_J2_checkIndex_2214a : Cond.code jJ2_checkIndex_2214a.1 jJ2_checkIndex_2214a.2.1 jJ2_checkIndex_2214a.2.2.1 jJ2_checkIndex_2214a.2.2.2 ∈ gt_ws := gt_of 283 (by decide +kernel) (by decide +kernel)
theorem ws_J2_checkIndex_2214a : Cond.static jJ2_checkIndex_2214a.1 ∈ gt_ws := gt_of 282 (by decide +kernel) (by decide +kernel)
theorem wd_J2_checkBoundsBeginEnd_d044e : Cond.code jJ2_checkBoundsBeginEnd_d044e.1 jJ2_checkBoundsBeginEnd_d044e.2.1 jJ2_checkBoundsBeginEnd_d044e.2.2.1 jJ2_checkBoundsBeginEnd_d044e.2.2.2 ∈ gt_ws := gt_of 351 (by decide +kernel) (by decide +kernel)
theorem ws_J2_checkBoundsBeginEnd_d044e : Cond.static jJ2_checkBoundsBeginEnd_d044e.1 ∈ gt_ws := gt_of 350 (by decide +kernel) (by decide +kernel)
theorem wd_J3_checkIndex_8e157 : Cond.code jJ3_checkIndex_8e157.1 jJ3_checkIndex_8e157.2.1 jJ3_checkIndex_8e157.2.2.1 jJ3_checkIndex_8e157.2.2.2 ∈ gt_ws := gt_of 277 (by decide +kernel) (by decide +kernel)
theorem ws_J3_checkIndex_8e157 : Cond.static jJ3_checkIndex_8e157.1 ∈ gt_ws := gt_of 276 (by decide +kernel) (by decide +kernel)
theorem wd_J3_checkFromToIndex_8c36e : Cond.code jJ3_checkFromToIndex_8c36e.1 jJ3_checkFromToIndex_8c36e.2.1 jJ3_checkFromToIndex_8c36e.2.2.1 jJ3_checkFromToIndex_8c36e.2.2.2 ∈ gt_ws := gt_of 357 (by decide +kernel) (by decide +kernel)
theorem ws_J3_checkFromToIndex_8c36e : Cond.static jJ3_checkFromToIndex_8c36e.1 ∈ gt_ws := gt_of 356 (by decide +kernel) (by decide +kernel)
theorem lo_X0_1 : Cond.methodLink RX0 1 objectInit ∈ gt_ws := gt_of 106 (by decide +kernel) (by decide +kernel)
theorem wf_X0_13 : Cond.fieldLink RX0 13 (TX0 0).1 (TX0 0).2.1 (TX0 0).2.2.1 ∈ gt_ws := gt_of 109 (by decide +kernel) (by decide +kernel)
theorem wf_X0_18 : Cond.fieldLink RX0 18 (TX0 1).1 (TX0 1).2.1 (TX0 1).2.2.1 ∈ gt_ws := gt_of 110 (by decide +kernel) (by decide +kernel)
theorem wf_X0_21 : Cond.fieldLink RX0 21 (TX0 2).1 (TX0 2).2.1 (TX0 2).2.2.1 ∈ gt_ws := gt_of 111 (by decide +kernel) (by decide +kernel)
theorem lk_X0_25 : lk_V RX0 25 jX0_tryWorth 4 := ⟨⟨gt_of 681 (by decide +kernel) (by decide +kernel), wd_X0_tryWorth, wn_X0, by decide +kernel, by decide⟩, wm_X0_tryWorth, we_X0_tryWorth⟩
theorem wc_X0_30 : Cond.classLink RX0 30 "[I" ∈ gt_ws := gt_of 691 (by decide +kernel) (by decide +kernel)
theorem lk_X0_37 : lk_S RX0 37 jJ9_min_7cf53 2 := ⟨⟨gt_of 694 (by decide +kernel) (by decide +kernel), wd_J9_min_7cf53, wn_J9, by decide +kernel, by decide⟩, ws_J9_min_7cf53⟩
theorem lk_X0_43 : lk_S RX0 43 jJ9_max_7cf53 2 := ⟨⟨gt_of 695 (by decide +kernel) (by decide +kernel), wd_J9_max_7cf53, wn_J9, by decide +kernel, by decide⟩, ws_J9_max_7cf53⟩
theorem lo_X1_3 : Cond.methodLink RX1 3 objectInit ∈ gt_ws := gt_of 402 (by decide +kernel) (by decide +kernel)
theorem wc_X1_9 : Cond.classLink RX1 9 RX8 ∈ gt_ws := gt_of 403 (by decide +kernel) (by decide +kernel)
theorem wf_X1_11 : Cond.fieldLink RX1 11 (TX1 1).1 (TX1 1).2.1 (TX1 1).2.2.1 ∈ gt_ws := gt_of 408 (by decide +kernel) (by decide +kernel)
theorem wc_X1_17 : Cond.classLink RX1 17 RX7 ∈ gt_ws := gt_of 405 (by decide +kernel) (by decide +kernel)
theorem wf_X1_19 : Cond.fieldLink RX1 19 (TX1 2).1 (TX1 2).2.1 (TX1 2).2.2.1 ∈ gt_ws := gt_of 410 (by decide +kernel) (by decide +kernel)
theorem wf_X1_23 : Cond.fieldLink RX1 23 (TX1 0).1 (TX1 0).2.1 (TX1 0).2.2.1 ∈ gt_ws := gt_of 407 (by decide +kernel) (by decide +kernel)
theorem wf_X1_27 : Cond.fieldLink RX1 27 (TX2 1).1 (TX2 1).2.1 (TX2 1).2.2.1 ∈ gt_ws := gt_of 614 (by decide +kernel) (by decide +kernel)
theorem lk_X1_30 : lk_V RX1 30 jX8_holds 1 := ⟨⟨gt_of 655 (by decide +kernel) (by decide +kernel), wd_X8_holds, wn_X8, by decide +kernel, by decide⟩, wm_X8_holds, we_X8_holds⟩
theorem lk_X1_34 : lk_V RX1 34 jX7_amount 1 := ⟨⟨gt_of 667 (by decide +kernel) (by decide +kernel), wd_X7_amount, wn_X7, by decide +kernel, by decide⟩, wm_X7_amount, we_X7_amount⟩
theorem lk_X1_38 : lk_S RX1 38 jJ9_min_7cf53 2 := ⟨⟨gt_of 672 (by decide +kernel) (by decide +kernel), wd_J9_min_7cf53, wn_J9, by decide +kernel, by decide⟩, ws_J9_min_7cf53⟩
theorem lo_X2_3 : Cond.methodLink RX2 3 objectInit ∈ gt_ws := gt_of 610 (by decide +kernel) (by decide +kernel)
theorem wf_X2_9 : Cond.fieldLink RX2 9 (TX2 5).1 (TX2 5).2.1 (TX2 5).2.2.1 ∈ gt_ws := gt_of 621 (by decide +kernel) (by decide +kernel)
theorem wf_X2_15 : Cond.fieldLink RX2 15 (TX2 6).1 (TX2 6).2.1 (TX2 6).2.2.1 ∈ gt_ws := gt_of 623 (by decide +kernel) (by decide +kernel)
theorem wf_X2_18 : Cond.fieldLink RX2 18 (TX2 7).1 (TX2 7).2.1 (TX2 7).2.2.1 ∈ gt_ws := gt_of 625 (by decide +kernel) (by decide +kernel)
theorem wf_X2_21 : Cond.fieldLink RX2 21 (TX2 8).1 (TX2 8).2.1 (TX2 8).2.2.1 ∈ gt_ws := gt_of 627 (by decide +kernel) (by decide +kernel)
theorem wf_X2_25 : Cond.fieldLink RX2 25 (TX2 0).1 (TX2 0).2.1 (TX2 0).2.2.1 ∈ gt_ws := gt_of 611 (by decide +kernel) (by decide +kernel)
theorem wf_X2_28 : Cond.fieldLink RX2 28 (TX2 1).1 (TX2 1).2.1 (TX2 1).2.2.1 ∈ gt_ws := gt_of 613 (by decide +kernel) (by decide +kernel)
theorem wf_X2_31 : Cond.fieldLink RX2 31 (TX2 2).1 (TX2 2).2.1 (TX2 2).2.2.1 ∈ gt_ws := gt_of 616 (by decide +kernel) (by decide +kernel)
theorem wf_X2_34 : Cond.fieldLink RX2 34 (TX2 3).1 (TX2 3).2.1 (TX2 3).2.2.1 ∈ gt_ws := gt_of 618 (by decide +kernel) (by decide +kernel)
theorem wf_X2_37 : Cond.fieldLink RX2 37 (TX2 4).1 (TX2 4).2.1 (TX2 4).2.2.1 ∈ gt_ws := gt_of 620 (by decide +kernel) (by decide +kernel)
theorem lk_X2_43 : lk_V RX2 43 jX2_stampsOf 1 := ⟨⟨gt_of 718 (by decide +kernel) (by decide +kernel), wd_X2_stampsOf, wn_X2, by decide +kernel, by decide⟩, wm_X2_stampsOf, we_X2_stampsOf⟩
theorem lo_X3_3 : Cond.methodLink RX3 3 objectInit ∈ gt_ws := gt_of 171 (by decide +kernel) (by decide +kernel)
theorem wf_X3_13 : Cond.fieldLink RX3 13 (TX3 2).1 (TX3 2).2.1 (TX3 2).2.2.1 ∈ gt_ws := gt_of 176 (by decide +kernel) (by decide +kernel)
theorem wf_X3_18 : Cond.fieldLink RX3 18 (TX3 3).1 (TX3 3).2.1 (TX3 3).2.2.1 ∈ gt_ws := gt_of 178 (by decide +kernel) (by decide +kernel)
theorem wf_X3_21 : Cond.fieldLink RX3 21 (TX3 4).1 (TX3 4).2.1 (TX3 4).2.2.1 ∈ gt_ws := gt_of 179 (by decide +kernel) (by decide +kernel)
theorem wf_X3_25 : Cond.fieldLink RX3 25 (TX3 5).1 (TX3 5).2.1 (TX3 5).2.2.1 ∈ gt_ws := gt_of 180 (by decide +kernel) (by decide +kernel)
theorem wf_X3_29 : Cond.fieldLink RX3 29 (TX3 6).1 (TX3 6).2.1 (TX3 6).2.2.1 ∈ gt_ws := gt_of 181 (by decide +kernel) (by decide +kernel)
theorem wf_X3_32 : Cond.fieldLink RX3 32 (TX3 7).1 (TX3 7).2.1 (TX3 7).2.2.1 ∈ gt_ws := gt_of 183 (by decide +kernel) (by decide +kernel)
theorem wf_X3_35 : Cond.fieldLink RX3 35 (TX3 0).1 (TX3 0).2.1 (TX3 0).2.2.1 ∈ gt_ws := gt_of 173 (by decide +kernel) (by decide +kernel)
theorem wf_X3_38 : Cond.fieldLink RX3 38 (TX3 1).1 (TX3 1).2.1 (TX3 1).2.2.1 ∈ gt_ws := gt_of 175 (by decide +kernel) (by decide +kernel)
theorem lk_X3_41 : lk_V RX3 41 jX3_wasSent 1 := ⟨⟨gt_of 520 (by decide +kernel) (by decide +kernel), wd_X3_wasSent, wn_X3, by decide +kernel, by decide⟩, wm_X3_wasSent, we_X3_wasSent⟩
theorem lk_X3_45 : lk_V RX3 45 jX3_askDay 2 := ⟨⟨gt_of 537 (by decide +kernel) (by decide +kernel), wd_X3_askDay, wn_X3, by decide +kernel, by decide⟩, wm_X3_askDay, we_X3_askDay⟩
theorem lk_X3_49 : lk_V RX3 49 jX3_comeDay 2 := ⟨⟨gt_of 533 (by decide +kernel) (by decide +kernel), wd_X3_comeDay, wn_X3, by decide +kernel, by decide⟩, wm_X3_comeDay, we_X3_comeDay⟩
theorem lk_X3_52 : lk_V RX3 52 jX3_accountsSent 1 := ⟨⟨gt_of 559 (by decide +kernel) (by decide +kernel), wd_X3_accountsSent, wn_X3, by decide +kernel, by decide⟩, wm_X3_accountsSent, we_X3_accountsSent⟩
theorem lk_X3_56 : lk_V RX3 56 jX3_accountsCome 1 := ⟨⟨gt_of 566 (by decide +kernel) (by decide +kernel), wd_X3_accountsCome, wn_X3, by decide +kernel, by decide⟩, wm_X3_accountsCome, we_X3_accountsCome⟩
theorem lk_X3_59 : lk_V RX3 59 jX3_isOut 2 := ⟨⟨gt_of 571 (by decide +kernel) (by decide +kernel), wd_X3_isOut, wn_X3, by decide +kernel, by decide⟩, wm_X3_isOut, we_X3_isOut⟩
theorem lk_X3_63 : lk_V RX3 63 jX3_isAskOut 2 := ⟨⟨gt_of 575 (by decide +kernel) (by decide +kernel), wd_X3_isAskOut, wn_X3, by decide +kernel, by decide⟩, wm_X3_isAskOut, we_X3_isAskOut⟩
theorem lk_X3_69 : lk_S RX3 69 jJ9_max_7cf53 2 := ⟨⟨gt_of 570 (by decide +kernel) (by decide +kernel), wd_J9_max_7cf53, wn_J9, by decide +kernel, by decide⟩, ws_J9_max_7cf53⟩
theorem lk_X3_74 : lk_V RX3 74 jX3_addStamps 2 := ⟨⟨gt_of 704 (by decide +kernel) (by decide +kernel), wd_X3_addStamps, wn_X3, by decide +kernel, by decide⟩, wm_X3_addStamps, we_X3_addStamps⟩
theorem lo_X4_3 : Cond.methodLink RX4 3 objectInit ∈ gt_ws := gt_of 79 (by decide +kernel) (by decide +kernel)
theorem wf_X4_9 : Cond.fieldLink RX4 9 (TX4 0).1 (TX4 0).2.1 (TX4 0).2.2.1 ∈ gt_ws := gt_of 80 (by decide +kernel) (by decide +kernel)
theorem wf_X4_15 : Cond.fieldLink RX4 15 (TX4 1).1 (TX4 1).2.1 (TX4 1).2.2.1 ∈ gt_ws := gt_of 82 (by decide +kernel) (by decide +kernel)
theorem wf_X4_18 : Cond.fieldLink RX4 18 (TX4 3).1 (TX4 3).2.1 (TX4 3).2.2.1 ∈ gt_ws := gt_of 85 (by decide +kernel) (by decide +kernel)
theorem wf_X4_21 : Cond.fieldLink RX4 21 (TX4 4).1 (TX4 4).2.1 (TX4 4).2.2.1 ∈ gt_ws := gt_of 86 (by decide +kernel) (by decide +kernel)
theorem wf_X4_24 : Cond.fieldLink RX4 24 (TX4 5).1 (TX4 5).2.1 (TX4 5).2.2.1 ∈ gt_ws := gt_of 87 (by decide +kernel) (by decide +kernel)
theorem wf_X4_27 : Cond.fieldLink RX4 27 (TX4 2).1 (TX4 2).2.1 (TX4 2).2.2.1 ∈ gt_ws := gt_of 84 (by decide +kernel) (by decide +kernel)
theorem lk_X4_31 : lk_V RX4 31 jX4_skip 1 := ⟨⟨gt_of 380 (by decide +kernel) (by decide +kernel), wd_X4_skip, wn_X4, by decide +kernel, by decide⟩, wm_X4_skip, we_X4_skip⟩
theorem wc_X4_35 : Cond.classLink RX4 35 RX1 ∈ gt_ws := gt_of 384 (by decide +kernel) (by decide +kernel)
theorem lk_X4_37 : lk_V RX4 37 jX4_readLine 1 := ⟨⟨gt_of 386 (by decide +kernel) (by decide +kernel), wd_X4_readLine, wn_X4, by decide +kernel, by decide⟩, wm_X4_readLine, we_X4_readLine⟩
theorem lk_X4_41 : lk_V RX4 41 jX4_blame 1 := ⟨⟨gt_of 390 (by decide +kernel) (by decide +kernel), wd_X4_blame, wn_X4, by decide +kernel, by decide⟩, wm_X4_blame, we_X4_blame⟩
theorem lk_X4_45 : lk_V RX4 45 jX4_need 1 := ⟨⟨gt_of 394 (by decide +kernel) (by decide +kernel), wd_X4_need, wn_X4, by decide +kernel, by decide⟩, wm_X4_need, we_X4_need⟩
theorem lk_X4_49 : lk_I RX4 49 jX1_init 1 := ⟨⟨gt_of 399 (by decide +kernel) (by decide +kernel), wd_X1_init, wn_X1, by decide +kernel, by decide⟩, by decide, wm_X1_init⟩
theorem lk_X4_51 : lk_V RX4 51 jX4_readTests 1 := ⟨⟨gt_of 420 (by decide +kernel) (by decide +kernel), wd_X4_readTests, wn_X4, by decide +kernel, by decide⟩, wm_X4_readTests, we_X4_readTests⟩
theorem lk_X4_55 : lk_V RX4 55 jX4_readTerms 1 := ⟨⟨gt_of 451 (by decide +kernel) (by decide +kernel), wd_X4_readTerms, wn_X4, by decide +kernel, by decide⟩, wm_X4_readTerms, we_X4_readTerms⟩
theorem lk_X4_58 : lk_V RX4 58 jX4_readTest 1 := ⟨⟨gt_of 424 (by decide +kernel) (by decide +kernel), wd_X4_readTest, wn_X4, by decide +kernel, by decide⟩, wm_X4_readTest, we_X4_readTest⟩
theorem wf_X4_62 : Cond.fieldLink RX4 62 (TX1 1).1 (TX1 1).2.1 (TX1 1).2.2.1 ∈ gt_ws := gt_of 409 (by decide +kernel) (by decide +kernel)
theorem lk_X4_66 : lk_S RX4 66 jX4_isName 1 := ⟨⟨gt_of 428 (by decide +kernel) (by decide +kernel), wd_X4_isName, wn_X4, by decide +kernel, by decide⟩, ws_X4_isName⟩
theorem lk_X4_69 : lk_V RX4 69 jX4_needName 0 := ⟨⟨gt_of 431 (by decide +kernel) (by decide +kernel), wd_X4_needName, wn_X4, by decide +kernel, by decide⟩, wm_X4_needName, we_X4_needName⟩
theorem wc_X4_73 : Cond.classLink RX4 73 RX8 ∈ gt_ws := gt_of 435 (by decide +kernel) (by decide +kernel)
theorem lk_X4_75 : lk_I RX4 75 jX8_init 3 := ⟨⟨gt_of 437 (by decide +kernel) (by decide +kernel), wd_X8_init, wn_X8, by decide +kernel, by decide⟩, by decide, wm_X8_init⟩
theorem lk_X4_78 : lk_V RX4 78 jX4_readTerm 1 := ⟨⟨gt_of 455 (by decide +kernel) (by decide +kernel), wd_X4_readTerm, wn_X4, by decide +kernel, by decide⟩, wm_X4_readTerm, we_X4_readTerm⟩
theorem wf_X4_82 : Cond.fieldLink RX4 82 (TX1 2).1 (TX1 2).2.1 (TX1 2).2.2.1 ∈ gt_ws := gt_of 411 (by decide +kernel) (by decide +kernel)
theorem wc_X4_86 : Cond.classLink RX4 86 RX7 ∈ gt_ws := gt_of 459 (by decide +kernel) (by decide +kernel)
theorem lk_X4_88 : lk_I RX4 88 jX7_init 3 := ⟨⟨gt_of 461 (by decide +kernel) (by decide +kernel), wd_X7_init, wn_X7, by decide +kernel, by decide⟩, by decide, wm_X7_init⟩
theorem wf_X4_89 : Cond.fieldLink RX4 89 (TX9 0).1 (TX9 0).2.1 (TX9 0).2.2.1 ∈ gt_ws := gt_of 59 (by decide +kernel) (by decide +kernel)
theorem wf_X4_95 : Cond.fieldLink RX4 95 (TX9 1).1 (TX9 1).2.1 (TX9 1).2.2.1 ∈ gt_ws := gt_of 61 (by decide +kernel) (by decide +kernel)
theorem wf_X4_98 : Cond.fieldLink RX4 98 (TX9 2).1 (TX9 2).2.1 (TX9 2).2.2.1 ∈ gt_ws := gt_of 63 (by decide +kernel) (by decide +kernel)
theorem lo_X5_3 : Cond.methodLink RX5 3 objectInit ∈ gt_ws := gt_of 42 (by decide +kernel) (by decide +kernel)
theorem wf_X5_9 : Cond.fieldLink RX5 9 (TX5 0).1 (TX5 0).2.1 (TX5 0).2.2.1 ∈ gt_ws := gt_of 43 (by decide +kernel) (by decide +kernel)
theorem wf_X5_15 : Cond.fieldLink RX5 15 (TX5 1).1 (TX5 1).2.1 (TX5 1).2.2.1 ∈ gt_ws := gt_of 44 (by decide +kernel) (by decide +kernel)
theorem lo_X6_3 : Cond.methodLink RX6 3 objectInit ∈ gt_ws := gt_of 483 (by decide +kernel) (by decide +kernel)
theorem wf_X6_9 : Cond.fieldLink RX6 9 (TX6 0).1 (TX6 0).2.1 (TX6 0).2.2.1 ∈ gt_ws := gt_of 484 (by decide +kernel) (by decide +kernel)
theorem wf_X6_15 : Cond.fieldLink RX6 15 (TX6 1).1 (TX6 1).2.1 (TX6 1).2.2.1 ∈ gt_ws := gt_of 486 (by decide +kernel) (by decide +kernel)
theorem lk_X6_19 : lk_V RX6 19 jX1_fits 1 := ⟨⟨gt_of 651 (by decide +kernel) (by decide +kernel), wd_X1_fits, wn_X1, by decide +kernel, by decide⟩, wm_X1_fits, we_X1_fits⟩
theorem lk_X6_25 : lk_V RX6 25 jX1_total 1 := ⟨⟨gt_of 663 (by decide +kernel) (by decide +kernel), wd_X1_total, wn_X1, by decide +kernel, by decide⟩, wm_X1_total, we_X1_total⟩
theorem lo_X7_1 : Cond.methodLink RX7 1 objectInit ∈ gt_ws := gt_of 464 (by decide +kernel) (by decide +kernel)
theorem wf_X7_7 : Cond.fieldLink RX7 7 (TX7 0).1 (TX7 0).2.1 (TX7 0).2.2.1 ∈ gt_ws := gt_of 465 (by decide +kernel) (by decide +kernel)
theorem wf_X7_13 : Cond.fieldLink RX7 13 (TX7 1).1 (TX7 1).2.1 (TX7 1).2.2.1 ∈ gt_ws := gt_of 466 (by decide +kernel) (by decide +kernel)
theorem wf_X7_16 : Cond.fieldLink RX7 16 (TX7 2).1 (TX7 2).2.1 (TX7 2).2.2.1 ∈ gt_ws := gt_of 467 (by decide +kernel) (by decide +kernel)
theorem lk_X7_19 : lk_V RX7 19 jX2_measure 1 := ⟨⟨gt_of 671 (by decide +kernel) (by decide +kernel), wd_X2_measure, wn_X2, by decide +kernel, by decide⟩, wm_X2_measure, we_X2_measure⟩
theorem lo_X8_1 : Cond.methodLink RX8 1 objectInit ∈ gt_ws := gt_of 440 (by decide +kernel) (by decide +kernel)
theorem wf_X8_7 : Cond.fieldLink RX8 7 (TX8 0).1 (TX8 0).2.1 (TX8 0).2.2.1 ∈ gt_ws := gt_of 441 (by decide +kernel) (by decide +kernel)
theorem wf_X8_13 : Cond.fieldLink RX8 13 (TX8 1).1 (TX8 1).2.1 (TX8 1).2.2.1 ∈ gt_ws := gt_of 442 (by decide +kernel) (by decide +kernel)
theorem wf_X8_16 : Cond.fieldLink RX8 16 (TX8 2).1 (TX8 2).2.1 (TX8 2).2.2.1 ∈ gt_ws := gt_of 443 (by decide +kernel) (by decide +kernel)
theorem lk_X8_19 : lk_V RX8 19 jX2_measure 1 := ⟨⟨gt_of 659 (by decide +kernel) (by decide +kernel), wd_X2_measure, wn_X2, by decide +kernel, by decide⟩, wm_X2_measure, we_X2_measure⟩
theorem lo_X9_3 : Cond.methodLink RX9 3 objectInit ∈ gt_ws := gt_of 57 (by decide +kernel) (by decide +kernel)
theorem wf_X9_9 : Cond.fieldLink RX9 9 (TX9 0).1 (TX9 0).2.1 (TX9 0).2.2.1 ∈ gt_ws := gt_of 58 (by decide +kernel) (by decide +kernel)
theorem wf_X9_15 : Cond.fieldLink RX9 15 (TX9 1).1 (TX9 1).2.1 (TX9 1).2.2.1 ∈ gt_ws := gt_of 60 (by decide +kernel) (by decide +kernel)
theorem wf_X9_18 : Cond.fieldLink RX9 18 (TX9 2).1 (TX9 2).2.1 (TX9 2).2.2.1 ∈ gt_ws := gt_of 62 (by decide +kernel) (by decide +kernel)
theorem wf_X9_21 : Cond.fieldLink RX9 21 (TX9 3).1 (TX9 3).2.1 (TX9 3).2.2.1 ∈ gt_ws := gt_of 64 (by decide +kernel) (by decide +kernel)
theorem lk_X9_25 : lk_V RX9 25 jX9_cutOne 3 := ⟨⟨gt_of 227 (by decide +kernel) (by decide +kernel), wd_X9_cutOne, wn_X9, by decide +kernel, by decide⟩, wm_X9_cutOne, we_X9_cutOne⟩
theorem lk_X9_29 : lk_S RX9 29 jJ9_max_7cf53 2 := ⟨⟨gt_of 375 (by decide +kernel) (by decide +kernel), wd_J9_max_7cf53, wn_J9, by decide +kernel, by decide⟩, ws_J9_max_7cf53⟩
theorem lk_X9_35 : lk_V RX9 35 jX9_put 3 := ⟨⟨gt_of 304 (by decide +kernel) (by decide +kernel), wd_X9_put, wn_X9, by decide +kernel, by decide⟩, wm_X9_put, we_X9_put⟩
theorem lk_X9_39 : lk_V RX9 39 jX5_at 1 := ⟨⟨gt_of 231 (by decide +kernel) (by decide +kernel), wd_X5_at, wn_X5, by decide +kernel, by decide⟩, wm_X5_at, we_X5_at⟩
theorem lk_X9_45 : lk_S RX9 45 jX9_isLetter 1 := ⟨⟨gt_of 235 (by decide +kernel) (by decide +kernel), wd_X9_isLetter, wn_X9, by decide +kernel, by decide⟩, ws_X9_isLetter⟩
theorem lk_X9_49 : lk_V RX9 49 jX9_cutWord 3 := ⟨⟨gt_of 238 (by decide +kernel) (by decide +kernel), wd_X9_cutWord, wn_X9, by decide +kernel, by decide⟩, wm_X9_cutWord, we_X9_cutWord⟩
theorem lk_X9_52 : lk_S RX9 52 jX9_isDigit 1 := ⟨⟨gt_of 308 (by decide +kernel) (by decide +kernel), wd_X9_isDigit, wn_X9, by decide +kernel, by decide⟩, ws_X9_isDigit⟩
theorem lk_X9_55 : lk_V RX9 55 jX9_cutNumber 3 := ⟨⟨gt_of 311 (by decide +kernel) (by decide +kernel), wd_X9_cutNumber, wn_X9, by decide +kernel, by decide⟩, wm_X9_cutNumber, we_X9_cutNumber⟩
theorem lk_X9_60 : lk_V RX9 60 jJ0_indexOf_0f7a4 1 := ⟨⟨gt_of 316 (by decide +kernel) (by decide +kernel), wd_J0_indexOf_0f7a4, wn_J0, by decide +kernel, by decide⟩, wm_J0_indexOf_0f7a4, we_J0_indexOf_0f7a4⟩
theorem lk_X9_65 : lk_S RX9 65 jX9_wordKind 3 := ⟨⟨gt_of 242 (by decide +kernel) (by decide +kernel), wd_X9_wordKind, wn_X9, by decide +kernel, by decide⟩, ws_X9_wordKind⟩
theorem lk_X9_70 : lk_S RX9 70 jX9_isWord 4 := ⟨⟨gt_of 246 (by decide +kernel) (by decide +kernel), wd_X9_isWord, wn_X9, by decide +kernel, by decide⟩, ws_X9_isWord⟩
theorem lk_X9_88 : lk_V RX9 88 jJ0_length_8abf5 0 := ⟨⟨gt_of 249 (by decide +kernel) (by decide +kernel), wd_J0_length_8abf5, wn_J0, by decide +kernel, by decide⟩, wm_J0_length_8abf5, we_J0_length_8abf5⟩
theorem lk_X9_92 : lk_V RX9 92 jJ0_charAt_5068e 1 := ⟨⟨gt_of 259 (by decide +kernel) (by decide +kernel), wd_J0_charAt_5068e, wn_J0, by decide +kernel, by decide⟩, wm_J0_charAt_5068e, we_J0_charAt_5068e⟩
theorem lo_X10_1 : Cond.methodLink RX10 1 objectInit ∈ gt_ws := gt_of 28 (by decide +kernel) (by decide +kernel)
theorem wc_X10_9 : Cond.classLink RX10 9 RX3 ∈ gt_ws := gt_of 31 (by decide +kernel) (by decide +kernel)
theorem wf_X10_11 : Cond.fieldLink RX10 11 (TX10 0).1 (TX10 0).2.1 (TX10 0).2.2.1 ∈ gt_ws := gt_of 119 (by decide +kernel) (by decide +kernel)
theorem wc_X10_15 : Cond.classLink RX10 15 RX6 ∈ gt_ws := gt_of 33 (by decide +kernel) (by decide +kernel)
theorem wf_X10_17 : Cond.fieldLink RX10 17 (TX10 1).1 (TX10 1).2.1 (TX10 1).2.2.1 ∈ gt_ws := gt_of 120 (by decide +kernel) (by decide +kernel)
theorem wc_X10_21 : Cond.classLink RX10 21 RX2 ∈ gt_ws := gt_of 35 (by decide +kernel) (by decide +kernel)
theorem wf_X10_23 : Cond.fieldLink RX10 23 (TX10 2).1 (TX10 2).2.1 (TX10 2).2.2.1 ∈ gt_ws := gt_of 121 (by decide +kernel) (by decide +kernel)
theorem wc_X10_27 : Cond.classLink RX10 27 RX5 ∈ gt_ws := gt_of 37 (by decide +kernel) (by decide +kernel)
theorem wf_X10_30 : Cond.fieldLink RX10 30 (TX10 3).1 (TX10 3).2.1 (TX10 3).2.2.1 ∈ gt_ws := gt_of 122 (by decide +kernel) (by decide +kernel)
theorem wc_X10_34 : Cond.classLink RX10 34 RX9 ∈ gt_ws := gt_of 52 (by decide +kernel) (by decide +kernel)
theorem wf_X10_37 : Cond.fieldLink RX10 37 (TX10 4).1 (TX10 4).2.1 (TX10 4).2.2.1 ∈ gt_ws := gt_of 123 (by decide +kernel) (by decide +kernel)
theorem wc_X10_41 : Cond.classLink RX10 41 RX4 ∈ gt_ws := gt_of 74 (by decide +kernel) (by decide +kernel)
theorem lk_X10_43 : lk_I RX10 43 jX4_init 1 := ⟨⟨gt_of 76 (by decide +kernel) (by decide +kernel), wd_X4_init, wn_X4, by decide +kernel, by decide⟩, by decide, wm_X4_init⟩
theorem wf_X10_46 : Cond.fieldLink RX10 46 (TX10 5).1 (TX10 5).2.1 (TX10 5).2.2.1 ∈ gt_ws := gt_of 124 (by decide +kernel) (by decide +kernel)
theorem wc_X10_50 : Cond.classLink RX10 50 RX0 ∈ gt_ws := gt_of 101 (by decide +kernel) (by decide +kernel)
theorem wf_X10_53 : Cond.fieldLink RX10 53 (TX10 6).1 (TX10 6).2.1 (TX10 6).2.2.1 ∈ gt_ws := gt_of 125 (by decide +kernel) (by decide +kernel)
theorem wf_X10_57 : Cond.fieldLink RX10 57 (TX10 7).1 (TX10 7).2.1 (TX10 7).2.2.1 ∈ gt_ws := gt_of 126 (by decide +kernel) (by decide +kernel)
theorem wf_X10_61 : Cond.fieldLink RX10 61 (TX10 8).1 (TX10 8).2.1 (TX10 8).2.2.1 ∈ gt_ws := gt_of 127 (by decide +kernel) (by decide +kernel)
theorem wf_X10_64 : Cond.fieldLink RX10 64 (TX10 9).1 (TX10 9).2.1 (TX10 9).2.2.1 ∈ gt_ws := gt_of 128 (by decide +kernel) (by decide +kernel)
theorem wf_X10_67 : Cond.fieldLink RX10 67 (TX10 10).1 (TX10 10).2.1 (TX10 10).2.2.1 ∈ gt_ws := gt_of 129 (by decide +kernel) (by decide +kernel)
theorem wf_X10_70 : Cond.fieldLink RX10 70 (TX10 11).1 (TX10 11).2.1 (TX10 11).2.2.1 ∈ gt_ws := gt_of 130 (by decide +kernel) (by decide +kernel)
theorem wf_X10_73 : Cond.fieldLink RX10 73 (TX10 12).1 (TX10 12).2.1 (TX10 12).2.2.1 ∈ gt_ws := gt_of 131 (by decide +kernel) (by decide +kernel)
theorem lk_X10_76 : lk_V RX10 76 jX10_refuse 1 := ⟨⟨gt_of 163 (by decide +kernel) (by decide +kernel), wd_X10_refuse, wn_X10, by decide +kernel, by decide⟩, wm_X10_refuse, we_X10_refuse⟩
theorem lk_X10_80 : lk_I RX10 80 jX3_init 2 := ⟨⟨gt_of 168 (by decide +kernel) (by decide +kernel), wd_X3_init, wn_X3, by decide +kernel, by decide⟩, by decide, wm_X3_init⟩
theorem lk_X10_83 : lk_V RX10 83 jX3_send 1 := ⟨⟨gt_of 203 (by decide +kernel) (by decide +kernel), wd_X3_send, wn_X3, by decide +kernel, by decide⟩, wm_X3_send, we_X3_send⟩
theorem lk_X10_87 : lk_V RX10 87 jX10_accept 1 := ⟨⟨gt_of 207 (by decide +kernel) (by decide +kernel), wd_X10_accept, wn_X10, by decide +kernel, by decide⟩, wm_X10_accept, we_X10_accept⟩
theorem wf_X10_90 : Cond.fieldLink RX10 90 (TX5 1).1 (TX5 1).2.1 (TX5 1).2.2.1 ∈ gt_ws := gt_of 45 (by decide +kernel) (by decide +kernel)
theorem lk_X10_93 : lk_V RX10 93 jX5_add 1 := ⟨⟨gt_of 215 (by decide +kernel) (by decide +kernel), wd_X5_add, wn_X5, by decide +kernel, by decide⟩, wm_X5_add, we_X5_add⟩
theorem lk_X10_96 : lk_V RX10 96 jX9_cut 2 := ⟨⟨gt_of 223 (by decide +kernel) (by decide +kernel), wd_X9_cut, wn_X9, by decide +kernel, by decide⟩, wm_X9_cut, we_X9_cut⟩
theorem lk_X10_100 : lk_V RX10 100 jX4_read 0 := ⟨⟨gt_of 376 (by decide +kernel) (by decide +kernel), wd_X4_read, wn_X4, by decide +kernel, by decide⟩, wm_X4_read, we_X4_read⟩
theorem lk_X10_104 : lk_V RX10 104 jX5_clear 0 := ⟨⟨gt_of 475 (by decide +kernel) (by decide +kernel), wd_X5_clear, wn_X5, by decide +kernel, by decide⟩, wm_X5_clear, we_X5_clear⟩
theorem wf_X10_107 : Cond.fieldLink RX10 107 (TX4 0).1 (TX4 0).2.1 (TX4 0).2.2.1 ∈ gt_ws := gt_of 81 (by decide +kernel) (by decide +kernel)
theorem lk_X10_110 : lk_I RX10 110 jX6_init 2 := ⟨⟨gt_of 480 (by decide +kernel) (by decide +kernel), wd_X6_init, wn_X6, by decide +kernel, by decide⟩, by decide, wm_X6_init⟩
theorem lk_X10_113 : lk_V RX10 113 jX10_sendOut 0 := ⟨⟨gt_of 492 (by decide +kernel) (by decide +kernel), wd_X10_sendOut, wn_X10, by decide +kernel, by decide⟩, wm_X10_sendOut, we_X10_sendOut⟩
theorem wf_X10_116 : Cond.fieldLink RX10 116 (TX4 1).1 (TX4 1).2.1 (TX4 1).2.2.1 ∈ gt_ws := gt_of 83 (by decide +kernel) (by decide +kernel)
theorem lk_X10_119 : lk_V RX10 119 jX10_portAt 1 := ⟨⟨gt_of 496 (by decide +kernel) (by decide +kernel), wd_X10_portAt, wn_X10, by decide +kernel, by decide⟩, wm_X10_portAt, we_X10_portAt⟩
theorem lk_X10_123 : lk_V RX10 123 jX3_wasSent 1 := ⟨⟨gt_of 512 (by decide +kernel) (by decide +kernel), wd_X3_wasSent, wn_X3, by decide +kernel, by decide⟩, wm_X3_wasSent, we_X3_wasSent⟩
theorem lk_X10_127 : lk_V RX10 127 jX3_lose 2 := ⟨⟨gt_of 516 (by decide +kernel) (by decide +kernel), wd_X3_lose, wn_X3, by decide +kernel, by decide⟩, wm_X3_lose, we_X3_lose⟩
theorem lk_X10_131 : lk_V RX10 131 jX3_inForce 1 := ⟨⟨gt_of 529 (by decide +kernel) (by decide +kernel), wd_X3_inForce, wn_X3, by decide +kernel, by decide⟩, wm_X3_inForce, we_X3_inForce⟩
theorem lk_X10_134 : lk_V RX10 134 jX3_comeDay 2 := ⟨⟨gt_of 545 (by decide +kernel) (by decide +kernel), wd_X3_comeDay, wn_X3, by decide +kernel, by decide⟩, wm_X3_comeDay, we_X3_comeDay⟩
theorem lk_X10_138 : lk_V RX10 138 jX3_askDay 2 := ⟨⟨gt_of 550 (by decide +kernel) (by decide +kernel), wd_X3_askDay, wn_X3, by decide +kernel, by decide⟩, wm_X3_askDay, we_X3_askDay⟩
theorem lk_X10_141 : lk_V RX10 141 jX3_onTheWay 2 := ⟨⟨gt_of 555 (by decide +kernel) (by decide +kernel), wd_X3_onTheWay, wn_X3, by decide +kernel, by decide⟩, wm_X3_onTheWay, we_X3_onTheWay⟩
theorem lk_X10_144 : lk_S RX10 144 jX10_isWorth 1 := ⟨⟨gt_of 583 (by decide +kernel) (by decide +kernel), wd_X10_isWorth, wn_X10, by decide +kernel, by decide⟩, ws_X10_isWorth⟩
theorem lk_X10_147 : lk_V RX10 147 jX3_stampsOf 1 := ⟨⟨gt_of 587 (by decide +kernel) (by decide +kernel), wd_X3_stampsOf, wn_X3, by decide +kernel, by decide⟩, wm_X3_stampsOf, we_X3_stampsOf⟩
theorem lk_X10_150 : lk_V RX10 150 jX3_addStamps 2 := ⟨⟨gt_of 591 (by decide +kernel) (by decide +kernel), wd_X3_addStamps, wn_X3, by decide +kernel, by decide⟩, wm_X3_addStamps, we_X3_addStamps⟩
theorem lk_X10_153 : lk_V RX10 153 jX10_tariffAt 1 := ⟨⟨gt_of 599 (by decide +kernel) (by decide +kernel), wd_X10_tariffAt, wn_X10, by decide +kernel, by decide⟩, wm_X10_tariffAt, we_X10_tariffAt⟩
theorem lk_X10_157 : lk_S RX10 157 jX10_isPaper 3 := ⟨⟨gt_of 603 (by decide +kernel) (by decide +kernel), wd_X10_isPaper, wn_X10, by decide +kernel, by decide⟩, ws_X10_isPaper⟩
theorem wf_X10_161 : Cond.fieldLink RX10 161 (TX3 7).1 (TX3 7).2.1 (TX3 7).2.2.1 ∈ gt_ws := gt_of 184 (by decide +kernel) (by decide +kernel)
theorem lk_X10_163 : lk_I RX10 163 jX2_init 5 := ⟨⟨gt_of 607 (by decide +kernel) (by decide +kernel), wd_X2_init, wn_X2, by decide +kernel, by decide⟩, by decide, wm_X2_init⟩
theorem lk_X10_166 : lk_V RX10 166 jX6_feeOf 1 := ⟨⟨gt_of 647 (by decide +kernel) (by decide +kernel), wd_X6_feeOf, wn_X6, by decide +kernel, by decide⟩, wm_X6_feeOf, we_X6_feeOf⟩
theorem wf_X10_170 : Cond.fieldLink RX10 170 (TX3 2).1 (TX3 2).2.1 (TX3 2).2.2.1 ∈ gt_ws := gt_of 177 (by decide +kernel) (by decide +kernel)
theorem lk_X10_174 : lk_V RX10 174 jX0_fewest 2 := ⟨⟨gt_of 677 (by decide +kernel) (by decide +kernel), wd_X0_fewest, wn_X0, by decide +kernel, by decide⟩, wm_X0_fewest, we_X0_fewest⟩
theorem lk_X10_178 : lk_V RX10 178 jX2_charge 4 := ⟨⟨gt_of 696 (by decide +kernel) (by decide +kernel), wd_X2_charge, wn_X2, by decide +kernel, by decide⟩, wm_X2_charge, we_X2_charge⟩
theorem lk_X10_182 : lk_V RX10 182 jX3_book 2 := ⟨⟨gt_of 700 (by decide +kernel) (by decide +kernel), wd_X3_book, wn_X3, by decide +kernel, by decide⟩, wm_X3_book, we_X3_book⟩
theorem lk_X10_186 : lk_V RX10 186 jX10_paperAt 1 := ⟨⟨gt_of 709 (by decide +kernel) (by decide +kernel), wd_X10_paperAt, wn_X10, by decide +kernel, by decide⟩, wm_X10_paperAt, we_X10_paperAt⟩
theorem wf_X10_190 : Cond.fieldLink RX10 190 (TX2 0).1 (TX2 0).2.1 (TX2 0).2.2.1 ∈ gt_ws := gt_of 612 (by decide +kernel) (by decide +kernel)
theorem wf_X10_193 : Cond.fieldLink RX10 193 (TX2 1).1 (TX2 1).2.1 (TX2 1).2.2.1 ∈ gt_ws := gt_of 615 (by decide +kernel) (by decide +kernel)
theorem wf_X10_196 : Cond.fieldLink RX10 196 (TX2 2).1 (TX2 2).2.1 (TX2 2).2.2.1 ∈ gt_ws := gt_of 617 (by decide +kernel) (by decide +kernel)
theorem wf_X10_199 : Cond.fieldLink RX10 199 (TX2 3).1 (TX2 3).2.1 (TX2 3).2.2.1 ∈ gt_ws := gt_of 619 (by decide +kernel) (by decide +kernel)
theorem wf_X10_202 : Cond.fieldLink RX10 202 (TX2 5).1 (TX2 5).2.1 (TX2 5).2.2.1 ∈ gt_ws := gt_of 622 (by decide +kernel) (by decide +kernel)
theorem wf_X10_205 : Cond.fieldLink RX10 205 (TX2 6).1 (TX2 6).2.1 (TX2 6).2.2.1 ∈ gt_ws := gt_of 624 (by decide +kernel) (by decide +kernel)
theorem wf_X10_208 : Cond.fieldLink RX10 208 (TX2 7).1 (TX2 7).2.1 (TX2 7).2.2.1 ∈ gt_ws := gt_of 626 (by decide +kernel) (by decide +kernel)
theorem lk_X10_211 : lk_V RX10 211 jX2_allStamps 0 := ⟨⟨gt_of 713 (by decide +kernel) (by decide +kernel), wd_X2_allStamps, wn_X2, by decide +kernel, by decide⟩, wm_X2_allStamps, we_X2_allStamps⟩
theorem lk_X10_215 : lk_V RX10 215 jX10_isKnown 2 := ⟨⟨gt_of 722 (by decide +kernel) (by decide +kernel), wd_X10_isKnown, wn_X10, by decide +kernel, by decide⟩, wm_X10_isKnown, we_X10_isKnown⟩
theorem lk_X10_219 : lk_V RX10 219 jX10_knownDay 1 := ⟨⟨gt_of 726 (by decide +kernel) (by decide +kernel), wd_X10_knownDay, wn_X10, by decide +kernel, by decide⟩, wm_X10_knownDay, we_X10_knownDay⟩
theorem lk_X10_222 : lk_V RX10 222 jX2_stampsOf 1 := ⟨⟨gt_of 735 (by decide +kernel) (by decide +kernel), wd_X2_stampsOf, wn_X2, by decide +kernel, by decide⟩, wm_X2_stampsOf, we_X2_stampsOf⟩
theorem wf_X10_223 : Cond.fieldLink RX10 223 (TX3 0).1 (TX3 0).2.1 (TX3 0).2.2.1 ∈ gt_ws := gt_of 174 (by decide +kernel) (by decide +kernel)
theorem wf_X10_226 : Cond.fieldLink RX10 226 (TX3 6).1 (TX3 6).2.1 (TX3 6).2.2.1 ∈ gt_ws := gt_of 182 (by decide +kernel) (by decide +kernel)
theorem lk_X10_229 : lk_V RX10 229 jX3_accountsSent 1 := ⟨⟨gt_of 740 (by decide +kernel) (by decide +kernel), wd_X3_accountsSent, wn_X3, by decide +kernel, by decide⟩, wm_X3_accountsSent, we_X3_accountsSent⟩
theorem lk_X10_232 : lk_V RX10 232 jX10_isPast 1 := ⟨⟨gt_of 745 (by decide +kernel) (by decide +kernel), wd_X10_isPast, wn_X10, by decide +kernel, by decide⟩, wm_X10_isPast, we_X10_isPast⟩
theorem lk_X10_235 : lk_V RX10 235 jX10_isKnownOf 3 := ⟨⟨gt_of 749 (by decide +kernel) (by decide +kernel), wd_X10_isKnownOf, wn_X10, by decide +kernel, by decide⟩, wm_X10_isKnownOf, we_X10_isKnownOf⟩
theorem lk_X10_238 : lk_V RX10 238 jX10_chargedFor 1 := ⟨⟨gt_of 757 (by decide +kernel) (by decide +kernel), wd_X10_chargedFor, wn_X10, by decide +kernel, by decide⟩, wm_X10_chargedFor, we_X10_chargedFor⟩
theorem lk_X10_241 : lk_V RX10 241 jX10_homeFee 1 := ⟨⟨gt_of 765 (by decide +kernel) (by decide +kernel), wd_X10_homeFee, wn_X10, by decide +kernel, by decide⟩, wm_X10_homeFee, we_X10_homeFee⟩
theorem wz_X10_244 : Cond.fieldLink RX10 244 "ConsulDesk" "WORTHS" "[I" ∈ gt_ws := gt_of 586 (by decide +kernel) (by decide +kernel)
theorem lk_X10_247 : lk_S RX10 247 jX10_accountsBelow 1 := ⟨⟨gt_of 730 (by decide +kernel) (by decide +kernel), wd_X10_accountsBelow, wn_X10, by decide +kernel, by decide⟩, ws_X10_accountsBelow⟩
theorem wf_X10_250 : Cond.fieldLink RX10 250 (TX6 0).1 (TX6 0).2.1 (TX6 0).2.2.1 ∈ gt_ws := gt_of 485 (by decide +kernel) (by decide +kernel)
theorem lo_X12_1 : Cond.methodLink RX12 1 objectInit ∈ gt_ws := gt_of 790 (by decide +kernel) (by decide +kernel)
theorem wf_X12_9 : Cond.fieldLink RX12 9 (TX12 2).1 (TX12 2).2.1 (TX12 2).2.2.1 ∈ gt_ws := gt_of 863 (by decide +kernel) (by decide +kernel)
theorem wc_X12_13 : Cond.classLink RX12 13 RX11 ∈ gt_ws := gt_of 791 (by decide +kernel) (by decide +kernel)
theorem lk_X12_15 : lk_I RX12 15 jX11_init 0 := ⟨⟨gt_of 830 (by decide +kernel) (by decide +kernel), wd_X11_init, wn_X11, by decide +kernel, by decide⟩, by decide, wm_X11_init⟩
theorem wf_X12_16 : Cond.fieldLink RX12 16 (TX12 4).1 (TX12 4).2.1 (TX12 4).2.2.1 ∈ gt_ws := gt_of 865 (by decide +kernel) (by decide +kernel)
theorem wf_X12_20 : Cond.fieldLink RX12 20 (TX12 5).1 (TX12 5).2.1 (TX12 5).2.2.1 ∈ gt_ws := gt_of 866 (by decide +kernel) (by decide +kernel)
theorem wf_X12_24 : Cond.fieldLink RX12 24 (TX12 15).1 (TX12 15).2.1 (TX12 15).2.2.1 ∈ gt_ws := gt_of 876 (by decide +kernel) (by decide +kernel)
theorem wf_X12_28 : Cond.fieldLink RX12 28 (TX12 16).1 (TX12 16).2.1 (TX12 16).2.2.1 ∈ gt_ws := gt_of 877 (by decide +kernel) (by decide +kernel)
theorem wf_X12_31 : Cond.fieldLink RX12 31 (TX12 17).1 (TX12 17).2.1 (TX12 17).2.2.1 ∈ gt_ws := gt_of 878 (by decide +kernel) (by decide +kernel)
theorem wf_X12_34 : Cond.fieldLink RX12 34 (TX12 18).1 (TX12 18).2.1 (TX12 18).2.2.1 ∈ gt_ws := gt_of 879 (by decide +kernel) (by decide +kernel)
theorem wf_X12_37 : Cond.fieldLink RX12 37 (TX12 19).1 (TX12 19).2.1 (TX12 19).2.2.1 ∈ gt_ws := gt_of 880 (by decide +kernel) (by decide +kernel)
theorem wf_X12_40 : Cond.fieldLink RX12 40 (TX12 20).1 (TX12 20).2.1 (TX12 20).2.2.1 ∈ gt_ws := gt_of 881 (by decide +kernel) (by decide +kernel)
theorem wf_X12_43 : Cond.fieldLink RX12 43 (TX12 21).1 (TX12 21).2.1 (TX12 21).2.2.1 ∈ gt_ws := gt_of 882 (by decide +kernel) (by decide +kernel)
theorem wf_X12_46 : Cond.fieldLink RX12 46 (TX12 22).1 (TX12 22).2.1 (TX12 22).2.2.1 ∈ gt_ws := gt_of 883 (by decide +kernel) (by decide +kernel)
theorem wf_X12_49 : Cond.fieldLink RX12 49 (TX12 23).1 (TX12 23).2.1 (TX12 23).2.2.1 ∈ gt_ws := gt_of 884 (by decide +kernel) (by decide +kernel)
theorem wf_X12_52 : Cond.fieldLink RX12 52 (TX12 24).1 (TX12 24).2.1 (TX12 24).2.2.1 ∈ gt_ws := gt_of 885 (by decide +kernel) (by decide +kernel)
theorem wf_X12_55 : Cond.fieldLink RX12 55 (TX12 25).1 (TX12 25).2.1 (TX12 25).2.2.1 ∈ gt_ws := gt_of 886 (by decide +kernel) (by decide +kernel)
theorem wf_X12_58 : Cond.fieldLink RX12 58 (TX12 28).1 (TX12 28).2.1 (TX12 28).2.2.1 ∈ gt_ws := gt_of 889 (by decide +kernel) (by decide +kernel)
theorem wf_X12_61 : Cond.fieldLink RX12 61 (TX12 29).1 (TX12 29).2.1 (TX12 29).2.2.1 ∈ gt_ws := gt_of 890 (by decide +kernel) (by decide +kernel)
theorem wf_X12_64 : Cond.fieldLink RX12 64 (TX12 30).1 (TX12 30).2.1 (TX12 30).2.2.1 ∈ gt_ws := gt_of 891 (by decide +kernel) (by decide +kernel)
theorem wf_X12_67 : Cond.fieldLink RX12 67 (TX12 31).1 (TX12 31).2.1 (TX12 31).2.2.1 ∈ gt_ws := gt_of 892 (by decide +kernel) (by decide +kernel)
theorem wf_X12_70 : Cond.fieldLink RX12 70 (TX12 32).1 (TX12 32).2.1 (TX12 32).2.2.1 ∈ gt_ws := gt_of 893 (by decide +kernel) (by decide +kernel)
theorem wf_X12_73 : Cond.fieldLink RX12 73 (TX12 33).1 (TX12 33).2.1 (TX12 33).2.2.1 ∈ gt_ws := gt_of 894 (by decide +kernel) (by decide +kernel)
theorem wf_X12_76 : Cond.fieldLink RX12 76 (TX12 34).1 (TX12 34).2.1 (TX12 34).2.2.1 ∈ gt_ws := gt_of 895 (by decide +kernel) (by decide +kernel)
theorem wf_X12_79 : Cond.fieldLink RX12 79 (TX12 35).1 (TX12 35).2.1 (TX12 35).2.2.1 ∈ gt_ws := gt_of 896 (by decide +kernel) (by decide +kernel)
theorem wf_X12_82 : Cond.fieldLink RX12 82 (TX12 36).1 (TX12 36).2.1 (TX12 36).2.2.1 ∈ gt_ws := gt_of 897 (by decide +kernel) (by decide +kernel)
theorem wf_X12_85 : Cond.fieldLink RX12 85 (TX12 37).1 (TX12 37).2.1 (TX12 37).2.2.1 ∈ gt_ws := gt_of 898 (by decide +kernel) (by decide +kernel)
theorem wf_X12_89 : Cond.fieldLink RX12 89 (TX12 39).1 (TX12 39).2.1 (TX12 39).2.2.1 ∈ gt_ws := gt_of 900 (by decide +kernel) (by decide +kernel)
theorem wf_X12_92 : Cond.fieldLink RX12 92 (TX12 40).1 (TX12 40).2.1 (TX12 40).2.2.1 ∈ gt_ws := gt_of 901 (by decide +kernel) (by decide +kernel)
theorem wf_X12_95 : Cond.fieldLink RX12 95 (TX12 41).1 (TX12 41).2.1 (TX12 41).2.2.1 ∈ gt_ws := gt_of 902 (by decide +kernel) (by decide +kernel)
theorem wf_X12_98 : Cond.fieldLink RX12 98 (TX12 42).1 (TX12 42).2.1 (TX12 42).2.2.1 ∈ gt_ws := gt_of 903 (by decide +kernel) (by decide +kernel)
theorem wf_X12_101 : Cond.fieldLink RX12 101 (TX12 43).1 (TX12 43).2.1 (TX12 43).2.2.1 ∈ gt_ws := gt_of 904 (by decide +kernel) (by decide +kernel)
theorem wf_X12_104 : Cond.fieldLink RX12 104 (TX12 44).1 (TX12 44).2.1 (TX12 44).2.2.1 ∈ gt_ws := gt_of 905 (by decide +kernel) (by decide +kernel)
theorem wf_X12_107 : Cond.fieldLink RX12 107 (TX12 45).1 (TX12 45).2.1 (TX12 45).2.2.1 ∈ gt_ws := gt_of 906 (by decide +kernel) (by decide +kernel)
theorem wf_X12_110 : Cond.fieldLink RX12 110 (TX12 46).1 (TX12 46).2.1 (TX12 46).2.2.1 ∈ gt_ws := gt_of 907 (by decide +kernel) (by decide +kernel)
theorem wf_X12_113 : Cond.fieldLink RX12 113 (TX12 47).1 (TX12 47).2.1 (TX12 47).2.2.1 ∈ gt_ws := gt_of 908 (by decide +kernel) (by decide +kernel)
theorem wf_X12_116 : Cond.fieldLink RX12 116 (TX12 48).1 (TX12 48).2.1 (TX12 48).2.2.1 ∈ gt_ws := gt_of 909 (by decide +kernel) (by decide +kernel)
theorem wf_X12_120 : Cond.fieldLink RX12 120 (TX12 49).1 (TX12 49).2.1 (TX12 49).2.2.1 ∈ gt_ws := gt_of 910 (by decide +kernel) (by decide +kernel)
theorem wf_X12_126 : Cond.fieldLink RX12 126 (TX12 1).1 (TX12 1).2.1 (TX12 1).2.2.1 ∈ gt_ws := gt_of 862 (by decide +kernel) (by decide +kernel)
theorem wf_X12_131 : Cond.fieldLink RX12 131 (TX12 10).1 (TX12 10).2.1 (TX12 10).2.2.1 ∈ gt_ws := gt_of 871 (by decide +kernel) (by decide +kernel)
theorem wf_X12_135 : Cond.fieldLink RX12 135 (TX12 7).1 (TX12 7).2.1 (TX12 7).2.2.1 ∈ gt_ws := gt_of 868 (by decide +kernel) (by decide +kernel)
theorem lk_X12_138 : lk_V RX12 138 jJ0_length_8abf5 0 := ⟨⟨gt_of 1068 (by decide +kernel) (by decide +kernel), wd_J0_length_8abf5, wn_J0, by decide +kernel, by decide⟩, wm_J0_length_8abf5, we_J0_length_8abf5⟩
theorem wl_X12_144 : Cond.constantLong RX12 144 32 ∈ gt_ws := gt_of 1056 (by decide +kernel) (by decide +kernel)
theorem lk_X12_146 : lk_V RX12 146 jJ0_charAt_5068e 1 := ⟨⟨gt_of 1069 (by decide +kernel) (by decide +kernel), wd_J0_charAt_5068e, wn_J0, by decide +kernel, by decide⟩, wm_J0_charAt_5068e, we_J0_charAt_5068e⟩
theorem wf_X12_150 : Cond.fieldLink RX12 150 (TX12 8).1 (TX12 8).2.1 (TX12 8).2.2.1 ∈ gt_ws := gt_of 869 (by decide +kernel) (by decide +kernel)
theorem lk_X12_153 : lk_V RX12 153 jX12_byteAt 1 := ⟨⟨gt_of 1049 (by decide +kernel) (by decide +kernel), wd_X12_byteAt, wn_X12, by decide +kernel, by decide⟩, wm_X12_byteAt, we_X12_byteAt⟩
theorem wf_X12_157 : Cond.fieldLink RX12 157 (TX12 9).1 (TX12 9).2.1 (TX12 9).2.2.1 ∈ gt_ws := gt_of 870 (by decide +kernel) (by decide +kernel)
theorem wf_X12_160 : Cond.fieldLink RX12 160 (TX12 11).1 (TX12 11).2.1 (TX12 11).2.2.1 ∈ gt_ws := gt_of 872 (by decide +kernel) (by decide +kernel)
theorem lk_X12_163 : lk_S RX12 163 jX12_isLetter 1 := ⟨⟨gt_of 1053 (by decide +kernel) (by decide +kernel), wd_X12_isLetter, wn_X12, by decide +kernel, by decide⟩, ws_X12_isLetter⟩
theorem wf_X12_167 : Cond.fieldLink RX12 167 (TX12 13).1 (TX12 13).2.1 (TX12 13).2.2.1 ∈ gt_ws := gt_of 874 (by decide +kernel) (by decide +kernel)
theorem lk_X12_171 : lk_S RX12 171 jX12_isDigit 1 := ⟨⟨gt_of 1057 (by decide +kernel) (by decide +kernel), wd_X12_isDigit, wn_X12, by decide +kernel, by decide⟩, ws_X12_isDigit⟩
theorem wf_X12_174 : Cond.fieldLink RX12 174 (TX12 12).1 (TX12 12).2.1 (TX12 12).2.2.1 ∈ gt_ws := gt_of 873 (by decide +kernel) (by decide +kernel)
theorem lk_X12_177 : lk_S RX12 177 jX12_wordOf 1 := ⟨⟨gt_of 1065 (by decide +kernel) (by decide +kernel), wd_X12_wordOf, wn_X12, by decide +kernel, by decide⟩, ws_X12_wordOf⟩
theorem lk_X12_182 : lk_V RX12 182 jX12_isWord 1 := ⟨⟨gt_of 1061 (by decide +kernel) (by decide +kernel), wd_X12_isWord, wn_X12, by decide +kernel, by decide⟩, wm_X12_isWord, we_X12_isWord⟩
theorem lk_X12_192 : lk_V RX12 192 jX12_stop 1 := ⟨⟨gt_of 1070 (by decide +kernel) (by decide +kernel), wd_X12_stop, wn_X12, by decide +kernel, by decide⟩, wm_X12_stop, we_X12_stop⟩
theorem wf_X12_201 : Cond.fieldLink RX12 201 (TX12 14).1 (TX12 14).2.1 (TX12 14).2.2.1 ∈ gt_ws := gt_of 875 (by decide +kernel) (by decide +kernel)
theorem lk_X12_204 : lk_V RX12 204 jX12_next 0 := ⟨⟨gt_of 1045 (by decide +kernel) (by decide +kernel), wd_X12_next, wn_X12, by decide +kernel, by decide⟩, wm_X12_next, we_X12_next⟩
theorem lk_X12_207 : lk_V RX12 207 jX12_readTest 1 := ⟨⟨gt_of 1075 (by decide +kernel) (by decide +kernel), wd_X12_readTest, wn_X12, by decide +kernel, by decide⟩, wm_X12_readTest, we_X12_readTest⟩
theorem lk_X12_211 : lk_V RX12 211 jX12_readTerm 1 := ⟨⟨gt_of 1093 (by decide +kernel) (by decide +kernel), wd_X12_readTerm, wn_X12, by decide +kernel, by decide⟩, wm_X12_readTerm, we_X12_readTerm⟩
theorem lk_X12_214 : lk_V RX12 214 jX12_is 1 := ⟨⟨gt_of 1089 (by decide +kernel) (by decide +kernel), wd_X12_is, wn_X12, by decide +kernel, by decide⟩, wm_X12_is, we_X12_is⟩
theorem lk_X12_216 : lk_V RX12 216 jX12_nameHere 0 := ⟨⟨gt_of 1079 (by decide +kernel) (by decide +kernel), wd_X12_nameHere, wn_X12, by decide +kernel, by decide⟩, wm_X12_nameHere, we_X12_nameHere⟩
theorem lk_X12_219 : lk_S RX12 219 jX12_valueOf 5 := ⟨⟨gt_of 1168 (by decide +kernel) (by decide +kernel), wd_X12_valueOf, wn_X12, by decide +kernel, by decide⟩, ws_X12_valueOf⟩
theorem lk_X12_223 : lk_S RX12 223 jJ9_min_7cf53 2 := ⟨⟨gt_of 1171 (by decide +kernel) (by decide +kernel), wd_J9_min_7cf53, wn_J9, by decide +kernel, by decide⟩, ws_J9_min_7cf53⟩
theorem wf_X12_123 : Cond.fieldLink RX12 123 (TX12 0).1 (TX12 0).2.1 (TX12 0).2.2.1 ∈ gt_ws := gt_of 861 (by decide +kernel) (by decide +kernel)
theorem lk_X12_229 : lk_S RX12 229 jX12_in 3 := ⟨⟨gt_of 1017 (by decide +kernel) (by decide +kernel), wd_X12_in, wn_X12, by decide +kernel, by decide⟩, ws_X12_in⟩
theorem lk_X12_233 : lk_V RX12 233 jX12_refused 1 := ⟨⟨gt_of 1020 (by decide +kernel) (by decide +kernel), wd_X12_refused, wn_X12, by decide +kernel, by decide⟩, wm_X12_refused, we_X12_refused⟩
theorem wf_X12_236 : Cond.fieldLink RX12 236 (TX12 26).1 (TX12 26).2.1 (TX12 26).2.2.1 ∈ gt_ws := gt_of 887 (by decide +kernel) (by decide +kernel)
theorem wf_X12_239 : Cond.fieldLink RX12 239 (TX12 27).1 (TX12 27).2.1 (TX12 27).2.2.1 ∈ gt_ws := gt_of 888 (by decide +kernel) (by decide +kernel)
theorem lk_X12_242 : lk_V RX12 242 jX12_sends 3 := ⟨⟨gt_of 1024 (by decide +kernel) (by decide +kernel), wd_X12_sends, wn_X12, by decide +kernel, by decide⟩, wm_X12_sends, we_X12_sends⟩
theorem lk_X12_246 : lk_V RX12 246 jX12_done 1 := ⟨⟨gt_of 1029 (by decide +kernel) (by decide +kernel), wd_X12_done, wn_X12, by decide +kernel, by decide⟩, wm_X12_done, we_X12_done⟩
theorem wl_X12_249 : Cond.constant RX12 249 1000000 ∈ gt_ws := gt_of 1028 (by decide +kernel) (by decide +kernel)
theorem wf_X12_250 : Cond.fieldLink RX12 250 (TX12 6).1 (TX12 6).2.1 (TX12 6).2.2.1 ∈ gt_ws := gt_of 867 (by decide +kernel) (by decide +kernel)
theorem wf_X12_253 : Cond.fieldLink RX12 253 (TX12 3).1 (TX12 3).2.1 (TX12 3).2.2.1 ∈ gt_ws := gt_of 864 (by decide +kernel) (by decide +kernel)
theorem lk_X12_256 : lk_V RX12 256 jX12_reads 0 := ⟨⟨gt_of 1041 (by decide +kernel) (by decide +kernel), wd_X12_reads, wn_X12, by decide +kernel, by decide⟩, wm_X12_reads, we_X12_reads⟩
theorem lk_X12_259 : lk_V RX12 259 jX12_comes 2 := ⟨⟨gt_of 1121 (by decide +kernel) (by decide +kernel), wd_X12_comes, wn_X12, by decide +kernel, by decide⟩, wm_X12_comes, we_X12_comes⟩
theorem lk_X12_262 : lk_V RX12 262 jX12_isPort 1 := ⟨⟨gt_of 1109 (by decide +kernel) (by decide +kernel), wd_X12_isPort, wn_X12, by decide +kernel, by decide⟩, wm_X12_isPort, we_X12_isPort⟩
theorem lk_X12_265 : lk_V RX12 265 jX12_isTariff 1 := ⟨⟨gt_of 1113 (by decide +kernel) (by decide +kernel), wd_X12_isTariff, wn_X12, by decide +kernel, by decide⟩, wm_X12_isTariff, we_X12_isTariff⟩
theorem lk_X12_268 : lk_V RX12 268 jX12_hasCome 3 := ⟨⟨gt_of 1117 (by decide +kernel) (by decide +kernel), wd_X12_hasCome, wn_X12, by decide +kernel, by decide⟩, wm_X12_hasCome, we_X12_hasCome⟩
theorem lk_X12_271 : lk_V RX12 271 jX12_asks 2 := ⟨⟨gt_of 1129 (by decide +kernel) (by decide +kernel), wd_X12_asks, wn_X12, by decide +kernel, by decide⟩, wm_X12_asks, we_X12_asks⟩
theorem lk_X12_275 : lk_V RX12 275 jX12_forceOf 1 := ⟨⟨gt_of 1137 (by decide +kernel) (by decide +kernel), wd_X12_forceOf, wn_X12, by decide +kernel, by decide⟩, wm_X12_forceOf, we_X12_forceOf⟩
theorem lk_X12_278 : lk_S RX12 278 jX12_isPaper 3 := ⟨⟨gt_of 1161 (by decide +kernel) (by decide +kernel), wd_X12_isPaper, wn_X12, by decide +kernel, by decide⟩, ws_X12_isPaper⟩
theorem lk_X12_281 : lk_V RX12 281 jX12_feeOf 6 := ⟨⟨gt_of 1164 (by decide +kernel) (by decide +kernel), wd_X12_feeOf, wn_X12, by decide +kernel, by decide⟩, wm_X12_feeOf, we_X12_feeOf⟩
theorem wl_X12_287 : Cond.constantLong RX12 287 9223372036854775807 ∈ gt_ws := gt_of 1180 (by decide +kernel) (by decide +kernel)
theorem wz_X12_289 : Cond.fieldLink RX12 289 "ConsulDeskModel" "WORTH" "[I" ∈ gt_ws := gt_of 1181 (by decide +kernel) (by decide +kernel)
theorem wl_X12_292 : Cond.constantLong RX12 292 1099511627776 ∈ gt_ws := gt_of 1183 (by decide +kernel) (by decide +kernel)
theorem wl_X12_294 : Cond.constantLong RX12 294 4096 ∈ gt_ws := gt_of 1184 (by decide +kernel) (by decide +kernel)
theorem wl_X12_296 : Cond.constantLong RX12 296 4194304 ∈ gt_ws := gt_of 1185 (by decide +kernel) (by decide +kernel)
theorem wl_X12_298 : Cond.constantLong RX12 298 2147483648 ∈ gt_ws := gt_of 1186 (by decide +kernel) (by decide +kernel)
theorem lk_X12_300 : lk_S RX12 300 jJ9_min_f86c9 2 := ⟨⟨gt_of 1187 (by decide +kernel) (by decide +kernel), wd_J9_min_f86c9, wn_J9, by decide +kernel, by decide⟩, ws_J9_min_f86c9⟩
theorem wl_X12_303 : Cond.constantLong RX12 303 4095 ∈ gt_ws := gt_of 1190 (by decide +kernel) (by decide +kernel)
theorem wl_X12_305 : Cond.constantLong RX12 305 1023 ∈ gt_ws := gt_of 1191 (by decide +kernel) (by decide +kernel)
theorem wl_X12_307 : Cond.constantLong RX12 307 511 ∈ gt_ws := gt_of 1192 (by decide +kernel) (by decide +kernel)
theorem lk_X12_309 : lk_V RX12 309 jX12_chooses 2 := ⟨⟨gt_of 1176 (by decide +kernel) (by decide +kernel), wd_X12_chooses, wn_X12, by decide +kernel, by decide⟩, wm_X12_chooses, we_X12_chooses⟩
theorem wf_X12_313 : Cond.fieldLink RX12 313 (TX12 38).1 (TX12 38).2.1 (TX12 38).2.2.1 ∈ gt_ws := gt_of 899 (by decide +kernel) (by decide +kernel)
theorem lk_X12_316 : lk_V RX12 316 jX12_homeOf 1 := ⟨⟨gt_of 1197 (by decide +kernel) (by decide +kernel), wd_X12_homeOf, wn_X12, by decide +kernel, by decide⟩, wm_X12_homeOf, we_X12_homeOf⟩
theorem lk_X12_319 : lk_V RX12 319 jX12_homesFee 1 := ⟨⟨gt_of 1221 (by decide +kernel) (by decide +kernel), wd_X12_homesFee, wn_X12, by decide +kernel, by decide⟩, wm_X12_homesFee, we_X12_homesFee⟩
theorem wl_J11_110 : Cond.constant RJ11 110 55232 ∈ gt_ws := gt_of 370 (by decide +kernel) (by decide +kernel)
theorem wl_J11_76 : Cond.constant RJ11 76 56320 ∈ gt_ws := gt_of 374 (by decide +kernel) (by decide +kernel)
theorem wz_J0_9 : Cond.fieldLink RJ0 9 "java/lang/String" "value" "[B" ∈ gt_ws := gt_of 1242 (by decide +kernel) (by decide +kernel)
theorem lk_J0_335 : lk_V RJ0 335 jJ0_coder_7d493 0 := ⟨⟨gt_of 253 (by decide +kernel) (by decide +kernel), wd_J0_coder_7d493, wn_J0, by decide +kernel, by decide⟩, wm_J0_coder_7d493, we_J0_coder_7d493⟩
theorem lk_J0_492 : lk_V RJ0 492 jJ0_isLatin1_aae02 0 := ⟨⟨gt_of 263 (by decide +kernel) (by decide +kernel), wd_J0_isLatin1_aae02, wn_J0, by decide +kernel, by decide⟩, wm_J0_isLatin1_aae02, we_J0_isLatin1_aae02⟩
theorem lk_J0_495 : lk_S RJ0 495 jJ1_charAt_3b067 2 := ⟨⟨gt_of 267 (by decide +kernel) (by decide +kernel), wd_J1_charAt_3b067, wn_J1, by decide +kernel, by decide⟩, ws_J1_charAt_3b067⟩
theorem lk_J0_498 : lk_S RJ0 498 jJ2_charAt_3b067 2 := ⟨⟨gt_of 278 (by decide +kernel) (by decide +kernel), wd_J2_charAt_3b067, wn_J2, by decide +kernel, by decide⟩, ws_J2_charAt_3b067⟩
theorem lk_J0_633 : lk_V RJ0 633 jJ0_indexOf_7cf53 2 := ⟨⟨gt_of 320 (by decide +kernel) (by decide +kernel), wd_J0_indexOf_7cf53, wn_J0, by decide +kernel, by decide⟩, wm_J0_indexOf_7cf53, we_J0_indexOf_7cf53⟩
theorem lk_J0_505 : lk_V RJ0 505 jJ0_length_8abf5 0 := ⟨⟨gt_of 324 (by decide +kernel) (by decide +kernel), wd_J0_length_8abf5, wn_J0, by decide +kernel, by decide⟩, wm_J0_length_8abf5, we_J0_length_8abf5⟩
theorem lk_J0_637 : lk_S RJ0 637 jJ1_indexOf_4cfef 4 := ⟨⟨gt_of 325 (by decide +kernel) (by decide +kernel), wd_J1_indexOf_4cfef, wn_J1, by decide +kernel, by decide⟩, ws_J1_indexOf_4cfef⟩
theorem lk_J0_640 : lk_S RJ0 640 jJ2_indexOf_4cfef 4 := ⟨⟨gt_of 340 (by decide +kernel) (by decide +kernel), wd_J2_indexOf_4cfef, wn_J2, by decide +kernel, by decide⟩, ws_J2_indexOf_4cfef⟩
theorem wz_J0_38 : Cond.fieldLink RJ0 38 "java/lang/String" "COMPACT_STRINGS" "Z" ∈ gt_ws := gt_of 257 (by decide +kernel) (by decide +kernel)
theorem wz_J0_15 : Cond.fieldLink RJ0 15 "java/lang/String" "coder" "B" ∈ gt_ws := gt_of 1243 (by decide +kernel) (by decide +kernel)
theorem wz_J0_1053 : Cond.fieldLink RJ0 1053 "jdk/internal/util/Preconditions" "SIOOBE_FORMATTER" "Ljava/util/function/BiFunction;" ∈ gt_ws := gt_of 273 (by decide +kernel) (by decide +kernel)
theorem lk_J0_1059 : lk_S RJ0 1059 jJ3_checkIndex_8e157 3 := ⟨⟨gt_of 275 (by decide +kernel) (by decide +kernel), wd_J3_checkIndex_8e157, wn_J3, by decide +kernel, by decide⟩, ws_J3_checkIndex_8e157⟩
theorem lk_J0_1062 : lk_S RJ0 1062 jJ3_checkFromToIndex_8c36e 4 := ⟨⟨gt_of 355 (by decide +kernel) (by decide +kernel), wd_J3_checkFromToIndex_8c36e, wn_J3, by decide +kernel, by decide⟩, ws_J3_checkFromToIndex_8c36e⟩
theorem lk_J1_9 : lk_S RJ1 9 jJ0_checkIndex_df160 2 := ⟨⟨gt_of 270 (by decide +kernel) (by decide +kernel), wd_J0_checkIndex_df160, wn_J0, by decide +kernel, by decide⟩, ws_J0_checkIndex_df160⟩
theorem lk_J1_88 : lk_S RJ1 88 jJ1_canEncode_9a6ad 1 := ⟨⟨gt_of 328 (by decide +kernel) (by decide +kernel), wd_J1_canEncode_9a6ad, wn_J1, by decide +kernel, by decide⟩, ws_J1_canEncode_9a6ad⟩
theorem lk_J1_92 : lk_S RJ1 92 jJ9_max_7cf53 2 := ⟨⟨gt_of 331 (by decide +kernel) (by decide +kernel), wd_J9_max_7cf53, wn_J9, by decide +kernel, by decide⟩, ws_J9_max_7cf53⟩
theorem lk_J1_38 : lk_S RJ1 38 jJ9_min_7cf53 2 := ⟨⟨gt_of 334 (by decide +kernel) (by decide +kernel), wd_J9_min_7cf53, wn_J9, by decide +kernel, by decide⟩, ws_J9_min_7cf53⟩
theorem lk_J1_95 : lk_S RJ1 95 jJ1_indexOfChar_4cfef 4 := ⟨⟨gt_of 337 (by decide +kernel) (by decide +kernel), wd_J1_indexOfChar_4cfef, wn_J1, by decide +kernel, by decide⟩, ws_J1_indexOfChar_4cfef⟩
theorem wz_J2_44 : Cond.fieldLink RJ2 44 "java/lang/StringUTF16" "$assertionsDisabled" "Z" ∈ gt_ws := gt_of 291 (by decide +kernel) (by decide +kernel)
theorem lk_J2_48 : lk_S RJ2 48 jJ2_length_9d52b 1 := ⟨⟨gt_of 284 (by decide +kernel) (by decide +kernel), wd_J2_length_9d52b, wn_J2, by decide +kernel, by decide⟩, ws_J2_length_9d52b⟩
theorem wz_J2_59 : Cond.fieldLink RJ2 59 "java/lang/StringUTF16" "HI_BYTE_SHIFT" "I" ∈ gt_ws := gt_of 293 (by decide +kernel) (by decide +kernel)
theorem wz_J2_63 : Cond.fieldLink RJ2 63 "java/lang/StringUTF16" "LO_BYTE_SHIFT" "I" ∈ gt_ws := gt_of 295 (by decide +kernel) (by decide +kernel)
theorem lk_J2_224 : lk_S RJ2 224 jJ9_max_7cf53 2 := ⟨⟨gt_of 343 (by decide +kernel) (by decide +kernel), wd_J9_max_7cf53, wn_J9, by decide +kernel, by decide⟩, ws_J9_max_7cf53⟩
theorem lk_J2_183 : lk_S RJ2 183 jJ9_min_7cf53 2 := ⟨⟨gt_of 344 (by decide +kernel) (by decide +kernel), wd_J9_min_7cf53, wn_J9, by decide +kernel, by decide⟩, ws_J9_min_7cf53⟩
theorem wl_J2_227 : Cond.constant RJ2 227 65536 ∈ gt_ws := gt_of 345 (by decide +kernel) (by decide +kernel)
theorem lk_J2_228 : lk_S RJ2 228 jJ2_indexOfChar_4cfef 4 := ⟨⟨gt_of 346 (by decide +kernel) (by decide +kernel), wd_J2_indexOfChar_4cfef, wn_J2, by decide +kernel, by decide⟩, ws_J2_indexOfChar_4cfef⟩
theorem lk_J2_232 : lk_S RJ2 232 jJ2_indexOfSupplementary_4cfef 4 := ⟨⟨gt_of 361 (by decide +kernel) (by decide +kernel), wd_J2_indexOfSupplementary_4cfef, wn_J2, by decide +kernel, by decide⟩, ws_J2_indexOfSupplementary_4cfef⟩
theorem lk_J2_96 : lk_S RJ2 96 jJ2_checkBoundsBeginEnd_d044e 3 := ⟨⟨gt_of 349 (by decide +kernel) (by decide +kernel), wd_J2_checkBoundsBeginEnd_d044e, wn_J2, by decide +kernel, by decide⟩, ws_J2_checkBoundsBeginEnd_d044e⟩
theorem lk_J2_244 : lk_S RJ2 244 jJ2_indexOfCharUnsafe_4cfef 4 := ⟨⟨gt_of 358 (by decide +kernel) (by decide +kernel), wd_J2_indexOfCharUnsafe_4cfef, wn_J2, by decide +kernel, by decide⟩, ws_J2_indexOfCharUnsafe_4cfef⟩
theorem lk_J2_71 : lk_S RJ2 71 jJ2_getChar_3b067 2 := ⟨⟨gt_of 288 (by decide +kernel) (by decide +kernel), wd_J2_getChar_3b067, wn_J2, by decide +kernel, by decide⟩, ws_J2_getChar_3b067⟩
theorem lk_J2_164 : lk_S RJ2 164 jJ11_isValidCodePoint_9a6ad 1 := ⟨⟨gt_of 364 (by decide +kernel) (by decide +kernel), wd_J11_isValidCodePoint_9a6ad, wn_J11, by decide +kernel, by decide⟩, ws_J11_isValidCodePoint_9a6ad⟩
theorem lk_J2_157 : lk_S RJ2 157 jJ11_highSurrogate_5068e 1 := ⟨⟨gt_of 367 (by decide +kernel) (by decide +kernel), wd_J11_highSurrogate_5068e, wn_J11, by decide +kernel, by decide⟩, ws_J11_highSurrogate_5068e⟩
theorem lk_J2_161 : lk_S RJ2 161 jJ11_lowSurrogate_5068e 1 := ⟨⟨gt_of 371 (by decide +kernel) (by decide +kernel), wd_J11_lowSurrogate_5068e, wn_J11, by decide +kernel, by decide⟩, ws_J11_lowSurrogate_5068e⟩
theorem lk_J2_67 : lk_S RJ2 67 jJ2_checkIndex_2214a 2 := ⟨⟨gt_of 281 (by decide +kernel) (by decide +kernel), wd_J2_checkIndex_2214a, wn_J2, by decide +kernel, by decide⟩, ws_J2_checkIndex_2214a⟩
theorem lk_J2_414 : lk_S RJ2 414 jJ0_checkIndex_df160 2 := ⟨⟨gt_of 287 (by decide +kernel) (by decide +kernel), wd_J0_checkIndex_df160, wn_J0, by decide +kernel, by decide⟩, ws_J0_checkIndex_df160⟩
theorem lk_J2_241 : lk_S RJ2 241 jJ0_checkBoundsBeginEnd_23922 3 := ⟨⟨gt_of 352 (by decide +kernel) (by decide +kernel), wd_J0_checkBoundsBeginEnd_23922, wn_J0, by decide +kernel, by decide⟩, ws_J0_checkBoundsBeginEnd_23922⟩
theorem wc_L_7 : Cond.classLink RL 7 RX10 ∈ gt_ws := gt_of 23 (by decide +kernel) (by decide +kernel)
theorem lk_L_9 : lk_I RL 9 jX10_init 0 := ⟨⟨gt_of 25 (by decide +kernel) (by decide +kernel), wd_X10_init, wn_X10, by decide +kernel, by decide⟩, by decide, wm_X10_init⟩
theorem wc_L_10 : Cond.classLink RL 10 RX12 ∈ gt_ws := gt_of 785 (by decide +kernel) (by decide +kernel)
theorem lk_L_12 : lk_I RL 12 jX12_init 0 := ⟨⟨gt_of 787 (by decide +kernel) (by decide +kernel), wd_X12_init, wn_X12, by decide +kernel, by decide⟩, by decide, wm_X12_init⟩
theorem lk_L_13 : lk_V RL 13 jX10_port 1 := ⟨⟨gt_of 159 (by decide +kernel) (by decide +kernel), wd_X10_port, wn_X10, by decide +kernel, by decide⟩, wm_X10_port, we_X10_port⟩
theorem lk_L_17 : lk_V RL 17 jX12_port 1 := ⟨⟨gt_of 1013 (by decide +kernel) (by decide +kernel), wd_X12_port, wn_X12, by decide +kernel, by decide⟩, wm_X12_port, we_X12_port⟩
theorem lk_L_18 : lk_V RL 18 jX10_feed 5 := ⟨⟨gt_of 211 (by decide +kernel) (by decide +kernel), wd_X10_feed, wn_X10, by decide +kernel, by decide⟩, wm_X10_feed, we_X10_feed⟩
theorem lk_L_22 : lk_V RL 22 jX12_feed 5 := ⟨⟨gt_of 1033 (by decide +kernel) (by decide +kernel), wd_X12_feed, wn_X12, by decide +kernel, by decide⟩, wm_X12_feed, we_X12_feed⟩
theorem lk_L_23 : lk_V RL 23 jX10_tariff 1 := ⟨⟨gt_of 219 (by decide +kernel) (by decide +kernel), wd_X10_tariff, wn_X10, by decide +kernel, by decide⟩, wm_X10_tariff, we_X10_tariff⟩
theorem lk_L_27 : lk_V RL 27 jX10_fault 0 := ⟨⟨gt_of 500 (by decide +kernel) (by decide +kernel), wd_X10_fault, wn_X10, by decide +kernel, by decide⟩, wm_X10_fault, we_X10_fault⟩
theorem lk_L_31 : lk_V RL 31 jX12_fault 0 := ⟨⟨gt_of 1097 (by decide +kernel) (by decide +kernel), wd_X12_fault, wn_X12, by decide +kernel, by decide⟩, wm_X12_fault, we_X12_fault⟩
theorem lk_L_32 : lk_V RL 32 jX10_where 0 := ⟨⟨gt_of 504 (by decide +kernel) (by decide +kernel), wd_X10_where, wn_X10, by decide +kernel, by decide⟩, wm_X10_where, we_X10_where⟩
theorem lk_L_35 : lk_V RL 35 jX12_where 0 := ⟨⟨gt_of 1101 (by decide +kernel) (by decide +kernel), wd_X12_where, wn_X12, by decide +kernel, by decide⟩, wm_X12_where, we_X12_where⟩
theorem lk_L_36 : lk_V RL 36 jX10_lost 2 := ⟨⟨gt_of 508 (by decide +kernel) (by decide +kernel), wd_X10_lost, wn_X10, by decide +kernel, by decide⟩, wm_X10_lost, we_X10_lost⟩
theorem lk_L_40 : lk_V RL 40 jX12_lost 2 := ⟨⟨gt_of 1105 (by decide +kernel) (by decide +kernel), wd_X12_lost, wn_X12, by decide +kernel, by decide⟩, wm_X12_lost, we_X12_lost⟩
theorem lk_L_41 : lk_V RL 41 jX10_pass 1 := ⟨⟨gt_of 521 (by decide +kernel) (by decide +kernel), wd_X10_pass, wn_X10, by decide +kernel, by decide⟩, wm_X10_pass, we_X10_pass⟩
theorem lk_L_44 : lk_V RL 44 jX12_pass 1 := ⟨⟨gt_of 1125 (by decide +kernel) (by decide +kernel), wd_X12_pass, wn_X12, by decide +kernel, by decide⟩, wm_X12_pass, we_X12_pass⟩
theorem lk_L_45 : lk_V RL 45 jX10_force 1 := ⟨⟨gt_of 525 (by decide +kernel) (by decide +kernel), wd_X10_force, wn_X10, by decide +kernel, by decide⟩, wm_X10_force, we_X10_force⟩
theorem lk_L_48 : lk_V RL 48 jX12_force 1 := ⟨⟨gt_of 1133 (by decide +kernel) (by decide +kernel), wd_X12_force, wn_X12, by decide +kernel, by decide⟩, wm_X12_force, we_X12_force⟩
theorem lk_L_49 : lk_V RL 49 jX10_came 2 := ⟨⟨gt_of 541 (by decide +kernel) (by decide +kernel), wd_X10_came, wn_X10, by decide +kernel, by decide⟩, wm_X10_came, we_X10_came⟩
theorem lk_L_53 : lk_V RL 53 jX12_came 2 := ⟨⟨gt_of 1141 (by decide +kernel) (by decide +kernel), wd_X12_came, wn_X12, by decide +kernel, by decide⟩, wm_X12_came, we_X12_came⟩
theorem lk_L_54 : lk_V RL 54 jX10_asked 2 := ⟨⟨gt_of 546 (by decide +kernel) (by decide +kernel), wd_X10_asked, wn_X10, by decide +kernel, by decide⟩, wm_X10_asked, we_X10_asked⟩
theorem lk_L_57 : lk_V RL 57 jX12_asked 2 := ⟨⟨gt_of 1145 (by decide +kernel) (by decide +kernel), wd_X12_asked, wn_X12, by decide +kernel, by decide⟩, wm_X12_asked, we_X12_asked⟩
theorem lk_L_58 : lk_V RL 58 jX10_under 1 := ⟨⟨gt_of 551 (by decide +kernel) (by decide +kernel), wd_X10_under, wn_X10, by decide +kernel, by decide⟩, wm_X10_under, we_X10_under⟩
theorem lk_L_61 : lk_V RL 61 jX12_under 1 := ⟨⟨gt_of 1149 (by decide +kernel) (by decide +kernel), wd_X12_under, wn_X12, by decide +kernel, by decide⟩, wm_X12_under, we_X12_under⟩
theorem lk_L_62 : lk_V RL 62 jX10_stock 3 := ⟨⟨gt_of 579 (by decide +kernel) (by decide +kernel), wd_X10_stock, wn_X10, by decide +kernel, by decide⟩, wm_X10_stock, we_X10_stock⟩
theorem lk_L_66 : lk_V RL 66 jX12_stock 3 := ⟨⟨gt_of 1153 (by decide +kernel) (by decide +kernel), wd_X12_stock, wn_X12, by decide +kernel, by decide⟩, wm_X12_stock, we_X12_stock⟩
theorem lk_L_67 : lk_V RL 67 jX10_fee 5 := ⟨⟨gt_of 595 (by decide +kernel) (by decide +kernel), wd_X10_fee, wn_X10, by decide +kernel, by decide⟩, wm_X10_fee, we_X10_fee⟩
theorem lk_L_70 : lk_V RL 70 jX12_fee 5 := ⟨⟨gt_of 1157 (by decide +kernel) (by decide +kernel), wd_X12_fee, wn_X12, by decide +kernel, by decide⟩, wm_X12_fee, we_X12_fee⟩
theorem lk_L_71 : lk_V RL 71 jX10_seal 4 := ⟨⟨gt_of 673 (by decide +kernel) (by decide +kernel), wd_X10_seal, wn_X10, by decide +kernel, by decide⟩, wm_X10_seal, we_X10_seal⟩
theorem lk_L_75 : lk_V RL 75 jX12_seal 4 := ⟨⟨gt_of 1172 (by decide +kernel) (by decide +kernel), wd_X12_seal, wn_X12, by decide +kernel, by decide⟩, wm_X12_seal, we_X12_seal⟩
theorem lk_L_76 : lk_V RL 76 jX10_paper 2 := ⟨⟨gt_of 705 (by decide +kernel) (by decide +kernel), wd_X10_paper, wn_X10, by decide +kernel, by decide⟩, wm_X10_paper, we_X10_paper⟩
theorem lk_L_79 : lk_V RL 79 jX12_paper 2 := ⟨⟨gt_of 1193 (by decide +kernel) (by decide +kernel), wd_X12_paper, wn_X12, by decide +kernel, by decide⟩, wm_X12_paper, we_X12_paper⟩
theorem lk_L_80 : lk_V RL 80 jX10_stamps 2 := ⟨⟨gt_of 731 (by decide +kernel) (by decide +kernel), wd_X10_stamps, wn_X10, by decide +kernel, by decide⟩, wm_X10_stamps, we_X10_stamps⟩
theorem lk_L_83 : lk_V RL 83 jX12_stamps 2 := ⟨⟨gt_of 1201 (by decide +kernel) (by decide +kernel), wd_X12_stamps, wn_X12, by decide +kernel, by decide⟩, wm_X12_stamps, we_X12_stamps⟩
theorem lk_L_84 : lk_V RL 84 jX10_about 2 := ⟨⟨gt_of 736 (by decide +kernel) (by decide +kernel), wd_X10_about, wn_X10, by decide +kernel, by decide⟩, wm_X10_about, we_X10_about⟩
theorem lk_L_87 : lk_V RL 87 jX12_about 2 := ⟨⟨gt_of 1205 (by decide +kernel) (by decide +kernel), wd_X12_about, wn_X12, by decide +kernel, by decide⟩, wm_X12_about, we_X12_about⟩
theorem lk_L_88 : lk_V RL 88 jX10_known 2 := ⟨⟨gt_of 741 (by decide +kernel) (by decide +kernel), wd_X10_known, wn_X10, by decide +kernel, by decide⟩, wm_X10_known, we_X10_known⟩
theorem lk_L_91 : lk_V RL 91 jX12_known 2 := ⟨⟨gt_of 1209 (by decide +kernel) (by decide +kernel), wd_X12_known, wn_X12, by decide +kernel, by decide⟩, wm_X12_known, we_X12_known⟩
theorem lk_L_92 : lk_V RL 92 jX10_sum 2 := ⟨⟨gt_of 753 (by decide +kernel) (by decide +kernel), wd_X10_sum, wn_X10, by decide +kernel, by decide⟩, wm_X10_sum, we_X10_sum⟩
theorem lk_L_95 : lk_V RL 95 jX12_sum 2 := ⟨⟨gt_of 1213 (by decide +kernel) (by decide +kernel), wd_X12_sum, wn_X12, by decide +kernel, by decide⟩, wm_X12_sum, we_X12_sum⟩
theorem lk_L_96 : lk_V RL 96 jX10_homes 1 := ⟨⟨gt_of 761 (by decide +kernel) (by decide +kernel), wd_X10_homes, wn_X10, by decide +kernel, by decide⟩, wm_X10_homes, we_X10_homes⟩
theorem lk_L_99 : lk_V RL 99 jX12_homes 1 := ⟨⟨gt_of 1217 (by decide +kernel) (by decide +kernel), wd_X12_homes, wn_X12, by decide +kernel, by decide⟩, wm_X12_homes, we_X12_homes⟩
theorem lk_L_100 : lk_V RL 100 jX10_difference 1 := ⟨⟨gt_of 769 (by decide +kernel) (by decide +kernel), wd_X10_difference, wn_X10, by decide +kernel, by decide⟩, wm_X10_difference, we_X10_difference⟩
theorem lk_L_103 : lk_V RL 103 jX12_difference 1 := ⟨⟨gt_of 1225 (by decide +kernel) (by decide +kernel), wd_X12_difference, wn_X12, by decide +kernel, by decide⟩, wm_X12_difference, we_X12_difference⟩
theorem lk_L_104 : lk_V RL 104 jX10_unlike 1 := ⟨⟨gt_of 773 (by decide +kernel) (by decide +kernel), wd_X10_unlike, wn_X10, by decide +kernel, by decide⟩, wm_X10_unlike, we_X10_unlike⟩
theorem lk_L_107 : lk_V RL 107 jX12_unlike 1 := ⟨⟨gt_of 1229 (by decide +kernel) (by decide +kernel), wd_X12_unlike, wn_X12, by decide +kernel, by decide⟩, wm_X12_unlike, we_X12_unlike⟩
theorem lk_L_108 : lk_V RL 108 jX10_count 1 := ⟨⟨gt_of 777 (by decide +kernel) (by decide +kernel), wd_X10_count, wn_X10, by decide +kernel, by decide⟩, wm_X10_count, we_X10_count⟩
theorem lk_L_111 : lk_V RL 111 jX12_count 1 := ⟨⟨gt_of 1233 (by decide +kernel) (by decide +kernel), wd_X12_count, wn_X12, by decide +kernel, by decide⟩, wm_X12_count, we_X12_count⟩
theorem lk_L_112 : lk_V RL 112 jX10_trouble 0 := ⟨⟨gt_of 781 (by decide +kernel) (by decide +kernel), wd_X10_trouble, wn_X10, by decide +kernel, by decide⟩, wm_X10_trouble, we_X10_trouble⟩
theorem lk_L_115 : lk_V RL 115 jX12_trouble 0 := ⟨⟨gt_of 1237 (by decide +kernel) (by decide +kernel), wd_X12_trouble, wn_X12, by decide +kernel, by decide⟩, wm_X12_trouble, we_X12_trouble⟩
end
