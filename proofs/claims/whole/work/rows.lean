section
-- ===== PART A: goes FIRST, ahead of the names: the tables' words, and 'selects' of the private methods out of them =====
/-- a private method of a class that the tables say can be made, by its rows of tables_1 -/
def lw_okq (q : MethodName × Nat) : Prop := (q.1.cls ≠ "java/lang/invoke/MethodHandle" ∧ q.1.cls ≠ "java/lang/invoke/VarHandle") ∧ Cond.instantiable q.1.cls q.2 ∈ tables_1 ∧ Cond.privateMethod q.1 ∈ tables_1 ∧ Cond.instanceMethod q.1 ∈ tables_1
theorem lw_p0 : lw_okq (⟨"ConsulDesk", "refuse", "(I)I"⟩, 13) := ⟨⟨by decide +kernel, by decide +kernel⟩, List.mem_of_getElem? (i := 24) (by decide +kernel), List.mem_of_getElem? (i := 164) (by decide +kernel), List.mem_of_getElem? (i := 165) (by decide +kernel)⟩
theorem lw_p1 : lw_okq (⟨"ConsulDesk", "accept", "(I)I"⟩, 13) := ⟨⟨by decide +kernel, by decide +kernel⟩, List.mem_of_getElem? (i := 24) (by decide +kernel), List.mem_of_getElem? (i := 208) (by decide +kernel), List.mem_of_getElem? (i := 209) (by decide +kernel)⟩
theorem lw_p2 : lw_okq (⟨"ConsulDesk$Tokens", "cutOne", "(LConsulDesk$Tape;II)I"⟩, 4) := ⟨⟨by decide +kernel, by decide +kernel⟩, List.mem_of_getElem? (i := 53) (by decide +kernel), List.mem_of_getElem? (i := 228) (by decide +kernel), List.mem_of_getElem? (i := 229) (by decide +kernel)⟩
theorem lw_p3 : lw_okq (⟨"ConsulDesk$Tokens", "cutWord", "(LConsulDesk$Tape;II)I"⟩, 4) := ⟨⟨by decide +kernel, by decide +kernel⟩, List.mem_of_getElem? (i := 53) (by decide +kernel), List.mem_of_getElem? (i := 239) (by decide +kernel), List.mem_of_getElem? (i := 240) (by decide +kernel)⟩
theorem lw_p4 : lw_okq (⟨"ConsulDesk$Tokens", "put", "(III)V"⟩, 4) := ⟨⟨by decide +kernel, by decide +kernel⟩, List.mem_of_getElem? (i := 53) (by decide +kernel), List.mem_of_getElem? (i := 305) (by decide +kernel), List.mem_of_getElem? (i := 306) (by decide +kernel)⟩
theorem lw_p5 : lw_okq (⟨"ConsulDesk$Tokens", "cutNumber", "(LConsulDesk$Tape;II)I"⟩, 4) := ⟨⟨by decide +kernel, by decide +kernel⟩, List.mem_of_getElem? (i := 53) (by decide +kernel), List.mem_of_getElem? (i := 312) (by decide +kernel), List.mem_of_getElem? (i := 313) (by decide +kernel)⟩
theorem lw_p6 : lw_okq (⟨"ConsulDesk$Reader", "skip", "(I)Z"⟩, 6) := ⟨⟨by decide +kernel, by decide +kernel⟩, List.mem_of_getElem? (i := 75) (by decide +kernel), List.mem_of_getElem? (i := 381) (by decide +kernel), List.mem_of_getElem? (i := 382) (by decide +kernel)⟩
theorem lw_p7 : lw_okq (⟨"ConsulDesk$Reader", "readLine", "(I)LConsulDesk$Line;"⟩, 6) := ⟨⟨by decide +kernel, by decide +kernel⟩, List.mem_of_getElem? (i := 75) (by decide +kernel), List.mem_of_getElem? (i := 387) (by decide +kernel), List.mem_of_getElem? (i := 388) (by decide +kernel)⟩
theorem lw_p8 : lw_okq (⟨"ConsulDesk$Reader", "blame", "(I)V"⟩, 6) := ⟨⟨by decide +kernel, by decide +kernel⟩, List.mem_of_getElem? (i := 75) (by decide +kernel), List.mem_of_getElem? (i := 391) (by decide +kernel), List.mem_of_getElem? (i := 392) (by decide +kernel)⟩
theorem lw_p9 : lw_okq (⟨"ConsulDesk$Reader", "need", "(I)I"⟩, 6) := ⟨⟨by decide +kernel, by decide +kernel⟩, List.mem_of_getElem? (i := 75) (by decide +kernel), List.mem_of_getElem? (i := 395) (by decide +kernel), List.mem_of_getElem? (i := 396) (by decide +kernel)⟩
theorem lw_p10 : lw_okq (⟨"ConsulDesk$Reader", "readTests", "(LConsulDesk$Line;)V"⟩, 6) := ⟨⟨by decide +kernel, by decide +kernel⟩, List.mem_of_getElem? (i := 75) (by decide +kernel), List.mem_of_getElem? (i := 421) (by decide +kernel), List.mem_of_getElem? (i := 422) (by decide +kernel)⟩
theorem lw_p11 : lw_okq (⟨"ConsulDesk$Reader", "readTest", "(I)LConsulDesk$Test;"⟩, 6) := ⟨⟨by decide +kernel, by decide +kernel⟩, List.mem_of_getElem? (i := 75) (by decide +kernel), List.mem_of_getElem? (i := 425) (by decide +kernel), List.mem_of_getElem? (i := 426) (by decide +kernel)⟩
theorem lw_p12 : lw_okq (⟨"ConsulDesk$Reader", "needName", "()I"⟩, 6) := ⟨⟨by decide +kernel, by decide +kernel⟩, List.mem_of_getElem? (i := 75) (by decide +kernel), List.mem_of_getElem? (i := 432) (by decide +kernel), List.mem_of_getElem? (i := 433) (by decide +kernel)⟩
theorem lw_p13 : lw_okq (⟨"ConsulDesk$Reader", "readTerms", "(LConsulDesk$Line;)V"⟩, 6) := ⟨⟨by decide +kernel, by decide +kernel⟩, List.mem_of_getElem? (i := 75) (by decide +kernel), List.mem_of_getElem? (i := 452) (by decide +kernel), List.mem_of_getElem? (i := 453) (by decide +kernel)⟩
theorem lw_p14 : lw_okq (⟨"ConsulDesk$Reader", "readTerm", "(I)LConsulDesk$Term;"⟩, 6) := ⟨⟨by decide +kernel, by decide +kernel⟩, List.mem_of_getElem? (i := 75) (by decide +kernel), List.mem_of_getElem? (i := 456) (by decide +kernel), List.mem_of_getElem? (i := 457) (by decide +kernel)⟩
theorem lw_p15 : lw_okq (⟨"ConsulDesk", "sendOut", "()V"⟩, 13) := ⟨⟨by decide +kernel, by decide +kernel⟩, List.mem_of_getElem? (i := 24) (by decide +kernel), List.mem_of_getElem? (i := 493) (by decide +kernel), List.mem_of_getElem? (i := 494) (by decide +kernel)⟩
def lw_privs_1 : List (MethodName × Nat) := [(⟨"ConsulDesk", "refuse", "(I)I"⟩, 13), (⟨"ConsulDesk", "accept", "(I)I"⟩, 13), (⟨"ConsulDesk$Tokens", "cutOne", "(LConsulDesk$Tape;II)I"⟩, 4), (⟨"ConsulDesk$Tokens", "cutWord", "(LConsulDesk$Tape;II)I"⟩, 4), (⟨"ConsulDesk$Tokens", "put", "(III)V"⟩, 4), (⟨"ConsulDesk$Tokens", "cutNumber", "(LConsulDesk$Tape;II)I"⟩, 4), (⟨"ConsulDesk$Reader", "skip", "(I)Z"⟩, 6), (⟨"ConsulDesk$Reader", "readLine", "(I)LConsulDesk$Line;"⟩, 6), (⟨"ConsulDesk$Reader", "blame", "(I)V"⟩, 6), (⟨"ConsulDesk$Reader", "need", "(I)I"⟩, 6), (⟨"ConsulDesk$Reader", "readTests", "(LConsulDesk$Line;)V"⟩, 6), (⟨"ConsulDesk$Reader", "readTest", "(I)LConsulDesk$Test;"⟩, 6), (⟨"ConsulDesk$Reader", "needName", "()I"⟩, 6), (⟨"ConsulDesk$Reader", "readTerms", "(LConsulDesk$Line;)V"⟩, 6), (⟨"ConsulDesk$Reader", "readTerm", "(I)LConsulDesk$Term;"⟩, 6), (⟨"ConsulDesk", "sendOut", "()V"⟩, 13)]
theorem lw_r1 : ∀ q ∈ lw_privs_1, lw_okq q := List.forall_mem_cons.mpr ⟨lw_p0, List.forall_mem_cons.mpr ⟨lw_p1, List.forall_mem_cons.mpr ⟨lw_p2, List.forall_mem_cons.mpr ⟨lw_p3, List.forall_mem_cons.mpr ⟨lw_p4, List.forall_mem_cons.mpr ⟨lw_p5, List.forall_mem_cons.mpr ⟨lw_p6, List.forall_mem_cons.mpr ⟨lw_p7, List.forall_mem_cons.mpr ⟨lw_p8, List.forall_mem_cons.mpr ⟨lw_p9, List.forall_mem_cons.mpr ⟨lw_p10, List.forall_mem_cons.mpr ⟨lw_p11, List.forall_mem_cons.mpr ⟨lw_p12, List.forall_mem_cons.mpr ⟨lw_p13, List.forall_mem_cons.mpr ⟨lw_p14, List.forall_mem_cons.mpr ⟨lw_p15, fun _ h => absurd h List.not_mem_nil⟩⟩⟩⟩⟩⟩⟩⟩⟩⟩⟩⟩⟩⟩⟩⟩
theorem lw_p16 : lw_okq (⟨"ConsulDesk", "portAt", "(I)LConsulDesk$Port;"⟩, 13) := ⟨⟨by decide +kernel, by decide +kernel⟩, List.mem_of_getElem? (i := 24) (by decide +kernel), List.mem_of_getElem? (i := 497) (by decide +kernel), List.mem_of_getElem? (i := 498) (by decide +kernel)⟩
theorem lw_p17 : lw_okq (⟨"ConsulDesk$Port", "accountsCome", "(I)I"⟩, 8) := ⟨⟨by decide +kernel, by decide +kernel⟩, List.mem_of_getElem? (i := 167) (by decide +kernel), List.mem_of_getElem? (i := 567) (by decide +kernel), List.mem_of_getElem? (i := 568) (by decide +kernel)⟩
theorem lw_p18 : lw_okq (⟨"ConsulDesk$Port", "isOut", "(II)Z"⟩, 8) := ⟨⟨by decide +kernel, by decide +kernel⟩, List.mem_of_getElem? (i := 167) (by decide +kernel), List.mem_of_getElem? (i := 572) (by decide +kernel), List.mem_of_getElem? (i := 573) (by decide +kernel)⟩
theorem lw_p19 : lw_okq (⟨"ConsulDesk$Port", "isAskOut", "(II)Z"⟩, 8) := ⟨⟨by decide +kernel, by decide +kernel⟩, List.mem_of_getElem? (i := 167) (by decide +kernel), List.mem_of_getElem? (i := 576) (by decide +kernel), List.mem_of_getElem? (i := 577) (by decide +kernel)⟩
theorem lw_p20 : lw_okq (⟨"ConsulDesk", "tariffAt", "(I)LConsulDesk$Tariff;"⟩, 13) := ⟨⟨by decide +kernel, by decide +kernel⟩, List.mem_of_getElem? (i := 24) (by decide +kernel), List.mem_of_getElem? (i := 600) (by decide +kernel), List.mem_of_getElem? (i := 601) (by decide +kernel)⟩
theorem lw_p21 : lw_okq (⟨"ConsulDesk$Change", "tryWorth", "([IIII)V"⟩, 3) := ⟨⟨by decide +kernel, by decide +kernel⟩, List.mem_of_getElem? (i := 102) (by decide +kernel), List.mem_of_getElem? (i := 682) (by decide +kernel), List.mem_of_getElem? (i := 683) (by decide +kernel)⟩
theorem lw_p22 : lw_okq (⟨"ConsulDesk", "paperAt", "(I)LConsulDesk$Paper;"⟩, 13) := ⟨⟨by decide +kernel, by decide +kernel⟩, List.mem_of_getElem? (i := 24) (by decide +kernel), List.mem_of_getElem? (i := 710) (by decide +kernel), List.mem_of_getElem? (i := 711) (by decide +kernel)⟩
theorem lw_p23 : lw_okq (⟨"ConsulDesk", "isKnown", "(LConsulDesk$Paper;I)Z"⟩, 13) := ⟨⟨by decide +kernel, by decide +kernel⟩, List.mem_of_getElem? (i := 24) (by decide +kernel), List.mem_of_getElem? (i := 723) (by decide +kernel), List.mem_of_getElem? (i := 724) (by decide +kernel)⟩
theorem lw_p24 : lw_okq (⟨"ConsulDesk", "knownDay", "(LConsulDesk$Paper;)I"⟩, 13) := ⟨⟨by decide +kernel, by decide +kernel⟩, List.mem_of_getElem? (i := 24) (by decide +kernel), List.mem_of_getElem? (i := 727) (by decide +kernel), List.mem_of_getElem? (i := 728) (by decide +kernel)⟩
theorem lw_p25 : lw_okq (⟨"ConsulDesk", "isPast", "(I)Z"⟩, 13) := ⟨⟨by decide +kernel, by decide +kernel⟩, List.mem_of_getElem? (i := 24) (by decide +kernel), List.mem_of_getElem? (i := 746) (by decide +kernel), List.mem_of_getElem? (i := 747) (by decide +kernel)⟩
theorem lw_p26 : lw_okq (⟨"ConsulDesk", "isKnownOf", "(III)Z"⟩, 13) := ⟨⟨by decide +kernel, by decide +kernel⟩, List.mem_of_getElem? (i := 24) (by decide +kernel), List.mem_of_getElem? (i := 750) (by decide +kernel), List.mem_of_getElem? (i := 751) (by decide +kernel)⟩
theorem lw_p27 : lw_okq (⟨"ConsulDesk", "chargedFor", "(I)I"⟩, 13) := ⟨⟨by decide +kernel, by decide +kernel⟩, List.mem_of_getElem? (i := 24) (by decide +kernel), List.mem_of_getElem? (i := 758) (by decide +kernel), List.mem_of_getElem? (i := 759) (by decide +kernel)⟩
theorem lw_p28 : lw_okq (⟨"ConsulDesk", "homeFee", "(I)I"⟩, 13) := ⟨⟨by decide +kernel, by decide +kernel⟩, List.mem_of_getElem? (i := 24) (by decide +kernel), List.mem_of_getElem? (i := 766) (by decide +kernel), List.mem_of_getElem? (i := 767) (by decide +kernel)⟩
theorem lw_p29 : lw_okq (⟨"java/lang/Throwable", "fillInStackTrace", "(I)Ljava/lang/Throwable;"⟩, 6) := ⟨⟨by decide +kernel, by decide +kernel⟩, List.mem_of_getElem? (i := 828) (by decide +kernel), List.mem_of_getElem? (i := 826) (by decide +kernel), List.mem_of_getElem? (i := 827) (by decide +kernel)⟩
theorem lw_p30 : lw_okq (⟨"ConsulDeskModel", "refused", "(I)I"⟩, 50) := ⟨⟨by decide +kernel, by decide +kernel⟩, List.mem_of_getElem? (i := 786) (by decide +kernel), List.mem_of_getElem? (i := 1021) (by decide +kernel), List.mem_of_getElem? (i := 1022) (by decide +kernel)⟩
theorem lw_p31 : lw_okq (⟨"ConsulDeskModel", "sends", "(III)V"⟩, 50) := ⟨⟨by decide +kernel, by decide +kernel⟩, List.mem_of_getElem? (i := 786) (by decide +kernel), List.mem_of_getElem? (i := 1025) (by decide +kernel), List.mem_of_getElem? (i := 1026) (by decide +kernel)⟩
def lw_privs_2 : List (MethodName × Nat) := [(⟨"ConsulDesk", "portAt", "(I)LConsulDesk$Port;"⟩, 13), (⟨"ConsulDesk$Port", "accountsCome", "(I)I"⟩, 8), (⟨"ConsulDesk$Port", "isOut", "(II)Z"⟩, 8), (⟨"ConsulDesk$Port", "isAskOut", "(II)Z"⟩, 8), (⟨"ConsulDesk", "tariffAt", "(I)LConsulDesk$Tariff;"⟩, 13), (⟨"ConsulDesk$Change", "tryWorth", "([IIII)V"⟩, 3), (⟨"ConsulDesk", "paperAt", "(I)LConsulDesk$Paper;"⟩, 13), (⟨"ConsulDesk", "isKnown", "(LConsulDesk$Paper;I)Z"⟩, 13), (⟨"ConsulDesk", "knownDay", "(LConsulDesk$Paper;)I"⟩, 13), (⟨"ConsulDesk", "isPast", "(I)Z"⟩, 13), (⟨"ConsulDesk", "isKnownOf", "(III)Z"⟩, 13), (⟨"ConsulDesk", "chargedFor", "(I)I"⟩, 13), (⟨"ConsulDesk", "homeFee", "(I)I"⟩, 13), (⟨"java/lang/Throwable", "fillInStackTrace", "(I)Ljava/lang/Throwable;"⟩, 6), (⟨"ConsulDeskModel", "refused", "(I)I"⟩, 50), (⟨"ConsulDeskModel", "sends", "(III)V"⟩, 50)]
theorem lw_r2 : ∀ q ∈ lw_privs_2, lw_okq q := List.forall_mem_cons.mpr ⟨lw_p16, List.forall_mem_cons.mpr ⟨lw_p17, List.forall_mem_cons.mpr ⟨lw_p18, List.forall_mem_cons.mpr ⟨lw_p19, List.forall_mem_cons.mpr ⟨lw_p20, List.forall_mem_cons.mpr ⟨lw_p21, List.forall_mem_cons.mpr ⟨lw_p22, List.forall_mem_cons.mpr ⟨lw_p23, List.forall_mem_cons.mpr ⟨lw_p24, List.forall_mem_cons.mpr ⟨lw_p25, List.forall_mem_cons.mpr ⟨lw_p26, List.forall_mem_cons.mpr ⟨lw_p27, List.forall_mem_cons.mpr ⟨lw_p28, List.forall_mem_cons.mpr ⟨lw_p29, List.forall_mem_cons.mpr ⟨lw_p30, List.forall_mem_cons.mpr ⟨lw_p31, fun _ h => absurd h List.not_mem_nil⟩⟩⟩⟩⟩⟩⟩⟩⟩⟩⟩⟩⟩⟩⟩⟩
theorem lw_p32 : lw_okq (⟨"ConsulDeskModel", "done", "(I)I"⟩, 50) := ⟨⟨by decide +kernel, by decide +kernel⟩, List.mem_of_getElem? (i := 786) (by decide +kernel), List.mem_of_getElem? (i := 1030) (by decide +kernel), List.mem_of_getElem? (i := 1031) (by decide +kernel)⟩
theorem lw_p33 : lw_okq (⟨"ConsulDeskModel", "reads", "()V"⟩, 50) := ⟨⟨by decide +kernel, by decide +kernel⟩, List.mem_of_getElem? (i := 786) (by decide +kernel), List.mem_of_getElem? (i := 1042) (by decide +kernel), List.mem_of_getElem? (i := 1043) (by decide +kernel)⟩
theorem lw_p34 : lw_okq (⟨"ConsulDeskModel", "next", "()V"⟩, 50) := ⟨⟨by decide +kernel, by decide +kernel⟩, List.mem_of_getElem? (i := 786) (by decide +kernel), List.mem_of_getElem? (i := 1046) (by decide +kernel), List.mem_of_getElem? (i := 1047) (by decide +kernel)⟩
theorem lw_p35 : lw_okq (⟨"ConsulDeskModel", "byteAt", "(I)I"⟩, 50) := ⟨⟨by decide +kernel, by decide +kernel⟩, List.mem_of_getElem? (i := 786) (by decide +kernel), List.mem_of_getElem? (i := 1050) (by decide +kernel), List.mem_of_getElem? (i := 1051) (by decide +kernel)⟩
theorem lw_p36 : lw_okq (⟨"ConsulDeskModel", "isWord", "(Ljava/lang/String;)Z"⟩, 50) := ⟨⟨by decide +kernel, by decide +kernel⟩, List.mem_of_getElem? (i := 786) (by decide +kernel), List.mem_of_getElem? (i := 1062) (by decide +kernel), List.mem_of_getElem? (i := 1063) (by decide +kernel)⟩
theorem lw_p37 : lw_okq (⟨"ConsulDeskModel", "stop", "(I)LConsulDeskModel$Stop;"⟩, 50) := ⟨⟨by decide +kernel, by decide +kernel⟩, List.mem_of_getElem? (i := 786) (by decide +kernel), List.mem_of_getElem? (i := 1071) (by decide +kernel), List.mem_of_getElem? (i := 1072) (by decide +kernel)⟩
theorem lw_p38 : lw_okq (⟨"ConsulDeskModel", "readTest", "(I)V"⟩, 50) := ⟨⟨by decide +kernel, by decide +kernel⟩, List.mem_of_getElem? (i := 786) (by decide +kernel), List.mem_of_getElem? (i := 1076) (by decide +kernel), List.mem_of_getElem? (i := 1077) (by decide +kernel)⟩
theorem lw_p39 : lw_okq (⟨"ConsulDeskModel", "nameHere", "()I"⟩, 50) := ⟨⟨by decide +kernel, by decide +kernel⟩, List.mem_of_getElem? (i := 786) (by decide +kernel), List.mem_of_getElem? (i := 1080) (by decide +kernel), List.mem_of_getElem? (i := 1081) (by decide +kernel)⟩
theorem lw_p40 : lw_okq (⟨"ConsulDeskModel", "is", "(I)Z"⟩, 50) := ⟨⟨by decide +kernel, by decide +kernel⟩, List.mem_of_getElem? (i := 786) (by decide +kernel), List.mem_of_getElem? (i := 1090) (by decide +kernel), List.mem_of_getElem? (i := 1091) (by decide +kernel)⟩
theorem lw_p41 : lw_okq (⟨"ConsulDeskModel", "readTerm", "(I)V"⟩, 50) := ⟨⟨by decide +kernel, by decide +kernel⟩, List.mem_of_getElem? (i := 786) (by decide +kernel), List.mem_of_getElem? (i := 1094) (by decide +kernel), List.mem_of_getElem? (i := 1095) (by decide +kernel)⟩
theorem lw_p42 : lw_okq (⟨"ConsulDeskModel", "isPort", "(I)Z"⟩, 50) := ⟨⟨by decide +kernel, by decide +kernel⟩, List.mem_of_getElem? (i := 786) (by decide +kernel), List.mem_of_getElem? (i := 1110) (by decide +kernel), List.mem_of_getElem? (i := 1111) (by decide +kernel)⟩
theorem lw_p43 : lw_okq (⟨"ConsulDeskModel", "isTariff", "(I)Z"⟩, 50) := ⟨⟨by decide +kernel, by decide +kernel⟩, List.mem_of_getElem? (i := 786) (by decide +kernel), List.mem_of_getElem? (i := 1114) (by decide +kernel), List.mem_of_getElem? (i := 1115) (by decide +kernel)⟩
theorem lw_p44 : lw_okq (⟨"ConsulDeskModel", "hasCome", "(III)Z"⟩, 50) := ⟨⟨by decide +kernel, by decide +kernel⟩, List.mem_of_getElem? (i := 786) (by decide +kernel), List.mem_of_getElem? (i := 1118) (by decide +kernel), List.mem_of_getElem? (i := 1119) (by decide +kernel)⟩
theorem lw_p45 : lw_okq (⟨"ConsulDeskModel", "comes", "(II)I"⟩, 50) := ⟨⟨by decide +kernel, by decide +kernel⟩, List.mem_of_getElem? (i := 786) (by decide +kernel), List.mem_of_getElem? (i := 1122) (by decide +kernel), List.mem_of_getElem? (i := 1123) (by decide +kernel)⟩
theorem lw_p46 : lw_okq (⟨"ConsulDeskModel", "asks", "(II)V"⟩, 50) := ⟨⟨by decide +kernel, by decide +kernel⟩, List.mem_of_getElem? (i := 786) (by decide +kernel), List.mem_of_getElem? (i := 1130) (by decide +kernel), List.mem_of_getElem? (i := 1131) (by decide +kernel)⟩
theorem lw_p47 : lw_okq (⟨"ConsulDeskModel", "forceOf", "(I)I"⟩, 50) := ⟨⟨by decide +kernel, by decide +kernel⟩, List.mem_of_getElem? (i := 786) (by decide +kernel), List.mem_of_getElem? (i := 1138) (by decide +kernel), List.mem_of_getElem? (i := 1139) (by decide +kernel)⟩
def lw_privs_3 : List (MethodName × Nat) := [(⟨"ConsulDeskModel", "done", "(I)I"⟩, 50), (⟨"ConsulDeskModel", "reads", "()V"⟩, 50), (⟨"ConsulDeskModel", "next", "()V"⟩, 50), (⟨"ConsulDeskModel", "byteAt", "(I)I"⟩, 50), (⟨"ConsulDeskModel", "isWord", "(Ljava/lang/String;)Z"⟩, 50), (⟨"ConsulDeskModel", "stop", "(I)LConsulDeskModel$Stop;"⟩, 50), (⟨"ConsulDeskModel", "readTest", "(I)V"⟩, 50), (⟨"ConsulDeskModel", "nameHere", "()I"⟩, 50), (⟨"ConsulDeskModel", "is", "(I)Z"⟩, 50), (⟨"ConsulDeskModel", "readTerm", "(I)V"⟩, 50), (⟨"ConsulDeskModel", "isPort", "(I)Z"⟩, 50), (⟨"ConsulDeskModel", "isTariff", "(I)Z"⟩, 50), (⟨"ConsulDeskModel", "hasCome", "(III)Z"⟩, 50), (⟨"ConsulDeskModel", "comes", "(II)I"⟩, 50), (⟨"ConsulDeskModel", "asks", "(II)V"⟩, 50), (⟨"ConsulDeskModel", "forceOf", "(I)I"⟩, 50)]
theorem lw_r3 : ∀ q ∈ lw_privs_3, lw_okq q := List.forall_mem_cons.mpr ⟨lw_p32, List.forall_mem_cons.mpr ⟨lw_p33, List.forall_mem_cons.mpr ⟨lw_p34, List.forall_mem_cons.mpr ⟨lw_p35, List.forall_mem_cons.mpr ⟨lw_p36, List.forall_mem_cons.mpr ⟨lw_p37, List.forall_mem_cons.mpr ⟨lw_p38, List.forall_mem_cons.mpr ⟨lw_p39, List.forall_mem_cons.mpr ⟨lw_p40, List.forall_mem_cons.mpr ⟨lw_p41, List.forall_mem_cons.mpr ⟨lw_p42, List.forall_mem_cons.mpr ⟨lw_p43, List.forall_mem_cons.mpr ⟨lw_p44, List.forall_mem_cons.mpr ⟨lw_p45, List.forall_mem_cons.mpr ⟨lw_p46, List.forall_mem_cons.mpr ⟨lw_p47, fun _ h => absurd h List.not_mem_nil⟩⟩⟩⟩⟩⟩⟩⟩⟩⟩⟩⟩⟩⟩⟩⟩
theorem lw_p48 : lw_okq (⟨"ConsulDeskModel", "feeOf", "(IIIIII)I"⟩, 50) := ⟨⟨by decide +kernel, by decide +kernel⟩, List.mem_of_getElem? (i := 786) (by decide +kernel), List.mem_of_getElem? (i := 1165) (by decide +kernel), List.mem_of_getElem? (i := 1166) (by decide +kernel)⟩
theorem lw_p49 : lw_okq (⟨"ConsulDeskModel", "chooses", "(II)Z"⟩, 50) := ⟨⟨by decide +kernel, by decide +kernel⟩, List.mem_of_getElem? (i := 786) (by decide +kernel), List.mem_of_getElem? (i := 1177) (by decide +kernel), List.mem_of_getElem? (i := 1178) (by decide +kernel)⟩
theorem lw_p50 : lw_okq (⟨"ConsulDeskModel", "homeOf", "(I)I"⟩, 50) := ⟨⟨by decide +kernel, by decide +kernel⟩, List.mem_of_getElem? (i := 786) (by decide +kernel), List.mem_of_getElem? (i := 1198) (by decide +kernel), List.mem_of_getElem? (i := 1199) (by decide +kernel)⟩
theorem lw_p51 : lw_okq (⟨"ConsulDeskModel", "homesFee", "(I)I"⟩, 50) := ⟨⟨by decide +kernel, by decide +kernel⟩, List.mem_of_getElem? (i := 786) (by decide +kernel), List.mem_of_getElem? (i := 1222) (by decide +kernel), List.mem_of_getElem? (i := 1223) (by decide +kernel)⟩
def lw_privs_4 : List (MethodName × Nat) := [(⟨"ConsulDeskModel", "feeOf", "(IIIIII)I"⟩, 50), (⟨"ConsulDeskModel", "chooses", "(II)Z"⟩, 50), (⟨"ConsulDeskModel", "homeOf", "(I)I"⟩, 50), (⟨"ConsulDeskModel", "homesFee", "(I)I"⟩, 50)]
theorem lw_r4 : ∀ q ∈ lw_privs_4, lw_okq q := List.forall_mem_cons.mpr ⟨lw_p48, List.forall_mem_cons.mpr ⟨lw_p49, List.forall_mem_cons.mpr ⟨lw_p50, List.forall_mem_cons.mpr ⟨lw_p51, fun _ h => absurd h List.not_mem_nil⟩⟩⟩⟩
def lw_privs : List (MethodName × Nat) := lw_privs_1 ++ (lw_privs_2 ++ (lw_privs_3 ++ (lw_privs_4)))
def lw_tbl : List Cond := k2_sels lw_privs ++ tables_1
theorem lw_privs_ok : ∀ q ∈ lw_privs, lw_okq q := by
  show ∀ q ∈ lw_privs_1 ++ (lw_privs_2 ++ (lw_privs_3 ++ (lw_privs_4))), lw_okq q
  exact List.forall_mem_append.mpr ⟨lw_r1, List.forall_mem_append.mpr ⟨lw_r2, List.forall_mem_append.mpr ⟨lw_r3, lw_r4⟩⟩⟩

/-- the words of the tables that every method may lean on -/
def gt_ws : List Cond := lw_tbl.filter goodWord
theorem gt_good : ∀ w ∈ gt_ws, goodWord w = true := fun w h => (List.mem_filter.mp h).2
theorem gt_tbl : ∀ w ∈ gt_ws, w ∈ lw_tbl := fun w h => (List.mem_filter.mp h).1
theorem gt_of {w : Cond} (n : Nat) (h : tables_1[n]? = some w) (g : goodWord w = true) : w ∈ gt_ws := List.mem_filter.mpr ⟨List.mem_append_right _ (List.mem_of_getElem? h), g⟩
theorem gt_sel {w : Cond} (n : Nat) (h : (k2_sels lw_privs)[n]? = some w) (g : goodWord w = true) : w ∈ gt_ws := List.mem_filter.mpr ⟨List.mem_append_left _ (List.mem_of_getElem? h), g⟩
end
section
def RX0 : String := "ConsulDesk$Change"
def TX0 : u_T := fun k => match k with
  | 0 => ("ConsulDesk$Change", "tried", "[I", true)
  | 1 => ("ConsulDesk$Change", "best", "[I", false)
  | _ => ("ConsulDesk$Change", "bestMany", "I", false)
def tyX0 : Nat → FieldType := fun k => match k with
  | 0 => .array .int
  | 1 => .array .int
  | _ => .int
theorem nmX0 : ∀ a, a < 3 → ∀ b, b < 3 → a ≠ b → (TX0 a).2.1 ≠ (TX0 b).2.1 := by decide +kernel
theorem tyX0_ok : ∀ k, k < 3 → parseFieldDescriptor (TX0 k).2.2.1 = some (tyX0 k) := by decide +kernel
abbrev cX0_init : ByteArray := prog_2_method_1_code
def yX0_init : MethodName := ⟨RX0, "<init>", "()V"⟩
abbrev cX0_fewest : ByteArray := prog_2_method_2_code
def yX0_fewest : MethodName := ⟨RX0, "fewest", "([II)[I"⟩
abbrev cX0_tryWorth : ByteArray := prog_2_method_3_code
def yX0_tryWorth : MethodName := ⟨RX0, "tryWorth", "([IIII)V"⟩
def RX1 : String := "ConsulDesk$Line"
def TX1 : u_T := fun k => match k with
  | 0 => ("ConsulDesk$Line", "kind", "I", true)
  | 1 => ("ConsulDesk$Line", "tests", "[LConsulDesk$Test;", true)
  | _ => ("ConsulDesk$Line", "terms", "[LConsulDesk$Term;", true)
def tyX1 : Nat → FieldType := fun k => match k with
  | 0 => .int
  | 1 => .array (.object "ConsulDesk$Test")
  | _ => .array (.object "ConsulDesk$Term")
theorem nmX1 : ∀ a, a < 3 → ∀ b, b < 3 → a ≠ b → (TX1 a).2.1 ≠ (TX1 b).2.1 := by decide +kernel
theorem tyX1_ok : ∀ k, k < 3 → parseFieldDescriptor (TX1 k).2.2.1 = some (tyX1 k) := by decide +kernel
abbrev cX1_init : ByteArray := prog_3_method_1_code
def yX1_init : MethodName := ⟨RX1, "<init>", "(I)V"⟩
abbrev cX1_fits : ByteArray := prog_3_method_2_code
def yX1_fits : MethodName := ⟨RX1, "fits", "(LConsulDesk$Paper;)Z"⟩
abbrev cX1_total : ByteArray := prog_3_method_3_code
def yX1_total : MethodName := ⟨RX1, "total", "(LConsulDesk$Paper;)I"⟩
def RX2 : String := "ConsulDesk$Paper"
def TX2 : u_T := fun k => match k with
  | 0 => ("ConsulDesk$Paper", "port", "I", true)
  | 1 => ("ConsulDesk$Paper", "kind", "I", true)
  | 2 => ("ConsulDesk$Paper", "value", "I", true)
  | 3 => ("ConsulDesk$Paper", "sheets", "I", true)
  | 4 => ("ConsulDesk$Paper", "ahead", "I", true)
  | 5 => ("ConsulDesk$Paper", "day", "I", false)
  | 6 => ("ConsulDesk$Paper", "charged", "I", false)
  | 7 => ("ConsulDesk$Paper", "tariff", "I", false)
  | _ => ("ConsulDesk$Paper", "taken", "[I", false)
def tyX2 : Nat → FieldType := fun k => match k with
  | 0 => .int
  | 1 => .int
  | 2 => .int
  | 3 => .int
  | 4 => .int
  | 5 => .int
  | 6 => .int
  | 7 => .int
  | _ => .array .int
theorem nmX2 : ∀ a, a < 9 → ∀ b, b < 9 → a ≠ b → (TX2 a).2.1 ≠ (TX2 b).2.1 := by decide +kernel
theorem tyX2_ok : ∀ k, k < 9 → parseFieldDescriptor (TX2 k).2.2.1 = some (tyX2 k) := by decide +kernel
abbrev cX2_init : ByteArray := prog_4_method_1_code
def yX2_init : MethodName := ⟨RX2, "<init>", "(IIIII)V"⟩
abbrev cX2_charge : ByteArray := prog_4_method_2_code
def yX2_charge : MethodName := ⟨RX2, "charge", "(III[I)V"⟩
abbrev cX2_measure : ByteArray := prog_4_method_3_code
def yX2_measure : MethodName := ⟨RX2, "measure", "(I)I"⟩
abbrev cX2_stampsOf : ByteArray := prog_4_method_4_code
def yX2_stampsOf : MethodName := ⟨RX2, "stampsOf", "(I)I"⟩
abbrev cX2_allStamps : ByteArray := prog_4_method_5_code
def yX2_allStamps : MethodName := ⟨RX2, "allStamps", "()I"⟩
def RX3 : String := "ConsulDesk$Port"
def TX3 : u_T := fun k => match k with
  | 0 => ("ConsulDesk$Port", "days", "I", true)
  | 1 => ("ConsulDesk$Port", "opened", "I", true)
  | 2 => ("ConsulDesk$Port", "stock", "[I", true)
  | 3 => ("ConsulDesk$Port", "firstDays", "[I", true)
  | 4 => ("ConsulDesk$Port", "losses", "[Z", true)
  | 5 => ("ConsulDesk$Port", "sent", "I", false)
  | 6 => ("ConsulDesk$Port", "chest", "I", false)
  | _ => ("ConsulDesk$Port", "papers", "I", false)
def tyX3 : Nat → FieldType := fun k => match k with
  | 0 => .int
  | 1 => .int
  | 2 => .array .int
  | 3 => .array .int
  | 4 => .array .boolean
  | 5 => .int
  | 6 => .int
  | _ => .int
theorem nmX3 : ∀ a, a < 8 → ∀ b, b < 8 → a ≠ b → (TX3 a).2.1 ≠ (TX3 b).2.1 := by decide +kernel
theorem tyX3_ok : ∀ k, k < 8 → parseFieldDescriptor (TX3 k).2.2.1 = some (tyX3 k) := by decide +kernel
abbrev cX3_init : ByteArray := prog_5_method_1_code
def yX3_init : MethodName := ⟨RX3, "<init>", "(II)V"⟩
abbrev cX3_send : ByteArray := prog_5_method_2_code
def yX3_send : MethodName := ⟨RX3, "send", "(I)V"⟩
abbrev cX3_wasSent : ByteArray := prog_5_method_3_code
def yX3_wasSent : MethodName := ⟨RX3, "wasSent", "(I)Z"⟩
abbrev cX3_lose : ByteArray := prog_5_method_4_code
def yX3_lose : MethodName := ⟨RX3, "lose", "(II)Z"⟩
abbrev cX3_askDay : ByteArray := prog_5_method_5_code
def yX3_askDay : MethodName := ⟨RX3, "askDay", "(II)I"⟩
abbrev cX3_comeDay : ByteArray := prog_5_method_6_code
def yX3_comeDay : MethodName := ⟨RX3, "comeDay", "(II)I"⟩
abbrev cX3_inForce : ByteArray := prog_5_method_7_code
def yX3_inForce : MethodName := ⟨RX3, "inForce", "(I)I"⟩
abbrev cX3_onTheWay : ByteArray := prog_5_method_8_code
def yX3_onTheWay : MethodName := ⟨RX3, "onTheWay", "(II)I"⟩
abbrev cX3_isOut : ByteArray := prog_5_method_9_code
def yX3_isOut : MethodName := ⟨RX3, "isOut", "(II)Z"⟩
abbrev cX3_isAskOut : ByteArray := prog_5_method_10_code
def yX3_isAskOut : MethodName := ⟨RX3, "isAskOut", "(II)Z"⟩
abbrev cX3_accountsSent : ByteArray := prog_5_method_11_code
def yX3_accountsSent : MethodName := ⟨RX3, "accountsSent", "(I)I"⟩
abbrev cX3_accountsCome : ByteArray := prog_5_method_12_code
def yX3_accountsCome : MethodName := ⟨RX3, "accountsCome", "(I)I"⟩
abbrev cX3_stampsOf : ByteArray := prog_5_method_13_code
def yX3_stampsOf : MethodName := ⟨RX3, "stampsOf", "(I)I"⟩
abbrev cX3_addStamps : ByteArray := prog_5_method_14_code
def yX3_addStamps : MethodName := ⟨RX3, "addStamps", "(II)V"⟩
abbrev cX3_book : ByteArray := prog_5_method_15_code
def yX3_book : MethodName := ⟨RX3, "book", "(I[I)V"⟩
def RX4 : String := "ConsulDesk$Reader"
def TX4 : u_T := fun k => match k with
  | 0 => ("ConsulDesk$Reader", "fault", "I", false)
  | 1 => ("ConsulDesk$Reader", "place", "I", false)
  | 2 => ("ConsulDesk$Reader", "tokens", "LConsulDesk$Tokens;", true)
  | 3 => ("ConsulDesk$Reader", "next", "I", false)
  | 4 => ("ConsulDesk$Reader", "kind", "I", false)
  | _ => ("ConsulDesk$Reader", "number", "I", false)
def tyX4 : Nat → FieldType := fun k => match k with
  | 0 => .int
  | 1 => .int
  | 2 => .object "ConsulDesk$Tokens"
  | 3 => .int
  | 4 => .int
  | _ => .int
theorem nmX4 : ∀ a, a < 6 → ∀ b, b < 6 → a ≠ b → (TX4 a).2.1 ≠ (TX4 b).2.1 := by decide +kernel
theorem tyX4_ok : ∀ k, k < 6 → parseFieldDescriptor (TX4 k).2.2.1 = some (tyX4 k) := by decide +kernel
abbrev cX4_init : ByteArray := prog_6_method_1_code
def yX4_init : MethodName := ⟨RX4, "<init>", "(LConsulDesk$Tokens;)V"⟩
abbrev cX4_read : ByteArray := prog_6_method_2_code
def yX4_read : MethodName := ⟨RX4, "read", "()[LConsulDesk$Line;"⟩
abbrev cX4_readLine : ByteArray := prog_6_method_3_code
def yX4_readLine : MethodName := ⟨RX4, "readLine", "(I)LConsulDesk$Line;"⟩
abbrev cX4_readTests : ByteArray := prog_6_method_4_code
def yX4_readTests : MethodName := ⟨RX4, "readTests", "(LConsulDesk$Line;)V"⟩
abbrev cX4_readTest : ByteArray := prog_6_method_5_code
def yX4_readTest : MethodName := ⟨RX4, "readTest", "(I)LConsulDesk$Test;"⟩
abbrev cX4_readTerms : ByteArray := prog_6_method_6_code
def yX4_readTerms : MethodName := ⟨RX4, "readTerms", "(LConsulDesk$Line;)V"⟩
abbrev cX4_readTerm : ByteArray := prog_6_method_7_code
def yX4_readTerm : MethodName := ⟨RX4, "readTerm", "(I)LConsulDesk$Term;"⟩
abbrev cX4_needName : ByteArray := prog_6_method_8_code
def yX4_needName : MethodName := ⟨RX4, "needName", "()I"⟩
abbrev cX4_need : ByteArray := prog_6_method_9_code
def yX4_need : MethodName := ⟨RX4, "need", "(I)I"⟩
abbrev cX4_skip : ByteArray := prog_6_method_10_code
def yX4_skip : MethodName := ⟨RX4, "skip", "(I)Z"⟩
abbrev cX4_blame : ByteArray := prog_6_method_11_code
def yX4_blame : MethodName := ⟨RX4, "blame", "(I)V"⟩
abbrev cX4_isName : ByteArray := prog_6_method_12_code
def yX4_isName : MethodName := ⟨RX4, "isName", "(I)Z"⟩
def RX5 : String := "ConsulDesk$Tape"
def TX5 : u_T := fun k => match k with
  | 0 => ("ConsulDesk$Tape", "bytes", "[I", true)
  | _ => ("ConsulDesk$Tape", "length", "I", false)
def tyX5 : Nat → FieldType := fun k => match k with
  | 0 => .array .int
  | _ => .int
theorem nmX5 : ∀ a, a < 2 → ∀ b, b < 2 → a ≠ b → (TX5 a).2.1 ≠ (TX5 b).2.1 := by decide +kernel
theorem tyX5_ok : ∀ k, k < 2 → parseFieldDescriptor (TX5 k).2.2.1 = some (tyX5 k) := by decide +kernel
abbrev cX5_init : ByteArray := prog_7_method_1_code
def yX5_init : MethodName := ⟨RX5, "<init>", "()V"⟩
abbrev cX5_add : ByteArray := prog_7_method_2_code
def yX5_add : MethodName := ⟨RX5, "add", "(I)V"⟩
abbrev cX5_clear : ByteArray := prog_7_method_3_code
def yX5_clear : MethodName := ⟨RX5, "clear", "()V"⟩
abbrev cX5_at : ByteArray := prog_7_method_4_code
def yX5_at : MethodName := ⟨RX5, "at", "(I)I"⟩
def RX6 : String := "ConsulDesk$Tariff"
def TX6 : u_T := fun k => match k with
  | 0 => ("ConsulDesk$Tariff", "day", "I", true)
  | _ => ("ConsulDesk$Tariff", "lines", "[LConsulDesk$Line;", true)
def tyX6 : Nat → FieldType := fun k => match k with
  | 0 => .int
  | _ => .array (.object "ConsulDesk$Line")
theorem nmX6 : ∀ a, a < 2 → ∀ b, b < 2 → a ≠ b → (TX6 a).2.1 ≠ (TX6 b).2.1 := by decide +kernel
theorem tyX6_ok : ∀ k, k < 2 → parseFieldDescriptor (TX6 k).2.2.1 = some (tyX6 k) := by decide +kernel
abbrev cX6_init : ByteArray := prog_8_method_1_code
def yX6_init : MethodName := ⟨RX6, "<init>", "(I[LConsulDesk$Line;)V"⟩
abbrev cX6_feeOf : ByteArray := prog_8_method_2_code
def yX6_feeOf : MethodName := ⟨RX6, "feeOf", "(LConsulDesk$Paper;)I"⟩
def RX7 : String := "ConsulDesk$Term"
def TX7 : u_T := fun k => match k with
  | 0 => ("ConsulDesk$Term", "factor", "I", true)
  | 1 => ("ConsulDesk$Term", "name", "I", true)
  | _ => ("ConsulDesk$Term", "divisor", "I", true)
def tyX7 : Nat → FieldType := fun k => match k with
  | 0 => .int
  | 1 => .int
  | _ => .int
theorem nmX7 : ∀ a, a < 3 → ∀ b, b < 3 → a ≠ b → (TX7 a).2.1 ≠ (TX7 b).2.1 := by decide +kernel
theorem tyX7_ok : ∀ k, k < 3 → parseFieldDescriptor (TX7 k).2.2.1 = some (tyX7 k) := by decide +kernel
abbrev cX7_init : ByteArray := prog_9_method_1_code
def yX7_init : MethodName := ⟨RX7, "<init>", "(III)V"⟩
abbrev cX7_amount : ByteArray := prog_9_method_2_code
def yX7_amount : MethodName := ⟨RX7, "amount", "(LConsulDesk$Paper;)I"⟩
def RX8 : String := "ConsulDesk$Test"
def TX8 : u_T := fun k => match k with
  | 0 => ("ConsulDesk$Test", "name", "I", true)
  | 1 => ("ConsulDesk$Test", "sign", "I", true)
  | _ => ("ConsulDesk$Test", "number", "I", true)
def tyX8 : Nat → FieldType := fun k => match k with
  | 0 => .int
  | 1 => .int
  | _ => .int
theorem nmX8 : ∀ a, a < 3 → ∀ b, b < 3 → a ≠ b → (TX8 a).2.1 ≠ (TX8 b).2.1 := by decide +kernel
theorem tyX8_ok : ∀ k, k < 3 → parseFieldDescriptor (TX8 k).2.2.1 = some (tyX8 k) := by decide +kernel
abbrev cX8_init : ByteArray := prog_10_method_1_code
def yX8_init : MethodName := ⟨RX8, "<init>", "(III)V"⟩
abbrev cX8_holds : ByteArray := prog_10_method_2_code
def yX8_holds : MethodName := ⟨RX8, "holds", "(LConsulDesk$Paper;)Z"⟩
def RX9 : String := "ConsulDesk$Tokens"
def TX9 : u_T := fun k => match k with
  | 0 => ("ConsulDesk$Tokens", "kinds", "[I", true)
  | 1 => ("ConsulDesk$Tokens", "places", "[I", true)
  | 2 => ("ConsulDesk$Tokens", "numbers", "[I", true)
  | _ => ("ConsulDesk$Tokens", "many", "I", false)
def tyX9 : Nat → FieldType := fun k => match k with
  | 0 => .array .int
  | 1 => .array .int
  | 2 => .array .int
  | _ => .int
theorem nmX9 : ∀ a, a < 4 → ∀ b, b < 4 → a ≠ b → (TX9 a).2.1 ≠ (TX9 b).2.1 := by decide +kernel
theorem tyX9_ok : ∀ k, k < 4 → parseFieldDescriptor (TX9 k).2.2.1 = some (tyX9 k) := by decide +kernel
abbrev cX9_init : ByteArray := prog_11_method_1_code
def yX9_init : MethodName := ⟨RX9, "<init>", "()V"⟩
abbrev cX9_cut : ByteArray := prog_11_method_2_code
def yX9_cut : MethodName := ⟨RX9, "cut", "(LConsulDesk$Tape;I)V"⟩
abbrev cX9_cutOne : ByteArray := prog_11_method_3_code
def yX9_cutOne : MethodName := ⟨RX9, "cutOne", "(LConsulDesk$Tape;II)I"⟩
abbrev cX9_cutWord : ByteArray := prog_11_method_4_code
def yX9_cutWord : MethodName := ⟨RX9, "cutWord", "(LConsulDesk$Tape;II)I"⟩
abbrev cX9_cutNumber : ByteArray := prog_11_method_5_code
def yX9_cutNumber : MethodName := ⟨RX9, "cutNumber", "(LConsulDesk$Tape;II)I"⟩
abbrev cX9_put : ByteArray := prog_11_method_6_code
def yX9_put : MethodName := ⟨RX9, "put", "(III)V"⟩
abbrev cX9_isLetter : ByteArray := prog_11_method_7_code
def yX9_isLetter : MethodName := ⟨RX9, "isLetter", "(I)Z"⟩
abbrev cX9_isDigit : ByteArray := prog_11_method_8_code
def yX9_isDigit : MethodName := ⟨RX9, "isDigit", "(I)Z"⟩
abbrev cX9_wordKind : ByteArray := prog_11_method_9_code
def yX9_wordKind : MethodName := ⟨RX9, "wordKind", "(LConsulDesk$Tape;II)I"⟩
abbrev cX9_isWord : ByteArray := prog_11_method_10_code
def yX9_isWord : MethodName := ⟨RX9, "isWord", "(LConsulDesk$Tape;IILjava/lang/String;)Z"⟩
def RX10 : String := "ConsulDesk"
def TX10 : u_T := fun k => match k with
  | 0 => ("ConsulDesk", "ports", "[LConsulDesk$Port;", true)
  | 1 => ("ConsulDesk", "tariffs", "[LConsulDesk$Tariff;", true)
  | 2 => ("ConsulDesk", "papers", "[LConsulDesk$Paper;", true)
  | 3 => ("ConsulDesk", "tape", "LConsulDesk$Tape;", true)
  | 4 => ("ConsulDesk", "tokens", "LConsulDesk$Tokens;", true)
  | 5 => ("ConsulDesk", "reader", "LConsulDesk$Reader;", true)
  | 6 => ("ConsulDesk", "change", "LConsulDesk$Change;", true)
  | 7 => ("ConsulDesk", "portCount", "I", false)
  | 8 => ("ConsulDesk", "tariffCount", "I", false)
  | 9 => ("ConsulDesk", "paperCount", "I", false)
  | 10 => ("ConsulDesk", "today", "I", false)
  | 11 => ("ConsulDesk", "lastTrouble", "I", false)
  | _ => ("ConsulDesk", "lastFault", "I", false)
def tyX10 : Nat → FieldType := fun k => match k with
  | 0 => .array (.object "ConsulDesk$Port")
  | 1 => .array (.object "ConsulDesk$Tariff")
  | 2 => .array (.object "ConsulDesk$Paper")
  | 3 => .object "ConsulDesk$Tape"
  | 4 => .object "ConsulDesk$Tokens"
  | 5 => .object "ConsulDesk$Reader"
  | 6 => .object "ConsulDesk$Change"
  | 7 => .int
  | 8 => .int
  | 9 => .int
  | 10 => .int
  | 11 => .int
  | _ => .int
theorem nmX10 : ∀ a, a < 13 → ∀ b, b < 13 → a ≠ b → (TX10 a).2.1 ≠ (TX10 b).2.1 := by decide +kernel
theorem tyX10_ok : ∀ k, k < 13 → parseFieldDescriptor (TX10 k).2.2.1 = some (tyX10 k) := by decide +kernel
abbrev cX10_init : ByteArray := prog_1_method_1_code
def yX10_init : MethodName := ⟨RX10, "<init>", "()V"⟩
abbrev cX10_port : ByteArray := prog_1_method_2_code
def yX10_port : MethodName := ⟨RX10, "port", "(I)I"⟩
abbrev cX10_feed : ByteArray := prog_1_method_3_code
def yX10_feed : MethodName := ⟨RX10, "feed", "(IIIII)I"⟩
abbrev cX10_tariff : ByteArray := prog_1_method_4_code
def yX10_tariff : MethodName := ⟨RX10, "tariff", "(I)I"⟩
abbrev cX10_fault : ByteArray := prog_1_method_5_code
def yX10_fault : MethodName := ⟨RX10, "fault", "()I"⟩
abbrev cX10_where : ByteArray := prog_1_method_6_code
def yX10_where : MethodName := ⟨RX10, "where", "()I"⟩
abbrev cX10_lost : ByteArray := prog_1_method_7_code
def yX10_lost : MethodName := ⟨RX10, "lost", "(II)Z"⟩
abbrev cX10_pass : ByteArray := prog_1_method_8_code
def yX10_pass : MethodName := ⟨RX10, "pass", "(I)I"⟩
abbrev cX10_force : ByteArray := prog_1_method_9_code
def yX10_force : MethodName := ⟨RX10, "force", "(I)I"⟩
abbrev cX10_came : ByteArray := prog_1_method_10_code
def yX10_came : MethodName := ⟨RX10, "came", "(II)I"⟩
abbrev cX10_asked : ByteArray := prog_1_method_11_code
def yX10_asked : MethodName := ⟨RX10, "asked", "(II)I"⟩
abbrev cX10_under : ByteArray := prog_1_method_12_code
def yX10_under : MethodName := ⟨RX10, "under", "(I)I"⟩
abbrev cX10_stock : ByteArray := prog_1_method_13_code
def yX10_stock : MethodName := ⟨RX10, "stock", "(III)I"⟩
abbrev cX10_fee : ByteArray := prog_1_method_14_code
def yX10_fee : MethodName := ⟨RX10, "fee", "(IIIII)I"⟩
abbrev cX10_seal : ByteArray := prog_1_method_15_code
def yX10_seal : MethodName := ⟨RX10, "seal", "(IIII)I"⟩
abbrev cX10_paper : ByteArray := prog_1_method_16_code
def yX10_paper : MethodName := ⟨RX10, "paper", "(II)I"⟩
abbrev cX10_stamps : ByteArray := prog_1_method_17_code
def yX10_stamps : MethodName := ⟨RX10, "stamps", "(II)I"⟩
abbrev cX10_about : ByteArray := prog_1_method_18_code
def yX10_about : MethodName := ⟨RX10, "about", "(II)I"⟩
abbrev cX10_known : ByteArray := prog_1_method_19_code
def yX10_known : MethodName := ⟨RX10, "known", "(II)I"⟩
abbrev cX10_sum : ByteArray := prog_1_method_20_code
def yX10_sum : MethodName := ⟨RX10, "sum", "(II)I"⟩
abbrev cX10_homes : ByteArray := prog_1_method_21_code
def yX10_homes : MethodName := ⟨RX10, "homes", "(I)I"⟩
abbrev cX10_difference : ByteArray := prog_1_method_22_code
def yX10_difference : MethodName := ⟨RX10, "difference", "(I)I"⟩
abbrev cX10_unlike : ByteArray := prog_1_method_23_code
def yX10_unlike : MethodName := ⟨RX10, "unlike", "(I)I"⟩
abbrev cX10_count : ByteArray := prog_1_method_24_code
def yX10_count : MethodName := ⟨RX10, "count", "(I)I"⟩
abbrev cX10_trouble : ByteArray := prog_1_method_25_code
def yX10_trouble : MethodName := ⟨RX10, "trouble", "()I"⟩
abbrev cX10_refuse : ByteArray := prog_1_method_26_code
def yX10_refuse : MethodName := ⟨RX10, "refuse", "(I)I"⟩
abbrev cX10_accept : ByteArray := prog_1_method_27_code
def yX10_accept : MethodName := ⟨RX10, "accept", "(I)I"⟩
abbrev cX10_portAt : ByteArray := prog_1_method_28_code
def yX10_portAt : MethodName := ⟨RX10, "portAt", "(I)LConsulDesk$Port;"⟩
abbrev cX10_tariffAt : ByteArray := prog_1_method_29_code
def yX10_tariffAt : MethodName := ⟨RX10, "tariffAt", "(I)LConsulDesk$Tariff;"⟩
abbrev cX10_paperAt : ByteArray := prog_1_method_30_code
def yX10_paperAt : MethodName := ⟨RX10, "paperAt", "(I)LConsulDesk$Paper;"⟩
abbrev cX10_isWorth : ByteArray := prog_1_method_31_code
def yX10_isWorth : MethodName := ⟨RX10, "isWorth", "(I)Z"⟩
abbrev cX10_isPaper : ByteArray := prog_1_method_32_code
def yX10_isPaper : MethodName := ⟨RX10, "isPaper", "(III)Z"⟩
abbrev cX10_isPast : ByteArray := prog_1_method_33_code
def yX10_isPast : MethodName := ⟨RX10, "isPast", "(I)Z"⟩
abbrev cX10_sendOut : ByteArray := prog_1_method_34_code
def yX10_sendOut : MethodName := ⟨RX10, "sendOut", "()V"⟩
abbrev cX10_knownDay : ByteArray := prog_1_method_35_code
def yX10_knownDay : MethodName := ⟨RX10, "knownDay", "(LConsulDesk$Paper;)I"⟩
abbrev cX10_isKnown : ByteArray := prog_1_method_36_code
def yX10_isKnown : MethodName := ⟨RX10, "isKnown", "(LConsulDesk$Paper;I)Z"⟩
abbrev cX10_isKnownOf : ByteArray := prog_1_method_37_code
def yX10_isKnownOf : MethodName := ⟨RX10, "isKnownOf", "(III)Z"⟩
abbrev cX10_chargedFor : ByteArray := prog_1_method_38_code
def yX10_chargedFor : MethodName := ⟨RX10, "chargedFor", "(I)I"⟩
abbrev cX10_homeFee : ByteArray := prog_1_method_39_code
def yX10_homeFee : MethodName := ⟨RX10, "homeFee", "(I)I"⟩
abbrev cX10_accountsBelow : ByteArray := prog_1_method_40_code
def yX10_accountsBelow : MethodName := ⟨RX10, "accountsBelow", "(I)I"⟩
def RX11 : String := "ConsulDeskModel$Stop"
def TX11 : u_T := fun k => match k with
  | 0 => ("java/lang/Throwable", "cause", "Ljava/lang/Throwable;", false)
  | 1 => ("java/lang/Throwable", "stackTrace", "[Ljava/lang/StackTraceElement;", false)
  | 2 => ("java/lang/Throwable", "suppressedExceptions", "Ljava/util/List;", false)
  | 3 => ("java/lang/Throwable", "detailMessage", "Ljava/lang/String;", false)
  | 4 => ("java/lang/Throwable", "backtrace", "Ljava/lang/Object;", false)
  | 5 => ("java/lang/Throwable", "depth", "I", false)
  | 6 => ("ConsulDeskModel$Stop", "kind", "I", false)
  | _ => ("ConsulDeskModel$Stop", "place", "I", false)
def tyX11 : Nat → FieldType := fun k => match k with
  | 0 => .object "java/lang/Throwable"
  | 1 => .array (.object "java/lang/StackTraceElement")
  | 2 => .object "java/util/List"
  | 3 => .object "java/lang/String"
  | 4 => .object "java/lang/Object"
  | 5 => .int
  | 6 => .int
  | _ => .int
theorem nmX11 : ∀ a, a < 8 → ∀ b, b < 8 → a ≠ b → (TX11 a).2.1 ≠ (TX11 b).2.1 := by decide +kernel
theorem tyX11_ok : ∀ k, k < 8 → parseFieldDescriptor (TX11 k).2.2.1 = some (tyX11 k) := by decide +kernel
abbrev cX11_init : ByteArray := prog_14_method_1_code
def yX11_init : MethodName := ⟨RX11, "<init>", "()V"⟩
def RX12 : String := "ConsulDeskModel"
def TX12 : u_T := fun k => match k with
  | 0 => ("ConsulDeskModel", "thrown", "I", false)
  | 1 => ("ConsulDeskModel", "trouble", "I", false)
  | 2 => ("ConsulDeskModel", "where", "I", false)
  | 3 => ("ConsulDeskModel", "fault", "I", false)
  | 4 => ("ConsulDeskModel", "stop", "LConsulDeskModel$Stop;", true)
  | 5 => ("ConsulDeskModel", "tape", "[B", true)
  | 6 => ("ConsulDeskModel", "taped", "I", false)
  | 7 => ("ConsulDeskModel", "size", "I", false)
  | 8 => ("ConsulDeskModel", "at", "I", false)
  | 9 => ("ConsulDeskModel", "sort", "I", false)
  | 10 => ("ConsulDeskModel", "place", "I", false)
  | 11 => ("ConsulDeskModel", "sign", "I", false)
  | 12 => ("ConsulDeskModel", "number", "I", false)
  | 13 => ("ConsulDeskModel", "word", "J", false)
  | 14 => ("ConsulDeskModel", "tariffs", "I", false)
  | 15 => ("ConsulDeskModel", "told", "[I", true)
  | 16 => ("ConsulDeskModel", "lines", "[I", true)
  | 17 => ("ConsulDeskModel", "kind", "[I", true)
  | 18 => ("ConsulDeskModel", "tests", "[I", true)
  | 19 => ("ConsulDeskModel", "terms", "[I", true)
  | 20 => ("ConsulDeskModel", "testName", "[I", true)
  | 21 => ("ConsulDeskModel", "testSign", "[I", true)
  | 22 => ("ConsulDeskModel", "testNumber", "[I", true)
  | 23 => ("ConsulDeskModel", "termName", "[I", true)
  | 24 => ("ConsulDeskModel", "times", "[I", true)
  | 25 => ("ConsulDeskModel", "by", "[I", true)
  | 26 => ("ConsulDeskModel", "ports", "I", false)
  | 27 => ("ConsulDeskModel", "today", "I", false)
  | 28 => ("ConsulDeskModel", "days", "[I", true)
  | 29 => ("ConsulDeskModel", "opened", "[I", true)
  | 30 => ("ConsulDeskModel", "chest", "[I", true)
  | 31 => ("ConsulDeskModel", "sealedBy", "[I", true)
  | 32 => ("ConsulDeskModel", "accounts", "[I", true)
  | 33 => ("ConsulDeskModel", "stock", "[I", true)
  | 34 => ("ConsulDeskModel", "first", "[I", true)
  | 35 => ("ConsulDeskModel", "again", "[I", true)
  | 36 => ("ConsulDeskModel", "askedOn", "[I", true)
  | 37 => ("ConsulDeskModel", "isLost", "[Z", true)
  | 38 => ("ConsulDeskModel", "papers", "I", false)
  | 39 => ("ConsulDeskModel", "paperPort", "[I", true)
  | 40 => ("ConsulDeskModel", "paperKind", "[I", true)
  | 41 => ("ConsulDeskModel", "value", "[I", true)
  | 42 => ("ConsulDeskModel", "sheets", "[I", true)
  | 43 => ("ConsulDeskModel", "day", "[I", true)
  | 44 => ("ConsulDeskModel", "fee", "[I", true)
  | 45 => ("ConsulDeskModel", "tariff", "[I", true)
  | 46 => ("ConsulDeskModel", "ahead", "[I", true)
  | 47 => ("ConsulDeskModel", "stamp", "[I", true)
  | 48 => ("ConsulDeskModel", "least", "[J", true)
  | _ => ("ConsulDeskModel", "chosen", "[I", true)
def tyX12 : Nat → FieldType := fun k => match k with
  | 0 => .int
  | 1 => .int
  | 2 => .int
  | 3 => .int
  | 4 => .object "ConsulDeskModel$Stop"
  | 5 => .array .byte
  | 6 => .int
  | 7 => .int
  | 8 => .int
  | 9 => .int
  | 10 => .int
  | 11 => .int
  | 12 => .int
  | 13 => .long
  | 14 => .int
  | 15 => .array .int
  | 16 => .array .int
  | 17 => .array .int
  | 18 => .array .int
  | 19 => .array .int
  | 20 => .array .int
  | 21 => .array .int
  | 22 => .array .int
  | 23 => .array .int
  | 24 => .array .int
  | 25 => .array .int
  | 26 => .int
  | 27 => .int
  | 28 => .array .int
  | 29 => .array .int
  | 30 => .array .int
  | 31 => .array .int
  | 32 => .array .int
  | 33 => .array .int
  | 34 => .array .int
  | 35 => .array .int
  | 36 => .array .int
  | 37 => .array .boolean
  | 38 => .int
  | 39 => .array .int
  | 40 => .array .int
  | 41 => .array .int
  | 42 => .array .int
  | 43 => .array .int
  | 44 => .array .int
  | 45 => .array .int
  | 46 => .array .int
  | 47 => .array .int
  | 48 => .array .long
  | _ => .array .int
theorem nmX12 : ∀ a, a < 50 → ∀ b, b < 50 → a ≠ b → (TX12 a).2.1 ≠ (TX12 b).2.1 := by decide +kernel
theorem tyX12_ok : ∀ k, k < 50 → parseFieldDescriptor (TX12 k).2.2.1 = some (tyX12 k) := by decide +kernel
abbrev cX12_init : ByteArray := prog_13_method_1_code
def yX12_init : MethodName := ⟨RX12, "<init>", "()V"⟩
abbrev cX12_refused : ByteArray := prog_13_method_3_code
def yX12_refused : MethodName := ⟨RX12, "refused", "(I)I"⟩
abbrev cX12_done : ByteArray := prog_13_method_4_code
def yX12_done : MethodName := ⟨RX12, "done", "(I)I"⟩
abbrev cX12_in : ByteArray := prog_13_method_5_code
def yX12_in : MethodName := ⟨RX12, "in", "(III)Z"⟩
abbrev cX12_stop : ByteArray := prog_13_method_6_code
def yX12_stop : MethodName := ⟨RX12, "stop", "(I)LConsulDeskModel$Stop;"⟩
abbrev cX12_byteAt : ByteArray := prog_13_method_7_code
def yX12_byteAt : MethodName := ⟨RX12, "byteAt", "(I)I"⟩
abbrev cX12_isLetter : ByteArray := prog_13_method_8_code
def yX12_isLetter : MethodName := ⟨RX12, "isLetter", "(I)Z"⟩
abbrev cX12_isDigit : ByteArray := prog_13_method_9_code
def yX12_isDigit : MethodName := ⟨RX12, "isDigit", "(I)Z"⟩
abbrev cX12_wordOf : ByteArray := prog_13_method_10_code
def yX12_wordOf : MethodName := ⟨RX12, "wordOf", "(Ljava/lang/String;)J"⟩
abbrev cX12_next : ByteArray := prog_13_method_11_code
def yX12_next : MethodName := ⟨RX12, "next", "()V"⟩
abbrev cX12_isWord : ByteArray := prog_13_method_12_code
def yX12_isWord : MethodName := ⟨RX12, "isWord", "(Ljava/lang/String;)Z"⟩
abbrev cX12_is : ByteArray := prog_13_method_13_code
def yX12_is : MethodName := ⟨RX12, "is", "(I)Z"⟩
abbrev cX12_nameHere : ByteArray := prog_13_method_14_code
def yX12_nameHere : MethodName := ⟨RX12, "nameHere", "()I"⟩
abbrev cX12_reads : ByteArray := prog_13_method_15_code
def yX12_reads : MethodName := ⟨RX12, "reads", "()V"⟩
abbrev cX12_readTest : ByteArray := prog_13_method_16_code
def yX12_readTest : MethodName := ⟨RX12, "readTest", "(I)V"⟩
abbrev cX12_readTerm : ByteArray := prog_13_method_17_code
def yX12_readTerm : MethodName := ⟨RX12, "readTerm", "(I)V"⟩
abbrev cX12_valueOf : ByteArray := prog_13_method_18_code
def yX12_valueOf : MethodName := ⟨RX12, "valueOf", "(IIIII)I"⟩
abbrev cX12_feeOf : ByteArray := prog_13_method_19_code
def yX12_feeOf : MethodName := ⟨RX12, "feeOf", "(IIIIII)I"⟩
abbrev cX12_port : ByteArray := prog_13_method_20_code
def yX12_port : MethodName := ⟨RX12, "port", "(I)I"⟩
abbrev cX12_sends : ByteArray := prog_13_method_21_code
def yX12_sends : MethodName := ⟨RX12, "sends", "(III)V"⟩
abbrev cX12_feed : ByteArray := prog_13_method_22_code
def yX12_feed : MethodName := ⟨RX12, "feed", "(IIIII)I"⟩
abbrev cX12_tariff : ByteArray := prog_13_method_23_code
def yX12_tariff : MethodName := ⟨RX12, "tariff", "(I)I"⟩
abbrev cX12_fault : ByteArray := prog_13_method_24_code
def yX12_fault : MethodName := ⟨RX12, "fault", "()I"⟩
abbrev cX12_where : ByteArray := prog_13_method_25_code
def yX12_where : MethodName := ⟨RX12, "where", "()I"⟩
abbrev cX12_isPort : ByteArray := prog_13_method_26_code
def yX12_isPort : MethodName := ⟨RX12, "isPort", "(I)Z"⟩
abbrev cX12_isTariff : ByteArray := prog_13_method_27_code
def yX12_isTariff : MethodName := ⟨RX12, "isTariff", "(I)Z"⟩
abbrev cX12_comes : ByteArray := prog_13_method_28_code
def yX12_comes : MethodName := ⟨RX12, "comes", "(II)I"⟩
abbrev cX12_hasCome : ByteArray := prog_13_method_29_code
def yX12_hasCome : MethodName := ⟨RX12, "hasCome", "(III)Z"⟩
abbrev cX12_lost : ByteArray := prog_13_method_30_code
def yX12_lost : MethodName := ⟨RX12, "lost", "(II)Z"⟩
abbrev cX12_asks : ByteArray := prog_13_method_31_code
def yX12_asks : MethodName := ⟨RX12, "asks", "(II)V"⟩
abbrev cX12_pass : ByteArray := prog_13_method_32_code
def yX12_pass : MethodName := ⟨RX12, "pass", "(I)I"⟩
abbrev cX12_forceOf : ByteArray := prog_13_method_33_code
def yX12_forceOf : MethodName := ⟨RX12, "forceOf", "(I)I"⟩
abbrev cX12_force : ByteArray := prog_13_method_34_code
def yX12_force : MethodName := ⟨RX12, "force", "(I)I"⟩
abbrev cX12_came : ByteArray := prog_13_method_35_code
def yX12_came : MethodName := ⟨RX12, "came", "(II)I"⟩
abbrev cX12_asked : ByteArray := prog_13_method_36_code
def yX12_asked : MethodName := ⟨RX12, "asked", "(II)I"⟩
abbrev cX12_under : ByteArray := prog_13_method_37_code
def yX12_under : MethodName := ⟨RX12, "under", "(I)I"⟩
abbrev cX12_stock : ByteArray := prog_13_method_38_code
def yX12_stock : MethodName := ⟨RX12, "stock", "(III)I"⟩
abbrev cX12_isPaper : ByteArray := prog_13_method_39_code
def yX12_isPaper : MethodName := ⟨RX12, "isPaper", "(III)Z"⟩
abbrev cX12_fee : ByteArray := prog_13_method_40_code
def yX12_fee : MethodName := ⟨RX12, "fee", "(IIIII)I"⟩
abbrev cX12_chooses : ByteArray := prog_13_method_41_code
def yX12_chooses : MethodName := ⟨RX12, "chooses", "(II)Z"⟩
abbrev cX12_seal : ByteArray := prog_13_method_42_code
def yX12_seal : MethodName := ⟨RX12, "seal", "(IIII)I"⟩
abbrev cX12_homeOf : ByteArray := prog_13_method_43_code
def yX12_homeOf : MethodName := ⟨RX12, "homeOf", "(I)I"⟩
abbrev cX12_paper : ByteArray := prog_13_method_44_code
def yX12_paper : MethodName := ⟨RX12, "paper", "(II)I"⟩
abbrev cX12_stamps : ByteArray := prog_13_method_45_code
def yX12_stamps : MethodName := ⟨RX12, "stamps", "(II)I"⟩
abbrev cX12_about : ByteArray := prog_13_method_46_code
def yX12_about : MethodName := ⟨RX12, "about", "(II)I"⟩
abbrev cX12_known : ByteArray := prog_13_method_47_code
def yX12_known : MethodName := ⟨RX12, "known", "(II)I"⟩
abbrev cX12_sum : ByteArray := prog_13_method_48_code
def yX12_sum : MethodName := ⟨RX12, "sum", "(II)I"⟩
abbrev cX12_homesFee : ByteArray := prog_13_method_49_code
def yX12_homesFee : MethodName := ⟨RX12, "homesFee", "(I)I"⟩
abbrev cX12_homes : ByteArray := prog_13_method_50_code
def yX12_homes : MethodName := ⟨RX12, "homes", "(I)I"⟩
abbrev cX12_difference : ByteArray := prog_13_method_51_code
def yX12_difference : MethodName := ⟨RX12, "difference", "(I)I"⟩
abbrev cX12_unlike : ByteArray := prog_13_method_52_code
def yX12_unlike : MethodName := ⟨RX12, "unlike", "(I)I"⟩
abbrev cX12_count : ByteArray := prog_13_method_53_code
def yX12_count : MethodName := ⟨RX12, "count", "(I)I"⟩
abbrev cX12_trouble : ByteArray := prog_13_method_54_code
def yX12_trouble : MethodName := ⟨RX12, "trouble", "()I"⟩
def RJ11 : String := "java/lang/Character"
def TJ11 : u_T := fun k => match k with
  | _ => ("", "", "", false)
def tyJ11 : Nat → FieldType := fun k => match k with
  | _ => .int
theorem nmJ11 : ∀ a, a < 0 → ∀ b, b < 0 → a ≠ b → (TJ11 a).2.1 ≠ (TJ11 b).2.1 := by decide +kernel
theorem tyJ11_ok : ∀ k, k < 0 → parseFieldDescriptor (TJ11 k).2.2.1 = some (tyJ11 k) := by decide +kernel
abbrev cJ11_isValidCodePoint_9a6ad : ByteArray := prog_15_method_11_code
def yJ11_isValidCodePoint_9a6ad : MethodName := ⟨RJ11, "isValidCodePoint", "(I)Z"⟩
abbrev cJ11_highSurrogate_5068e : ByteArray := prog_15_method_28_code
def yJ11_highSurrogate_5068e : MethodName := ⟨RJ11, "highSurrogate", "(I)C"⟩
abbrev cJ11_lowSurrogate_5068e : ByteArray := prog_15_method_29_code
def yJ11_lowSurrogate_5068e : MethodName := ⟨RJ11, "lowSurrogate", "(I)C"⟩
def RJx8e188 : String := "java/lang/Cloneable"
def TJx8e188 : u_T := fun k => match k with
  | _ => ("", "", "", false)
def tyJx8e188 : Nat → FieldType := fun k => match k with
  | _ => .int
theorem nmJx8e188 : ∀ a, a < 0 → ∀ b, b < 0 → a ≠ b → (TJx8e188 a).2.1 ≠ (TJx8e188 b).2.1 := by decide +kernel
theorem tyJx8e188_ok : ∀ k, k < 0 → parseFieldDescriptor (TJx8e188 k).2.2.1 = some (tyJx8e188 k) := by decide +kernel
def RJ9 : String := "java/lang/Math"
def TJ9 : u_T := fun k => match k with
  | _ => ("", "", "", false)
def tyJ9 : Nat → FieldType := fun k => match k with
  | _ => .int
theorem nmJ9 : ∀ a, a < 0 → ∀ b, b < 0 → a ≠ b → (TJ9 a).2.1 ≠ (TJ9 b).2.1 := by decide +kernel
theorem tyJ9_ok : ∀ k, k < 0 → parseFieldDescriptor (TJ9 k).2.2.1 = some (tyJ9 k) := by decide +kernel
abbrev cJ9_max_7cf53 : ByteArray := prog_18_method_65_code
def yJ9_max_7cf53 : MethodName := ⟨RJ9, "max", "(II)I"⟩
abbrev cJ9_min_7cf53 : ByteArray := prog_18_method_69_code
def yJ9_min_7cf53 : MethodName := ⟨RJ9, "min", "(II)I"⟩
abbrev cJ9_min_f86c9 : ByteArray := prog_18_method_70_code
def yJ9_min_f86c9 : MethodName := ⟨RJ9, "min", "(JJ)J"⟩
def RJ0 : String := "java/lang/String"
def TJ0 : u_T := fun k => match k with
  | _ => ("", "", "", false)
def tyJ0 : Nat → FieldType := fun k => match k with
  | _ => .int
theorem nmJ0 : ∀ a, a < 0 → ∀ b, b < 0 → a ≠ b → (TJ0 a).2.1 ≠ (TJ0 b).2.1 := by decide +kernel
theorem tyJ0_ok : ∀ k, k < 0 → parseFieldDescriptor (TJ0 k).2.2.1 = some (tyJ0 k) := by decide +kernel
abbrev cJ0_length_8abf5 : ByteArray := prog_20_method_54_code
def yJ0_length_8abf5 : MethodName := ⟨RJ0, "length", "()I"⟩
abbrev cJ0_charAt_5068e : ByteArray := prog_20_method_56_code
def yJ0_charAt_5068e : MethodName := ⟨RJ0, "charAt", "(I)C"⟩
abbrev cJ0_indexOf_0f7a4 : ByteArray := prog_20_method_79_code
def yJ0_indexOf_0f7a4 : MethodName := ⟨RJ0, "indexOf", "(I)I"⟩
abbrev cJ0_indexOf_7cf53 : ByteArray := prog_20_method_80_code
def yJ0_indexOf_7cf53 : MethodName := ⟨RJ0, "indexOf", "(II)I"⟩
abbrev cJ0_coder_7d493 : ByteArray := prog_20_method_152_code
def yJ0_coder_7d493 : MethodName := ⟨RJ0, "coder", "()B"⟩
abbrev cJ0_isLatin1_aae02 : ByteArray := prog_20_method_154_code
def yJ0_isLatin1_aae02 : MethodName := ⟨RJ0, "isLatin1", "()Z"⟩
abbrev cJ0_checkIndex_df160 : ByteArray := prog_20_method_155_code
def yJ0_checkIndex_df160 : MethodName := ⟨RJ0, "checkIndex", "(II)V"⟩
abbrev cJ0_checkBoundsBeginEnd_23922 : ByteArray := prog_20_method_158_code
def yJ0_checkBoundsBeginEnd_23922 : MethodName := ⟨RJ0, "checkBoundsBeginEnd", "(III)V"⟩
def RJ1 : String := "java/lang/StringLatin1"
def TJ1 : u_T := fun k => match k with
  | _ => ("", "", "", false)
def tyJ1 : Nat → FieldType := fun k => match k with
  | _ => .int
theorem nmJ1 : ∀ a, a < 0 → ∀ b, b < 0 → a ≠ b → (TJ1 a).2.1 ≠ (TJ1 b).2.1 := by decide +kernel
theorem tyJ1_ok : ∀ k, k < 0 → parseFieldDescriptor (TJ1 k).2.2.1 = some (tyJ1 k) := by decide +kernel
abbrev cJ1_charAt_3b067 : ByteArray := prog_21_method_2_code
def yJ1_charAt_3b067 : MethodName := ⟨RJ1, "charAt", "([BI)C"⟩
abbrev cJ1_canEncode_9a6ad : ByteArray := prog_21_method_4_code
def yJ1_canEncode_9a6ad : MethodName := ⟨RJ1, "canEncode", "(I)Z"⟩
abbrev cJ1_indexOf_4cfef : ByteArray := prog_21_method_22_code
def yJ1_indexOf_4cfef : MethodName := ⟨RJ1, "indexOf", "([BIII)I"⟩
abbrev cJ1_indexOfChar_4cfef : ByteArray := prog_21_method_23_code
def yJ1_indexOfChar_4cfef : MethodName := ⟨RJ1, "indexOfChar", "([BIII)I"⟩
def RJ2 : String := "java/lang/StringUTF16"
def TJ2 : u_T := fun k => match k with
  | _ => ("", "", "", false)
def tyJ2 : Nat → FieldType := fun k => match k with
  | _ => .int
theorem nmJ2 : ∀ a, a < 0 → ∀ b, b < 0 → a ≠ b → (TJ2 a).2.1 ≠ (TJ2 b).2.1 := by decide +kernel
theorem tyJ2_ok : ∀ k, k < 0 → parseFieldDescriptor (TJ2 k).2.2.1 = some (tyJ2 k) := by decide +kernel
abbrev cJ2_getChar_3b067 : ByteArray := prog_22_method_5_code
def yJ2_getChar_3b067 : MethodName := ⟨RJ2, "getChar", "([BI)C"⟩
abbrev cJ2_length_9d52b : ByteArray := prog_22_method_6_code
def yJ2_length_9d52b : MethodName := ⟨RJ2, "length", "([B)I"⟩
abbrev cJ2_indexOf_4cfef : ByteArray := prog_22_method_40_code
def yJ2_indexOf_4cfef : MethodName := ⟨RJ2, "indexOf", "([BIII)I"⟩
abbrev cJ2_indexOfChar_4cfef : ByteArray := prog_22_method_47_code
def yJ2_indexOfChar_4cfef : MethodName := ⟨RJ2, "indexOfChar", "([BIII)I"⟩
abbrev cJ2_indexOfCharUnsafe_4cfef : ByteArray := prog_22_method_48_code
def yJ2_indexOfCharUnsafe_4cfef : MethodName := ⟨RJ2, "indexOfCharUnsafe", "([BIII)I"⟩
abbrev cJ2_indexOfSupplementary_4cfef : ByteArray := prog_22_method_49_code
def yJ2_indexOfSupplementary_4cfef : MethodName := ⟨RJ2, "indexOfSupplementary", "([BIII)I"⟩
abbrev cJ2_charAt_3b067 : ByteArray := prog_22_method_83_code
def yJ2_charAt_3b067 : MethodName := ⟨RJ2, "charAt", "([BI)C"⟩
abbrev cJ2_checkIndex_2214a : ByteArray := prog_22_method_91_code
def yJ2_checkIndex_2214a : MethodName := ⟨RJ2, "checkIndex", "(I[B)V"⟩
abbrev cJ2_checkBoundsBeginEnd_d044e : ByteArray := prog_22_method_93_code
def yJ2_checkBoundsBeginEnd_d044e : MethodName := ⟨RJ2, "checkBoundsBeginEnd", "(II[B)V"⟩
def RJ3 : String := "jdk/internal/util/Preconditions"
def TJ3 : u_T := fun k => match k with
  | _ => ("", "", "", false)
def tyJ3 : Nat → FieldType := fun k => match k with
  | _ => .int
theorem nmJ3 : ∀ a, a < 0 → ∀ b, b < 0 → a ≠ b → (TJ3 a).2.1 ≠ (TJ3 b).2.1 := by decide +kernel
theorem tyJ3_ok : ∀ k, k < 0 → parseFieldDescriptor (TJ3 k).2.2.1 = some (tyJ3 k) := by decide +kernel
abbrev cJ3_checkIndex_8e157 : ByteArray := prog_24_method_11_code
def yJ3_checkIndex_8e157 : MethodName := ⟨RJ3, "checkIndex", "(IILjava/util/function/BiFunction;)I"⟩
abbrev cJ3_checkFromToIndex_8c36e : ByteArray := prog_24_method_12_code
def yJ3_checkFromToIndex_8c36e : MethodName := ⟨RJ3, "checkFromToIndex", "(IIILjava/util/function/BiFunction;)I"⟩
def RL : String := "ConsulDeskLaw"
abbrev cL_law : ByteArray := code
def yL_law : MethodName := ⟨RL, "law", "([I)Z"⟩
end
section
/-! the memory as total functions: a shape for each address, and what its places hold -/
abbrev mm_S : Type := Nat ⊕ (Nat × Nat)
abbrev mm_M : Type := (Nat → Option mm_S) × (Nat → Nat → Int32) × (Nat → Nat → Int64) × (Nat → Nat → Option Nat) × Nat
def mm_sh (M : mm_M) (a : Nat) : Option mm_S := M.1 a
def mm_I (M : mm_M) (a : Nat) : Nat → Int32 := M.2.1 a
def mm_L (M : mm_M) (a : Nat) : Nat → Int64 := M.2.2.1 a
def mm_R (M : mm_M) (a : Nat) : Nat → Option Nat := M.2.2.2.1 a
def mm_z (M : mm_M) : Nat := M.2.2.2.2
def mm_u {α : Type} (f : Nat → Nat → α) (a k : Nat) (v : α) : Nat → Nat → α := fun b j => if b = a ∧ j = k then v else f b j
def mm_f {α : Type} (f : Nat → Nat → α) (a : Nat) (v : α) : Nat → Nat → α := fun b j => if b = a then v else f b j
def mm_sI (M : mm_M) (a k : Nat) (v : Int32) : mm_M := (M.1, mm_u M.2.1 a k v, M.2.2)
def mm_sL (M : mm_M) (a k : Nat) (v : Int64) : mm_M := (M.1, M.2.1, mm_u M.2.2.1 a k v, M.2.2.2)
def mm_sR (M : mm_M) (a k : Nat) (v : Option Nat) : mm_M := (M.1, M.2.1, M.2.2.1, mm_u M.2.2.2.1 a k v, M.2.2.2.2)
def mm_new (M : mm_M) (s : mm_S) : mm_M := (fun b => if b = mm_z M then some s else M.1 b, mm_f M.2.1 (mm_z M) 0, mm_f M.2.2.1 (mm_z M) 0, mm_f M.2.2.2.1 (mm_z M) none, mm_z M + 1)
/-! the classes whose objects the memory holds, and the kinds of arrays: 0 int, 1 byte, 2 boolean, 3 long, 4 .. references; 10 and 11 are tables of ints and of bytes that nobody writes -/
abbrev mm_cl : List vw_C := [(RX0, TX0, 3), (RX1, TX1, 3), (RX2, TX2, 9), (RX3, TX3, 8), (RX4, TX4, 6), (RX5, TX5, 2), (RX6, TX6, 2), (RX7, TX7, 3), (RX8, TX8, 3), (RX9, TX9, 4), (RX10, TX10, 13), (RX11, TX11, 8), (RX12, TX12, 50)]
def mm_ty (ci : Nat) : Nat → FieldType := match ci with
  | 0 => tyX0 | 1 => tyX1 | 2 => tyX2 | 3 => tyX3 | 4 => tyX4 | 5 => tyX5 | 6 => tyX6 | 7 => tyX7 | 8 => tyX8 | 9 => tyX9 | 10 => tyX10 | 11 => tyX11 | _ => tyX12
def mm_el (k : Nat) : FieldType := match k with
  | 0 => .int | 1 => .byte | 2 => .boolean | 3 => .long | 4 => .object "ConsulDesk$Line" | 5 => .object "ConsulDesk$Paper" | 6 => .object "ConsulDesk$Port" | 7 => .object "ConsulDesk$Tariff" | 8 => .object "ConsulDesk$Term" | _ => .object "ConsulDesk$Test"
def mm_fv (i : Nat → Int32) (l : Nat → Int64) (r : Nat → Option Nat) (k : Nat) (ty : FieldType) : Value := match ty with
  | .long => .long (l k)
  | .object _ => va_rf (r k)
  | .array _ => va_rf (r k)
  | _ => .int (i k)
def mm_ar (i : Nat → Int32) (l : Nat → Int64) (r : Nat → Option Nat) (k n : Nat) : vp_A := (n, if k < 3 then .inl i else if k = 3 then .inr (.inl l) else .inr (.inr (.inr (.inr r))))
/-- what the machine is asked for: the classes' numbers and slots, the array classes, where the law began, the statics' values -/
abbrev mm_G : Type := va_G × (Nat → ClassId) × Nat × (Nat → Value)
abbrev mm_sz (G : mm_G) : Nat := G.2.2.1
def mm_tb (ty : FieldType) (n : Nat) (i : Nat → Int32) (U : State) (H : Heap) (a : Nat) : Prop := ∃ cell : Cell, H[a]? = some cell ∧ U.isArrayOf cell ty ∧ cell.vm ≠ .unknown ∧ n ≤ cell.slots.size ∧ cell.slots.size.toInt32 = Int32.ofNat n ∧ ∀ j : Nat, j < n → cell.slots[j]? = some (.int (i j))
def mm_at (G : mm_G) (U : State) (H : Heap) (a : Nat) (s : mm_S) (i : Nat → Int32) (l : Nat → Int64) (r : Nat → Option Nat) : Prop := match s with
  | .inl ci => mm_sz G ≤ a ∧ ∃ q : vw_C, mm_cl[ci]? = some q ∧ t_OB a (G.1.1 ci) q.2.2 (G.1.2 ci) H (fun k => mm_fv i l r k (mm_ty ci k))
  | .inr (k, n) => if k < 10 then mm_sz G ≤ a ∧ H[a]? = some (vp_cell (G.2.1 k) (mm_ar i l r k n)) else a < mm_sz G ∧ mm_tb (if k = 10 then .int else .byte) n i U H a
def mm_ok (G : mm_G) (M : mm_M) (U : State) (H : Heap) : Prop := (∀ a s, mm_sh M a = some s → mm_at G U H a s (mm_I M a) (mm_L M a) (mm_R M a)) ∧ H.size = mm_z M
theorem mm_at_kept {G : mm_G} {U : State} {H H1 : Heap} {a : Nat} {s : mm_S} {i : Nat → Int32} {l : Nat → Int64} {r : Nat → Option Nat} (h : mm_at G U H a s i l r) (hq : H1[a]? = H[a]?) : mm_at G U H1 a s i l r := by
  rcases s with ci | ⟨k, n⟩
  · obtain ⟨h0, q, h1, h2⟩ := h
    exact ⟨h0, q, h1, h2.kept hq⟩
  · unfold mm_at at h ⊢
    by_cases hk : k < 10
    · simp only [hk, if_true] at h ⊢
      exact ⟨h.1, by rw [hq]; exact h.2⟩
    · simp only [hk, if_false] at h ⊢
      obtain ⟨h0, cell, h1, h2⟩ := h
      exact ⟨h0, cell, by rw [hq]; exact h1, h2⟩
theorem mm_at_lt {G : mm_G} {U : State} {H : Heap} {a : Nat} {s : mm_S} {i : Nat → Int32} {l : Nat → Int64} {r : Nat → Option Nat} (h : mm_at G U H a s i l r) : a < H.size := by
  rcases s with ci | ⟨k, n⟩
  · obtain ⟨h0, q, h1, cell, h2, -⟩ := h
    exact (Array.getElem?_eq_some_iff.mp h2).1
  · unfold mm_at at h
    by_cases hk : k < 10
    · simp only [hk, if_true] at h
      exact (Array.getElem?_eq_some_iff.mp h.2).1
    · simp only [hk, if_false] at h
      obtain ⟨h0, cell, h1, h2⟩ := h
      exact (Array.getElem?_eq_some_iff.mp h1).1
theorem mm_at_moved {G : mm_G} {u U : State} {H : Heap} {a : Nat} {s : mm_S} {i : Nat → Int32} {l : Nat → Int64} {r : Nat → Option Nat} (hvm : u.vm.Alike U.vm) (h : mm_at G u H a s i l r) : mm_at G U H a s i l r := by
  rcases s with ci | ⟨k, n⟩
  · exact h
  · unfold mm_at at h ⊢
    by_cases hk : k < 10
    · simp only [hk, if_true] at h ⊢
      exact h
    · simp only [hk, if_false] at h ⊢
      obtain ⟨h0, cell, h1, h2, h3⟩ := h
      exact ⟨h0, cell, h1, State.isArrayOf_alike hvm h2, h3⟩
theorem mm_ok_lt {G : mm_G} {M : mm_M} {U : State} {H : Heap} (h : mm_ok G M U H) {a : Nat} {s : mm_S} (hs : mm_sh M a = some s) : a < mm_z M := by
  rw [← h.2]; exact mm_at_lt (h.1 a s hs)
theorem mm_ok_moved {G : mm_G} {M : mm_M} {u U : State} {H : Heap} (hvm : u.vm.Alike U.vm) (h : mm_ok G M u H) : mm_ok G M U H := ⟨fun a s hs => mm_at_moved hvm (h.1 a s hs), h.2⟩
/-- one cell has changed -/
theorem mm_ok_put {G : mm_G} {M M1 : mm_M} {U : State} {H H1 : Heap} {a : Nat} {s : mm_S} (h : mm_ok G M U H) (hs : mm_sh M a = some s) (hsh : mm_sh M1 = mm_sh M) (hz : mm_z M1 = mm_z M) (he : ∀ b, b ≠ a → mm_I M1 b = mm_I M b ∧ mm_L M1 b = mm_L M b ∧ mm_R M1 b = mm_R M b)
    (hH : H1.size = H.size) (ho : ∀ q : Nat, q ≠ a → H1[q]? = H[q]?) (hat : mm_at G U H1 a s (mm_I M1 a) (mm_L M1 a) (mm_R M1 a)) : mm_ok G M1 U H1 := by
  refine ⟨fun b t hb => ?_, by rw [hH, hz]; exact h.2⟩
  rw [hsh] at hb
  by_cases hba : b = a
  · subst hba
    cases hs.symm.trans hb
    exact hat
  · obtain ⟨e1, e2, e3⟩ := he b hba
    rw [e1, e2, e3]
    exact mm_at_kept (h.1 b t hb) (ho b hba)
theorem mm_u_ne {α : Type} {f : Nat → Nat → α} {a k b : Nat} {v : α} (h : b ≠ a) : mm_u f a k v b = f b := by
  funext j
  simp [mm_u, h]
theorem mm_f_ne {α : Type} {f : Nat → Nat → α} {a b : Nat} {v : α} (h : b ≠ a) : mm_f f a v b = f b := by
  funext j
  simp [mm_f, h]
theorem mm_f_self {α : Type} {f : Nat → Nat → α} {a : Nat} {v : α} : mm_f f a v a = fun _ => v := by
  funext j
  simp [mm_f]
theorem mm_I_sI (M : mm_M) (a k b j : Nat) (v : Int32) : mm_I (mm_sI M a k v) b j = if b = a ∧ j = k then v else mm_I M b j := rfl
theorem mm_L_sL (M : mm_M) (a k b j : Nat) (v : Int64) : mm_L (mm_sL M a k v) b j = if b = a ∧ j = k then v else mm_L M b j := rfl
theorem mm_R_sR (M : mm_M) (a k b j : Nat) (v : Option Nat) : mm_R (mm_sR M a k v) b j = if b = a ∧ j = k then v else mm_R M b j := rfl
theorem mm_ne_sI {M : mm_M} {a k : Nat} {v : Int32} (b : Nat) (h : b ≠ a) : mm_I (mm_sI M a k v) b = mm_I M b ∧ mm_L (mm_sI M a k v) b = mm_L M b ∧ mm_R (mm_sI M a k v) b = mm_R M b := ⟨mm_u_ne h, rfl, rfl⟩
theorem mm_ne_sL {M : mm_M} {a k : Nat} {v : Int64} (b : Nat) (h : b ≠ a) : mm_I (mm_sL M a k v) b = mm_I M b ∧ mm_L (mm_sL M a k v) b = mm_L M b ∧ mm_R (mm_sL M a k v) b = mm_R M b := ⟨rfl, mm_u_ne h, rfl⟩
theorem mm_ne_sR {M : mm_M} {a k : Nat} {v : Option Nat} (b : Nat) (h : b ≠ a) : mm_I (mm_sR M a k v) b = mm_I M b ∧ mm_L (mm_sR M a k v) b = mm_L M b ∧ mm_R (mm_sR M a k v) b = mm_R M b := ⟨rfl, rfl, mm_u_ne h⟩
/-- one cell is new -/
theorem mm_ok_new {G : mm_G} {M : mm_M} {U : State} {H H1 : Heap} (h : mm_ok G M U H) (s : mm_S) (hH : H1.size = H.size + 1) (ho : ∀ q : Nat, q < H.size → H1[q]? = H[q]?) (hat : mm_at G U H1 H.size s (fun _ => 0) (fun _ => 0) (fun _ => none)) : mm_ok G (mm_new M s) U H1 := by
  have hz := h.2
  refine ⟨fun b t hb => ?_, by rw [hH, hz]; rfl⟩
  by_cases hbz : b = mm_z M
  · have hb' : mm_sh (mm_new M s) b = some s := by
      show (if b = mm_z M then some s else M.1 b) = some s
      rw [if_pos hbz]
    cases hb'.symm.trans hb
    have e1 : mm_I (mm_new M s) b = fun _ => 0 := by subst hbz; exact mm_f_self
    have e2 : mm_L (mm_new M s) b = fun _ => 0 := by subst hbz; exact mm_f_self
    have e3 : mm_R (mm_new M s) b = fun _ => none := by subst hbz; exact mm_f_self
    rw [e1, e2, e3, hbz, ← hz]
    exact hat
  · have hb' : mm_sh (mm_new M s) b = mm_sh M b := by
      show (if b = mm_z M then some s else M.1 b) = M.1 b
      rw [if_neg hbz]
    have e1 : mm_I (mm_new M s) b = mm_I M b := mm_f_ne hbz
    have e2 : mm_L (mm_new M s) b = mm_L M b := mm_f_ne hbz
    have e3 : mm_R (mm_new M s) b = mm_R M b := mm_f_ne hbz
    rw [hb'] at hb
    rw [e1, e2, e3]
    exact mm_at_kept (h.1 b t hb) (ho b (by rw [hz]; exact mm_ok_lt h hb))
theorem mm_sh_new {G : mm_G} {M : mm_M} {U : State} {H : Heap} (h : mm_ok G M U H) (s : mm_S) {b : Nat} {t : mm_S} (hb : mm_sh M b = some t) : mm_sh (mm_new M s) b = some t ∧ b ≠ mm_z M := by
  have hne : b ≠ mm_z M := Nat.ne_of_lt (mm_ok_lt h hb)
  refine ⟨?_, hne⟩
  show (if b = mm_z M then some s else M.1 b) = some t
  rw [if_neg hne]; exact hb
/-! the locals, by their places -/
def mm_pl (lv : List (Option Value)) : List (Nat × Value) := (List.range lv.length).filterMap (fun j => ((lv[j]?).join).map (fun v => (j, v)))
def mm_lv (ls : Array Slot) (n : Nat) (lv : List (Option Value)) : Prop := lv_has ls n (mm_pl lv)
theorem mm_pl_mem {lv : List (Option Value)} {q : Nat × Value} : q ∈ mm_pl lv ↔ lv[q.1]? = some (some q.2) := by
  unfold mm_pl
  rw [List.mem_filterMap]
  constructor
  · rintro ⟨j, hj, h⟩
    cases hv : lv[j]? with
    | none => simp [hv] at h
    | some w =>
      cases w with
      | none => simp [hv] at h
      | some v =>
        simp [hv] at h
        rw [← h]
        exact hv
  · intro h
    refine ⟨q.1, List.mem_range.mpr (List.getElem?_eq_some_iff.mp h).1, ?_⟩
    rw [h]
    rfl
theorem mm_lv_at {ls : Array Slot} {n : Nat} {lv : List (Option Value)} (h : mm_lv ls n lv) {i : Nat} {v : Value} (hi : lv[i]? = some (some v)) : ls[i]? = some (.val v) := h.2.2 (i, v) (mm_pl_mem.mpr hi)
/-- what stands just ahead of place i is no long -/
def mm_c1 (lv : List (Option Value)) (i : Nat) : Bool := match i with
  | 0 => true
  | j + 1 => match lv[j]? with
    | some (some v) => v.category == 1
    | _ => true
theorem mm_c1_spec {lv : List (Option Value)} {i : Nat} (h : mm_c1 lv i = true) {j : Nat} {v : Value} (hj : lv[j]? = some (some v)) (hi : j + 1 = i) : (v.category == 2) = false := by
  subst hi
  simp only [mm_c1, hj] at h
  have := eq_of_beq h
  rw [this]; rfl
theorem mm_lv_sub {ls : Array Slot} {n : Nat} {lv : List (Option Value)} {l : List (Nat × Value)} (h : lv_has ls n l) (hs : ∀ (i : Nat) (v : Value), lv[i]? = some (some v) → (i, v) ∈ l) : mm_lv ls n lv :=
  ⟨h.1, h.2.1, fun q hq => h.2.2 q (hs q.1 q.2 (mm_pl_mem.mp hq))⟩
theorem mm_lv_weak {ls : Array Slot} {n : Nat} {lv lv' : List (Option Value)} (h : mm_lv ls n lv) (hs : ∀ (i : Nat) (v : Value), lv'[i]? = some (some v) → lv[i]? = some (some v)) : mm_lv ls n lv' :=
  mm_lv_sub h (fun i v hv => mm_pl_mem.mpr (hs i v hv))
theorem mm_lv_set1 {ls : Array Slot} {n : Nat} {lv : List (Option Value)} {i : Nat} {v : Value} (hc : mm_c1 lv i = true) (h : lv_has ls n ((i, v) :: (mm_pl lv).filter (fun q => !(q.1 == i) && !(q.1 + 1 == i && q.2.category == 2)))) : mm_lv ls n (lv.set i (some v)) := by
  refine mm_lv_sub h (fun j w hj => ?_)
  by_cases hji : i = j
  · subst hji
    have hlt : i < lv.length := by
      have := (List.getElem?_eq_some_iff.mp hj).1
      simpa using this
    rw [List.getElem?_set_self hlt] at hj
    cases hj
    exact List.mem_cons_self
  · rw [List.getElem?_set_ne hji] at hj
    refine List.mem_cons_of_mem _ (List.mem_filter.mpr ⟨mm_pl_mem.mpr hj, ?_⟩)
    have h1 : (j == i) = false := by simp [Ne.symm hji]
    simp only [h1, Bool.not_false, Bool.true_and]
    by_cases hj1 : j + 1 = i
    · rw [mm_c1_spec hc hj hj1]; simp
    · have h2 : (j + 1 == i) = false := by simp [hj1]
      simp [h2]
theorem mm_lv_set2 {ls : Array Slot} {n : Nat} {lv : List (Option Value)} {i : Nat} {v : Value} (hc : mm_c1 lv i = true) (h : lv_has ls n ((i, v) :: (mm_pl lv).filter (fun q => !(q.1 == i) && (!(q.1 == i + 1) && !(q.1 + 1 == i && q.2.category == 2))))) : mm_lv ls n ((lv.set i (some v)).set (i + 1) none) := by
  refine mm_lv_sub h (fun j w hj => ?_)
  by_cases hj2 : i + 1 = j
  · subst hj2
    rw [List.getElem?_set] at hj
    simp at hj
  · rw [List.getElem?_set_ne hj2] at hj
    by_cases hji : i = j
    · subst hji
      have hlt : i < lv.length := by
        have := (List.getElem?_eq_some_iff.mp hj).1
        simpa using this
      rw [List.getElem?_set_self hlt] at hj
      cases hj
      exact List.mem_cons_self
    · rw [List.getElem?_set_ne hji] at hj
      refine List.mem_cons_of_mem _ (List.mem_filter.mpr ⟨mm_pl_mem.mpr hj, ?_⟩)
      have h1 : (j == i) = false := by simp [Ne.symm hji]
      have h3 : (j == i + 1) = false := by simp [Ne.symm hj2]
      simp only [h1, h3, Bool.not_false, Bool.true_and]
      by_cases hj1 : j + 1 = i
      · rw [mm_c1_spec hc hj hj1]; simp
      · have h2 : (j + 1 == i) = false := by simp [hj1]
        simp [h2]
/-! the classes' words, types and names, by their numbers -/
theorem mm_in0 : ∀ w ∈ u_ws RX0 TX0 3, w ∈ gt_ws := by decide +kernel
theorem mm_in1 : ∀ w ∈ u_ws RX1 TX1 3, w ∈ gt_ws := by decide +kernel
theorem mm_in2 : ∀ w ∈ u_ws RX2 TX2 9, w ∈ gt_ws := by decide +kernel
theorem mm_in3 : ∀ w ∈ u_ws RX3 TX3 8, w ∈ gt_ws := by decide +kernel
theorem mm_in4 : ∀ w ∈ u_ws RX4 TX4 6, w ∈ gt_ws := by decide +kernel
theorem mm_in5 : ∀ w ∈ u_ws RX5 TX5 2, w ∈ gt_ws := by decide +kernel
theorem mm_in6 : ∀ w ∈ u_ws RX6 TX6 2, w ∈ gt_ws := by decide +kernel
theorem mm_in7 : ∀ w ∈ u_ws RX7 TX7 3, w ∈ gt_ws := by decide +kernel
theorem mm_in8 : ∀ w ∈ u_ws RX8 TX8 3, w ∈ gt_ws := by decide +kernel
theorem mm_in9 : ∀ w ∈ u_ws RX9 TX9 4, w ∈ gt_ws := by decide +kernel
theorem mm_in10 : ∀ w ∈ u_ws RX10 TX10 13, w ∈ gt_ws := by decide +kernel
theorem mm_in11 : ∀ w ∈ u_ws RX11 TX11 8, w ∈ gt_ws := by decide +kernel
theorem mm_in12 : ∀ w ∈ u_ws RX12 TX12 50, w ∈ gt_ws := by decide +kernel
theorem mm_cases {P : Nat → vw_C → Prop} (h0 : P 0 (RX0, TX0, 3)) (h1 : P 1 (RX1, TX1, 3)) (h2 : P 2 (RX2, TX2, 9)) (h3 : P 3 (RX3, TX3, 8)) (h4 : P 4 (RX4, TX4, 6)) (h5 : P 5 (RX5, TX5, 2)) (h6 : P 6 (RX6, TX6, 2)) (h7 : P 7 (RX7, TX7, 3)) (h8 : P 8 (RX8, TX8, 3)) (h9 : P 9 (RX9, TX9, 4)) (h10 : P 10 (RX10, TX10, 13)) (h11 : P 11 (RX11, TX11, 8)) (h12 : P 12 (RX12, TX12, 50)) : ∀ (ci : Nat) (q : vw_C), mm_cl[ci]? = some q → P ci q := by
  intro ci q h
  match ci, h with
  | 0, h => cases h; exact h0
  | 1, h => cases h; exact h1
  | 2, h => cases h; exact h2
  | 3, h => cases h; exact h3
  | 4, h => cases h; exact h4
  | 5, h => cases h; exact h5
  | 6, h => cases h; exact h6
  | 7, h => cases h; exact h7
  | 8, h => cases h; exact h8
  | 9, h => cases h; exact h9
  | 10, h => cases h; exact h10
  | 11, h => cases h; exact h11
  | 12, h => cases h; exact h12
  | n + 13, h => cases h
theorem mm_in : ∀ (ci : Nat) (q : vw_C), mm_cl[ci]? = some q → ∀ w ∈ u_ws q.1 q.2.1 q.2.2, w ∈ gt_ws := mm_cases mm_in0 mm_in1 mm_in2 mm_in3 mm_in4 mm_in5 mm_in6 mm_in7 mm_in8 mm_in9 mm_in10 mm_in11 mm_in12
theorem mm_tyok : ∀ (ci : Nat) (q : vw_C), mm_cl[ci]? = some q → ∀ k, k < q.2.2 → parseFieldDescriptor (q.2.1 k).2.2.1 = some (mm_ty ci k) := mm_cases tyX0_ok tyX1_ok tyX2_ok tyX3_ok tyX4_ok tyX5_ok tyX6_ok tyX7_ok tyX8_ok tyX9_ok tyX10_ok tyX11_ok tyX12_ok
theorem mm_nm : ∀ (ci : Nat) (q : vw_C), mm_cl[ci]? = some q → ∀ a, a < q.2.2 → ∀ b, b < q.2.2 → a ≠ b → (q.2.1 a).2.1 ≠ (q.2.1 b).2.1 := mm_cases nmX0 nmX1 nmX2 nmX3 nmX4 nmX5 nmX6 nmX7 nmX8 nmX9 nmX10 nmX11 nmX12
end
