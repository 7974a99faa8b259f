section
-- ===== PART A: goes FIRST, ahead of the names: the tables' words, and 'selects' of the private methods out of them =====
/-- a private method of a class that the tables say can be made, by its rows of tables_1 -/
def lw_okq (q : MethodName × Nat) : Prop := (q.1.cls ≠ "java/lang/invoke/MethodHandle" ∧ q.1.cls ≠ "java/lang/invoke/VarHandle") ∧ Cond.instantiable q.1.cls q.2 ∈ tables_1 ∧ Cond.privateMethod q.1 ∈ tables_1 ∧ Cond.instanceMethod q.1 ∈ tables_1
theorem lw_p0 : lw_okq (⟨"ConsulDesk", "refuse", "(I)I"⟩, 13) := ⟨⟨by decide +kernel, by decide +kernel⟩, List.mem_of_getElem? (i := 24) (by decide +kernel), List.mem_of_getElem? (i := 164) (by decide +kernel), List.mem_of_getElem? (i := 165) (by decide +kernel)⟩
theorem lw_p1 : lw_okq (⟨"ConsulDesk", "accept", "(I)I"⟩, 13) := ⟨⟨by decide +kernel, by decide +kernel⟩, List.mem_of_getElem? (i := 24) (by decide +kernel), List.mem_of_getElem? (i := 208) (by decide +kernel), List.mem_of_getElem? (i := 209) (by decide +kernel)⟩
theorem lw_p2 : lw_okq (⟨"ConsulDesk$Tokens", "cutOne", "(LConsulDesk$Tape;II)I"⟩, 4) := ⟨⟨by decide +kernel, by decide +kernel⟩, List.mem_of_getElem? (i := 53) (by decide +kernel), List.mem_of_getElem? (i := 228) (by decide +kernel), List.mem_of_getElem? (i := 229) (by decide +kernel)⟩
theorem lw_p3 : lw_okq (⟨"ConsulDesk$Tokens", "cutWord", "(LConsulDesk$Tape;II)I"⟩, 4) := ⟨⟨by decide +kernel, by decide +kernel⟩, List.mem_of_getElem? (i := 53) (by decide +kernel), List.mem_of_getElem? (i := 239) (by decide +kernel), List.mem_of_getElem? (i := 240) (by decide +kernel)⟩
theorem lw_p4 : lw_okq (⟨"ConsulDesk$Tokens", "put", "(III)V"⟩, 4) := ⟨⟨by decide +kernel, by decide +kernel⟩, List.mem_of_getElem? (i := 53) (by decide +kernel), List.mem_of_getElem? (i := 305) (by decide +kernel), List.mem_of_getElem? (i := 306) (by decide +kernel)⟩
theorem lw_p5 : lw_okq (⟨"ConsulDesk$Tokens", "cutNumber", "(LConsulDesk$Tape;II)I"⟩, 4) := ⟨⟨by decide +kernel, by decide +kernel⟩, List.mem_of_getElem? (i := 53) (by decide +kernel), List.mem_of_getElem? (i := 312) (by decide +kernel), List.mem_of_getElem? (i := 313) (by decide +kernel)⟩
theorem lw_p6 : lw_okq (⟨"ConsulDesk$Reader", "skip", "(I)Z"⟩, 6) := ⟨⟨by decide +kernel, by decide +kernel⟩, List.mem_of_getElem? (i := 75) (by decide +kernel), List.mem_of_getElem? (i := 381) (by decide +kernel), List.mem_of_getElem? (i := 382) (by decide +kernel)⟩
theorem lw_p7 : lw_okq (⟨"ConsulDesk$Reader", "readLine", "(I)LConsulDesk$Line;"⟩, 6) := ⟨⟨by decide +kernel, by decide +kernel⟩, List.mem_of_getElem? (i := 75) (by decide +kernel), List.mem_of_getElem? (i := 387) (by decide +kernel), List.mem_of_getElem? (i := 388) (by decide +kernel)⟩
theorem lw_p8 : lw_okq (⟨"ConsulDesk$Reader", "blame", "(I)V"⟩, 6) := ⟨⟨by decide +kernel, by decide +kernel⟩, List.mem_of_getElem? (i := 75) (by decide +kernel), List.mem_of_getElem? (i := 391) (by decide +kernel), List.mem_of_getElem? (i := 392) (by decide +kernel)⟩
theorem lw_p9 : lw_okq (⟨"ConsulDesk$Reader", "need", "(I)I"⟩, 6) := ⟨⟨by decide +kernel, by decide +kernel⟩, List.mem_of_getElem? (i := 75) (by decide +kernel), List.mem_of_getElem? (i := 395) (by decide +kernel), List.mem_of_getElem? (i := 396) (by decide +kernel)⟩
theorem lw_p10 : lw_okq (⟨"ConsulDesk$Reader", "readTests", "(LConsulDesk$Line;)V"⟩, 6) := ⟨⟨by decide +kernel, by decide +kernel⟩, List.mem_of_getElem? (i := 75) (by decide +kernel), List.mem_of_getElem? (i := 421) (by decide +kernel), List.mem_of_getElem? (i := 422) (by decide +kernel)⟩
theorem lw_p11 : lw_okq (⟨"ConsulDesk$Reader", "readTest", "(I)LConsulDesk$Test;"⟩, 6) := ⟨⟨by decide +kernel, by decide +kernel⟩, List.mem_of_getElem? (i := 75) (by decide +kernel), List.mem_of_getElem? (i := 425) (by decide +kernel), List.mem_of_getElem? (i := 426) (by decide +kernel)⟩
theorem lw_p12 : lw_okq (⟨"ConsulDesk$Reader", "needName", "()I"⟩, 6) := ⟨⟨by decide +kernel, by decide +kernel⟩, List.mem_of_getElem? (i := 75) (by decide +kernel), List.mem_of_getElem? (i := 432) (by decide +kernel), List.mem_of_getElem? (i := 433) (by decide +kernel)⟩
theorem lw_p13 : lw_okq (⟨"ConsulDesk$Reader", "readTerms", "(LConsulDesk$Line;)V"⟩, 6) := ⟨⟨by decide +kernel, by decide +kernel⟩, List.mem_of_getElem? (i := 75) (by decide +kernel), List.mem_of_getElem? (i := 452) (by decide +kernel), List.mem_of_getElem? (i := 453) (by decide +kernel)⟩
theorem lw_p14 : lw_okq (⟨"ConsulDesk$Reader", "readTerm", "(I)LConsulDesk$Term;"⟩, 6) := ⟨⟨by decide +kernel, by decide +kernel⟩, List.mem_of_getElem? (i := 75) (by decide +kernel), List.mem_of_getElem? (i := 456) (by decide +kernel), List.mem_of_getElem? (i := 457) (by decide +kernel)⟩
theorem lw_p15 : lw_okq (⟨"ConsulDesk", "sendOut", "()V"⟩, 13) := ⟨⟨by decide +kernel, by decide +kernel⟩, List.mem_of_getElem? (i := 24) (by decide +kernel), List.mem_of_getElem? (i := 493) (by decide +kernel), List.mem_of_getElem? (i := 494) (by decide +kernel)⟩
def lw_privs_1 : List (MethodName × Nat) := [(⟨"ConsulDesk", "refuse", "(I)I"⟩, 13), (⟨"ConsulDesk", "accept", "(I)I"⟩, 13), (⟨"ConsulDesk$Tokens", "cutOne", "(LConsulDesk$Tape;II)I"⟩, 4), (⟨"ConsulDesk$Tokens", "cutWord", "(LConsulDesk$Tape;II)I"⟩, 4), (⟨"ConsulDesk$Tokens", "put", "(III)V"⟩, 4), (⟨"ConsulDesk$Tokens", "cutNumber", "(LConsulDesk$Tape;II)I"⟩, 4), (⟨"ConsulDesk$Reader", "skip", "(I)Z"⟩, 6), (⟨"ConsulDesk$Reader", "readLine", "(I)LConsulDesk$Line;"⟩, 6), (⟨"ConsulDesk$Reader", "blame", "(I)V"⟩, 6), (⟨"ConsulDesk$Reader", "need", "(I)I"⟩, 6), (⟨"ConsulDesk$Reader", "readTests", "(LConsulDesk$Line;)V"⟩, 6), (⟨"ConsulDesk$Reader", "readTest", "(I)LConsulDesk$Test;"⟩, 6), (⟨"ConsulDesk$Reader", "needName", "()I"⟩, 6), (⟨"ConsulDesk$Reader", "readTerms", "(LConsulDesk$Line;)V"⟩, 6), (⟨"ConsulDesk$Reader", "readTerm", "(I)LConsulDesk$Term;"⟩, 6), (⟨"ConsulDesk", "sendOut", "()V"⟩, 13)]
theorem lw_r1 : ∀ q ∈ lw_privs_1, lw_okq q := List.forall_mem_cons.mpr ⟨lw_p0, List.forall_mem_cons.mpr ⟨lw_p1, List.forall_mem_cons.mpr ⟨lw_p2, List.forall_mem_cons.mpr ⟨lw_p3, List.forall_mem_cons.mpr ⟨lw_p4, List.forall_mem_cons.mpr ⟨lw_p5, List.forall_mem_cons.mpr ⟨lw_p6, List.forall_mem_cons.mpr ⟨lw_p7, List.forall_mem_cons.mpr ⟨lw_p8, List.forall_mem_cons.mpr ⟨lw_p9, List.forall_mem_cons.mpr ⟨lw_p10, List.forall_mem_cons.mpr ⟨lw_p11, List.forall_mem_cons.mpr ⟨lw_p12, List.forall_mem_cons.mpr ⟨lw_p13, List.forall_mem_cons.mpr ⟨lw_p14, List.forall_mem_cons.mpr ⟨lw_p15, fun _ h => absurd h List.not_mem_nil⟩⟩⟩⟩⟩⟩⟩⟩⟩⟩⟩⟩⟩⟩⟩⟩
theorem lw_p16 : lw_okq (⟨"ConsulDesk", "portAt", "(I)LConsulDesk$Port;"⟩, 13) := ⟨⟨by decide +kernel, by decide +kernel⟩, List.mem_of_getElem? (i := 24) (by decide +kernel), List.mem_of_getElem? (i := 497) (by decide +kernel), List.mem_of_getElem? (i := 498) (by decide +kernel)⟩
theorem lw_p17 : lw_okq (⟨"ConsulDesk$Port", "accountsCome", "(I)I"⟩, 8) := ⟨⟨by decide +kernel, by decide +kernel⟩, List.mem_of_getElem? (i := 167) (by decide +kernel), List.mem_of_getElem? (i := 567) (by decide +kernel), List.mem_of_getElem? (i := 568) (by decide +kernel)⟩
theorem lw_p18 : lw_okq (⟨"ConsulDesk$Port", "isOut", "(II)Z"⟩, 8) := ⟨⟨by decide +kernel, by decide +kernel⟩, List.mem_of_getElem? (i := 167) (by decide +kernel), List.mem_of_getElem? (i := 572) (by decide +kernel), List.mem_of_getElem? (i := 573) (by decide +kernel)⟩
theorem lw_p19 : lw_okq (⟨"ConsulDesk$Port", "isAskOut", "(II)Z"⟩, 8) := ⟨⟨by decide +kernel, by decide +kernel⟩, List.mem_of_getElem? (i := 167) (by decide +kernel), List.mem_of_getElem? (i := 576) (by decide +kernel), List.mem_of_getElem? (i := 577) (by decide +kernel)⟩
theorem lw_p20 : lw_okq (⟨"ConsulDesk", "tariffAt", "(I)LConsulDesk$Tariff;"⟩, 13) := ⟨⟨by decide +kernel, by decide +kernel⟩, List.mem_of_getElem? (i := 24) (by decide +kernel), List.mem_of_getElem? (i := 600) (by decide +kernel), List.mem_of_getElem? (i := 601) (by decide +kernel)⟩
theorem lw_p21 : lw_okq (⟨"ConsulDesk$Change", "tryWorth", "([IIII)V"⟩, 3) := ⟨⟨by decide +kernel, by decide +kernel⟩, List.mem_of_getElem? (i := 102) (by decide +kernel), List.mem_of_getElem? (i := 682) (by decide +kernel), List.mem_of_getElem? (i := 683) (by decide +kernel)⟩
theorem lw_p22 : lw_okq (⟨"ConsulDesk", "paperAt", "(I)LConsulDesk$Paper;"⟩, 13) := ⟨⟨by decide +kernel, by decide +kernel⟩, List.mem_of_getElem? (i := 24) (by decide +kernel), List.mem_of_getElem? (i := 710) (by decide +kernel), List.mem_of_getElem? (i := 711) (by decide +kernel)⟩
theorem lw_p23 : lw_okq (⟨"ConsulDesk", "isKnown", "(LConsulDesk$Paper;I)Z"⟩, 13) := ⟨⟨by decide +kernel, by decide +kernel⟩, List.mem_of_getElem? (i := 24) (by decide +kernel), List.mem_of_getElem? (i := 723) (by decide +kernel), List.mem_of_getElem? (i := 724) (by decide +kernel)⟩
theorem lw_p24 : lw_okq (⟨"ConsulDesk", "knownDay", "(LConsulDesk$Paper;)I"⟩, 13) := ⟨⟨by decide +kernel, by decide +kernel⟩, List.mem_of_getElem? (i := 24) (by decide +kernel), List.mem_of_getElem? (i := 727) (by decide +kernel), List.mem_of_getElem? (i := 728) (by decide +kernel)⟩
theorem lw_p25 : lw_okq (⟨"ConsulDesk", "isPast", "(I)Z"⟩, 13) := ⟨⟨by decide +kernel, by decide +kernel⟩, List.mem_of_getElem? (i := 24) (by decide +kernel), List.mem_of_getElem? (i := 746) (by decide +kernel), List.mem_of_getElem? (i := 747) (by decide +kernel)⟩
theorem lw_p26 : lw_okq (⟨"ConsulDesk", "isKnownOf", "(III)Z"⟩, 13) := ⟨⟨by decide +kernel, by decide +kernel⟩, List.mem_of_getElem? (i := 24) (by decide +kernel), List.mem_of_getElem? (i := 750) (by decide +kernel), List.mem_of_getElem? (i := 751) (by decide +kernel)⟩
theorem lw_p27 : lw_okq (⟨"ConsulDesk", "chargedFor", "(I)I"⟩, 13) := ⟨⟨by decide +kernel, by decide +kernel⟩, List.mem_of_getElem? (i := 24) (by decide +kernel), List.mem_of_getElem? (i := 758) (by decide +kernel), List.mem_of_getElem? (i := 759) (by decide +kernel)⟩
theorem lw_p28 : lw_okq (⟨"ConsulDesk", "homeFee", "(I)I"⟩, 13) := ⟨⟨by decide +kernel, by decide +kernel⟩, List.mem_of_getElem? (i := 24) (by decide +kernel), List.mem_of_getElem? (i := 766) (by decide +kernel), List.mem_of_getElem? (i := 767) (by decide +kernel)⟩
theorem lw_p29 : lw_okq (⟨"java/lang/Throwable", "fillInStackTrace", "(I)Ljava/lang/Throwable;"⟩, 6) := ⟨⟨by decide +kernel, by decide +kernel⟩, List.mem_of_getElem? (i := 828) (by decide +kernel), List.mem_of_getElem? (i := 826) (by decide +kernel), List.mem_of_getElem? (i := 827) (by decide +kernel)⟩
theorem lw_p30 : lw_okq (⟨"ConsulDeskModel", "refused", "(I)I"⟩, 50) := ⟨⟨by decide +kernel, by decide +kernel⟩, List.mem_of_getElem? (i := 786) (by decide +kernel), List.mem_of_getElem? (i := 1021) (by decide +kernel), List.mem_of_getElem? (i := 1022) (by decide +kernel)⟩
theorem lw_p31 : lw_okq (⟨"ConsulDeskModel", "sends", "(III)V"⟩, 50) := ⟨⟨by decide +kernel, by decide +kernel⟩, List.mem_of_getElem? (i := 786) (by decide +kernel), List.mem_of_getElem? (i := 1025) (by decide +kernel), List.mem_of_getElem? (i := 1026) (by decide +kernel)⟩
def lw_privs_2 : List (MethodName × Nat) := [(⟨"ConsulDesk", "portAt", "(I)LConsulDesk$Port;"⟩, 13), (⟨"ConsulDesk$Port", "accountsCome", "(I)I"⟩, 8), (⟨"ConsulDesk$Port", "isOut", "(II)Z"⟩, 8), (⟨"ConsulDesk$Port", "isAskOut", "(II)Z"⟩, 8), (⟨"ConsulDesk", "tariffAt", "(I)LConsulDesk$Tariff;"⟩, 13), (⟨"ConsulDesk$Change", "tryWorth", "([IIII)V"⟩, 3), (⟨"ConsulDesk", "paperAt", "(I)LConsulDesk$Paper;"⟩, 13), (⟨"ConsulDesk", "isKnown", "(LConsulDesk$Paper;I)Z"⟩, 13), (⟨"ConsulDesk", "knownDay", "(LConsulDesk$Paper;)I"⟩, 13), (⟨"ConsulDesk", "isPast", "(I)Z"⟩, 13), (⟨"ConsulDesk", "isKnownOf", "(III)Z"⟩, 13), (⟨"ConsulDesk", "chargedFor", "(I)I"⟩, 13), (⟨"ConsulDesk", "homeFee", "(I)I"⟩, 13), (⟨"java/lang/Throwable", "fillInStackTrace", "(I)Ljava/lang/Throwable;"⟩, 6), (⟨"ConsulDeskModel", "refused", "(I)I"⟩, 50), (⟨"ConsulDeskModel", "sends", "(III)V"⟩, 50)]
theorem lw_r2 : ∀ q ∈ lw_privs_2, lw_okq q := List.forall_mem_cons.mpr ⟨lw_p16, List.forall_mem_cons.mpr ⟨lw_p17, List.forall_mem_cons.mpr ⟨lw_p18, List.forall_mem_cons.mpr ⟨lw_p19, List.forall_mem_cons.mpr ⟨lw_p20, List.forall_mem_cons.mpr ⟨lw_p21, List.forall_mem_cons.mpr ⟨lw_p22, List.forall_mem_cons.mpr ⟨lw_p23, List.forall_mem_cons.mpr ⟨lw_p24, List.forall_mem_cons.mpr ⟨lw_p25, List.forall_mem_cons.mpr ⟨lw_p26, List.forall_mem_cons.mpr ⟨lw_p27, List.forall_mem_cons.mpr ⟨lw_p28, List.forall_mem_cons.mpr ⟨lw_p29, List.forall_mem_cons.mpr ⟨lw_p30, List.forall_mem_cons.mpr ⟨lw_p31, fun _ h => absurd h List.not_mem_nil⟩⟩⟩⟩⟩⟩⟩⟩⟩⟩⟩⟩⟩⟩⟩⟩
theorem lw_p32 : lw_okq (⟨"ConsulDeskModel", "done", "(I)I"⟩, 50) := ⟨⟨by decide +kernel, by decide +kernel⟩, List.mem_of_getElem? (i := 786) (by decide +kernel), List.mem_of_getElem? (i := 1030) (by decide +kernel), List.mem_of_getElem? (i := 1031) (by decide +kernel)⟩
theorem lw_p33 : lw_okq (⟨"ConsulDeskModel", "reads", "()V"⟩, 50) := ⟨⟨by decide +kernel, by decide +kernel⟩, List.mem_of_getElem? (i := 786) (by decide +kernel), List.mem_of_getElem? (i := 1042) (by decide +kernel), List.mem_of_getElem? (i := 1043) (by decide +kernel)⟩
theorem lw_p34 : lw_okq (⟨"ConsulDeskModel", "next", "()V"⟩, 50) := ⟨⟨by decide +kernel, by decide +kernel⟩, List.mem_of_getElem? (i := 786) (by decide +kernel), List.mem_of_getElem? (i := 1046) (by decide +kernel), List.mem_of_getElem? (i := 1047) (by decide +kernel)⟩
theorem lw_p35 : lw_okq (⟨"ConsulDeskModel", "byteAt", "(I)I"⟩, 50) := ⟨⟨by decide +kernel, by decide +kernel⟩, List.mem_of_getElem? (i := 786) (by decide +kernel), List.mem_of_getElem? (i := 1050) (by decide +kernel), List.mem_of_getElem? (i := 1051) (by decide +kernel)⟩
theorem lw_p36 : lw_okq (⟨"ConsulDeskModel", "isWord", "(Ljava/lang/String;)Z"⟩, 50) := ⟨⟨by decide +kernel, by decide +kernel⟩, List.mem_of_getElem? (i := 786) (by decide +kernel), List.mem_of_getElem? (i := 1062) (by decide +kernel), List.mem_of_getElem? (i := 1063) (by decide +kernel)⟩
theorem lw_p37 : lw_okq (⟨"ConsulDeskModel", "stop", "(I)LConsulDeskModel$Stop;"⟩, 50) := ⟨⟨by decide +kernel, by decide +kernel⟩, List.mem_of_getElem? (i := 786) (by decide +kernel), List.mem_of_getElem? (i := 1071) (by decide +kernel), List.mem_of_getElem? (i := 1072) (by decide +kernel)⟩
theorem lw_p38 : lw_okq (⟨"ConsulDeskModel", "readTest", "(I)V"⟩, 50) := ⟨⟨by decide +kernel, by decide +kernel⟩, List.mem_of_getElem? (i := 786) (by decide +kernel), List.mem_of_getElem? (i := 1076) (by decide +kernel), List.mem_of_getElem? (i := 1077) (by decide +kernel)⟩
theorem lw_p39 : lw_okq (⟨"ConsulDeskModel", "nameHere", "()I"⟩, 50) := ⟨⟨by decide +kernel, by decide +kernel⟩, List.mem_of_getElem? (i := 786) (by decide +kernel), List.mem_of_getElem? (i := 1080) (by decide +kernel), List.mem_of_getElem? (i := 1081) (by decide +kernel)⟩
theorem lw_p40 : lw_okq (⟨"ConsulDeskModel", "is", "(I)Z"⟩, 50) := ⟨⟨by decide +kernel, by decide +kernel⟩, List.mem_of_getElem? (i := 786) (by decide +kernel), List.mem_of_getElem? (i := 1090) (by decide +kernel), List.mem_of_getElem? (i := 1091) (by decide +kernel)⟩
theorem lw_p41 : lw_okq (⟨"ConsulDeskModel", "readTerm", "(I)V"⟩, 50) := ⟨⟨by decide +kernel, by decide +kernel⟩, List.mem_of_getElem? (i := 786) (by decide +kernel), List.mem_of_getElem? (i := 1094) (by decide +kernel), List.mem_of_getElem? (i := 1095) (by decide +kernel)⟩
theorem lw_p42 : lw_okq (⟨"ConsulDeskModel", "isPort", "(I)Z"⟩, 50) := ⟨⟨by decide +kernel, by decide +kernel⟩, List.mem_of_getElem? (i := 786) (by decide +kernel), List.mem_of_getElem? (i := 1110) (by decide +kernel), List.mem_of_getElem? (i := 1111) (by decide +kernel)⟩
theorem lw_p43 : lw_okq (⟨"ConsulDeskModel", "isTariff", "(I)Z"⟩, 50) := ⟨⟨by decide +kernel, by decide +kernel⟩, List.mem_of_getElem? (i := 786) (by decide +kernel), List.mem_of_getElem? (i := 1114) (by decide +kernel), List.mem_of_getElem? (i := 1115) (by decide +kernel)⟩
theorem lw_p44 : lw_okq (⟨"ConsulDeskModel", "hasCome", "(III)Z"⟩, 50) := ⟨⟨by decide +kernel, by decide +kernel⟩, List.mem_of_getElem? (i := 786) (by decide +kernel), List.mem_of_getElem? (i := 1118) (by decide +kernel), List.mem_of_getElem? (i := 1119) (by decide +kernel)⟩
theorem lw_p45 : lw_okq (⟨"ConsulDeskModel", "comes", "(II)I"⟩, 50) := ⟨⟨by decide +kernel, by decide +kernel⟩, List.mem_of_getElem? (i := 786) (by decide +kernel), List.mem_of_getElem? (i := 1122) (by decide +kernel), List.mem_of_getElem? (i := 1123) (by decide +kernel)⟩
theorem lw_p46 : lw_okq (⟨"ConsulDeskModel", "asks", "(II)V"⟩, 50) := ⟨⟨by decide +kernel, by decide +kernel⟩, List.mem_of_getElem? (i := 786) (by decide +kernel), List.mem_of_getElem? (i := 1130) (by decide +kernel), List.mem_of_getElem? (i := 1131) (by decide +kernel)⟩
theorem lw_p47 : lw_okq (⟨"ConsulDeskModel", "forceOf", "(I)I"⟩, 50) := ⟨⟨by decide +kernel, by decide +kernel⟩, List.mem_of_getElem? (i := 786) (by decide +kernel), List.mem_of_getElem? (i := 1138) (by decide +kernel), List.mem_of_getElem? (i := 1139) (by decide +kernel)⟩
def lw_privs_3 : List (MethodName × Nat) := [(⟨"ConsulDeskModel", "done", "(I)I"⟩, 50), (⟨"ConsulDeskModel", "reads", "()V"⟩, 50), (⟨"ConsulDeskModel", "next", "()V"⟩, 50), (⟨"ConsulDeskModel", "byteAt", "(I)I"⟩, 50), (⟨"ConsulDeskModel", "isWord", "(Ljava/lang/String;)Z"⟩, 50), (⟨"ConsulDeskModel", "stop", "(I)LConsulDeskModel$Stop;"⟩, 50), (⟨"ConsulDeskModel", "readTest", "(I)V"⟩, 50), (⟨"ConsulDeskModel", "nameHere", "()I"⟩, 50), (⟨"ConsulDeskModel", "is", "(I)Z"⟩, 50), (⟨"ConsulDeskModel", "readTerm", "(I)V"⟩, 50), (⟨"ConsulDeskModel", "isPort", "(I)Z"⟩, 50), (⟨"ConsulDeskModel", "isTariff", "(I)Z"⟩, 50), (⟨"ConsulDeskModel", "hasCome", "(III)Z"⟩, 50), (⟨"ConsulDeskModel", "comes", "(II)I"⟩, 50), (⟨"ConsulDeskModel", "asks", "(II)V"⟩, 50), (⟨"ConsulDeskModel", "forceOf", "(I)I"⟩, 50)]
theorem lw_r3 : ∀ q ∈ lw_privs_3, lw_okq q := List.forall_mem_cons.mpr ⟨lw_p32, List.forall_mem_cons.mpr ⟨lw_p33, List.forall_mem_cons.mpr ⟨lw_p34, List.forall_mem_cons.mpr ⟨lw_p35, List.forall_mem_cons.mpr ⟨lw_p36, List.forall_mem_cons.mpr ⟨lw_p37, List.forall_mem_cons.mpr ⟨lw_p38, List.forall_mem_cons.mpr ⟨lw_p39, List.forall_mem_cons.mpr ⟨lw_p40, List.forall_mem_cons.mpr ⟨lw_p41, List.forall_mem_cons.mpr ⟨lw_p42, List.forall_mem_cons.mpr ⟨lw_p43, List.forall_mem_cons.mpr ⟨lw_p44, List.forall_mem_cons.mpr ⟨lw_p45, List.forall_mem_cons.mpr ⟨lw_p46, List.forall_mem_cons.mpr ⟨lw_p47, fun _ h => absurd h List.not_mem_nil⟩⟩⟩⟩⟩⟩⟩⟩⟩⟩⟩⟩⟩⟩⟩⟩
theorem lw_p48 : lw_okq (⟨"ConsulDeskModel", "feeOf", "(IIIIII)I"⟩, 50) := ⟨⟨by decide +kernel, by decide +kernel⟩, List.mem_of_getElem? (i := 786) (by decide +kernel), List.mem_of_getElem? (i := 1165) (by decide +kernel), List.mem_of_getElem? (i := 1166) (by decide +kernel)⟩
theorem lw_p49 : lw_okq (⟨"ConsulDeskModel", "chooses", "(II)Z"⟩, 50) := ⟨⟨by decide +kernel, by decide +kernel⟩, List.mem_of_getElem? (i := 786) (by decide +kernel), List.mem_of_getElem? (i := 1177) (by decide +kernel), List.mem_of_getElem? (i := 1178) (by decide +kernel)⟩
theorem lw_p50 : lw_okq (⟨"ConsulDeskModel", "homeOf", "(I)I"⟩, 50) := ⟨⟨by decide +kernel, by decide +kernel⟩, List.mem_of_getElem? (i := 786) (by decide +kernel), List.mem_of_getElem? (i := 1198) (by decide +kernel), List.mem_of_getElem? (i := 1199) (by decide +kernel)⟩
theorem lw_p51 : lw_okq (⟨"ConsulDeskModel", "homesFee", "(I)I"⟩, 50) := ⟨⟨by decide +kernel, by decide +kernel⟩, List.mem_of_getElem? (i := 786) (by decide +kernel), List.mem_of_getElem? (i := 1222) (by decide +kernel), List.mem_of_getElem? (i := 1223) (by decide +kernel)⟩
def lw_privs_4 : List (MethodName × Nat) := [(⟨"ConsulDeskModel", "feeOf", "(IIIIII)I"⟩, 50), (⟨"ConsulDeskModel", "chooses", "(II)Z"⟩, 50), (⟨"ConsulDeskModel", "homeOf", "(I)I"⟩, 50), (⟨"ConsulDeskModel", "homesFee", "(I)I"⟩, 50)]
theorem lw_r4 : ∀ q ∈ lw_privs_4, lw_okq q := List.forall_mem_cons.mpr ⟨lw_p48, List.forall_mem_cons.mpr ⟨lw_p49, List.forall_mem_cons.mpr ⟨lw_p50, List.forall_mem_cons.mpr ⟨lw_p51, fun _ h => absurd h List.not_mem_nil⟩⟩⟩⟩
def lw_privs : List (MethodName × Nat) := lw_privs_1 ++ (lw_privs_2 ++ (lw_privs_3 ++ (lw_privs_4)))
def lw_tbl : List Cond := k2_sels lw_privs ++ tables_1
theorem lw_privs_ok : ∀ q ∈ lw_privs, lw_okq q := by
  show ∀ q ∈ lw_privs_1 ++ (lw_privs_2 ++ (lw_privs_3 ++ (lw_privs_4))), lw_okq q
  exact List.forall_mem_append.mpr ⟨lw_r1, List.forall_mem_append.mpr ⟨lw_r2, List.forall_mem_append.mpr ⟨lw_r3, lw_r4⟩⟩⟩

/-- the words of the tables that every method may lean on -/
def gt_ws : List Cond := lw_tbl.filter goodWord
theorem gt_good : ∀ w ∈ gt_ws, goodWord w = true := fun w h => (List.mem_filter.mp h).2
theorem gt_tbl : ∀ w ∈ gt_ws, w ∈ lw_tbl := fun w h => (List.mem_filter.mp h).1
theorem gt_of {w : Cond} (n : Nat) (h : tables_1[n]? = some w) (g : goodWord w = true) : w ∈ gt_ws := List.mem_filter.mpr ⟨List.mem_append_right _ (List.mem_of_getElem? h), g⟩
theorem gt_sel {w : Cond} (n : Nat) (h : (k2_sels lw_privs)[n]? = some w) (g : goodWord w = true) : w ∈ gt_ws := List.mem_filter.mpr ⟨List.mem_append_left _ (List.mem_of_getElem? h), g⟩
end
section
def RX0 : String := "ConsulDesk$Change"
def TX0 : u_T := fun k => match k with
  | 0 => ("ConsulDesk$Change", "tried", "[I", true)
  | 1 => ("ConsulDesk$Change", "best", "[I", false)
  | _ => ("ConsulDesk$Change", "bestMany", "I", false)
def tyX0 : Nat → FieldType := fun k => match k with
  | 0 => .array .int
  | 1 => .array .int
  | _ => .int
theorem nmX0 : ∀ a, a < 3 → ∀ b, b < 3 → a ≠ b → (TX0 a).2.1 ≠ (TX0 b).2.1 := by decide +kernel
theorem tyX0_ok : ∀ k, k < 3 → parseFieldDescriptor (TX0 k).2.2.1 = some (tyX0 k) := by decide +kernel
abbrev cX0_init : ByteArray := prog_2_method_1_code
def yX0_init : MethodName := ⟨RX0, "<init>", "()V"⟩
abbrev cX0_fewest : ByteArray := prog_2_method_2_code
def yX0_fewest : MethodName := ⟨RX0, "fewest", "([II)[I"⟩
abbrev cX0_tryWorth : ByteArray := prog_2_method_3_code
def yX0_tryWorth : MethodName := ⟨RX0, "tryWorth", "([IIII)V"⟩
def RX1 : String := "ConsulDesk$Line"
def TX1 : u_T := fun k => match k with
  | 0 => ("ConsulDesk$Line", "kind", "I", true)
  | 1 => ("ConsulDesk$Line", "tests", "[LConsulDesk$Test;", true)
  | _ => ("ConsulDesk$Line", "terms", "[LConsulDesk$Term;", true)
def tyX1 : Nat → FieldType := fun k => match k with
  | 0 => .int
  | 1 => .array (.object "ConsulDesk$Test")
  | _ => .array (.object "ConsulDesk$Term")
theorem nmX1 : ∀ a, a < 3 → ∀ b, b < 3 → a ≠ b → (TX1 a).2.1 ≠ (TX1 b).2.1 := by decide +kernel
theorem tyX1_ok : ∀ k, k < 3 → parseFieldDescriptor (TX1 k).2.2.1 = some (tyX1 k) := by decide +kernel
abbrev cX1_init : ByteArray := prog_3_method_1_code
def yX1_init : MethodName := ⟨RX1, "<init>", "(I)V"⟩
abbrev cX1_fits : ByteArray := prog_3_method_2_code
def yX1_fits : MethodName := ⟨RX1, "fits", "(LConsulDesk$Paper;)Z"⟩
abbrev cX1_total : ByteArray := prog_3_method_3_code
def yX1_total : MethodName := ⟨RX1, "total", "(LConsulDesk$Paper;)I"⟩
def RX2 : String := "ConsulDesk$Paper"
def TX2 : u_T := fun k => match k with
  | 0 => ("ConsulDesk$Paper", "port", "I", true)
  | 1 => ("ConsulDesk$Paper", "kind", "I", true)
  | 2 => ("ConsulDesk$Paper", "value", "I", true)
  | 3 => ("ConsulDesk$Paper", "sheets", "I", true)
  | 4 => ("ConsulDesk$Paper", "ahead", "I", true)
  | 5 => ("ConsulDesk$Paper", "day", "I", false)
  | 6 => ("ConsulDesk$Paper", "charged", "I", false)
  | 7 => ("ConsulDesk$Paper", "tariff", "I", false)
  | _ => ("ConsulDesk$Paper", "taken", "[I", false)
def tyX2 : Nat → FieldType := fun k => match k with
  | 0 => .int
  | 1 => .int
  | 2 => .int
  | 3 => .int
  | 4 => .int
  | 5 => .int
  | 6 => .int
  | 7 => .int
  | _ => .array .int
theorem nmX2 : ∀ a, a < 9 → ∀ b, b < 9 → a ≠ b → (TX2 a).2.1 ≠ (TX2 b).2.1 := by decide +kernel
theorem tyX2_ok : ∀ k, k < 9 → parseFieldDescriptor (TX2 k).2.2.1 = some (tyX2 k) := by decide +kernel
abbrev cX2_init : ByteArray := prog_4_method_1_code
def yX2_init : MethodName := ⟨RX2, "<init>", "(IIIII)V"⟩
abbrev cX2_charge : ByteArray := prog_4_method_2_code
def yX2_charge : MethodName := ⟨RX2, "charge", "(III[I)V"⟩
abbrev cX2_measure : ByteArray := prog_4_method_3_code
def yX2_measure : MethodName := ⟨RX2, "measure", "(I)I"⟩
abbrev cX2_stampsOf : ByteArray := prog_4_method_4_code
def yX2_stampsOf : MethodName := ⟨RX2, "stampsOf", "(I)I"⟩
abbrev cX2_allStamps : ByteArray := prog_4_method_5_code
def yX2_allStamps : MethodName := ⟨RX2, "allStamps", "()I"⟩
def RX3 : String := "ConsulDesk$Port"
def TX3 : u_T := fun k => match k with
  | 0 => ("ConsulDesk$Port", "days", "I", true)
  | 1 => ("ConsulDesk$Port", "opened", "I", true)
  | 2 => ("ConsulDesk$Port", "stock", "[I", true)
  | 3 => ("ConsulDesk$Port", "firstDays", "[I", true)
  | 4 => ("ConsulDesk$Port", "losses", "[Z", true)
  | 5 => ("ConsulDesk$Port", "sent", "I", false)
  | 6 => ("ConsulDesk$Port", "chest", "I", false)
  | _ => ("ConsulDesk$Port", "papers", "I", false)
def tyX3 : Nat → FieldType := fun k => match k with
  | 0 => .int
  | 1 => .int
  | 2 => .array .int
  | 3 => .array .int
  | 4 => .array .boolean
  | 5 => .int
  | 6 => .int
  | _ => .int
theorem nmX3 : ∀ a, a < 8 → ∀ b, b < 8 → a ≠ b → (TX3 a).2.1 ≠ (TX3 b).2.1 := by decide +kernel
theorem tyX3_ok : ∀ k, k < 8 → parseFieldDescriptor (TX3 k).2.2.1 = some (tyX3 k) := by decide +kernel
abbrev cX3_init : ByteArray := prog_5_method_1_code
def yX3_init : MethodName := ⟨RX3, "<init>", "(II)V"⟩
abbrev cX3_send : ByteArray := prog_5_method_2_code
def yX3_send : MethodName := ⟨RX3, "send", "(I)V"⟩
abbrev cX3_wasSent : ByteArray := prog_5_method_3_code
def yX3_wasSent : MethodName := ⟨RX3, "wasSent", "(I)Z"⟩
abbrev cX3_lose : ByteArray := prog_5_method_4_code
def yX3_lose : MethodName := ⟨RX3, "lose", "(II)Z"⟩
abbrev cX3_askDay : ByteArray := prog_5_method_5_code
def yX3_askDay : MethodName := ⟨RX3, "askDay", "(II)I"⟩
abbrev cX3_comeDay : ByteArray := prog_5_method_6_code
def yX3_comeDay : MethodName := ⟨RX3, "comeDay", "(II)I"⟩
abbrev cX3_inForce : ByteArray := prog_5_method_7_code
def yX3_inForce : MethodName := ⟨RX3, "inForce", "(I)I"⟩
abbrev cX3_onTheWay : ByteArray := prog_5_method_8_code
def yX3_onTheWay : MethodName := ⟨RX3, "onTheWay", "(II)I"⟩
abbrev cX3_isOut : ByteArray := prog_5_method_9_code
def yX3_isOut : MethodName := ⟨RX3, "isOut", "(II)Z"⟩
abbrev cX3_isAskOut : ByteArray := prog_5_method_10_code
def yX3_isAskOut : MethodName := ⟨RX3, "isAskOut", "(II)Z"⟩
abbrev cX3_accountsSent : ByteArray := prog_5_method_11_code
def yX3_accountsSent : MethodName := ⟨RX3, "accountsSent", "(I)I"⟩
abbrev cX3_accountsCome : ByteArray := prog_5_method_12_code
def yX3_accountsCome : MethodName := ⟨RX3, "accountsCome", "(I)I"⟩
abbrev cX3_stampsOf : ByteArray := prog_5_method_13_code
def yX3_stampsOf : MethodName := ⟨RX3, "stampsOf", "(I)I"⟩
abbrev cX3_addStamps : ByteArray := prog_5_method_14_code
def yX3_addStamps : MethodName := ⟨RX3, "addStamps", "(II)V"⟩
abbrev cX3_book : ByteArray := prog_5_method_15_code
def yX3_book : MethodName := ⟨RX3, "book", "(I[I)V"⟩
def RX4 : String := "ConsulDesk$Reader"
def TX4 : u_T := fun k => match k with
  | 0 => ("ConsulDesk$Reader", "fault", "I", false)
  | 1 => ("ConsulDesk$Reader", "place", "I", false)
  | 2 => ("ConsulDesk$Reader", "tokens", "LConsulDesk$Tokens;", true)
  | 3 => ("ConsulDesk$Reader", "next", "I", false)
  | 4 => ("ConsulDesk$Reader", "kind", "I", false)
  | _ => ("ConsulDesk$Reader", "number", "I", false)
def tyX4 : Nat → FieldType := fun k => match k with
  | 0 => .int
  | 1 => .int
  | 2 => .object "ConsulDesk$Tokens"
  | 3 => .int
  | 4 => .int
  | _ => .int
theorem nmX4 : ∀ a, a < 6 → ∀ b, b < 6 → a ≠ b → (TX4 a).2.1 ≠ (TX4 b).2.1 := by decide +kernel
theorem tyX4_ok : ∀ k, k < 6 → parseFieldDescriptor (TX4 k).2.2.1 = some (tyX4 k) := by decide +kernel
abbrev cX4_init : ByteArray := prog_6_method_1_code
def yX4_init : MethodName := ⟨RX4, "<init>", "(LConsulDesk$Tokens;)V"⟩
abbrev cX4_read : ByteArray := prog_6_method_2_code
def yX4_read : MethodName := ⟨RX4, "read", "()[LConsulDesk$Line;"⟩
abbrev cX4_readLine : ByteArray := prog_6_method_3_code
def yX4_readLine : MethodName := ⟨RX4, "readLine", "(I)LConsulDesk$Line;"⟩
abbrev cX4_readTests : ByteArray := prog_6_method_4_code
def yX4_readTests : MethodName := ⟨RX4, "readTests", "(LConsulDesk$Line;)V"⟩
abbrev cX4_readTest : ByteArray := prog_6_method_5_code
def yX4_readTest : MethodName := ⟨RX4, "readTest", "(I)LConsulDesk$Test;"⟩
abbrev cX4_readTerms : ByteArray := prog_6_method_6_code
def yX4_readTerms : MethodName := ⟨RX4, "readTerms", "(LConsulDesk$Line;)V"⟩
abbrev cX4_readTerm : ByteArray := prog_6_method_7_code
def yX4_readTerm : MethodName := ⟨RX4, "readTerm", "(I)LConsulDesk$Term;"⟩
abbrev cX4_needName : ByteArray := prog_6_method_8_code
def yX4_needName : MethodName := ⟨RX4, "needName", "()I"⟩
abbrev cX4_need : ByteArray := prog_6_method_9_code
def yX4_need : MethodName := ⟨RX4, "need", "(I)I"⟩
abbrev cX4_skip : ByteArray := prog_6_method_10_code
def yX4_skip : MethodName := ⟨RX4, "skip", "(I)Z"⟩
abbrev cX4_blame : ByteArray := prog_6_method_11_code
def yX4_blame : MethodName := ⟨RX4, "blame", "(I)V"⟩
abbrev cX4_isName : ByteArray := prog_6_method_12_code
def yX4_isName : MethodName := ⟨RX4, "isName", "(I)Z"⟩
def RX5 : String := "ConsulDesk$Tape"
def TX5 : u_T := fun k => match k with
  | 0 => ("ConsulDesk$Tape", "bytes", "[I", true)
  | _ => ("ConsulDesk$Tape", "length", "I", false)
def tyX5 : Nat → FieldType := fun k => match k with
  | 0 => .array .int
  | _ => .int
theorem nmX5 : ∀ a, a < 2 → ∀ b, b < 2 → a ≠ b → (TX5 a).2.1 ≠ (TX5 b).2.1 := by decide +kernel
theorem tyX5_ok : ∀ k, k < 2 → parseFieldDescriptor (TX5 k).2.2.1 = some (tyX5 k) := by decide +kernel
abbrev cX5_init : ByteArray := prog_7_method_1_code
def yX5_init : MethodName := ⟨RX5, "<init>", "()V"⟩
abbrev cX5_add : ByteArray := prog_7_method_2_code
def yX5_add : MethodName := ⟨RX5, "add", "(I)V"⟩
abbrev cX5_clear : ByteArray := prog_7_method_3_code
def yX5_clear : MethodName := ⟨RX5, "clear", "()V"⟩
abbrev cX5_at : ByteArray := prog_7_method_4_code
def yX5_at : MethodName := ⟨RX5, "at", "(I)I"⟩
def RX6 : String := "ConsulDesk$Tariff"
def TX6 : u_T := fun k => match k with
  | 0 => ("ConsulDesk$Tariff", "day", "I", true)
  | _ => ("ConsulDesk$Tariff", "lines", "[LConsulDesk$Line;", true)
def tyX6 : Nat → FieldType := fun k => match k with
  | 0 => .int
  | _ => .array (.object "ConsulDesk$Line")
theorem nmX6 : ∀ a, a < 2 → ∀ b, b < 2 → a ≠ b → (TX6 a).2.1 ≠ (TX6 b).2.1 := by decide +kernel
theorem tyX6_ok : ∀ k, k < 2 → parseFieldDescriptor (TX6 k).2.2.1 = some (tyX6 k) := by decide +kernel
abbrev cX6_init : ByteArray := prog_8_method_1_code
def yX6_init : MethodName := ⟨RX6, "<init>", "(I[LConsulDesk$Line;)V"⟩
abbrev cX6_feeOf : ByteArray := prog_8_method_2_code
def yX6_feeOf : MethodName := ⟨RX6, "feeOf", "(LConsulDesk$Paper;)I"⟩
def RX7 : String := "ConsulDesk$Term"
def TX7 : u_T := fun k => match k with
  | 0 => ("ConsulDesk$Term", "factor", "I", true)
  | 1 => ("ConsulDesk$Term", "name", "I", true)
  | _ => ("ConsulDesk$Term", "divisor", "I", true)
def tyX7 : Nat → FieldType := fun k => match k with
  | 0 => .int
  | 1 => .int
  | _ => .int
theorem nmX7 : ∀ a, a < 3 → ∀ b, b < 3 → a ≠ b → (TX7 a).2.1 ≠ (TX7 b).2.1 := by decide +kernel
theorem tyX7_ok : ∀ k, k < 3 → parseFieldDescriptor (TX7 k).2.2.1 = some (tyX7 k) := by decide +kernel
abbrev cX7_init : ByteArray := prog_9_method_1_code
def yX7_init : MethodName := ⟨RX7, "<init>", "(III)V"⟩
abbrev cX7_amount : ByteArray := prog_9_method_2_code
def yX7_amount : MethodName := ⟨RX7, "amount", "(LConsulDesk$Paper;)I"⟩
def RX8 : String := "ConsulDesk$Test"
def TX8 : u_T := fun k => match k with
  | 0 => ("ConsulDesk$Test", "name", "I", true)
  | 1 => ("ConsulDesk$Test", "sign", "I", true)
  | _ => ("ConsulDesk$Test", "number", "I", true)
def tyX8 : Nat → FieldType := fun k => match k with
  | 0 => .int
  | 1 => .int
  | _ => .int
theorem nmX8 : ∀ a, a < 3 → ∀ b, b < 3 → a ≠ b → (TX8 a).2.1 ≠ (TX8 b).2.1 := by decide +kernel
theorem tyX8_ok : ∀ k, k < 3 → parseFieldDescriptor (TX8 k).2.2.1 = some (tyX8 k) := by decide +kernel
abbrev cX8_init : ByteArray := prog_10_method_1_code
def yX8_init : MethodName := ⟨RX8, "<init>", "(III)V"⟩
abbrev cX8_holds : ByteArray := prog_10_method_2_code
def yX8_holds : MethodName := ⟨RX8, "holds", "(LConsulDesk$Paper;)Z"⟩
def RX9 : String := "ConsulDesk$Tokens"
def TX9 : u_T := fun k => match k with
  | 0 => ("ConsulDesk$Tokens", "kinds", "[I", true)
  | 1 => ("ConsulDesk$Tokens", "places", "[I", true)
  | 2 => ("ConsulDesk$Tokens", "numbers", "[I", true)
  | _ => ("ConsulDesk$Tokens", "many", "I", false)
def tyX9 : Nat → FieldType := fun k => match k with
  | 0 => .array .int
  | 1 => .array .int
  | 2 => .array .int
  | _ => .int
theorem nmX9 : ∀ a, a < 4 → ∀ b, b < 4 → a ≠ b → (TX9 a).2.1 ≠ (TX9 b).2.1 := by decide +kernel
theorem tyX9_ok : ∀ k, k < 4 → parseFieldDescriptor (TX9 k).2.2.1 = some (tyX9 k) := by decide +kernel
abbrev cX9_init : ByteArray := prog_11_method_1_code
def yX9_init : MethodName := ⟨RX9, "<init>", "()V"⟩
abbrev cX9_cut : ByteArray := prog_11_method_2_code
def yX9_cut : MethodName := ⟨RX9, "cut", "(LConsulDesk$Tape;I)V"⟩
abbrev cX9_cutOne : ByteArray := prog_11_method_3_code
def yX9_cutOne : MethodName := ⟨RX9, "cutOne", "(LConsulDesk$Tape;II)I"⟩
abbrev cX9_cutWord : ByteArray := prog_11_method_4_code
def yX9_cutWord : MethodName := ⟨RX9, "cutWord", "(LConsulDesk$Tape;II)I"⟩
abbrev cX9_cutNumber : ByteArray := prog_11_method_5_code
def yX9_cutNumber : MethodName := ⟨RX9, "cutNumber", "(LConsulDesk$Tape;II)I"⟩
abbrev cX9_put : ByteArray := prog_11_method_6_code
def yX9_put : MethodName := ⟨RX9, "put", "(III)V"⟩
abbrev cX9_isLetter : ByteArray := prog_11_method_7_code
def yX9_isLetter : MethodName := ⟨RX9, "isLetter", "(I)Z"⟩
abbrev cX9_isDigit : ByteArray := prog_11_method_8_code
def yX9_isDigit : MethodName := ⟨RX9, "isDigit", "(I)Z"⟩
abbrev cX9_wordKind : ByteArray := prog_11_method_9_code
def yX9_wordKind : MethodName := ⟨RX9, "wordKind", "(LConsulDesk$Tape;II)I"⟩
abbrev cX9_isWord : ByteArray := prog_11_method_10_code
def yX9_isWord : MethodName := ⟨RX9, "isWord", "(LConsulDesk$Tape;IILjava/lang/String;)Z"⟩
def RX10 : String := "ConsulDesk"
def TX10 : u_T := fun k => match k with
  | 0 => ("ConsulDesk", "ports", "[LConsulDesk$Port;", true)
  | 1 => ("ConsulDesk", "tariffs", "[LConsulDesk$Tariff;", true)
  | 2 => ("ConsulDesk", "papers", "[LConsulDesk$Paper;", true)
  | 3 => ("ConsulDesk", "tape", "LConsulDesk$Tape;", true)
  | 4 => ("ConsulDesk", "tokens", "LConsulDesk$Tokens;", true)
  | 5 => ("ConsulDesk", "reader", "LConsulDesk$Reader;", true)
  | 6 => ("ConsulDesk", "change", "LConsulDesk$Change;", true)
  | 7 => ("ConsulDesk", "portCount", "I", false)
  | 8 => ("ConsulDesk", "tariffCount", "I", false)
  | 9 => ("ConsulDesk", "paperCount", "I", false)
  | 10 => ("ConsulDesk", "today", "I", false)
  | 11 => ("ConsulDesk", "lastTrouble", "I", false)
  | _ => ("ConsulDesk", "lastFault", "I", false)
def tyX10 : Nat → FieldType := fun k => match k with
  | 0 => .array (.object "ConsulDesk$Port")
  | 1 => .array (.object "ConsulDesk$Tariff")
  | 2 => .array (.object "ConsulDesk$Paper")
  | 3 => .object "ConsulDesk$Tape"
  | 4 => .object "ConsulDesk$Tokens"
  | 5 => .object "ConsulDesk$Reader"
  | 6 => .object "ConsulDesk$Change"
  | 7 => .int
  | 8 => .int
  | 9 => .int
  | 10 => .int
  | 11 => .int
  | _ => .int
theorem nmX10 : ∀ a, a < 13 → ∀ b, b < 13 → a ≠ b → (TX10 a).2.1 ≠ (TX10 b).2.1 := by decide +kernel
theorem tyX10_ok : ∀ k, k < 13 → parseFieldDescriptor (TX10 k).2.2.1 = some (tyX10 k) := by decide +kernel
abbrev cX10_init : ByteArray := prog_1_method_1_code
def yX10_init : MethodName := ⟨RX10, "<init>", "()V"⟩
abbrev cX10_port : ByteArray := prog_1_method_2_code
def yX10_port : MethodName := ⟨RX10, "port", "(I)I"⟩
abbrev cX10_feed : ByteArray := prog_1_method_3_code
def yX10_feed : MethodName := ⟨RX10, "feed", "(IIIII)I"⟩
abbrev cX10_tariff : ByteArray := prog_1_method_4_code
def yX10_tariff : MethodName := ⟨RX10, "tariff", "(I)I"⟩
abbrev cX10_fault : ByteArray := prog_1_method_5_code
def yX10_fault : MethodName := ⟨RX10, "fault", "()I"⟩
abbrev cX10_where : ByteArray := prog_1_method_6_code
def yX10_where : MethodName := ⟨RX10, "where", "()I"⟩
abbrev cX10_lost : ByteArray := prog_1_method_7_code
def yX10_lost : MethodName := ⟨RX10, "lost", "(II)Z"⟩
abbrev cX10_pass : ByteArray := prog_1_method_8_code
def yX10_pass : MethodName := ⟨RX10, "pass", "(I)I"⟩
abbrev cX10_force : ByteArray := prog_1_method_9_code
def yX10_force : MethodName := ⟨RX10, "force", "(I)I"⟩
abbrev cX10_came : ByteArray := prog_1_method_10_code
def yX10_came : MethodName := ⟨RX10, "came", "(II)I"⟩
abbrev cX10_asked : ByteArray := prog_1_method_11_code
def yX10_asked : MethodName := ⟨RX10, "asked", "(II)I"⟩
abbrev cX10_under : ByteArray := prog_1_method_12_code
def yX10_under : MethodName := ⟨RX10, "under", "(I)I"⟩
abbrev cX10_stock : ByteArray := prog_1_method_13_code
def yX10_stock : MethodName := ⟨RX10, "stock", "(III)I"⟩
abbrev cX10_fee : ByteArray := prog_1_method_14_code
def yX10_fee : MethodName := ⟨RX10, "fee", "(IIIII)I"⟩
abbrev cX10_seal : ByteArray := prog_1_method_15_code
def yX10_seal : MethodName := ⟨RX10, "seal", "(IIII)I"⟩
abbrev cX10_paper : ByteArray := prog_1_method_16_code
def yX10_paper : MethodName := ⟨RX10, "paper", "(II)I"⟩
abbrev cX10_stamps : ByteArray := prog_1_method_17_code
def yX10_stamps : MethodName := ⟨RX10, "stamps", "(II)I"⟩
abbrev cX10_about : ByteArray := prog_1_method_18_code
def yX10_about : MethodName := ⟨RX10, "about", "(II)I"⟩
abbrev cX10_known : ByteArray := prog_1_method_19_code
def yX10_known : MethodName := ⟨RX10, "known", "(II)I"⟩
abbrev cX10_sum : ByteArray := prog_1_method_20_code
def yX10_sum : MethodName := ⟨RX10, "sum", "(II)I"⟩
abbrev cX10_homes : ByteArray := prog_1_method_21_code
def yX10_homes : MethodName := ⟨RX10, "homes", "(I)I"⟩
abbrev cX10_difference : ByteArray := prog_1_method_22_code
def yX10_difference : MethodName := ⟨RX10, "difference", "(I)I"⟩
abbrev cX10_unlike : ByteArray := prog_1_method_23_code
def yX10_unlike : MethodName := ⟨RX10, "unlike", "(I)I"⟩
abbrev cX10_count : ByteArray := prog_1_method_24_code
def yX10_count : MethodName := ⟨RX10, "count", "(I)I"⟩
abbrev cX10_trouble : ByteArray := prog_1_method_25_code
def yX10_trouble : MethodName := ⟨RX10, "trouble", "()I"⟩
abbrev cX10_refuse : ByteArray := prog_1_method_26_code
def yX10_refuse : MethodName := ⟨RX10, "refuse", "(I)I"⟩
abbrev cX10_accept : ByteArray := prog_1_method_27_code
def yX10_accept : MethodName := ⟨RX10, "accept", "(I)I"⟩
abbrev cX10_portAt : ByteArray := prog_1_method_28_code
def yX10_portAt : MethodName := ⟨RX10, "portAt", "(I)LConsulDesk$Port;"⟩
abbrev cX10_tariffAt : ByteArray := prog_1_method_29_code
def yX10_tariffAt : MethodName := ⟨RX10, "tariffAt", "(I)LConsulDesk$Tariff;"⟩
abbrev cX10_paperAt : ByteArray := prog_1_method_30_code
def yX10_paperAt : MethodName := ⟨RX10, "paperAt", "(I)LConsulDesk$Paper;"⟩
abbrev cX10_isWorth : ByteArray := prog_1_method_31_code
def yX10_isWorth : MethodName := ⟨RX10, "isWorth", "(I)Z"⟩
abbrev cX10_isPaper : ByteArray := prog_1_method_32_code
def yX10_isPaper : MethodName := ⟨RX10, "isPaper", "(III)Z"⟩
abbrev cX10_isPast : ByteArray := prog_1_method_33_code
def yX10_isPast : MethodName := ⟨RX10, "isPast", "(I)Z"⟩
abbrev cX10_sendOut : ByteArray := prog_1_method_34_code
def yX10_sendOut : MethodName := ⟨RX10, "sendOut", "()V"⟩
abbrev cX10_knownDay : ByteArray := prog_1_method_35_code
def yX10_knownDay : MethodName := ⟨RX10, "knownDay", "(LConsulDesk$Paper;)I"⟩
abbrev cX10_isKnown : ByteArray := prog_1_method_36_code
def yX10_isKnown : MethodName := ⟨RX10, "isKnown", "(LConsulDesk$Paper;I)Z"⟩
abbrev cX10_isKnownOf : ByteArray := prog_1_method_37_code
def yX10_isKnownOf : MethodName := ⟨RX10, "isKnownOf", "(III)Z"⟩
abbrev cX10_chargedFor : ByteArray := prog_1_method_38_code
def yX10_chargedFor : MethodName := ⟨RX10, "chargedFor", "(I)I"⟩
abbrev cX10_homeFee : ByteArray := prog_1_method_39_code
def yX10_homeFee : MethodName := ⟨RX10, "homeFee", "(I)I"⟩
abbrev cX10_accountsBelow : ByteArray := prog_1_method_40_code
def yX10_accountsBelow : MethodName := ⟨RX10, "accountsBelow", "(I)I"⟩
def RX11 : String := "ConsulDeskModel$Stop"
def TX11 : u_T := fun k => match k with
  | 0 => ("java/lang/Throwable", "cause", "Ljava/lang/Throwable;", false)
  | 1 => ("java/lang/Throwable", "stackTrace", "[Ljava/lang/StackTraceElement;", false)
  | 2 => ("java/lang/Throwable", "suppressedExceptions", "Ljava/util/List;", false)
  | 3 => ("java/lang/Throwable", "detailMessage", "Ljava/lang/String;", false)
  | 4 => ("java/lang/Throwable", "backtrace", "Ljava/lang/Object;", false)
  | 5 => ("java/lang/Throwable", "depth", "I", false)
  | 6 => ("ConsulDeskModel$Stop", "kind", "I", false)
  | _ => ("ConsulDeskModel$Stop", "place", "I", false)
def tyX11 : Nat → FieldType := fun k => match k with
  | 0 => .object "java/lang/Throwable"
  | 1 => .array (.object "java/lang/StackTraceElement")
  | 2 => .object "java/util/List"
  | 3 => .object "java/lang/String"
  | 4 => .object "java/lang/Object"
  | 5 => .int
  | 6 => .int
  | _ => .int
theorem nmX11 : ∀ a, a < 8 → ∀ b, b < 8 → a ≠ b → (TX11 a).2.1 ≠ (TX11 b).2.1 := by decide +kernel
theorem tyX11_ok : ∀ k, k < 8 → parseFieldDescriptor (TX11 k).2.2.1 = some (tyX11 k) := by decide +kernel
abbrev cX11_init : ByteArray := prog_14_method_1_code
def yX11_init : MethodName := ⟨RX11, "<init>", "()V"⟩
def RX12 : String := "ConsulDeskModel"
def TX12 : u_T := fun k => match k with
  | 0 => ("ConsulDeskModel", "thrown", "I", false)
  | 1 => ("ConsulDeskModel", "trouble", "I", false)
  | 2 => ("ConsulDeskModel", "where", "I", false)
  | 3 => ("ConsulDeskModel", "fault", "I", false)
  | 4 => ("ConsulDeskModel", "stop", "LConsulDeskModel$Stop;", true)
  | 5 => ("ConsulDeskModel", "tape", "[B", true)
  | 6 => ("ConsulDeskModel", "taped", "I", false)
  | 7 => ("ConsulDeskModel", "size", "I", false)
  | 8 => ("ConsulDeskModel", "at", "I", false)
  | 9 => ("ConsulDeskModel", "sort", "I", false)
  | 10 => ("ConsulDeskModel", "place", "I", false)
  | 11 => ("ConsulDeskModel", "sign", "I", false)
  | 12 => ("ConsulDeskModel", "number", "I", false)
  | 13 => ("ConsulDeskModel", "word", "J", false)
  | 14 => ("ConsulDeskModel", "tariffs", "I", false)
  | 15 => ("ConsulDeskModel", "told", "[I", true)
  | 16 => ("ConsulDeskModel", "lines", "[I", true)
  | 17 => ("ConsulDeskModel", "kind", "[I", true)
  | 18 => ("ConsulDeskModel", "tests", "[I", true)
  | 19 => ("ConsulDeskModel", "terms", "[I", true)
  | 20 => ("ConsulDeskModel", "testName", "[I", true)
  | 21 => ("ConsulDeskModel", "testSign", "[I", true)
  | 22 => ("ConsulDeskModel", "testNumber", "[I", true)
  | 23 => ("ConsulDeskModel", "termName", "[I", true)
  | 24 => ("ConsulDeskModel", "times", "[I", true)
  | 25 => ("ConsulDeskModel", "by", "[I", true)
  | 26 => ("ConsulDeskModel", "ports", "I", false)
  | 27 => ("ConsulDeskModel", "today", "I", false)
  | 28 => ("ConsulDeskModel", "days", "[I", true)
  | 29 => ("ConsulDeskModel", "opened", "[I", true)
  | 30 => ("ConsulDeskModel", "chest", "[I", true)
  | 31 => ("ConsulDeskModel", "sealedBy", "[I", true)
  | 32 => ("ConsulDeskModel", "accounts", "[I", true)
  | 33 => ("ConsulDeskModel", "stock", "[I", true)
  | 34 => ("ConsulDeskModel", "first", "[I", true)
  | 35 => ("ConsulDeskModel", "again", "[I", true)
  | 36 => ("ConsulDeskModel", "askedOn", "[I", true)
  | 37 => ("ConsulDeskModel", "isLost", "[Z", true)
  | 38 => ("ConsulDeskModel", "papers", "I", false)
  | 39 => ("ConsulDeskModel", "paperPort", "[I", true)
  | 40 => ("ConsulDeskModel", "paperKind", "[I", true)
  | 41 => ("ConsulDeskModel", "value", "[I", true)
  | 42 => ("ConsulDeskModel", "sheets", "[I", true)
  | 43 => ("ConsulDeskModel", "day", "[I", true)
  | 44 => ("ConsulDeskModel", "fee", "[I", true)
  | 45 => ("ConsulDeskModel", "tariff", "[I", true)
  | 46 => ("ConsulDeskModel", "ahead", "[I", true)
  | 47 => ("ConsulDeskModel", "stamp", "[I", true)
  | 48 => ("ConsulDeskModel", "least", "[J", true)
  | _ => ("ConsulDeskModel", "chosen", "[I", true)
def tyX12 : Nat → FieldType := fun k => match k with
  | 0 => .int
  | 1 => .int
  | 2 => .int
  | 3 => .int
  | 4 => .object "ConsulDeskModel$Stop"
  | 5 => .array .byte
  | 6 => .int
  | 7 => .int
  | 8 => .int
  | 9 => .int
  | 10 => .int
  | 11 => .int
  | 12 => .int
  | 13 => .long
  | 14 => .int
  | 15 => .array .int
  | 16 => .array .int
  | 17 => .array .int
  | 18 => .array .int
  | 19 => .array .int
  | 20 => .array .int
  | 21 => .array .int
  | 22 => .array .int
  | 23 => .array .int
  | 24 => .array .int
  | 25 => .array .int
  | 26 => .int
  | 27 => .int
  | 28 => .array .int
  | 29 => .array .int
  | 30 => .array .int
  | 31 => .array .int
  | 32 => .array .int
  | 33 => .array .int
  | 34 => .array .int
  | 35 => .array .int
  | 36 => .array .int
  | 37 => .array .boolean
  | 38 => .int
  | 39 => .array .int
  | 40 => .array .int
  | 41 => .array .int
  | 42 => .array .int
  | 43 => .array .int
  | 44 => .array .int
  | 45 => .array .int
  | 46 => .array .int
  | 47 => .array .int
  | 48 => .array .long
  | _ => .array .int
theorem nmX12 : ∀ a, a < 50 → ∀ b, b < 50 → a ≠ b → (TX12 a).2.1 ≠ (TX12 b).2.1 := by decide +kernel
theorem tyX12_ok : ∀ k, k < 50 → parseFieldDescriptor (TX12 k).2.2.1 = some (tyX12 k) := by decide +kernel
abbrev cX12_init : ByteArray := prog_13_method_1_code
def yX12_init : MethodName := ⟨RX12, "<init>", "()V"⟩
abbrev cX12_refused : ByteArray := prog_13_method_3_code
def yX12_refused : MethodName := ⟨RX12, "refused", "(I)I"⟩
abbrev cX12_done : ByteArray := prog_13_method_4_code
def yX12_done : MethodName := ⟨RX12, "done", "(I)I"⟩
abbrev cX12_in : ByteArray := prog_13_method_5_code
def yX12_in : MethodName := ⟨RX12, "in", "(III)Z"⟩
abbrev cX12_stop : ByteArray := prog_13_method_6_code
def yX12_stop : MethodName := ⟨RX12, "stop", "(I)LConsulDeskModel$Stop;"⟩
abbrev cX12_byteAt : ByteArray := prog_13_method_7_code
def yX12_byteAt : MethodName := ⟨RX12, "byteAt", "(I)I"⟩
abbrev cX12_isLetter : ByteArray := prog_13_method_8_code
def yX12_isLetter : MethodName := ⟨RX12, "isLetter", "(I)Z"⟩
abbrev cX12_isDigit : ByteArray := prog_13_method_9_code
def yX12_isDigit : MethodName := ⟨RX12, "isDigit", "(I)Z"⟩
abbrev cX12_wordOf : ByteArray := prog_13_method_10_code
def yX12_wordOf : MethodName := ⟨RX12, "wordOf", "(Ljava/lang/String;)J"⟩
abbrev cX12_next : ByteArray := prog_13_method_11_code
def yX12_next : MethodName := ⟨RX12, "next", "()V"⟩
abbrev cX12_isWord : ByteArray := prog_13_method_12_code
def yX12_isWord : MethodName := ⟨RX12, "isWord", "(Ljava/lang/String;)Z"⟩
abbrev cX12_is : ByteArray := prog_13_method_13_code
def yX12_is : MethodName := ⟨RX12, "is", "(I)Z"⟩
abbrev cX12_nameHere : ByteArray := prog_13_method_14_code
def yX12_nameHere : MethodName := ⟨RX12, "nameHere", "()I"⟩
abbrev cX12_reads : ByteArray := prog_13_method_15_code
def yX12_reads : MethodName := ⟨RX12, "reads", "()V"⟩
abbrev cX12_readTest : ByteArray := prog_13_method_16_code
def yX12_readTest : MethodName := ⟨RX12, "readTest", "(I)V"⟩
abbrev cX12_readTerm : ByteArray := prog_13_method_17_code
def yX12_readTerm : MethodName := ⟨RX12, "readTerm", "(I)V"⟩
abbrev cX12_valueOf : ByteArray := prog_13_method_18_code
def yX12_valueOf : MethodName := ⟨RX12, "valueOf", "(IIIII)I"⟩
abbrev cX12_feeOf : ByteArray := prog_13_method_19_code
def yX12_feeOf : MethodName := ⟨RX12, "feeOf", "(IIIIII)I"⟩
abbrev cX12_port : ByteArray := prog_13_method_20_code
def yX12_port : MethodName := ⟨RX12, "port", "(I)I"⟩
abbrev cX12_sends : ByteArray := prog_13_method_21_code
def yX12_sends : MethodName := ⟨RX12, "sends", "(III)V"⟩
abbrev cX12_feed : ByteArray := prog_13_method_22_code
def yX12_feed : MethodName := ⟨RX12, "feed", "(IIIII)I"⟩
abbrev cX12_tariff : ByteArray := prog_13_method_23_code
def yX12_tariff : MethodName := ⟨RX12, "tariff", "(I)I"⟩
abbrev cX12_fault : ByteArray := prog_13_method_24_code
def yX12_fault : MethodName := ⟨RX12, "fault", "()I"⟩
abbrev cX12_where : ByteArray := prog_13_method_25_code
def yX12_where : MethodName := ⟨RX12, "where", "()I"⟩
abbrev cX12_isPort : ByteArray := prog_13_method_26_code
def yX12_isPort : MethodName := ⟨RX12, "isPort", "(I)Z"⟩
abbrev cX12_isTariff : ByteArray := prog_13_method_27_code
def yX12_isTariff : MethodName := ⟨RX12, "isTariff", "(I)Z"⟩
abbrev cX12_comes : ByteArray := prog_13_method_28_code
def yX12_comes : MethodName := ⟨RX12, "comes", "(II)I"⟩
abbrev cX12_hasCome : ByteArray := prog_13_method_29_code
def yX12_hasCome : MethodName := ⟨RX12, "hasCome", "(III)Z"⟩
abbrev cX12_lost : ByteArray := prog_13_method_30_code
def yX12_lost : MethodName := ⟨RX12, "lost", "(II)Z"⟩
abbrev cX12_asks : ByteArray := prog_13_method_31_code
def yX12_asks : MethodName := ⟨RX12, "asks", "(II)V"⟩
abbrev cX12_pass : ByteArray := prog_13_method_32_code
def yX12_pass : MethodName := ⟨RX12, "pass", "(I)I"⟩
abbrev cX12_forceOf : ByteArray := prog_13_method_33_code
def yX12_forceOf : MethodName := ⟨RX12, "forceOf", "(I)I"⟩
abbrev cX12_force : ByteArray := prog_13_method_34_code
def yX12_force : MethodName := ⟨RX12, "force", "(I)I"⟩
abbrev cX12_came : ByteArray := prog_13_method_35_code
def yX12_came : MethodName := ⟨RX12, "came", "(II)I"⟩
abbrev cX12_asked : ByteArray := prog_13_method_36_code
def yX12_asked : MethodName := ⟨RX12, "asked", "(II)I"⟩
abbrev cX12_under : ByteArray := prog_13_method_37_code
def yX12_under : MethodName := ⟨RX12, "under", "(I)I"⟩
abbrev cX12_stock : ByteArray := prog_13_method_38_code
def yX12_stock : MethodName := ⟨RX12, "stock", "(III)I"⟩
abbrev cX12_isPaper : ByteArray := prog_13_method_39_code
def yX12_isPaper : MethodName := ⟨RX12, "isPaper", "(III)Z"⟩
abbrev cX12_fee : ByteArray := prog_13_method_40_code
def yX12_fee : MethodName := ⟨RX12, "fee", "(IIIII)I"⟩
abbrev cX12_chooses : ByteArray := prog_13_method_41_code
def yX12_chooses : MethodName := ⟨RX12, "chooses", "(II)Z"⟩
abbrev cX12_seal : ByteArray := prog_13_method_42_code
def yX12_seal : MethodName := ⟨RX12, "seal", "(IIII)I"⟩
abbrev cX12_homeOf : ByteArray := prog_13_method_43_code
def yX12_homeOf : MethodName := ⟨RX12, "homeOf", "(I)I"⟩
abbrev cX12_paper : ByteArray := prog_13_method_44_code
def yX12_paper : MethodName := ⟨RX12, "paper", "(II)I"⟩
abbrev cX12_stamps : ByteArray := prog_13_method_45_code
def yX12_stamps : MethodName := ⟨RX12, "stamps", "(II)I"⟩
abbrev cX12_about : ByteArray := prog_13_method_46_code
def yX12_about : MethodName := ⟨RX12, "about", "(II)I"⟩
abbrev cX12_known : ByteArray := prog_13_method_47_code
def yX12_known : MethodName := ⟨RX12, "known", "(II)I"⟩
abbrev cX12_sum : ByteArray := prog_13_method_48_code
def yX12_sum : MethodName := ⟨RX12, "sum", "(II)I"⟩
abbrev cX12_homesFee : ByteArray := prog_13_method_49_code
def yX12_homesFee : MethodName := ⟨RX12, "homesFee", "(I)I"⟩
abbrev cX12_homes : ByteArray := prog_13_method_50_code
def yX12_homes : MethodName := ⟨RX12, "homes", "(I)I"⟩
abbrev cX12_difference : ByteArray := prog_13_method_51_code
def yX12_difference : MethodName := ⟨RX12, "difference", "(I)I"⟩
abbrev cX12_unlike : ByteArray := prog_13_method_52_code
def yX12_unlike : MethodName := ⟨RX12, "unlike", "(I)I"⟩
abbrev cX12_count : ByteArray := prog_13_method_53_code
def yX12_count : MethodName := ⟨RX12, "count", "(I)I"⟩
abbrev cX12_trouble : ByteArray := prog_13_method_54_code
def yX12_trouble : MethodName := ⟨RX12, "trouble", "()I"⟩
def RJ11 : String := "java/lang/Character"
def TJ11 : u_T := fun k => match k with
  | _ => ("", "", "", false)
def tyJ11 : Nat → FieldType := fun k => match k with
  | _ => .int
theorem nmJ11 : ∀ a, a < 0 → ∀ b, b < 0 → a ≠ b → (TJ11 a).2.1 ≠ (TJ11 b).2.1 := by decide +kernel
theorem tyJ11_ok : ∀ k, k < 0 → parseFieldDescriptor (TJ11 k).2.2.1 = some (tyJ11 k) := by decide +kernel
abbrev cJ11_isValidCodePoint_9a6ad : ByteArray := prog_15_method_11_code
def yJ11_isValidCodePoint_9a6ad : MethodName := ⟨RJ11, "isValidCodePoint", "(I)Z"⟩
abbrev cJ11_highSurrogate_5068e : ByteArray := prog_15_method_28_code
def yJ11_highSurrogate_5068e : MethodName := ⟨RJ11, "highSurrogate", "(I)C"⟩
abbrev cJ11_lowSurrogate_5068e : ByteArray := prog_15_method_29_code
def yJ11_lowSurrogate_5068e : MethodName := ⟨RJ11, "lowSurrogate", "(I)C"⟩
def RJx8e188 : String := "java/lang/Cloneable"
def TJx8e188 : u_T := fun k => match k with
  | _ => ("", "", "", false)
def tyJx8e188 : Nat → FieldType := fun k => match k with
  | _ => .int
theorem nmJx8e188 : ∀ a, a < 0 → ∀ b, b < 0 → a ≠ b → (TJx8e188 a).2.1 ≠ (TJx8e188 b).2.1 := by decide +kernel
theorem tyJx8e188_ok : ∀ k, k < 0 → parseFieldDescriptor (TJx8e188 k).2.2.1 = some (tyJx8e188 k) := by decide +kernel
def RJ9 : String := "java/lang/Math"
def TJ9 : u_T := fun k => match k with
  | _ => ("", "", "", false)
def tyJ9 : Nat → FieldType := fun k => match k with
  | _ => .int
theorem nmJ9 : ∀ a, a < 0 → ∀ b, b < 0 → a ≠ b → (TJ9 a).2.1 ≠ (TJ9 b).2.1 := by decide +kernel
theorem tyJ9_ok : ∀ k, k < 0 → parseFieldDescriptor (TJ9 k).2.2.1 = some (tyJ9 k) := by decide +kernel
abbrev cJ9_max_7cf53 : ByteArray := prog_18_method_65_code
def yJ9_max_7cf53 : MethodName := ⟨RJ9, "max", "(II)I"⟩
abbrev cJ9_min_7cf53 : ByteArray := prog_18_method_69_code
def yJ9_min_7cf53 : MethodName := ⟨RJ9, "min", "(II)I"⟩
abbrev cJ9_min_f86c9 : ByteArray := prog_18_method_70_code
def yJ9_min_f86c9 : MethodName := ⟨RJ9, "min", "(JJ)J"⟩
def RJ0 : String := "java/lang/String"
def TJ0 : u_T := fun k => match k with
  | _ => ("", "", "", false)
def tyJ0 : Nat → FieldType := fun k => match k with
  | _ => .int
theorem nmJ0 : ∀ a, a < 0 → ∀ b, b < 0 → a ≠ b → (TJ0 a).2.1 ≠ (TJ0 b).2.1 := by decide +kernel
theorem tyJ0_ok : ∀ k, k < 0 → parseFieldDescriptor (TJ0 k).2.2.1 = some (tyJ0 k) := by decide +kernel
abbrev cJ0_length_8abf5 : ByteArray := prog_20_method_54_code
def yJ0_length_8abf5 : MethodName := ⟨RJ0, "length", "()I"⟩
abbrev cJ0_charAt_5068e : ByteArray := prog_20_method_56_code
def yJ0_charAt_5068e : MethodName := ⟨RJ0, "charAt", "(I)C"⟩
abbrev cJ0_indexOf_0f7a4 : ByteArray := prog_20_method_79_code
def yJ0_indexOf_0f7a4 : MethodName := ⟨RJ0, "indexOf", "(I)I"⟩
abbrev cJ0_indexOf_7cf53 : ByteArray := prog_20_method_80_code
def yJ0_indexOf_7cf53 : MethodName := ⟨RJ0, "indexOf", "(II)I"⟩
abbrev cJ0_coder_7d493 : ByteArray := prog_20_method_152_code
def yJ0_coder_7d493 : MethodName := ⟨RJ0, "coder", "()B"⟩
abbrev cJ0_isLatin1_aae02 : ByteArray := prog_20_method_154_code
def yJ0_isLatin1_aae02 : MethodName := ⟨RJ0, "isLatin1", "()Z"⟩
abbrev cJ0_checkIndex_df160 : ByteArray := prog_20_method_155_code
def yJ0_checkIndex_df160 : MethodName := ⟨RJ0, "checkIndex", "(II)V"⟩
abbrev cJ0_checkBoundsBeginEnd_23922 : ByteArray := prog_20_method_158_code
def yJ0_checkBoundsBeginEnd_23922 : MethodName := ⟨RJ0, "checkBoundsBeginEnd", "(III)V"⟩
def RJ1 : String := "java/lang/StringLatin1"
def TJ1 : u_T := fun k => match k with
  | _ => ("", "", "", false)
def tyJ1 : Nat → FieldType := fun k => match k with
  | _ => .int
theorem nmJ1 : ∀ a, a < 0 → ∀ b, b < 0 → a ≠ b → (TJ1 a).2.1 ≠ (TJ1 b).2.1 := by decide +kernel
theorem tyJ1_ok : ∀ k, k < 0 → parseFieldDescriptor (TJ1 k).2.2.1 = some (tyJ1 k) := by decide +kernel
abbrev cJ1_charAt_3b067 : ByteArray := prog_21_method_2_code
def yJ1_charAt_3b067 : MethodName := ⟨RJ1, "charAt", "([BI)C"⟩
abbrev cJ1_canEncode_9a6ad : ByteArray := prog_21_method_4_code
def yJ1_canEncode_9a6ad : MethodName := ⟨RJ1, "canEncode", "(I)Z"⟩
abbrev cJ1_indexOf_4cfef : ByteArray := prog_21_method_22_code
def yJ1_indexOf_4cfef : MethodName := ⟨RJ1, "indexOf", "([BIII)I"⟩
abbrev cJ1_indexOfChar_4cfef : ByteArray := prog_21_method_23_code
def yJ1_indexOfChar_4cfef : MethodName := ⟨RJ1, "indexOfChar", "([BIII)I"⟩
def RJ2 : String := "java/lang/StringUTF16"
def TJ2 : u_T := fun k => match k with
  | _ => ("", "", "", false)
def tyJ2 : Nat → FieldType := fun k => match k with
  | _ => .int
theorem nmJ2 : ∀ a, a < 0 → ∀ b, b < 0 → a ≠ b → (TJ2 a).2.1 ≠ (TJ2 b).2.1 := by decide +kernel
theorem tyJ2_ok : ∀ k, k < 0 → parseFieldDescriptor (TJ2 k).2.2.1 = some (tyJ2 k) := by decide +kernel
abbrev cJ2_getChar_3b067 : ByteArray := prog_22_method_5_code
def yJ2_getChar_3b067 : MethodName := ⟨RJ2, "getChar", "([BI)C"⟩
abbrev cJ2_length_9d52b : ByteArray := prog_22_method_6_code
def yJ2_length_9d52b : MethodName := ⟨RJ2, "length", "([B)I"⟩
abbrev cJ2_indexOf_4cfef : ByteArray := prog_22_method_40_code
def yJ2_indexOf_4cfef : MethodName := ⟨RJ2, "indexOf", "([BIII)I"⟩
abbrev cJ2_indexOfChar_4cfef : ByteArray := prog_22_method_47_code
def yJ2_indexOfChar_4cfef : MethodName := ⟨RJ2, "indexOfChar", "([BIII)I"⟩
abbrev cJ2_indexOfCharUnsafe_4cfef : ByteArray := prog_22_method_48_code
def yJ2_indexOfCharUnsafe_4cfef : MethodName := ⟨RJ2, "indexOfCharUnsafe", "([BIII)I"⟩
abbrev cJ2_indexOfSupplementary_4cfef : ByteArray := prog_22_method_49_code
def yJ2_indexOfSupplementary_4cfef : MethodName := ⟨RJ2, "indexOfSupplementary", "([BIII)I"⟩
abbrev cJ2_charAt_3b067 : ByteArray := prog_22_method_83_code
def yJ2_charAt_3b067 : MethodName := ⟨RJ2, "charAt", "([BI)C"⟩
abbrev cJ2_checkIndex_2214a : ByteArray := prog_22_method_91_code
def yJ2_checkIndex_2214a : MethodName := ⟨RJ2, "checkIndex", "(I[B)V"⟩
abbrev cJ2_checkBoundsBeginEnd_d044e : ByteArray := prog_22_method_93_code
def yJ2_checkBoundsBeginEnd_d044e : MethodName := ⟨RJ2, "checkBoundsBeginEnd", "(II[B)V"⟩
def RJ3 : String := "jdk/internal/util/Preconditions"
def TJ3 : u_T := fun k => match k with
  | _ => ("", "", "", false)
def tyJ3 : Nat → FieldType := fun k => match k with
  | _ => .int
theorem nmJ3 : ∀ a, a < 0 → ∀ b, b < 0 → a ≠ b → (TJ3 a).2.1 ≠ (TJ3 b).2.1 := by decide +kernel
theorem tyJ3_ok : ∀ k, k < 0 → parseFieldDescriptor (TJ3 k).2.2.1 = some (tyJ3 k) := by decide +kernel
abbrev cJ3_checkIndex_8e157 : ByteArray := prog_24_method_11_code
def yJ3_checkIndex_8e157 : MethodName := ⟨RJ3, "checkIndex", "(IILjava/util/function/BiFunction;)I"⟩
abbrev cJ3_checkFromToIndex_8c36e : ByteArray := prog_24_method_12_code
def yJ3_checkFromToIndex_8c36e : MethodName := ⟨RJ3, "checkFromToIndex", "(IIILjava/util/function/BiFunction;)I"⟩
def RL : String := "ConsulDeskLaw"
abbrev cL_law : ByteArray := code
def yL_law : MethodName := ⟨RL, "law", "([I)Z"⟩
end
section
/-! the memory as total functions: a shape for each address, and what its places hold -/
abbrev mm_S : Type := Nat ⊕ (Nat × Nat)
abbrev mm_M : Type := (Nat → Option mm_S) × (Nat → Nat → Int32) × (Nat → Nat → Int64) × (Nat → Nat → Option Nat) × Nat
def mm_sh (M : mm_M) (a : Nat) : Option mm_S := M.1 a
def mm_I (M : mm_M) (a : Nat) : Nat → Int32 := M.2.1 a
def mm_L (M : mm_M) (a : Nat) : Nat → Int64 := M.2.2.1 a
def mm_R (M : mm_M) (a : Nat) : Nat → Option Nat := M.2.2.2.1 a
def mm_z (M : mm_M) : Nat := M.2.2.2.2
def mm_u {α : Type} (f : Nat → Nat → α) (a k : Nat) (v : α) : Nat → Nat → α := fun b j => if b = a ∧ j = k then v else f b j
def mm_f {α : Type} (f : Nat → Nat → α) (a : Nat) (v : α) : Nat → Nat → α := fun b j => if b = a then v else f b j
def mm_sI (M : mm_M) (a k : Nat) (v : Int32) : mm_M := (M.1, mm_u M.2.1 a k v, M.2.2)
def mm_sL (M : mm_M) (a k : Nat) (v : Int64) : mm_M := (M.1, M.2.1, mm_u M.2.2.1 a k v, M.2.2.2)
def mm_sR (M : mm_M) (a k : Nat) (v : Option Nat) : mm_M := (M.1, M.2.1, M.2.2.1, mm_u M.2.2.2.1 a k v, M.2.2.2.2)
def mm_new (M : mm_M) (s : mm_S) : mm_M := (fun b => if b = mm_z M then some s else M.1 b, mm_f M.2.1 (mm_z M) 0, mm_f M.2.2.1 (mm_z M) 0, mm_f M.2.2.2.1 (mm_z M) none, mm_z M + 1)
/-! the classes whose objects the memory holds, and the kinds of arrays: 0 int, 1 byte, 2 boolean, 3 long, 4 .. references; 10 and 11 are tables of ints and of bytes that nobody writes -/
abbrev mm_cl : List vw_C := [(RX0, TX0, 3), (RX1, TX1, 3), (RX2, TX2, 9), (RX3, TX3, 8), (RX4, TX4, 6), (RX5, TX5, 2), (RX6, TX6, 2), (RX7, TX7, 3), (RX8, TX8, 3), (RX9, TX9, 4), (RX10, TX10, 13), (RX11, TX11, 8), (RX12, TX12, 50)]
def mm_ty (ci : Nat) : Nat → FieldType := match ci with
  | 0 => tyX0 | 1 => tyX1 | 2 => tyX2 | 3 => tyX3 | 4 => tyX4 | 5 => tyX5 | 6 => tyX6 | 7 => tyX7 | 8 => tyX8 | 9 => tyX9 | 10 => tyX10 | 11 => tyX11 | _ => tyX12
def mm_el (k : Nat) : FieldType := match k with
  | 0 => .int | 1 => .byte | 2 => .boolean | 3 => .long | 4 => .object "ConsulDesk$Line" | 5 => .object "ConsulDesk$Paper" | 6 => .object "ConsulDesk$Port" | 7 => .object "ConsulDesk$Tariff" | 8 => .object "ConsulDesk$Term" | _ => .object "ConsulDesk$Test"
def mm_fv (i : Nat → Int32) (l : Nat → Int64) (r : Nat → Option Nat) (k : Nat) (ty : FieldType) : Value := match ty with
  | .long => .long (l k)
  | .object _ => va_rf (r k)
  | .array _ => va_rf (r k)
  | _ => .int (i k)
def mm_ar (i : Nat → Int32) (l : Nat → Int64) (r : Nat → Option Nat) (k n : Nat) : vp_A := (n, if k < 3 then .inl i else if k = 3 then .inr (.inl l) else .inr (.inr (.inr (.inr r))))
/-- what the machine is asked for: the classes' numbers and slots, the array classes, where the law began, the statics' values -/
abbrev mm_G : Type := va_G × (Nat → ClassId) × Nat × (Nat → Value) × (Nat → Nat) × (Nat → Nat)
abbrev mm_sz (G : mm_G) : Nat := G.2.2.1
def mm_tb (ty : FieldType) (n : Nat) (i : Nat → Int32) (U : State) (H : Heap) (a : Nat) : Prop := ∃ cell : Cell, H[a]? = some cell ∧ U.isArrayOf cell ty ∧ cell.vm ≠ .unknown ∧ n ≤ cell.slots.size ∧ cell.slots.size.toInt32 = Int32.ofNat n ∧ ∀ j : Nat, j < n → cell.slots[j]? = some (.int (i j))
def mm_at (G : mm_G) (U : State) (H : Heap) (a : Nat) (s : mm_S) (i : Nat → Int32) (l : Nat → Int64) (r : Nat → Option Nat) : Prop := match s with
  | .inl ci => mm_sz G ≤ a ∧ ∃ q : vw_C, mm_cl[ci]? = some q ∧ t_OB a (G.1.1 ci) q.2.2 (G.1.2 ci) H (fun k => mm_fv i l r k (mm_ty ci k))
  | .inr (k, n) => if k < 10 then mm_sz G ≤ a ∧ H[a]? = some (vp_cell (G.2.1 k) (mm_ar i l r k n)) else a < mm_sz G ∧ mm_tb (if k = 10 then .int else .byte) n i U H a
def mm_ok (G : mm_G) (M : mm_M) (U : State) (H : Heap) : Prop := (∀ a s, mm_sh M a = some s → mm_at G U H a s (mm_I M a) (mm_L M a) (mm_R M a)) ∧ H.size = mm_z M
theorem mm_at_kept {G : mm_G} {U : State} {H H1 : Heap} {a : Nat} {s : mm_S} {i : Nat → Int32} {l : Nat → Int64} {r : Nat → Option Nat} (h : mm_at G U H a s i l r) (hq : H1[a]? = H[a]?) : mm_at G U H1 a s i l r := by
  rcases s with ci | ⟨k, n⟩
  · obtain ⟨h0, q, h1, h2⟩ := h
    exact ⟨h0, q, h1, h2.kept hq⟩
  · unfold mm_at at h ⊢
    by_cases hk : k < 10
    · simp only [hk, if_true] at h ⊢
      exact ⟨h.1, by rw [hq]; exact h.2⟩
    · simp only [hk, if_false] at h ⊢
      obtain ⟨h0, cell, h1, h2⟩ := h
      exact ⟨h0, cell, by rw [hq]; exact h1, h2⟩
theorem mm_at_lt {G : mm_G} {U : State} {H : Heap} {a : Nat} {s : mm_S} {i : Nat → Int32} {l : Nat → Int64} {r : Nat → Option Nat} (h : mm_at G U H a s i l r) : a < H.size := by
  rcases s with ci | ⟨k, n⟩
  · obtain ⟨h0, q, h1, cell, h2, -⟩ := h
    exact (Array.getElem?_eq_some_iff.mp h2).1
  · unfold mm_at at h
    by_cases hk : k < 10
    · simp only [hk, if_true] at h
      exact (Array.getElem?_eq_some_iff.mp h.2).1
    · simp only [hk, if_false] at h
      obtain ⟨h0, cell, h1, h2⟩ := h
      exact (Array.getElem?_eq_some_iff.mp h1).1
theorem mm_at_moved {G : mm_G} {u U : State} {H : Heap} {a : Nat} {s : mm_S} {i : Nat → Int32} {l : Nat → Int64} {r : Nat → Option Nat} (hvm : u.vm.Alike U.vm) (h : mm_at G u H a s i l r) : mm_at G U H a s i l r := by
  rcases s with ci | ⟨k, n⟩
  · exact h
  · unfold mm_at at h ⊢
    by_cases hk : k < 10
    · simp only [hk, if_true] at h ⊢
      exact h
    · simp only [hk, if_false] at h ⊢
      obtain ⟨h0, cell, h1, h2, h3⟩ := h
      exact ⟨h0, cell, h1, State.isArrayOf_alike hvm h2, h3⟩
theorem mm_ok_lt {G : mm_G} {M : mm_M} {U : State} {H : Heap} (h : mm_ok G M U H) {a : Nat} {s : mm_S} (hs : mm_sh M a = some s) : a < mm_z M := by
  rw [← h.2]; exact mm_at_lt (h.1 a s hs)
theorem mm_ok_moved {G : mm_G} {M : mm_M} {u U : State} {H : Heap} (hvm : u.vm.Alike U.vm) (h : mm_ok G M u H) : mm_ok G M U H := ⟨fun a s hs => mm_at_moved hvm (h.1 a s hs), h.2⟩
/-- one cell has changed -/
theorem mm_ok_put {G : mm_G} {M M1 : mm_M} {U : State} {H H1 : Heap} {a : Nat} {s : mm_S} (h : mm_ok G M U H) (hs : mm_sh M a = some s) (hsh : mm_sh M1 = mm_sh M) (hz : mm_z M1 = mm_z M) (he : ∀ b, b ≠ a → mm_I M1 b = mm_I M b ∧ mm_L M1 b = mm_L M b ∧ mm_R M1 b = mm_R M b)
    (hH : H1.size = H.size) (ho : ∀ q : Nat, q ≠ a → H1[q]? = H[q]?) (hat : mm_at G U H1 a s (mm_I M1 a) (mm_L M1 a) (mm_R M1 a)) : mm_ok G M1 U H1 := by
  refine ⟨fun b t hb => ?_, by rw [hH, hz]; exact h.2⟩
  rw [hsh] at hb
  by_cases hba : b = a
  · subst hba
    cases hs.symm.trans hb
    exact hat
  · obtain ⟨e1, e2, e3⟩ := he b hba
    rw [e1, e2, e3]
    exact mm_at_kept (h.1 b t hb) (ho b hba)
theorem mm_u_ne {α : Type} {f : Nat → Nat → α} {a k b : Nat} {v : α} (h : b ≠ a) : mm_u f a k v b = f b := by
  funext j
  simp [mm_u, h]
theorem mm_f_ne {α : Type} {f : Nat → Nat → α} {a b : Nat} {v : α} (h : b ≠ a) : mm_f f a v b = f b := by
  funext j
  simp [mm_f, h]
theorem mm_f_self {α : Type} {f : Nat → Nat → α} {a : Nat} {v : α} : mm_f f a v a = fun _ => v := by
  funext j
  simp [mm_f]
theorem mm_I_sI (M : mm_M) (a k b j : Nat) (v : Int32) : mm_I (mm_sI M a k v) b j = if b = a ∧ j = k then v else mm_I M b j := rfl
theorem mm_L_sL (M : mm_M) (a k b j : Nat) (v : Int64) : mm_L (mm_sL M a k v) b j = if b = a ∧ j = k then v else mm_L M b j := rfl
theorem mm_R_sR (M : mm_M) (a k b j : Nat) (v : Option Nat) : mm_R (mm_sR M a k v) b j = if b = a ∧ j = k then v else mm_R M b j := rfl
theorem mm_ne_sI {M : mm_M} {a k : Nat} {v : Int32} (b : Nat) (h : b ≠ a) : mm_I (mm_sI M a k v) b = mm_I M b ∧ mm_L (mm_sI M a k v) b = mm_L M b ∧ mm_R (mm_sI M a k v) b = mm_R M b := ⟨mm_u_ne h, rfl, rfl⟩
theorem mm_ne_sL {M : mm_M} {a k : Nat} {v : Int64} (b : Nat) (h : b ≠ a) : mm_I (mm_sL M a k v) b = mm_I M b ∧ mm_L (mm_sL M a k v) b = mm_L M b ∧ mm_R (mm_sL M a k v) b = mm_R M b := ⟨rfl, mm_u_ne h, rfl⟩
theorem mm_ne_sR {M : mm_M} {a k : Nat} {v : Option Nat} (b : Nat) (h : b ≠ a) : mm_I (mm_sR M a k v) b = mm_I M b ∧ mm_L (mm_sR M a k v) b = mm_L M b ∧ mm_R (mm_sR M a k v) b = mm_R M b := ⟨rfl, rfl, mm_u_ne h⟩
/-- one cell is new -/
theorem mm_ok_new {G : mm_G} {M : mm_M} {U : State} {H H1 : Heap} (h : mm_ok G M U H) (s : mm_S) (hH : H1.size = H.size + 1) (ho : ∀ q : Nat, q < H.size → H1[q]? = H[q]?) (hat : mm_at G U H1 H.size s (fun _ => 0) (fun _ => 0) (fun _ => none)) : mm_ok G (mm_new M s) U H1 := by
  have hz := h.2
  refine ⟨fun b t hb => ?_, by rw [hH, hz]; rfl⟩
  by_cases hbz : b = mm_z M
  · have hb' : mm_sh (mm_new M s) b = some s := by
      show (if b = mm_z M then some s else M.1 b) = some s
      rw [if_pos hbz]
    cases hb'.symm.trans hb
    have e1 : mm_I (mm_new M s) b = fun _ => 0 := by subst hbz; exact mm_f_self
    have e2 : mm_L (mm_new M s) b = fun _ => 0 := by subst hbz; exact mm_f_self
    have e3 : mm_R (mm_new M s) b = fun _ => none := by subst hbz; exact mm_f_self
    rw [e1, e2, e3, hbz, ← hz]
    exact hat
  · have hb' : mm_sh (mm_new M s) b = mm_sh M b := by
      show (if b = mm_z M then some s else M.1 b) = M.1 b
      rw [if_neg hbz]
    have e1 : mm_I (mm_new M s) b = mm_I M b := mm_f_ne hbz
    have e2 : mm_L (mm_new M s) b = mm_L M b := mm_f_ne hbz
    have e3 : mm_R (mm_new M s) b = mm_R M b := mm_f_ne hbz
    rw [hb'] at hb
    rw [e1, e2, e3]
    exact mm_at_kept (h.1 b t hb) (ho b (by rw [hz]; exact mm_ok_lt h hb))
theorem mm_sh_new {G : mm_G} {M : mm_M} {U : State} {H : Heap} (h : mm_ok G M U H) (s : mm_S) {b : Nat} {t : mm_S} (hb : mm_sh M b = some t) : mm_sh (mm_new M s) b = some t ∧ b ≠ mm_z M := by
  have hne : b ≠ mm_z M := Nat.ne_of_lt (mm_ok_lt h hb)
  refine ⟨?_, hne⟩
  show (if b = mm_z M then some s else M.1 b) = some t
  rw [if_neg hne]; exact hb
/-! the locals, by their places -/
def mm_pl (lv : List (Option Value)) : List (Nat × Value) := (List.range lv.length).filterMap (fun j => ((lv[j]?).join).map (fun v => (j, v)))
def mm_lv (ls : Array Slot) (n : Nat) (lv : List (Option Value)) : Prop := lv_has ls n (mm_pl lv)
theorem mm_pl_mem {lv : List (Option Value)} {q : Nat × Value} : q ∈ mm_pl lv ↔ lv[q.1]? = some (some q.2) := by
  unfold mm_pl
  rw [List.mem_filterMap]
  constructor
  · rintro ⟨j, hj, h⟩
    cases hv : lv[j]? with
    | none => simp [hv] at h
    | some w =>
      cases w with
      | none => simp [hv] at h
      | some v =>
        simp [hv] at h
        rw [← h]
        exact hv
  · intro h
    refine ⟨q.1, List.mem_range.mpr (List.getElem?_eq_some_iff.mp h).1, ?_⟩
    rw [h]
    rfl
theorem mm_lv_at {ls : Array Slot} {n : Nat} {lv : List (Option Value)} (h : mm_lv ls n lv) {i : Nat} {v : Value} (hi : lv[i]? = some (some v)) : ls[i]? = some (.val v) := h.2.2 (i, v) (mm_pl_mem.mpr hi)
/-- what stands just ahead of place i is no long -/
def mm_c1 (lv : List (Option Value)) (i : Nat) : Bool := match i with
  | 0 => true
  | j + 1 => match lv[j]? with
    | some (some v) => v.category == 1
    | _ => true
theorem mm_c1_spec {lv : List (Option Value)} {i : Nat} (h : mm_c1 lv i = true) {j : Nat} {v : Value} (hj : lv[j]? = some (some v)) (hi : j + 1 = i) : (v.category == 2) = false := by
  subst hi
  simp only [mm_c1, hj] at h
  have := eq_of_beq h
  rw [this]; rfl
theorem mm_lv_sub {ls : Array Slot} {n : Nat} {lv : List (Option Value)} {l : List (Nat × Value)} (h : lv_has ls n l) (hs : ∀ (i : Nat) (v : Value), lv[i]? = some (some v) → (i, v) ∈ l) : mm_lv ls n lv :=
  ⟨h.1, h.2.1, fun q hq => h.2.2 q (hs q.1 q.2 (mm_pl_mem.mp hq))⟩
theorem mm_lv_weak {ls : Array Slot} {n : Nat} {lv lv' : List (Option Value)} (h : mm_lv ls n lv) (hs : ∀ (i : Nat) (v : Value), lv'[i]? = some (some v) → lv[i]? = some (some v)) : mm_lv ls n lv' :=
  mm_lv_sub h (fun i v hv => mm_pl_mem.mpr (hs i v hv))
theorem mm_lv_set1 {ls : Array Slot} {n : Nat} {lv : List (Option Value)} {i : Nat} {v : Value} (hc : mm_c1 lv i = true) (h : lv_has ls n ((i, v) :: (mm_pl lv).filter (fun q => !(q.1 == i) && !(q.1 + 1 == i && q.2.category == 2)))) : mm_lv ls n (lv.set i (some v)) := by
  refine mm_lv_sub h (fun j w hj => ?_)
  by_cases hji : i = j
  · subst hji
    have hlt : i < lv.length := by
      have := (List.getElem?_eq_some_iff.mp hj).1
      simpa using this
    rw [List.getElem?_set_self hlt] at hj
    cases hj
    exact List.mem_cons_self
  · rw [List.getElem?_set_ne hji] at hj
    refine List.mem_cons_of_mem _ (List.mem_filter.mpr ⟨mm_pl_mem.mpr hj, ?_⟩)
    have h1 : (j == i) = false := by simp [Ne.symm hji]
    simp only [h1, Bool.not_false, Bool.true_and]
    by_cases hj1 : j + 1 = i
    · rw [mm_c1_spec hc hj hj1]; simp
    · have h2 : (j + 1 == i) = false := by simp [hj1]
      simp [h2]
theorem mm_lv_set2 {ls : Array Slot} {n : Nat} {lv : List (Option Value)} {i : Nat} {v : Value} (hc : mm_c1 lv i = true) (h : lv_has ls n ((i, v) :: (mm_pl lv).filter (fun q => !(q.1 == i) && (!(q.1 == i + 1) && !(q.1 + 1 == i && q.2.category == 2))))) : mm_lv ls n ((lv.set i (some v)).set (i + 1) none) := by
  refine mm_lv_sub h (fun j w hj => ?_)
  by_cases hj2 : i + 1 = j
  · subst hj2
    rw [List.getElem?_set] at hj
    simp at hj
  · rw [List.getElem?_set_ne hj2] at hj
    by_cases hji : i = j
    · subst hji
      have hlt : i < lv.length := by
        have := (List.getElem?_eq_some_iff.mp hj).1
        simpa using this
      rw [List.getElem?_set_self hlt] at hj
      cases hj
      exact List.mem_cons_self
    · rw [List.getElem?_set_ne hji] at hj
      refine List.mem_cons_of_mem _ (List.mem_filter.mpr ⟨mm_pl_mem.mpr hj, ?_⟩)
      have h1 : (j == i) = false := by simp [Ne.symm hji]
      have h3 : (j == i + 1) = false := by simp [Ne.symm hj2]
      simp only [h1, h3, Bool.not_false, Bool.true_and]
      by_cases hj1 : j + 1 = i
      · rw [mm_c1_spec hc hj hj1]; simp
      · have h2 : (j + 1 == i) = false := by simp [hj1]
        simp [h2]
/-! the classes' words, types and names, by their numbers -/
theorem mm_in0 : ∀ w ∈ u_ws RX0 TX0 3, w ∈ gt_ws := by decide +kernel
theorem mm_in1 : ∀ w ∈ u_ws RX1 TX1 3, w ∈ gt_ws := by decide +kernel
theorem mm_in2 : ∀ w ∈ u_ws RX2 TX2 9, w ∈ gt_ws := by decide +kernel
theorem mm_in3 : ∀ w ∈ u_ws RX3 TX3 8, w ∈ gt_ws := by decide +kernel
theorem mm_in4 : ∀ w ∈ u_ws RX4 TX4 6, w ∈ gt_ws := by decide +kernel
theorem mm_in5 : ∀ w ∈ u_ws RX5 TX5 2, w ∈ gt_ws := by decide +kernel
theorem mm_in6 : ∀ w ∈ u_ws RX6 TX6 2, w ∈ gt_ws := by decide +kernel
theorem mm_in7 : ∀ w ∈ u_ws RX7 TX7 3, w ∈ gt_ws := by decide +kernel
theorem mm_in8 : ∀ w ∈ u_ws RX8 TX8 3, w ∈ gt_ws := by decide +kernel
theorem mm_in9 : ∀ w ∈ u_ws RX9 TX9 4, w ∈ gt_ws := by decide +kernel
theorem mm_in10 : ∀ w ∈ u_ws RX10 TX10 13, w ∈ gt_ws := by decide +kernel
theorem mm_in11 : ∀ w ∈ u_ws RX11 TX11 8, w ∈ gt_ws := by decide +kernel
theorem mm_in12 : ∀ w ∈ u_ws RX12 TX12 50, w ∈ gt_ws := by decide +kernel
theorem mm_cases {P : Nat → vw_C → Prop} (h0 : P 0 (RX0, TX0, 3)) (h1 : P 1 (RX1, TX1, 3)) (h2 : P 2 (RX2, TX2, 9)) (h3 : P 3 (RX3, TX3, 8)) (h4 : P 4 (RX4, TX4, 6)) (h5 : P 5 (RX5, TX5, 2)) (h6 : P 6 (RX6, TX6, 2)) (h7 : P 7 (RX7, TX7, 3)) (h8 : P 8 (RX8, TX8, 3)) (h9 : P 9 (RX9, TX9, 4)) (h10 : P 10 (RX10, TX10, 13)) (h11 : P 11 (RX11, TX11, 8)) (h12 : P 12 (RX12, TX12, 50)) : ∀ (ci : Nat) (q : vw_C), mm_cl[ci]? = some q → P ci q := by
  intro ci q h
  match ci, h with
  | 0, h => cases h; exact h0
  | 1, h => cases h; exact h1
  | 2, h => cases h; exact h2
  | 3, h => cases h; exact h3
  | 4, h => cases h; exact h4
  | 5, h => cases h; exact h5
  | 6, h => cases h; exact h6
  | 7, h => cases h; exact h7
  | 8, h => cases h; exact h8
  | 9, h => cases h; exact h9
  | 10, h => cases h; exact h10
  | 11, h => cases h; exact h11
  | 12, h => cases h; exact h12
  | n + 13, h => cases h
theorem mm_in : ∀ (ci : Nat) (q : vw_C), mm_cl[ci]? = some q → ∀ w ∈ u_ws q.1 q.2.1 q.2.2, w ∈ gt_ws := mm_cases mm_in0 mm_in1 mm_in2 mm_in3 mm_in4 mm_in5 mm_in6 mm_in7 mm_in8 mm_in9 mm_in10 mm_in11 mm_in12
theorem mm_tyok : ∀ (ci : Nat) (q : vw_C), mm_cl[ci]? = some q → ∀ k, k < q.2.2 → parseFieldDescriptor (q.2.1 k).2.2.1 = some (mm_ty ci k) := mm_cases tyX0_ok tyX1_ok tyX2_ok tyX3_ok tyX4_ok tyX5_ok tyX6_ok tyX7_ok tyX8_ok tyX9_ok tyX10_ok tyX11_ok tyX12_ok
theorem mm_nm : ∀ (ci : Nat) (q : vw_C), mm_cl[ci]? = some q → ∀ a, a < q.2.2 → ∀ b, b < q.2.2 → a ≠ b → (q.2.1 a).2.1 ≠ (q.2.1 b).2.1 := mm_cases nmX0 nmX1 nmX2 nmX3 nmX4 nmX5 nmX6 nmX7 nmX8 nmX9 nmX10 nmX11 nmX12
end
section
/-! THE CLAIM OUT OF ONE WALK OF THE LAW'S BODY. Your part is whole_start (and what it stands on); all else here is the same for every law, but numbers. -/
def R_law : String := "ConsulDeskLaw"
def lw_P (b : Addr) (xs : List Int32) (args : Array Value) (s : State) : Prop := args = #[.ref b] ∧ s.IntsAt b xs ∧ xs.length ≤ 3072 ∧ (Jvm.Cond.and given_1 narrow_1).before args s = true
def lw_Q (_ : Array Value) (s : State) (o : Outcome) (t : State) : Prop := o = .returned (some (.int 1)) ∧ Framed s o t [] 601024 7293034
def lw_Z (below : List Frame) (a : Array Value) (s : State) : State → Prop := fun t => ∃ o, t.status = .running ∧ Ended t below o ∧ lw_Q a s o t
/-- the law's own end, with 1 on the stack, nothing written that was there before, its room as the claim has it -/
theorem lw_ret {p : Program} {l : Launch} {e : Env} {s : State} {m : MethodId} {below : List Frame} {meth : Method} {c : Code} {b : Nat} (hx : p.tables.exec = Jvm.exec) (hb : c.code = code) (hr : meth.sig.returnType = ret) (hlocks : meth.locks = false) {pc : Nat} {H : Heap} {ls : Array Slot} (hdg : decode code pc = .ok (.ireturn, 1)) : W p l e room_1 s m #[Value.ref b] below meth c H [] 601024 7293034 (lw_Z below #[Value.ref b] s) (F0 m pc ls [.int 1]) := by
  intro T hT X
  obtain ⟨fs, hret, hrun, hended, hW, hframe⟩ := X.leave (v := some (.int 1)) (hlocks := hlocks) (fun h => by rw [hr] at h; cases h)
  have hmeth' : T.vm.method? m = some meth := X.method'
  refine ⟨T.setFrames fs, ?_, .returned (some (.int 1)), hrun, hended, rfl, ⟨_, rfl⟩, hW, hframe⟩
  jvm_step X.here [X.here.top, hx, hb, hdg, hmeth', hr, ret, narrow_b1]
  (try refine ⟨rfl, ?_⟩); (try refine ⟨rfl, ?_⟩)
  first | (intro acts; rw [hret _ acts rfl rfl rfl]) | rw [hret _ _ rfl rfl rfl]
  exact Steps.refl _
/-- what holds at the law's entry: the machine, the code, the tables' words (any of lw_tbl by 'hts w (by decide +kernel)'), the script of L ints xs at the cell b, what the Statement gives of the start (any of its parts by flat_of_before) -/
def lw_At (p : Program) (s : State) (m : MethodId) (meth : Method) (c : Code) (b L : Nat) (xs : Nat → Int32) : Prop :=
  p.tables.exec = Jvm.exec ∧ c.code = code ∧ meth.sig.returnType = ret ∧ c.maxLocals = 4 ∧ s.vm.findClass R_law = some m.cls ∧ (∀ w ∈ lw_tbl, w.before #[Value.ref b] s = true) ∧ va_X b L xs s s.heap ∧ b < s.heap.size ∧ meth.locks = false ∧ (Jvm.Cond.and given_1 narrow_1).before #[Value.ref b] s = true

/-! ===== the judgements: wa (a frame of a method, over a memory), ma (a method's contract, over a memory) ===== -/
/-- a method: its name, its bytes, its locals, what it returns -/
abbrev mm_J : Type := MethodName × ByteArray × Nat × Option FieldType
def mm_ws (J : mm_J) : List Cond := Cond.code J.1 J.2.1 J.2.2.1 J.2.2.2 :: gt_ws
def mm_rm (d mc ms : Nat) : Room := { frames := d, cells := mc, slots := ms, locals := 80 * d }
def mm_tys (G : mm_G) : List (ClassId × FieldType) := [(G.2.1 0, mm_el 0), (G.2.1 1, mm_el 1), (G.2.1 2, mm_el 2), (G.2.1 3, mm_el 3), (G.2.1 4, mm_el 4), (G.2.1 5, mm_el 5), (G.2.1 6, mm_el 6), (G.2.1 7, mm_el 7), (G.2.1 8, mm_el 8), (G.2.1 9, mm_el 9)]
theorem mm_tys_at (G : mm_G) {k : Nat} (hk : k < 10) : (mm_tys G)[k]? = some (G.2.1 k, mm_el k) := by
  match k, hk with
  | 0, _ => rfl
  | 1, _ => rfl
  | 2, _ => rfl
  | 3, _ => rfl
  | 4, _ => rfl
  | 5, _ => rfl
  | 6, _ => rfl
  | 7, _ => rfl
  | 8, _ => rfl
  | 9, _ => rfl
  | n + 10, h => exact absurd h (by omega)
/-- words of a nest, casts and arrays of classes: not among those that a contract carries -/
def mm_nw : List Cond := [.fieldLinkNest "ConsulDesk$Change" 7 "ConsulDesk" "WORTHS" "[I" "ConsulDesk", .fieldLinkNest "ConsulDesk$Port" 9 "ConsulDesk" "WORTHS" "[I" "ConsulDesk", .fieldLinkNest "ConsulDesk$Change" 34 "ConsulDesk" "SPARED" "[I" "ConsulDesk", .fieldLinkNest "ConsulDesk$Paper" 40 "ConsulDesk" "WORTHS" "[I" "ConsulDesk", .fieldLinkNest "ConsulDeskModel" 129 "ConsulDeskModel$Stop" "kind" "I" "ConsulDeskModel", .fieldLinkNest "ConsulDeskModel" 134 "ConsulDeskModel$Stop" "place" "I" "ConsulDeskModel",
  .methodLinkNest "ConsulDesk" 29 ⟨"ConsulDesk$Tape", "<init>", "()V"⟩ "ConsulDesk", .methodLinkNest "ConsulDesk" 36 ⟨"ConsulDesk$Tokens", "<init>", "()V"⟩ "ConsulDesk", .methodLinkNest "ConsulDesk" 52 ⟨"ConsulDesk$Change", "<init>", "()V"⟩ "ConsulDesk", .methodLinkNest "ConsulDesk$Port" 66 ⟨"ConsulDesk", "accountsBelow", "(I)I"⟩ "ConsulDesk",
  .castable "[I" "java/lang/Cloneable", .castable "ConsulDeskModel$Stop" "ConsulDeskModel$Stop",
  .arrayOver (.object "ConsulDesk$Port"), .arrayOver (.object "ConsulDesk$Tariff"), .arrayOver (.object "ConsulDesk$Paper"), .arrayOver (.object "ConsulDesk$Line"), .arrayOver (.object "ConsulDesk$Test"), .arrayOver (.object "ConsulDesk$Term")]
theorem mm_nw_warm : ∀ w ∈ mm_nw, ∀ s U : State, s.WarmedH U.vm → va_Nw w s → va_Nw w U := by
  intro w hw s U hW h
  unfold mm_nw at hw
  simp only [List.mem_cons, List.not_mem_nil, or_false] at hw
  rcases hw with rfl | rfl | rfl | rfl | rfl | rfl | rfl | rfl | rfl | rfl | rfl | rfl | rfl | rfl | rfl | rfl | rfl | rfl
  all_goals first | exact va_Nw.warmF hW h | exact va_Nw.warmM hW h | exact va_Nw.warmC hW h | exact va_AO.moved hW.alike h
theorem mm_nw_same : ∀ w ∈ mm_nw, ∀ s U : State, s.vm = U.vm → va_Nw w s → va_Nw w U := by
  intro w hw s U hv h
  unfold mm_nw at hw
  simp only [List.mem_cons, List.not_mem_nil, or_false] at hw
  have hal : s.vm.Alike U.vm := by rw [hv]; exact Vm.Alike.refl U.vm
  rcases hw with rfl | rfl | rfl | rfl | rfl | rfl | rfl | rfl | rfl | rfl | rfl | rfl | rfl | rfl | rfl | rfl | rfl | rfl
  all_goals first | exact va_AO.moved hal h | exact va_Nw.same rfl hv h
/-- the statics that nobody writes -/
def mm_Zn : List (String × String × String) := [("ConsulDesk", "WORTHS", "[I"), ("ConsulDesk", "SPARED", "[I"), ("ConsulDeskModel", "WORTH", "[I"), ("java/lang/String", "COMPACT_STRINGS", "Z"), ("java/lang/Throwable", "UNASSIGNED_STACK", "[Ljava/lang/StackTraceElement;"), ("java/lang/Throwable", "SUPPRESSED_SENTINEL", "Ljava/util/List;"), ("jdk/internal/util/Preconditions", "SIOOBE_FORMATTER", "Ljava/util/function/BiFunction;")]
/-- the texts: their lengths and bytes; where each is named -/
def mm_tl : List Nat := [3, 4, 3, 2, 5, 6, 4, 6, 7]
def mm_tx : List (List Int32) := [[102, 101, 101], [119, 104, 101, 110], [97, 110, 100], [105, 115], [118, 97, 108, 117, 101], [115, 104, 101, 101, 116, 115], [112, 111, 114, 116], [115, 101, 97, 108, 101, 100], [60, 62, 61, 43, 42, 47, 59]]
def mm_tr : List (String × Nat × String × Nat) := [("ConsulDesk$Tokens", 68, "fee", 0), ("ConsulDesk$Tokens", 74, "when", 1), ("ConsulDesk$Tokens", 76, "and", 2), ("ConsulDesk$Tokens", 78, "is", 3), ("ConsulDesk$Tokens", 80, "value", 4), ("ConsulDesk$Tokens", 82, "sheets", 5), ("ConsulDesk$Tokens", 84, "port", 6), ("ConsulDesk$Tokens", 86, "sealed", 7), ("ConsulDesk$Tokens", 58, "<>=+*/;", 8),
  ("ConsulDeskModel", 181, "fee", 0), ("ConsulDeskModel", 186, "when", 1), ("ConsulDeskModel", 188, "and", 2), ("ConsulDeskModel", 190, "is", 3), ("ConsulDeskModel", 195, "value", 4), ("ConsulDeskModel", 196, "sheets", 5), ("ConsulDeskModel", 197, "port", 6), ("ConsulDeskModel", 199, "sealed", 7)]
def mm_fr (G : mm_G) : Nat → Prop := fun a => mm_sz G ≤ a
/-- what the tables, the statics and the texts are, at a state with a heap -/
def mm_K (G : mm_G) (U : State) : Prop := va_K G.1 mm_cl (mm_tys G) U ∧ (∀ w ∈ mm_nw, va_Nw w U) ∧ ∀ q ∈ mm_tr, vk_R q.1 q.2.1 q.2.2.1 (G.2.2.2.2.1 q.2.2.2) U
def mm_Z (G : mm_G) (U : State) (H : Heap) : Prop := (∀ (k : Nat) (q : String × String × String), mm_Zn[k]? = some q → va_Z q.1 q.2.1 q.2.2 (G.2.2.2.1 k) (mm_fr G) U H) ∧ vk_S 9 mm_tl mm_tx G.2.2.2.2.1 G.2.2.2.2.2 (mm_fr G) U H
theorem mm_K_warm {G : mm_G} {s U : State} (hW : s.WarmedH U.vm) (h : mm_K G s) : mm_K G U := ⟨va_K.moved hW.alike h.1, fun w hw => mm_nw_warm w hw s U hW (h.2.1 w hw), fun q hq => vk_R.warm hW (h.2.2 q hq)⟩
theorem mm_K_same {G : mm_G} {s U : State} (hv : s.vm = U.vm) (h : mm_K G s) : mm_K G U := ⟨va_K.moved (u := s) (by rw [hv]; exact Vm.Alike.refl U.vm) h.1, fun w hw => mm_nw_same w hw s U hv (h.2.1 w hw), fun q hq => vk_R.same hv.symm (h.2.2 q hq)⟩
theorem mm_Z_moved {G : mm_G} {u U : State} {H : Heap} (hvm : u.vm.Alike U.vm) (h : mm_Z G u H) : mm_Z G U H := ⟨fun k q hq => va_Z.moved hvm (h.1 k q hq), vk_S.moved hvm h.2⟩
theorem mm_Z_kept {G : mm_G} {U : State} {H H1 : Heap} (h : mm_Z G U H) (hq : ∀ a : Nat, a < H.size → ¬ mm_fr G a → H1[a]? = H[a]?) : mm_Z G U H1 := ⟨fun k q h1 => (h.1 k q h1).kept hq, h.2.kept hq⟩
def mm_pre (G : mm_G) (M : mm_M) (U : State) : Prop := mm_ok G M U U.heap ∧ mm_K G U ∧ mm_Z G U U.heap ∧ mm_sz G ≤ U.heap.size
def mm_post (G : mm_G) (Q : Option Value → mm_M → Prop) : Array Value → State → Outcome → State → Prop := fun _ st oc t => (∃ (o : Option Value) (M' : mm_M), oc = .returned o ∧ Q o M' ∧ mm_ok G M' t t.heap) ∧ va_F (mm_fr G) st t
/-- the contract: called with av in the memory M it returns, Q -/
def ma_ (G : mm_G) (J : mm_J) (d mc ms : Nat) (av : List Value) (M : mm_M) (Q : Option Value → mm_M → Prop) : Prop := ∀ l : Launch, Met l J.1 (mm_ws J) (mm_rm d mc ms) (va_Pc av (mm_pre G M)) (mm_post G Q) mc ms (mm_fr G)
def wa_E (fl : Bool) (G : mm_G) (Q : Option Value → mm_M → Prop) (mc ms : Nat) (below : List Frame) (args : Array Value) (s : State) : State → Prop := match fl with
  | false => MQ below (mm_post G Q) args s mc ms (mm_fr G)
  | true => lw_Z below args s
def wa_C (G : mm_G) (J : mm_J) (d mc ms : Nat) (p : Program) (R : Room) (s : State) (m : MethodId) (args : Array Value) (meth : Method) (c : Code) : Prop :=
  (p.tables.exec = Jvm.exec ∧ c.code = J.2.1 ∧ c.maxLocals = J.2.2.1 ∧ s.vm.findClass J.1.cls = some m.cls ∧ ∀ w ∈ gt_ws, w.before args s = true) ∧ meth.sig.returnType = J.2.2.2 ∧ meth.locks = false ∧ meth.name = J.1.name ∧ mm_K G s ∧ mm_Z G s s.heap ∧ mm_sz G ≤ s.heap.size ∧ (mc ≤ R.cells ∧ ms ≤ R.slots ∧ d ≤ R.frames ∧ 80 * d ≤ R.locals)
/-- a frame of J at pc with locals lv and stack st, over the memory M, comes to the method's end with Q; kc cells of ks slots are still to be made -/
def wa_ (fl : Bool) (G : mm_G) (J : mm_J) (d mc ms : Nat) (Q : Option Value → mm_M → Prop) (kc ks : Nat) (M : mm_M) (pc : Nat) (lv : List (Option Value)) (st : List Value) : Prop :=
  ∀ (p : Program) (l : Launch) (e : Env) (R : Room) (s : State) (m : MethodId) (args : Array Value) (below : List Frame) (meth : Method) (c : Code) (H : Heap) (locs : List Loc) (cells slots : Nat) (ls : Array Slot),
    wa_C G J d mc ms p R s m args meth c → mm_ok G M s H → va_S (mm_fr G) s.heap H locs → cells + kc ≤ mc → slots + ks ≤ ms → mm_lv ls J.2.2.1 lv →
    W p l e R s m args below meth c H locs cells slots (wa_E fl G Q mc ms below args s) (F0 m pc ls st)
theorem mm_S_new {G : mm_G} {H0 H H1 : Heap} {locs : List Loc} (h : va_S (mm_fr G) H0 H locs) (z : H.size ≤ H1.size) (o : ∀ q : Nat, q < H.size → H1[q]? = H[q]?) : va_S (mm_fr G) H0 H1 locs :=
  ⟨Nat.le_trans h.1 z, fun q h1 h2 => (o q (Nat.lt_of_lt_of_le h1 h.1)).trans (h.2.1 q h1 h2), h.2.2⟩
theorem ma_of {G : mm_G} {J : mm_J} {d mc ms : Nat} {av : List Value} {M : mm_M} {Q : Option Value → mm_M → Prop} (lv : List (Option Value)) (hy : plainName J.1.cls = true) (hlv : mm_pl lv = lv_args 0 av) (hlen : (lg_sl av).length ≤ J.2.2.1) (h : wa_ false G J d mc ms Q mc ms M 0 lv []) : ma_ G J d mc ms av M Q := by
  intro l
  refine Met.ofW (cc := J.2.1) (maxL := J.2.2.1) (ret := J.2.2.2) hy rfl ?_
  intro p e s m args below meth c s₁ B hml hv
  obtain ⟨rfl, hok, hK, hZ, hsz⟩ := hv
  have hts := atoms_spec (ws := mm_ws J) B.pre
  have hl := lv_entry av (n := J.2.2.1) hlen
  rw [← hlv] at hl
  rw [lg_entry_eq]
  exact h p l e _ s m av.toArray below meth c s.heap [] 0 0 _ ⟨⟨B.exec, B.bytes, hml, findClass_of_methodNamed B.named, fun w hw => hts w (List.mem_cons_of_mem _ hw)⟩, B.returns, B.notSynchronized, (name_of_methodNamed B.named B.method).1, hK, hZ, hsz, Nat.le_refl _, Nat.le_refl _, Nat.le_refl _, Nat.le_refl _⟩ hok va_S.rf (Nat.le_of_eq (Nat.zero_add _)) (Nat.le_of_eq (Nat.zero_add _)) hl
end
section
section ROWS1
variable {fl : Bool} {G : mm_G} {J : mm_J} {d mc ms kc ks : Nat} {Q : Option Value → mm_M → Prop} {M : mm_M} {pc : Nat} {lv : List (Option Value)} {st : List Value}
theorem wa_iconst {n : Int} {v : Int32} (hd : decode J.2.1 pc = .ok (.iconst n, 1)) (hv : Int32.ofInt n = v) (kk : wa_ fl G J d mc ms Q kc ks M (pc + 1) lv (.int v :: st)) : wa_ fl G J d mc ms Q kc ks M pc lv st := by
  intro p l e R s m args below meth c H locs cells slots ls C hok hS hc hs hl
  exact lv_iconst C.1.1 C.1.2.1 hd hv (kk p l e R s m args below meth c H locs cells slots ls C hok hS hc hs hl)
theorem wa_bipush {n : Int} {v : Int32} (hd : decode J.2.1 pc = .ok (.bipush n, 2)) (hv : (Int8.ofInt n).toInt32 = v) (kk : wa_ fl G J d mc ms Q kc ks M (pc + 2) lv (.int v :: st)) : wa_ fl G J d mc ms Q kc ks M pc lv st := by
  intro p l e R s m args below meth c H locs cells slots ls C hok hS hc hs hl
  exact lv_bipush C.1.1 C.1.2.1 hd hv (kk p l e R s m args below meth c H locs cells slots ls C hok hS hc hs hl)
theorem wa_sipush {n : Int} {v : Int32} (hd : decode J.2.1 pc = .ok (.sipush n, 3)) (hv : (Int16.ofInt n).toInt32 = v) (kk : wa_ fl G J d mc ms Q kc ks M (pc + 3) lv (.int v :: st)) : wa_ fl G J d mc ms Q kc ks M pc lv st := by
  intro p l e R s m args below meth c H locs cells slots ls C hok hS hc hs hl
  exact lv_sipush C.1.1 C.1.2.1 hd hv (kk p l e R s m args below meth c H locs cells slots ls C hok hS hc hs hl)
theorem wa_lconst {n : Fin 2} {v : Int64} (hd : decode J.2.1 pc = .ok (.lconst n, 1)) (hv : Int64.ofNat (n : Nat) = v) (kk : wa_ fl G J d mc ms Q kc ks M (pc + 1) lv (.long v :: st)) : wa_ fl G J d mc ms Q kc ks M pc lv st := by
  intro p l e R s m args below meth c H locs cells slots ls C hok hS hc hs hl
  exact lv_lconst C.1.1 C.1.2.1 hd hv (kk p l e R s m args below meth c H locs cells slots ls C hok hS hc hs hl)
theorem wa_iload_n {k : Fin 4} {x : Int32} (hd : decode J.2.1 pc = .ok (.iload_n k, 1)) (hv : lv[(k : Nat)]? = some (some (.int x))) (kk : wa_ fl G J d mc ms Q kc ks M (pc + 1) lv (.int x :: st)) : wa_ fl G J d mc ms Q kc ks M pc lv st := by
  intro p l e R s m args below meth c H locs cells slots ls C hok hS hc hs hl
  exact lv_iload_n C.1.1 C.1.2.1 hd rfl (mm_lv_at hl hv) (kk p l e R s m args below meth c H locs cells slots ls C hok hS hc hs hl)
theorem wa_iload {i : Nat} {x : Int32} (hd : decode J.2.1 pc = .ok (.iload i, 2)) (hv : lv[i]? = some (some (.int x))) (kk : wa_ fl G J d mc ms Q kc ks M (pc + 2) lv (.int x :: st)) : wa_ fl G J d mc ms Q kc ks M pc lv st := by
  intro p l e R s m args below meth c H locs cells slots ls C hok hS hc hs hl
  exact lv_iload C.1.1 C.1.2.1 hd (mm_lv_at hl hv) (kk p l e R s m args below meth c H locs cells slots ls C hok hS hc hs hl)
theorem wa_lload_n {k : Fin 4} {x : Int64} (hd : decode J.2.1 pc = .ok (.lload_n k, 1)) (hv : lv[(k : Nat)]? = some (some (.long x))) (kk : wa_ fl G J d mc ms Q kc ks M (pc + 1) lv (.long x :: st)) : wa_ fl G J d mc ms Q kc ks M pc lv st := by
  intro p l e R s m args below meth c H locs cells slots ls C hok hS hc hs hl
  exact lv_lload_n C.1.1 C.1.2.1 hd rfl (mm_lv_at hl hv) (kk p l e R s m args below meth c H locs cells slots ls C hok hS hc hs hl)
theorem wa_lload {i : Nat} {x : Int64} (hd : decode J.2.1 pc = .ok (.lload i, 2)) (hv : lv[i]? = some (some (.long x))) (kk : wa_ fl G J d mc ms Q kc ks M (pc + 2) lv (.long x :: st)) : wa_ fl G J d mc ms Q kc ks M pc lv st := by
  intro p l e R s m args below meth c H locs cells slots ls C hok hS hc hs hl
  exact lv_lload C.1.1 C.1.2.1 hd (mm_lv_at hl hv) (kk p l e R s m args below meth c H locs cells slots ls C hok hS hc hs hl)
def mm_isr : Value → Bool
  | .ref _ => true
  | .null => true
  | _ => false
theorem wa_aload_n {k : Fin 4} {v : Value} (hd : decode J.2.1 pc = .ok (.aload_n k, 1)) (hv : lv[(k : Nat)]? = some (some v)) (hr : mm_isr v = true) (kk : wa_ fl G J d mc ms Q kc ks M (pc + 1) lv (v :: st)) : wa_ fl G J d mc ms Q kc ks M pc lv st := by
  intro p l e R s m args below meth c H locs cells slots ls C hok hS hc hs hl
  cases v with
  | ref x => exact lv_aload_n C.1.1 C.1.2.1 hd rfl (mm_lv_at hl hv) (kk p l e R s m args below meth c H locs cells slots ls C hok hS hc hs hl)
  | null => exact lv_aload_nN C.1.1 C.1.2.1 hd rfl (mm_lv_at hl hv) (kk p l e R s m args below meth c H locs cells slots ls C hok hS hc hs hl)
  | _ => cases hr
theorem wa_aload {i : Nat} {v : Value} (hd : decode J.2.1 pc = .ok (.aload i, 2)) (hv : lv[i]? = some (some v)) (hr : mm_isr v = true) (kk : wa_ fl G J d mc ms Q kc ks M (pc + 2) lv (v :: st)) : wa_ fl G J d mc ms Q kc ks M pc lv st := by
  intro p l e R s m args below meth c H locs cells slots ls C hok hS hc hs hl
  cases v with
  | ref x => exact lv_aload C.1.1 C.1.2.1 hd (mm_lv_at hl hv) (kk p l e R s m args below meth c H locs cells slots ls C hok hS hc hs hl)
  | null => exact lv_aloadN C.1.1 C.1.2.1 hd (mm_lv_at hl hv) (kk p l e R s m args below meth c H locs cells slots ls C hok hS hc hs hl)
  | _ => cases hr
theorem wa_istore_n {k : Fin 4} {x : Int32} {lv' : List (Option Value)} (hd : decode J.2.1 pc = .ok (.istore_n k, 1)) (hn : (k : Nat) < J.2.2.1) (hcat : mm_c1 lv (k : Nat) = true) (hlv : lv.set (k : Nat) (some (.int x)) = lv') (kk : wa_ fl G J d mc ms Q kc ks M (pc + 1) lv' st) : wa_ fl G J d mc ms Q kc ks M pc lv (.int x :: st) := by
  intro p l e R s m args below meth c H locs cells slots ls C hok hS hc hs hl
  exact lv_istore_n C.1.1 C.1.2.1 hd rfl hl hn rfl (fun ls' h' => kk p l e R s m args below meth c H locs cells slots ls' C hok hS hc hs (by subst hlv; exact mm_lv_set1 hcat h'))
theorem wa_istore {i : Nat} {x : Int32} {lv' : List (Option Value)} (hd : decode J.2.1 pc = .ok (.istore i, 2)) (hn : i < J.2.2.1) (hcat : mm_c1 lv i = true) (hlv : lv.set i (some (.int x)) = lv') (kk : wa_ fl G J d mc ms Q kc ks M (pc + 2) lv' st) : wa_ fl G J d mc ms Q kc ks M pc lv (.int x :: st) := by
  intro p l e R s m args below meth c H locs cells slots ls C hok hS hc hs hl
  exact lv_istore C.1.1 C.1.2.1 hd hl hn rfl (fun ls' h' => kk p l e R s m args below meth c H locs cells slots ls' C hok hS hc hs (by subst hlv; exact mm_lv_set1 hcat h'))
theorem wa_iinc {i : Nat} {n : Int} {x v : Int32} {lv' : List (Option Value)} (hd : decode J.2.1 pc = .ok (.iinc i n, 3)) (hx : lv[i]? = some (some (.int x))) (hv : x + Int32.ofInt n = v) (hn : i < J.2.2.1) (hcat : mm_c1 lv i = true) (hlv : lv.set i (some (.int v)) = lv') (kk : wa_ fl G J d mc ms Q kc ks M (pc + 3) lv' st) : wa_ fl G J d mc ms Q kc ks M pc lv st := by
  intro p l e R s m args below meth c H locs cells slots ls C hok hS hc hs hl
  obtain ⟨k, hk⟩ := List.getElem?_of_mem (mm_pl_mem.mpr hx : (i, Value.int x) ∈ mm_pl lv)
  exact lv_iinc C.1.1 C.1.2.1 hd hl hk hv hn rfl (fun ls' h' => kk p l e R s m args below meth c H locs cells slots ls' C hok hS hc hs (by subst hlv; exact mm_lv_set1 hcat h'))
theorem wa_lstore_n {k : Fin 4} {x : Int64} {lv' : List (Option Value)} (hd : decode J.2.1 pc = .ok (.lstore_n k, 1)) (hn : (k : Nat) + 1 < J.2.2.1) (hcat : mm_c1 lv (k : Nat) = true) (hlv : (lv.set (k : Nat) (some (.long x))).set ((k : Nat) + 1) none = lv') (kk : wa_ fl G J d mc ms Q kc ks M (pc + 1) lv' st) : wa_ fl G J d mc ms Q kc ks M pc lv (.long x :: st) := by
  intro p l e R s m args below meth c H locs cells slots ls C hok hS hc hs hl
  exact lv_lstore_n C.1.1 C.1.2.1 hd rfl hl hn rfl (fun ls' h' => kk p l e R s m args below meth c H locs cells slots ls' C hok hS hc hs (by subst hlv; exact mm_lv_set2 hcat h'))
theorem wa_lstore {i : Nat} {x : Int64} {lv' : List (Option Value)} (hd : decode J.2.1 pc = .ok (.lstore i, 2)) (hn : i + 1 < J.2.2.1) (hcat : mm_c1 lv i = true) (hlv : (lv.set i (some (.long x))).set (i + 1) none = lv') (kk : wa_ fl G J d mc ms Q kc ks M (pc + 2) lv' st) : wa_ fl G J d mc ms Q kc ks M pc lv (.long x :: st) := by
  intro p l e R s m args below meth c H locs cells slots ls C hok hS hc hs hl
  exact lv_lstore C.1.1 C.1.2.1 hd hl hn rfl (fun ls' h' => kk p l e R s m args below meth c H locs cells slots ls' C hok hS hc hs (by subst hlv; exact mm_lv_set2 hcat h'))
theorem wa_astore_n {k : Fin 4} {lv' : List (Option Value)} {v : Value} (hd : decode J.2.1 pc = .ok (.astore_n k, 1)) (hn : (k : Nat) < J.2.2.1) (hcat : mm_c1 lv (k : Nat) = true) (hlv : lv.set (k : Nat) (some (v)) = lv') (hr : mm_isr v = true) (kk : wa_ fl G J d mc ms Q kc ks M (pc + 1) lv' st) : wa_ fl G J d mc ms Q kc ks M pc lv (v :: st) := by
  intro p l e R s m args below meth c H locs cells slots ls C hok hS hc hs hl
  cases v with
  | ref x => exact lv_astore_n C.1.1 C.1.2.1 hd rfl hl hn rfl (fun ls' h' => kk p l e R s m args below meth c H locs cells slots ls' C hok hS hc hs (by subst hlv; exact mm_lv_set1 hcat h'))
  | null => exact lv_astore_nN C.1.1 C.1.2.1 hd rfl hl hn rfl (fun ls' h' => kk p l e R s m args below meth c H locs cells slots ls' C hok hS hc hs (by subst hlv; exact mm_lv_set1 hcat h'))
  | _ => cases hr
theorem wa_astore {i : Nat} {lv' : List (Option Value)} {v : Value} (hd : decode J.2.1 pc = .ok (.astore i, 2)) (hn : i < J.2.2.1) (hcat : mm_c1 lv i = true) (hlv : lv.set i (some (v)) = lv') (hr : mm_isr v = true) (kk : wa_ fl G J d mc ms Q kc ks M (pc + 2) lv' st) : wa_ fl G J d mc ms Q kc ks M pc lv (v :: st) := by
  intro p l e R s m args below meth c H locs cells slots ls C hok hS hc hs hl
  cases v with
  | ref x => exact lv_astore C.1.1 C.1.2.1 hd hl hn rfl (fun ls' h' => kk p l e R s m args below meth c H locs cells slots ls' C hok hS hc hs (by subst hlv; exact mm_lv_set1 hcat h'))
  | null => exact lv_astoreN C.1.1 C.1.2.1 hd hl hn rfl (fun ls' h' => kk p l e R s m args below meth c H locs cells slots ls' C hok hS hc hs (by subst hlv; exact mm_lv_set1 hcat h'))
  | _ => cases hr
theorem wa_iadd {x y : Int32} (hd : decode J.2.1 pc = .ok (.iadd, 1))  (kk : wa_ fl G J d mc ms Q kc ks M (pc + 1) lv (.int (x + y) :: st)) : wa_ fl G J d mc ms Q kc ks M pc lv (.int y :: .int x :: st) := by
  intro p l e R s m args below meth c H locs cells slots ls C hok hS hc hs hl
  exact lv_iadd C.1.1 C.1.2.1 hd (kk p l e R s m args below meth c H locs cells slots ls C hok hS hc hs hl)
theorem wa_isub {x y : Int32} (hd : decode J.2.1 pc = .ok (.isub, 1))  (kk : wa_ fl G J d mc ms Q kc ks M (pc + 1) lv (.int (x - y) :: st)) : wa_ fl G J d mc ms Q kc ks M pc lv (.int y :: .int x :: st) := by
  intro p l e R s m args below meth c H locs cells slots ls C hok hS hc hs hl
  exact lv_isub C.1.1 C.1.2.1 hd (kk p l e R s m args below meth c H locs cells slots ls C hok hS hc hs hl)
theorem wa_imul {x y : Int32} (hd : decode J.2.1 pc = .ok (.imul, 1))  (kk : wa_ fl G J d mc ms Q kc ks M (pc + 1) lv (.int (x * y) :: st)) : wa_ fl G J d mc ms Q kc ks M pc lv (.int y :: .int x :: st) := by
  intro p l e R s m args below meth c H locs cells slots ls C hok hS hc hs hl
  exact lv_imul C.1.1 C.1.2.1 hd (kk p l e R s m args below meth c H locs cells slots ls C hok hS hc hs hl)
theorem wa_iand {x y : Int32} (hd : decode J.2.1 pc = .ok (.iand, 1))  (kk : wa_ fl G J d mc ms Q kc ks M (pc + 1) lv (.int (x &&& y) :: st)) : wa_ fl G J d mc ms Q kc ks M pc lv (.int y :: .int x :: st) := by
  intro p l e R s m args below meth c H locs cells slots ls C hok hS hc hs hl
  exact lv_iand C.1.1 C.1.2.1 hd (kk p l e R s m args below meth c H locs cells slots ls C hok hS hc hs hl)
theorem wa_ishl {x y : Int32} (hd : decode J.2.1 pc = .ok (.ishl, 1))  (kk : wa_ fl G J d mc ms Q kc ks M (pc + 1) lv (.int (x <<< (y &&& 31)) :: st)) : wa_ fl G J d mc ms Q kc ks M pc lv (.int y :: .int x :: st) := by
  intro p l e R s m args below meth c H locs cells slots ls C hok hS hc hs hl
  exact lv_ishl C.1.1 C.1.2.1 hd (kk p l e R s m args below meth c H locs cells slots ls C hok hS hc hs hl)
theorem wa_ishr {x y : Int32} (hd : decode J.2.1 pc = .ok (.ishr, 1))  (kk : wa_ fl G J d mc ms Q kc ks M (pc + 1) lv (.int (x >>> (y &&& 31)) :: st)) : wa_ fl G J d mc ms Q kc ks M pc lv (.int y :: .int x :: st) := by
  intro p l e R s m args below meth c H locs cells slots ls C hok hS hc hs hl
  exact lv_ishr C.1.1 C.1.2.1 hd (kk p l e R s m args below meth c H locs cells slots ls C hok hS hc hs hl)
theorem wa_idiv {x y : Int32} (hd : decode J.2.1 pc = .ok (.idiv, 1)) (hne : ¬ y = 0) (kk : wa_ fl G J d mc ms Q kc ks M (pc + 1) lv (.int (x / y) :: st)) : wa_ fl G J d mc ms Q kc ks M pc lv (.int y :: .int x :: st) := by
  intro p l e R s m args below meth c H locs cells slots ls C hok hS hc hs hl
  exact lv_idiv C.1.1 C.1.2.1 hd hne (kk p l e R s m args below meth c H locs cells slots ls C hok hS hc hs hl)
theorem wa_irem {x y : Int32} (hd : decode J.2.1 pc = .ok (.irem, 1)) (hne : ¬ y = 0) (kk : wa_ fl G J d mc ms Q kc ks M (pc + 1) lv (.int (x - x / y * y) :: st)) : wa_ fl G J d mc ms Q kc ks M pc lv (.int y :: .int x :: st) := by
  intro p l e R s m args below meth c H locs cells slots ls C hok hS hc hs hl
  exact lv_irem C.1.1 C.1.2.1 hd hne (kk p l e R s m args below meth c H locs cells slots ls C hok hS hc hs hl)
theorem wa_iushr {x y : Int32} (hd : decode J.2.1 pc = .ok (.iushr, 1))  (kk : wa_ fl G J d mc ms Q kc ks M (pc + 1) lv (.int ((x.toUInt32 >>> (y.toUInt32 &&& Int32.toUInt32 31)).toInt32) :: st)) : wa_ fl G J d mc ms Q kc ks M pc lv (.int y :: .int x :: st) := by
  intro p l e R s m args below meth c H locs cells slots ls C hok hS hc hs hl
  exact lv_iushr C.1.1 C.1.2.1 hd rfl (kk p l e R s m args below meth c H locs cells slots ls C hok hS hc hs hl)
theorem wa_ineg {x : Int32} (hd : decode J.2.1 pc = .ok (.ineg, 1))  (kk : wa_ fl G J d mc ms Q kc ks M (pc + 1) lv (.int (-x) :: st)) : wa_ fl G J d mc ms Q kc ks M pc lv (.int x :: st) := by
  intro p l e R s m args below meth c H locs cells slots ls C hok hS hc hs hl
  exact lv_ineg C.1.1 C.1.2.1 hd (kk p l e R s m args below meth c H locs cells slots ls C hok hS hc hs hl)
theorem wa_i2l {x : Int32} (hd : decode J.2.1 pc = .ok (.i2l, 1))  (kk : wa_ fl G J d mc ms Q kc ks M (pc + 1) lv (.long x.toInt64 :: st)) : wa_ fl G J d mc ms Q kc ks M pc lv (.int x :: st) := by
  intro p l e R s m args below meth c H locs cells slots ls C hok hS hc hs hl
  exact lv_i2l C.1.1 C.1.2.1 hd rfl (kk p l e R s m args below meth c H locs cells slots ls C hok hS hc hs hl)
theorem wa_l2i {x : Int64} (hd : decode J.2.1 pc = .ok (.l2i, 1))  (kk : wa_ fl G J d mc ms Q kc ks M (pc + 1) lv (.int x.toInt32 :: st)) : wa_ fl G J d mc ms Q kc ks M pc lv (.long x :: st) := by
  intro p l e R s m args below meth c H locs cells slots ls C hok hS hc hs hl
  exact lv_l2i C.1.1 C.1.2.1 hd rfl (kk p l e R s m args below meth c H locs cells slots ls C hok hS hc hs hl)
theorem wa_i2b {x : Int32} (hd : decode J.2.1 pc = .ok (.i2b, 1))  (kk : wa_ fl G J d mc ms Q kc ks M (pc + 1) lv (.int x.toInt8.toInt32 :: st)) : wa_ fl G J d mc ms Q kc ks M pc lv (.int x :: st) := by
  intro p l e R s m args below meth c H locs cells slots ls C hok hS hc hs hl
  exact lv_i2b C.1.1 C.1.2.1 hd rfl (kk p l e R s m args below meth c H locs cells slots ls C hok hS hc hs hl)
theorem wa_i2c {x : Int32} (hd : decode J.2.1 pc = .ok (.i2c, 1))  (kk : wa_ fl G J d mc ms Q kc ks M (pc + 1) lv (.int (x.toUInt32 % 65536).toInt32 :: st)) : wa_ fl G J d mc ms Q kc ks M pc lv (.int x :: st) := by
  intro p l e R s m args below meth c H locs cells slots ls C hok hS hc hs hl
  exact lv_i2c C.1.1 C.1.2.1 hd rfl (kk p l e R s m args below meth c H locs cells slots ls C hok hS hc hs hl)
theorem wa_ladd {x y : Int64} (hd : decode J.2.1 pc = .ok (.ladd, 1))  (kk : wa_ fl G J d mc ms Q kc ks M (pc + 1) lv (.long (x + y) :: st)) : wa_ fl G J d mc ms Q kc ks M pc lv (.long y :: .long x :: st) := by
  intro p l e R s m args below meth c H locs cells slots ls C hok hS hc hs hl
  exact lv_ladd C.1.1 C.1.2.1 hd (kk p l e R s m args below meth c H locs cells slots ls C hok hS hc hs hl)
theorem wa_lsub {x y : Int64} (hd : decode J.2.1 pc = .ok (.lsub, 1))  (kk : wa_ fl G J d mc ms Q kc ks M (pc + 1) lv (.long (x - y) :: st)) : wa_ fl G J d mc ms Q kc ks M pc lv (.long y :: .long x :: st) := by
  intro p l e R s m args below meth c H locs cells slots ls C hok hS hc hs hl
  exact lv_lsub C.1.1 C.1.2.1 hd (kk p l e R s m args below meth c H locs cells slots ls C hok hS hc hs hl)
theorem wa_lmul {x y : Int64} (hd : decode J.2.1 pc = .ok (.lmul, 1))  (kk : wa_ fl G J d mc ms Q kc ks M (pc + 1) lv (.long (x * y) :: st)) : wa_ fl G J d mc ms Q kc ks M pc lv (.long y :: .long x :: st) := by
  intro p l e R s m args below meth c H locs cells slots ls C hok hS hc hs hl
  exact lv_lmul C.1.1 C.1.2.1 hd (kk p l e R s m args below meth c H locs cells slots ls C hok hS hc hs hl)
theorem wa_land {x y : Int64} (hd : decode J.2.1 pc = .ok (.land, 1))  (kk : wa_ fl G J d mc ms Q kc ks M (pc + 1) lv (.long (x &&& y) :: st)) : wa_ fl G J d mc ms Q kc ks M pc lv (.long y :: .long x :: st) := by
  intro p l e R s m args below meth c H locs cells slots ls C hok hS hc hs hl
  exact lv_land C.1.1 C.1.2.1 hd (kk p l e R s m args below meth c H locs cells slots ls C hok hS hc hs hl)
theorem wa_lshl {x : Int64} {y : Int32} (hd : decode J.2.1 pc = .ok (.lshl, 1))  (kk : wa_ fl G J d mc ms Q kc ks M (pc + 1) lv (.long (x <<< (y.toInt64 &&& 63)) :: st)) : wa_ fl G J d mc ms Q kc ks M pc lv (.int y :: .long x :: st) := by
  intro p l e R s m args below meth c H locs cells slots ls C hok hS hc hs hl
  exact lv_lshl C.1.1 C.1.2.1 hd rfl (kk p l e R s m args below meth c H locs cells slots ls C hok hS hc hs hl)
theorem wa_lshr {x : Int64} {y : Int32} (hd : decode J.2.1 pc = .ok (.lshr, 1))  (kk : wa_ fl G J d mc ms Q kc ks M (pc + 1) lv (.long (x >>> (y.toInt64 &&& 63)) :: st)) : wa_ fl G J d mc ms Q kc ks M pc lv (.int y :: .long x :: st) := by
  intro p l e R s m args below meth c H locs cells slots ls C hok hS hc hs hl
  exact lv_lshr C.1.1 C.1.2.1 hd rfl (kk p l e R s m args below meth c H locs cells slots ls C hok hS hc hs hl)
theorem wa_lcmp {x y : Int64} (hd : decode J.2.1 pc = .ok (.lcmp, 1))  (kk : wa_ fl G J d mc ms Q kc ks M (pc + 1) lv (.int (lg_cmp x y) :: st)) : wa_ fl G J d mc ms Q kc ks M pc lv (.long y :: .long x :: st) := by
  intro p l e R s m args below meth c H locs cells slots ls C hok hS hc hs hl
  exact W.lcmp C.1.1 C.1.2.1 hd (kk p l e R s m args below meth c H locs cells slots ls C hok hS hc hs hl)
theorem wa_dup {v : Value} (hd : decode J.2.1 pc = .ok (.dup, 1)) (hv : v.category = 1) (kk : wa_ fl G J d mc ms Q kc ks M (pc + 1) lv (v :: v :: st)) : wa_ fl G J d mc ms Q kc ks M pc lv (v :: st) := by
  intro p l e R s m args below meth c H locs cells slots ls C hok hS hc hs hl
  exact lv_dup C.1.1 C.1.2.1 hd hv (kk p l e R s m args below meth c H locs cells slots ls C hok hS hc hs hl)
theorem wa_pop {v : Value} (hd : decode J.2.1 pc = .ok (.pop, 1)) (hv : v.category = 1) (kk : wa_ fl G J d mc ms Q kc ks M (pc + 1) lv st) : wa_ fl G J d mc ms Q kc ks M pc lv (v :: st) := by
  intro p l e R s m args below meth c H locs cells slots ls C hok hS hc hs hl
  exact lv_pop C.1.1 C.1.2.1 hd hv (kk p l e R s m args below meth c H locs cells slots ls C hok hS hc hs hl)
theorem wa_dup2 {v w : Value} (hd : decode J.2.1 pc = .ok (.dup2, 1)) (hv : v.category = 1) (hw : w.category = 1) (kk : wa_ fl G J d mc ms Q kc ks M (pc + 1) lv (v :: w :: v :: w :: st)) : wa_ fl G J d mc ms Q kc ks M pc lv (v :: w :: st) := by
  intro p l e R s m args below meth c H locs cells slots ls C hok hS hc hs hl
  exact lv_dup2_11 C.1.1 C.1.2.1 hd hv hw (kk p l e R s m args below meth c H locs cells slots ls C hok hS hc hs hl)
theorem wa_null  (hd : decode J.2.1 pc = .ok (.aconst_null, 1))  (kk : wa_ fl G J d mc ms Q kc ks M (pc + 1) lv (.null :: st)) : wa_ fl G J d mc ms Q kc ks M pc lv st := by
  intro p l e R s m args below meth c H locs cells slots ls C hok hS hc hs hl
  exact lv_null C.1.1 C.1.2.1 hd (kk p l e R s m args below meth c H locs cells slots ls C hok hS hc hs hl)
theorem wa_ldc {i : Nat} {v : Int32} (hd : decode J.2.1 pc = .ok (.ldc i, 2)) (hw : Cond.constant J.1.cls i v ∈ gt_ws) (kk : wa_ fl G J d mc ms Q kc ks M (pc + 2) lv (.int v :: st)) : wa_ fl G J d mc ms Q kc ks M pc lv st := by
  intro p l e R s m args below meth c H locs cells slots ls C hok hS hc hs hl
  exact lv_ldc C.1.1 C.1.2.1 C.1.2.2.2.1 (C.1.2.2.2.2 _ hw) hd (kk p l e R s m args below meth c H locs cells slots ls C hok hS hc hs hl)
theorem wa_ldc2 {i : Nat} {v : Int64} (hd : decode J.2.1 pc = .ok (.ldc2_w i, 3)) (hw : Cond.constantLong J.1.cls i v ∈ gt_ws) (kk : wa_ fl G J d mc ms Q kc ks M (pc + 3) lv (.long v :: st)) : wa_ fl G J d mc ms Q kc ks M pc lv st := by
  intro p l e R s m args below meth c H locs cells slots ls C hok hS hc hs hl
  exact lv_ldc2 C.1.1 C.1.2.1 C.1.2.2.2.1 (C.1.2.2.2.2 _ hw) hd (kk p l e R s m args below meth c H locs cells slots ls C hok hS hc hs hl)
theorem wa_ldcS {i k : Nat} {tx : String} (hd : decode J.2.1 pc = .ok (.ldc i, 2)) (hw : (J.1.cls, i, tx, k) ∈ mm_tr) (kk : wa_ fl G J d mc ms Q kc ks M (pc + 2) lv (.ref (G.2.2.2.2.1 k) :: st)) : wa_ fl G J d mc ms Q kc ks M pc lv st := by
  intro p l e R s m args below meth c H locs cells slots ls C hok hS hc hs hl
  exact va_ldcS C.1.1 C.1.2.1 C.1.2.2.2.1 (C.2.2.2.2.1.2.2 _ hw) hd (kk p l e R s m args below meth c H locs cells slots ls C hok hS hc hs hl)
theorem wa_if_eq {x : Int32} {off : Int} {tgt : Nat} (hd : decode J.2.1 pc = .ok (.ifCond .eq off, 3)) (ht : (pc : Int) + off = (tgt : Int)) (kt : x = 0 → wa_ fl G J d mc ms Q kc ks M tgt lv st) (kf : ¬ x = 0 → wa_ fl G J d mc ms Q kc ks M (pc + 3) lv st) : wa_ fl G J d mc ms Q kc ks M pc lv (.int x :: st) := by
  intro p l e R s m args below meth c H locs cells slots ls C hok hS hc hs hl
  exact lv_if_eq C.1.1 C.1.2.1 hd ht (fun q => kt q p l e R s m args below meth c H locs cells slots ls C hok hS hc hs hl) (fun q => kf q p l e R s m args below meth c H locs cells slots ls C hok hS hc hs hl)
theorem wa_icmp_eq {x y : Int32} {off : Int} {tgt : Nat} (hd : decode J.2.1 pc = .ok (.if_icmp .eq off, 3)) (ht : (pc : Int) + off = (tgt : Int)) (kt : x = y → wa_ fl G J d mc ms Q kc ks M tgt lv st) (kf : ¬ x = y → wa_ fl G J d mc ms Q kc ks M (pc + 3) lv st) : wa_ fl G J d mc ms Q kc ks M pc lv (.int y :: .int x :: st) := by
  intro p l e R s m args below meth c H locs cells slots ls C hok hS hc hs hl
  exact lv_icmp_eq C.1.1 C.1.2.1 hd ht (fun q => kt q p l e R s m args below meth c H locs cells slots ls C hok hS hc hs hl) (fun q => kf q p l e R s m args below meth c H locs cells slots ls C hok hS hc hs hl)
theorem wa_if_ne {x : Int32} {off : Int} {tgt : Nat} (hd : decode J.2.1 pc = .ok (.ifCond .ne off, 3)) (ht : (pc : Int) + off = (tgt : Int)) (kt : (¬ x = 0) → wa_ fl G J d mc ms Q kc ks M tgt lv st) (kf : x = 0 → wa_ fl G J d mc ms Q kc ks M (pc + 3) lv st) : wa_ fl G J d mc ms Q kc ks M pc lv (.int x :: st) := by
  intro p l e R s m args below meth c H locs cells slots ls C hok hS hc hs hl
  exact lv_if_ne C.1.1 C.1.2.1 hd ht (fun q => kt q p l e R s m args below meth c H locs cells slots ls C hok hS hc hs hl) (fun q => kf q p l e R s m args below meth c H locs cells slots ls C hok hS hc hs hl)
theorem wa_icmp_ne {x y : Int32} {off : Int} {tgt : Nat} (hd : decode J.2.1 pc = .ok (.if_icmp .ne off, 3)) (ht : (pc : Int) + off = (tgt : Int)) (kt : (¬ x = y) → wa_ fl G J d mc ms Q kc ks M tgt lv st) (kf : x = y → wa_ fl G J d mc ms Q kc ks M (pc + 3) lv st) : wa_ fl G J d mc ms Q kc ks M pc lv (.int y :: .int x :: st) := by
  intro p l e R s m args below meth c H locs cells slots ls C hok hS hc hs hl
  exact lv_icmp_ne C.1.1 C.1.2.1 hd ht (fun q => kt q p l e R s m args below meth c H locs cells slots ls C hok hS hc hs hl) (fun q => kf q p l e R s m args below meth c H locs cells slots ls C hok hS hc hs hl)
theorem wa_if_lt {x : Int32} {off : Int} {tgt : Nat} (hd : decode J.2.1 pc = .ok (.ifCond .lt off, 3)) (ht : (pc : Int) + off = (tgt : Int)) (kt : x < 0 → wa_ fl G J d mc ms Q kc ks M tgt lv st) (kf : ¬ x < 0 → wa_ fl G J d mc ms Q kc ks M (pc + 3) lv st) : wa_ fl G J d mc ms Q kc ks M pc lv (.int x :: st) := by
  intro p l e R s m args below meth c H locs cells slots ls C hok hS hc hs hl
  exact lv_if_lt C.1.1 C.1.2.1 hd ht (fun q => kt q p l e R s m args below meth c H locs cells slots ls C hok hS hc hs hl) (fun q => kf q p l e R s m args below meth c H locs cells slots ls C hok hS hc hs hl)
theorem wa_icmp_lt {x y : Int32} {off : Int} {tgt : Nat} (hd : decode J.2.1 pc = .ok (.if_icmp .lt off, 3)) (ht : (pc : Int) + off = (tgt : Int)) (kt : x < y → wa_ fl G J d mc ms Q kc ks M tgt lv st) (kf : ¬ x < y → wa_ fl G J d mc ms Q kc ks M (pc + 3) lv st) : wa_ fl G J d mc ms Q kc ks M pc lv (.int y :: .int x :: st) := by
  intro p l e R s m args below meth c H locs cells slots ls C hok hS hc hs hl
  exact lv_icmp_lt C.1.1 C.1.2.1 hd ht (fun q => kt q p l e R s m args below meth c H locs cells slots ls C hok hS hc hs hl) (fun q => kf q p l e R s m args below meth c H locs cells slots ls C hok hS hc hs hl)
theorem wa_if_ge {x : Int32} {off : Int} {tgt : Nat} (hd : decode J.2.1 pc = .ok (.ifCond .ge off, 3)) (ht : (pc : Int) + off = (tgt : Int)) (kt : 0 ≤ x → wa_ fl G J d mc ms Q kc ks M tgt lv st) (kf : ¬ 0 ≤ x → wa_ fl G J d mc ms Q kc ks M (pc + 3) lv st) : wa_ fl G J d mc ms Q kc ks M pc lv (.int x :: st) := by
  intro p l e R s m args below meth c H locs cells slots ls C hok hS hc hs hl
  exact lv_if_ge C.1.1 C.1.2.1 hd ht (fun q => kt q p l e R s m args below meth c H locs cells slots ls C hok hS hc hs hl) (fun q => kf q p l e R s m args below meth c H locs cells slots ls C hok hS hc hs hl)
theorem wa_icmp_ge {x y : Int32} {off : Int} {tgt : Nat} (hd : decode J.2.1 pc = .ok (.if_icmp .ge off, 3)) (ht : (pc : Int) + off = (tgt : Int)) (kt : y ≤ x → wa_ fl G J d mc ms Q kc ks M tgt lv st) (kf : ¬ y ≤ x → wa_ fl G J d mc ms Q kc ks M (pc + 3) lv st) : wa_ fl G J d mc ms Q kc ks M pc lv (.int y :: .int x :: st) := by
  intro p l e R s m args below meth c H locs cells slots ls C hok hS hc hs hl
  exact lv_icmp_ge C.1.1 C.1.2.1 hd ht (fun q => kt q p l e R s m args below meth c H locs cells slots ls C hok hS hc hs hl) (fun q => kf q p l e R s m args below meth c H locs cells slots ls C hok hS hc hs hl)
theorem wa_if_gt {x : Int32} {off : Int} {tgt : Nat} (hd : decode J.2.1 pc = .ok (.ifCond .gt off, 3)) (ht : (pc : Int) + off = (tgt : Int)) (kt : 0 < x → wa_ fl G J d mc ms Q kc ks M tgt lv st) (kf : ¬ 0 < x → wa_ fl G J d mc ms Q kc ks M (pc + 3) lv st) : wa_ fl G J d mc ms Q kc ks M pc lv (.int x :: st) := by
  intro p l e R s m args below meth c H locs cells slots ls C hok hS hc hs hl
  exact lv_if_gt C.1.1 C.1.2.1 hd ht (fun q => kt q p l e R s m args below meth c H locs cells slots ls C hok hS hc hs hl) (fun q => kf q p l e R s m args below meth c H locs cells slots ls C hok hS hc hs hl)
theorem wa_icmp_gt {x y : Int32} {off : Int} {tgt : Nat} (hd : decode J.2.1 pc = .ok (.if_icmp .gt off, 3)) (ht : (pc : Int) + off = (tgt : Int)) (kt : y < x → wa_ fl G J d mc ms Q kc ks M tgt lv st) (kf : ¬ y < x → wa_ fl G J d mc ms Q kc ks M (pc + 3) lv st) : wa_ fl G J d mc ms Q kc ks M pc lv (.int y :: .int x :: st) := by
  intro p l e R s m args below meth c H locs cells slots ls C hok hS hc hs hl
  exact lv_icmp_gt C.1.1 C.1.2.1 hd ht (fun q => kt q p l e R s m args below meth c H locs cells slots ls C hok hS hc hs hl) (fun q => kf q p l e R s m args below meth c H locs cells slots ls C hok hS hc hs hl)
theorem wa_if_le {x : Int32} {off : Int} {tgt : Nat} (hd : decode J.2.1 pc = .ok (.ifCond .le off, 3)) (ht : (pc : Int) + off = (tgt : Int)) (kt : x ≤ 0 → wa_ fl G J d mc ms Q kc ks M tgt lv st) (kf : ¬ x ≤ 0 → wa_ fl G J d mc ms Q kc ks M (pc + 3) lv st) : wa_ fl G J d mc ms Q kc ks M pc lv (.int x :: st) := by
  intro p l e R s m args below meth c H locs cells slots ls C hok hS hc hs hl
  exact lv_if_le C.1.1 C.1.2.1 hd ht (fun q => kt q p l e R s m args below meth c H locs cells slots ls C hok hS hc hs hl) (fun q => kf q p l e R s m args below meth c H locs cells slots ls C hok hS hc hs hl)
theorem wa_icmp_le {x y : Int32} {off : Int} {tgt : Nat} (hd : decode J.2.1 pc = .ok (.if_icmp .le off, 3)) (ht : (pc : Int) + off = (tgt : Int)) (kt : x ≤ y → wa_ fl G J d mc ms Q kc ks M tgt lv st) (kf : ¬ x ≤ y → wa_ fl G J d mc ms Q kc ks M (pc + 3) lv st) : wa_ fl G J d mc ms Q kc ks M pc lv (.int y :: .int x :: st) := by
  intro p l e R s m args below meth c H locs cells slots ls C hok hS hc hs hl
  exact lv_icmp_le C.1.1 C.1.2.1 hd ht (fun q => kt q p l e R s m args below meth c H locs cells slots ls C hok hS hc hs hl) (fun q => kf q p l e R s m args below meth c H locs cells slots ls C hok hS hc hs hl)
theorem wa_goto {off : Int} {tgt : Nat} (hd : decode J.2.1 pc = .ok (.goto off, 3)) (ht : (pc : Int) + off = (tgt : Int)) (kk : wa_ fl G J d mc ms Q kc ks M tgt lv st) : wa_ fl G J d mc ms Q kc ks M pc lv st := by
  intro p l e R s m args below meth c H locs cells slots ls C hok hS hc hs hl
  exact lv_goto C.1.1 C.1.2.1 hd ht (kk p l e R s m args below meth c H locs cells slots ls C hok hS hc hs hl)
theorem wa_ifnullR {x : Nat} {off : Int} (hd : decode J.2.1 pc = .ok (.ifnull off, 3)) (kk : wa_ fl G J d mc ms Q kc ks M (pc + 3) lv st) : wa_ fl G J d mc ms Q kc ks M pc lv (.ref x :: st) := by
  intro p l e R s m args below meth c H locs cells slots ls C hok hS hc hs hl
  exact lv_ifnull C.1.1 C.1.2.1 hd (kk p l e R s m args below meth c H locs cells slots ls C hok hS hc hs hl)
theorem wa_ifnullN {off : Int} {tgt : Nat} (hd : decode J.2.1 pc = .ok (.ifnull off, 3)) (ht : (pc : Int) + off = (tgt : Int)) (kk : wa_ fl G J d mc ms Q kc ks M tgt lv st) : wa_ fl G J d mc ms Q kc ks M pc lv (.null :: st) := by
  intro p l e R s m args below meth c H locs cells slots ls C hok hS hc hs hl
  exact lv_ifnullN C.1.1 C.1.2.1 hd ht (kk p l e R s m args below meth c H locs cells slots ls C hok hS hc hs hl)
theorem wa_ifnonnullR {x : Nat} {off : Int} {tgt : Nat} (hd : decode J.2.1 pc = .ok (.ifnonnull off, 3)) (ht : (pc : Int) + off = (tgt : Int)) (kk : wa_ fl G J d mc ms Q kc ks M tgt lv st) : wa_ fl G J d mc ms Q kc ks M pc lv (.ref x :: st) := by
  intro p l e R s m args below meth c H locs cells slots ls C hok hS hc hs hl
  exact lv_ifnonnull C.1.1 C.1.2.1 hd ht (kk p l e R s m args below meth c H locs cells slots ls C hok hS hc hs hl)
theorem wa_ifnonnullN {off : Int} (hd : decode J.2.1 pc = .ok (.ifnonnull off, 3)) (kk : wa_ fl G J d mc ms Q kc ks M (pc + 3) lv st) : wa_ fl G J d mc ms Q kc ks M pc lv (.null :: st) := by
  intro p l e R s m args below meth c H locs cells slots ls C hok hS hc hs hl
  exact lv_ifnonnullN C.1.1 C.1.2.1 hd (kk p l e R s m args below meth c H locs cells slots ls C hok hS hc hs hl)
theorem wa_tableOut {dflt lo hi : Int} {offs : Array Int} {len : Nat} {x : Int32} {tgt : Nat} (hd : decode J.2.1 pc = .ok (.tableswitch dflt lo hi offs, len)) (h : x.toInt < lo ∨ hi < x.toInt) (ht : (pc : Int) + dflt = (tgt : Int)) (kk : wa_ fl G J d mc ms Q kc ks M tgt lv st) : wa_ fl G J d mc ms Q kc ks M pc lv (.int x :: st) := by
  intro p l e R s m args below meth c H locs cells slots ls C hok hS hc hs hl
  exact lv_tableOut C.1.1 C.1.2.1 hd h ht (kk p l e R s m args below meth c H locs cells slots ls C hok hS hc hs hl)
theorem wa_tableIn {dflt lo hi : Int} {offs : Array Int} {len : Nat} {x : Int32} {off : Int} {tgt : Nat} (hd : decode J.2.1 pc = .ok (.tableswitch dflt lo hi offs, len)) (h1 : ¬ x.toInt < lo) (h2 : ¬ hi < x.toInt) (ho : offs[(x.toInt - lo).toNat]? = some off) (ht : (pc : Int) + off = (tgt : Int)) (kk : wa_ fl G J d mc ms Q kc ks M tgt lv st) : wa_ fl G J d mc ms Q kc ks M pc lv (.int x :: st) := by
  intro p l e R s m args below meth c H locs cells slots ls C hok hS hc hs hl
  exact lv_tableIn C.1.1 C.1.2.1 hd h1 h2 ho ht (kk p l e R s m args below meth c H locs cells slots ls C hok hS hc hs hl)
theorem wa_lv {lv' : List (Option Value)} (hs' : ∀ (i : Nat) (v : Value), lv'[i]? = some (some v) → lv[i]? = some (some v)) (kk : wa_ fl G J d mc ms Q kc ks M pc lv' st) : wa_ fl G J d mc ms Q kc ks M pc lv st := by
  intro p l e R s m args below meth c H locs cells slots ls C hok hS hc hs hl
  exact kk p l e R s m args below meth c H locs cells slots ls C hok hS hc hs (mm_lv_weak hl hs')
theorem wa_kc {kc' ks' : Nat} (h1 : kc' ≤ kc) (h2 : ks' ≤ ks) (kk : wa_ fl G J d mc ms Q kc' ks' M pc lv st) : wa_ fl G J d mc ms Q kc ks M pc lv st := by
  intro p l e R s m args below meth c H locs cells slots ls C hok hS hc hs hl
  exact kk p l e R s m args below meth c H locs cells slots ls C hok hS (Nat.le_trans (Nat.add_le_add_left h1 _) hc) (Nat.le_trans (Nat.add_le_add_left h2 _) hs) hl
theorem wa_topi {x : Int32} (kk : ∀ y : Int32, y = x → wa_ fl G J d mc ms Q kc ks M pc lv (.int y :: st)) : wa_ fl G J d mc ms Q kc ks M pc lv (.int x :: st) := kk x rfl
theorem wa_lt {a : Nat} {t : mm_S} (ha : mm_sh M a = some t) (kk : a < mm_z M → wa_ fl G J d mc ms Q kc ks M pc lv st) : wa_ fl G J d mc ms Q kc ks M pc lv st := by
  intro p l e R s m args below meth c H locs cells slots ls C hok hS hc hs hl
  exact kk (mm_ok_lt hok ha) p l e R s m args below meth c H locs cells slots ls C hok hS hc hs hl
theorem wa_iret {v : Int32} (hd : decode J.2.1 pc = .ok (.ireturn, 1)) (hr : J.2.2.2 = some .int) (hQ : Q (some (.int v)) M) : wa_ false G J d mc ms Q kc ks M pc lv [(.int v)] := by
  intro p l e R s m args below meth c H locs cells slots ls C hok hS hc hs hl
  refine W.widen (k := mc) (n := ms) (by omega) (by omega) ?_
  exact W.iret (v := v) C.1.1 C.1.2.1 (C.2.1.trans hr) (fun t ht hW => ⟨⟨_, M, rfl, hQ, by rw [ht]; exact mm_ok_moved hW.alike hok⟩, hS.F ht⟩) hS.2.2 hd C.2.2.1
theorem wa_zret {v : Int32} {ty : FieldType} (hd : decode J.2.1 pc = .ok (.ireturn, 1)) (hr : J.2.2.2 = some ty) (hn : narrow ty (.int v) = .int v) (hQ : Q (some (.int v)) M) : wa_ false G J d mc ms Q kc ks M pc lv [(.int v)] := by
  intro p l e R s m args below meth c H locs cells slots ls C hok hS hc hs hl
  refine W.widen (k := mc) (n := ms) (by omega) (by omega) ?_
  exact W.zret (v := v) C.1.1 C.1.2.1 (C.2.1.trans hr) hn (fun t ht hW => ⟨⟨_, M, rfl, hQ, by rw [ht]; exact mm_ok_moved hW.alike hok⟩, hS.F ht⟩) hS.2.2 hd C.2.2.1
theorem wa_lret {v : Int64} (hd : decode J.2.1 pc = .ok (.lreturn, 1)) (hr : J.2.2.2 = some .long) (hQ : Q (some (.long v)) M) : wa_ false G J d mc ms Q kc ks M pc lv [(.long v)] := by
  intro p l e R s m args below meth c H locs cells slots ls C hok hS hc hs hl
  refine W.widen (k := mc) (n := ms) (by omega) (by omega) ?_
  exact W.lret (v := v) C.1.1 C.1.2.1 (C.2.1.trans hr) (fun t ht hW => ⟨⟨_, M, rfl, hQ, by rw [ht]; exact mm_ok_moved hW.alike hok⟩, hS.F ht⟩) hS.2.2 hd C.2.2.1
theorem wa_vret  (hd : decode J.2.1 pc = .ok (.return_, 1)) (hr : J.2.2.2 = none) (hQ : Q none M) : wa_ false G J d mc ms Q kc ks M pc lv [] := by
  intro p l e R s m args below meth c H locs cells slots ls C hok hS hc hs hl
  refine W.widen (k := mc) (n := ms) (by omega) (by omega) ?_
  exact W.vret C.1.1 C.1.2.1 (C.2.1.trans hr) (fun t ht hW => ⟨⟨_, M, rfl, hQ, by rw [ht]; exact mm_ok_moved hW.alike hok⟩, hS.F ht⟩) hS.2.2 hd C.2.2.1
theorem wa_aret {v : Value} {ty : FieldType} (hd : decode J.2.1 pc = .ok (.areturn, 1)) (hr : J.2.2.2 = some ty) (hty : (∃ n, ty = .object n) ∨ ∃ t, ty = .array t) (hv : mm_isr v = true) (hQ : Q (some v) M) : wa_ false G J d mc ms Q kc ks M pc lv [v] := by
  intro p l e R s m args below meth c H locs cells slots ls C hok hS hc hs hl
  refine W.widen (k := mc) (n := ms) (by omega) (by omega) ?_
  exact W.aret (v := v) C.1.1 C.1.2.1 (C.2.1.trans hr) hty (by cases v with
    | ref x => exact Or.inr ⟨x, rfl⟩
    | null => exact Or.inl rfl
    | _ => cases hv) (fun t ht hW => ⟨⟨_, M, rfl, hQ, by rw [ht]; exact mm_ok_moved hW.alike hok⟩, hS.F ht⟩) hS.2.2 hd C.2.2.1
end ROWS1
end
section
section ROWS2
variable {fl : Bool} {G : mm_G} {J : mm_J} {d mc ms kc ks : Nat} {Q : Option Value → mm_M → Prop} {M : mm_M} {pc : Nat} {lv : List (Option Value)} {st : List Value}
/-- what an object of the memory gives to a getfield -/
theorem mm_obj {G : mm_G} {M : mm_M} {s : State} {H : Heap} (hok : mm_ok G M s H) {a ci : Nat} (hs : mm_sh M a = some (.inl ci)) {q : vw_C} (hq : mm_cl[ci]? = some q) : mm_sz G ≤ a ∧ t_OB a (G.1.1 ci) q.2.2 (G.1.2 ci) H (fun k => mm_fv (mm_I M a) (mm_L M a) (mm_R M a) k (mm_ty ci k)) := by
  obtain ⟨h0, q', h1, h2⟩ := hok.1 a _ hs
  cases h1.symm.trans hq
  exact ⟨h0, h2⟩
theorem mm_getf {p : Program} {l : Launch} {e : Env} {R : Room} {s : State} {m : MethodId} {args : Array Value} {below : List Frame} {meth : Method} {c : Code} {H : Heap} {locs : List Loc} {cells slots : Nat} {Qs : State → Prop} {ls : Array Slot} (C : wa_C G J d mc ms p R s m args meth c) (hok : mm_ok G M s H) {a ci k i : Nat} {q : vw_C} (hs : mm_sh M a = some (.inl ci)) (hq : mm_cl[ci]? = some q) (hk : k < q.2.2)
    (hd : decode J.2.1 pc = .ok (.getfield i, 3)) (hw : Cond.fieldLink J.1.cls i (q.2.1 k).1 (q.2.1 k).2.1 (q.2.1 k).2.2.1 ∈ gt_ws)
    (kk : W p l e R s m args below meth c H locs cells slots Qs (F0 m (pc + 3) ls (mm_fv (mm_I M a) (mm_L M a) (mm_R M a) k (mm_ty ci k) :: st))) : W p l e R s m args below meth c H locs cells slots Qs (F0 m pc ls (.ref a :: st)) := by
  obtain ⟨-, cell, q1, q2, q3, q4⟩ := mm_obj hok hs hq
  obtain ⟨hS, hfc, kC, hkC, hkind⟩ := C.2.2.2.2.1.1.1 ci _ hq
  obtain ⟨cf, kf, fi, f, hi, hsl⟩ := hS k hk
  refine W.getf C.1.1 C.1.2.1 C.1.2.2.2.1 (C.1.2.2.2.2 _ hw) hi (u_facts hfc hkC (u_lays C.1.2.2.2.2 (mm_in ci q hq) hk) hi).1 q1 (by rw [q3]; exact fun h => by cases h) ?_ rfl rfl hd kk
  rw [hsl, q4 k hk]
theorem wa_getI {a ci k i : Nat} {q : vw_C} (hd : decode J.2.1 pc = .ok (.getfield i, 3)) (hq : mm_cl[ci]? = some q) (hk : k < q.2.2) (hw : Cond.fieldLink J.1.cls i (q.2.1 k).1 (q.2.1 k).2.1 (q.2.1 k).2.2.1 ∈ gt_ws) (hs : mm_sh M a = some (.inl ci)) (hty : mm_ty ci k = .int) (kk : wa_ fl G J d mc ms Q kc ks M (pc + 3) lv (.int (mm_I M a k) :: st)) : wa_ fl G J d mc ms Q kc ks M pc lv (.ref a :: st) := by
  intro p l e R s m args below meth c H locs cells slots ls C hok hS hc hs' hl
  refine mm_getf C hok hs hq hk hd hw ?_
  rw [hty]
  exact kk p l e R s m args below meth c H locs cells slots ls C hok hS hc hs' hl
theorem wa_getL {a ci k i : Nat} {q : vw_C} (hd : decode J.2.1 pc = .ok (.getfield i, 3)) (hq : mm_cl[ci]? = some q) (hk : k < q.2.2) (hw : Cond.fieldLink J.1.cls i (q.2.1 k).1 (q.2.1 k).2.1 (q.2.1 k).2.2.1 ∈ gt_ws) (hs : mm_sh M a = some (.inl ci)) (hty : mm_ty ci k = .long) (kk : wa_ fl G J d mc ms Q kc ks M (pc + 3) lv (.long (mm_L M a k) :: st)) : wa_ fl G J d mc ms Q kc ks M pc lv (.ref a :: st) := by
  intro p l e R s m args below meth c H locs cells slots ls C hok hS hc hs' hl
  refine mm_getf C hok hs hq hk hd hw ?_
  rw [hty]
  exact kk p l e R s m args below meth c H locs cells slots ls C hok hS hc hs' hl
/-- a type of references -/
def mm_rt : FieldType → Bool
  | .object _ => true
  | .array _ => true
  | _ => false
theorem mm_fv_r {i : Nat → Int32} {l : Nat → Int64} {r : Nat → Option Nat} {k : Nat} {ty : FieldType} (h : mm_rt ty = true) : mm_fv i l r k ty = va_rf (r k) := by
  cases ty <;> first | rfl | cases h
theorem wa_getR {a ci k i : Nat} {q : vw_C} {v : Value} (hd : decode J.2.1 pc = .ok (.getfield i, 3)) (hq : mm_cl[ci]? = some q) (hk : k < q.2.2) (hw : Cond.fieldLink J.1.cls i (q.2.1 k).1 (q.2.1 k).2.1 (q.2.1 k).2.2.1 ∈ gt_ws) (hs : mm_sh M a = some (.inl ci)) (hty : mm_rt (mm_ty ci k) = true) (hv : va_rf (mm_R M a k) = v) (kk : wa_ fl G J d mc ms Q kc ks M (pc + 3) lv (v :: st)) : wa_ fl G J d mc ms Q kc ks M pc lv (.ref a :: st) := by
  intro p l e R s m args below meth c H locs cells slots ls C hok hS hc hs' hl
  refine mm_getf C hok hs hq hk hd hw ?_
  rw [mm_fv_r hty, hv]
  exact kk p l e R s m args below meth c H locs cells slots ls C hok hS hc hs' hl
/-- how a memory takes a value at a place, by its type -/
def mm_put (M : mm_M) (a k : Nat) (v : Value) : mm_M := match v with
  | .int x => mm_sI M a k x
  | .long x => mm_sL M a k x
  | .ref x => mm_sR M a k (some x)
  | .null => mm_sR M a k none
  | _ => M
def mm_kd (ty : FieldType) (v : Value) : Bool := match ty, v with
  | .int, .int _ => true
  | .long, .long _ => true
  | .object _, .ref _ => true
  | .object _, .null => true
  | .array _, .ref _ => true
  | .array _, .null => true
  | _, _ => false
theorem mm_put_sh (M : mm_M) (a k : Nat) (v : Value) : mm_sh (mm_put M a k v) = mm_sh M := by cases v <;> rfl
theorem mm_put_z (M : mm_M) (a k : Nat) (v : Value) : mm_z (mm_put M a k v) = mm_z M := by cases v <;> rfl
theorem mm_put_ne (M : mm_M) (a k : Nat) (v : Value) (b : Nat) (h : b ≠ a) : mm_I (mm_put M a k v) b = mm_I M b ∧ mm_L (mm_put M a k v) b = mm_L M b ∧ mm_R (mm_put M a k v) b = mm_R M b := by
  cases v <;> first | exact mm_ne_sI b h | exact mm_ne_sL b h | exact mm_ne_sR b h | exact ⟨rfl, rfl, rfl⟩
theorem mm_put_fv (M : mm_M) (a k : Nat) (v : Value) (ty : Nat → FieldType) (hk : mm_kd (ty k) v = true) (j : Nat) : updV (fun k => mm_fv (mm_I M a) (mm_L M a) (mm_R M a) k (ty k)) k v j = mm_fv (mm_I (mm_put M a k v) a) (mm_L (mm_put M a k v) a) (mm_R (mm_put M a k v) a) j (ty j) := by
  by_cases hj : j = k
  · subst hj
    simp only [updV, if_true]
    cases hty : ty j <;> cases v <;> simp_all [mm_kd, mm_fv, mm_put, mm_I, mm_L, mm_R, mm_sI, mm_sL, mm_sR, mm_u, va_rf]
  · simp only [updV, if_neg hj]
    cases v <;> simp [mm_fv, mm_put, mm_I, mm_L, mm_R, mm_sI, mm_sL, mm_sR, mm_u, hj]
theorem mm_kd_n {ty : FieldType} {v : Value} (h : mm_kd ty v = true) : narrow ty v = v ∧ fits ty v = true := by
  cases ty <;> cases v <;> simp_all [mm_kd, narrow, fits]
theorem mm_S_put {G : mm_G} {H0 H H1 : Heap} {locs : List Loc} {a k : Nat} (h : va_S (mm_fr G) H0 H locs) (z : H1.size = H.size) (oq : ∀ q : Nat, q ≠ a → H1[q]? = H[q]?) (ha : mm_sz G ≤ a) : va_S (mm_fr G) H0 H1 (locs ++ [⟨a, k⟩]) := h.put z oq ha
theorem wa_put {a ci k i : Nat} {q : vw_C} {v : Value} (hd : decode J.2.1 pc = .ok (.putfield i, 3)) (hq : mm_cl[ci]? = some q) (hk : k < q.2.2) (hw : Cond.fieldLink J.1.cls i (q.2.1 k).1 (q.2.1 k).2.1 (q.2.1 k).2.2.1 ∈ gt_ws) (hf : (q.2.1 k).2.2.2 = false) (hs : mm_sh M a = some (.inl ci)) (hkd : mm_kd (mm_ty ci k) v = true) (kk : wa_ fl G J d mc ms Q kc ks (mm_put M a k v) (pc + 3) lv st) : wa_ fl G J d mc ms Q kc ks M pc lv (v :: .ref a :: st) := by
  intro p l e R s m args below meth c H locs cells slots ls C hok hS hc hs' hl
  have hap := va_apart (own := J.1.cls) C.1.2.2.2.2 (mm_in ci q hq) (mm_ty ci) (mm_tyok ci q hq) (mm_nm ci q hq) C.2.2.2.2.1.1 hq
  obtain ⟨hge, cell, q1, q2, q3, q4⟩ := mm_obj hok hs hq
  obtain ⟨hSl, hfc, kC, hkC, hkind⟩ := C.2.2.2.2.1.1.1 ci _ hq
  obtain ⟨cf, kf, fi, f, hi, hsl⟩ := hSl k hk
  have hlay := C.1.2.2.2.2 _ (mm_in ci q hq _ (u_in_lay hk))
  unfold u_lay at hlay
  rw [if_neg (by rw [hf]; decide)] at hlay
  have hst := (u_facts hfc hkC (u_lays C.1.2.2.2.2 (mm_in ci q hq) hk) hi).1
  obtain ⟨hn1, hn2⟩ := mm_kd_n hkd
  have h6 := u_store hfc hkC hkind hlay hi (mm_tyok ci q hq k hk) hn1 hn2
  refine W.putK C.1.1 C.1.2.1 (f := f) ⟨C.1.2.2.2.1, C.1.2.2.2.2 _ hw, ⟨_, _, _, hi⟩, hst⟩ (by rw [q2]; exact h6) q1 q3 (by rw [hsl]; exact k2_hasslot (q4 k hk)) rfl rfl hd fun H' e1 e2 e3 => ?_
  rw [hsl] at e1 ⊢
  refine kk p l e R s m args below meth c H' _ cells slots ls C (mm_ok_put hok hs (mm_put_sh M a k v) (mm_put_z M a k v) (mm_put_ne M a k v) e2 e3 ?_) (mm_S_put hS e2 e3 hge) hc hs' hl
  exact ⟨hge, q, hq, t_OB.to (V := updV (fun k => mm_fv (mm_I M a) (mm_L M a) (mm_R M a) k (mm_ty ci k)) k v) ⟨_, e1, q2, q3, t_set q4 hap hk v⟩ (fun j _ => mm_put_fv M a k v (mm_ty ci) hkd j)⟩
theorem wa_putF {a ci k i : Nat} {q : vw_C} {v : Value} (hd : decode J.2.1 pc = .ok (.putfield i, 3)) (hq : mm_cl[ci]? = some q) (hk : k < q.2.2) (hw : Cond.fieldLink J.1.cls i (q.2.1 k).1 (q.2.1 k).2.1 (q.2.1 k).2.2.1 ∈ gt_ws) (hf : (q.2.1 k).2.2.2 = true) (hin : J.1.name = "<init>") (hdecl : (q.2.1 k).1 = J.1.cls) (hs : mm_sh M a = some (.inl ci)) (hkd : mm_kd (mm_ty ci k) v = true) (kk : wa_ fl G J d mc ms Q kc ks (mm_put M a k v) (pc + 3) lv st) : wa_ fl G J d mc ms Q kc ks M pc lv (v :: .ref a :: st) := by
  intro p l e R s m args below meth c H locs cells slots ls C hok hS hc hs' hl
  have hap := va_apart (own := J.1.cls) C.1.2.2.2.2 (mm_in ci q hq) (mm_ty ci) (mm_tyok ci q hq) (mm_nm ci q hq) C.2.2.2.2.1.1 hq
  obtain ⟨hge, cell, q1, q2, q3, q4⟩ := mm_obj hok hs hq
  obtain ⟨hSl, hfc, kC, hkC, hkind⟩ := C.2.2.2.2.1.1.1 ci _ hq
  obtain ⟨cf, kf, fi, f, hi, hsl⟩ := hSl k hk
  have hlay := C.1.2.2.2.2 _ (mm_in ci q hq _ (u_in_lay hk))
  unfold u_lay at hlay
  rw [if_pos hf] at hlay
  have hst := (u_facts hfc hkC (u_lays C.1.2.2.2.2 (mm_in ci q hq) hk) hi).1
  have hcf : m.cls = cf := by
    obtain ⟨_, _, c', _, _, _, -, -, hf', -, -, -, hown2, -⟩ := Cond.laysFinal_spec hlay
    have e1 : c' = cf := by have := hi.symm.trans hf'; simp at this; exact this.1.symm
    rw [hdecl] at hown2
    rw [← e1]; exact Option.some.inj (C.1.2.2.2.1.symm.trans hown2)
  obtain ⟨hn1, hn2⟩ := mm_kd_n hkd
  have h6 := u_fits hfc hkC hkind (Or.inr hlay) hi (mm_tyok ci q hq k hk) hn1 hn2
  refine W.putFinK C.1.1 C.1.2.1 C.1.2.2.2.1 (C.1.2.2.2.2 _ hw) hi hst hcf (C.2.2.2.1.trans hin) (by rw [q2]; exact h6) q1 q3 (by rw [hsl]; exact k2_hasslot (q4 k hk)) rfl rfl hd fun H' e1 e2 e3 => ?_
  rw [hsl] at e1 ⊢
  refine kk p l e R s m args below meth c H' _ cells slots ls C (mm_ok_put hok hs (mm_put_sh M a k v) (mm_put_z M a k v) (mm_put_ne M a k v) e2 e3 ?_) (mm_S_put hS e2 e3 hge) hc hs' hl
  exact ⟨hge, q, hq, t_OB.to (V := updV (fun k => mm_fv (mm_I M a) (mm_L M a) (mm_R M a) k (mm_ty ci k)) k v) ⟨_, e1, q2, q3, t_set q4 hap hk v⟩ (fun j _ => mm_put_fv M a k v (mm_ty ci) hkd j)⟩
/-! arrays -/
theorem mm_arr {G : mm_G} {M : mm_M} {s : State} {H : Heap} (hok : mm_ok G M s H) {a k n : Nat} (hs : mm_sh M a = some (.inr (k, n))) (hk : k < 10) : mm_sz G ≤ a ∧ H[a]? = some (vp_cell (G.2.1 k) (mm_ar (mm_I M a) (mm_L M a) (mm_R M a) k n)) := by
  have h := hok.1 a _ hs
  simp only [mm_at, hk, if_true] at h
  exact h
theorem mm_tbl {G : mm_G} {M : mm_M} {s : State} {H : Heap} (hok : mm_ok G M s H) {a k n : Nat} (hs : mm_sh M a = some (.inr (k, n))) (hk : ¬ k < 10) : mm_tb (if k = 10 then .int else .byte) n (mm_I M a) s H a := by
  have h := hok.1 a _ hs
  simp only [mm_at, hk, if_false] at h
  exact h.2
theorem mm_aK {G : mm_G} {s : State} (hK : mm_K G s) {k : Nat} (hk : k < 10) : ArrOfT s (G.2.1 k) (mm_el k) ∧ va_RA s (G.2.1 k) (mm_el k) := hK.1.2 k _ (mm_tys_at G hk)
theorem wa_alen {a k n : Nat} (hd : decode J.2.1 pc = .ok (.arraylength, 1)) (hs : mm_sh M a = some (.inr (k, n))) (kk : wa_ fl G J d mc ms Q kc ks M (pc + 1) lv (.int (Int32.ofNat n) :: st)) : wa_ fl G J d mc ms Q kc ks M pc lv (.ref a :: st) := by
  intro p l e R s m args below meth c H locs cells slots ls C hok hS hc hs' hl
  have kk' := kk p l e R s m args below meth c H locs cells slots ls C hok hS hc hs' hl
  by_cases hk : k < 10
  · obtain ⟨-, hcell⟩ := mm_arr hok hs hk
    have hA := (mm_aK C.2.2.2.2.1 hk).1
    unfold mm_ar at hcell
    by_cases h3 : k < 3
    · simp only [h3, if_true] at hcell
      exact W.alen (n := Int32.ofNat n) C.1.1 C.1.2.1 hcell (hA n (fun j => .int (mm_I M a j))) (by rw [vp_cell_i, arrV_size] <;> rfl) rfl rfl hd kk'
    · by_cases h4 : k = 3
      · subst h4
        have hcell : H[a]? = some (vp_cell (G.2.1 3) (n, .inr (.inl (mm_L M a)))) := hcell
        exact W.alen (n := Int32.ofNat n) C.1.1 C.1.2.1 hcell (hA n (fun j => .long (mm_L M a j))) (by rw [vp_cell_l, arrV_size] <;> rfl) rfl rfl hd kk'
      · simp only [h3, h4, if_false] at hcell
        exact W.alen (n := Int32.ofNat n) C.1.1 C.1.2.1 hcell (hA n (fun j => va_rf (mm_R M a j))) (by rw [vp_cell_q, arrV_size] <;> rfl) rfl rfl hd kk'
  · obtain ⟨cell, h1, h2, -, -, h5, -⟩ := mm_tbl hok hs hk
    exact W.alen (n := Int32.ofNat n) C.1.1 C.1.2.1 h1 h2 h5 rfl rfl hd kk'
theorem wa_iald {a k n : Nat} {i : Int32} (hd : decode J.2.1 pc = .ok (.iaload, 1)) (hs : mm_sh M a = some (.inr (k, n))) (hk : k = 0 ∨ k = 10) (hin : vp_in i n) (kk : wa_ fl G J d mc ms Q kc ks M (pc + 1) lv (.int (mm_I M a i.toNatClampNeg) :: st)) : wa_ fl G J d mc ms Q kc ks M pc lv (.int i :: .ref a :: st) := by
  intro p l e R s m args below meth c H locs cells slots ls C hok hS hc hs' hl
  have kk' := kk p l e R s m args below meth c H locs cells slots ls C hok hS hc hs' hl
  have hlt : i.toNatClampNeg < n := Nat.not_le.mp fun q => hin (Or.inr q)
  rcases hk with rfl | rfl
  · obtain ⟨-, hcell⟩ := mm_arr hok hs (by decide)
    have hcell : H[a]? = some (vp_cell (G.2.1 0) (n, .inl (mm_I M a))) := hcell
    exact W.iald (v := .int (mm_I M a i.toNatClampNeg)) C.1.1 C.1.2.1 hcell ((mm_aK C.2.2.2.2.1 (k := 0) (by decide)).1 n (fun j => .int (mm_I M a j))) (fun q => by cases q) (by show ¬ (i < 0 ∨ (arrV _ _ _).slots.size ≤ _); rw [arrV_size]; exact hin) (by show (arrV _ _ _).slots[_]? = _; rw [arrV_read _ _ hlt]) rfl rfl hd kk'
  · obtain ⟨cell, h1, h2, h3, h4, h5, h6⟩ := mm_tbl hok hs (by decide)
    have hin' : ¬ (i < 0 ∨ cell.slots.size ≤ i.toNatClampNeg) := by
      intro q
      rcases q with q | q
      · exact hin (Or.inl q)
      · omega
    exact W.iald (v := .int (mm_I M a i.toNatClampNeg)) C.1.1 C.1.2.1 h1 h2 h3 hin' (h6 _ hlt) rfl rfl hd kk'
theorem wa_bald {a k n : Nat} {i : Int32} (hd : decode J.2.1 pc = .ok (.baload, 1)) (hs : mm_sh M a = some (.inr (k, n))) (hk : k = 1 ∨ k = 2) (hin : vp_in i n) (kk : wa_ fl G J d mc ms Q kc ks M (pc + 1) lv (.int (mm_I M a i.toNatClampNeg) :: st)) : wa_ fl G J d mc ms Q kc ks M pc lv (.int i :: .ref a :: st) := by
  intro p l e R s m args below meth c H locs cells slots ls C hok hS hc hs' hl
  have kk' := kk p l e R s m args below meth c H locs cells slots ls C hok hS hc hs' hl
  have hlt : i.toNatClampNeg < n := Nat.not_le.mp fun q => hin (Or.inr q)
  rcases hk with rfl | rfl
  · obtain ⟨-, hcell⟩ := mm_arr hok hs (by decide)
    have hcell : H[a]? = some (vp_cell (G.2.1 1) (n, .inl (mm_I M a))) := hcell
    exact W.bald (v := .int (mm_I M a i.toNatClampNeg)) C.1.1 C.1.2.1 hcell ((mm_aK C.2.2.2.2.1 (k := 1) (by decide)).1 n (fun j => .int (mm_I M a j))) (fun q => by cases q) (by show ¬ (i < 0 ∨ (arrV _ _ _).slots.size ≤ _); rw [arrV_size]; exact hin) (by show (arrV _ _ _).slots[_]? = _; rw [arrV_read _ _ hlt]) rfl rfl hd kk'
  · obtain ⟨-, hcell⟩ := mm_arr hok hs (by decide)
    have hcell : H[a]? = some (vp_cell (G.2.1 2) (n, .inl (mm_I M a))) := hcell
    exact W.zald (v := .int (mm_I M a i.toNatClampNeg)) C.1.1 C.1.2.1 hcell ((mm_aK C.2.2.2.2.1 (k := 2) (by decide)).1 n (fun j => .int (mm_I M a j))) (fun q => by cases q) (by show ¬ (i < 0 ∨ (arrV _ _ _).slots.size ≤ _); rw [arrV_size]; exact hin) (by show (arrV _ _ _).slots[_]? = _; rw [arrV_read _ _ hlt]) rfl rfl hd kk'
theorem wa_lald {a n : Nat} {i : Int32} (hd : decode J.2.1 pc = .ok (.laload, 1)) (hs : mm_sh M a = some (.inr (3, n))) (hin : vp_in i n) (kk : wa_ fl G J d mc ms Q kc ks M (pc + 1) lv (.long (mm_L M a i.toNatClampNeg) :: st)) : wa_ fl G J d mc ms Q kc ks M pc lv (.int i :: .ref a :: st) := by
  intro p l e R s m args below meth c H locs cells slots ls C hok hS hc hs' hl
  have kk' := kk p l e R s m args below meth c H locs cells slots ls C hok hS hc hs' hl
  have hlt : i.toNatClampNeg < n := Nat.not_le.mp fun q => hin (Or.inr q)
  obtain ⟨-, hcell⟩ := mm_arr hok hs (by decide)
  have hcell : H[a]? = some (vp_cell (G.2.1 3) (n, .inr (.inl (mm_L M a)))) := hcell
  exact W.lald (v := .long (mm_L M a i.toNatClampNeg)) C.1.1 C.1.2.1 hcell ((mm_aK C.2.2.2.2.1 (k := 3) (by decide)).1 n (fun j => .long (mm_L M a j))) (fun q => by cases q) (by show ¬ (i < 0 ∨ (arrV _ _ _).slots.size ≤ _); rw [arrV_size]; exact hin) (by show (arrV _ _ _).slots[_]? = _; rw [arrV_read _ _ hlt]) rfl rfl hd kk'
theorem mm_ar_r {i : Nat → Int32} {l : Nat → Int64} {r : Nat → Option Nat} {k n : Nat} (h : 3 < k) : mm_ar i l r k n = (n, .inr (.inr (.inr (.inr r)))) := by
  unfold mm_ar
  rw [if_neg (by omega), if_neg (by omega)]
theorem mm_el_r {k : Nat} (h : 3 < k) : ∃ C : String, mm_el k = .object C := by
  match k, h with
  | 4, _ => exact ⟨_, rfl⟩
  | 5, _ => exact ⟨_, rfl⟩
  | 6, _ => exact ⟨_, rfl⟩
  | 7, _ => exact ⟨_, rfl⟩
  | 8, _ => exact ⟨_, rfl⟩
  | n + 9, _ => exact ⟨_, rfl⟩
theorem wa_aald {a k n : Nat} {i : Int32} {v : Value} (hd : decode J.2.1 pc = .ok (.aaload, 1)) (hs : mm_sh M a = some (.inr (k, n))) (hk3 : 3 < k) (hk : k < 10) (hin : vp_in i n) (hv : va_rf (mm_R M a i.toNatClampNeg) = v) (kk : wa_ fl G J d mc ms Q kc ks M (pc + 1) lv (v :: st)) : wa_ fl G J d mc ms Q kc ks M pc lv (.int i :: .ref a :: st) := by
  intro p l e R s m args below meth c H locs cells slots ls C hok hS hc hs' hl
  have kk' := kk p l e R s m args below meth c H locs cells slots ls C hok hS hc hs' hl
  subst hv
  have hlt : i.toNatClampNeg < n := Nat.not_le.mp fun q => hin (Or.inr q)
  obtain ⟨-, hcell⟩ := mm_arr hok hs hk
  rw [mm_ar_r hk3] at hcell
  obtain ⟨CC, hCC⟩ := mm_el_r hk3
  have hA := (mm_aK C.2.2.2.2.1 hk).1
  rw [hCC] at hA
  exact W.aald (v := va_rf (mm_R M a i.toNatClampNeg)) (ty := .object CC) C.1.1 C.1.2.1 hcell (hA n (fun j => va_rf (mm_R M a j))) rfl (fun q => by cases q) (by show ¬ (i < 0 ∨ (arrV _ _ _).slots.size ≤ _); rw [arrV_size]; exact hin) (by show (arrV _ _ _).slots[_]? = _; rw [arrV_read _ _ hlt]) rfl rfl hd kk'
theorem wa_iast {a n : Nat} {i x : Int32} (hd : decode J.2.1 pc = .ok (.iastore, 1)) (hs : mm_sh M a = some (.inr (0, n))) (hin : vp_in i n) (kk : wa_ fl G J d mc ms Q kc ks (mm_sI M a i.toNatClampNeg x) (pc + 1) lv st) : wa_ fl G J d mc ms Q kc ks M pc lv (.int x :: .int i :: .ref a :: st) := by
  intro p l e R s m args below meth c H locs cells slots ls C hok hS hc hs' hl
  obtain ⟨hge, hcell⟩ := mm_arr hok hs (by decide)
  refine W.iast C.1.1 C.1.2.1 hcell ((mm_aK C.2.2.2.2.1 (k := 0) (by decide)).1 n (fun j => .int (mm_I M a j))) (fun q => by cases q) (by show ¬ (i < 0 ∨ (arrV _ _ _).slots.size ≤ _); rw [arrV_size]; exact hin) rfl rfl hd fun H1 e1 z oq => ?_
  refine kk p l e R s m args below meth c H1 _ cells slots ls C (mm_ok_put hok hs rfl rfl (fun b hb => mm_ne_sI b hb) z oq ⟨hge, ?_⟩) (mm_S_put hS z oq hge) hc hs' hl
  rw [e1]
  show some ((vp_cell _ (n, .inl (mm_I M a))).setSlot _ _) = some (vp_cell _ (n, .inl (mm_I (mm_sI M a i.toNatClampNeg x) a)))
  rw [vp_cell_i, vp_cell_i, arrV_store]
  congr 2
  funext j
  by_cases hq : j = i.toNatClampNeg
  · subst hq
    simp [updV, mm_I, mm_sI, mm_u]
  · simp [updV, mm_I, mm_sI, mm_u, hq]
theorem wa_bast {a n : Nat} {i x : Int32} (hd : decode J.2.1 pc = .ok (.bastore, 1)) (hs : mm_sh M a = some (.inr (1, n))) (hin : vp_in i n) (kk : wa_ fl G J d mc ms Q kc ks (mm_sI M a i.toNatClampNeg (vp_nar .byte x)) (pc + 1) lv st) : wa_ fl G J d mc ms Q kc ks M pc lv (.int x :: .int i :: .ref a :: st) := by
  intro p l e R s m args below meth c H locs cells slots ls C hok hS hc hs' hl
  obtain ⟨hge, hcell⟩ := mm_arr hok hs (by decide)
  refine W.bast C.1.1 C.1.2.1 hcell ((mm_aK C.2.2.2.2.1 (k := 1) (by decide)).1 n (fun j => .int (mm_I M a j))) (fun q => by cases q) (by show ¬ (i < 0 ∨ (arrV _ _ _).slots.size ≤ _); rw [arrV_size]; exact hin) rfl rfl hd fun H1 e1 z oq => ?_
  refine kk p l e R s m args below meth c H1 _ cells slots ls C (mm_ok_put hok hs rfl rfl (fun b hb => mm_ne_sI b hb) z oq ⟨hge, ?_⟩) (mm_S_put hS z oq hge) hc hs' hl
  rw [e1]
  show some ((vp_cell _ (n, .inl (mm_I M a))).setSlot _ _) = some (vp_cell _ (n, .inl (mm_I (mm_sI M a i.toNatClampNeg (vp_nar .byte x)) a)))
  rw [vp_cell_i, vp_cell_i, arrV_store]
  congr 2
  funext j
  by_cases hq : j = i.toNatClampNeg
  · subst hq
    simp [updV, mm_I, mm_sI, mm_u, vp_nar, narrow]
  · simp [updV, mm_I, mm_sI, mm_u, hq]
theorem wa_zast {a n : Nat} {i x : Int32} (hd : decode J.2.1 pc = .ok (.bastore, 1)) (hs : mm_sh M a = some (.inr (2, n))) (hin : vp_in i n) (hx : narrow .boolean (.int x) = .int x) (kk : wa_ fl G J d mc ms Q kc ks (mm_sI M a i.toNatClampNeg x) (pc + 1) lv st) : wa_ fl G J d mc ms Q kc ks M pc lv (.int x :: .int i :: .ref a :: st) := by
  intro p l e R s m args below meth c H locs cells slots ls C hok hS hc hs' hl
  obtain ⟨hge, hcell⟩ := mm_arr hok hs (by decide)
  refine W.zast C.1.1 C.1.2.1 hcell ((mm_aK C.2.2.2.2.1 (k := 2) (by decide)).1 n (fun j => .int (mm_I M a j))) (fun q => by cases q) (by show ¬ (i < 0 ∨ (arrV _ _ _).slots.size ≤ _); rw [arrV_size]; exact hin) rfl rfl hd fun H1 e1 z oq => ?_
  refine kk p l e R s m args below meth c H1 _ cells slots ls C (mm_ok_put hok hs rfl rfl (fun b hb => mm_ne_sI b hb) z oq ⟨hge, ?_⟩) (mm_S_put hS z oq hge) hc hs' hl
  rw [e1]
  show some ((vp_cell _ (n, .inl (mm_I M a))).setSlot _ _) = some (vp_cell _ (n, .inl (mm_I (mm_sI M a i.toNatClampNeg x) a)))
  rw [vp_cell_i, vp_cell_i, hx, arrV_store]
  congr 2
  funext j
  by_cases hq : j = i.toNatClampNeg
  · subst hq
    simp [updV, mm_I, mm_sI, mm_u]
  · simp [updV, mm_I, mm_sI, mm_u, hq]
theorem wa_last {a n : Nat} {i : Int32} {x : Int64} (hd : decode J.2.1 pc = .ok (.lastore, 1)) (hs : mm_sh M a = some (.inr (3, n))) (hin : vp_in i n) (kk : wa_ fl G J d mc ms Q kc ks (mm_sL M a i.toNatClampNeg x) (pc + 1) lv st) : wa_ fl G J d mc ms Q kc ks M pc lv (.long x :: .int i :: .ref a :: st) := by
  intro p l e R s m args below meth c H locs cells slots ls C hok hS hc hs' hl
  obtain ⟨hge, hcell⟩ := mm_arr hok hs (by decide)
  refine W.last C.1.1 C.1.2.1 hcell ((mm_aK C.2.2.2.2.1 (k := 3) (by decide)).1 n (fun j => .long (mm_L M a j))) (fun q => by cases q) (by show ¬ (i < 0 ∨ (arrV _ _ _).slots.size ≤ _); rw [arrV_size]; exact hin) rfl rfl hd fun H1 e1 z oq => ?_
  refine kk p l e R s m args below meth c H1 _ cells slots ls C (mm_ok_put hok hs rfl rfl (fun b hb => mm_ne_sL b hb) z oq ⟨hge, ?_⟩) (mm_S_put hS z oq hge) hc hs' hl
  rw [e1]
  show some ((vp_cell _ (n, .inr (.inl (mm_L M a)))).setSlot _ _) = some (vp_cell _ (n, .inr (.inl (mm_L (mm_sL M a i.toNatClampNeg x) a))))
  rw [vp_cell_l, vp_cell_l, arrV_store]
  congr 2
  funext j
  by_cases hq : j = i.toNatClampNeg
  · subst hq
    simp [updV, mm_L, mm_sL, mm_u]
  · simp [updV, mm_L, mm_sL, mm_u, hq]
end ROWS2
end
section
section ROWS3
variable {fl : Bool} {G : mm_G} {J : mm_J} {d mc ms kc ks : Nat} {Q : Option Value → mm_M → Prop} {M : mm_M} {pc : Nat} {lv : List (Option Value)} {st : List Value}
def mm_okt : FieldType → Bool
  | .float => false
  | .double => false
  | _ => true
theorem mm_dv {ty : FieldType} (h : mm_okt ty = true) (k : Nat) : defaultValue ty = mm_fv (fun _ => 0) (fun _ => 0) (fun _ => none) k ty := by
  cases ty <;> first | rfl | cases h
theorem mm_okts : ∀ (ci : Nat) (q : vw_C), mm_cl[ci]? = some q → ∀ k, k < q.2.2 → mm_okt (mm_ty ci k) = true := mm_cases (by decide +kernel) (by decide +kernel) (by decide +kernel) (by decide +kernel) (by decide +kernel) (by decide +kernel) (by decide +kernel) (by decide +kernel) (by decide +kernel) (by decide +kernel) (by decide +kernel) (by decide +kernel) (by decide +kernel)
theorem mm_grow {G : mm_G} {s : State} {H : Heap} {locs : List Loc} {n : Nat} (h : mm_sz G ≤ s.heap.size) (hS : va_S (mm_fr G) s.heap H locs) (hn : H.size = n) : mm_sz G ≤ n := by rw [← hn]; exact Nat.le_trans h hS.1
/-- all that is there stays, apart from the new one -/
def mm_ext (M : mm_M) (s : mm_S) : Prop := ∀ (b : Nat) (t : mm_S), mm_sh M b = some t → mm_sh (mm_new M s) b = some t ∧ b ≠ mm_z M ∧ b < mm_z M
theorem wa_new {ci i n : Nat} {q : vw_C} (hd : decode J.2.1 pc = .ok (.new i, 3)) (hq : mm_cl[ci]? = some q) (hn : q.2.2 = n) (hw1 : Cond.classLink J.1.cls i q.1 ∈ gt_ws) (hw2 : Cond.instantiable q.1 q.2.2 ∈ gt_ws) (hw3 : Cond.initialized q.1 ∈ gt_ws) (kk : mm_ext M (.inl ci) → wa_ fl G J d mc ms Q kc ks (mm_new M (.inl ci)) (pc + 3) lv (.ref (mm_z M) :: st)) : wa_ fl G J d mc ms Q (kc + 1) (ks + n) M pc lv st := by
  intro p l e R s m args below meth c H locs cells slots ls C hok hS hc hs hl
  subst hn
  have hKn := C.2.2.2.2.1.1.1 ci q hq
  have hR := C.2.2.2.2.2.2.2
  refine W.newcK C.1.1 C.1.2.1 C.1.2.2.2.1 (C.1.2.2.2.2 _ hw1) (C.1.2.2.2.2 _ hw2) (C.1.2.2.2.2 _ hw3) rfl hd (by omega) (by omega) hKn.2.1 rfl fun H1 kC hkC e1 z1 o1 => ?_
  rw [hok.2]
  refine kk (fun b t hb => ⟨(mm_sh_new hok (.inl ci) hb).1, (mm_sh_new hok (.inl ci) hb).2, mm_ok_lt hok hb⟩) p l e R s m args below meth c H1 locs _ _ ls C (mm_ok_new hok (.inl ci) z1 o1 ⟨mm_grow C.2.2.2.2.2.2.1 hS rfl, q, hq, ?_⟩) (mm_S_new hS (by omega) o1) (by omega) (by omega) hl
  exact (u_born (mm_ty ci) C.1.2.2.2.2 (mm_in ci q hq) hKn hkC e1 (mm_tyok ci q hq)).to (fun k hk => mm_dv (mm_okts ci q hq k hk) k)
theorem mm_ar0 {k n : Nat} (hk : k < 10) (cA : ClassId) : vp_cell cA (mm_ar (fun _ => 0) (fun _ => 0) (fun _ => none) k n) = arrV cA n (fun _ => defaultValue (mm_el k)) := by
  match k, hk with
  | 0, _ => rfl
  | 1, _ => rfl
  | 2, _ => rfl
  | 3, _ => rfl
  | 4, _ => rfl
  | 5, _ => rfl
  | 6, _ => rfl
  | 7, _ => rfl
  | 8, _ => rfl
  | 9, _ => rfl
  | n + 10, h => exact absurd h (by omega)
theorem mm_arn {k n : Nat} (hk : k < 10) (G : mm_G) (U : State) (H : Heap) (a : Nat) (h1 : mm_sz G ≤ a) (h2 : H[a]? = some (arrV (G.2.1 k) n (fun _ => defaultValue (mm_el k)))) : mm_at G U H a (.inr (k, n)) (fun _ => 0) (fun _ => 0) (fun _ => none) := by
  simp only [mm_at, hk, if_true]
  exact ⟨h1, by rw [mm_ar0 hk]; exact h2⟩
theorem wa_newa {k n : Nat} {at_ : ArrayType} {x : Int32} (hd : decode J.2.1 pc = .ok (.newarray at_, 2)) (hk : k < 4) (hty : newarray.typeOf at_ = mm_el k) (hw : Cond.arrayClass (mm_el k) ∈ gt_ws) (hx : ¬ x < 0) (hn : x.toNatClampNeg = n) (hb : n * 8 ≤ 536870912) (kk : mm_ext M (.inr (k, n)) → wa_ fl G J d mc ms Q kc ks (mm_new M (.inr (k, n))) (pc + 2) lv (.ref (mm_z M) :: st)) : wa_ fl G J d mc ms Q (kc + 1) (ks + n) M pc lv (.int x :: st) := by
  intro p l e R s m args below meth c H locs cells slots ls C hok hS hc hs hl
  have hR := C.2.2.2.2.2.2.2
  have hk10 : k < 10 := by omega
  have hcb : n * componentBytes (newarray.typeOf at_) ≤ 536870912 := by
    refine Nat.le_trans (Nat.mul_le_mul_left n ?_) hb
    rw [hty]
    match k, hk with
    | 0, _ => decide
    | 1, _ => decide
    | 2, _ => decide
    | 3, _ => decide
  refine va_newaK C.1.1 C.1.2.1 (by rw [hty]; exact C.1.2.2.2.2 _ hw) rfl hd rfl hx hn hcb (by omega) (by omega) rfl fun H1 cA e1 z1 o1 hAr hNm => ?_
  rw [hty] at e1 hNm
  have hRA := (mm_aK C.2.2.2.2.1 hk10).2
  have hcA : cA = G.2.1 k := by
    match k, hk, hNm, hRA with
    | 0, _, h1, h2 => exact Option.some.inj (h1.symm.trans h2)
    | 1, _, h1, h2 => exact Option.some.inj (h1.symm.trans h2)
    | 2, _, h1, h2 => exact Option.some.inj (h1.symm.trans h2)
    | 3, _, h1, h2 => exact Option.some.inj (h1.symm.trans h2)
  subst hcA
  rw [hok.2]
  exact kk (fun b t hb => ⟨(mm_sh_new hok (.inr (k, n)) hb).1, (mm_sh_new hok (.inr (k, n)) hb).2, mm_ok_lt hok hb⟩) p l e R s m args below meth c H1 locs _ _ ls C (mm_ok_new hok (.inr (k, n)) z1 o1 (mm_arn hk10 G s H1 _ (mm_grow C.2.2.2.2.2.2.1 hS rfl) e1)) (mm_S_new hS (by omega) o1) (by omega) (by omega) hl
theorem wa_anew {k n i : Nat} {CC : String} {x : Int32} (hd : decode J.2.1 pc = .ok (.anewarray i, 3)) (hk : k < 10) (hty : mm_el k = .object CC) (hw : Cond.classLink J.1.cls i CC ∈ gt_ws) (ho : Cond.arrayOver (.object CC) ∈ mm_nw) (hx : ¬ x < 0) (hn : x.toNatClampNeg = n) (hb : n * 4 ≤ 536870912) (kk : mm_ext M (.inr (k, n)) → wa_ fl G J d mc ms Q kc ks (mm_new M (.inr (k, n))) (pc + 3) lv (.ref (mm_z M) :: st)) : wa_ fl G J d mc ms Q (kc + 1) (ks + n) M pc lv (.int x :: st) := by
  intro p l e R s m args below meth c H locs cells slots ls C hok hS hc hs hl
  have hR := C.2.2.2.2.2.2.2
  subst hn
  refine W.anew C.1.1 C.1.2.1 C.1.2.2.2.1 (C.1.2.2.2.2 _ hw) (va_AO.use (C.2.2.2.2.1.2.1 _ ho)) rfl hd rfl hx hb (by omega) (by omega) fun cA kA comp f1 f2 f3 f4 => ?_
  have hRA := (mm_aK C.2.2.2.2.1 hk).2
  rw [hty] at hRA
  obtain ⟨-, -, -, -, -, hNm⟩ := hRA
  have hcA : cA = G.2.1 k := Option.some.inj (f1.symm.trans hNm)
  subst hcA
  generalize hH1 : H.push ({ cls := G.2.1 k, slots := Array.replicate x.toNatClampNeg .null, vm := .none } : Cell) = H1
  have z1 : H1.size = H.size + 1 := by rw [← hH1, Array.size_push]
  have e1 : H1[H.size]? = some (arrV (G.2.1 k) x.toNatClampNeg (fun _ => .null)) := by rw [← hH1, Array.getElem?_push_size, ← arrV_new]
  have o1 : ∀ q : Nat, q < H.size → H1[q]? = H[q]? := fun q hq => by rw [← hH1, Array.getElem?_push, if_neg (Nat.ne_of_lt hq)]
  rw [hok.2]
  exact kk (fun b t hb => ⟨(mm_sh_new hok (.inr (k, x.toNatClampNeg)) hb).1, (mm_sh_new hok (.inr (k, x.toNatClampNeg)) hb).2, mm_ok_lt hok hb⟩) p l e R s m args below meth c H1 locs _ _ ls C (mm_ok_new hok (.inr (k, x.toNatClampNeg)) z1 o1 (mm_arn hk G s H1 _ (mm_grow C.2.2.2.2.2.2.1 hS rfl) (by rw [hty]; exact e1))) (mm_S_new hS (by omega) o1) (by omega) (by omega) hl
/-! stores of references -/
theorem wa_aast {a k n ci v : Nat} {q : vw_C} {i : Int32} (hd : decode J.2.1 pc = .ok (.aastore, 1)) (hs : mm_sh M a = some (.inr (k, n))) (hk3 : 3 < k) (hk : k < 10) (hv : mm_sh M v = some (.inl ci)) (hq : mm_cl[ci]? = some q) (hty : mm_el k = .object q.1) (hin : vp_in i n) (kk : wa_ fl G J d mc ms Q kc ks (mm_sR M a i.toNatClampNeg (some v)) (pc + 1) lv st) : wa_ fl G J d mc ms Q kc ks M pc lv (.ref v :: .int i :: .ref a :: st) := by
  intro p l e R s m args below meth c H locs cells slots ls C hok hS hc hs' hl
  have hlt : i.toNatClampNeg < n := Nat.not_le.mp fun q => hin (Or.inr q)
  have h0 : ¬ i < 0 := fun q => hin (Or.inl q)
  obtain ⟨hge, hcell⟩ := mm_arr hok hs hk
  rw [mm_ar_r hk3] at hcell
  obtain ⟨-, cellV, g1, g2, g3, -⟩ := mm_obj hok hv hq
  have hcls := (C.2.2.2.2.1.1.1 ci q hq).2
  have hRA := (mm_aK C.2.2.2.2.1 hk).2
  rw [hty] at hRA
  obtain ⟨kA, comp, k1, k2, k3, -⟩ := hRA
  have hcomp : comp = G.1.1 ci := Option.some.inj (k3.symm.trans hcls.1)
  subst hcomp
  obtain ⟨kC, hkC, -⟩ := hcls.2
  refine W.aast C.1.1 C.1.2.1 hcell (fun q h => by cases h) (fun h => by cases h) k1 k2 rfl hkC ⟨h0, by show _ < (arrV _ _ _).slots.size; rw [arrV_size]; exact hlt⟩ g1 (fun q h => by rw [g3] at h; cases h) (by rw [g2]; exact hkC) (by rw [g2]; exact va_assign hcls) rfl rfl hd fun H1 e1 z oq => ?_
  refine kk p l e R s m args below meth c H1 _ cells slots ls C (mm_ok_put hok hs rfl rfl (fun b hb => mm_ne_sR b hb) z oq ?_) (mm_S_put hS z oq hge) hc hs' hl
  simp only [mm_at, hk, if_true]
  refine ⟨hge, ?_⟩
  rw [e1, mm_ar_r hk3, vp_cell_q, vp_cell_q, arrV_store]
  congr 2
  funext j
  by_cases hq : j = i.toNatClampNeg
  · subst hq
    simp [updV, mm_R, mm_sR, mm_u, va_rf]
  · simp [updV, mm_R, mm_sR, mm_u, hq]
/-! statics -/
theorem wa_gets {k i : Nat} {C n dd : String} {v : Value} (hd : decode J.2.1 pc = .ok (.getstatic i, 3)) (hz : mm_Zn[k]? = some (C, n, dd)) (hw : Cond.fieldLink J.1.cls i C n dd ∈ gt_ws) (hv : G.2.2.2.1 k = v) (kk : wa_ fl G J d mc ms Q kc ks M (pc + 3) lv (v :: st)) : wa_ fl G J d mc ms Q kc ks M pc lv st := by
  intro p l e R s m args below meth c H locs cells slots ls C hok hS hc hs' hl
  subst hv
  exact va_gets C.1.1 C.1.2.1 (C.2.2.2.2.2.1.1 k _ hz) hS C.1.2.2.2.1 (C.1.2.2.2.2 _ hw) (fun _ h => h) hd (kk p l e R s m args below meth c H locs cells slots ls C hok hS hc hs' hl)
theorem wa_getsN {k i : Nat} {C n dd host : String} {v : Value} (hd : decode J.2.1 pc = .ok (.getstatic i, 3)) (hz : mm_Zn[k]? = some (C, n, dd)) (hw : Cond.fieldLinkNest J.1.cls i C n dd host ∈ mm_nw) (hv : G.2.2.2.1 k = v) (kk : wa_ fl G J d mc ms Q kc ks M (pc + 3) lv (v :: st)) : wa_ fl G J d mc ms Q kc ks M pc lv st := by
  intro p l e R s m args below meth c H locs cells slots ls C hok hS hc hs' hl
  subst hv
  exact va_getsN C.1.1 C.1.2.1 (C.2.2.2.2.2.1.1 k _ hz) hS C.1.2.2.2.1 (va_Nw.use rfl (C.2.2.2.2.1.2.1 _ hw)) (fun _ h => h) hd (kk p l e R s m args below meth c H locs cells slots ls C hok hS hc hs' hl)
/-! calls -/
theorem mm_good {J2 : mm_J} (h : Cond.code J2.1 J2.2.1 J2.2.2.1 J2.2.2.2 ∈ gt_ws) : GoodIn gt_ws (mm_ws J2) := by
  intro w hw
  have hm : w ∈ gt_ws := by
    rcases List.mem_cons.mp hw with rfl | h1
    · exact h
    · exact h1
  exact ⟨hm, good_of_word (gt_good w hm)⟩
def lk_B (own : String) (i : Nat) (J2 : mm_J) (n : Nat) : Prop := Cond.methodLink own i J2.1 ∈ gt_ws ∧ Cond.code J2.1 J2.2.1 J2.2.2.1 J2.2.2.2 ∈ gt_ws ∧ Cond.initialized J2.1.cls ∈ gt_ws ∧ (J2.1.cls ≠ "java/lang/invoke/MethodHandle" ∧ J2.1.cls ≠ "java/lang/invoke/VarHandle" ∧ (parseMethodDescriptor J2.1.desc).map (fun d => d.parameters.length) = some n) ∧ J2.2.2.1 ≤ 61
def lk_V (own : String) (i : Nat) (J2 : mm_J) (n : Nat) : Prop := lk_B own i J2 n ∧ Cond.instanceMethod J2.1 ∈ gt_ws ∧ Cond.selects J2.1.cls J2.1 J2.1 ∈ gt_ws
def lk_S (own : String) (i : Nat) (J2 : mm_J) (n : Nat) : Prop := lk_B own i J2 n ∧ Cond.static J2.1 ∈ gt_ws
def lk_I (own : String) (i : Nat) (J2 : mm_J) (n : Nat) : Prop := lk_B own i J2 n ∧ J2.1.name = "<init>" ∧ Cond.instanceMethod J2.1 ∈ gt_ws
def mm_res (o : Option Value) (st : List Value) : List Value := match o with
  | some v => v :: st
  | none => st
theorem mm_res_eq (o : Option Value) (st : List Value) : o.toList ++ st = mm_res o st := by cases o <;> rfl
theorem mm_blind (G : mm_G) (M : mm_M) (av : List Value) : FrameBlind (va_Pc av (mm_pre G M)) := by
  intro a U g mk h
  obtain ⟨h1, h2, h3, h4, h5⟩ := h
  exact ⟨h1, mm_ok_moved (u := U) (U := U.calling g mk a) (Vm.Alike.refl U.vm) h2, mm_K_same (s := U) (U := U.calling g mk a) rfl h3, mm_Z_moved (u := U) (U := U.calling g mk a) (Vm.Alike.refl U.vm) h4, h5⟩
theorem mm_enter {p : Program} {R : Room} {s : State} {m : MethodId} {args : Array Value} {meth : Method} {c : Code} {H : Heap} {locs : List Loc} (C : wa_C G J d mc ms p R s m args meth c) (hok : mm_ok G M s H) (hS : va_S (mm_fr G) s.heap H locs) (av : List Value) : ∀ U : State, U.heap = H → s.WarmedH U.vm → va_Pc av (mm_pre G M) av.toArray U := by
  intro U hU hW
  refine ⟨rfl, by rw [hU]; exact mm_ok_moved hW.alike hok, mm_K_warm hW C.2.2.2.2.1, ?_, by rw [hU]; exact Nat.le_trans C.2.2.2.2.2.2.1 hS.1⟩
  rw [hU]
  exact mm_Z_moved hW.alike (mm_Z_kept C.2.2.2.2.2.1 hS.2.1)
theorem mm_call {p : Program} {l : Launch} {e : Env} {R : Room} {s : State} {m : MethodId} {args : Array Value} {below : List Frame} {meth : Method} {c : Code} {H : Heap} {locs : List Loc} {cells slots mc2 ms2 : Nat} {Qs : State → Prop} {ls : Array Slot} {st0 rest : List Value} {Q2 : Option Value → mm_M → Prop} {av : Array Value}
    (hr : va_Run p l e R s m args below meth c H locs cells slots mc2 ms2 (F0 m pc ls st0) rest (mm_post G Q2 av) (mm_fr G)) (hS : va_S (mm_fr G) s.heap H locs)
    (kk : ∀ (o : Option Value) (M' : mm_M) (H1 : Heap) (locs1 : List Loc), Q2 o M' → mm_ok G M' s H1 → va_S (mm_fr G) s.heap H1 locs1 → W p l e R s m args below meth c H1 locs1 (cells + mc2) (slots + ms2) Qs (F0 m (pc + 3) ls (mm_res o rest))) : W p l e R s m args below meth c H locs cells slots Qs (F0 m pc ls st0) := by
  intro T hT X
  obtain ⟨v, st₀, t, T', L, h0, X', hL, e1, e2, ⟨⟨o, M', hv, hq, hb⟩, hz, hk⟩, stp⟩ := hr T hT X
  cases hv
  rw [h0] at hz hk
  have hal : t.vm.Alike s.vm := by
    have h1 : s.vm.Alike T'.vm := X'.warmed.alike
    rw [e2] at h1
    exact h1.symm
  obtain ⟨t2, a1, b1⟩ := kk v M' T'.heap (locs ++ L) hq (by rw [e1]; exact mm_ok_moved hal hb)
    ⟨Nat.le_trans hS.1 (by rw [e1]; exact hz), fun q h1 h2 => by rw [e1, hk q (Nat.lt_of_lt_of_le h1 hS.1) h2]; exact hS.2.1 q h1 h2, fun q hq => by
      rcases List.mem_append.mp hq with h | h
      · exact hS.2.2 q h
      · exact hL q h⟩ T' rfl X'
  rw [← mm_res_eq] at a1
  exact ⟨t2, stp t2 a1, b1⟩
theorem mm_cat {m : MethodId} {pc : Nat} {ls : Array Slot} {st rest : List Value} (h : (rest.map fun v => v.category).sum ≤ 8) : 2 * (F0 m pc ls st).monitorRoom + (rest.map fun v => v.category).sum ≤ 8 := lv_room h
theorem wa_callV {J2 : mm_J} {d2 mc2 ms2 i n ci b : Nat} {As rest st0 : List Value} {q : vw_C} {kc' ks' : Nat} (hd : decode J.2.1 pc = .ok (.invokevirtual i, 3)) (hL : lk_V J.1.cls i J2 n) (hn : As.length = n) (hst : st0 = As.reverse ++ .ref b :: rest) (hs : mm_sh M b = some (.inl ci)) (hq : mm_cl[ci]? = some q) (hcls : q.1 = J2.1.cls) (hcat : (rest.map fun v => v.category).sum ≤ 8) (h1 : mc2 + kc' ≤ kc) (h2 : ms2 + ks' ≤ ks)
    (hM : ma_ G J2 d2 mc2 ms2 (.ref b :: As) M (fun o M' => wa_ fl G J (d2 + 1) mc ms Q kc' ks' M' (pc + 3) lv (mm_res o rest))) : wa_ fl G J (d2 + 1) mc ms Q kc ks M pc lv st0 := by
  intro p l e R s m args below meth c H locs cells slots ls C hok hS hc hs' hl
  obtain ⟨⟨w1, w2, w3, w4, w5⟩, w6, w7⟩ := hL
  have hR := C.2.2.2.2.2.2.2
  have hts := C.1.2.2.2.2
  obtain ⟨-, cell, g1, g2, g3, -⟩ := mm_obj hok hs hq
  have hcl := (C.2.2.2.2.1.1.1 ci q hq).2.1
  have hcb : CallB R s args J.1.cls i J2.1 J2.2.1 J2.2.2.1 J2.2.2.2 (mm_ws J2) (mm_rm d2 mc2 ms2) mc2 ms2 n := callB_of (Ts := gt_ws) n hts (mm_good w2) rfl rfl rfl (hts _ w3) (hts _ w1) w4 ⟨by show d2 + 1 ≤ _; omega, by show 8 + (J2.2.2.1 + 11) + 80 * d2 ≤ _; omega⟩
  refine mm_call (va_runV (C := J2.1.cls) (As := As) (rest := rest) (b := b) C.1 (hM l) ⟨hcb, hts _ w6, hts _ w7⟩ ⟨mm_blind G M _, ⟨cell, g1, by rw [g3]; rfl, by rw [g2, ← hcls]; exact hcl⟩, mm_enter C hok hS (.ref b :: As)⟩ rfl hn hl.1 hst (mm_cat hcat) hd ⟨by omega, by omega⟩) hS ?_
  intro o M' H1 locs1 hQ hok1 hS1
  exact hQ p l e R s m args below meth c H1 locs1 _ _ ls C hok1 hS1 (by omega) (by omega) hl
theorem wa_callS {J2 : mm_J} {d2 mc2 ms2 i n : Nat} {As rest st0 : List Value} {kc' ks' : Nat} (hd : decode J.2.1 pc = .ok (.invokestatic i, 3)) (hL : lk_S J.1.cls i J2 n) (hn : As.length = n) (hst : st0 = As.reverse ++ rest) (hcat : (rest.map fun v => v.category).sum ≤ 8) (h1 : mc2 + kc' ≤ kc) (h2 : ms2 + ks' ≤ ks)
    (hM : ma_ G J2 d2 mc2 ms2 As M (fun o M' => wa_ fl G J (d2 + 1) mc ms Q kc' ks' M' (pc + 3) lv (mm_res o rest))) : wa_ fl G J (d2 + 1) mc ms Q kc ks M pc lv st0 := by
  intro p l e R s m args below meth c H locs cells slots ls C hok hS hc hs' hl
  obtain ⟨⟨w1, w2, w3, w4, w5⟩, w6⟩ := hL
  have hR := C.2.2.2.2.2.2.2
  have hts := C.1.2.2.2.2
  have hcb : CallB R s args J.1.cls i J2.1 J2.2.1 J2.2.2.1 J2.2.2.2 (mm_ws J2) (mm_rm d2 mc2 ms2) mc2 ms2 n := callB_of (Ts := gt_ws) n hts (mm_good w2) rfl rfl rfl (hts _ w3) (hts _ w1) w4 ⟨by show d2 + 1 ≤ _; omega, by show 8 + (J2.2.2.1 + 11) + 80 * d2 ≤ _; omega⟩
  refine mm_call (va_runS (As := As) (rest := rest) C.1 (hM l) ⟨hcb, hts _ w6⟩ ⟨mm_blind G M _, mm_enter C hok hS As⟩ rfl hn hl.1 hst (mm_cat hcat) hd ⟨by omega, by omega⟩) hS ?_
  intro o M' H1 locs1 hQ hok1 hS1
  exact hQ p l e R s m args below meth c H1 locs1 _ _ ls C hok1 hS1 (by omega) (by omega) hl
theorem wa_callI {J2 : mm_J} {d2 mc2 ms2 i n b : Nat} {As rest st0 : List Value} {kc' ks' : Nat} (hd : decode J.2.1 pc = .ok (.invokespecial i, 3)) (hL : lk_I J.1.cls i J2 n) (hret : J2.2.2.2 = none) (hn : As.length = n) (hst : st0 = As.reverse ++ .ref b :: rest) (hcat : (rest.map fun v => v.category).sum ≤ 8) (h1 : mc2 + kc' ≤ kc) (h2 : ms2 + ks' ≤ ks)
    (hM : ma_ G J2 d2 mc2 ms2 (.ref b :: As) M (fun o M' => wa_ fl G J (d2 + 1) mc ms Q kc' ks' M' (pc + 3) lv (mm_res o rest))) : wa_ fl G J (d2 + 1) mc ms Q kc ks M pc lv st0 := by
  intro p l e R s m args below meth c H locs cells slots ls C hok hS hc hs' hl
  obtain ⟨⟨w1, w2, w3, w4, w5⟩, w6, w7⟩ := hL
  have hR := C.2.2.2.2.2.2.2
  have hts := C.1.2.2.2.2
  have hcb : CallB R s args J.1.cls i J2.1 J2.2.1 J2.2.2.1 none (mm_ws J2) (mm_rm d2 mc2 ms2) mc2 ms2 n := by
    rw [← hret]
    exact callB_of (Ts := gt_ws) n hts (mm_good w2) rfl rfl rfl (hts _ w3) (hts _ w1) w4 ⟨by show d2 + 1 ≤ _; omega, by show 8 + (J2.2.2.1 + 11) + 80 * d2 ≤ _; omega⟩
  refine mm_call (va_runI (As := As) (rest := rest) (b := b) C.1 (hM l) ⟨hcb, w6, hts _ w7⟩ ⟨mm_blind G M _, mm_enter C hok hS (.ref b :: As)⟩ rfl hn hl.1 hst (mm_cat hcat) hd ⟨by omega, by omega⟩) hS ?_
  intro o M' H1 locs1 hQ hok1 hS1
  exact hQ p l e R s m args below meth c H1 locs1 _ _ ls C hok1 hS1 (by omega) (by omega) hl
/-- the call of Object's own constructor -/
theorem wa_obj {i a : Nat} (hd : decode J.2.1 pc = .ok (.invokespecial i, 3)) (hw : Cond.methodLink J.1.cls i objectInit ∈ gt_ws) (hw2 : Cond.instanceMethod objectInit ∈ gt_ws) (hw3 : Cond.code objectInit ⟨#[0xb1]⟩ 1 none ∈ gt_ws) (hcat : (st.map fun v => v.category).sum ≤ 8) (kk : wa_ fl G J (d + 1) mc ms Q kc ks M (pc + 3) lv st) : wa_ fl G J (d + 1) mc ms Q kc ks M pc lv (.ref a :: st) := by
  intro p l e R s m args below meth c H locs cells slots ls C hok hS hc hs' hl
  have hR := C.2.2.2.2.2.2.2
  have hts := C.1.2.2.2.2
  refine W.objInit C.1.1 C.1.2.1 C.1.2.2.2.1 (hts _ hw) (hts _ hw2) (hts _ hw3) rfl (by rw [C.1.2.2.1]; exact hl.1) rfl hd (by omega) ?_ (kk p l e R s m args below meth c H locs cells slots ls C hok hS hc hs' hl)
  have := mm_cat (m := m) (pc := pc) (ls := ls) (st := .ref a :: st) hcat
  omega
end ROWS3
end
section
abbrev jX0_init : mm_J := (yX0_init, cX0_init, 1, none)
abbrev jX0_fewest : mm_J := (yX0_fewest, cX0_fewest, 3, (Option.some (FieldType.array FieldType.int)))
abbrev jX0_tryWorth : mm_J := (yX0_tryWorth, cX0_tryWorth, 7, none)
abbrev jX1_init : mm_J := (yX1_init, cX1_init, 2, none)
abbrev jX1_fits : mm_J := (yX1_fits, cX1_fits, 4, (some FieldType.boolean))
abbrev jX1_total : mm_J := (yX1_total, cX1_total, 5, (some FieldType.int))
abbrev jX2_init : mm_J := (yX2_init, cX2_init, 6, none)
abbrev jX2_charge : mm_J := (yX2_charge, cX2_charge, 5, none)
abbrev jX2_measure : mm_J := (yX2_measure, cX2_measure, 2, (some FieldType.int))
abbrev jX2_stampsOf : mm_J := (yX2_stampsOf, cX2_stampsOf, 2, (some FieldType.int))
abbrev jX2_allStamps : mm_J := (yX2_allStamps, cX2_allStamps, 3, (some FieldType.int))
abbrev jX3_init : mm_J := (yX3_init, cX3_init, 3, none)
abbrev jX3_send : mm_J := (yX3_send, cX3_send, 2, none)
abbrev jX3_wasSent : mm_J := (yX3_wasSent, cX3_wasSent, 2, (some FieldType.boolean))
abbrev jX3_lose : mm_J := (yX3_lose, cX3_lose, 3, (some FieldType.boolean))
abbrev jX3_askDay : mm_J := (yX3_askDay, cX3_askDay, 4, (some FieldType.int))
abbrev jX3_comeDay : mm_J := (yX3_comeDay, cX3_comeDay, 5, (some FieldType.int))
abbrev jX3_inForce : mm_J := (yX3_inForce, cX3_inForce, 3, (some FieldType.int))
abbrev jX3_onTheWay : mm_J := (yX3_onTheWay, cX3_onTheWay, 5, (some FieldType.int))
abbrev jX3_isOut : mm_J := (yX3_isOut, cX3_isOut, 4, (some FieldType.boolean))
abbrev jX3_isAskOut : mm_J := (yX3_isAskOut, cX3_isAskOut, 4, (some FieldType.boolean))
abbrev jX3_accountsSent : mm_J := (yX3_accountsSent, cX3_accountsSent, 2, (some FieldType.int))
abbrev jX3_accountsCome : mm_J := (yX3_accountsCome, cX3_accountsCome, 2, (some FieldType.int))
abbrev jX3_stampsOf : mm_J := (yX3_stampsOf, cX3_stampsOf, 2, (some FieldType.int))
abbrev jX3_addStamps : mm_J := (yX3_addStamps, cX3_addStamps, 3, none)
abbrev jX3_book : mm_J := (yX3_book, cX3_book, 4, none)
abbrev jX4_init : mm_J := (yX4_init, cX4_init, 2, none)
abbrev jX4_read : mm_J := (yX4_read, cX4_read, 4, (Option.some (FieldType.array (FieldType.object "ConsulDesk$Line"))))
abbrev jX4_readLine : mm_J := (yX4_readLine, cX4_readLine, 3, (Option.some (FieldType.object "ConsulDesk$Line")))
abbrev jX4_readTests : mm_J := (yX4_readTests, cX4_readTests, 4, none)
abbrev jX4_readTest : mm_J := (yX4_readTest, cX4_readTest, 4, (Option.some (FieldType.object "ConsulDesk$Test")))
abbrev jX4_readTerms : mm_J := (yX4_readTerms, cX4_readTerms, 4, none)
abbrev jX4_readTerm : mm_J := (yX4_readTerm, cX4_readTerm, 5, (Option.some (FieldType.object "ConsulDesk$Term")))
abbrev jX4_needName : mm_J := (yX4_needName, cX4_needName, 2, (some FieldType.int))
abbrev jX4_need : mm_J := (yX4_need, cX4_need, 3, (some FieldType.int))
abbrev jX4_skip : mm_J := (yX4_skip, cX4_skip, 2, (some FieldType.boolean))
abbrev jX4_blame : mm_J := (yX4_blame, cX4_blame, 2, none)
abbrev jX4_isName : mm_J := (yX4_isName, cX4_isName, 1, (some FieldType.boolean))
abbrev jX5_init : mm_J := (yX5_init, cX5_init, 1, none)
abbrev jX5_add : mm_J := (yX5_add, cX5_add, 3, none)
abbrev jX5_clear : mm_J := (yX5_clear, cX5_clear, 1, none)
abbrev jX5_at : mm_J := (yX5_at, cX5_at, 2, (some FieldType.int))
abbrev jX6_init : mm_J := (yX6_init, cX6_init, 3, none)
abbrev jX6_feeOf : mm_J := (yX6_feeOf, cX6_feeOf, 4, (some FieldType.int))
abbrev jX7_init : mm_J := (yX7_init, cX7_init, 4, none)
abbrev jX7_amount : mm_J := (yX7_amount, cX7_amount, 3, (some FieldType.int))
abbrev jX8_init : mm_J := (yX8_init, cX8_init, 4, none)
abbrev jX8_holds : mm_J := (yX8_holds, cX8_holds, 3, (some FieldType.boolean))
abbrev jX9_init : mm_J := (yX9_init, cX9_init, 1, none)
abbrev jX9_cut : mm_J := (yX9_cut, cX9_cut, 4, none)
abbrev jX9_cutOne : mm_J := (yX9_cutOne, cX9_cutOne, 5, (some FieldType.int))
abbrev jX9_cutWord : mm_J := (yX9_cutWord, cX9_cutWord, 5, (some FieldType.int))
abbrev jX9_cutNumber : mm_J := (yX9_cutNumber, cX9_cutNumber, 6, (some FieldType.int))
abbrev jX9_put : mm_J := (yX9_put, cX9_put, 4, none)
abbrev jX9_isLetter : mm_J := (yX9_isLetter, cX9_isLetter, 1, (some FieldType.boolean))
abbrev jX9_isDigit : mm_J := (yX9_isDigit, cX9_isDigit, 1, (some FieldType.boolean))
abbrev jX9_wordKind : mm_J := (yX9_wordKind, cX9_wordKind, 3, (some FieldType.int))
abbrev jX9_isWord : mm_J := (yX9_isWord, cX9_isWord, 5, (some FieldType.boolean))
abbrev jX10_init : mm_J := (yX10_init, cX10_init, 1, none)
abbrev jX10_port : mm_J := (yX10_port, cX10_port, 4, (some FieldType.int))
abbrev jX10_feed : mm_J := (yX10_feed, cX10_feed, 6, (some FieldType.int))
abbrev jX10_tariff : mm_J := (yX10_tariff, cX10_tariff, 3, (some FieldType.int))
abbrev jX10_fault : mm_J := (yX10_fault, cX10_fault, 1, (some FieldType.int))
abbrev jX10_where : mm_J := (yX10_where, cX10_where, 1, (some FieldType.int))
abbrev jX10_lost : mm_J := (yX10_lost, cX10_lost, 4, (some FieldType.boolean))
abbrev jX10_pass : mm_J := (yX10_pass, cX10_pass, 2, (some FieldType.int))
abbrev jX10_force : mm_J := (yX10_force, cX10_force, 3, (some FieldType.int))
abbrev jX10_came : mm_J := (yX10_came, cX10_came, 4, (some FieldType.int))
abbrev jX10_asked : mm_J := (yX10_asked, cX10_asked, 4, (some FieldType.int))
abbrev jX10_under : mm_J := (yX10_under, cX10_under, 5, (some FieldType.int))
abbrev jX10_stock : mm_J := (yX10_stock, cX10_stock, 5, (some FieldType.int))
abbrev jX10_fee : mm_J := (yX10_fee, cX10_fee, 8, (some FieldType.int))
abbrev jX10_seal : mm_J := (yX10_seal, cX10_seal, 11, (some FieldType.int))
abbrev jX10_paper : mm_J := (yX10_paper, cX10_paper, 4, (some FieldType.int))
abbrev jX10_stamps : mm_J := (yX10_stamps, cX10_stamps, 4, (some FieldType.int))
abbrev jX10_about : mm_J := (yX10_about, cX10_about, 4, (some FieldType.int))
abbrev jX10_known : mm_J := (yX10_known, cX10_known, 5, (some FieldType.int))
abbrev jX10_sum : mm_J := (yX10_sum, cX10_sum, 5, (some FieldType.int))
abbrev jX10_homes : mm_J := (yX10_homes, cX10_homes, 2, (some FieldType.int))
abbrev jX10_difference : mm_J := (yX10_difference, cX10_difference, 5, (some FieldType.int))
abbrev jX10_unlike : mm_J := (yX10_unlike, cX10_unlike, 4, (some FieldType.int))
abbrev jX10_count : mm_J := (yX10_count, cX10_count, 2, (some FieldType.int))
abbrev jX10_trouble : mm_J := (yX10_trouble, cX10_trouble, 1, (some FieldType.int))
abbrev jX10_refuse : mm_J := (yX10_refuse, cX10_refuse, 2, (some FieldType.int))
abbrev jX10_accept : mm_J := (yX10_accept, cX10_accept, 2, (some FieldType.int))
abbrev jX10_portAt : mm_J := (yX10_portAt, cX10_portAt, 2, (Option.some (FieldType.object "ConsulDesk$Port")))
abbrev jX10_tariffAt : mm_J := (yX10_tariffAt, cX10_tariffAt, 2, (Option.some (FieldType.object "ConsulDesk$Tariff")))
abbrev jX10_paperAt : mm_J := (yX10_paperAt, cX10_paperAt, 2, (Option.some (FieldType.object "ConsulDesk$Paper")))
abbrev jX10_isWorth : mm_J := (yX10_isWorth, cX10_isWorth, 1, (some FieldType.boolean))
abbrev jX10_isPaper : mm_J := (yX10_isPaper, cX10_isPaper, 3, (some FieldType.boolean))
abbrev jX10_isPast : mm_J := (yX10_isPast, cX10_isPast, 2, (some FieldType.boolean))
abbrev jX10_sendOut : mm_J := (yX10_sendOut, cX10_sendOut, 3, none)
abbrev jX10_knownDay : mm_J := (yX10_knownDay, cX10_knownDay, 4, (some FieldType.int))
abbrev jX10_isKnown : mm_J := (yX10_isKnown, cX10_isKnown, 3, (some FieldType.boolean))
abbrev jX10_isKnownOf : mm_J := (yX10_isKnownOf, cX10_isKnownOf, 5, (some FieldType.boolean))
abbrev jX10_chargedFor : mm_J := (yX10_chargedFor, cX10_chargedFor, 3, (some FieldType.int))
abbrev jX10_homeFee : mm_J := (yX10_homeFee, cX10_homeFee, 6, (some FieldType.int))
abbrev jX10_accountsBelow : mm_J := (yX10_accountsBelow, cX10_accountsBelow, 1, (some FieldType.int))
abbrev jX11_init : mm_J := (yX11_init, cX11_init, 1, none)
abbrev jX12_init : mm_J := (yX12_init, cX12_init, 1, none)
abbrev jX12_refused : mm_J := (yX12_refused, cX12_refused, 2, (some FieldType.int))
abbrev jX12_done : mm_J := (yX12_done, cX12_done, 2, (some FieldType.int))
abbrev jX12_in : mm_J := (yX12_in, cX12_in, 3, (some FieldType.boolean))
abbrev jX12_stop : mm_J := (yX12_stop, cX12_stop, 2, (Option.some (FieldType.object "ConsulDeskModel$Stop")))
abbrev jX12_byteAt : mm_J := (yX12_byteAt, cX12_byteAt, 2, (some FieldType.int))
abbrev jX12_isLetter : mm_J := (yX12_isLetter, cX12_isLetter, 1, (some FieldType.boolean))
abbrev jX12_isDigit : mm_J := (yX12_isDigit, cX12_isDigit, 1, (some FieldType.boolean))
abbrev jX12_wordOf : mm_J := (yX12_wordOf, cX12_wordOf, 4, (some FieldType.long))
abbrev jX12_next : mm_J := (yX12_next, cX12_next, 3, none)
abbrev jX12_isWord : mm_J := (yX12_isWord, cX12_isWord, 2, (some FieldType.boolean))
abbrev jX12_is : mm_J := (yX12_is, cX12_is, 2, (some FieldType.boolean))
abbrev jX12_nameHere : mm_J := (yX12_nameHere, cX12_nameHere, 2, (some FieldType.int))
abbrev jX12_reads : mm_J := (yX12_reads, cX12_reads, 6, none)
abbrev jX12_readTest : mm_J := (yX12_readTest, cX12_readTest, 4, none)
abbrev jX12_readTerm : mm_J := (yX12_readTerm, cX12_readTerm, 4, none)
abbrev jX12_valueOf : mm_J := (yX12_valueOf, cX12_valueOf, 5, (some FieldType.int))
abbrev jX12_feeOf : mm_J := (yX12_feeOf, cX12_feeOf, 11, (some FieldType.int))
abbrev jX12_port : mm_J := (yX12_port, cX12_port, 3, (some FieldType.int))
abbrev jX12_sends : mm_J := (yX12_sends, cX12_sends, 4, none)
abbrev jX12_feed : mm_J := (yX12_feed, cX12_feed, 8, (some FieldType.int))
abbrev jX12_fault : mm_J := (yX12_fault, cX12_fault, 1, (some FieldType.int))
abbrev jX12_where : mm_J := (yX12_where, cX12_where, 1, (some FieldType.int))
abbrev jX12_isPort : mm_J := (yX12_isPort, cX12_isPort, 2, (some FieldType.boolean))
abbrev jX12_isTariff : mm_J := (yX12_isTariff, cX12_isTariff, 2, (some FieldType.boolean))
abbrev jX12_comes : mm_J := (yX12_comes, cX12_comes, 4, (some FieldType.int))
abbrev jX12_hasCome : mm_J := (yX12_hasCome, cX12_hasCome, 4, (some FieldType.boolean))
abbrev jX12_lost : mm_J := (yX12_lost, cX12_lost, 5, (some FieldType.boolean))
abbrev jX12_asks : mm_J := (yX12_asks, cX12_asks, 6, none)
abbrev jX12_pass : mm_J := (yX12_pass, cX12_pass, 4, (some FieldType.int))
abbrev jX12_forceOf : mm_J := (yX12_forceOf, cX12_forceOf, 3, (some FieldType.int))
abbrev jX12_force : mm_J := (yX12_force, cX12_force, 2, (some FieldType.int))
abbrev jX12_came : mm_J := (yX12_came, cX12_came, 3, (some FieldType.int))
abbrev jX12_asked : mm_J := (yX12_asked, cX12_asked, 3, (some FieldType.int))
abbrev jX12_under : mm_J := (yX12_under, cX12_under, 7, (some FieldType.int))
abbrev jX12_stock : mm_J := (yX12_stock, cX12_stock, 5, (some FieldType.int))
abbrev jX12_isPaper : mm_J := (yX12_isPaper, cX12_isPaper, 3, (some FieldType.boolean))
abbrev jX12_fee : mm_J := (yX12_fee, cX12_fee, 7, (some FieldType.int))
abbrev jX12_chooses : mm_J := (yX12_chooses, cX12_chooses, 12, (some FieldType.boolean))
abbrev jX12_seal : mm_J := (yX12_seal, cX12_seal, 9, (some FieldType.int))
abbrev jX12_homeOf : mm_J := (yX12_homeOf, cX12_homeOf, 2, (some FieldType.int))
abbrev jX12_paper : mm_J := (yX12_paper, cX12_paper, 5, (some FieldType.int))
abbrev jX12_stamps : mm_J := (yX12_stamps, cX12_stamps, 3, (some FieldType.int))
abbrev jX12_about : mm_J := (yX12_about, cX12_about, 3, (some FieldType.int))
abbrev jX12_known : mm_J := (yX12_known, cX12_known, 5, (some FieldType.int))
abbrev jX12_sum : mm_J := (yX12_sum, cX12_sum, 5, (some FieldType.int))
abbrev jX12_homesFee : mm_J := (yX12_homesFee, cX12_homesFee, 4, (some FieldType.int))
abbrev jX12_homes : mm_J := (yX12_homes, cX12_homes, 2, (some FieldType.int))
abbrev jX12_difference : mm_J := (yX12_difference, cX12_difference, 4, (some FieldType.int))
abbrev jX12_unlike : mm_J := (yX12_unlike, cX12_unlike, 4, (some FieldType.int))
abbrev jX12_count : mm_J := (yX12_count, cX12_count, 2, (some FieldType.int))
abbrev jX12_trouble : mm_J := (yX12_trouble, cX12_trouble, 1, (some FieldType.int))
abbrev jJ11_isValidCodePoint_9a6ad : mm_J := (yJ11_isValidCodePoint_9a6ad, cJ11_isValidCodePoint_9a6ad, 2, (some FieldType.boolean))
abbrev jJ11_highSurrogate_5068e : mm_J := (yJ11_highSurrogate_5068e, cJ11_highSurrogate_5068e, 1, (some FieldType.char))
abbrev jJ11_lowSurrogate_5068e : mm_J := (yJ11_lowSurrogate_5068e, cJ11_lowSurrogate_5068e, 1, (some FieldType.char))
abbrev jJ9_max_7cf53 : mm_J := (yJ9_max_7cf53, cJ9_max_7cf53, 2, (some FieldType.int))
abbrev jJ9_min_7cf53 : mm_J := (yJ9_min_7cf53, cJ9_min_7cf53, 2, (some FieldType.int))
abbrev jJ9_min_f86c9 : mm_J := (yJ9_min_f86c9, cJ9_min_f86c9, 4, (some FieldType.long))
abbrev jJ0_length_8abf5 : mm_J := (yJ0_length_8abf5, cJ0_length_8abf5, 1, (some FieldType.int))
abbrev jJ0_charAt_5068e : mm_J := (yJ0_charAt_5068e, cJ0_charAt_5068e, 2, (some FieldType.char))
abbrev jJ0_indexOf_0f7a4 : mm_J := (yJ0_indexOf_0f7a4, cJ0_indexOf_0f7a4, 2, (some FieldType.int))
abbrev jJ0_indexOf_7cf53 : mm_J := (yJ0_indexOf_7cf53, cJ0_indexOf_7cf53, 3, (some FieldType.int))
abbrev jJ0_coder_7d493 : mm_J := (yJ0_coder_7d493, cJ0_coder_7d493, 1, (some FieldType.byte))
abbrev jJ0_isLatin1_aae02 : mm_J := (yJ0_isLatin1_aae02, cJ0_isLatin1_aae02, 1, (some FieldType.boolean))
abbrev jJ0_checkIndex_df160 : mm_J := (yJ0_checkIndex_df160, cJ0_checkIndex_df160, 2, none)
abbrev jJ0_checkBoundsBeginEnd_23922 : mm_J := (yJ0_checkBoundsBeginEnd_23922, cJ0_checkBoundsBeginEnd_23922, 3, none)
abbrev jJ1_charAt_3b067 : mm_J := (yJ1_charAt_3b067, cJ1_charAt_3b067, 2, (some FieldType.char))
abbrev jJ1_canEncode_9a6ad : mm_J := (yJ1_canEncode_9a6ad, cJ1_canEncode_9a6ad, 1, (some FieldType.boolean))
abbrev jJ1_indexOf_4cfef : mm_J := (yJ1_indexOf_4cfef, cJ1_indexOf_4cfef, 4, (some FieldType.int))
abbrev jJ1_indexOfChar_4cfef : mm_J := (yJ1_indexOfChar_4cfef, cJ1_indexOfChar_4cfef, 6, (some FieldType.int))
abbrev jJ2_getChar_3b067 : mm_J := (yJ2_getChar_3b067, cJ2_getChar_3b067, 2, (some FieldType.char))
abbrev jJ2_length_9d52b : mm_J := (yJ2_length_9d52b, cJ2_length_9d52b, 1, (some FieldType.int))
abbrev jJ2_indexOf_4cfef : mm_J := (yJ2_indexOf_4cfef, cJ2_indexOf_4cfef, 4, (some FieldType.int))
abbrev jJ2_indexOfChar_4cfef : mm_J := (yJ2_indexOfChar_4cfef, cJ2_indexOfChar_4cfef, 4, (some FieldType.int))
abbrev jJ2_indexOfCharUnsafe_4cfef : mm_J := (yJ2_indexOfCharUnsafe_4cfef, cJ2_indexOfCharUnsafe_4cfef, 5, (some FieldType.int))
abbrev jJ2_indexOfSupplementary_4cfef : mm_J := (yJ2_indexOfSupplementary_4cfef, cJ2_indexOfSupplementary_4cfef, 7, (some FieldType.int))
abbrev jJ2_charAt_3b067 : mm_J := (yJ2_charAt_3b067, cJ2_charAt_3b067, 2, (some FieldType.char))
abbrev jJ2_checkIndex_2214a : mm_J := (yJ2_checkIndex_2214a, cJ2_checkIndex_2214a, 2, none)
abbrev jJ2_checkBoundsBeginEnd_d044e : mm_J := (yJ2_checkBoundsBeginEnd_d044e, cJ2_checkBoundsBeginEnd_d044e, 3, none)
abbrev jJ3_checkIndex_8e157 : mm_J := (yJ3_checkIndex_8e157, cJ3_checkIndex_8e157, 3, (some FieldType.int))
abbrev jJ3_checkFromToIndex_8c36e : mm_J := (yJ3_checkFromToIndex_8c36e, cJ3_checkFromToIndex_8c36e, 4, (some FieldType.int))
theorem wi_obj : Cond.instanceMethod objectInit ∈ gt_ws := gt_of 29 (by decide +kernel) (by decide +kernel)
theorem wk_obj : Cond.code objectInit ⟨#[0xb1]⟩ 1 none ∈ gt_ws := gt_of 30 (by decide +kernel) (by decide +kernel)
theorem wn_X5 : Cond.initialized RX5 ∈ gt_ws := gt_of 2 (by decide +kernel) (by decide +kernel)
theorem wt_X5 : Cond.instantiable RX5 2 ∈ gt_ws := gt_of 38 (by decide +kernel) (by decide +kernel)
theorem wn_J0 : Cond.initialized RJ0 ∈ gt_ws := gt_of 12 (by decide +kernel) (by decide +kernel)
theorem wn_J2 : Cond.initialized RJ2 ∈ gt_ws := gt_of 15 (by decide +kernel) (by decide +kernel)
theorem wn_J1 : Cond.initialized RJ1 ∈ gt_ws := gt_of 13 (by decide +kernel) (by decide +kernel)
theorem wn_X12 : Cond.initialized RX12 ∈ gt_ws := gt_of 6 (by decide +kernel) (by decide +kernel)
theorem wt_X12 : Cond.instantiable RX12 50 ∈ gt_ws := gt_of 786 (by decide +kernel) (by decide +kernel)
theorem wn_X4 : Cond.initialized RX4 ∈ gt_ws := gt_of 4 (by decide +kernel) (by decide +kernel)
theorem wt_X4 : Cond.instantiable RX4 6 ∈ gt_ws := gt_of 75 (by decide +kernel) (by decide +kernel)
theorem wn_X11 : Cond.initialized RX11 ∈ gt_ws := gt_of 10 (by decide +kernel) (by decide +kernel)
theorem wt_X11 : Cond.instantiable RX11 8 ∈ gt_ws := gt_of 792 (by decide +kernel) (by decide +kernel)
theorem wn_X9 : Cond.initialized RX9 ∈ gt_ws := gt_of 3 (by decide +kernel) (by decide +kernel)
theorem wt_X9 : Cond.instantiable RX9 4 ∈ gt_ws := gt_of 53 (by decide +kernel) (by decide +kernel)
theorem wn_J9 : Cond.initialized RJ9 ∈ gt_ws := gt_of 16 (by decide +kernel) (by decide +kernel)
theorem wn_X8 : Cond.initialized RX8 ∈ gt_ws := gt_of 19 (by decide +kernel) (by decide +kernel)
theorem wt_X8 : Cond.instantiable RX8 3 ∈ gt_ws := gt_of 436 (by decide +kernel) (by decide +kernel)
theorem wn_X10 : Cond.initialized RX10 ∈ gt_ws := gt_of 1 (by decide +kernel) (by decide +kernel)
theorem wt_X10 : Cond.instantiable RX10 13 ∈ gt_ws := gt_of 24 (by decide +kernel) (by decide +kernel)
theorem wn_L : Cond.initialized RL ∈ gt_ws := gt_of 0 (by decide +kernel) (by decide +kernel)
theorem wn_X3 : Cond.initialized RX3 ∈ gt_ws := gt_of 11 (by decide +kernel) (by decide +kernel)
theorem wt_X3 : Cond.instantiable RX3 8 ∈ gt_ws := gt_of 167 (by decide +kernel) (by decide +kernel)
theorem wn_X7 : Cond.initialized RX7 ∈ gt_ws := gt_of 20 (by decide +kernel) (by decide +kernel)
theorem wt_X7 : Cond.instantiable RX7 3 ∈ gt_ws := gt_of 460 (by decide +kernel) (by decide +kernel)
theorem wn_J3 : Cond.initialized RJ3 ∈ gt_ws := gt_of 14 (by decide +kernel) (by decide +kernel)
theorem wn_X0 : Cond.initialized RX0 ∈ gt_ws := gt_of 5 (by decide +kernel) (by decide +kernel)
theorem wt_X0 : Cond.instantiable RX0 3 ∈ gt_ws := gt_of 102 (by decide +kernel) (by decide +kernel)
theorem wn_X2 : Cond.initialized RX2 ∈ gt_ws := gt_of 22 (by decide +kernel) (by decide +kernel)
theorem wt_X2 : Cond.instantiable RX2 9 ∈ gt_ws := gt_of 606 (by decide +kernel) (by decide +kernel)
theorem wn_J11 : Cond.initialized RJ11 ∈ gt_ws := gt_of 17 (by decide +kernel) (by decide +kernel)
theorem wn_X1 : Cond.initialized RX1 ∈ gt_ws := gt_of 18 (by decide +kernel) (by decide +kernel)
theorem wt_X1 : Cond.instantiable RX1 3 ∈ gt_ws := gt_of 398 (by decide +kernel) (by decide +kernel)
theorem wn_X6 : Cond.initialized RX6 ∈ gt_ws := gt_of 21 (by decide +kernel) (by decide +kernel)
theorem wt_X6 : Cond.instantiable RX6 2 ∈ gt_ws := gt_of 479 (by decide +kernel) (by decide +kernel)
theorem wr_int : Cond.arrayClass .int ∈ gt_ws := gt_of 51 (by decide +kernel) (by decide +kernel)
theorem wr_boolean : Cond.arrayClass .boolean ∈ gt_ws := gt_of 202 (by decide +kernel) (by decide +kernel)
theorem wr_byte : Cond.arrayClass .byte ∈ gt_ws := gt_of 419 (by decide +kernel) (by decide +kernel)
theorem wr_long : Cond.arrayClass .long ∈ gt_ws := gt_of 1012 (by decide +kernel) (by decide +kernel)
theorem wd_X0_init : Cond.code jX0_init.1 jX0_init.2.1 jX0_init.2.2.1 jX0_init.2.2.2 ∈ gt_ws := gt_of 105 (by decide +kernel) (by decide +kernel)
theorem wm_X0_init : Cond.instanceMethod jX0_init.1 ∈ gt_ws := gt_of 104 (by decide +kernel) (by decide +kernel)
theorem wd_X0_fewest : Cond.code jX0_fewest.1 jX0_fewest.2.1 jX0_fewest.2.2.1 jX0_fewest.2.2.2 ∈ gt_ws := gt_of 680 (by decide +kernel) (by decide +kernel)
theorem wm_X0_fewest : Cond.instanceMethod jX0_fewest.1 ∈ gt_ws := gt_of 678 (by decide +kernel) (by decide +kernel)
theorem we_X0_fewest : Cond.selects jX0_fewest.1.cls jX0_fewest.1 jX0_fewest.1 ∈ gt_ws := gt_of 679 (by decide +kernel) (by decide +kernel)
theorem wd_X0_tryWorth : Cond.code jX0_tryWorth.1 jX0_tryWorth.2.1 jX0_tryWorth.2.2.1 jX0_tryWorth.2.2.2 ∈ gt_ws := gt_of 684 (by decide +kernel) (by decide +kernel)
theorem wm_X0_tryWorth : Cond.instanceMethod jX0_tryWorth.1 ∈ gt_ws := gt_of 683 (by decide +kernel) (by decide +kernel)
theorem we_X0_tryWorth : Cond.selects jX0_tryWorth.1.cls jX0_tryWorth.1 jX0_tryWorth.1 ∈ gt_ws := gt_sel 21 (by decide +kernel) (by decide +kernel)
theorem wd_X1_init : Cond.code jX1_init.1 jX1_init.2.1 jX1_init.2.2.1 jX1_init.2.2.2 ∈ gt_ws := gt_of 401 (by decide +kernel) (by decide +kernel)
theorem wm_X1_init : Cond.instanceMethod jX1_init.1 ∈ gt_ws := gt_of 400 (by decide +kernel) (by decide +kernel)
theorem wd_X1_fits : Cond.code jX1_fits.1 jX1_fits.2.1 jX1_fits.2.2.1 jX1_fits.2.2.2 ∈ gt_ws := gt_of 654 (by decide +kernel) (by decide +kernel)
theorem wm_X1_fits : Cond.instanceMethod jX1_fits.1 ∈ gt_ws := gt_of 652 (by decide +kernel) (by decide +kernel)
theorem we_X1_fits : Cond.selects jX1_fits.1.cls jX1_fits.1 jX1_fits.1 ∈ gt_ws := gt_of 653 (by decide +kernel) (by decide +kernel)
theorem wd_X1_total : Cond.code jX1_total.1 jX1_total.2.1 jX1_total.2.2.1 jX1_total.2.2.2 ∈ gt_ws := gt_of 666 (by decide +kernel) (by decide +kernel)
theorem wm_X1_total : Cond.instanceMethod jX1_total.1 ∈ gt_ws := gt_of 664 (by decide +kernel) (by decide +kernel)
theorem we_X1_total : Cond.selects jX1_total.1.cls jX1_total.1 jX1_total.1 ∈ gt_ws := gt_of 665 (by decide +kernel) (by decide +kernel)
theorem wd_X2_init : Cond.code jX2_init.1 jX2_init.2.1 jX2_init.2.2.1 jX2_init.2.2.2 ∈ gt_ws := gt_of 609 (by decide +kernel) (by decide +kernel)
theorem wm_X2_init : Cond.instanceMethod jX2_init.1 ∈ gt_ws := gt_of 608 (by decide +kernel) (by decide +kernel)
theorem wd_X2_charge : Cond.code jX2_charge.1 jX2_charge.2.1 jX2_charge.2.2.1 jX2_charge.2.2.2 ∈ gt_ws := gt_of 699 (by decide +kernel) (by decide +kernel)
theorem wm_X2_charge : Cond.instanceMethod jX2_charge.1 ∈ gt_ws := gt_of 697 (by decide +kernel) (by decide +kernel)
theorem we_X2_charge : Cond.selects jX2_charge.1.cls jX2_charge.1 jX2_charge.1 ∈ gt_ws := gt_of 698 (by decide +kernel) (by decide +kernel)
theorem wd_X2_measure : Cond.code jX2_measure.1 jX2_measure.2.1 jX2_measure.2.2.1 jX2_measure.2.2.2 ∈ gt_ws := gt_of 662 (by decide +kernel) (by decide +kernel)
theorem wm_X2_measure : Cond.instanceMethod jX2_measure.1 ∈ gt_ws := gt_of 660 (by decide +kernel) (by decide +kernel)
theorem we_X2_measure : Cond.selects jX2_measure.1.cls jX2_measure.1 jX2_measure.1 ∈ gt_ws := gt_of 661 (by decide +kernel) (by decide +kernel)
theorem wd_X2_stampsOf : Cond.code jX2_stampsOf.1 jX2_stampsOf.2.1 jX2_stampsOf.2.2.1 jX2_stampsOf.2.2.2 ∈ gt_ws := gt_of 721 (by decide +kernel) (by decide +kernel)
theorem wm_X2_stampsOf : Cond.instanceMethod jX2_stampsOf.1 ∈ gt_ws := gt_of 719 (by decide +kernel) (by decide +kernel)
theorem we_X2_stampsOf : Cond.selects jX2_stampsOf.1.cls jX2_stampsOf.1 jX2_stampsOf.1 ∈ gt_ws := gt_of 720 (by decide +kernel) (by decide +kernel)
theorem wd_X2_allStamps : Cond.code jX2_allStamps.1 jX2_allStamps.2.1 jX2_allStamps.2.2.1 jX2_allStamps.2.2.2 ∈ gt_ws := gt_of 716 (by decide +kernel) (by decide +kernel)
theorem wm_X2_allStamps : Cond.instanceMethod jX2_allStamps.1 ∈ gt_ws := gt_of 714 (by decide +kernel) (by decide +kernel)
theorem we_X2_allStamps : Cond.selects jX2_allStamps.1.cls jX2_allStamps.1 jX2_allStamps.1 ∈ gt_ws := gt_of 715 (by decide +kernel) (by decide +kernel)
theorem wd_X3_init : Cond.code jX3_init.1 jX3_init.2.1 jX3_init.2.2.1 jX3_init.2.2.2 ∈ gt_ws := gt_of 170 (by decide +kernel) (by decide +kernel)
theorem wm_X3_init : Cond.instanceMethod jX3_init.1 ∈ gt_ws := gt_of 169 (by decide +kernel) (by decide +kernel)
theorem wd_X3_send : Cond.code jX3_send.1 jX3_send.2.1 jX3_send.2.2.1 jX3_send.2.2.2 ∈ gt_ws := gt_of 206 (by decide +kernel) (by decide +kernel)
theorem wm_X3_send : Cond.instanceMethod jX3_send.1 ∈ gt_ws := gt_of 204 (by decide +kernel) (by decide +kernel)
theorem we_X3_send : Cond.selects jX3_send.1.cls jX3_send.1 jX3_send.1 ∈ gt_ws := gt_of 205 (by decide +kernel) (by decide +kernel)
theorem wd_X3_wasSent : Cond.code jX3_wasSent.1 jX3_wasSent.2.1 jX3_wasSent.2.2.1 jX3_wasSent.2.2.2 ∈ gt_ws := gt_of 515 (by decide +kernel) (by decide +kernel)
theorem wm_X3_wasSent : Cond.instanceMethod jX3_wasSent.1 ∈ gt_ws := gt_of 513 (by decide +kernel) (by decide +kernel)
theorem we_X3_wasSent : Cond.selects jX3_wasSent.1.cls jX3_wasSent.1 jX3_wasSent.1 ∈ gt_ws := gt_of 514 (by decide +kernel) (by decide +kernel)
theorem wd_X3_lose : Cond.code jX3_lose.1 jX3_lose.2.1 jX3_lose.2.2.1 jX3_lose.2.2.2 ∈ gt_ws := gt_of 519 (by decide +kernel) (by decide +kernel)
theorem wm_X3_lose : Cond.instanceMethod jX3_lose.1 ∈ gt_ws := gt_of 517 (by decide +kernel) (by decide +kernel)
theorem we_X3_lose : Cond.selects jX3_lose.1.cls jX3_lose.1 jX3_lose.1 ∈ gt_ws := gt_of 518 (by decide +kernel) (by decide +kernel)
theorem wd_X3_askDay : Cond.code jX3_askDay.1 jX3_askDay.2.1 jX3_askDay.2.2.1 jX3_askDay.2.2.2 ∈ gt_ws := gt_of 540 (by decide +kernel) (by decide +kernel)
theorem wm_X3_askDay : Cond.instanceMethod jX3_askDay.1 ∈ gt_ws := gt_of 538 (by decide +kernel) (by decide +kernel)
theorem we_X3_askDay : Cond.selects jX3_askDay.1.cls jX3_askDay.1 jX3_askDay.1 ∈ gt_ws := gt_of 539 (by decide +kernel) (by decide +kernel)
theorem wd_X3_comeDay : Cond.code jX3_comeDay.1 jX3_comeDay.2.1 jX3_comeDay.2.2.1 jX3_comeDay.2.2.2 ∈ gt_ws := gt_of 536 (by decide +kernel) (by decide +kernel)
theorem wm_X3_comeDay : Cond.instanceMethod jX3_comeDay.1 ∈ gt_ws := gt_of 534 (by decide +kernel) (by decide +kernel)
theorem we_X3_comeDay : Cond.selects jX3_comeDay.1.cls jX3_comeDay.1 jX3_comeDay.1 ∈ gt_ws := gt_of 535 (by decide +kernel) (by decide +kernel)
theorem wd_X3_inForce : Cond.code jX3_inForce.1 jX3_inForce.2.1 jX3_inForce.2.2.1 jX3_inForce.2.2.2 ∈ gt_ws := gt_of 532 (by decide +kernel) (by decide +kernel)
theorem wm_X3_inForce : Cond.instanceMethod jX3_inForce.1 ∈ gt_ws := gt_of 530 (by decide +kernel) (by decide +kernel)
theorem we_X3_inForce : Cond.selects jX3_inForce.1.cls jX3_inForce.1 jX3_inForce.1 ∈ gt_ws := gt_of 531 (by decide +kernel) (by decide +kernel)
theorem wd_X3_onTheWay : Cond.code jX3_onTheWay.1 jX3_onTheWay.2.1 jX3_onTheWay.2.2.1 jX3_onTheWay.2.2.2 ∈ gt_ws := gt_of 558 (by decide +kernel) (by decide +kernel)
theorem wm_X3_onTheWay : Cond.instanceMethod jX3_onTheWay.1 ∈ gt_ws := gt_of 556 (by decide +kernel) (by decide +kernel)
theorem we_X3_onTheWay : Cond.selects jX3_onTheWay.1.cls jX3_onTheWay.1 jX3_onTheWay.1 ∈ gt_ws := gt_of 557 (by decide +kernel) (by decide +kernel)
theorem wd_X3_isOut : Cond.code jX3_isOut.1 jX3_isOut.2.1 jX3_isOut.2.2.1 jX3_isOut.2.2.2 ∈ gt_ws := gt_of 574 (by decide +kernel) (by decide +kernel)
theorem wm_X3_isOut : Cond.instanceMethod jX3_isOut.1 ∈ gt_ws := gt_of 573 (by decide +kernel) (by decide +kernel)
theorem we_X3_isOut : Cond.selects jX3_isOut.1.cls jX3_isOut.1 jX3_isOut.1 ∈ gt_ws := gt_sel 18 (by decide +kernel) (by decide +kernel)
theorem wd_X3_isAskOut : Cond.code jX3_isAskOut.1 jX3_isAskOut.2.1 jX3_isAskOut.2.2.1 jX3_isAskOut.2.2.2 ∈ gt_ws := gt_of 578 (by decide +kernel) (by decide +kernel)
theorem wm_X3_isAskOut : Cond.instanceMethod jX3_isAskOut.1 ∈ gt_ws := gt_of 577 (by decide +kernel) (by decide +kernel)
theorem we_X3_isAskOut : Cond.selects jX3_isAskOut.1.cls jX3_isAskOut.1 jX3_isAskOut.1 ∈ gt_ws := gt_sel 19 (by decide +kernel) (by decide +kernel)
theorem wd_X3_accountsSent : Cond.code jX3_accountsSent.1 jX3_accountsSent.2.1 jX3_accountsSent.2.2.1 jX3_accountsSent.2.2.2 ∈ gt_ws := gt_of 562 (by decide +kernel) (by decide +kernel)
theorem wm_X3_accountsSent : Cond.instanceMethod jX3_accountsSent.1 ∈ gt_ws := gt_of 560 (by decide +kernel) (by decide +kernel)
theorem we_X3_accountsSent : Cond.selects jX3_accountsSent.1.cls jX3_accountsSent.1 jX3_accountsSent.1 ∈ gt_ws := gt_of 561 (by decide +kernel) (by decide +kernel)
theorem wd_X3_accountsCome : Cond.code jX3_accountsCome.1 jX3_accountsCome.2.1 jX3_accountsCome.2.2.1 jX3_accountsCome.2.2.2 ∈ gt_ws := gt_of 569 (by decide +kernel) (by decide +kernel)
theorem wm_X3_accountsCome : Cond.instanceMethod jX3_accountsCome.1 ∈ gt_ws := gt_of 568 (by decide +kernel) (by decide +kernel)
theorem we_X3_accountsCome : Cond.selects jX3_accountsCome.1.cls jX3_accountsCome.1 jX3_accountsCome.1 ∈ gt_ws := gt_sel 17 (by decide +kernel) (by decide +kernel)
theorem wd_X3_stampsOf : Cond.code jX3_stampsOf.1 jX3_stampsOf.2.1 jX3_stampsOf.2.2.1 jX3_stampsOf.2.2.2 ∈ gt_ws := gt_of 590 (by decide +kernel) (by decide +kernel)
theorem wm_X3_stampsOf : Cond.instanceMethod jX3_stampsOf.1 ∈ gt_ws := gt_of 588 (by decide +kernel) (by decide +kernel)
theorem we_X3_stampsOf : Cond.selects jX3_stampsOf.1.cls jX3_stampsOf.1 jX3_stampsOf.1 ∈ gt_ws := gt_of 589 (by decide +kernel) (by decide +kernel)
theorem wd_X3_addStamps : Cond.code jX3_addStamps.1 jX3_addStamps.2.1 jX3_addStamps.2.2.1 jX3_addStamps.2.2.2 ∈ gt_ws := gt_of 594 (by decide +kernel) (by decide +kernel)
theorem wm_X3_addStamps : Cond.instanceMethod jX3_addStamps.1 ∈ gt_ws := gt_of 592 (by decide +kernel) (by decide +kernel)
theorem we_X3_addStamps : Cond.selects jX3_addStamps.1.cls jX3_addStamps.1 jX3_addStamps.1 ∈ gt_ws := gt_of 593 (by decide +kernel) (by decide +kernel)
theorem wd_X3_book : Cond.code jX3_book.1 jX3_book.2.1 jX3_book.2.2.1 jX3_book.2.2.2 ∈ gt_ws := gt_of 703 (by decide +kernel) (by decide +kernel)
theorem wm_X3_book : Cond.instanceMethod jX3_book.1 ∈ gt_ws := gt_of 701 (by decide +kernel) (by decide +kernel)
theorem we_X3_book : Cond.selects jX3_book.1.cls jX3_book.1 jX3_book.1 ∈ gt_ws := gt_of 702 (by decide +kernel) (by decide +kernel)
theorem wd_X4_init : Cond.code jX4_init.1 jX4_init.2.1 jX4_init.2.2.1 jX4_init.2.2.2 ∈ gt_ws := gt_of 78 (by decide +kernel) (by decide +kernel)
theorem wm_X4_init : Cond.instanceMethod jX4_init.1 ∈ gt_ws := gt_of 77 (by decide +kernel) (by decide +kernel)
theorem wd_X4_read : Cond.code jX4_read.1 jX4_read.2.1 jX4_read.2.2.1 jX4_read.2.2.2 ∈ gt_ws := gt_of 379 (by decide +kernel) (by decide +kernel)
theorem wm_X4_read : Cond.instanceMethod jX4_read.1 ∈ gt_ws := gt_of 377 (by decide +kernel) (by decide +kernel)
theorem we_X4_read : Cond.selects jX4_read.1.cls jX4_read.1 jX4_read.1 ∈ gt_ws := gt_of 378 (by decide +kernel) (by decide +kernel)
theorem wd_X4_readLine : Cond.code jX4_readLine.1 jX4_readLine.2.1 jX4_readLine.2.2.1 jX4_readLine.2.2.2 ∈ gt_ws := gt_of 389 (by decide +kernel) (by decide +kernel)
theorem wm_X4_readLine : Cond.instanceMethod jX4_readLine.1 ∈ gt_ws := gt_of 388 (by decide +kernel) (by decide +kernel)
theorem we_X4_readLine : Cond.selects jX4_readLine.1.cls jX4_readLine.1 jX4_readLine.1 ∈ gt_ws := gt_sel 7 (by decide +kernel) (by decide +kernel)
theorem wd_X4_readTests : Cond.code jX4_readTests.1 jX4_readTests.2.1 jX4_readTests.2.2.1 jX4_readTests.2.2.2 ∈ gt_ws := gt_of 423 (by decide +kernel) (by decide +kernel)
theorem wm_X4_readTests : Cond.instanceMethod jX4_readTests.1 ∈ gt_ws := gt_of 422 (by decide +kernel) (by decide +kernel)
theorem we_X4_readTests : Cond.selects jX4_readTests.1.cls jX4_readTests.1 jX4_readTests.1 ∈ gt_ws := gt_sel 10 (by decide +kernel) (by decide +kernel)
theorem wd_X4_readTest : Cond.code jX4_readTest.1 jX4_readTest.2.1 jX4_readTest.2.2.1 jX4_readTest.2.2.2 ∈ gt_ws := gt_of 427 (by decide +kernel) (by decide +kernel)
theorem wm_X4_readTest : Cond.instanceMethod jX4_readTest.1 ∈ gt_ws := gt_of 426 (by decide +kernel) (by decide +kernel)
theorem we_X4_readTest : Cond.selects jX4_readTest.1.cls jX4_readTest.1 jX4_readTest.1 ∈ gt_ws := gt_sel 11 (by decide +kernel) (by decide +kernel)
theorem wd_X4_readTerms : Cond.code jX4_readTerms.1 jX4_readTerms.2.1 jX4_readTerms.2.2.1 jX4_readTerms.2.2.2 ∈ gt_ws := gt_of 454 (by decide +kernel) (by decide +kernel)
theorem wm_X4_readTerms : Cond.instanceMethod jX4_readTerms.1 ∈ gt_ws := gt_of 453 (by decide +kernel) (by decide +kernel)
theorem we_X4_readTerms : Cond.selects jX4_readTerms.1.cls jX4_readTerms.1 jX4_readTerms.1 ∈ gt_ws := gt_sel 13 (by decide +kernel) (by decide +kernel)
theorem wd_X4_readTerm : Cond.code jX4_readTerm.1 jX4_readTerm.2.1 jX4_readTerm.2.2.1 jX4_readTerm.2.2.2 ∈ gt_ws := gt_of 458 (by decide +kernel) (by decide +kernel)
theorem wm_X4_readTerm : Cond.instanceMethod jX4_readTerm.1 ∈ gt_ws := gt_of 457 (by decide +kernel) (by decide +kernel)
theorem we_X4_readTerm : Cond.selects jX4_readTerm.1.cls jX4_readTerm.1 jX4_readTerm.1 ∈ gt_ws := gt_sel 14 (by decide +kernel) (by decide +kernel)
theorem wd_X4_needName : Cond.code jX4_needName.1 jX4_needName.2.1 jX4_needName.2.2.1 jX4_needName.2.2.2 ∈ gt_ws := gt_of 434 (by decide +kernel) (by decide +kernel)
theorem wm_X4_needName : Cond.instanceMethod jX4_needName.1 ∈ gt_ws := gt_of 433 (by decide +kernel) (by decide +kernel)
theorem we_X4_needName : Cond.selects jX4_needName.1.cls jX4_needName.1 jX4_needName.1 ∈ gt_ws := gt_sel 12 (by decide +kernel) (by decide +kernel)
theorem wd_X4_need : Cond.code jX4_need.1 jX4_need.2.1 jX4_need.2.2.1 jX4_need.2.2.2 ∈ gt_ws := gt_of 397 (by decide +kernel) (by decide +kernel)
theorem wm_X4_need : Cond.instanceMethod jX4_need.1 ∈ gt_ws := gt_of 396 (by decide +kernel) (by decide +kernel)
theorem we_X4_need : Cond.selects jX4_need.1.cls jX4_need.1 jX4_need.1 ∈ gt_ws := gt_sel 9 (by decide +kernel) (by decide +kernel)
theorem wd_X4_skip : Cond.code jX4_skip.1 jX4_skip.2.1 jX4_skip.2.2.1 jX4_skip.2.2.2 ∈ gt_ws := gt_of 383 (by decide +kernel) (by decide +kernel)
theorem wm_X4_skip : Cond.instanceMethod jX4_skip.1 ∈ gt_ws := gt_of 382 (by decide +kernel) (by decide +kernel)
theorem we_X4_skip : Cond.selects jX4_skip.1.cls jX4_skip.1 jX4_skip.1 ∈ gt_ws := gt_sel 6 (by decide +kernel) (by decide +kernel)
theorem wd_X4_blame : Cond.code jX4_blame.1 jX4_blame.2.1 jX4_blame.2.2.1 jX4_blame.2.2.2 ∈ gt_ws := gt_of 393 (by decide +kernel) (by decide +kernel)
theorem wm_X4_blame : Cond.instanceMethod jX4_blame.1 ∈ gt_ws := gt_of 392 (by decide +kernel) (by decide +kernel)
theorem we_X4_blame : Cond.selects jX4_blame.1.cls jX4_blame.1 jX4_blame.1 ∈ gt_ws := gt_sel 8 (by decide +kernel) (by decide +kernel)
theorem wd_X4_isName : Cond.code jX4_isName.1 jX4_isName.2.1 jX4_isName.2.2.1 jX4_isName.2.2.2 ∈ gt_ws := gt_of 430 (by decide +kernel) (by decide +kernel)
theorem ws_X4_isName : Cond.static jX4_isName.1 ∈ gt_ws := gt_of 429 (by decide +kernel) (by decide +kernel)
theorem wd_X5_init : Cond.code jX5_init.1 jX5_init.2.1 jX5_init.2.2.1 jX5_init.2.2.2 ∈ gt_ws := gt_of 41 (by decide +kernel) (by decide +kernel)
theorem wm_X5_init : Cond.instanceMethod jX5_init.1 ∈ gt_ws := gt_of 40 (by decide +kernel) (by decide +kernel)
theorem wd_X5_add : Cond.code jX5_add.1 jX5_add.2.1 jX5_add.2.2.1 jX5_add.2.2.2 ∈ gt_ws := gt_of 218 (by decide +kernel) (by decide +kernel)
theorem wm_X5_add : Cond.instanceMethod jX5_add.1 ∈ gt_ws := gt_of 216 (by decide +kernel) (by decide +kernel)
theorem we_X5_add : Cond.selects jX5_add.1.cls jX5_add.1 jX5_add.1 ∈ gt_ws := gt_of 217 (by decide +kernel) (by decide +kernel)
theorem wd_X5_clear : Cond.code jX5_clear.1 jX5_clear.2.1 jX5_clear.2.2.1 jX5_clear.2.2.2 ∈ gt_ws := gt_of 478 (by decide +kernel) (by decide +kernel)
theorem wm_X5_clear : Cond.instanceMethod jX5_clear.1 ∈ gt_ws := gt_of 476 (by decide +kernel) (by decide +kernel)
theorem we_X5_clear : Cond.selects jX5_clear.1.cls jX5_clear.1 jX5_clear.1 ∈ gt_ws := gt_of 477 (by decide +kernel) (by decide +kernel)
theorem wd_X5_at : Cond.code jX5_at.1 jX5_at.2.1 jX5_at.2.2.1 jX5_at.2.2.2 ∈ gt_ws := gt_of 234 (by decide +kernel) (by decide +kernel)
theorem wm_X5_at : Cond.instanceMethod jX5_at.1 ∈ gt_ws := gt_of 232 (by decide +kernel) (by decide +kernel)
theorem we_X5_at : Cond.selects jX5_at.1.cls jX5_at.1 jX5_at.1 ∈ gt_ws := gt_of 233 (by decide +kernel) (by decide +kernel)
theorem wd_X6_init : Cond.code jX6_init.1 jX6_init.2.1 jX6_init.2.2.1 jX6_init.2.2.2 ∈ gt_ws := gt_of 482 (by decide +kernel) (by decide +kernel)
theorem wm_X6_init : Cond.instanceMethod jX6_init.1 ∈ gt_ws := gt_of 481 (by decide +kernel) (by decide +kernel)
theorem wd_X6_feeOf : Cond.code jX6_feeOf.1 jX6_feeOf.2.1 jX6_feeOf.2.2.1 jX6_feeOf.2.2.2 ∈ gt_ws := gt_of 650 (by decide +kernel) (by decide +kernel)
theorem wm_X6_feeOf : Cond.instanceMethod jX6_feeOf.1 ∈ gt_ws := gt_of 648 (by decide +kernel) (by decide +kernel)
theorem we_X6_feeOf : Cond.selects jX6_feeOf.1.cls jX6_feeOf.1 jX6_feeOf.1 ∈ gt_ws := gt_of 649 (by decide +kernel) (by decide +kernel)
theorem wd_X7_init : Cond.code jX7_init.1 jX7_init.2.1 jX7_init.2.2.1 jX7_init.2.2.2 ∈ gt_ws := gt_of 463 (by decide +kernel) (by decide +kernel)
theorem wm_X7_init : Cond.instanceMethod jX7_init.1 ∈ gt_ws := gt_of 462 (by decide +kernel) (by decide +kernel)
theorem wd_X7_amount : Cond.code jX7_amount.1 jX7_amount.2.1 jX7_amount.2.2.1 jX7_amount.2.2.2 ∈ gt_ws := gt_of 670 (by decide +kernel) (by decide +kernel)
theorem wm_X7_amount : Cond.instanceMethod jX7_amount.1 ∈ gt_ws := gt_of 668 (by decide +kernel) (by decide +kernel)
theorem we_X7_amount : Cond.selects jX7_amount.1.cls jX7_amount.1 jX7_amount.1 ∈ gt_ws := gt_of 669 (by decide +kernel) (by decide +kernel)
theorem wd_X8_init : Cond.code jX8_init.1 jX8_init.2.1 jX8_init.2.2.1 jX8_init.2.2.2 ∈ gt_ws := gt_of 439 (by decide +kernel) (by decide +kernel)
theorem wm_X8_init : Cond.instanceMethod jX8_init.1 ∈ gt_ws := gt_of 438 (by decide +kernel) (by decide +kernel)
theorem wd_X8_holds : Cond.code jX8_holds.1 jX8_holds.2.1 jX8_holds.2.2.1 jX8_holds.2.2.2 ∈ gt_ws := gt_of 658 (by decide +kernel) (by decide +kernel)
theorem wm_X8_holds : Cond.instanceMethod jX8_holds.1 ∈ gt_ws := gt_of 656 (by decide +kernel) (by decide +kernel)
theorem we_X8_holds : Cond.selects jX8_holds.1.cls jX8_holds.1 jX8_holds.1 ∈ gt_ws := gt_of 657 (by decide +kernel) (by decide +kernel)
theorem wd_X9_init : Cond.code jX9_init.1 jX9_init.2.1 jX9_init.2.2.1 jX9_init.2.2.2 ∈ gt_ws := gt_of 56 (by decide +kernel) (by decide +kernel)
theorem wm_X9_init : Cond.instanceMethod jX9_init.1 ∈ gt_ws := gt_of 55 (by decide +kernel) (by decide +kernel)
theorem wd_X9_cut : Cond.code jX9_cut.1 jX9_cut.2.1 jX9_cut.2.2.1 jX9_cut.2.2.2 ∈ gt_ws := gt_of 226 (by decide +kernel) (by decide +kernel)
theorem wm_X9_cut : Cond.instanceMethod jX9_cut.1 ∈ gt_ws := gt_of 224 (by decide +kernel) (by decide +kernel)
theorem we_X9_cut : Cond.selects jX9_cut.1.cls jX9_cut.1 jX9_cut.1 ∈ gt_ws := gt_of 225 (by decide +kernel) (by decide +kernel)
theorem wd_X9_cutOne : Cond.code jX9_cutOne.1 jX9_cutOne.2.1 jX9_cutOne.2.2.1 jX9_cutOne.2.2.2 ∈ gt_ws := gt_of 230 (by decide +kernel) (by decide +kernel)
theorem wm_X9_cutOne : Cond.instanceMethod jX9_cutOne.1 ∈ gt_ws := gt_of 229 (by decide +kernel) (by decide +kernel)
theorem we_X9_cutOne : Cond.selects jX9_cutOne.1.cls jX9_cutOne.1 jX9_cutOne.1 ∈ gt_ws := gt_sel 2 (by decide +kernel) (by decide +kernel)
theorem wd_X9_cutWord : Cond.code jX9_cutWord.1 jX9_cutWord.2.1 jX9_cutWord.2.2.1 jX9_cutWord.2.2.2 ∈ gt_ws := gt_of 241 (by decide +kernel) (by decide +kernel)
theorem wm_X9_cutWord : Cond.instanceMethod jX9_cutWord.1 ∈ gt_ws := gt_of 240 (by decide +kernel) (by decide +kernel)
theorem we_X9_cutWord : Cond.selects jX9_cutWord.1.cls jX9_cutWord.1 jX9_cutWord.1 ∈ gt_ws := gt_sel 3 (by decide +kernel) (by decide +kernel)
theorem wd_X9_cutNumber : Cond.code jX9_cutNumber.1 jX9_cutNumber.2.1 jX9_cutNumber.2.2.1 jX9_cutNumber.2.2.2 ∈ gt_ws := gt_of 314 (by decide +kernel) (by decide +kernel)
theorem wm_X9_cutNumber : Cond.instanceMethod jX9_cutNumber.1 ∈ gt_ws := gt_of 313 (by decide +kernel) (by decide +kernel)
theorem we_X9_cutNumber : Cond.selects jX9_cutNumber.1.cls jX9_cutNumber.1 jX9_cutNumber.1 ∈ gt_ws := gt_sel 5 (by decide +kernel) (by decide +kernel)
theorem wd_X9_put : Cond.code jX9_put.1 jX9_put.2.1 jX9_put.2.2.1 jX9_put.2.2.2 ∈ gt_ws := gt_of 307 (by decide +kernel) (by decide +kernel)
theorem wm_X9_put : Cond.instanceMethod jX9_put.1 ∈ gt_ws := gt_of 306 (by decide +kernel) (by decide +kernel)
theorem we_X9_put : Cond.selects jX9_put.1.cls jX9_put.1 jX9_put.1 ∈ gt_ws := gt_sel 4 (by decide +kernel) (by decide +kernel)
theorem wd_X9_isLetter : Cond.code jX9_isLetter.1 jX9_isLetter.2.1 jX9_isLetter.2.2.1 jX9_isLetter.2.2.2 ∈ gt_ws := gt_of 237 (by decide +kernel) (by decide +kernel)
theorem ws_X9_isLetter : Cond.static jX9_isLetter.1 ∈ gt_ws := gt_of 236 (by decide +kernel) (by decide +kernel)
theorem wd_X9_isDigit : Cond.code jX9_isDigit.1 jX9_isDigit.2.1 jX9_isDigit.2.2.1 jX9_isDigit.2.2.2 ∈ gt_ws := gt_of 310 (by decide +kernel) (by decide +kernel)
theorem ws_X9_isDigit : Cond.static jX9_isDigit.1 ∈ gt_ws := gt_of 309 (by decide +kernel) (by decide +kernel)
theorem wd_X9_wordKind : Cond.code jX9_wordKind.1 jX9_wordKind.2.1 jX9_wordKind.2.2.1 jX9_wordKind.2.2.2 ∈ gt_ws := gt_of 244 (by decide +kernel) (by decide +kernel)
theorem ws_X9_wordKind : Cond.static jX9_wordKind.1 ∈ gt_ws := gt_of 243 (by decide +kernel) (by decide +kernel)
theorem wd_X9_isWord : Cond.code jX9_isWord.1 jX9_isWord.2.1 jX9_isWord.2.2.1 jX9_isWord.2.2.2 ∈ gt_ws := gt_of 248 (by decide +kernel) (by decide +kernel)
theorem ws_X9_isWord : Cond.static jX9_isWord.1 ∈ gt_ws := gt_of 247 (by decide +kernel) (by decide +kernel)
theorem wd_X10_init : Cond.code jX10_init.1 jX10_init.2.1 jX10_init.2.2.1 jX10_init.2.2.2 ∈ gt_ws := gt_of 27 (by decide +kernel) (by decide +kernel)
theorem wm_X10_init : Cond.instanceMethod jX10_init.1 ∈ gt_ws := gt_of 26 (by decide +kernel) (by decide +kernel)
theorem wd_X10_port : Cond.code jX10_port.1 jX10_port.2.1 jX10_port.2.2.1 jX10_port.2.2.2 ∈ gt_ws := gt_of 162 (by decide +kernel) (by decide +kernel)
theorem wm_X10_port : Cond.instanceMethod jX10_port.1 ∈ gt_ws := gt_of 160 (by decide +kernel) (by decide +kernel)
theorem we_X10_port : Cond.selects jX10_port.1.cls jX10_port.1 jX10_port.1 ∈ gt_ws := gt_of 161 (by decide +kernel) (by decide +kernel)
theorem wd_X10_feed : Cond.code jX10_feed.1 jX10_feed.2.1 jX10_feed.2.2.1 jX10_feed.2.2.2 ∈ gt_ws := gt_of 214 (by decide +kernel) (by decide +kernel)
theorem wm_X10_feed : Cond.instanceMethod jX10_feed.1 ∈ gt_ws := gt_of 212 (by decide +kernel) (by decide +kernel)
theorem we_X10_feed : Cond.selects jX10_feed.1.cls jX10_feed.1 jX10_feed.1 ∈ gt_ws := gt_of 213 (by decide +kernel) (by decide +kernel)
theorem wd_X10_tariff : Cond.code jX10_tariff.1 jX10_tariff.2.1 jX10_tariff.2.2.1 jX10_tariff.2.2.2 ∈ gt_ws := gt_of 222 (by decide +kernel) (by decide +kernel)
theorem wm_X10_tariff : Cond.instanceMethod jX10_tariff.1 ∈ gt_ws := gt_of 220 (by decide +kernel) (by decide +kernel)
theorem we_X10_tariff : Cond.selects jX10_tariff.1.cls jX10_tariff.1 jX10_tariff.1 ∈ gt_ws := gt_of 221 (by decide +kernel) (by decide +kernel)
theorem wd_X10_fault : Cond.code jX10_fault.1 jX10_fault.2.1 jX10_fault.2.2.1 jX10_fault.2.2.2 ∈ gt_ws := gt_of 503 (by decide +kernel) (by decide +kernel)
theorem wm_X10_fault : Cond.instanceMethod jX10_fault.1 ∈ gt_ws := gt_of 501 (by decide +kernel) (by decide +kernel)
theorem we_X10_fault : Cond.selects jX10_fault.1.cls jX10_fault.1 jX10_fault.1 ∈ gt_ws := gt_of 502 (by decide +kernel) (by decide +kernel)
theorem wd_X10_where : Cond.code jX10_where.1 jX10_where.2.1 jX10_where.2.2.1 jX10_where.2.2.2 ∈ gt_ws := gt_of 507 (by decide +kernel) (by decide +kernel)
theorem wm_X10_where : Cond.instanceMethod jX10_where.1 ∈ gt_ws := gt_of 505 (by decide +kernel) (by decide +kernel)
theorem we_X10_where : Cond.selects jX10_where.1.cls jX10_where.1 jX10_where.1 ∈ gt_ws := gt_of 506 (by decide +kernel) (by decide +kernel)
theorem wd_X10_lost : Cond.code jX10_lost.1 jX10_lost.2.1 jX10_lost.2.2.1 jX10_lost.2.2.2 ∈ gt_ws := gt_of 511 (by decide +kernel) (by decide +kernel)
theorem wm_X10_lost : Cond.instanceMethod jX10_lost.1 ∈ gt_ws := gt_of 509 (by decide +kernel) (by decide +kernel)
theorem we_X10_lost : Cond.selects jX10_lost.1.cls jX10_lost.1 jX10_lost.1 ∈ gt_ws := gt_of 510 (by decide +kernel) (by decide +kernel)
theorem wd_X10_pass : Cond.code jX10_pass.1 jX10_pass.2.1 jX10_pass.2.2.1 jX10_pass.2.2.2 ∈ gt_ws := gt_of 524 (by decide +kernel) (by decide +kernel)
theorem wm_X10_pass : Cond.instanceMethod jX10_pass.1 ∈ gt_ws := gt_of 522 (by decide +kernel) (by decide +kernel)
theorem we_X10_pass : Cond.selects jX10_pass.1.cls jX10_pass.1 jX10_pass.1 ∈ gt_ws := gt_of 523 (by decide +kernel) (by decide +kernel)
theorem wd_X10_force : Cond.code jX10_force.1 jX10_force.2.1 jX10_force.2.2.1 jX10_force.2.2.2 ∈ gt_ws := gt_of 528 (by decide +kernel) (by decide +kernel)
theorem wm_X10_force : Cond.instanceMethod jX10_force.1 ∈ gt_ws := gt_of 526 (by decide +kernel) (by decide +kernel)
theorem we_X10_force : Cond.selects jX10_force.1.cls jX10_force.1 jX10_force.1 ∈ gt_ws := gt_of 527 (by decide +kernel) (by decide +kernel)
theorem wd_X10_came : Cond.code jX10_came.1 jX10_came.2.1 jX10_came.2.2.1 jX10_came.2.2.2 ∈ gt_ws := gt_of 544 (by decide +kernel) (by decide +kernel)
theorem wm_X10_came : Cond.instanceMethod jX10_came.1 ∈ gt_ws := gt_of 542 (by decide +kernel) (by decide +kernel)
theorem we_X10_came : Cond.selects jX10_came.1.cls jX10_came.1 jX10_came.1 ∈ gt_ws := gt_of 543 (by decide +kernel) (by decide +kernel)
theorem wd_X10_asked : Cond.code jX10_asked.1 jX10_asked.2.1 jX10_asked.2.2.1 jX10_asked.2.2.2 ∈ gt_ws := gt_of 549 (by decide +kernel) (by decide +kernel)
theorem wm_X10_asked : Cond.instanceMethod jX10_asked.1 ∈ gt_ws := gt_of 547 (by decide +kernel) (by decide +kernel)
theorem we_X10_asked : Cond.selects jX10_asked.1.cls jX10_asked.1 jX10_asked.1 ∈ gt_ws := gt_of 548 (by decide +kernel) (by decide +kernel)
theorem wd_X10_under : Cond.code jX10_under.1 jX10_under.2.1 jX10_under.2.2.1 jX10_under.2.2.2 ∈ gt_ws := gt_of 554 (by decide +kernel) (by decide +kernel)
theorem wm_X10_under : Cond.instanceMethod jX10_under.1 ∈ gt_ws := gt_of 552 (by decide +kernel) (by decide +kernel)
theorem we_X10_under : Cond.selects jX10_under.1.cls jX10_under.1 jX10_under.1 ∈ gt_ws := gt_of 553 (by decide +kernel) (by decide +kernel)
theorem wd_X10_stock : Cond.code jX10_stock.1 jX10_stock.2.1 jX10_stock.2.2.1 jX10_stock.2.2.2 ∈ gt_ws := gt_of 582 (by decide +kernel) (by decide +kernel)
theorem wm_X10_stock : Cond.instanceMethod jX10_stock.1 ∈ gt_ws := gt_of 580 (by decide +kernel) (by decide +kernel)
theorem we_X10_stock : Cond.selects jX10_stock.1.cls jX10_stock.1 jX10_stock.1 ∈ gt_ws := gt_of 581 (by decide +kernel) (by decide +kernel)
theorem wd_X10_fee : Cond.code jX10_fee.1 jX10_fee.2.1 jX10_fee.2.2.1 jX10_fee.2.2.2 ∈ gt_ws := gt_of 598 (by decide +kernel) (by decide +kernel)
theorem wm_X10_fee : Cond.instanceMethod jX10_fee.1 ∈ gt_ws := gt_of 596 (by decide +kernel) (by decide +kernel)
theorem we_X10_fee : Cond.selects jX10_fee.1.cls jX10_fee.1 jX10_fee.1 ∈ gt_ws := gt_of 597 (by decide +kernel) (by decide +kernel)
theorem wd_X10_seal : Cond.code jX10_seal.1 jX10_seal.2.1 jX10_seal.2.2.1 jX10_seal.2.2.2 ∈ gt_ws := gt_of 676 (by decide +kernel) (by decide +kernel)
theorem wm_X10_seal : Cond.instanceMethod jX10_seal.1 ∈ gt_ws := gt_of 674 (by decide +kernel) (by decide +kernel)
theorem we_X10_seal : Cond.selects jX10_seal.1.cls jX10_seal.1 jX10_seal.1 ∈ gt_ws := gt_of 675 (by decide +kernel) (by decide +kernel)
theorem wd_X10_paper : Cond.code jX10_paper.1 jX10_paper.2.1 jX10_paper.2.2.1 jX10_paper.2.2.2 ∈ gt_ws := gt_of 708 (by decide +kernel) (by decide +kernel)
theorem wm_X10_paper : Cond.instanceMethod jX10_paper.1 ∈ gt_ws := gt_of 706 (by decide +kernel) (by decide +kernel)
theorem we_X10_paper : Cond.selects jX10_paper.1.cls jX10_paper.1 jX10_paper.1 ∈ gt_ws := gt_of 707 (by decide +kernel) (by decide +kernel)
theorem wd_X10_stamps : Cond.code jX10_stamps.1 jX10_stamps.2.1 jX10_stamps.2.2.1 jX10_stamps.2.2.2 ∈ gt_ws := gt_of 734 (by decide +kernel) (by decide +kernel)
theorem wm_X10_stamps : Cond.instanceMethod jX10_stamps.1 ∈ gt_ws := gt_of 732 (by decide +kernel) (by decide +kernel)
theorem we_X10_stamps : Cond.selects jX10_stamps.1.cls jX10_stamps.1 jX10_stamps.1 ∈ gt_ws := gt_of 733 (by decide +kernel) (by decide +kernel)
theorem wd_X10_about : Cond.code jX10_about.1 jX10_about.2.1 jX10_about.2.2.1 jX10_about.2.2.2 ∈ gt_ws := gt_of 739 (by decide +kernel) (by decide +kernel)
theorem wm_X10_about : Cond.instanceMethod jX10_about.1 ∈ gt_ws := gt_of 737 (by decide +kernel) (by decide +kernel)
theorem we_X10_about : Cond.selects jX10_about.1.cls jX10_about.1 jX10_about.1 ∈ gt_ws := gt_of 738 (by decide +kernel) (by decide +kernel)
theorem wd_X10_known : Cond.code jX10_known.1 jX10_known.2.1 jX10_known.2.2.1 jX10_known.2.2.2 ∈ gt_ws := gt_of 744 (by decide +kernel) (by decide +kernel)
theorem wm_X10_known : Cond.instanceMethod jX10_known.1 ∈ gt_ws := gt_of 742 (by decide +kernel) (by decide +kernel)
theorem we_X10_known : Cond.selects jX10_known.1.cls jX10_known.1 jX10_known.1 ∈ gt_ws := gt_of 743 (by decide +kernel) (by decide +kernel)
theorem wd_X10_sum : Cond.code jX10_sum.1 jX10_sum.2.1 jX10_sum.2.2.1 jX10_sum.2.2.2 ∈ gt_ws := gt_of 756 (by decide +kernel) (by decide +kernel)
theorem wm_X10_sum : Cond.instanceMethod jX10_sum.1 ∈ gt_ws := gt_of 754 (by decide +kernel) (by decide +kernel)
theorem we_X10_sum : Cond.selects jX10_sum.1.cls jX10_sum.1 jX10_sum.1 ∈ gt_ws := gt_of 755 (by decide +kernel) (by decide +kernel)
theorem wd_X10_homes : Cond.code jX10_homes.1 jX10_homes.2.1 jX10_homes.2.2.1 jX10_homes.2.2.2 ∈ gt_ws := gt_of 764 (by decide +kernel) (by decide +kernel)
theorem wm_X10_homes : Cond.instanceMethod jX10_homes.1 ∈ gt_ws := gt_of 762 (by decide +kernel) (by decide +kernel)
theorem we_X10_homes : Cond.selects jX10_homes.1.cls jX10_homes.1 jX10_homes.1 ∈ gt_ws := gt_of 763 (by decide +kernel) (by decide +kernel)
theorem wd_X10_difference : Cond.code jX10_difference.1 jX10_difference.2.1 jX10_difference.2.2.1 jX10_difference.2.2.2 ∈ gt_ws := gt_of 772 (by decide +kernel) (by decide +kernel)
theorem wm_X10_difference : Cond.instanceMethod jX10_difference.1 ∈ gt_ws := gt_of 770 (by decide +kernel) (by decide +kernel)
theorem we_X10_difference : Cond.selects jX10_difference.1.cls jX10_difference.1 jX10_difference.1 ∈ gt_ws := gt_of 771 (by decide +kernel) (by decide +kernel)
theorem wd_X10_unlike : Cond.code jX10_unlike.1 jX10_unlike.2.1 jX10_unlike.2.2.1 jX10_unlike.2.2.2 ∈ gt_ws := gt_of 776 (by decide +kernel) (by decide +kernel)
theorem wm_X10_unlike : Cond.instanceMethod jX10_unlike.1 ∈ gt_ws := gt_of 774 (by decide +kernel) (by decide +kernel)
theorem we_X10_unlike : Cond.selects jX10_unlike.1.cls jX10_unlike.1 jX10_unlike.1 ∈ gt_ws := gt_of 775 (by decide +kernel) (by decide +kernel)
theorem wd_X10_count : Cond.code jX10_count.1 jX10_count.2.1 jX10_count.2.2.1 jX10_count.2.2.2 ∈ gt_ws := gt_of 780 (by decide +kernel) (by decide +kernel)
theorem wm_X10_count : Cond.instanceMethod jX10_count.1 ∈ gt_ws := gt_of 778 (by decide +kernel) (by decide +kernel)
theorem we_X10_count : Cond.selects jX10_count.1.cls jX10_count.1 jX10_count.1 ∈ gt_ws := gt_of 779 (by decide +kernel) (by decide +kernel)
theorem wd_X10_trouble : Cond.code jX10_trouble.1 jX10_trouble.2.1 jX10_trouble.2.2.1 jX10_trouble.2.2.2 ∈ gt_ws := gt_of 784 (by decide +kernel) (by decide +kernel)
theorem wm_X10_trouble : Cond.instanceMethod jX10_trouble.1 ∈ gt_ws := gt_of 782 (by decide +kernel) (by decide +kernel)
theorem we_X10_trouble : Cond.selects jX10_trouble.1.cls jX10_trouble.1 jX10_trouble.1 ∈ gt_ws := gt_of 783 (by decide +kernel) (by decide +kernel)
theorem wd_X10_refuse : Cond.code jX10_refuse.1 jX10_refuse.2.1 jX10_refuse.2.2.1 jX10_refuse.2.2.2 ∈ gt_ws := gt_of 166 (by decide +kernel) (by decide +kernel)
theorem wm_X10_refuse : Cond.instanceMethod jX10_refuse.1 ∈ gt_ws := gt_of 165 (by decide +kernel) (by decide +kernel)
theorem we_X10_refuse : Cond.selects jX10_refuse.1.cls jX10_refuse.1 jX10_refuse.1 ∈ gt_ws := gt_sel 0 (by decide +kernel) (by decide +kernel)
theorem wd_X10_accept : Cond.code jX10_accept.1 jX10_accept.2.1 jX10_accept.2.2.1 jX10_accept.2.2.2 ∈ gt_ws := gt_of 210 (by decide +kernel) (by decide +kernel)
theorem wm_X10_accept : Cond.instanceMethod jX10_accept.1 ∈ gt_ws := gt_of 209 (by decide +kernel) (by decide +kernel)
theorem we_X10_accept : Cond.selects jX10_accept.1.cls jX10_accept.1 jX10_accept.1 ∈ gt_ws := gt_sel 1 (by decide +kernel) (by decide +kernel)
theorem wd_X10_portAt : Cond.code jX10_portAt.1 jX10_portAt.2.1 jX10_portAt.2.2.1 jX10_portAt.2.2.2 ∈ gt_ws := gt_of 499 (by decide +kernel) (by decide +kernel)
theorem wm_X10_portAt : Cond.instanceMethod jX10_portAt.1 ∈ gt_ws := gt_of 498 (by decide +kernel) (by decide +kernel)
theorem we_X10_portAt : Cond.selects jX10_portAt.1.cls jX10_portAt.1 jX10_portAt.1 ∈ gt_ws := gt_sel 16 (by decide +kernel) (by decide +kernel)
theorem wd_X10_tariffAt : Cond.code jX10_tariffAt.1 jX10_tariffAt.2.1 jX10_tariffAt.2.2.1 jX10_tariffAt.2.2.2 ∈ gt_ws := gt_of 602 (by decide +kernel) (by decide +kernel)
theorem wm_X10_tariffAt : Cond.instanceMethod jX10_tariffAt.1 ∈ gt_ws := gt_of 601 (by decide +kernel) (by decide +kernel)
theorem we_X10_tariffAt : Cond.selects jX10_tariffAt.1.cls jX10_tariffAt.1 jX10_tariffAt.1 ∈ gt_ws := gt_sel 20 (by decide +kernel) (by decide +kernel)
theorem wd_X10_paperAt : Cond.code jX10_paperAt.1 jX10_paperAt.2.1 jX10_paperAt.2.2.1 jX10_paperAt.2.2.2 ∈ gt_ws := gt_of 712 (by decide +kernel) (by decide +kernel)
theorem wm_X10_paperAt : Cond.instanceMethod jX10_paperAt.1 ∈ gt_ws := gt_of 711 (by decide +kernel) (by decide +kernel)
theorem we_X10_paperAt : Cond.selects jX10_paperAt.1.cls jX10_paperAt.1 jX10_paperAt.1 ∈ gt_ws := gt_sel 22 (by decide +kernel) (by decide +kernel)
theorem wd_X10_isWorth : Cond.code jX10_isWorth.1 jX10_isWorth.2.1 jX10_isWorth.2.2.1 jX10_isWorth.2.2.2 ∈ gt_ws := gt_of 585 (by decide +kernel) (by decide +kernel)
theorem ws_X10_isWorth : Cond.static jX10_isWorth.1 ∈ gt_ws := gt_of 584 (by decide +kernel) (by decide +kernel)
theorem wd_X10_isPaper : Cond.code jX10_isPaper.1 jX10_isPaper.2.1 jX10_isPaper.2.2.1 jX10_isPaper.2.2.2 ∈ gt_ws := gt_of 605 (by decide +kernel) (by decide +kernel)
theorem ws_X10_isPaper : Cond.static jX10_isPaper.1 ∈ gt_ws := gt_of 604 (by decide +kernel) (by decide +kernel)
theorem wd_X10_isPast : Cond.code jX10_isPast.1 jX10_isPast.2.1 jX10_isPast.2.2.1 jX10_isPast.2.2.2 ∈ gt_ws := gt_of 748 (by decide +kernel) (by decide +kernel)
theorem wm_X10_isPast : Cond.instanceMethod jX10_isPast.1 ∈ gt_ws := gt_of 747 (by decide +kernel) (by decide +kernel)
theorem we_X10_isPast : Cond.selects jX10_isPast.1.cls jX10_isPast.1 jX10_isPast.1 ∈ gt_ws := gt_sel 25 (by decide +kernel) (by decide +kernel)
theorem wd_X10_sendOut : Cond.code jX10_sendOut.1 jX10_sendOut.2.1 jX10_sendOut.2.2.1 jX10_sendOut.2.2.2 ∈ gt_ws := gt_of 495 (by decide +kernel) (by decide +kernel)
theorem wm_X10_sendOut : Cond.instanceMethod jX10_sendOut.1 ∈ gt_ws := gt_of 494 (by decide +kernel) (by decide +kernel)
theorem we_X10_sendOut : Cond.selects jX10_sendOut.1.cls jX10_sendOut.1 jX10_sendOut.1 ∈ gt_ws := gt_sel 15 (by decide +kernel) (by decide +kernel)
theorem wd_X10_knownDay : Cond.code jX10_knownDay.1 jX10_knownDay.2.1 jX10_knownDay.2.2.1 jX10_knownDay.2.2.2 ∈ gt_ws := gt_of 729 (by decide +kernel) (by decide +kernel)
theorem wm_X10_knownDay : Cond.instanceMethod jX10_knownDay.1 ∈ gt_ws := gt_of 728 (by decide +kernel) (by decide +kernel)
theorem we_X10_knownDay : Cond.selects jX10_knownDay.1.cls jX10_knownDay.1 jX10_knownDay.1 ∈ gt_ws := gt_sel 24 (by decide +kernel) (by decide +kernel)
theorem wd_X10_isKnown : Cond.code jX10_isKnown.1 jX10_isKnown.2.1 jX10_isKnown.2.2.1 jX10_isKnown.2.2.2 ∈ gt_ws := gt_of 725 (by decide +kernel) (by decide +kernel)
theorem wm_X10_isKnown : Cond.instanceMethod jX10_isKnown.1 ∈ gt_ws := gt_of 724 (by decide +kernel) (by decide +kernel)
theorem we_X10_isKnown : Cond.selects jX10_isKnown.1.cls jX10_isKnown.1 jX10_isKnown.1 ∈ gt_ws := gt_sel 23 (by decide +kernel) (by decide +kernel)
theorem wd_X10_isKnownOf : Cond.code jX10_isKnownOf.1 jX10_isKnownOf.2.1 jX10_isKnownOf.2.2.1 jX10_isKnownOf.2.2.2 ∈ gt_ws := gt_of 752 (by decide +kernel) (by decide +kernel)
theorem wm_X10_isKnownOf : Cond.instanceMethod jX10_isKnownOf.1 ∈ gt_ws := gt_of 751 (by decide +kernel) (by decide +kernel)
theorem we_X10_isKnownOf : Cond.selects jX10_isKnownOf.1.cls jX10_isKnownOf.1 jX10_isKnownOf.1 ∈ gt_ws := gt_sel 26 (by decide +kernel) (by decide +kernel)
theorem wd_X10_chargedFor : Cond.code jX10_chargedFor.1 jX10_chargedFor.2.1 jX10_chargedFor.2.2.1 jX10_chargedFor.2.2.2 ∈ gt_ws := gt_of 760 (by decide +kernel) (by decide +kernel)
theorem wm_X10_chargedFor : Cond.instanceMethod jX10_chargedFor.1 ∈ gt_ws := gt_of 759 (by decide +kernel) (by decide +kernel)
theorem we_X10_chargedFor : Cond.selects jX10_chargedFor.1.cls jX10_chargedFor.1 jX10_chargedFor.1 ∈ gt_ws := gt_sel 27 (by decide +kernel) (by decide +kernel)
theorem wd_X10_homeFee : Cond.code jX10_homeFee.1 jX10_homeFee.2.1 jX10_homeFee.2.2.1 jX10_homeFee.2.2.2 ∈ gt_ws := gt_of 768 (by decide +kernel) (by decide +kernel)
theorem wm_X10_homeFee : Cond.instanceMethod jX10_homeFee.1 ∈ gt_ws := gt_of 767 (by decide +kernel) (by decide +kernel)
theorem we_X10_homeFee : Cond.selects jX10_homeFee.1.cls jX10_homeFee.1 jX10_homeFee.1 ∈ gt_ws := gt_sel 28 (by decide +kernel) (by decide +kernel)
theorem wd_X10_accountsBelow : Cond.code jX10_accountsBelow.1 jX10_accountsBelow.2.1 jX10_accountsBelow.2.2.1 jX10_accountsBelow.2.2.2 ∈ gt_ws := gt_of 565 (by decide +kernel) (by decide +kernel)
theorem ws_X10_accountsBelow : Cond.static jX10_accountsBelow.1 ∈ gt_ws := gt_of 564 (by decide +kernel) (by decide +kernel)
theorem wd_X11_init : Cond.code jX11_init.1 jX11_init.2.1 jX11_init.2.2.1 jX11_init.2.2.2 ∈ gt_ws := gt_of 832 (by decide +kernel) (by decide +kernel)
theorem wm_X11_init : Cond.instanceMethod jX11_init.1 ∈ gt_ws := gt_of 831 (by decide +kernel) (by decide +kernel)
theorem wd_X12_init : Cond.code jX12_init.1 jX12_init.2.1 jX12_init.2.2.1 jX12_init.2.2.2 ∈ gt_ws := gt_of 789 (by decide +kernel) (by decide +kernel)
theorem wm_X12_init : Cond.instanceMethod jX12_init.1 ∈ gt_ws := gt_of 788 (by decide +kernel) (by decide +kernel)
theorem wd_X12_refused : Cond.code jX12_refused.1 jX12_refused.2.1 jX12_refused.2.2.1 jX12_refused.2.2.2 ∈ gt_ws := gt_of 1023 (by decide +kernel) (by decide +kernel)
theorem wm_X12_refused : Cond.instanceMethod jX12_refused.1 ∈ gt_ws := gt_of 1022 (by decide +kernel) (by decide +kernel)
theorem we_X12_refused : Cond.selects jX12_refused.1.cls jX12_refused.1 jX12_refused.1 ∈ gt_ws := gt_sel 30 (by decide +kernel) (by decide +kernel)
theorem wd_X12_done : Cond.code jX12_done.1 jX12_done.2.1 jX12_done.2.2.1 jX12_done.2.2.2 ∈ gt_ws := gt_of 1032 (by decide +kernel) (by decide +kernel)
theorem wm_X12_done : Cond.instanceMethod jX12_done.1 ∈ gt_ws := gt_of 1031 (by decide +kernel) (by decide +kernel)
theorem we_X12_done : Cond.selects jX12_done.1.cls jX12_done.1 jX12_done.1 ∈ gt_ws := gt_sel 32 (by decide +kernel) (by decide +kernel)
theorem wd_X12_in : Cond.code jX12_in.1 jX12_in.2.1 jX12_in.2.2.1 jX12_in.2.2.2 ∈ gt_ws := gt_of 1019 (by decide +kernel) (by decide +kernel)
theorem ws_X12_in : Cond.static jX12_in.1 ∈ gt_ws := gt_of 1018 (by decide +kernel) (by decide +kernel)
theorem wd_X12_stop : Cond.code jX12_stop.1 jX12_stop.2.1 jX12_stop.2.2.1 jX12_stop.2.2.2 ∈ gt_ws := gt_of 1073 (by decide +kernel) (by decide +kernel)
theorem wm_X12_stop : Cond.instanceMethod jX12_stop.1 ∈ gt_ws := gt_of 1072 (by decide +kernel) (by decide +kernel)
theorem we_X12_stop : Cond.selects jX12_stop.1.cls jX12_stop.1 jX12_stop.1 ∈ gt_ws := gt_sel 37 (by decide +kernel) (by decide +kernel)
theorem wd_X12_byteAt : Cond.code jX12_byteAt.1 jX12_byteAt.2.1 jX12_byteAt.2.2.1 jX12_byteAt.2.2.2 ∈ gt_ws := gt_of 1052 (by decide +kernel) (by decide +kernel)
theorem wm_X12_byteAt : Cond.instanceMethod jX12_byteAt.1 ∈ gt_ws := gt_of 1051 (by decide +kernel) (by decide +kernel)
theorem we_X12_byteAt : Cond.selects jX12_byteAt.1.cls jX12_byteAt.1 jX12_byteAt.1 ∈ gt_ws := gt_sel 35 (by decide +kernel) (by decide +kernel)
theorem wd_X12_isLetter : Cond.code jX12_isLetter.1 jX12_isLetter.2.1 jX12_isLetter.2.2.1 jX12_isLetter.2.2.2 ∈ gt_ws := gt_of 1055 (by decide +kernel) (by decide +kernel)
theorem ws_X12_isLetter : Cond.static jX12_isLetter.1 ∈ gt_ws := gt_of 1054 (by decide +kernel) (by decide +kernel)
theorem wd_X12_isDigit : Cond.code jX12_isDigit.1 jX12_isDigit.2.1 jX12_isDigit.2.2.1 jX12_isDigit.2.2.2 ∈ gt_ws := gt_of 1059 (by decide +kernel) (by decide +kernel)
theorem ws_X12_isDigit : Cond.static jX12_isDigit.1 ∈ gt_ws := gt_of 1058 (by decide +kernel) (by decide +kernel)
theorem wd_X12_wordOf : Cond.code jX12_wordOf.1 jX12_wordOf.2.1 jX12_wordOf.2.2.1 jX12_wordOf.2.2.2 ∈ gt_ws := gt_of 1067 (by decide +kernel) (by decide +kernel)
theorem ws_X12_wordOf : Cond.static jX12_wordOf.1 ∈ gt_ws := gt_of 1066 (by decide +kernel) (by decide +kernel)
theorem wd_X12_next : Cond.code jX12_next.1 jX12_next.2.1 jX12_next.2.2.1 jX12_next.2.2.2 ∈ gt_ws := gt_of 1048 (by decide +kernel) (by decide +kernel)
theorem wm_X12_next : Cond.instanceMethod jX12_next.1 ∈ gt_ws := gt_of 1047 (by decide +kernel) (by decide +kernel)
theorem we_X12_next : Cond.selects jX12_next.1.cls jX12_next.1 jX12_next.1 ∈ gt_ws := gt_sel 34 (by decide +kernel) (by decide +kernel)
theorem wd_X12_isWord : Cond.code jX12_isWord.1 jX12_isWord.2.1 jX12_isWord.2.2.1 jX12_isWord.2.2.2 ∈ gt_ws := gt_of 1064 (by decide +kernel) (by decide +kernel)
theorem wm_X12_isWord : Cond.instanceMethod jX12_isWord.1 ∈ gt_ws := gt_of 1063 (by decide +kernel) (by decide +kernel)
theorem we_X12_isWord : Cond.selects jX12_isWord.1.cls jX12_isWord.1 jX12_isWord.1 ∈ gt_ws := gt_sel 36 (by decide +kernel) (by decide +kernel)
theorem wd_X12_is : Cond.code jX12_is.1 jX12_is.2.1 jX12_is.2.2.1 jX12_is.2.2.2 ∈ gt_ws := gt_of 1092 (by decide +kernel) (by decide +kernel)
theorem wm_X12_is : Cond.instanceMethod jX12_is.1 ∈ gt_ws := gt_of 1091 (by decide +kernel) (by decide +kernel)
theorem we_X12_is : Cond.selects jX12_is.1.cls jX12_is.1 jX12_is.1 ∈ gt_ws := gt_sel 40 (by decide +kernel) (by decide +kernel)
theorem wd_X12_nameHere : Cond.code jX12_nameHere.1 jX12_nameHere.2.1 jX12_nameHere.2.2.1 jX12_nameHere.2.2.2 ∈ gt_ws := gt_of 1082 (by decide +kernel) (by decide +kernel)
theorem wm_X12_nameHere : Cond.instanceMethod jX12_nameHere.1 ∈ gt_ws := gt_of 1081 (by decide +kernel) (by decide +kernel)
theorem we_X12_nameHere : Cond.selects jX12_nameHere.1.cls jX12_nameHere.1 jX12_nameHere.1 ∈ gt_ws := gt_sel 39 (by decide +kernel) (by decide +kernel)
theorem wd_X12_reads : Cond.code jX12_reads.1 jX12_reads.2.1 jX12_reads.2.2.1 jX12_reads.2.2.2 ∈ gt_ws := gt_of 1044 (by decide +kernel) (by decide +kernel)
theorem wm_X12_reads : Cond.instanceMethod jX12_reads.1 ∈ gt_ws := gt_of 1043 (by decide +kernel) (by decide +kernel)
theorem we_X12_reads : Cond.selects jX12_reads.1.cls jX12_reads.1 jX12_reads.1 ∈ gt_ws := gt_sel 33 (by decide +kernel) (by decide +kernel)
theorem wd_X12_readTest : Cond.code jX12_readTest.1 jX12_readTest.2.1 jX12_readTest.2.2.1 jX12_readTest.2.2.2 ∈ gt_ws := gt_of 1078 (by decide +kernel) (by decide +kernel)
theorem wm_X12_readTest : Cond.instanceMethod jX12_readTest.1 ∈ gt_ws := gt_of 1077 (by decide +kernel) (by decide +kernel)
theorem we_X12_readTest : Cond.selects jX12_readTest.1.cls jX12_readTest.1 jX12_readTest.1 ∈ gt_ws := gt_sel 38 (by decide +kernel) (by decide +kernel)
theorem wd_X12_readTerm : Cond.code jX12_readTerm.1 jX12_readTerm.2.1 jX12_readTerm.2.2.1 jX12_readTerm.2.2.2 ∈ gt_ws := gt_of 1096 (by decide +kernel) (by decide +kernel)
theorem wm_X12_readTerm : Cond.instanceMethod jX12_readTerm.1 ∈ gt_ws := gt_of 1095 (by decide +kernel) (by decide +kernel)
theorem we_X12_readTerm : Cond.selects jX12_readTerm.1.cls jX12_readTerm.1 jX12_readTerm.1 ∈ gt_ws := gt_sel 41 (by decide +kernel) (by decide +kernel)
theorem wd_X12_valueOf : Cond.code jX12_valueOf.1 jX12_valueOf.2.1 jX12_valueOf.2.2.1 jX12_valueOf.2.2.2 ∈ gt_ws := gt_of 1170 (by decide +kernel) (by decide +kernel)
theorem ws_X12_valueOf : Cond.static jX12_valueOf.1 ∈ gt_ws := gt_of 1169 (by decide +kernel) (by decide +kernel)
theorem wd_X12_feeOf : Cond.code jX12_feeOf.1 jX12_feeOf.2.1 jX12_feeOf.2.2.1 jX12_feeOf.2.2.2 ∈ gt_ws := gt_of 1167 (by decide +kernel) (by decide +kernel)
theorem wm_X12_feeOf : Cond.instanceMethod jX12_feeOf.1 ∈ gt_ws := gt_of 1166 (by decide +kernel) (by decide +kernel)
theorem we_X12_feeOf : Cond.selects jX12_feeOf.1.cls jX12_feeOf.1 jX12_feeOf.1 ∈ gt_ws := gt_sel 48 (by decide +kernel) (by decide +kernel)
theorem wd_X12_port : Cond.code jX12_port.1 jX12_port.2.1 jX12_port.2.2.1 jX12_port.2.2.2 ∈ gt_ws := gt_of 1016 (by decide +kernel) (by decide +kernel)
theorem wm_X12_port : Cond.instanceMethod jX12_port.1 ∈ gt_ws := gt_of 1014 (by decide +kernel) (by decide +kernel)
theorem we_X12_port : Cond.selects jX12_port.1.cls jX12_port.1 jX12_port.1 ∈ gt_ws := gt_of 1015 (by decide +kernel) (by decide +kernel)
theorem wd_X12_sends : Cond.code jX12_sends.1 jX12_sends.2.1 jX12_sends.2.2.1 jX12_sends.2.2.2 ∈ gt_ws := gt_of 1027 (by decide +kernel) (by decide +kernel)
theorem wm_X12_sends : Cond.instanceMethod jX12_sends.1 ∈ gt_ws := gt_of 1026 (by decide +kernel) (by decide +kernel)
theorem we_X12_sends : Cond.selects jX12_sends.1.cls jX12_sends.1 jX12_sends.1 ∈ gt_ws := gt_sel 31 (by decide +kernel) (by decide +kernel)
theorem wd_X12_feed : Cond.code jX12_feed.1 jX12_feed.2.1 jX12_feed.2.2.1 jX12_feed.2.2.2 ∈ gt_ws := gt_of 1036 (by decide +kernel) (by decide +kernel)
theorem wm_X12_feed : Cond.instanceMethod jX12_feed.1 ∈ gt_ws := gt_of 1034 (by decide +kernel) (by decide +kernel)
theorem we_X12_feed : Cond.selects jX12_feed.1.cls jX12_feed.1 jX12_feed.1 ∈ gt_ws := gt_of 1035 (by decide +kernel) (by decide +kernel)
theorem wd_X12_fault : Cond.code jX12_fault.1 jX12_fault.2.1 jX12_fault.2.2.1 jX12_fault.2.2.2 ∈ gt_ws := gt_of 1100 (by decide +kernel) (by decide +kernel)
theorem wm_X12_fault : Cond.instanceMethod jX12_fault.1 ∈ gt_ws := gt_of 1098 (by decide +kernel) (by decide +kernel)
theorem we_X12_fault : Cond.selects jX12_fault.1.cls jX12_fault.1 jX12_fault.1 ∈ gt_ws := gt_of 1099 (by decide +kernel) (by decide +kernel)
theorem wd_X12_where : Cond.code jX12_where.1 jX12_where.2.1 jX12_where.2.2.1 jX12_where.2.2.2 ∈ gt_ws := gt_of 1104 (by decide +kernel) (by decide +kernel)
theorem wm_X12_where : Cond.instanceMethod jX12_where.1 ∈ gt_ws := gt_of 1102 (by decide +kernel) (by decide +kernel)
theorem we_X12_where : Cond.selects jX12_where.1.cls jX12_where.1 jX12_where.1 ∈ gt_ws := gt_of 1103 (by decide +kernel) (by decide +kernel)
theorem wd_X12_isPort : Cond.code jX12_isPort.1 jX12_isPort.2.1 jX12_isPort.2.2.1 jX12_isPort.2.2.2 ∈ gt_ws := gt_of 1112 (by decide +kernel) (by decide +kernel)
theorem wm_X12_isPort : Cond.instanceMethod jX12_isPort.1 ∈ gt_ws := gt_of 1111 (by decide +kernel) (by decide +kernel)
theorem we_X12_isPort : Cond.selects jX12_isPort.1.cls jX12_isPort.1 jX12_isPort.1 ∈ gt_ws := gt_sel 42 (by decide +kernel) (by decide +kernel)
theorem wd_X12_isTariff : Cond.code jX12_isTariff.1 jX12_isTariff.2.1 jX12_isTariff.2.2.1 jX12_isTariff.2.2.2 ∈ gt_ws := gt_of 1116 (by decide +kernel) (by decide +kernel)
theorem wm_X12_isTariff : Cond.instanceMethod jX12_isTariff.1 ∈ gt_ws := gt_of 1115 (by decide +kernel) (by decide +kernel)
theorem we_X12_isTariff : Cond.selects jX12_isTariff.1.cls jX12_isTariff.1 jX12_isTariff.1 ∈ gt_ws := gt_sel 43 (by decide +kernel) (by decide +kernel)
theorem wd_X12_comes : Cond.code jX12_comes.1 jX12_comes.2.1 jX12_comes.2.2.1 jX12_comes.2.2.2 ∈ gt_ws := gt_of 1124 (by decide +kernel) (by decide +kernel)
theorem wm_X12_comes : Cond.instanceMethod jX12_comes.1 ∈ gt_ws := gt_of 1123 (by decide +kernel) (by decide +kernel)
theorem we_X12_comes : Cond.selects jX12_comes.1.cls jX12_comes.1 jX12_comes.1 ∈ gt_ws := gt_sel 45 (by decide +kernel) (by decide +kernel)
theorem wd_X12_hasCome : Cond.code jX12_hasCome.1 jX12_hasCome.2.1 jX12_hasCome.2.2.1 jX12_hasCome.2.2.2 ∈ gt_ws := gt_of 1120 (by decide +kernel) (by decide +kernel)
theorem wm_X12_hasCome : Cond.instanceMethod jX12_hasCome.1 ∈ gt_ws := gt_of 1119 (by decide +kernel) (by decide +kernel)
theorem we_X12_hasCome : Cond.selects jX12_hasCome.1.cls jX12_hasCome.1 jX12_hasCome.1 ∈ gt_ws := gt_sel 44 (by decide +kernel) (by decide +kernel)
theorem wd_X12_lost : Cond.code jX12_lost.1 jX12_lost.2.1 jX12_lost.2.2.1 jX12_lost.2.2.2 ∈ gt_ws := gt_of 1108 (by decide +kernel) (by decide +kernel)
theorem wm_X12_lost : Cond.instanceMethod jX12_lost.1 ∈ gt_ws := gt_of 1106 (by decide +kernel) (by decide +kernel)
theorem we_X12_lost : Cond.selects jX12_lost.1.cls jX12_lost.1 jX12_lost.1 ∈ gt_ws := gt_of 1107 (by decide +kernel) (by decide +kernel)
theorem wd_X12_asks : Cond.code jX12_asks.1 jX12_asks.2.1 jX12_asks.2.2.1 jX12_asks.2.2.2 ∈ gt_ws := gt_of 1132 (by decide +kernel) (by decide +kernel)
theorem wm_X12_asks : Cond.instanceMethod jX12_asks.1 ∈ gt_ws := gt_of 1131 (by decide +kernel) (by decide +kernel)
theorem we_X12_asks : Cond.selects jX12_asks.1.cls jX12_asks.1 jX12_asks.1 ∈ gt_ws := gt_sel 46 (by decide +kernel) (by decide +kernel)
theorem wd_X12_pass : Cond.code jX12_pass.1 jX12_pass.2.1 jX12_pass.2.2.1 jX12_pass.2.2.2 ∈ gt_ws := gt_of 1128 (by decide +kernel) (by decide +kernel)
theorem wm_X12_pass : Cond.instanceMethod jX12_pass.1 ∈ gt_ws := gt_of 1126 (by decide +kernel) (by decide +kernel)
theorem we_X12_pass : Cond.selects jX12_pass.1.cls jX12_pass.1 jX12_pass.1 ∈ gt_ws := gt_of 1127 (by decide +kernel) (by decide +kernel)
theorem wd_X12_forceOf : Cond.code jX12_forceOf.1 jX12_forceOf.2.1 jX12_forceOf.2.2.1 jX12_forceOf.2.2.2 ∈ gt_ws := gt_of 1140 (by decide +kernel) (by decide +kernel)
theorem wm_X12_forceOf : Cond.instanceMethod jX12_forceOf.1 ∈ gt_ws := gt_of 1139 (by decide +kernel) (by decide +kernel)
theorem we_X12_forceOf : Cond.selects jX12_forceOf.1.cls jX12_forceOf.1 jX12_forceOf.1 ∈ gt_ws := gt_sel 47 (by decide +kernel) (by decide +kernel)
theorem wd_X12_force : Cond.code jX12_force.1 jX12_force.2.1 jX12_force.2.2.1 jX12_force.2.2.2 ∈ gt_ws := gt_of 1136 (by decide +kernel) (by decide +kernel)
theorem wm_X12_force : Cond.instanceMethod jX12_force.1 ∈ gt_ws := gt_of 1134 (by decide +kernel) (by decide +kernel)
theorem we_X12_force : Cond.selects jX12_force.1.cls jX12_force.1 jX12_force.1 ∈ gt_ws := gt_of 1135 (by decide +kernel) (by decide +kernel)
theorem wd_X12_came : Cond.code jX12_came.1 jX12_came.2.1 jX12_came.2.2.1 jX12_came.2.2.2 ∈ gt_ws := gt_of 1144 (by decide +kernel) (by decide +kernel)
theorem wm_X12_came : Cond.instanceMethod jX12_came.1 ∈ gt_ws := gt_of 1142 (by decide +kernel) (by decide +kernel)
theorem we_X12_came : Cond.selects jX12_came.1.cls jX12_came.1 jX12_came.1 ∈ gt_ws := gt_of 1143 (by decide +kernel) (by decide +kernel)
theorem wd_X12_asked : Cond.code jX12_asked.1 jX12_asked.2.1 jX12_asked.2.2.1 jX12_asked.2.2.2 ∈ gt_ws := gt_of 1148 (by decide +kernel) (by decide +kernel)
theorem wm_X12_asked : Cond.instanceMethod jX12_asked.1 ∈ gt_ws := gt_of 1146 (by decide +kernel) (by decide +kernel)
theorem we_X12_asked : Cond.selects jX12_asked.1.cls jX12_asked.1 jX12_asked.1 ∈ gt_ws := gt_of 1147 (by decide +kernel) (by decide +kernel)
theorem wd_X12_under : Cond.code jX12_under.1 jX12_under.2.1 jX12_under.2.2.1 jX12_under.2.2.2 ∈ gt_ws := gt_of 1152 (by decide +kernel) (by decide +kernel)
theorem wm_X12_under : Cond.instanceMethod jX12_under.1 ∈ gt_ws := gt_of 1150 (by decide +kernel) (by decide +kernel)
theorem we_X12_under : Cond.selects jX12_under.1.cls jX12_under.1 jX12_under.1 ∈ gt_ws := gt_of 1151 (by decide +kernel) (by decide +kernel)
theorem wd_X12_stock : Cond.code jX12_stock.1 jX12_stock.2.1 jX12_stock.2.2.1 jX12_stock.2.2.2 ∈ gt_ws := gt_of 1156 (by decide +kernel) (by decide +kernel)
theorem wm_X12_stock : Cond.instanceMethod jX12_stock.1 ∈ gt_ws := gt_of 1154 (by decide +kernel) (by decide +kernel)
theorem we_X12_stock : Cond.selects jX12_stock.1.cls jX12_stock.1 jX12_stock.1 ∈ gt_ws := gt_of 1155 (by decide +kernel) (by decide +kernel)
theorem wd_X12_isPaper : Cond.code jX12_isPaper.1 jX12_isPaper.2.1 jX12_isPaper.2.2.1 jX12_isPaper.2.2.2 ∈ gt_ws := gt_of 1163 (by decide +kernel) (by decide +kernel)
theorem ws_X12_isPaper : Cond.static jX12_isPaper.1 ∈ gt_ws := gt_of 1162 (by decide +kernel) (by decide +kernel)
theorem wd_X12_fee : Cond.code jX12_fee.1 jX12_fee.2.1 jX12_fee.2.2.1 jX12_fee.2.2.2 ∈ gt_ws := gt_of 1160 (by decide +kernel) (by decide +kernel)
theorem wm_X12_fee : Cond.instanceMethod jX12_fee.1 ∈ gt_ws := gt_of 1158 (by decide +kernel) (by decide +kernel)
theorem we_X12_fee : Cond.selects jX12_fee.1.cls jX12_fee.1 jX12_fee.1 ∈ gt_ws := gt_of 1159 (by decide +kernel) (by decide +kernel)
theorem wd_X12_chooses : Cond.code jX12_chooses.1 jX12_chooses.2.1 jX12_chooses.2.2.1 jX12_chooses.2.2.2 ∈ gt_ws := gt_of 1179 (by decide +kernel) (by decide +kernel)
theorem wm_X12_chooses : Cond.instanceMethod jX12_chooses.1 ∈ gt_ws := gt_of 1178 (by decide +kernel) (by decide +kernel)
theorem we_X12_chooses : Cond.selects jX12_chooses.1.cls jX12_chooses.1 jX12_chooses.1 ∈ gt_ws := gt_sel 49 (by decide +kernel) (by decide +kernel)
theorem wd_X12_seal : Cond.code jX12_seal.1 jX12_seal.2.1 jX12_seal.2.2.1 jX12_seal.2.2.2 ∈ gt_ws := gt_of 1175 (by decide +kernel) (by decide +kernel)
theorem wm_X12_seal : Cond.instanceMethod jX12_seal.1 ∈ gt_ws := gt_of 1173 (by decide +kernel) (by decide +kernel)
theorem we_X12_seal : Cond.selects jX12_seal.1.cls jX12_seal.1 jX12_seal.1 ∈ gt_ws := gt_of 1174 (by decide +kernel) (by decide +kernel)
theorem wd_X12_homeOf : Cond.code jX12_homeOf.1 jX12_homeOf.2.1 jX12_homeOf.2.2.1 jX12_homeOf.2.2.2 ∈ gt_ws := gt_of 1200 (by decide +kernel) (by decide +kernel)
theorem wm_X12_homeOf : Cond.instanceMethod jX12_homeOf.1 ∈ gt_ws := gt_of 1199 (by decide +kernel) (by decide +kernel)
theorem we_X12_homeOf : Cond.selects jX12_homeOf.1.cls jX12_homeOf.1 jX12_homeOf.1 ∈ gt_ws := gt_sel 50 (by decide +kernel) (by decide +kernel)
theorem wd_X12_paper : Cond.code jX12_paper.1 jX12_paper.2.1 jX12_paper.2.2.1 jX12_paper.2.2.2 ∈ gt_ws := gt_of 1196 (by decide +kernel) (by decide +kernel)
theorem wm_X12_paper : Cond.instanceMethod jX12_paper.1 ∈ gt_ws := gt_of 1194 (by decide +kernel) (by decide +kernel)
theorem we_X12_paper : Cond.selects jX12_paper.1.cls jX12_paper.1 jX12_paper.1 ∈ gt_ws := gt_of 1195 (by decide +kernel) (by decide +kernel)
theorem wd_X12_stamps : Cond.code jX12_stamps.1 jX12_stamps.2.1 jX12_stamps.2.2.1 jX12_stamps.2.2.2 ∈ gt_ws := gt_of 1204 (by decide +kernel) (by decide +kernel)
theorem wm_X12_stamps : Cond.instanceMethod jX12_stamps.1 ∈ gt_ws := gt_of 1202 (by decide +kernel) (by decide +kernel)
theorem we_X12_stamps : Cond.selects jX12_stamps.1.cls jX12_stamps.1 jX12_stamps.1 ∈ gt_ws := gt_of 1203 (by decide +kernel) (by decide +kernel)
theorem wd_X12_about : Cond.code jX12_about.1 jX12_about.2.1 jX12_about.2.2.1 jX12_about.2.2.2 ∈ gt_ws := gt_of 1208 (by decide +kernel) (by decide +kernel)
theorem wm_X12_about : Cond.instanceMethod jX12_about.1 ∈ gt_ws := gt_of 1206 (by decide +kernel) (by decide +kernel)
theorem we_X12_about : Cond.selects jX12_about.1.cls jX12_about.1 jX12_about.1 ∈ gt_ws := gt_of 1207 (by decide +kernel) (by decide +kernel)
theorem wd_X12_known : Cond.code jX12_known.1 jX12_known.2.1 jX12_known.2.2.1 jX12_known.2.2.2 ∈ gt_ws := gt_of 1212 (by decide +kernel) (by decide +kernel)
theorem wm_X12_known : Cond.instanceMethod jX12_known.1 ∈ gt_ws := gt_of 1210 (by decide +kernel) (by decide +kernel)
theorem we_X12_known : Cond.selects jX12_known.1.cls jX12_known.1 jX12_known.1 ∈ gt_ws := gt_of 1211 (by decide +kernel) (by decide +kernel)
theorem wd_X12_sum : Cond.code jX12_sum.1 jX12_sum.2.1 jX12_sum.2.2.1 jX12_sum.2.2.2 ∈ gt_ws := gt_of 1216 (by decide +kernel) (by decide +kernel)
theorem wm_X12_sum : Cond.instanceMethod jX12_sum.1 ∈ gt_ws := gt_of 1214 (by decide +kernel) (by decide +kernel)
theorem we_X12_sum : Cond.selects jX12_sum.1.cls jX12_sum.1 jX12_sum.1 ∈ gt_ws := gt_of 1215 (by decide +kernel) (by decide +kernel)
theorem wd_X12_homesFee : Cond.code jX12_homesFee.1 jX12_homesFee.2.1 jX12_homesFee.2.2.1 jX12_homesFee.2.2.2 ∈ gt_ws := gt_of 1224 (by decide +kernel) (by decide +kernel)
theorem wm_X12_homesFee : Cond.instanceMethod jX12_homesFee.1 ∈ gt_ws := gt_of 1223 (by decide +kernel) (by decide +kernel)
theorem we_X12_homesFee : Cond.selects jX12_homesFee.1.cls jX12_homesFee.1 jX12_homesFee.1 ∈ gt_ws := gt_sel 51 (by decide +kernel) (by decide +kernel)
theorem wd_X12_homes : Cond.code jX12_homes.1 jX12_homes.2.1 jX12_homes.2.2.1 jX12_homes.2.2.2 ∈ gt_ws := gt_of 1220 (by decide +kernel) (by decide +kernel)
theorem wm_X12_homes : Cond.instanceMethod jX12_homes.1 ∈ gt_ws := gt_of 1218 (by decide +kernel) (by decide +kernel)
theorem we_X12_homes : Cond.selects jX12_homes.1.cls jX12_homes.1 jX12_homes.1 ∈ gt_ws := gt_of 1219 (by decide +kernel) (by decide +kernel)
theorem wd_X12_difference : Cond.code jX12_difference.1 jX12_difference.2.1 jX12_difference.2.2.1 jX12_difference.2.2.2 ∈ gt_ws := gt_of 1228 (by decide +kernel) (by decide +kernel)
theorem wm_X12_difference : Cond.instanceMethod jX12_difference.1 ∈ gt_ws := gt_of 1226 (by decide +kernel) (by decide +kernel)
theorem we_X12_difference : Cond.selects jX12_difference.1.cls jX12_difference.1 jX12_difference.1 ∈ gt_ws := gt_of 1227 (by decide +kernel) (by decide +kernel)
theorem wd_X12_unlike : Cond.code jX12_unlike.1 jX12_unlike.2.1 jX12_unlike.2.2.1 jX12_unlike.2.2.2 ∈ gt_ws := gt_of 1232 (by decide +kernel) (by decide +kernel)
theorem wm_X12_unlike : Cond.instanceMethod jX12_unlike.1 ∈ gt_ws := gt_of 1230 (by decide +kernel) (by decide +kernel)
theorem we_X12_unlike : Cond.selects jX12_unlike.1.cls jX12_unlike.1 jX12_unlike.1 ∈ gt_ws := gt_of 1231 (by decide +kernel) (by decide +kernel)
theorem wd_X12_count : Cond.code jX12_count.1 jX12_count.2.1 jX12_count.2.2.1 jX12_count.2.2.2 ∈ gt_ws := gt_of 1236 (by decide +kernel) (by decide +kernel)
theorem wm_X12_count : Cond.instanceMethod jX12_count.1 ∈ gt_ws := gt_of 1234 (by decide +kernel) (by decide +kernel)
theorem we_X12_count : Cond.selects jX12_count.1.cls jX12_count.1 jX12_count.1 ∈ gt_ws := gt_of 1235 (by decide +kernel) (by decide +kernel)
theorem wd_X12_trouble : Cond.code jX12_trouble.1 jX12_trouble.2.1 jX12_trouble.2.2.1 jX12_trouble.2.2.2 ∈ gt_ws := gt_of 1240 (by decide +kernel) (by decide +kernel)
theorem wm_X12_trouble : Cond.instanceMethod jX12_trouble.1 ∈ gt_ws := gt_of 1238 (by decide +kernel) (by decide +kernel)
theorem we_X12_trouble : Cond.selects jX12_trouble.1.cls jX12_trouble.1 jX12_trouble.1 ∈ gt_ws := gt_of 1239 (by decide +kernel) (by decide +kernel)
theorem wd_J11_isValidCodePoint_9a6ad : Cond.code jJ11_isValidCodePoint_9a6ad.1 jJ11_isValidCodePoint_9a6ad.2.1 jJ11_isValidCodePoint_9a6ad.2.2.1 jJ11_isValidCodePoint_9a6ad.2.2.2 ∈ gt_ws := gt_of 366 (by decide +kernel) (by decide +kernel)
theorem ws_J11_isValidCodePoint_9a6ad : Cond.static jJ11_isValidCodePoint_9a6ad.1 ∈ gt_ws := gt_of 365 (by decide +kernel) (by decide +kernel)
theorem wd_J11_highSurrogate_5068e : Cond.code jJ11_highSurrogate_5068e.1 jJ11_highSurrogate_5068e.2.1 jJ11_highSurrogate_5068e.2.2.1 jJ11_highSurrogate_5068e.2.2.2 ∈ gt_ws := gt_of 369 (by decide +kernel) (by decide +kernel)
theorem ws_J11_highSurrogate_5068e : Cond.static jJ11_highSurrogate_5068e.1 ∈ gt_ws := gt_of 368 (by decide +kernel) (by decide +kernel)
theorem wd_J11_lowSurrogate_5068e : Cond.code jJ11_lowSurrogate_5068e.1 jJ11_lowSurrogate_5068e.2.1 jJ11_lowSurrogate_5068e.2.2.1 jJ11_lowSurrogate_5068e.2.2.2 ∈ gt_ws := gt_of 373 (by decide +kernel) (by decide +kernel)
theorem ws_J11_lowSurrogate_5068e : Cond.static jJ11_lowSurrogate_5068e.1 ∈ gt_ws := gt_of 372 (by decide +kernel) (by decide +kernel)
theorem wd_J9_max_7cf53 : Cond.code jJ9_max_7cf53.1 jJ9_max_7cf53.2.1 jJ9_max_7cf53.2.2.1 jJ9_max_7cf53.2.2.2 ∈ gt_ws := gt_of 333 (by decide +kernel) (by decide +kernel)
theorem ws_J9_max_7cf53 : Cond.static jJ9_max_7cf53.1 ∈ gt_ws := gt_of 332 (by decide +kernel) (by decide +kernel)
theorem wd_J9_min_7cf53 : Cond.code jJ9_min_7cf53.1 jJ9_min_7cf53.2.1 jJ9_min_7cf53.2.2.1 jJ9_min_7cf53.2.2.2 ∈ gt_ws := gt_of 336 (by decide +kernel) (by decide +kernel)
theorem ws_J9_min_7cf53 : Cond.static jJ9_min_7cf53.1 ∈ gt_ws := gt_of 335 (by decide +kernel) (by decide +kernel)
theorem wd_J9_min_f86c9 : Cond.code jJ9_min_f86c9.1 jJ9_min_f86c9.2.1 jJ9_min_f86c9.2.2.1 jJ9_min_f86c9.2.2.2 ∈ gt_ws := gt_of 1189 (by decide +kernel) (by decide +kernel)
theorem ws_J9_min_f86c9 : Cond.static jJ9_min_f86c9.1 ∈ gt_ws := gt_of 1188 (by decide +kernel) (by decide +kernel)
theorem wd_J0_length_8abf5 : Cond.code jJ0_length_8abf5.1 jJ0_length_8abf5.2.1 jJ0_length_8abf5.2.2.1 jJ0_length_8abf5.2.2.2 ∈ gt_ws := gt_of 252 (by decide +kernel) (by decide +kernel)
theorem wm_J0_length_8abf5 : Cond.instanceMethod jJ0_length_8abf5.1 ∈ gt_ws := gt_of 250 (by decide +kernel) (by decide +kernel)
theorem we_J0_length_8abf5 : Cond.selects jJ0_length_8abf5.1.cls jJ0_length_8abf5.1 jJ0_length_8abf5.1 ∈ gt_ws := gt_of 251 (by decide +kernel) (by decide +kernel)
theorem wd_J0_charAt_5068e : Cond.code jJ0_charAt_5068e.1 jJ0_charAt_5068e.2.1 jJ0_charAt_5068e.2.2.1 jJ0_charAt_5068e.2.2.2 ∈ gt_ws := gt_of 262 (by decide +kernel) (by decide +kernel)
theorem wm_J0_charAt_5068e : Cond.instanceMethod jJ0_charAt_5068e.1 ∈ gt_ws := gt_of 260 (by decide +kernel) (by decide +kernel)
theorem we_J0_charAt_5068e : Cond.selects jJ0_charAt_5068e.1.cls jJ0_charAt_5068e.1 jJ0_charAt_5068e.1 ∈ gt_ws := gt_of 261 (by decide +kernel) (by decide +kernel)
theorem wd_J0_indexOf_0f7a4 : Cond.code jJ0_indexOf_0f7a4.1 jJ0_indexOf_0f7a4.2.1 jJ0_indexOf_0f7a4.2.2.1 jJ0_indexOf_0f7a4.2.2.2 ∈ gt_ws := gt_of 319 (by decide +kernel) (by decide +kernel)
theorem wm_J0_indexOf_0f7a4 : Cond.instanceMethod jJ0_indexOf_0f7a4.1 ∈ gt_ws := gt_of 317 (by decide +kernel) (by decide +kernel)
theorem we_J0_indexOf_0f7a4 : Cond.selects jJ0_indexOf_0f7a4.1.cls jJ0_indexOf_0f7a4.1 jJ0_indexOf_0f7a4.1 ∈ gt_ws := gt_of 318 (by decide +kernel) (by decide +kernel)
theorem wd_J0_indexOf_7cf53 : Cond.code jJ0_indexOf_7cf53.1 jJ0_indexOf_7cf53.2.1 jJ0_indexOf_7cf53.2.2.1 jJ0_indexOf_7cf53.2.2.2 ∈ gt_ws := gt_of 323 (by decide +kernel) (by decide +kernel)
theorem wm_J0_indexOf_7cf53 : Cond.instanceMethod jJ0_indexOf_7cf53.1 ∈ gt_ws := gt_of 321 (by decide +kernel) (by decide +kernel)
theorem we_J0_indexOf_7cf53 : Cond.selects jJ0_indexOf_7cf53.1.cls jJ0_indexOf_7cf53.1 jJ0_indexOf_7cf53.1 ∈ gt_ws := gt_of 322 (by decide +kernel) (by decide +kernel)
theorem wd_J0_coder_7d493 : Cond.code jJ0_coder_7d493.1 jJ0_coder_7d493.2.1 jJ0_coder_7d493.2.2.1 jJ0_coder_7d493.2.2.2 ∈ gt_ws := gt_of 256 (by decide +kernel) (by decide +kernel)
theorem wm_J0_coder_7d493 : Cond.instanceMethod jJ0_coder_7d493.1 ∈ gt_ws := gt_of 254 (by decide +kernel) (by decide +kernel)
theorem we_J0_coder_7d493 : Cond.selects jJ0_coder_7d493.1.cls jJ0_coder_7d493.1 jJ0_coder_7d493.1 ∈ gt_ws := gt_of 255 (by decide +kernel) (by decide +kernel)
theorem wd_J0_isLatin1_aae02 : Cond.code jJ0_isLatin1_aae02.1 jJ0_isLatin1_aae02.2.1 jJ0_isLatin1_aae02.2.2.1 jJ0_isLatin1_aae02.2.2.2 ∈ gt_ws := gt_of 266 (by decide +kernel) (by decide +kernel)
theorem wm_J0_isLatin1_aae02 : Cond.instanceMethod jJ0_isLatin1_aae02.1 ∈ gt_ws := gt_of 264 (by decide +kernel) (by decide +kernel)
theorem we_J0_isLatin1_aae02 : Cond.selects jJ0_isLatin1_aae02.1.cls jJ0_isLatin1_aae02.1 jJ0_isLatin1_aae02.1 ∈ gt_ws := gt_of 265 (by decide +kernel) (by decide +kernel)
theorem wd_J0_checkIndex_df160 : Cond.code jJ0_checkIndex_df160.1 jJ0_checkIndex_df160.2.1 jJ0_checkIndex_df160.2.2.1 jJ0_checkIndex_df160.2.2.2 ∈ gt_ws := gt_of 272 (by decide +kernel) (by decide +kernel)
theorem ws_J0_checkIndex_df160 : Cond.static jJ0_checkIndex_df160.1 ∈ gt_ws := gt_of 271 (by decide +kernel) (by decide +kernel)
theorem wd_J0_checkBoundsBeginEnd_23922 : Cond.code jJ0_checkBoundsBeginEnd_23922.1 jJ0_checkBoundsBeginEnd_23922.2.1 jJ0_checkBoundsBeginEnd_23922.2.2.1 jJ0_checkBoundsBeginEnd_23922.2.2.2 ∈ gt_ws := gt_of 354 (by decide +kernel) (by decide +kernel)
theorem ws_J0_checkBoundsBeginEnd_23922 : Cond.static jJ0_checkBoundsBeginEnd_23922.1 ∈ gt_ws := gt_of 353 (by decide +kernel) (by decide +kernel)
theorem wd_J1_charAt_3b067 : Cond.code jJ1_charAt_3b067.1 jJ1_charAt_3b067.2.1 jJ1_charAt_3b067.2.2.1 jJ1_charAt_3b067.2.2.2 ∈ gt_ws := gt_of 269 (by decide +kernel) (by decide +kernel)
theorem ws_J1_charAt_3b067 : Cond.static jJ1_charAt_3b067.1 ∈ gt_ws := gt_of 268 (by decide +kernel) (by decide +kernel)
theorem wd_J1_canEncode_9a6ad : Cond.code jJ1_canEncode_9a6ad.1 jJ1_canEncode_9a6ad.2.1 jJ1_canEncode_9a6ad.2.2.1 jJ1_canEncode_9a6ad.2.2.2 ∈ gt_ws := gt_of 330 (by decide +kernel) (by decide +kernel)
theorem ws_J1_canEncode_9a6ad : Cond.static jJ1_canEncode_9a6ad.1 ∈ gt_ws := gt_of 329 (by decide +kernel) (by decide +kernel)
theorem wd_J1_indexOf_4cfef : Cond.code jJ1_indexOf_4cfef.1 jJ1_indexOf_4cfef.2.1 jJ1_indexOf_4cfef.2.2.1 jJ1_indexOf_4cfef.2.2.2 ∈ gt_ws := gt_of 327 (by decide +kernel) (by decide +kernel)
theorem ws_J1_indexOf_4cfef : Cond.static jJ1_indexOf_4cfef.1 ∈ gt_ws := gt_of 326 (by decide +kernel) (by decide +kernel)
theorem wd_J1_indexOfChar_4cfef : Cond.code jJ1_indexOfChar_4cfef.1 jJ1_indexOfChar_4cfef.2.1 jJ1_indexOfChar_4cfef.2.2.1 jJ1_indexOfChar_4cfef.2.2.2 ∈ gt_ws := gt_of 339 (by decide +kernel) (by decide +kernel)
theorem ws_J1_indexOfChar_4cfef : Cond.static jJ1_indexOfChar_4cfef.1 ∈ gt_ws := gt_of 338 (by decide +kernel) (by decide +kernel)
theorem wd_J2_getChar_3b067 : Cond.code jJ2_getChar_3b067.1 jJ2_getChar_3b067.2.1 jJ2_getChar_3b067.2.2.1 jJ2_getChar_3b067.2.2.2 ∈ gt_ws := gt_of 290 (by decide +kernel) (by decide +kernel)
theorem ws_J2_getChar_3b067 : Cond.static jJ2_getChar_3b067.1 ∈ gt_ws := gt_of 289 (by decide +kernel) (by decide +kernel)
theorem wd_J2_length_9d52b : Cond.code jJ2_length_9d52b.1 jJ2_length_9d52b.2.1 jJ2_length_9d52b.2.2.1 jJ2_length_9d52b.2.2.2 ∈ gt_ws := gt_of 286 (by decide +kernel) (by decide +kernel)
theorem ws_J2_length_9d52b : Cond.static jJ2_length_9d52b.1 ∈ gt_ws := gt_of 285 (by decide +kernel) (by decide +kernel)
theorem wd_J2_indexOf_4cfef : Cond.code jJ2_indexOf_4cfef.1 jJ2_indexOf_4cfef.2.1 jJ2_indexOf_4cfef.2.2.1 jJ2_indexOf_4cfef.2.2.2 ∈ gt_ws := gt_of 342 (by decide +kernel) (by decide +kernel)
theorem ws_J2_indexOf_4cfef : Cond.static jJ2_indexOf_4cfef.1 ∈ gt_ws := gt_of 341 (by decide +kernel) (by decide +kernel)
theorem wd_J2_indexOfChar_4cfef : Cond.code jJ2_indexOfChar_4cfef.1 jJ2_indexOfChar_4cfef.2.1 jJ2_indexOfChar_4cfef.2.2.1 jJ2_indexOfChar_4cfef.2.2.2 ∈ gt_ws := gt_of 348 (by decide +kernel) (by decide +kernel)
theorem ws_J2_indexOfChar_4cfef : Cond.static jJ2_indexOfChar_4cfef.1 ∈ gt_ws := gt_of 347 (by decide +kernel) (by decide +kernel)
theorem wd_J2_indexOfCharUnsafe_4cfef : Cond.code jJ2_indexOfCharUnsafe_4cfef.1 jJ2_indexOfCharUnsafe_4cfef.2.1 jJ2_indexOfCharUnsafe_4cfef.2.2.1 jJ2_indexOfCharUnsafe_4cfef.2.2.2 ∈ gt_ws := gt_of 360 (by decide +kernel) (by decide +kernel)
theorem ws_J2_indexOfCharUnsafe_4cfef : Cond.static jJ2_indexOfCharUnsafe_4cfef.1 ∈ gt_ws := gt_of 359 (by decide +kernel) (by decide +kernel)
theorem wd_J2_indexOfSupplementary_4cfef : Cond.code jJ2_indexOfSupplementary_4cfef.1 jJ2_indexOfSupplementary_4cfef.2.1 jJ2_indexOfSupplementary_4cfef.2.2.1 jJ2_indexOfSupplementary_4cfef.2.2.2 ∈ gt_ws := gt_of 363 (by decide +kernel) (by decide +kernel)
theorem ws_J2_indexOfSupplementary_4cfef : Cond.static jJ2_indexOfSupplementary_4cfef.1 ∈ gt_ws := gt_of 362 (by decide +kernel) (by decide +kernel)
theorem wd_J2_charAt_3b067 : Cond.code jJ2_charAt_3b067.1 jJ2_charAt_3b067.2.1 jJ2_charAt_3b067.2.2.1 jJ2_charAt_3b067.2.2.2 ∈ gt_ws := gt_of 280 (by decide +kernel) (by decide +kernel)
theorem ws_J2_charAt_3b067 : Cond.static jJ2_charAt_3b067.1 ∈ gt_ws := gt_of 279 (by decide +kernel) (by decide +kernel)
theorem wd_J2_checkIndex_2214a : Cond.code jJ2_checkIndex_2214a.1 jJ2_checkIndex_2214a.2.1 jJ2_checkIndex_2214a.2.2.1 jJ2_checkIndex_2214a.2.2.2 ∈ gt_ws := gt_of 283 (by decide +kernel) (by decide +kernel)
theorem ws_J2_checkIndex_2214a : Cond.static jJ2_checkIndex_2214a.1 ∈ gt_ws := gt_of 282 (by decide +kernel) (by decide +kernel)
theorem wd_J2_checkBoundsBeginEnd_d044e : Cond.code jJ2_checkBoundsBeginEnd_d044e.1 jJ2_checkBoundsBeginEnd_d044e.2.1 jJ2_checkBoundsBeginEnd_d044e.2.2.1 jJ2_checkBoundsBeginEnd_d044e.2.2.2 ∈ gt_ws := gt_of 351 (by decide +kernel) (by decide +kernel)
theorem ws_J2_checkBoundsBeginEnd_d044e : Cond.static jJ2_checkBoundsBeginEnd_d044e.1 ∈ gt_ws := gt_of 350 (by decide +kernel) (by decide +kernel)
theorem wd_J3_checkIndex_8e157 : Cond.code jJ3_checkIndex_8e157.1 jJ3_checkIndex_8e157.2.1 jJ3_checkIndex_8e157.2.2.1 jJ3_checkIndex_8e157.2.2.2 ∈ gt_ws := gt_of 277 (by decide +kernel) (by decide +kernel)
theorem ws_J3_checkIndex_8e157 : Cond.static jJ3_checkIndex_8e157.1 ∈ gt_ws := gt_of 276 (by decide +kernel) (by decide +kernel)
theorem wd_J3_checkFromToIndex_8c36e : Cond.code jJ3_checkFromToIndex_8c36e.1 jJ3_checkFromToIndex_8c36e.2.1 jJ3_checkFromToIndex_8c36e.2.2.1 jJ3_checkFromToIndex_8c36e.2.2.2 ∈ gt_ws := gt_of 357 (by decide +kernel) (by decide +kernel)
theorem ws_J3_checkFromToIndex_8c36e : Cond.static jJ3_checkFromToIndex_8c36e.1 ∈ gt_ws := gt_of 356 (by decide +kernel) (by decide +kernel)
theorem lo_X0_1 : Cond.methodLink RX0 1 objectInit ∈ gt_ws := gt_of 106 (by decide +kernel) (by decide +kernel)
theorem wf_X0_13 : Cond.fieldLink RX0 13 (TX0 0).1 (TX0 0).2.1 (TX0 0).2.2.1 ∈ gt_ws := gt_of 109 (by decide +kernel) (by decide +kernel)
theorem wf_X0_18 : Cond.fieldLink RX0 18 (TX0 1).1 (TX0 1).2.1 (TX0 1).2.2.1 ∈ gt_ws := gt_of 110 (by decide +kernel) (by decide +kernel)
theorem wf_X0_21 : Cond.fieldLink RX0 21 (TX0 2).1 (TX0 2).2.1 (TX0 2).2.2.1 ∈ gt_ws := gt_of 111 (by decide +kernel) (by decide +kernel)
theorem lk_X0_25 : lk_V RX0 25 jX0_tryWorth 4 := ⟨⟨gt_of 681 (by decide +kernel) (by decide +kernel), wd_X0_tryWorth, wn_X0, by decide +kernel, by decide⟩, wm_X0_tryWorth, we_X0_tryWorth⟩
theorem wc_X0_30 : Cond.classLink RX0 30 "[I" ∈ gt_ws := gt_of 691 (by decide +kernel) (by decide +kernel)
theorem lk_X0_37 : lk_S RX0 37 jJ9_min_7cf53 2 := ⟨⟨gt_of 694 (by decide +kernel) (by decide +kernel), wd_J9_min_7cf53, wn_J9, by decide +kernel, by decide⟩, ws_J9_min_7cf53⟩
theorem lk_X0_43 : lk_S RX0 43 jJ9_max_7cf53 2 := ⟨⟨gt_of 695 (by decide +kernel) (by decide +kernel), wd_J9_max_7cf53, wn_J9, by decide +kernel, by decide⟩, ws_J9_max_7cf53⟩
theorem lo_X1_3 : Cond.methodLink RX1 3 objectInit ∈ gt_ws := gt_of 402 (by decide +kernel) (by decide +kernel)
theorem wc_X1_9 : Cond.classLink RX1 9 RX8 ∈ gt_ws := gt_of 403 (by decide +kernel) (by decide +kernel)
theorem wf_X1_11 : Cond.fieldLink RX1 11 (TX1 1).1 (TX1 1).2.1 (TX1 1).2.2.1 ∈ gt_ws := gt_of 408 (by decide +kernel) (by decide +kernel)
theorem wc_X1_17 : Cond.classLink RX1 17 RX7 ∈ gt_ws := gt_of 405 (by decide +kernel) (by decide +kernel)
theorem wf_X1_19 : Cond.fieldLink RX1 19 (TX1 2).1 (TX1 2).2.1 (TX1 2).2.2.1 ∈ gt_ws := gt_of 410 (by decide +kernel) (by decide +kernel)
theorem wf_X1_23 : Cond.fieldLink RX1 23 (TX1 0).1 (TX1 0).2.1 (TX1 0).2.2.1 ∈ gt_ws := gt_of 407 (by decide +kernel) (by decide +kernel)
theorem wf_X1_27 : Cond.fieldLink RX1 27 (TX2 1).1 (TX2 1).2.1 (TX2 1).2.2.1 ∈ gt_ws := gt_of 614 (by decide +kernel) (by decide +kernel)
theorem lk_X1_30 : lk_V RX1 30 jX8_holds 1 := ⟨⟨gt_of 655 (by decide +kernel) (by decide +kernel), wd_X8_holds, wn_X8, by decide +kernel, by decide⟩, wm_X8_holds, we_X8_holds⟩
theorem lk_X1_34 : lk_V RX1 34 jX7_amount 1 := ⟨⟨gt_of 667 (by decide +kernel) (by decide +kernel), wd_X7_amount, wn_X7, by decide +kernel, by decide⟩, wm_X7_amount, we_X7_amount⟩
theorem lk_X1_38 : lk_S RX1 38 jJ9_min_7cf53 2 := ⟨⟨gt_of 672 (by decide +kernel) (by decide +kernel), wd_J9_min_7cf53, wn_J9, by decide +kernel, by decide⟩, ws_J9_min_7cf53⟩
theorem lo_X2_3 : Cond.methodLink RX2 3 objectInit ∈ gt_ws := gt_of 610 (by decide +kernel) (by decide +kernel)
theorem wf_X2_9 : Cond.fieldLink RX2 9 (TX2 5).1 (TX2 5).2.1 (TX2 5).2.2.1 ∈ gt_ws := gt_of 621 (by decide +kernel) (by decide +kernel)
theorem wf_X2_15 : Cond.fieldLink RX2 15 (TX2 6).1 (TX2 6).2.1 (TX2 6).2.2.1 ∈ gt_ws := gt_of 623 (by decide +kernel) (by decide +kernel)
theorem wf_X2_18 : Cond.fieldLink RX2 18 (TX2 7).1 (TX2 7).2.1 (TX2 7).2.2.1 ∈ gt_ws := gt_of 625 (by decide +kernel) (by decide +kernel)
theorem wf_X2_21 : Cond.fieldLink RX2 21 (TX2 8).1 (TX2 8).2.1 (TX2 8).2.2.1 ∈ gt_ws := gt_of 627 (by decide +kernel) (by decide +kernel)
theorem wf_X2_25 : Cond.fieldLink RX2 25 (TX2 0).1 (TX2 0).2.1 (TX2 0).2.2.1 ∈ gt_ws := gt_of 611 (by decide +kernel) (by decide +kernel)
theorem wf_X2_28 : Cond.fieldLink RX2 28 (TX2 1).1 (TX2 1).2.1 (TX2 1).2.2.1 ∈ gt_ws := gt_of 613 (by decide +kernel) (by decide +kernel)
theorem wf_X2_31 : Cond.fieldLink RX2 31 (TX2 2).1 (TX2 2).2.1 (TX2 2).2.2.1 ∈ gt_ws := gt_of 616 (by decide +kernel) (by decide +kernel)
theorem wf_X2_34 : Cond.fieldLink RX2 34 (TX2 3).1 (TX2 3).2.1 (TX2 3).2.2.1 ∈ gt_ws := gt_of 618 (by decide +kernel) (by decide +kernel)
theorem wf_X2_37 : Cond.fieldLink RX2 37 (TX2 4).1 (TX2 4).2.1 (TX2 4).2.2.1 ∈ gt_ws := gt_of 620 (by decide +kernel) (by decide +kernel)
theorem lk_X2_43 : lk_V RX2 43 jX2_stampsOf 1 := ⟨⟨gt_of 718 (by decide +kernel) (by decide +kernel), wd_X2_stampsOf, wn_X2, by decide +kernel, by decide⟩, wm_X2_stampsOf, we_X2_stampsOf⟩
theorem lo_X3_3 : Cond.methodLink RX3 3 objectInit ∈ gt_ws := gt_of 171 (by decide +kernel) (by decide +kernel)
theorem wf_X3_13 : Cond.fieldLink RX3 13 (TX3 2).1 (TX3 2).2.1 (TX3 2).2.2.1 ∈ gt_ws := gt_of 176 (by decide +kernel) (by decide +kernel)
theorem wf_X3_18 : Cond.fieldLink RX3 18 (TX3 3).1 (TX3 3).2.1 (TX3 3).2.2.1 ∈ gt_ws := gt_of 178 (by decide +kernel) (by decide +kernel)
theorem wf_X3_21 : Cond.fieldLink RX3 21 (TX3 4).1 (TX3 4).2.1 (TX3 4).2.2.1 ∈ gt_ws := gt_of 179 (by decide +kernel) (by decide +kernel)
theorem wf_X3_25 : Cond.fieldLink RX3 25 (TX3 5).1 (TX3 5).2.1 (TX3 5).2.2.1 ∈ gt_ws := gt_of 180 (by decide +kernel) (by decide +kernel)
theorem wf_X3_29 : Cond.fieldLink RX3 29 (TX3 6).1 (TX3 6).2.1 (TX3 6).2.2.1 ∈ gt_ws := gt_of 181 (by decide +kernel) (by decide +kernel)
theorem wf_X3_32 : Cond.fieldLink RX3 32 (TX3 7).1 (TX3 7).2.1 (TX3 7).2.2.1 ∈ gt_ws := gt_of 183 (by decide +kernel) (by decide +kernel)
theorem wf_X3_35 : Cond.fieldLink RX3 35 (TX3 0).1 (TX3 0).2.1 (TX3 0).2.2.1 ∈ gt_ws := gt_of 173 (by decide +kernel) (by decide +kernel)
theorem wf_X3_38 : Cond.fieldLink RX3 38 (TX3 1).1 (TX3 1).2.1 (TX3 1).2.2.1 ∈ gt_ws := gt_of 175 (by decide +kernel) (by decide +kernel)
theorem lk_X3_41 : lk_V RX3 41 jX3_wasSent 1 := ⟨⟨gt_of 520 (by decide +kernel) (by decide +kernel), wd_X3_wasSent, wn_X3, by decide +kernel, by decide⟩, wm_X3_wasSent, we_X3_wasSent⟩
theorem lk_X3_45 : lk_V RX3 45 jX3_askDay 2 := ⟨⟨gt_of 537 (by decide +kernel) (by decide +kernel), wd_X3_askDay, wn_X3, by decide +kernel, by decide⟩, wm_X3_askDay, we_X3_askDay⟩
theorem lk_X3_49 : lk_V RX3 49 jX3_comeDay 2 := ⟨⟨gt_of 533 (by decide +kernel) (by decide +kernel), wd_X3_comeDay, wn_X3, by decide +kernel, by decide⟩, wm_X3_comeDay, we_X3_comeDay⟩
theorem lk_X3_52 : lk_V RX3 52 jX3_accountsSent 1 := ⟨⟨gt_of 559 (by decide +kernel) (by decide +kernel), wd_X3_accountsSent, wn_X3, by decide +kernel, by decide⟩, wm_X3_accountsSent, we_X3_accountsSent⟩
theorem lk_X3_56 : lk_V RX3 56 jX3_accountsCome 1 := ⟨⟨gt_of 566 (by decide +kernel) (by decide +kernel), wd_X3_accountsCome, wn_X3, by decide +kernel, by decide⟩, wm_X3_accountsCome, we_X3_accountsCome⟩
theorem lk_X3_59 : lk_V RX3 59 jX3_isOut 2 := ⟨⟨gt_of 571 (by decide +kernel) (by decide +kernel), wd_X3_isOut, wn_X3, by decide +kernel, by decide⟩, wm_X3_isOut, we_X3_isOut⟩
theorem lk_X3_63 : lk_V RX3 63 jX3_isAskOut 2 := ⟨⟨gt_of 575 (by decide +kernel) (by decide +kernel), wd_X3_isAskOut, wn_X3, by decide +kernel, by decide⟩, wm_X3_isAskOut, we_X3_isAskOut⟩
theorem lk_X3_69 : lk_S RX3 69 jJ9_max_7cf53 2 := ⟨⟨gt_of 570 (by decide +kernel) (by decide +kernel), wd_J9_max_7cf53, wn_J9, by decide +kernel, by decide⟩, ws_J9_max_7cf53⟩
theorem lk_X3_74 : lk_V RX3 74 jX3_addStamps 2 := ⟨⟨gt_of 704 (by decide +kernel) (by decide +kernel), wd_X3_addStamps, wn_X3, by decide +kernel, by decide⟩, wm_X3_addStamps, we_X3_addStamps⟩
theorem lo_X4_3 : Cond.methodLink RX4 3 objectInit ∈ gt_ws := gt_of 79 (by decide +kernel) (by decide +kernel)
theorem wf_X4_9 : Cond.fieldLink RX4 9 (TX4 0).1 (TX4 0).2.1 (TX4 0).2.2.1 ∈ gt_ws := gt_of 80 (by decide +kernel) (by decide +kernel)
theorem wf_X4_15 : Cond.fieldLink RX4 15 (TX4 1).1 (TX4 1).2.1 (TX4 1).2.2.1 ∈ gt_ws := gt_of 82 (by decide +kernel) (by decide +kernel)
theorem wf_X4_18 : Cond.fieldLink RX4 18 (TX4 3).1 (TX4 3).2.1 (TX4 3).2.2.1 ∈ gt_ws := gt_of 85 (by decide +kernel) (by decide +kernel)
theorem wf_X4_21 : Cond.fieldLink RX4 21 (TX4 4).1 (TX4 4).2.1 (TX4 4).2.2.1 ∈ gt_ws := gt_of 86 (by decide +kernel) (by decide +kernel)
theorem wf_X4_24 : Cond.fieldLink RX4 24 (TX4 5).1 (TX4 5).2.1 (TX4 5).2.2.1 ∈ gt_ws := gt_of 87 (by decide +kernel) (by decide +kernel)
theorem wf_X4_27 : Cond.fieldLink RX4 27 (TX4 2).1 (TX4 2).2.1 (TX4 2).2.2.1 ∈ gt_ws := gt_of 84 (by decide +kernel) (by decide +kernel)
theorem lk_X4_31 : lk_V RX4 31 jX4_skip 1 := ⟨⟨gt_of 380 (by decide +kernel) (by decide +kernel), wd_X4_skip, wn_X4, by decide +kernel, by decide⟩, wm_X4_skip, we_X4_skip⟩
theorem wc_X4_35 : Cond.classLink RX4 35 RX1 ∈ gt_ws := gt_of 384 (by decide +kernel) (by decide +kernel)
theorem lk_X4_37 : lk_V RX4 37 jX4_readLine 1 := ⟨⟨gt_of 386 (by decide +kernel) (by decide +kernel), wd_X4_readLine, wn_X4, by decide +kernel, by decide⟩, wm_X4_readLine, we_X4_readLine⟩
theorem lk_X4_41 : lk_V RX4 41 jX4_blame 1 := ⟨⟨gt_of 390 (by decide +kernel) (by decide +kernel), wd_X4_blame, wn_X4, by decide +kernel, by decide⟩, wm_X4_blame, we_X4_blame⟩
theorem lk_X4_45 : lk_V RX4 45 jX4_need 1 := ⟨⟨gt_of 394 (by decide +kernel) (by decide +kernel), wd_X4_need, wn_X4, by decide +kernel, by decide⟩, wm_X4_need, we_X4_need⟩
theorem lk_X4_49 : lk_I RX4 49 jX1_init 1 := ⟨⟨gt_of 399 (by decide +kernel) (by decide +kernel), wd_X1_init, wn_X1, by decide +kernel, by decide⟩, by decide, wm_X1_init⟩
theorem lk_X4_51 : lk_V RX4 51 jX4_readTests 1 := ⟨⟨gt_of 420 (by decide +kernel) (by decide +kernel), wd_X4_readTests, wn_X4, by decide +kernel, by decide⟩, wm_X4_readTests, we_X4_readTests⟩
theorem lk_X4_55 : lk_V RX4 55 jX4_readTerms 1 := ⟨⟨gt_of 451 (by decide +kernel) (by decide +kernel), wd_X4_readTerms, wn_X4, by decide +kernel, by decide⟩, wm_X4_readTerms, we_X4_readTerms⟩
theorem lk_X4_58 : lk_V RX4 58 jX4_readTest 1 := ⟨⟨gt_of 424 (by decide +kernel) (by decide +kernel), wd_X4_readTest, wn_X4, by decide +kernel, by decide⟩, wm_X4_readTest, we_X4_readTest⟩
theorem wf_X4_62 : Cond.fieldLink RX4 62 (TX1 1).1 (TX1 1).2.1 (TX1 1).2.2.1 ∈ gt_ws := gt_of 409 (by decide +kernel) (by decide +kernel)
theorem lk_X4_66 : lk_S RX4 66 jX4_isName 1 := ⟨⟨gt_of 428 (by decide +kernel) (by decide +kernel), wd_X4_isName, wn_X4, by decide +kernel, by decide⟩, ws_X4_isName⟩
theorem lk_X4_69 : lk_V RX4 69 jX4_needName 0 := ⟨⟨gt_of 431 (by decide +kernel) (by decide +kernel), wd_X4_needName, wn_X4, by decide +kernel, by decide⟩, wm_X4_needName, we_X4_needName⟩
theorem wc_X4_73 : Cond.classLink RX4 73 RX8 ∈ gt_ws := gt_of 435 (by decide +kernel) (by decide +kernel)
theorem lk_X4_75 : lk_I RX4 75 jX8_init 3 := ⟨⟨gt_of 437 (by decide +kernel) (by decide +kernel), wd_X8_init, wn_X8, by decide +kernel, by decide⟩, by decide, wm_X8_init⟩
theorem lk_X4_78 : lk_V RX4 78 jX4_readTerm 1 := ⟨⟨gt_of 455 (by decide +kernel) (by decide +kernel), wd_X4_readTerm, wn_X4, by decide +kernel, by decide⟩, wm_X4_readTerm, we_X4_readTerm⟩
theorem wf_X4_82 : Cond.fieldLink RX4 82 (TX1 2).1 (TX1 2).2.1 (TX1 2).2.2.1 ∈ gt_ws := gt_of 411 (by decide +kernel) (by decide +kernel)
theorem wc_X4_86 : Cond.classLink RX4 86 RX7 ∈ gt_ws := gt_of 459 (by decide +kernel) (by decide +kernel)
theorem lk_X4_88 : lk_I RX4 88 jX7_init 3 := ⟨⟨gt_of 461 (by decide +kernel) (by decide +kernel), wd_X7_init, wn_X7, by decide +kernel, by decide⟩, by decide, wm_X7_init⟩
theorem wf_X4_89 : Cond.fieldLink RX4 89 (TX9 0).1 (TX9 0).2.1 (TX9 0).2.2.1 ∈ gt_ws := gt_of 59 (by decide +kernel) (by decide +kernel)
theorem wf_X4_95 : Cond.fieldLink RX4 95 (TX9 1).1 (TX9 1).2.1 (TX9 1).2.2.1 ∈ gt_ws := gt_of 61 (by decide +kernel) (by decide +kernel)
theorem wf_X4_98 : Cond.fieldLink RX4 98 (TX9 2).1 (TX9 2).2.1 (TX9 2).2.2.1 ∈ gt_ws := gt_of 63 (by decide +kernel) (by decide +kernel)
theorem lo_X5_3 : Cond.methodLink RX5 3 objectInit ∈ gt_ws := gt_of 42 (by decide +kernel) (by decide +kernel)
theorem wf_X5_9 : Cond.fieldLink RX5 9 (TX5 0).1 (TX5 0).2.1 (TX5 0).2.2.1 ∈ gt_ws := gt_of 43 (by decide +kernel) (by decide +kernel)
theorem wf_X5_15 : Cond.fieldLink RX5 15 (TX5 1).1 (TX5 1).2.1 (TX5 1).2.2.1 ∈ gt_ws := gt_of 44 (by decide +kernel) (by decide +kernel)
theorem lo_X6_3 : Cond.methodLink RX6 3 objectInit ∈ gt_ws := gt_of 483 (by decide +kernel) (by decide +kernel)
theorem wf_X6_9 : Cond.fieldLink RX6 9 (TX6 0).1 (TX6 0).2.1 (TX6 0).2.2.1 ∈ gt_ws := gt_of 484 (by decide +kernel) (by decide +kernel)
theorem wf_X6_15 : Cond.fieldLink RX6 15 (TX6 1).1 (TX6 1).2.1 (TX6 1).2.2.1 ∈ gt_ws := gt_of 486 (by decide +kernel) (by decide +kernel)
theorem lk_X6_19 : lk_V RX6 19 jX1_fits 1 := ⟨⟨gt_of 651 (by decide +kernel) (by decide +kernel), wd_X1_fits, wn_X1, by decide +kernel, by decide⟩, wm_X1_fits, we_X1_fits⟩
theorem lk_X6_25 : lk_V RX6 25 jX1_total 1 := ⟨⟨gt_of 663 (by decide +kernel) (by decide +kernel), wd_X1_total, wn_X1, by decide +kernel, by decide⟩, wm_X1_total, we_X1_total⟩
theorem lo_X7_1 : Cond.methodLink RX7 1 objectInit ∈ gt_ws := gt_of 464 (by decide +kernel) (by decide +kernel)
theorem wf_X7_7 : Cond.fieldLink RX7 7 (TX7 0).1 (TX7 0).2.1 (TX7 0).2.2.1 ∈ gt_ws := gt_of 465 (by decide +kernel) (by decide +kernel)
theorem wf_X7_13 : Cond.fieldLink RX7 13 (TX7 1).1 (TX7 1).2.1 (TX7 1).2.2.1 ∈ gt_ws := gt_of 466 (by decide +kernel) (by decide +kernel)
theorem wf_X7_16 : Cond.fieldLink RX7 16 (TX7 2).1 (TX7 2).2.1 (TX7 2).2.2.1 ∈ gt_ws := gt_of 467 (by decide +kernel) (by decide +kernel)
theorem lk_X7_19 : lk_V RX7 19 jX2_measure 1 := ⟨⟨gt_of 671 (by decide +kernel) (by decide +kernel), wd_X2_measure, wn_X2, by decide +kernel, by decide⟩, wm_X2_measure, we_X2_measure⟩
theorem lo_X8_1 : Cond.methodLink RX8 1 objectInit ∈ gt_ws := gt_of 440 (by decide +kernel) (by decide +kernel)
theorem wf_X8_7 : Cond.fieldLink RX8 7 (TX8 0).1 (TX8 0).2.1 (TX8 0).2.2.1 ∈ gt_ws := gt_of 441 (by decide +kernel) (by decide +kernel)
theorem wf_X8_13 : Cond.fieldLink RX8 13 (TX8 1).1 (TX8 1).2.1 (TX8 1).2.2.1 ∈ gt_ws := gt_of 442 (by decide +kernel) (by decide +kernel)
theorem wf_X8_16 : Cond.fieldLink RX8 16 (TX8 2).1 (TX8 2).2.1 (TX8 2).2.2.1 ∈ gt_ws := gt_of 443 (by decide +kernel) (by decide +kernel)
theorem lk_X8_19 : lk_V RX8 19 jX2_measure 1 := ⟨⟨gt_of 659 (by decide +kernel) (by decide +kernel), wd_X2_measure, wn_X2, by decide +kernel, by decide⟩, wm_X2_measure, we_X2_measure⟩
theorem lo_X9_3 : Cond.methodLink RX9 3 objectInit ∈ gt_ws := gt_of 57 (by decide +kernel) (by decide +kernel)
theorem wf_X9_9 : Cond.fieldLink RX9 9 (TX9 0).1 (TX9 0).2.1 (TX9 0).2.2.1 ∈ gt_ws := gt_of 58 (by decide +kernel) (by decide +kernel)
theorem wf_X9_15 : Cond.fieldLink RX9 15 (TX9 1).1 (TX9 1).2.1 (TX9 1).2.2.1 ∈ gt_ws := gt_of 60 (by decide +kernel) (by decide +kernel)
theorem wf_X9_18 : Cond.fieldLink RX9 18 (TX9 2).1 (TX9 2).2.1 (TX9 2).2.2.1 ∈ gt_ws := gt_of 62 (by decide +kernel) (by decide +kernel)
theorem wf_X9_21 : Cond.fieldLink RX9 21 (TX9 3).1 (TX9 3).2.1 (TX9 3).2.2.1 ∈ gt_ws := gt_of 64 (by decide +kernel) (by decide +kernel)
theorem lk_X9_25 : lk_V RX9 25 jX9_cutOne 3 := ⟨⟨gt_of 227 (by decide +kernel) (by decide +kernel), wd_X9_cutOne, wn_X9, by decide +kernel, by decide⟩, wm_X9_cutOne, we_X9_cutOne⟩
theorem lk_X9_29 : lk_S RX9 29 jJ9_max_7cf53 2 := ⟨⟨gt_of 375 (by decide +kernel) (by decide +kernel), wd_J9_max_7cf53, wn_J9, by decide +kernel, by decide⟩, ws_J9_max_7cf53⟩
theorem lk_X9_35 : lk_V RX9 35 jX9_put 3 := ⟨⟨gt_of 304 (by decide +kernel) (by decide +kernel), wd_X9_put, wn_X9, by decide +kernel, by decide⟩, wm_X9_put, we_X9_put⟩
theorem lk_X9_39 : lk_V RX9 39 jX5_at 1 := ⟨⟨gt_of 231 (by decide +kernel) (by decide +kernel), wd_X5_at, wn_X5, by decide +kernel, by decide⟩, wm_X5_at, we_X5_at⟩
theorem lk_X9_45 : lk_S RX9 45 jX9_isLetter 1 := ⟨⟨gt_of 235 (by decide +kernel) (by decide +kernel), wd_X9_isLetter, wn_X9, by decide +kernel, by decide⟩, ws_X9_isLetter⟩
theorem lk_X9_49 : lk_V RX9 49 jX9_cutWord 3 := ⟨⟨gt_of 238 (by decide +kernel) (by decide +kernel), wd_X9_cutWord, wn_X9, by decide +kernel, by decide⟩, wm_X9_cutWord, we_X9_cutWord⟩
theorem lk_X9_52 : lk_S RX9 52 jX9_isDigit 1 := ⟨⟨gt_of 308 (by decide +kernel) (by decide +kernel), wd_X9_isDigit, wn_X9, by decide +kernel, by decide⟩, ws_X9_isDigit⟩
theorem lk_X9_55 : lk_V RX9 55 jX9_cutNumber 3 := ⟨⟨gt_of 311 (by decide +kernel) (by decide +kernel), wd_X9_cutNumber, wn_X9, by decide +kernel, by decide⟩, wm_X9_cutNumber, we_X9_cutNumber⟩
theorem lk_X9_60 : lk_V RX9 60 jJ0_indexOf_0f7a4 1 := ⟨⟨gt_of 316 (by decide +kernel) (by decide +kernel), wd_J0_indexOf_0f7a4, wn_J0, by decide +kernel, by decide⟩, wm_J0_indexOf_0f7a4, we_J0_indexOf_0f7a4⟩
theorem lk_X9_65 : lk_S RX9 65 jX9_wordKind 3 := ⟨⟨gt_of 242 (by decide +kernel) (by decide +kernel), wd_X9_wordKind, wn_X9, by decide +kernel, by decide⟩, ws_X9_wordKind⟩
theorem lk_X9_70 : lk_S RX9 70 jX9_isWord 4 := ⟨⟨gt_of 246 (by decide +kernel) (by decide +kernel), wd_X9_isWord, wn_X9, by decide +kernel, by decide⟩, ws_X9_isWord⟩
theorem lk_X9_88 : lk_V RX9 88 jJ0_length_8abf5 0 := ⟨⟨gt_of 249 (by decide +kernel) (by decide +kernel), wd_J0_length_8abf5, wn_J0, by decide +kernel, by decide⟩, wm_J0_length_8abf5, we_J0_length_8abf5⟩
theorem lk_X9_92 : lk_V RX9 92 jJ0_charAt_5068e 1 := ⟨⟨gt_of 259 (by decide +kernel) (by decide +kernel), wd_J0_charAt_5068e, wn_J0, by decide +kernel, by decide⟩, wm_J0_charAt_5068e, we_J0_charAt_5068e⟩
theorem lo_X10_1 : Cond.methodLink RX10 1 objectInit ∈ gt_ws := gt_of 28 (by decide +kernel) (by decide +kernel)
theorem wc_X10_9 : Cond.classLink RX10 9 RX3 ∈ gt_ws := gt_of 31 (by decide +kernel) (by decide +kernel)
theorem wf_X10_11 : Cond.fieldLink RX10 11 (TX10 0).1 (TX10 0).2.1 (TX10 0).2.2.1 ∈ gt_ws := gt_of 119 (by decide +kernel) (by decide +kernel)
theorem wc_X10_15 : Cond.classLink RX10 15 RX6 ∈ gt_ws := gt_of 33 (by decide +kernel) (by decide +kernel)
theorem wf_X10_17 : Cond.fieldLink RX10 17 (TX10 1).1 (TX10 1).2.1 (TX10 1).2.2.1 ∈ gt_ws := gt_of 120 (by decide +kernel) (by decide +kernel)
theorem wc_X10_21 : Cond.classLink RX10 21 RX2 ∈ gt_ws := gt_of 35 (by decide +kernel) (by decide +kernel)
theorem wf_X10_23 : Cond.fieldLink RX10 23 (TX10 2).1 (TX10 2).2.1 (TX10 2).2.2.1 ∈ gt_ws := gt_of 121 (by decide +kernel) (by decide +kernel)
theorem wc_X10_27 : Cond.classLink RX10 27 RX5 ∈ gt_ws := gt_of 37 (by decide +kernel) (by decide +kernel)
theorem wf_X10_30 : Cond.fieldLink RX10 30 (TX10 3).1 (TX10 3).2.1 (TX10 3).2.2.1 ∈ gt_ws := gt_of 122 (by decide +kernel) (by decide +kernel)
theorem wc_X10_34 : Cond.classLink RX10 34 RX9 ∈ gt_ws := gt_of 52 (by decide +kernel) (by decide +kernel)
theorem wf_X10_37 : Cond.fieldLink RX10 37 (TX10 4).1 (TX10 4).2.1 (TX10 4).2.2.1 ∈ gt_ws := gt_of 123 (by decide +kernel) (by decide +kernel)
theorem wc_X10_41 : Cond.classLink RX10 41 RX4 ∈ gt_ws := gt_of 74 (by decide +kernel) (by decide +kernel)
theorem lk_X10_43 : lk_I RX10 43 jX4_init 1 := ⟨⟨gt_of 76 (by decide +kernel) (by decide +kernel), wd_X4_init, wn_X4, by decide +kernel, by decide⟩, by decide, wm_X4_init⟩
theorem wf_X10_46 : Cond.fieldLink RX10 46 (TX10 5).1 (TX10 5).2.1 (TX10 5).2.2.1 ∈ gt_ws := gt_of 124 (by decide +kernel) (by decide +kernel)
theorem wc_X10_50 : Cond.classLink RX10 50 RX0 ∈ gt_ws := gt_of 101 (by decide +kernel) (by decide +kernel)
theorem wf_X10_53 : Cond.fieldLink RX10 53 (TX10 6).1 (TX10 6).2.1 (TX10 6).2.2.1 ∈ gt_ws := gt_of 125 (by decide +kernel) (by decide +kernel)
theorem wf_X10_57 : Cond.fieldLink RX10 57 (TX10 7).1 (TX10 7).2.1 (TX10 7).2.2.1 ∈ gt_ws := gt_of 126 (by decide +kernel) (by decide +kernel)
theorem wf_X10_61 : Cond.fieldLink RX10 61 (TX10 8).1 (TX10 8).2.1 (TX10 8).2.2.1 ∈ gt_ws := gt_of 127 (by decide +kernel) (by decide +kernel)
theorem wf_X10_64 : Cond.fieldLink RX10 64 (TX10 9).1 (TX10 9).2.1 (TX10 9).2.2.1 ∈ gt_ws := gt_of 128 (by decide +kernel) (by decide +kernel)
theorem wf_X10_67 : Cond.fieldLink RX10 67 (TX10 10).1 (TX10 10).2.1 (TX10 10).2.2.1 ∈ gt_ws := gt_of 129 (by decide +kernel) (by decide +kernel)
theorem wf_X10_70 : Cond.fieldLink RX10 70 (TX10 11).1 (TX10 11).2.1 (TX10 11).2.2.1 ∈ gt_ws := gt_of 130 (by decide +kernel) (by decide +kernel)
theorem wf_X10_73 : Cond.fieldLink RX10 73 (TX10 12).1 (TX10 12).2.1 (TX10 12).2.2.1 ∈ gt_ws := gt_of 131 (by decide +kernel) (by decide +kernel)
theorem lk_X10_76 : lk_V RX10 76 jX10_refuse 1 := ⟨⟨gt_of 163 (by decide +kernel) (by decide +kernel), wd_X10_refuse, wn_X10, by decide +kernel, by decide⟩, wm_X10_refuse, we_X10_refuse⟩
theorem lk_X10_80 : lk_I RX10 80 jX3_init 2 := ⟨⟨gt_of 168 (by decide +kernel) (by decide +kernel), wd_X3_init, wn_X3, by decide +kernel, by decide⟩, by decide, wm_X3_init⟩
theorem lk_X10_83 : lk_V RX10 83 jX3_send 1 := ⟨⟨gt_of 203 (by decide +kernel) (by decide +kernel), wd_X3_send, wn_X3, by decide +kernel, by decide⟩, wm_X3_send, we_X3_send⟩
theorem lk_X10_87 : lk_V RX10 87 jX10_accept 1 := ⟨⟨gt_of 207 (by decide +kernel) (by decide +kernel), wd_X10_accept, wn_X10, by decide +kernel, by decide⟩, wm_X10_accept, we_X10_accept⟩
theorem wf_X10_90 : Cond.fieldLink RX10 90 (TX5 1).1 (TX5 1).2.1 (TX5 1).2.2.1 ∈ gt_ws := gt_of 45 (by decide +kernel) (by decide +kernel)
theorem lk_X10_93 : lk_V RX10 93 jX5_add 1 := ⟨⟨gt_of 215 (by decide +kernel) (by decide +kernel), wd_X5_add, wn_X5, by decide +kernel, by decide⟩, wm_X5_add, we_X5_add⟩
theorem lk_X10_96 : lk_V RX10 96 jX9_cut 2 := ⟨⟨gt_of 223 (by decide +kernel) (by decide +kernel), wd_X9_cut, wn_X9, by decide +kernel, by decide⟩, wm_X9_cut, we_X9_cut⟩
theorem lk_X10_100 : lk_V RX10 100 jX4_read 0 := ⟨⟨gt_of 376 (by decide +kernel) (by decide +kernel), wd_X4_read, wn_X4, by decide +kernel, by decide⟩, wm_X4_read, we_X4_read⟩
theorem lk_X10_104 : lk_V RX10 104 jX5_clear 0 := ⟨⟨gt_of 475 (by decide +kernel) (by decide +kernel), wd_X5_clear, wn_X5, by decide +kernel, by decide⟩, wm_X5_clear, we_X5_clear⟩
theorem wf_X10_107 : Cond.fieldLink RX10 107 (TX4 0).1 (TX4 0).2.1 (TX4 0).2.2.1 ∈ gt_ws := gt_of 81 (by decide +kernel) (by decide +kernel)
theorem lk_X10_110 : lk_I RX10 110 jX6_init 2 := ⟨⟨gt_of 480 (by decide +kernel) (by decide +kernel), wd_X6_init, wn_X6, by decide +kernel, by decide⟩, by decide, wm_X6_init⟩
theorem lk_X10_113 : lk_V RX10 113 jX10_sendOut 0 := ⟨⟨gt_of 492 (by decide +kernel) (by decide +kernel), wd_X10_sendOut, wn_X10, by decide +kernel, by decide⟩, wm_X10_sendOut, we_X10_sendOut⟩
theorem wf_X10_116 : Cond.fieldLink RX10 116 (TX4 1).1 (TX4 1).2.1 (TX4 1).2.2.1 ∈ gt_ws := gt_of 83 (by decide +kernel) (by decide +kernel)
theorem lk_X10_119 : lk_V RX10 119 jX10_portAt 1 := ⟨⟨gt_of 496 (by decide +kernel) (by decide +kernel), wd_X10_portAt, wn_X10, by decide +kernel, by decide⟩, wm_X10_portAt, we_X10_portAt⟩
theorem lk_X10_123 : lk_V RX10 123 jX3_wasSent 1 := ⟨⟨gt_of 512 (by decide +kernel) (by decide +kernel), wd_X3_wasSent, wn_X3, by decide +kernel, by decide⟩, wm_X3_wasSent, we_X3_wasSent⟩
theorem lk_X10_127 : lk_V RX10 127 jX3_lose 2 := ⟨⟨gt_of 516 (by decide +kernel) (by decide +kernel), wd_X3_lose, wn_X3, by decide +kernel, by decide⟩, wm_X3_lose, we_X3_lose⟩
theorem lk_X10_131 : lk_V RX10 131 jX3_inForce 1 := ⟨⟨gt_of 529 (by decide +kernel) (by decide +kernel), wd_X3_inForce, wn_X3, by decide +kernel, by decide⟩, wm_X3_inForce, we_X3_inForce⟩
theorem lk_X10_134 : lk_V RX10 134 jX3_comeDay 2 := ⟨⟨gt_of 545 (by decide +kernel) (by decide +kernel), wd_X3_comeDay, wn_X3, by decide +kernel, by decide⟩, wm_X3_comeDay, we_X3_comeDay⟩
theorem lk_X10_138 : lk_V RX10 138 jX3_askDay 2 := ⟨⟨gt_of 550 (by decide +kernel) (by decide +kernel), wd_X3_askDay, wn_X3, by decide +kernel, by decide⟩, wm_X3_askDay, we_X3_askDay⟩
theorem lk_X10_141 : lk_V RX10 141 jX3_onTheWay 2 := ⟨⟨gt_of 555 (by decide +kernel) (by decide +kernel), wd_X3_onTheWay, wn_X3, by decide +kernel, by decide⟩, wm_X3_onTheWay, we_X3_onTheWay⟩
theorem lk_X10_144 : lk_S RX10 144 jX10_isWorth 1 := ⟨⟨gt_of 583 (by decide +kernel) (by decide +kernel), wd_X10_isWorth, wn_X10, by decide +kernel, by decide⟩, ws_X10_isWorth⟩
theorem lk_X10_147 : lk_V RX10 147 jX3_stampsOf 1 := ⟨⟨gt_of 587 (by decide +kernel) (by decide +kernel), wd_X3_stampsOf, wn_X3, by decide +kernel, by decide⟩, wm_X3_stampsOf, we_X3_stampsOf⟩
theorem lk_X10_150 : lk_V RX10 150 jX3_addStamps 2 := ⟨⟨gt_of 591 (by decide +kernel) (by decide +kernel), wd_X3_addStamps, wn_X3, by decide +kernel, by decide⟩, wm_X3_addStamps, we_X3_addStamps⟩
theorem lk_X10_153 : lk_V RX10 153 jX10_tariffAt 1 := ⟨⟨gt_of 599 (by decide +kernel) (by decide +kernel), wd_X10_tariffAt, wn_X10, by decide +kernel, by decide⟩, wm_X10_tariffAt, we_X10_tariffAt⟩
theorem lk_X10_157 : lk_S RX10 157 jX10_isPaper 3 := ⟨⟨gt_of 603 (by decide +kernel) (by decide +kernel), wd_X10_isPaper, wn_X10, by decide +kernel, by decide⟩, ws_X10_isPaper⟩
theorem wf_X10_161 : Cond.fieldLink RX10 161 (TX3 7).1 (TX3 7).2.1 (TX3 7).2.2.1 ∈ gt_ws := gt_of 184 (by decide +kernel) (by decide +kernel)
theorem lk_X10_163 : lk_I RX10 163 jX2_init 5 := ⟨⟨gt_of 607 (by decide +kernel) (by decide +kernel), wd_X2_init, wn_X2, by decide +kernel, by decide⟩, by decide, wm_X2_init⟩
theorem lk_X10_166 : lk_V RX10 166 jX6_feeOf 1 := ⟨⟨gt_of 647 (by decide +kernel) (by decide +kernel), wd_X6_feeOf, wn_X6, by decide +kernel, by decide⟩, wm_X6_feeOf, we_X6_feeOf⟩
theorem wf_X10_170 : Cond.fieldLink RX10 170 (TX3 2).1 (TX3 2).2.1 (TX3 2).2.2.1 ∈ gt_ws := gt_of 177 (by decide +kernel) (by decide +kernel)
theorem lk_X10_174 : lk_V RX10 174 jX0_fewest 2 := ⟨⟨gt_of 677 (by decide +kernel) (by decide +kernel), wd_X0_fewest, wn_X0, by decide +kernel, by decide⟩, wm_X0_fewest, we_X0_fewest⟩
theorem lk_X10_178 : lk_V RX10 178 jX2_charge 4 := ⟨⟨gt_of 696 (by decide +kernel) (by decide +kernel), wd_X2_charge, wn_X2, by decide +kernel, by decide⟩, wm_X2_charge, we_X2_charge⟩
theorem lk_X10_182 : lk_V RX10 182 jX3_book 2 := ⟨⟨gt_of 700 (by decide +kernel) (by decide +kernel), wd_X3_book, wn_X3, by decide +kernel, by decide⟩, wm_X3_book, we_X3_book⟩
theorem lk_X10_186 : lk_V RX10 186 jX10_paperAt 1 := ⟨⟨gt_of 709 (by decide +kernel) (by decide +kernel), wd_X10_paperAt, wn_X10, by decide +kernel, by decide⟩, wm_X10_paperAt, we_X10_paperAt⟩
theorem wf_X10_190 : Cond.fieldLink RX10 190 (TX2 0).1 (TX2 0).2.1 (TX2 0).2.2.1 ∈ gt_ws := gt_of 612 (by decide +kernel) (by decide +kernel)
theorem wf_X10_193 : Cond.fieldLink RX10 193 (TX2 1).1 (TX2 1).2.1 (TX2 1).2.2.1 ∈ gt_ws := gt_of 615 (by decide +kernel) (by decide +kernel)
theorem wf_X10_196 : Cond.fieldLink RX10 196 (TX2 2).1 (TX2 2).2.1 (TX2 2).2.2.1 ∈ gt_ws := gt_of 617 (by decide +kernel) (by decide +kernel)
theorem wf_X10_199 : Cond.fieldLink RX10 199 (TX2 3).1 (TX2 3).2.1 (TX2 3).2.2.1 ∈ gt_ws := gt_of 619 (by decide +kernel) (by decide +kernel)
theorem wf_X10_202 : Cond.fieldLink RX10 202 (TX2 5).1 (TX2 5).2.1 (TX2 5).2.2.1 ∈ gt_ws := gt_of 622 (by decide +kernel) (by decide +kernel)
theorem wf_X10_205 : Cond.fieldLink RX10 205 (TX2 6).1 (TX2 6).2.1 (TX2 6).2.2.1 ∈ gt_ws := gt_of 624 (by decide +kernel) (by decide +kernel)
theorem wf_X10_208 : Cond.fieldLink RX10 208 (TX2 7).1 (TX2 7).2.1 (TX2 7).2.2.1 ∈ gt_ws := gt_of 626 (by decide +kernel) (by decide +kernel)
theorem lk_X10_211 : lk_V RX10 211 jX2_allStamps 0 := ⟨⟨gt_of 713 (by decide +kernel) (by decide +kernel), wd_X2_allStamps, wn_X2, by decide +kernel, by decide⟩, wm_X2_allStamps, we_X2_allStamps⟩
theorem lk_X10_215 : lk_V RX10 215 jX10_isKnown 2 := ⟨⟨gt_of 722 (by decide +kernel) (by decide +kernel), wd_X10_isKnown, wn_X10, by decide +kernel, by decide⟩, wm_X10_isKnown, we_X10_isKnown⟩
theorem lk_X10_219 : lk_V RX10 219 jX10_knownDay 1 := ⟨⟨gt_of 726 (by decide +kernel) (by decide +kernel), wd_X10_knownDay, wn_X10, by decide +kernel, by decide⟩, wm_X10_knownDay, we_X10_knownDay⟩
theorem lk_X10_222 : lk_V RX10 222 jX2_stampsOf 1 := ⟨⟨gt_of 735 (by decide +kernel) (by decide +kernel), wd_X2_stampsOf, wn_X2, by decide +kernel, by decide⟩, wm_X2_stampsOf, we_X2_stampsOf⟩
theorem wf_X10_223 : Cond.fieldLink RX10 223 (TX3 0).1 (TX3 0).2.1 (TX3 0).2.2.1 ∈ gt_ws := gt_of 174 (by decide +kernel) (by decide +kernel)
theorem wf_X10_226 : Cond.fieldLink RX10 226 (TX3 6).1 (TX3 6).2.1 (TX3 6).2.2.1 ∈ gt_ws := gt_of 182 (by decide +kernel) (by decide +kernel)
theorem lk_X10_229 : lk_V RX10 229 jX3_accountsSent 1 := ⟨⟨gt_of 740 (by decide +kernel) (by decide +kernel), wd_X3_accountsSent, wn_X3, by decide +kernel, by decide⟩, wm_X3_accountsSent, we_X3_accountsSent⟩
theorem lk_X10_232 : lk_V RX10 232 jX10_isPast 1 := ⟨⟨gt_of 745 (by decide +kernel) (by decide +kernel), wd_X10_isPast, wn_X10, by decide +kernel, by decide⟩, wm_X10_isPast, we_X10_isPast⟩
theorem lk_X10_235 : lk_V RX10 235 jX10_isKnownOf 3 := ⟨⟨gt_of 749 (by decide +kernel) (by decide +kernel), wd_X10_isKnownOf, wn_X10, by decide +kernel, by decide⟩, wm_X10_isKnownOf, we_X10_isKnownOf⟩
theorem lk_X10_238 : lk_V RX10 238 jX10_chargedFor 1 := ⟨⟨gt_of 757 (by decide +kernel) (by decide +kernel), wd_X10_chargedFor, wn_X10, by decide +kernel, by decide⟩, wm_X10_chargedFor, we_X10_chargedFor⟩
theorem lk_X10_241 : lk_V RX10 241 jX10_homeFee 1 := ⟨⟨gt_of 765 (by decide +kernel) (by decide +kernel), wd_X10_homeFee, wn_X10, by decide +kernel, by decide⟩, wm_X10_homeFee, we_X10_homeFee⟩
theorem wz_X10_244 : Cond.fieldLink RX10 244 "ConsulDesk" "WORTHS" "[I" ∈ gt_ws := gt_of 586 (by decide +kernel) (by decide +kernel)
theorem lk_X10_247 : lk_S RX10 247 jX10_accountsBelow 1 := ⟨⟨gt_of 730 (by decide +kernel) (by decide +kernel), wd_X10_accountsBelow, wn_X10, by decide +kernel, by decide⟩, ws_X10_accountsBelow⟩
theorem wf_X10_250 : Cond.fieldLink RX10 250 (TX6 0).1 (TX6 0).2.1 (TX6 0).2.2.1 ∈ gt_ws := gt_of 485 (by decide +kernel) (by decide +kernel)
theorem lo_X12_1 : Cond.methodLink RX12 1 objectInit ∈ gt_ws := gt_of 790 (by decide +kernel) (by decide +kernel)
theorem wf_X12_9 : Cond.fieldLink RX12 9 (TX12 2).1 (TX12 2).2.1 (TX12 2).2.2.1 ∈ gt_ws := gt_of 863 (by decide +kernel) (by decide +kernel)
theorem wc_X12_13 : Cond.classLink RX12 13 RX11 ∈ gt_ws := gt_of 791 (by decide +kernel) (by decide +kernel)
theorem lk_X12_15 : lk_I RX12 15 jX11_init 0 := ⟨⟨gt_of 830 (by decide +kernel) (by decide +kernel), wd_X11_init, wn_X11, by decide +kernel, by decide⟩, by decide, wm_X11_init⟩
theorem wf_X12_16 : Cond.fieldLink RX12 16 (TX12 4).1 (TX12 4).2.1 (TX12 4).2.2.1 ∈ gt_ws := gt_of 865 (by decide +kernel) (by decide +kernel)
theorem wf_X12_20 : Cond.fieldLink RX12 20 (TX12 5).1 (TX12 5).2.1 (TX12 5).2.2.1 ∈ gt_ws := gt_of 866 (by decide +kernel) (by decide +kernel)
theorem wf_X12_24 : Cond.fieldLink RX12 24 (TX12 15).1 (TX12 15).2.1 (TX12 15).2.2.1 ∈ gt_ws := gt_of 876 (by decide +kernel) (by decide +kernel)
theorem wf_X12_28 : Cond.fieldLink RX12 28 (TX12 16).1 (TX12 16).2.1 (TX12 16).2.2.1 ∈ gt_ws := gt_of 877 (by decide +kernel) (by decide +kernel)
theorem wf_X12_31 : Cond.fieldLink RX12 31 (TX12 17).1 (TX12 17).2.1 (TX12 17).2.2.1 ∈ gt_ws := gt_of 878 (by decide +kernel) (by decide +kernel)
theorem wf_X12_34 : Cond.fieldLink RX12 34 (TX12 18).1 (TX12 18).2.1 (TX12 18).2.2.1 ∈ gt_ws := gt_of 879 (by decide +kernel) (by decide +kernel)
theorem wf_X12_37 : Cond.fieldLink RX12 37 (TX12 19).1 (TX12 19).2.1 (TX12 19).2.2.1 ∈ gt_ws := gt_of 880 (by decide +kernel) (by decide +kernel)
theorem wf_X12_40 : Cond.fieldLink RX12 40 (TX12 20).1 (TX12 20).2.1 (TX12 20).2.2.1 ∈ gt_ws := gt_of 881 (by decide +kernel) (by decide +kernel)
theorem wf_X12_43 : Cond.fieldLink RX12 43 (TX12 21).1 (TX12 21).2.1 (TX12 21).2.2.1 ∈ gt_ws := gt_of 882 (by decide +kernel) (by decide +kernel)
theorem wf_X12_46 : Cond.fieldLink RX12 46 (TX12 22).1 (TX12 22).2.1 (TX12 22).2.2.1 ∈ gt_ws := gt_of 883 (by decide +kernel) (by decide +kernel)
theorem wf_X12_49 : Cond.fieldLink RX12 49 (TX12 23).1 (TX12 23).2.1 (TX12 23).2.2.1 ∈ gt_ws := gt_of 884 (by decide +kernel) (by decide +kernel)
theorem wf_X12_52 : Cond.fieldLink RX12 52 (TX12 24).1 (TX12 24).2.1 (TX12 24).2.2.1 ∈ gt_ws := gt_of 885 (by decide +kernel) (by decide +kernel)
theorem wf_X12_55 : Cond.fieldLink RX12 55 (TX12 25).1 (TX12 25).2.1 (TX12 25).2.2.1 ∈ gt_ws := gt_of 886 (by decide +kernel) (by decide +kernel)
theorem wf_X12_58 : Cond.fieldLink RX12 58 (TX12 28).1 (TX12 28).2.1 (TX12 28).2.2.1 ∈ gt_ws := gt_of 889 (by decide +kernel) (by decide +kernel)
theorem wf_X12_61 : Cond.fieldLink RX12 61 (TX12 29).1 (TX12 29).2.1 (TX12 29).2.2.1 ∈ gt_ws := gt_of 890 (by decide +kernel) (by decide +kernel)
theorem wf_X12_64 : Cond.fieldLink RX12 64 (TX12 30).1 (TX12 30).2.1 (TX12 30).2.2.1 ∈ gt_ws := gt_of 891 (by decide +kernel) (by decide +kernel)
theorem wf_X12_67 : Cond.fieldLink RX12 67 (TX12 31).1 (TX12 31).2.1 (TX12 31).2.2.1 ∈ gt_ws := gt_of 892 (by decide +kernel) (by decide +kernel)
theorem wf_X12_70 : Cond.fieldLink RX12 70 (TX12 32).1 (TX12 32).2.1 (TX12 32).2.2.1 ∈ gt_ws := gt_of 893 (by decide +kernel) (by decide +kernel)
theorem wf_X12_73 : Cond.fieldLink RX12 73 (TX12 33).1 (TX12 33).2.1 (TX12 33).2.2.1 ∈ gt_ws := gt_of 894 (by decide +kernel) (by decide +kernel)
theorem wf_X12_76 : Cond.fieldLink RX12 76 (TX12 34).1 (TX12 34).2.1 (TX12 34).2.2.1 ∈ gt_ws := gt_of 895 (by decide +kernel) (by decide +kernel)
theorem wf_X12_79 : Cond.fieldLink RX12 79 (TX12 35).1 (TX12 35).2.1 (TX12 35).2.2.1 ∈ gt_ws := gt_of 896 (by decide +kernel) (by decide +kernel)
theorem wf_X12_82 : Cond.fieldLink RX12 82 (TX12 36).1 (TX12 36).2.1 (TX12 36).2.2.1 ∈ gt_ws := gt_of 897 (by decide +kernel) (by decide +kernel)
theorem wf_X12_85 : Cond.fieldLink RX12 85 (TX12 37).1 (TX12 37).2.1 (TX12 37).2.2.1 ∈ gt_ws := gt_of 898 (by decide +kernel) (by decide +kernel)
theorem wf_X12_89 : Cond.fieldLink RX12 89 (TX12 39).1 (TX12 39).2.1 (TX12 39).2.2.1 ∈ gt_ws := gt_of 900 (by decide +kernel) (by decide +kernel)
theorem wf_X12_92 : Cond.fieldLink RX12 92 (TX12 40).1 (TX12 40).2.1 (TX12 40).2.2.1 ∈ gt_ws := gt_of 901 (by decide +kernel) (by decide +kernel)
theorem wf_X12_95 : Cond.fieldLink RX12 95 (TX12 41).1 (TX12 41).2.1 (TX12 41).2.2.1 ∈ gt_ws := gt_of 902 (by decide +kernel) (by decide +kernel)
theorem wf_X12_98 : Cond.fieldLink RX12 98 (TX12 42).1 (TX12 42).2.1 (TX12 42).2.2.1 ∈ gt_ws := gt_of 903 (by decide +kernel) (by decide +kernel)
theorem wf_X12_101 : Cond.fieldLink RX12 101 (TX12 43).1 (TX12 43).2.1 (TX12 43).2.2.1 ∈ gt_ws := gt_of 904 (by decide +kernel) (by decide +kernel)
theorem wf_X12_104 : Cond.fieldLink RX12 104 (TX12 44).1 (TX12 44).2.1 (TX12 44).2.2.1 ∈ gt_ws := gt_of 905 (by decide +kernel) (by decide +kernel)
theorem wf_X12_107 : Cond.fieldLink RX12 107 (TX12 45).1 (TX12 45).2.1 (TX12 45).2.2.1 ∈ gt_ws := gt_of 906 (by decide +kernel) (by decide +kernel)
theorem wf_X12_110 : Cond.fieldLink RX12 110 (TX12 46).1 (TX12 46).2.1 (TX12 46).2.2.1 ∈ gt_ws := gt_of 907 (by decide +kernel) (by decide +kernel)
theorem wf_X12_113 : Cond.fieldLink RX12 113 (TX12 47).1 (TX12 47).2.1 (TX12 47).2.2.1 ∈ gt_ws := gt_of 908 (by decide +kernel) (by decide +kernel)
theorem wf_X12_116 : Cond.fieldLink RX12 116 (TX12 48).1 (TX12 48).2.1 (TX12 48).2.2.1 ∈ gt_ws := gt_of 909 (by decide +kernel) (by decide +kernel)
theorem wf_X12_120 : Cond.fieldLink RX12 120 (TX12 49).1 (TX12 49).2.1 (TX12 49).2.2.1 ∈ gt_ws := gt_of 910 (by decide +kernel) (by decide +kernel)
theorem wf_X12_126 : Cond.fieldLink RX12 126 (TX12 1).1 (TX12 1).2.1 (TX12 1).2.2.1 ∈ gt_ws := gt_of 862 (by decide +kernel) (by decide +kernel)
theorem wf_X12_131 : Cond.fieldLink RX12 131 (TX12 10).1 (TX12 10).2.1 (TX12 10).2.2.1 ∈ gt_ws := gt_of 871 (by decide +kernel) (by decide +kernel)
theorem wf_X12_135 : Cond.fieldLink RX12 135 (TX12 7).1 (TX12 7).2.1 (TX12 7).2.2.1 ∈ gt_ws := gt_of 868 (by decide +kernel) (by decide +kernel)
theorem lk_X12_138 : lk_V RX12 138 jJ0_length_8abf5 0 := ⟨⟨gt_of 1068 (by decide +kernel) (by decide +kernel), wd_J0_length_8abf5, wn_J0, by decide +kernel, by decide⟩, wm_J0_length_8abf5, we_J0_length_8abf5⟩
theorem wl_X12_144 : Cond.constantLong RX12 144 32 ∈ gt_ws := gt_of 1056 (by decide +kernel) (by decide +kernel)
theorem lk_X12_146 : lk_V RX12 146 jJ0_charAt_5068e 1 := ⟨⟨gt_of 1069 (by decide +kernel) (by decide +kernel), wd_J0_charAt_5068e, wn_J0, by decide +kernel, by decide⟩, wm_J0_charAt_5068e, we_J0_charAt_5068e⟩
theorem wf_X12_150 : Cond.fieldLink RX12 150 (TX12 8).1 (TX12 8).2.1 (TX12 8).2.2.1 ∈ gt_ws := gt_of 869 (by decide +kernel) (by decide +kernel)
theorem lk_X12_153 : lk_V RX12 153 jX12_byteAt 1 := ⟨⟨gt_of 1049 (by decide +kernel) (by decide +kernel), wd_X12_byteAt, wn_X12, by decide +kernel, by decide⟩, wm_X12_byteAt, we_X12_byteAt⟩
theorem wf_X12_157 : Cond.fieldLink RX12 157 (TX12 9).1 (TX12 9).2.1 (TX12 9).2.2.1 ∈ gt_ws := gt_of 870 (by decide +kernel) (by decide +kernel)
theorem wf_X12_160 : Cond.fieldLink RX12 160 (TX12 11).1 (TX12 11).2.1 (TX12 11).2.2.1 ∈ gt_ws := gt_of 872 (by decide +kernel) (by decide +kernel)
theorem lk_X12_163 : lk_S RX12 163 jX12_isLetter 1 := ⟨⟨gt_of 1053 (by decide +kernel) (by decide +kernel), wd_X12_isLetter, wn_X12, by decide +kernel, by decide⟩, ws_X12_isLetter⟩
theorem wf_X12_167 : Cond.fieldLink RX12 167 (TX12 13).1 (TX12 13).2.1 (TX12 13).2.2.1 ∈ gt_ws := gt_of 874 (by decide +kernel) (by decide +kernel)
theorem lk_X12_171 : lk_S RX12 171 jX12_isDigit 1 := ⟨⟨gt_of 1057 (by decide +kernel) (by decide +kernel), wd_X12_isDigit, wn_X12, by decide +kernel, by decide⟩, ws_X12_isDigit⟩
theorem wf_X12_174 : Cond.fieldLink RX12 174 (TX12 12).1 (TX12 12).2.1 (TX12 12).2.2.1 ∈ gt_ws := gt_of 873 (by decide +kernel) (by decide +kernel)
theorem lk_X12_177 : lk_S RX12 177 jX12_wordOf 1 := ⟨⟨gt_of 1065 (by decide +kernel) (by decide +kernel), wd_X12_wordOf, wn_X12, by decide +kernel, by decide⟩, ws_X12_wordOf⟩
theorem lk_X12_182 : lk_V RX12 182 jX12_isWord 1 := ⟨⟨gt_of 1061 (by decide +kernel) (by decide +kernel), wd_X12_isWord, wn_X12, by decide +kernel, by decide⟩, wm_X12_isWord, we_X12_isWord⟩
theorem lk_X12_192 : lk_V RX12 192 jX12_stop 1 := ⟨⟨gt_of 1070 (by decide +kernel) (by decide +kernel), wd_X12_stop, wn_X12, by decide +kernel, by decide⟩, wm_X12_stop, we_X12_stop⟩
theorem wf_X12_201 : Cond.fieldLink RX12 201 (TX12 14).1 (TX12 14).2.1 (TX12 14).2.2.1 ∈ gt_ws := gt_of 875 (by decide +kernel) (by decide +kernel)
theorem lk_X12_204 : lk_V RX12 204 jX12_next 0 := ⟨⟨gt_of 1045 (by decide +kernel) (by decide +kernel), wd_X12_next, wn_X12, by decide +kernel, by decide⟩, wm_X12_next, we_X12_next⟩
theorem lk_X12_207 : lk_V RX12 207 jX12_readTest 1 := ⟨⟨gt_of 1075 (by decide +kernel) (by decide +kernel), wd_X12_readTest, wn_X12, by decide +kernel, by decide⟩, wm_X12_readTest, we_X12_readTest⟩
theorem lk_X12_211 : lk_V RX12 211 jX12_readTerm 1 := ⟨⟨gt_of 1093 (by decide +kernel) (by decide +kernel), wd_X12_readTerm, wn_X12, by decide +kernel, by decide⟩, wm_X12_readTerm, we_X12_readTerm⟩
theorem lk_X12_214 : lk_V RX12 214 jX12_is 1 := ⟨⟨gt_of 1089 (by decide +kernel) (by decide +kernel), wd_X12_is, wn_X12, by decide +kernel, by decide⟩, wm_X12_is, we_X12_is⟩
theorem lk_X12_216 : lk_V RX12 216 jX12_nameHere 0 := ⟨⟨gt_of 1079 (by decide +kernel) (by decide +kernel), wd_X12_nameHere, wn_X12, by decide +kernel, by decide⟩, wm_X12_nameHere, we_X12_nameHere⟩
theorem lk_X12_219 : lk_S RX12 219 jX12_valueOf 5 := ⟨⟨gt_of 1168 (by decide +kernel) (by decide +kernel), wd_X12_valueOf, wn_X12, by decide +kernel, by decide⟩, ws_X12_valueOf⟩
theorem lk_X12_223 : lk_S RX12 223 jJ9_min_7cf53 2 := ⟨⟨gt_of 1171 (by decide +kernel) (by decide +kernel), wd_J9_min_7cf53, wn_J9, by decide +kernel, by decide⟩, ws_J9_min_7cf53⟩
theorem wf_X12_123 : Cond.fieldLink RX12 123 (TX12 0).1 (TX12 0).2.1 (TX12 0).2.2.1 ∈ gt_ws := gt_of 861 (by decide +kernel) (by decide +kernel)
theorem lk_X12_229 : lk_S RX12 229 jX12_in 3 := ⟨⟨gt_of 1017 (by decide +kernel) (by decide +kernel), wd_X12_in, wn_X12, by decide +kernel, by decide⟩, ws_X12_in⟩
theorem lk_X12_233 : lk_V RX12 233 jX12_refused 1 := ⟨⟨gt_of 1020 (by decide +kernel) (by decide +kernel), wd_X12_refused, wn_X12, by decide +kernel, by decide⟩, wm_X12_refused, we_X12_refused⟩
theorem wf_X12_236 : Cond.fieldLink RX12 236 (TX12 26).1 (TX12 26).2.1 (TX12 26).2.2.1 ∈ gt_ws := gt_of 887 (by decide +kernel) (by decide +kernel)
theorem wf_X12_239 : Cond.fieldLink RX12 239 (TX12 27).1 (TX12 27).2.1 (TX12 27).2.2.1 ∈ gt_ws := gt_of 888 (by decide +kernel) (by decide +kernel)
theorem lk_X12_242 : lk_V RX12 242 jX12_sends 3 := ⟨⟨gt_of 1024 (by decide +kernel) (by decide +kernel), wd_X12_sends, wn_X12, by decide +kernel, by decide⟩, wm_X12_sends, we_X12_sends⟩
theorem lk_X12_246 : lk_V RX12 246 jX12_done 1 := ⟨⟨gt_of 1029 (by decide +kernel) (by decide +kernel), wd_X12_done, wn_X12, by decide +kernel, by decide⟩, wm_X12_done, we_X12_done⟩
theorem wl_X12_249 : Cond.constant RX12 249 1000000 ∈ gt_ws := gt_of 1028 (by decide +kernel) (by decide +kernel)
theorem wf_X12_250 : Cond.fieldLink RX12 250 (TX12 6).1 (TX12 6).2.1 (TX12 6).2.2.1 ∈ gt_ws := gt_of 867 (by decide +kernel) (by decide +kernel)
theorem wf_X12_253 : Cond.fieldLink RX12 253 (TX12 3).1 (TX12 3).2.1 (TX12 3).2.2.1 ∈ gt_ws := gt_of 864 (by decide +kernel) (by decide +kernel)
theorem lk_X12_256 : lk_V RX12 256 jX12_reads 0 := ⟨⟨gt_of 1041 (by decide +kernel) (by decide +kernel), wd_X12_reads, wn_X12, by decide +kernel, by decide⟩, wm_X12_reads, we_X12_reads⟩
theorem lk_X12_259 : lk_V RX12 259 jX12_comes 2 := ⟨⟨gt_of 1121 (by decide +kernel) (by decide +kernel), wd_X12_comes, wn_X12, by decide +kernel, by decide⟩, wm_X12_comes, we_X12_comes⟩
theorem lk_X12_262 : lk_V RX12 262 jX12_isPort 1 := ⟨⟨gt_of 1109 (by decide +kernel) (by decide +kernel), wd_X12_isPort, wn_X12, by decide +kernel, by decide⟩, wm_X12_isPort, we_X12_isPort⟩
theorem lk_X12_265 : lk_V RX12 265 jX12_isTariff 1 := ⟨⟨gt_of 1113 (by decide +kernel) (by decide +kernel), wd_X12_isTariff, wn_X12, by decide +kernel, by decide⟩, wm_X12_isTariff, we_X12_isTariff⟩
theorem lk_X12_268 : lk_V RX12 268 jX12_hasCome 3 := ⟨⟨gt_of 1117 (by decide +kernel) (by decide +kernel), wd_X12_hasCome, wn_X12, by decide +kernel, by decide⟩, wm_X12_hasCome, we_X12_hasCome⟩
theorem lk_X12_271 : lk_V RX12 271 jX12_asks 2 := ⟨⟨gt_of 1129 (by decide +kernel) (by decide +kernel), wd_X12_asks, wn_X12, by decide +kernel, by decide⟩, wm_X12_asks, we_X12_asks⟩
theorem lk_X12_275 : lk_V RX12 275 jX12_forceOf 1 := ⟨⟨gt_of 1137 (by decide +kernel) (by decide +kernel), wd_X12_forceOf, wn_X12, by decide +kernel, by decide⟩, wm_X12_forceOf, we_X12_forceOf⟩
theorem lk_X12_278 : lk_S RX12 278 jX12_isPaper 3 := ⟨⟨gt_of 1161 (by decide +kernel) (by decide +kernel), wd_X12_isPaper, wn_X12, by decide +kernel, by decide⟩, ws_X12_isPaper⟩
theorem lk_X12_281 : lk_V RX12 281 jX12_feeOf 6 := ⟨⟨gt_of 1164 (by decide +kernel) (by decide +kernel), wd_X12_feeOf, wn_X12, by decide +kernel, by decide⟩, wm_X12_feeOf, we_X12_feeOf⟩
theorem wl_X12_287 : Cond.constantLong RX12 287 9223372036854775807 ∈ gt_ws := gt_of 1180 (by decide +kernel) (by decide +kernel)
theorem wz_X12_289 : Cond.fieldLink RX12 289 "ConsulDeskModel" "WORTH" "[I" ∈ gt_ws := gt_of 1181 (by decide +kernel) (by decide +kernel)
theorem wl_X12_292 : Cond.constantLong RX12 292 1099511627776 ∈ gt_ws := gt_of 1183 (by decide +kernel) (by decide +kernel)
theorem wl_X12_294 : Cond.constantLong RX12 294 4096 ∈ gt_ws := gt_of 1184 (by decide +kernel) (by decide +kernel)
theorem wl_X12_296 : Cond.constantLong RX12 296 4194304 ∈ gt_ws := gt_of 1185 (by decide +kernel) (by decide +kernel)
theorem wl_X12_298 : Cond.constantLong RX12 298 2147483648 ∈ gt_ws := gt_of 1186 (by decide +kernel) (by decide +kernel)
theorem lk_X12_300 : lk_S RX12 300 jJ9_min_f86c9 2 := ⟨⟨gt_of 1187 (by decide +kernel) (by decide +kernel), wd_J9_min_f86c9, wn_J9, by decide +kernel, by decide⟩, ws_J9_min_f86c9⟩
theorem wl_X12_303 : Cond.constantLong RX12 303 4095 ∈ gt_ws := gt_of 1190 (by decide +kernel) (by decide +kernel)
theorem wl_X12_305 : Cond.constantLong RX12 305 1023 ∈ gt_ws := gt_of 1191 (by decide +kernel) (by decide +kernel)
theorem wl_X12_307 : Cond.constantLong RX12 307 511 ∈ gt_ws := gt_of 1192 (by decide +kernel) (by decide +kernel)
theorem lk_X12_309 : lk_V RX12 309 jX12_chooses 2 := ⟨⟨gt_of 1176 (by decide +kernel) (by decide +kernel), wd_X12_chooses, wn_X12, by decide +kernel, by decide⟩, wm_X12_chooses, we_X12_chooses⟩
theorem wf_X12_313 : Cond.fieldLink RX12 313 (TX12 38).1 (TX12 38).2.1 (TX12 38).2.2.1 ∈ gt_ws := gt_of 899 (by decide +kernel) (by decide +kernel)
theorem lk_X12_316 : lk_V RX12 316 jX12_homeOf 1 := ⟨⟨gt_of 1197 (by decide +kernel) (by decide +kernel), wd_X12_homeOf, wn_X12, by decide +kernel, by decide⟩, wm_X12_homeOf, we_X12_homeOf⟩
theorem lk_X12_319 : lk_V RX12 319 jX12_homesFee 1 := ⟨⟨gt_of 1221 (by decide +kernel) (by decide +kernel), wd_X12_homesFee, wn_X12, by decide +kernel, by decide⟩, wm_X12_homesFee, we_X12_homesFee⟩
theorem wl_J11_110 : Cond.constant RJ11 110 55232 ∈ gt_ws := gt_of 370 (by decide +kernel) (by decide +kernel)
theorem wl_J11_76 : Cond.constant RJ11 76 56320 ∈ gt_ws := gt_of 374 (by decide +kernel) (by decide +kernel)
theorem wz_J0_9 : Cond.fieldLink RJ0 9 "java/lang/String" "value" "[B" ∈ gt_ws := gt_of 1242 (by decide +kernel) (by decide +kernel)
theorem lk_J0_335 : lk_V RJ0 335 jJ0_coder_7d493 0 := ⟨⟨gt_of 253 (by decide +kernel) (by decide +kernel), wd_J0_coder_7d493, wn_J0, by decide +kernel, by decide⟩, wm_J0_coder_7d493, we_J0_coder_7d493⟩
theorem lk_J0_492 : lk_V RJ0 492 jJ0_isLatin1_aae02 0 := ⟨⟨gt_of 263 (by decide +kernel) (by decide +kernel), wd_J0_isLatin1_aae02, wn_J0, by decide +kernel, by decide⟩, wm_J0_isLatin1_aae02, we_J0_isLatin1_aae02⟩
theorem lk_J0_495 : lk_S RJ0 495 jJ1_charAt_3b067 2 := ⟨⟨gt_of 267 (by decide +kernel) (by decide +kernel), wd_J1_charAt_3b067, wn_J1, by decide +kernel, by decide⟩, ws_J1_charAt_3b067⟩
theorem lk_J0_498 : lk_S RJ0 498 jJ2_charAt_3b067 2 := ⟨⟨gt_of 278 (by decide +kernel) (by decide +kernel), wd_J2_charAt_3b067, wn_J2, by decide +kernel, by decide⟩, ws_J2_charAt_3b067⟩
theorem lk_J0_633 : lk_V RJ0 633 jJ0_indexOf_7cf53 2 := ⟨⟨gt_of 320 (by decide +kernel) (by decide +kernel), wd_J0_indexOf_7cf53, wn_J0, by decide +kernel, by decide⟩, wm_J0_indexOf_7cf53, we_J0_indexOf_7cf53⟩
theorem lk_J0_505 : lk_V RJ0 505 jJ0_length_8abf5 0 := ⟨⟨gt_of 324 (by decide +kernel) (by decide +kernel), wd_J0_length_8abf5, wn_J0, by decide +kernel, by decide⟩, wm_J0_length_8abf5, we_J0_length_8abf5⟩
theorem lk_J0_637 : lk_S RJ0 637 jJ1_indexOf_4cfef 4 := ⟨⟨gt_of 325 (by decide +kernel) (by decide +kernel), wd_J1_indexOf_4cfef, wn_J1, by decide +kernel, by decide⟩, ws_J1_indexOf_4cfef⟩
theorem lk_J0_640 : lk_S RJ0 640 jJ2_indexOf_4cfef 4 := ⟨⟨gt_of 340 (by decide +kernel) (by decide +kernel), wd_J2_indexOf_4cfef, wn_J2, by decide +kernel, by decide⟩, ws_J2_indexOf_4cfef⟩
theorem wz_J0_38 : Cond.fieldLink RJ0 38 "java/lang/String" "COMPACT_STRINGS" "Z" ∈ gt_ws := gt_of 257 (by decide +kernel) (by decide +kernel)
theorem wz_J0_15 : Cond.fieldLink RJ0 15 "java/lang/String" "coder" "B" ∈ gt_ws := gt_of 1243 (by decide +kernel) (by decide +kernel)
theorem wz_J0_1053 : Cond.fieldLink RJ0 1053 "jdk/internal/util/Preconditions" "SIOOBE_FORMATTER" "Ljava/util/function/BiFunction;" ∈ gt_ws := gt_of 273 (by decide +kernel) (by decide +kernel)
theorem lk_J0_1059 : lk_S RJ0 1059 jJ3_checkIndex_8e157 3 := ⟨⟨gt_of 275 (by decide +kernel) (by decide +kernel), wd_J3_checkIndex_8e157, wn_J3, by decide +kernel, by decide⟩, ws_J3_checkIndex_8e157⟩
theorem lk_J0_1062 : lk_S RJ0 1062 jJ3_checkFromToIndex_8c36e 4 := ⟨⟨gt_of 355 (by decide +kernel) (by decide +kernel), wd_J3_checkFromToIndex_8c36e, wn_J3, by decide +kernel, by decide⟩, ws_J3_checkFromToIndex_8c36e⟩
theorem lk_J1_9 : lk_S RJ1 9 jJ0_checkIndex_df160 2 := ⟨⟨gt_of 270 (by decide +kernel) (by decide +kernel), wd_J0_checkIndex_df160, wn_J0, by decide +kernel, by decide⟩, ws_J0_checkIndex_df160⟩
theorem lk_J1_88 : lk_S RJ1 88 jJ1_canEncode_9a6ad 1 := ⟨⟨gt_of 328 (by decide +kernel) (by decide +kernel), wd_J1_canEncode_9a6ad, wn_J1, by decide +kernel, by decide⟩, ws_J1_canEncode_9a6ad⟩
theorem lk_J1_92 : lk_S RJ1 92 jJ9_max_7cf53 2 := ⟨⟨gt_of 331 (by decide +kernel) (by decide +kernel), wd_J9_max_7cf53, wn_J9, by decide +kernel, by decide⟩, ws_J9_max_7cf53⟩
theorem lk_J1_38 : lk_S RJ1 38 jJ9_min_7cf53 2 := ⟨⟨gt_of 334 (by decide +kernel) (by decide +kernel), wd_J9_min_7cf53, wn_J9, by decide +kernel, by decide⟩, ws_J9_min_7cf53⟩
theorem lk_J1_95 : lk_S RJ1 95 jJ1_indexOfChar_4cfef 4 := ⟨⟨gt_of 337 (by decide +kernel) (by decide +kernel), wd_J1_indexOfChar_4cfef, wn_J1, by decide +kernel, by decide⟩, ws_J1_indexOfChar_4cfef⟩
theorem wz_J2_44 : Cond.fieldLink RJ2 44 "java/lang/StringUTF16" "$assertionsDisabled" "Z" ∈ gt_ws := gt_of 291 (by decide +kernel) (by decide +kernel)
theorem lk_J2_48 : lk_S RJ2 48 jJ2_length_9d52b 1 := ⟨⟨gt_of 284 (by decide +kernel) (by decide +kernel), wd_J2_length_9d52b, wn_J2, by decide +kernel, by decide⟩, ws_J2_length_9d52b⟩
theorem wz_J2_59 : Cond.fieldLink RJ2 59 "java/lang/StringUTF16" "HI_BYTE_SHIFT" "I" ∈ gt_ws := gt_of 293 (by decide +kernel) (by decide +kernel)
theorem wz_J2_63 : Cond.fieldLink RJ2 63 "java/lang/StringUTF16" "LO_BYTE_SHIFT" "I" ∈ gt_ws := gt_of 295 (by decide +kernel) (by decide +kernel)
theorem lk_J2_224 : lk_S RJ2 224 jJ9_max_7cf53 2 := ⟨⟨gt_of 343 (by decide +kernel) (by decide +kernel), wd_J9_max_7cf53, wn_J9, by decide +kernel, by decide⟩, ws_J9_max_7cf53⟩
theorem lk_J2_183 : lk_S RJ2 183 jJ9_min_7cf53 2 := ⟨⟨gt_of 344 (by decide +kernel) (by decide +kernel), wd_J9_min_7cf53, wn_J9, by decide +kernel, by decide⟩, ws_J9_min_7cf53⟩
theorem wl_J2_227 : Cond.constant RJ2 227 65536 ∈ gt_ws := gt_of 345 (by decide +kernel) (by decide +kernel)
theorem lk_J2_228 : lk_S RJ2 228 jJ2_indexOfChar_4cfef 4 := ⟨⟨gt_of 346 (by decide +kernel) (by decide +kernel), wd_J2_indexOfChar_4cfef, wn_J2, by decide +kernel, by decide⟩, ws_J2_indexOfChar_4cfef⟩
theorem lk_J2_232 : lk_S RJ2 232 jJ2_indexOfSupplementary_4cfef 4 := ⟨⟨gt_of 361 (by decide +kernel) (by decide +kernel), wd_J2_indexOfSupplementary_4cfef, wn_J2, by decide +kernel, by decide⟩, ws_J2_indexOfSupplementary_4cfef⟩
theorem lk_J2_96 : lk_S RJ2 96 jJ2_checkBoundsBeginEnd_d044e 3 := ⟨⟨gt_of 349 (by decide +kernel) (by decide +kernel), wd_J2_checkBoundsBeginEnd_d044e, wn_J2, by decide +kernel, by decide⟩, ws_J2_checkBoundsBeginEnd_d044e⟩
theorem lk_J2_244 : lk_S RJ2 244 jJ2_indexOfCharUnsafe_4cfef 4 := ⟨⟨gt_of 358 (by decide +kernel) (by decide +kernel), wd_J2_indexOfCharUnsafe_4cfef, wn_J2, by decide +kernel, by decide⟩, ws_J2_indexOfCharUnsafe_4cfef⟩
theorem lk_J2_71 : lk_S RJ2 71 jJ2_getChar_3b067 2 := ⟨⟨gt_of 288 (by decide +kernel) (by decide +kernel), wd_J2_getChar_3b067, wn_J2, by decide +kernel, by decide⟩, ws_J2_getChar_3b067⟩
theorem lk_J2_164 : lk_S RJ2 164 jJ11_isValidCodePoint_9a6ad 1 := ⟨⟨gt_of 364 (by decide +kernel) (by decide +kernel), wd_J11_isValidCodePoint_9a6ad, wn_J11, by decide +kernel, by decide⟩, ws_J11_isValidCodePoint_9a6ad⟩
theorem lk_J2_157 : lk_S RJ2 157 jJ11_highSurrogate_5068e 1 := ⟨⟨gt_of 367 (by decide +kernel) (by decide +kernel), wd_J11_highSurrogate_5068e, wn_J11, by decide +kernel, by decide⟩, ws_J11_highSurrogate_5068e⟩
theorem lk_J2_161 : lk_S RJ2 161 jJ11_lowSurrogate_5068e 1 := ⟨⟨gt_of 371 (by decide +kernel) (by decide +kernel), wd_J11_lowSurrogate_5068e, wn_J11, by decide +kernel, by decide⟩, ws_J11_lowSurrogate_5068e⟩
theorem lk_J2_67 : lk_S RJ2 67 jJ2_checkIndex_2214a 2 := ⟨⟨gt_of 281 (by decide +kernel) (by decide +kernel), wd_J2_checkIndex_2214a, wn_J2, by decide +kernel, by decide⟩, ws_J2_checkIndex_2214a⟩
theorem lk_J2_414 : lk_S RJ2 414 jJ0_checkIndex_df160 2 := ⟨⟨gt_of 287 (by decide +kernel) (by decide +kernel), wd_J0_checkIndex_df160, wn_J0, by decide +kernel, by decide⟩, ws_J0_checkIndex_df160⟩
theorem lk_J2_241 : lk_S RJ2 241 jJ0_checkBoundsBeginEnd_23922 3 := ⟨⟨gt_of 352 (by decide +kernel) (by decide +kernel), wd_J0_checkBoundsBeginEnd_23922, wn_J0, by decide +kernel, by decide⟩, ws_J0_checkBoundsBeginEnd_23922⟩
theorem wc_L_7 : Cond.classLink RL 7 RX10 ∈ gt_ws := gt_of 23 (by decide +kernel) (by decide +kernel)
theorem lk_L_9 : lk_I RL 9 jX10_init 0 := ⟨⟨gt_of 25 (by decide +kernel) (by decide +kernel), wd_X10_init, wn_X10, by decide +kernel, by decide⟩, by decide, wm_X10_init⟩
theorem wc_L_10 : Cond.classLink RL 10 RX12 ∈ gt_ws := gt_of 785 (by decide +kernel) (by decide +kernel)
theorem lk_L_12 : lk_I RL 12 jX12_init 0 := ⟨⟨gt_of 787 (by decide +kernel) (by decide +kernel), wd_X12_init, wn_X12, by decide +kernel, by decide⟩, by decide, wm_X12_init⟩
theorem lk_L_13 : lk_V RL 13 jX10_port 1 := ⟨⟨gt_of 159 (by decide +kernel) (by decide +kernel), wd_X10_port, wn_X10, by decide +kernel, by decide⟩, wm_X10_port, we_X10_port⟩
theorem lk_L_17 : lk_V RL 17 jX12_port 1 := ⟨⟨gt_of 1013 (by decide +kernel) (by decide +kernel), wd_X12_port, wn_X12, by decide +kernel, by decide⟩, wm_X12_port, we_X12_port⟩
theorem lk_L_18 : lk_V RL 18 jX10_feed 5 := ⟨⟨gt_of 211 (by decide +kernel) (by decide +kernel), wd_X10_feed, wn_X10, by decide +kernel, by decide⟩, wm_X10_feed, we_X10_feed⟩
theorem lk_L_22 : lk_V RL 22 jX12_feed 5 := ⟨⟨gt_of 1033 (by decide +kernel) (by decide +kernel), wd_X12_feed, wn_X12, by decide +kernel, by decide⟩, wm_X12_feed, we_X12_feed⟩
theorem lk_L_23 : lk_V RL 23 jX10_tariff 1 := ⟨⟨gt_of 219 (by decide +kernel) (by decide +kernel), wd_X10_tariff, wn_X10, by decide +kernel, by decide⟩, wm_X10_tariff, we_X10_tariff⟩
theorem lk_L_27 : lk_V RL 27 jX10_fault 0 := ⟨⟨gt_of 500 (by decide +kernel) (by decide +kernel), wd_X10_fault, wn_X10, by decide +kernel, by decide⟩, wm_X10_fault, we_X10_fault⟩
theorem lk_L_31 : lk_V RL 31 jX12_fault 0 := ⟨⟨gt_of 1097 (by decide +kernel) (by decide +kernel), wd_X12_fault, wn_X12, by decide +kernel, by decide⟩, wm_X12_fault, we_X12_fault⟩
theorem lk_L_32 : lk_V RL 32 jX10_where 0 := ⟨⟨gt_of 504 (by decide +kernel) (by decide +kernel), wd_X10_where, wn_X10, by decide +kernel, by decide⟩, wm_X10_where, we_X10_where⟩
theorem lk_L_35 : lk_V RL 35 jX12_where 0 := ⟨⟨gt_of 1101 (by decide +kernel) (by decide +kernel), wd_X12_where, wn_X12, by decide +kernel, by decide⟩, wm_X12_where, we_X12_where⟩
theorem lk_L_36 : lk_V RL 36 jX10_lost 2 := ⟨⟨gt_of 508 (by decide +kernel) (by decide +kernel), wd_X10_lost, wn_X10, by decide +kernel, by decide⟩, wm_X10_lost, we_X10_lost⟩
theorem lk_L_40 : lk_V RL 40 jX12_lost 2 := ⟨⟨gt_of 1105 (by decide +kernel) (by decide +kernel), wd_X12_lost, wn_X12, by decide +kernel, by decide⟩, wm_X12_lost, we_X12_lost⟩
theorem lk_L_41 : lk_V RL 41 jX10_pass 1 := ⟨⟨gt_of 521 (by decide +kernel) (by decide +kernel), wd_X10_pass, wn_X10, by decide +kernel, by decide⟩, wm_X10_pass, we_X10_pass⟩
theorem lk_L_44 : lk_V RL 44 jX12_pass 1 := ⟨⟨gt_of 1125 (by decide +kernel) (by decide +kernel), wd_X12_pass, wn_X12, by decide +kernel, by decide⟩, wm_X12_pass, we_X12_pass⟩
theorem lk_L_45 : lk_V RL 45 jX10_force 1 := ⟨⟨gt_of 525 (by decide +kernel) (by decide +kernel), wd_X10_force, wn_X10, by decide +kernel, by decide⟩, wm_X10_force, we_X10_force⟩
theorem lk_L_48 : lk_V RL 48 jX12_force 1 := ⟨⟨gt_of 1133 (by decide +kernel) (by decide +kernel), wd_X12_force, wn_X12, by decide +kernel, by decide⟩, wm_X12_force, we_X12_force⟩
theorem lk_L_49 : lk_V RL 49 jX10_came 2 := ⟨⟨gt_of 541 (by decide +kernel) (by decide +kernel), wd_X10_came, wn_X10, by decide +kernel, by decide⟩, wm_X10_came, we_X10_came⟩
theorem lk_L_53 : lk_V RL 53 jX12_came 2 := ⟨⟨gt_of 1141 (by decide +kernel) (by decide +kernel), wd_X12_came, wn_X12, by decide +kernel, by decide⟩, wm_X12_came, we_X12_came⟩
theorem lk_L_54 : lk_V RL 54 jX10_asked 2 := ⟨⟨gt_of 546 (by decide +kernel) (by decide +kernel), wd_X10_asked, wn_X10, by decide +kernel, by decide⟩, wm_X10_asked, we_X10_asked⟩
theorem lk_L_57 : lk_V RL 57 jX12_asked 2 := ⟨⟨gt_of 1145 (by decide +kernel) (by decide +kernel), wd_X12_asked, wn_X12, by decide +kernel, by decide⟩, wm_X12_asked, we_X12_asked⟩
theorem lk_L_58 : lk_V RL 58 jX10_under 1 := ⟨⟨gt_of 551 (by decide +kernel) (by decide +kernel), wd_X10_under, wn_X10, by decide +kernel, by decide⟩, wm_X10_under, we_X10_under⟩
theorem lk_L_61 : lk_V RL 61 jX12_under 1 := ⟨⟨gt_of 1149 (by decide +kernel) (by decide +kernel), wd_X12_under, wn_X12, by decide +kernel, by decide⟩, wm_X12_under, we_X12_under⟩
theorem lk_L_62 : lk_V RL 62 jX10_stock 3 := ⟨⟨gt_of 579 (by decide +kernel) (by decide +kernel), wd_X10_stock, wn_X10, by decide +kernel, by decide⟩, wm_X10_stock, we_X10_stock⟩
theorem lk_L_66 : lk_V RL 66 jX12_stock 3 := ⟨⟨gt_of 1153 (by decide +kernel) (by decide +kernel), wd_X12_stock, wn_X12, by decide +kernel, by decide⟩, wm_X12_stock, we_X12_stock⟩
theorem lk_L_67 : lk_V RL 67 jX10_fee 5 := ⟨⟨gt_of 595 (by decide +kernel) (by decide +kernel), wd_X10_fee, wn_X10, by decide +kernel, by decide⟩, wm_X10_fee, we_X10_fee⟩
theorem lk_L_70 : lk_V RL 70 jX12_fee 5 := ⟨⟨gt_of 1157 (by decide +kernel) (by decide +kernel), wd_X12_fee, wn_X12, by decide +kernel, by decide⟩, wm_X12_fee, we_X12_fee⟩
theorem lk_L_71 : lk_V RL 71 jX10_seal 4 := ⟨⟨gt_of 673 (by decide +kernel) (by decide +kernel), wd_X10_seal, wn_X10, by decide +kernel, by decide⟩, wm_X10_seal, we_X10_seal⟩
theorem lk_L_75 : lk_V RL 75 jX12_seal 4 := ⟨⟨gt_of 1172 (by decide +kernel) (by decide +kernel), wd_X12_seal, wn_X12, by decide +kernel, by decide⟩, wm_X12_seal, we_X12_seal⟩
theorem lk_L_76 : lk_V RL 76 jX10_paper 2 := ⟨⟨gt_of 705 (by decide +kernel) (by decide +kernel), wd_X10_paper, wn_X10, by decide +kernel, by decide⟩, wm_X10_paper, we_X10_paper⟩
theorem lk_L_79 : lk_V RL 79 jX12_paper 2 := ⟨⟨gt_of 1193 (by decide +kernel) (by decide +kernel), wd_X12_paper, wn_X12, by decide +kernel, by decide⟩, wm_X12_paper, we_X12_paper⟩
theorem lk_L_80 : lk_V RL 80 jX10_stamps 2 := ⟨⟨gt_of 731 (by decide +kernel) (by decide +kernel), wd_X10_stamps, wn_X10, by decide +kernel, by decide⟩, wm_X10_stamps, we_X10_stamps⟩
theorem lk_L_83 : lk_V RL 83 jX12_stamps 2 := ⟨⟨gt_of 1201 (by decide +kernel) (by decide +kernel), wd_X12_stamps, wn_X12, by decide +kernel, by decide⟩, wm_X12_stamps, we_X12_stamps⟩
theorem lk_L_84 : lk_V RL 84 jX10_about 2 := ⟨⟨gt_of 736 (by decide +kernel) (by decide +kernel), wd_X10_about, wn_X10, by decide +kernel, by decide⟩, wm_X10_about, we_X10_about⟩
theorem lk_L_87 : lk_V RL 87 jX12_about 2 := ⟨⟨gt_of 1205 (by decide +kernel) (by decide +kernel), wd_X12_about, wn_X12, by decide +kernel, by decide⟩, wm_X12_about, we_X12_about⟩
theorem lk_L_88 : lk_V RL 88 jX10_known 2 := ⟨⟨gt_of 741 (by decide +kernel) (by decide +kernel), wd_X10_known, wn_X10, by decide +kernel, by decide⟩, wm_X10_known, we_X10_known⟩
theorem lk_L_91 : lk_V RL 91 jX12_known 2 := ⟨⟨gt_of 1209 (by decide +kernel) (by decide +kernel), wd_X12_known, wn_X12, by decide +kernel, by decide⟩, wm_X12_known, we_X12_known⟩
theorem lk_L_92 : lk_V RL 92 jX10_sum 2 := ⟨⟨gt_of 753 (by decide +kernel) (by decide +kernel), wd_X10_sum, wn_X10, by decide +kernel, by decide⟩, wm_X10_sum, we_X10_sum⟩
theorem lk_L_95 : lk_V RL 95 jX12_sum 2 := ⟨⟨gt_of 1213 (by decide +kernel) (by decide +kernel), wd_X12_sum, wn_X12, by decide +kernel, by decide⟩, wm_X12_sum, we_X12_sum⟩
theorem lk_L_96 : lk_V RL 96 jX10_homes 1 := ⟨⟨gt_of 761 (by decide +kernel) (by decide +kernel), wd_X10_homes, wn_X10, by decide +kernel, by decide⟩, wm_X10_homes, we_X10_homes⟩
theorem lk_L_99 : lk_V RL 99 jX12_homes 1 := ⟨⟨gt_of 1217 (by decide +kernel) (by decide +kernel), wd_X12_homes, wn_X12, by decide +kernel, by decide⟩, wm_X12_homes, we_X12_homes⟩
theorem lk_L_100 : lk_V RL 100 jX10_difference 1 := ⟨⟨gt_of 769 (by decide +kernel) (by decide +kernel), wd_X10_difference, wn_X10, by decide +kernel, by decide⟩, wm_X10_difference, we_X10_difference⟩
theorem lk_L_103 : lk_V RL 103 jX12_difference 1 := ⟨⟨gt_of 1225 (by decide +kernel) (by decide +kernel), wd_X12_difference, wn_X12, by decide +kernel, by decide⟩, wm_X12_difference, we_X12_difference⟩
theorem lk_L_104 : lk_V RL 104 jX10_unlike 1 := ⟨⟨gt_of 773 (by decide +kernel) (by decide +kernel), wd_X10_unlike, wn_X10, by decide +kernel, by decide⟩, wm_X10_unlike, we_X10_unlike⟩
theorem lk_L_107 : lk_V RL 107 jX12_unlike 1 := ⟨⟨gt_of 1229 (by decide +kernel) (by decide +kernel), wd_X12_unlike, wn_X12, by decide +kernel, by decide⟩, wm_X12_unlike, we_X12_unlike⟩
theorem lk_L_108 : lk_V RL 108 jX10_count 1 := ⟨⟨gt_of 777 (by decide +kernel) (by decide +kernel), wd_X10_count, wn_X10, by decide +kernel, by decide⟩, wm_X10_count, we_X10_count⟩
theorem lk_L_111 : lk_V RL 111 jX12_count 1 := ⟨⟨gt_of 1233 (by decide +kernel) (by decide +kernel), wd_X12_count, wn_X12, by decide +kernel, by decide⟩, wm_X12_count, we_X12_count⟩
theorem lk_L_112 : lk_V RL 112 jX10_trouble 0 := ⟨⟨gt_of 781 (by decide +kernel) (by decide +kernel), wd_X10_trouble, wn_X10, by decide +kernel, by decide⟩, wm_X10_trouble, we_X10_trouble⟩
theorem lk_L_115 : lk_V RL 115 jX12_trouble 0 := ⟨⟨gt_of 1237 (by decide +kernel) (by decide +kernel), wd_X12_trouble, wn_X12, by decide +kernel, by decide⟩, wm_X12_trouble, we_X12_trouble⟩
end
section
theorem dX0_init_0 : decode cX0_init 0 = .ok (.aload_n 0, 1) := by decide +kernel
theorem dX0_init_1 : decode cX0_init 1 = .ok (.invokespecial 1, 3) := by decide +kernel
theorem dX0_init_4 : decode cX0_init 4 = .ok (.aload_n 0, 1) := by decide +kernel
theorem dX0_init_5 : decode cX0_init 5 = .ok (.getstatic 7, 3) := by decide +kernel
theorem dX0_init_8 : decode cX0_init 8 = .ok (.arraylength, 1) := by decide +kernel
theorem dX0_init_9 : decode cX0_init 9 = .ok (.newarray .int, 2) := by decide +kernel
theorem dX0_init_11 : decode cX0_init 11 = .ok (.putfield 13, 3) := by decide +kernel
theorem dX0_init_14 : decode cX0_init 14 = .ok (.aload_n 0, 1) := by decide +kernel
theorem dX0_init_15 : decode cX0_init 15 = .ok (.aconst_null, 1) := by decide +kernel
theorem dX0_init_16 : decode cX0_init 16 = .ok (.putfield 18, 3) := by decide +kernel
theorem dX0_init_19 : decode cX0_init 19 = .ok (.aload_n 0, 1) := by decide +kernel
theorem dX0_init_20 : decode cX0_init 20 = .ok (.iconst 0, 1) := by decide +kernel
theorem dX0_init_21 : decode cX0_init 21 = .ok (.putfield 21, 3) := by decide +kernel
theorem dX0_init_24 : decode cX0_init 24 = .ok (.return_, 1) := by decide +kernel
theorem dX0_fewest_0 : decode cX0_fewest 0 = .ok (.aload_n 0, 1) := by decide +kernel
theorem dX0_fewest_1 : decode cX0_fewest 1 = .ok (.aconst_null, 1) := by decide +kernel
theorem dX0_fewest_2 : decode cX0_fewest 2 = .ok (.putfield 18, 3) := by decide +kernel
theorem dX0_fewest_5 : decode cX0_fewest 5 = .ok (.aload_n 0, 1) := by decide +kernel
theorem dX0_fewest_6 : decode cX0_fewest 6 = .ok (.iconst 0, 1) := by decide +kernel
theorem dX0_fewest_7 : decode cX0_fewest 7 = .ok (.putfield 21, 3) := by decide +kernel
theorem dX0_fewest_10 : decode cX0_fewest 10 = .ok (.aload_n 0, 1) := by decide +kernel
theorem dX0_fewest_11 : decode cX0_fewest 11 = .ok (.aload_n 1, 1) := by decide +kernel
theorem dX0_fewest_12 : decode cX0_fewest 12 = .ok (.getstatic 7, 3) := by decide +kernel
theorem dX0_fewest_15 : decode cX0_fewest 15 = .ok (.arraylength, 1) := by decide +kernel
theorem dX0_fewest_16 : decode cX0_fewest 16 = .ok (.iconst 1, 1) := by decide +kernel
theorem dX0_fewest_17 : decode cX0_fewest 17 = .ok (.isub, 1) := by decide +kernel
theorem dX0_fewest_18 : decode cX0_fewest 18 = .ok (.iload_n 2, 1) := by decide +kernel
theorem dX0_fewest_19 : decode cX0_fewest 19 = .ok (.iconst 0, 1) := by decide +kernel
theorem dX0_fewest_20 : decode cX0_fewest 20 = .ok (.invokevirtual 25, 3) := by decide +kernel
theorem dX0_fewest_23 : decode cX0_fewest 23 = .ok (.aload_n 0, 1) := by decide +kernel
theorem dX0_fewest_24 : decode cX0_fewest 24 = .ok (.getfield 18, 3) := by decide +kernel
theorem dX0_fewest_27 : decode cX0_fewest 27 = .ok (.areturn, 1) := by decide +kernel
theorem dX0_tryWorth_0 : decode cX0_tryWorth 0 = .ok (.iload_n 2, 1) := by decide +kernel
theorem dX0_tryWorth_1 : decode cX0_tryWorth 1 = .ok (.ifCond .ge 44, 3) := by decide +kernel
theorem dX0_tryWorth_4 : decode cX0_tryWorth 4 = .ok (.iload_n 3, 1) := by decide +kernel
theorem dX0_tryWorth_5 : decode cX0_tryWorth 5 = .ok (.ifCond .ne 39, 3) := by decide +kernel
theorem dX0_tryWorth_8 : decode cX0_tryWorth 8 = .ok (.aload_n 0, 1) := by decide +kernel
theorem dX0_tryWorth_9 : decode cX0_tryWorth 9 = .ok (.getfield 18, 3) := by decide +kernel
theorem dX0_tryWorth_12 : decode cX0_tryWorth 12 = .ok (.ifnull 12, 3) := by decide +kernel
theorem dX0_tryWorth_15 : decode cX0_tryWorth 15 = .ok (.iload 4, 2) := by decide +kernel
theorem dX0_tryWorth_17 : decode cX0_tryWorth 17 = .ok (.aload_n 0, 1) := by decide +kernel
theorem dX0_tryWorth_18 : decode cX0_tryWorth 18 = .ok (.getfield 21, 3) := by decide +kernel
theorem dX0_tryWorth_21 : decode cX0_tryWorth 21 = .ok (.if_icmp .ge 23, 3) := by decide +kernel
theorem dX0_tryWorth_24 : decode cX0_tryWorth 24 = .ok (.aload_n 0, 1) := by decide +kernel
theorem dX0_tryWorth_25 : decode cX0_tryWorth 25 = .ok (.aload_n 0, 1) := by decide +kernel
theorem dX0_tryWorth_26 : decode cX0_tryWorth 26 = .ok (.getfield 13, 3) := by decide +kernel
theorem dX0_tryWorth_29 : decode cX0_tryWorth 29 = .ok (.invokevirtual 29, 3) := by decide +kernel
theorem dX0_tryWorth_32 : decode cX0_tryWorth 32 = .ok (.checkcast 30, 3) := by decide +kernel
theorem dX0_tryWorth_35 : decode cX0_tryWorth 35 = .ok (.putfield 18, 3) := by decide +kernel
theorem dX0_tryWorth_38 : decode cX0_tryWorth 38 = .ok (.aload_n 0, 1) := by decide +kernel
theorem dX0_tryWorth_39 : decode cX0_tryWorth 39 = .ok (.iload 4, 2) := by decide +kernel
theorem dX0_tryWorth_41 : decode cX0_tryWorth 41 = .ok (.putfield 21, 3) := by decide +kernel
theorem dX0_tryWorth_44 : decode cX0_tryWorth 44 = .ok (.return_, 1) := by decide +kernel
theorem dX0_tryWorth_45 : decode cX0_tryWorth 45 = .ok (.iload_n 2, 1) := by decide +kernel
theorem dX0_tryWorth_46 : decode cX0_tryWorth 46 = .ok (.aload_n 1, 1) := by decide +kernel
theorem dX0_tryWorth_47 : decode cX0_tryWorth 47 = .ok (.arraylength, 1) := by decide +kernel
theorem dX0_tryWorth_48 : decode cX0_tryWorth 48 = .ok (.if_icmp .ge 36, 3) := by decide +kernel
theorem dX0_tryWorth_51 : decode cX0_tryWorth 51 = .ok (.iload_n 2, 1) := by decide +kernel
theorem dX0_tryWorth_52 : decode cX0_tryWorth 52 = .ok (.getstatic 7, 3) := by decide +kernel
theorem dX0_tryWorth_55 : decode cX0_tryWorth 55 = .ok (.arraylength, 1) := by decide +kernel
theorem dX0_tryWorth_56 : decode cX0_tryWorth 56 = .ok (.if_icmp .ge 28, 3) := by decide +kernel
theorem dX0_tryWorth_59 : decode cX0_tryWorth 59 = .ok (.iload_n 2, 1) := by decide +kernel
theorem dX0_tryWorth_60 : decode cX0_tryWorth 60 = .ok (.getstatic 34, 3) := by decide +kernel
theorem dX0_tryWorth_63 : decode cX0_tryWorth 63 = .ok (.arraylength, 1) := by decide +kernel
theorem dX0_tryWorth_64 : decode cX0_tryWorth 64 = .ok (.if_icmp .ge 20, 3) := by decide +kernel
theorem dX0_tryWorth_67 : decode cX0_tryWorth 67 = .ok (.iload_n 2, 1) := by decide +kernel
theorem dX0_tryWorth_68 : decode cX0_tryWorth 68 = .ok (.aload_n 0, 1) := by decide +kernel
theorem dX0_tryWorth_69 : decode cX0_tryWorth 69 = .ok (.getfield 13, 3) := by decide +kernel
theorem dX0_tryWorth_72 : decode cX0_tryWorth 72 = .ok (.arraylength, 1) := by decide +kernel
theorem dX0_tryWorth_73 : decode cX0_tryWorth 73 = .ok (.if_icmp .ge 11, 3) := by decide +kernel
theorem dX0_tryWorth_76 : decode cX0_tryWorth 76 = .ok (.getstatic 7, 3) := by decide +kernel
theorem dX0_tryWorth_79 : decode cX0_tryWorth 79 = .ok (.iload_n 2, 1) := by decide +kernel
theorem dX0_tryWorth_80 : decode cX0_tryWorth 80 = .ok (.iaload, 1) := by decide +kernel
theorem dX0_tryWorth_81 : decode cX0_tryWorth 81 = .ok (.ifCond .gt 4, 3) := by decide +kernel
theorem dX0_tryWorth_84 : decode cX0_tryWorth 84 = .ok (.return_, 1) := by decide +kernel
theorem dX0_tryWorth_85 : decode cX0_tryWorth 85 = .ok (.aload_n 1, 1) := by decide +kernel
theorem dX0_tryWorth_86 : decode cX0_tryWorth 86 = .ok (.iload_n 2, 1) := by decide +kernel
theorem dX0_tryWorth_87 : decode cX0_tryWorth 87 = .ok (.iaload, 1) := by decide +kernel
theorem dX0_tryWorth_88 : decode cX0_tryWorth 88 = .ok (.iload_n 3, 1) := by decide +kernel
theorem dX0_tryWorth_89 : decode cX0_tryWorth 89 = .ok (.getstatic 7, 3) := by decide +kernel
theorem dX0_tryWorth_92 : decode cX0_tryWorth 92 = .ok (.iload_n 2, 1) := by decide +kernel
theorem dX0_tryWorth_93 : decode cX0_tryWorth 93 = .ok (.iaload, 1) := by decide +kernel
theorem dX0_tryWorth_94 : decode cX0_tryWorth 94 = .ok (.idiv, 1) := by decide +kernel
theorem dX0_tryWorth_95 : decode cX0_tryWorth 95 = .ok (.invokestatic 37, 3) := by decide +kernel
theorem dX0_tryWorth_98 : decode cX0_tryWorth 98 = .ok (.istore 5, 2) := by decide +kernel
theorem dX0_tryWorth_100 : decode cX0_tryWorth 100 = .ok (.iload 5, 2) := by decide +kernel
theorem dX0_tryWorth_102 : decode cX0_tryWorth 102 = .ok (.istore 6, 2) := by decide +kernel
theorem dX0_tryWorth_104 : decode cX0_tryWorth 104 = .ok (.iload 6, 2) := by decide +kernel
theorem dX0_tryWorth_106 : decode cX0_tryWorth 106 = .ok (.iconst 0, 1) := by decide +kernel
theorem dX0_tryWorth_107 : decode cX0_tryWorth 107 = .ok (.iload 5, 2) := by decide +kernel
theorem dX0_tryWorth_109 : decode cX0_tryWorth 109 = .ok (.getstatic 34, 3) := by decide +kernel
theorem dX0_tryWorth_112 : decode cX0_tryWorth 112 = .ok (.iload_n 2, 1) := by decide +kernel
theorem dX0_tryWorth_113 : decode cX0_tryWorth 113 = .ok (.iaload, 1) := by decide +kernel
theorem dX0_tryWorth_114 : decode cX0_tryWorth 114 = .ok (.isub, 1) := by decide +kernel
theorem dX0_tryWorth_115 : decode cX0_tryWorth 115 = .ok (.invokestatic 43, 3) := by decide +kernel
theorem dX0_tryWorth_118 : decode cX0_tryWorth 118 = .ok (.if_icmp .lt 40, 3) := by decide +kernel
theorem dX0_tryWorth_121 : decode cX0_tryWorth 121 = .ok (.aload_n 0, 1) := by decide +kernel
theorem dX0_tryWorth_122 : decode cX0_tryWorth 122 = .ok (.getfield 13, 3) := by decide +kernel
theorem dX0_tryWorth_125 : decode cX0_tryWorth 125 = .ok (.iload_n 2, 1) := by decide +kernel
theorem dX0_tryWorth_126 : decode cX0_tryWorth 126 = .ok (.iload 6, 2) := by decide +kernel
theorem dX0_tryWorth_128 : decode cX0_tryWorth 128 = .ok (.iastore, 1) := by decide +kernel
theorem dX0_tryWorth_129 : decode cX0_tryWorth 129 = .ok (.aload_n 0, 1) := by decide +kernel
theorem dX0_tryWorth_130 : decode cX0_tryWorth 130 = .ok (.aload_n 1, 1) := by decide +kernel
theorem dX0_tryWorth_131 : decode cX0_tryWorth 131 = .ok (.iload_n 2, 1) := by decide +kernel
theorem dX0_tryWorth_132 : decode cX0_tryWorth 132 = .ok (.iconst 1, 1) := by decide +kernel
theorem dX0_tryWorth_133 : decode cX0_tryWorth 133 = .ok (.isub, 1) := by decide +kernel
theorem dX0_tryWorth_134 : decode cX0_tryWorth 134 = .ok (.iload_n 3, 1) := by decide +kernel
theorem dX0_tryWorth_135 : decode cX0_tryWorth 135 = .ok (.iload 6, 2) := by decide +kernel
theorem dX0_tryWorth_137 : decode cX0_tryWorth 137 = .ok (.getstatic 7, 3) := by decide +kernel
theorem dX0_tryWorth_140 : decode cX0_tryWorth 140 = .ok (.iload_n 2, 1) := by decide +kernel
theorem dX0_tryWorth_141 : decode cX0_tryWorth 141 = .ok (.iaload, 1) := by decide +kernel
theorem dX0_tryWorth_142 : decode cX0_tryWorth 142 = .ok (.imul, 1) := by decide +kernel
theorem dX0_tryWorth_143 : decode cX0_tryWorth 143 = .ok (.isub, 1) := by decide +kernel
theorem dX0_tryWorth_144 : decode cX0_tryWorth 144 = .ok (.iload 4, 2) := by decide +kernel
theorem dX0_tryWorth_146 : decode cX0_tryWorth 146 = .ok (.iload 6, 2) := by decide +kernel
theorem dX0_tryWorth_148 : decode cX0_tryWorth 148 = .ok (.iadd, 1) := by decide +kernel
theorem dX0_tryWorth_149 : decode cX0_tryWorth 149 = .ok (.invokevirtual 25, 3) := by decide +kernel
theorem dX0_tryWorth_152 : decode cX0_tryWorth 152 = .ok (.iinc 6 (-1), 3) := by decide +kernel
theorem dX0_tryWorth_155 : decode cX0_tryWorth 155 = .ok (.goto (-51), 3) := by decide +kernel
theorem dX0_tryWorth_158 : decode cX0_tryWorth 158 = .ok (.return_, 1) := by decide +kernel
theorem dX1_init_0 : decode cX1_init 0 = .ok (.aload_n 0, 1) := by decide +kernel
theorem dX1_init_1 : decode cX1_init 1 = .ok (.invokespecial 3, 3) := by decide +kernel
theorem dX1_init_4 : decode cX1_init 4 = .ok (.aload_n 0, 1) := by decide +kernel
theorem dX1_init_5 : decode cX1_init 5 = .ok (.iconst 4, 1) := by decide +kernel
theorem dX1_init_6 : decode cX1_init 6 = .ok (.anewarray 9, 3) := by decide +kernel
theorem dX1_init_9 : decode cX1_init 9 = .ok (.putfield 11, 3) := by decide +kernel
theorem dX1_init_12 : decode cX1_init 12 = .ok (.aload_n 0, 1) := by decide +kernel
theorem dX1_init_13 : decode cX1_init 13 = .ok (.iconst 4, 1) := by decide +kernel
theorem dX1_init_14 : decode cX1_init 14 = .ok (.anewarray 17, 3) := by decide +kernel
theorem dX1_init_17 : decode cX1_init 17 = .ok (.putfield 19, 3) := by decide +kernel
theorem dX1_init_20 : decode cX1_init 20 = .ok (.aload_n 0, 1) := by decide +kernel
theorem dX1_init_21 : decode cX1_init 21 = .ok (.iload_n 1, 1) := by decide +kernel
theorem dX1_init_22 : decode cX1_init 22 = .ok (.putfield 23, 3) := by decide +kernel
theorem dX1_init_25 : decode cX1_init 25 = .ok (.return_, 1) := by decide +kernel
theorem dX1_fits_0 : decode cX1_fits 0 = .ok (.aload_n 1, 1) := by decide +kernel
theorem dX1_fits_1 : decode cX1_fits 1 = .ok (.getfield 27, 3) := by decide +kernel
theorem dX1_fits_4 : decode cX1_fits 4 = .ok (.aload_n 0, 1) := by decide +kernel
theorem dX1_fits_5 : decode cX1_fits 5 = .ok (.getfield 23, 3) := by decide +kernel
theorem dX1_fits_8 : decode cX1_fits 8 = .ok (.if_icmp .eq 5, 3) := by decide +kernel
theorem dX1_fits_11 : decode cX1_fits 11 = .ok (.iconst 0, 1) := by decide +kernel
theorem dX1_fits_12 : decode cX1_fits 12 = .ok (.ireturn, 1) := by decide +kernel
theorem dX1_fits_13 : decode cX1_fits 13 = .ok (.iconst 0, 1) := by decide +kernel
theorem dX1_fits_14 : decode cX1_fits 14 = .ok (.istore_n 2, 1) := by decide +kernel
theorem dX1_fits_15 : decode cX1_fits 15 = .ok (.iload_n 2, 1) := by decide +kernel
theorem dX1_fits_16 : decode cX1_fits 16 = .ok (.aload_n 0, 1) := by decide +kernel
theorem dX1_fits_17 : decode cX1_fits 17 = .ok (.getfield 11, 3) := by decide +kernel
theorem dX1_fits_20 : decode cX1_fits 20 = .ok (.arraylength, 1) := by decide +kernel
theorem dX1_fits_21 : decode cX1_fits 21 = .ok (.if_icmp .ge 30, 3) := by decide +kernel
theorem dX1_fits_24 : decode cX1_fits 24 = .ok (.aload_n 0, 1) := by decide +kernel
theorem dX1_fits_25 : decode cX1_fits 25 = .ok (.getfield 11, 3) := by decide +kernel
theorem dX1_fits_28 : decode cX1_fits 28 = .ok (.iload_n 2, 1) := by decide +kernel
theorem dX1_fits_29 : decode cX1_fits 29 = .ok (.aaload, 1) := by decide +kernel
theorem dX1_fits_30 : decode cX1_fits 30 = .ok (.astore_n 3, 1) := by decide +kernel
theorem dX1_fits_31 : decode cX1_fits 31 = .ok (.aload_n 3, 1) := by decide +kernel
theorem dX1_fits_32 : decode cX1_fits 32 = .ok (.ifnull 13, 3) := by decide +kernel
theorem dX1_fits_35 : decode cX1_fits 35 = .ok (.aload_n 3, 1) := by decide +kernel
theorem dX1_fits_36 : decode cX1_fits 36 = .ok (.aload_n 1, 1) := by decide +kernel
theorem dX1_fits_37 : decode cX1_fits 37 = .ok (.invokevirtual 30, 3) := by decide +kernel
theorem dX1_fits_40 : decode cX1_fits 40 = .ok (.ifCond .ne 5, 3) := by decide +kernel
theorem dX1_fits_43 : decode cX1_fits 43 = .ok (.iconst 0, 1) := by decide +kernel
theorem dX1_fits_44 : decode cX1_fits 44 = .ok (.ireturn, 1) := by decide +kernel
theorem dX1_fits_45 : decode cX1_fits 45 = .ok (.iinc 2 1, 3) := by decide +kernel
theorem dX1_fits_48 : decode cX1_fits 48 = .ok (.goto (-33), 3) := by decide +kernel
theorem dX1_fits_51 : decode cX1_fits 51 = .ok (.iconst 1, 1) := by decide +kernel
theorem dX1_fits_52 : decode cX1_fits 52 = .ok (.ireturn, 1) := by decide +kernel
theorem dX1_total_0 : decode cX1_total 0 = .ok (.iconst 0, 1) := by decide +kernel
theorem dX1_total_1 : decode cX1_total 1 = .ok (.istore_n 2, 1) := by decide +kernel
theorem dX1_total_2 : decode cX1_total 2 = .ok (.iconst 0, 1) := by decide +kernel
theorem dX1_total_3 : decode cX1_total 3 = .ok (.istore_n 3, 1) := by decide +kernel
theorem dX1_total_4 : decode cX1_total 4 = .ok (.iload_n 3, 1) := by decide +kernel
theorem dX1_total_5 : decode cX1_total 5 = .ok (.aload_n 0, 1) := by decide +kernel
theorem dX1_total_6 : decode cX1_total 6 = .ok (.getfield 19, 3) := by decide +kernel
theorem dX1_total_9 : decode cX1_total 9 = .ok (.arraylength, 1) := by decide +kernel
theorem dX1_total_10 : decode cX1_total 10 = .ok (.if_icmp .ge 31, 3) := by decide +kernel
theorem dX1_total_13 : decode cX1_total 13 = .ok (.aload_n 0, 1) := by decide +kernel
theorem dX1_total_14 : decode cX1_total 14 = .ok (.getfield 19, 3) := by decide +kernel
theorem dX1_total_17 : decode cX1_total 17 = .ok (.iload_n 3, 1) := by decide +kernel
theorem dX1_total_18 : decode cX1_total 18 = .ok (.aaload, 1) := by decide +kernel
theorem dX1_total_19 : decode cX1_total 19 = .ok (.astore 4, 2) := by decide +kernel
theorem dX1_total_21 : decode cX1_total 21 = .ok (.aload 4, 2) := by decide +kernel
theorem dX1_total_23 : decode cX1_total 23 = .ok (.ifnull 12, 3) := by decide +kernel
theorem dX1_total_26 : decode cX1_total 26 = .ok (.iload_n 2, 1) := by decide +kernel
theorem dX1_total_27 : decode cX1_total 27 = .ok (.aload 4, 2) := by decide +kernel
theorem dX1_total_29 : decode cX1_total 29 = .ok (.aload_n 1, 1) := by decide +kernel
theorem dX1_total_30 : decode cX1_total 30 = .ok (.invokevirtual 34, 3) := by decide +kernel
theorem dX1_total_33 : decode cX1_total 33 = .ok (.iadd, 1) := by decide +kernel
theorem dX1_total_34 : decode cX1_total 34 = .ok (.istore_n 2, 1) := by decide +kernel
theorem dX1_total_35 : decode cX1_total 35 = .ok (.iinc 3 1, 3) := by decide +kernel
theorem dX1_total_38 : decode cX1_total 38 = .ok (.goto (-34), 3) := by decide +kernel
theorem dX1_total_41 : decode cX1_total 41 = .ok (.iload_n 2, 1) := by decide +kernel
theorem dX1_total_42 : decode cX1_total 42 = .ok (.sipush 5000, 3) := by decide +kernel
theorem dX1_total_45 : decode cX1_total 45 = .ok (.invokestatic 38, 3) := by decide +kernel
theorem dX1_total_48 : decode cX1_total 48 = .ok (.ireturn, 1) := by decide +kernel
theorem dX2_init_0 : decode cX2_init 0 = .ok (.aload_n 0, 1) := by decide +kernel
theorem dX2_init_1 : decode cX2_init 1 = .ok (.invokespecial 3, 3) := by decide +kernel
theorem dX2_init_4 : decode cX2_init 4 = .ok (.aload_n 0, 1) := by decide +kernel
theorem dX2_init_5 : decode cX2_init 5 = .ok (.iconst 0, 1) := by decide +kernel
theorem dX2_init_6 : decode cX2_init 6 = .ok (.putfield 9, 3) := by decide +kernel
theorem dX2_init_9 : decode cX2_init 9 = .ok (.aload_n 0, 1) := by decide +kernel
theorem dX2_init_10 : decode cX2_init 10 = .ok (.iconst 0, 1) := by decide +kernel
theorem dX2_init_11 : decode cX2_init 11 = .ok (.putfield 15, 3) := by decide +kernel
theorem dX2_init_14 : decode cX2_init 14 = .ok (.aload_n 0, 1) := by decide +kernel
theorem dX2_init_15 : decode cX2_init 15 = .ok (.iconst 0, 1) := by decide +kernel
theorem dX2_init_16 : decode cX2_init 16 = .ok (.putfield 18, 3) := by decide +kernel
theorem dX2_init_19 : decode cX2_init 19 = .ok (.aload_n 0, 1) := by decide +kernel
theorem dX2_init_20 : decode cX2_init 20 = .ok (.aconst_null, 1) := by decide +kernel
theorem dX2_init_21 : decode cX2_init 21 = .ok (.putfield 21, 3) := by decide +kernel
theorem dX2_init_24 : decode cX2_init 24 = .ok (.aload_n 0, 1) := by decide +kernel
theorem dX2_init_25 : decode cX2_init 25 = .ok (.iload_n 1, 1) := by decide +kernel
theorem dX2_init_26 : decode cX2_init 26 = .ok (.putfield 25, 3) := by decide +kernel
theorem dX2_init_29 : decode cX2_init 29 = .ok (.aload_n 0, 1) := by decide +kernel
theorem dX2_init_30 : decode cX2_init 30 = .ok (.iload_n 2, 1) := by decide +kernel
theorem dX2_init_31 : decode cX2_init 31 = .ok (.putfield 28, 3) := by decide +kernel
theorem dX2_init_34 : decode cX2_init 34 = .ok (.aload_n 0, 1) := by decide +kernel
theorem dX2_init_35 : decode cX2_init 35 = .ok (.iload_n 3, 1) := by decide +kernel
theorem dX2_init_36 : decode cX2_init 36 = .ok (.putfield 31, 3) := by decide +kernel
theorem dX2_init_39 : decode cX2_init 39 = .ok (.aload_n 0, 1) := by decide +kernel
theorem dX2_init_40 : decode cX2_init 40 = .ok (.iload 4, 2) := by decide +kernel
theorem dX2_init_42 : decode cX2_init 42 = .ok (.putfield 34, 3) := by decide +kernel
theorem dX2_init_45 : decode cX2_init 45 = .ok (.aload_n 0, 1) := by decide +kernel
theorem dX2_init_46 : decode cX2_init 46 = .ok (.iload 5, 2) := by decide +kernel
theorem dX2_init_48 : decode cX2_init 48 = .ok (.putfield 37, 3) := by decide +kernel
theorem dX2_init_51 : decode cX2_init 51 = .ok (.return_, 1) := by decide +kernel
theorem dX2_charge_0 : decode cX2_charge 0 = .ok (.aload_n 0, 1) := by decide +kernel
theorem dX2_charge_1 : decode cX2_charge 1 = .ok (.iload_n 1, 1) := by decide +kernel
theorem dX2_charge_2 : decode cX2_charge 2 = .ok (.putfield 9, 3) := by decide +kernel
theorem dX2_charge_5 : decode cX2_charge 5 = .ok (.aload_n 0, 1) := by decide +kernel
theorem dX2_charge_6 : decode cX2_charge 6 = .ok (.iload_n 2, 1) := by decide +kernel
theorem dX2_charge_7 : decode cX2_charge 7 = .ok (.putfield 15, 3) := by decide +kernel
theorem dX2_charge_10 : decode cX2_charge 10 = .ok (.aload_n 0, 1) := by decide +kernel
theorem dX2_charge_11 : decode cX2_charge 11 = .ok (.iload_n 3, 1) := by decide +kernel
theorem dX2_charge_12 : decode cX2_charge 12 = .ok (.putfield 18, 3) := by decide +kernel
theorem dX2_charge_15 : decode cX2_charge 15 = .ok (.aload_n 0, 1) := by decide +kernel
theorem dX2_charge_16 : decode cX2_charge 16 = .ok (.aload 4, 2) := by decide +kernel
theorem dX2_charge_18 : decode cX2_charge 18 = .ok (.putfield 21, 3) := by decide +kernel
theorem dX2_charge_21 : decode cX2_charge 21 = .ok (.return_, 1) := by decide +kernel
theorem dX2_measure_0 : decode cX2_measure 0 = .ok (.iload_n 1, 1) := by decide +kernel
theorem dX2_measure_1 : decode cX2_measure 1 = .ok (.tableswitch 51 8 11 #[31, 36, 41, 46], 31) := by decide +kernel
theorem dX2_measure_32 : decode cX2_measure 32 = .ok (.aload_n 0, 1) := by decide +kernel
theorem dX2_measure_33 : decode cX2_measure 33 = .ok (.getfield 31, 3) := by decide +kernel
theorem dX2_measure_36 : decode cX2_measure 36 = .ok (.ireturn, 1) := by decide +kernel
theorem dX2_measure_37 : decode cX2_measure 37 = .ok (.aload_n 0, 1) := by decide +kernel
theorem dX2_measure_38 : decode cX2_measure 38 = .ok (.getfield 34, 3) := by decide +kernel
theorem dX2_measure_41 : decode cX2_measure 41 = .ok (.ireturn, 1) := by decide +kernel
theorem dX2_measure_42 : decode cX2_measure 42 = .ok (.aload_n 0, 1) := by decide +kernel
theorem dX2_measure_43 : decode cX2_measure 43 = .ok (.getfield 25, 3) := by decide +kernel
theorem dX2_measure_46 : decode cX2_measure 46 = .ok (.ireturn, 1) := by decide +kernel
theorem dX2_measure_47 : decode cX2_measure 47 = .ok (.aload_n 0, 1) := by decide +kernel
theorem dX2_measure_48 : decode cX2_measure 48 = .ok (.getfield 37, 3) := by decide +kernel
theorem dX2_measure_51 : decode cX2_measure 51 = .ok (.ireturn, 1) := by decide +kernel
theorem dX2_measure_52 : decode cX2_measure 52 = .ok (.iconst 1, 1) := by decide +kernel
theorem dX2_measure_53 : decode cX2_measure 53 = .ok (.ireturn, 1) := by decide +kernel
theorem dX2_stampsOf_0 : decode cX2_stampsOf 0 = .ok (.aload_n 0, 1) := by decide +kernel
theorem dX2_stampsOf_1 : decode cX2_stampsOf 1 = .ok (.getfield 21, 3) := by decide +kernel
theorem dX2_stampsOf_4 : decode cX2_stampsOf 4 = .ok (.ifnull 25, 3) := by decide +kernel
theorem dX2_stampsOf_7 : decode cX2_stampsOf 7 = .ok (.iload_n 1, 1) := by decide +kernel
theorem dX2_stampsOf_8 : decode cX2_stampsOf 8 = .ok (.ifCond .lt 21, 3) := by decide +kernel
theorem dX2_stampsOf_11 : decode cX2_stampsOf 11 = .ok (.iload_n 1, 1) := by decide +kernel
theorem dX2_stampsOf_12 : decode cX2_stampsOf 12 = .ok (.aload_n 0, 1) := by decide +kernel
theorem dX2_stampsOf_13 : decode cX2_stampsOf 13 = .ok (.getfield 21, 3) := by decide +kernel
theorem dX2_stampsOf_16 : decode cX2_stampsOf 16 = .ok (.arraylength, 1) := by decide +kernel
theorem dX2_stampsOf_17 : decode cX2_stampsOf 17 = .ok (.if_icmp .ge 12, 3) := by decide +kernel
theorem dX2_stampsOf_20 : decode cX2_stampsOf 20 = .ok (.aload_n 0, 1) := by decide +kernel
theorem dX2_stampsOf_21 : decode cX2_stampsOf 21 = .ok (.getfield 21, 3) := by decide +kernel
theorem dX2_stampsOf_24 : decode cX2_stampsOf 24 = .ok (.iload_n 1, 1) := by decide +kernel
theorem dX2_stampsOf_25 : decode cX2_stampsOf 25 = .ok (.iaload, 1) := by decide +kernel
theorem dX2_stampsOf_26 : decode cX2_stampsOf 26 = .ok (.goto 4, 3) := by decide +kernel
theorem dX2_stampsOf_29 : decode cX2_stampsOf 29 = .ok (.iconst 0, 1) := by decide +kernel
theorem dX2_stampsOf_30 : decode cX2_stampsOf 30 = .ok (.ireturn, 1) := by decide +kernel
theorem dX2_allStamps_0 : decode cX2_allStamps 0 = .ok (.iconst 0, 1) := by decide +kernel
theorem dX2_allStamps_1 : decode cX2_allStamps 1 = .ok (.istore_n 1, 1) := by decide +kernel
theorem dX2_allStamps_2 : decode cX2_allStamps 2 = .ok (.iconst 0, 1) := by decide +kernel
theorem dX2_allStamps_3 : decode cX2_allStamps 3 = .ok (.istore_n 2, 1) := by decide +kernel
theorem dX2_allStamps_4 : decode cX2_allStamps 4 = .ok (.iload_n 2, 1) := by decide +kernel
theorem dX2_allStamps_5 : decode cX2_allStamps 5 = .ok (.getstatic 40, 3) := by decide +kernel
theorem dX2_allStamps_8 : decode cX2_allStamps 8 = .ok (.arraylength, 1) := by decide +kernel
theorem dX2_allStamps_9 : decode cX2_allStamps 9 = .ok (.if_icmp .ge 17, 3) := by decide +kernel
theorem dX2_allStamps_12 : decode cX2_allStamps 12 = .ok (.iload_n 1, 1) := by decide +kernel
theorem dX2_allStamps_13 : decode cX2_allStamps 13 = .ok (.aload_n 0, 1) := by decide +kernel
theorem dX2_allStamps_14 : decode cX2_allStamps 14 = .ok (.iload_n 2, 1) := by decide +kernel
theorem dX2_allStamps_15 : decode cX2_allStamps 15 = .ok (.invokevirtual 43, 3) := by decide +kernel
theorem dX2_allStamps_18 : decode cX2_allStamps 18 = .ok (.iadd, 1) := by decide +kernel
theorem dX2_allStamps_19 : decode cX2_allStamps 19 = .ok (.istore_n 1, 1) := by decide +kernel
theorem dX2_allStamps_20 : decode cX2_allStamps 20 = .ok (.iinc 2 1, 3) := by decide +kernel
theorem dX2_allStamps_23 : decode cX2_allStamps 23 = .ok (.goto (-19), 3) := by decide +kernel
theorem dX2_allStamps_26 : decode cX2_allStamps 26 = .ok (.iload_n 1, 1) := by decide +kernel
theorem dX2_allStamps_27 : decode cX2_allStamps 27 = .ok (.ireturn, 1) := by decide +kernel
theorem dX3_init_0 : decode cX3_init 0 = .ok (.aload_n 0, 1) := by decide +kernel
theorem dX3_init_1 : decode cX3_init 1 = .ok (.invokespecial 3, 3) := by decide +kernel
theorem dX3_init_4 : decode cX3_init 4 = .ok (.aload_n 0, 1) := by decide +kernel
theorem dX3_init_5 : decode cX3_init 5 = .ok (.getstatic 9, 3) := by decide +kernel
theorem dX3_init_8 : decode cX3_init 8 = .ok (.arraylength, 1) := by decide +kernel
theorem dX3_init_9 : decode cX3_init 9 = .ok (.newarray .int, 2) := by decide +kernel
theorem dX3_init_11 : decode cX3_init 11 = .ok (.putfield 13, 3) := by decide +kernel
theorem dX3_init_14 : decode cX3_init 14 = .ok (.aload_n 0, 1) := by decide +kernel
theorem dX3_init_15 : decode cX3_init 15 = .ok (.bipush 30, 2) := by decide +kernel
theorem dX3_init_17 : decode cX3_init 17 = .ok (.newarray .int, 2) := by decide +kernel
theorem dX3_init_19 : decode cX3_init 19 = .ok (.putfield 18, 3) := by decide +kernel
theorem dX3_init_22 : decode cX3_init 22 = .ok (.aload_n 0, 1) := by decide +kernel
theorem dX3_init_23 : decode cX3_init 23 = .ok (.bipush 30, 2) := by decide +kernel
theorem dX3_init_25 : decode cX3_init 25 = .ok (.newarray .boolean, 2) := by decide +kernel
theorem dX3_init_27 : decode cX3_init 27 = .ok (.putfield 21, 3) := by decide +kernel
theorem dX3_init_30 : decode cX3_init 30 = .ok (.aload_n 0, 1) := by decide +kernel
theorem dX3_init_31 : decode cX3_init 31 = .ok (.iconst 0, 1) := by decide +kernel
theorem dX3_init_32 : decode cX3_init 32 = .ok (.putfield 25, 3) := by decide +kernel
theorem dX3_init_35 : decode cX3_init 35 = .ok (.aload_n 0, 1) := by decide +kernel
theorem dX3_init_36 : decode cX3_init 36 = .ok (.iconst 0, 1) := by decide +kernel
theorem dX3_init_37 : decode cX3_init 37 = .ok (.putfield 29, 3) := by decide +kernel
theorem dX3_init_40 : decode cX3_init 40 = .ok (.aload_n 0, 1) := by decide +kernel
theorem dX3_init_41 : decode cX3_init 41 = .ok (.iconst 0, 1) := by decide +kernel
theorem dX3_init_42 : decode cX3_init 42 = .ok (.putfield 32, 3) := by decide +kernel
theorem dX3_init_45 : decode cX3_init 45 = .ok (.aload_n 0, 1) := by decide +kernel
theorem dX3_init_46 : decode cX3_init 46 = .ok (.iload_n 1, 1) := by decide +kernel
theorem dX3_init_47 : decode cX3_init 47 = .ok (.putfield 35, 3) := by decide +kernel
theorem dX3_init_50 : decode cX3_init 50 = .ok (.aload_n 0, 1) := by decide +kernel
theorem dX3_init_51 : decode cX3_init 51 = .ok (.iload_n 2, 1) := by decide +kernel
theorem dX3_init_52 : decode cX3_init 52 = .ok (.putfield 38, 3) := by decide +kernel
theorem dX3_init_55 : decode cX3_init 55 = .ok (.return_, 1) := by decide +kernel
theorem dX3_send_0 : decode cX3_send 0 = .ok (.aload_n 0, 1) := by decide +kernel
theorem dX3_send_1 : decode cX3_send 1 = .ok (.getfield 25, 3) := by decide +kernel
theorem dX3_send_4 : decode cX3_send 4 = .ok (.ifCond .lt 35, 3) := by decide +kernel
theorem dX3_send_7 : decode cX3_send 7 = .ok (.aload_n 0, 1) := by decide +kernel
theorem dX3_send_8 : decode cX3_send 8 = .ok (.getfield 25, 3) := by decide +kernel
theorem dX3_send_11 : decode cX3_send 11 = .ok (.aload_n 0, 1) := by decide +kernel
theorem dX3_send_12 : decode cX3_send 12 = .ok (.getfield 18, 3) := by decide +kernel
theorem dX3_send_15 : decode cX3_send 15 = .ok (.arraylength, 1) := by decide +kernel
theorem dX3_send_16 : decode cX3_send 16 = .ok (.if_icmp .ge 23, 3) := by decide +kernel
theorem dX3_send_19 : decode cX3_send 19 = .ok (.aload_n 0, 1) := by decide +kernel
theorem dX3_send_20 : decode cX3_send 20 = .ok (.getfield 18, 3) := by decide +kernel
theorem dX3_send_23 : decode cX3_send 23 = .ok (.aload_n 0, 1) := by decide +kernel
theorem dX3_send_24 : decode cX3_send 24 = .ok (.getfield 25, 3) := by decide +kernel
theorem dX3_send_27 : decode cX3_send 27 = .ok (.iload_n 1, 1) := by decide +kernel
theorem dX3_send_28 : decode cX3_send 28 = .ok (.iastore, 1) := by decide +kernel
theorem dX3_send_29 : decode cX3_send 29 = .ok (.aload_n 0, 1) := by decide +kernel
theorem dX3_send_30 : decode cX3_send 30 = .ok (.dup, 1) := by decide +kernel
theorem dX3_send_31 : decode cX3_send 31 = .ok (.getfield 25, 3) := by decide +kernel
theorem dX3_send_34 : decode cX3_send 34 = .ok (.iconst 1, 1) := by decide +kernel
theorem dX3_send_35 : decode cX3_send 35 = .ok (.iadd, 1) := by decide +kernel
theorem dX3_send_36 : decode cX3_send 36 = .ok (.putfield 25, 3) := by decide +kernel
theorem dX3_send_39 : decode cX3_send 39 = .ok (.return_, 1) := by decide +kernel
theorem dX3_wasSent_0 : decode cX3_wasSent 0 = .ok (.iload_n 1, 1) := by decide +kernel
theorem dX3_wasSent_1 : decode cX3_wasSent 1 = .ok (.ifCond .lt 33, 3) := by decide +kernel
theorem dX3_wasSent_4 : decode cX3_wasSent 4 = .ok (.iload_n 1, 1) := by decide +kernel
theorem dX3_wasSent_5 : decode cX3_wasSent 5 = .ok (.aload_n 0, 1) := by decide +kernel
theorem dX3_wasSent_6 : decode cX3_wasSent 6 = .ok (.getfield 25, 3) := by decide +kernel
theorem dX3_wasSent_9 : decode cX3_wasSent 9 = .ok (.if_icmp .ge 25, 3) := by decide +kernel
theorem dX3_wasSent_12 : decode cX3_wasSent 12 = .ok (.iload_n 1, 1) := by decide +kernel
theorem dX3_wasSent_13 : decode cX3_wasSent 13 = .ok (.aload_n 0, 1) := by decide +kernel
theorem dX3_wasSent_14 : decode cX3_wasSent 14 = .ok (.getfield 18, 3) := by decide +kernel
theorem dX3_wasSent_17 : decode cX3_wasSent 17 = .ok (.arraylength, 1) := by decide +kernel
theorem dX3_wasSent_18 : decode cX3_wasSent 18 = .ok (.if_icmp .ge 16, 3) := by decide +kernel
theorem dX3_wasSent_21 : decode cX3_wasSent 21 = .ok (.iload_n 1, 1) := by decide +kernel
theorem dX3_wasSent_22 : decode cX3_wasSent 22 = .ok (.aload_n 0, 1) := by decide +kernel
theorem dX3_wasSent_23 : decode cX3_wasSent 23 = .ok (.getfield 21, 3) := by decide +kernel
theorem dX3_wasSent_26 : decode cX3_wasSent 26 = .ok (.arraylength, 1) := by decide +kernel
theorem dX3_wasSent_27 : decode cX3_wasSent 27 = .ok (.if_icmp .ge 7, 3) := by decide +kernel
theorem dX3_wasSent_30 : decode cX3_wasSent 30 = .ok (.iconst 1, 1) := by decide +kernel
theorem dX3_wasSent_31 : decode cX3_wasSent 31 = .ok (.goto 4, 3) := by decide +kernel
theorem dX3_wasSent_34 : decode cX3_wasSent 34 = .ok (.iconst 0, 1) := by decide +kernel
theorem dX3_wasSent_35 : decode cX3_wasSent 35 = .ok (.ireturn, 1) := by decide +kernel
theorem dX3_lose_0 : decode cX3_lose 0 = .ok (.aload_n 0, 1) := by decide +kernel
theorem dX3_lose_1 : decode cX3_lose 1 = .ok (.iload_n 1, 1) := by decide +kernel
theorem dX3_lose_2 : decode cX3_lose 2 = .ok (.invokevirtual 41, 3) := by decide +kernel
theorem dX3_lose_5 : decode cX3_lose 5 = .ok (.ifCond .eq 22, 3) := by decide +kernel
theorem dX3_lose_8 : decode cX3_lose 8 = .ok (.aload_n 0, 1) := by decide +kernel
theorem dX3_lose_9 : decode cX3_lose 9 = .ok (.getfield 21, 3) := by decide +kernel
theorem dX3_lose_12 : decode cX3_lose 12 = .ok (.iload_n 1, 1) := by decide +kernel
theorem dX3_lose_13 : decode cX3_lose 13 = .ok (.baload, 1) := by decide +kernel
theorem dX3_lose_14 : decode cX3_lose 14 = .ok (.ifCond .ne 13, 3) := by decide +kernel
theorem dX3_lose_17 : decode cX3_lose 17 = .ok (.aload_n 0, 1) := by decide +kernel
theorem dX3_lose_18 : decode cX3_lose 18 = .ok (.getfield 18, 3) := by decide +kernel
theorem dX3_lose_21 : decode cX3_lose 21 = .ok (.iload_n 1, 1) := by decide +kernel
theorem dX3_lose_22 : decode cX3_lose 22 = .ok (.iaload, 1) := by decide +kernel
theorem dX3_lose_23 : decode cX3_lose 23 = .ok (.iload_n 2, 1) := by decide +kernel
theorem dX3_lose_24 : decode cX3_lose 24 = .ok (.if_icmp .gt 5, 3) := by decide +kernel
theorem dX3_lose_27 : decode cX3_lose 27 = .ok (.iconst 0, 1) := by decide +kernel
theorem dX3_lose_28 : decode cX3_lose 28 = .ok (.ireturn, 1) := by decide +kernel
theorem dX3_lose_29 : decode cX3_lose 29 = .ok (.aload_n 0, 1) := by decide +kernel
theorem dX3_lose_30 : decode cX3_lose 30 = .ok (.getfield 21, 3) := by decide +kernel
theorem dX3_lose_33 : decode cX3_lose 33 = .ok (.iload_n 1, 1) := by decide +kernel
theorem dX3_lose_34 : decode cX3_lose 34 = .ok (.iconst 1, 1) := by decide +kernel
theorem dX3_lose_35 : decode cX3_lose 35 = .ok (.bastore, 1) := by decide +kernel
theorem dX3_lose_36 : decode cX3_lose 36 = .ok (.iconst 1, 1) := by decide +kernel
theorem dX3_lose_37 : decode cX3_lose 37 = .ok (.ireturn, 1) := by decide +kernel
theorem dX3_askDay_0 : decode cX3_askDay 0 = .ok (.aload_n 0, 1) := by decide +kernel
theorem dX3_askDay_1 : decode cX3_askDay 1 = .ok (.iload_n 1, 1) := by decide +kernel
theorem dX3_askDay_2 : decode cX3_askDay 2 = .ok (.invokevirtual 41, 3) := by decide +kernel
theorem dX3_askDay_5 : decode cX3_askDay 5 = .ok (.ifCond .eq 12, 3) := by decide +kernel
theorem dX3_askDay_8 : decode cX3_askDay 8 = .ok (.aload_n 0, 1) := by decide +kernel
theorem dX3_askDay_9 : decode cX3_askDay 9 = .ok (.getfield 21, 3) := by decide +kernel
theorem dX3_askDay_12 : decode cX3_askDay 12 = .ok (.iload_n 1, 1) := by decide +kernel
theorem dX3_askDay_13 : decode cX3_askDay 13 = .ok (.baload, 1) := by decide +kernel
theorem dX3_askDay_14 : decode cX3_askDay 14 = .ok (.ifCond .ne 6, 3) := by decide +kernel
theorem dX3_askDay_17 : decode cX3_askDay 17 = .ok (.bipush (-2), 2) := by decide +kernel
theorem dX3_askDay_19 : decode cX3_askDay 19 = .ok (.ireturn, 1) := by decide +kernel
theorem dX3_askDay_20 : decode cX3_askDay 20 = .ok (.iload_n 1, 1) := by decide +kernel
theorem dX3_askDay_21 : decode cX3_askDay 21 = .ok (.iconst 1, 1) := by decide +kernel
theorem dX3_askDay_22 : decode cX3_askDay 22 = .ok (.iadd, 1) := by decide +kernel
theorem dX3_askDay_23 : decode cX3_askDay 23 = .ok (.istore_n 3, 1) := by decide +kernel
theorem dX3_askDay_24 : decode cX3_askDay 24 = .ok (.iload_n 3, 1) := by decide +kernel
theorem dX3_askDay_25 : decode cX3_askDay 25 = .ok (.aload_n 0, 1) := by decide +kernel
theorem dX3_askDay_26 : decode cX3_askDay 26 = .ok (.getfield 25, 3) := by decide +kernel
theorem dX3_askDay_29 : decode cX3_askDay 29 = .ok (.if_icmp .ge 48, 3) := by decide +kernel
theorem dX3_askDay_32 : decode cX3_askDay 32 = .ok (.aload_n 0, 1) := by decide +kernel
theorem dX3_askDay_33 : decode cX3_askDay 33 = .ok (.iload_n 3, 1) := by decide +kernel
theorem dX3_askDay_34 : decode cX3_askDay 34 = .ok (.invokevirtual 41, 3) := by decide +kernel
theorem dX3_askDay_37 : decode cX3_askDay 37 = .ok (.ifCond .eq 34, 3) := by decide +kernel
theorem dX3_askDay_40 : decode cX3_askDay 40 = .ok (.aload_n 0, 1) := by decide +kernel
theorem dX3_askDay_41 : decode cX3_askDay 41 = .ok (.getfield 21, 3) := by decide +kernel
theorem dX3_askDay_44 : decode cX3_askDay 44 = .ok (.iload_n 3, 1) := by decide +kernel
theorem dX3_askDay_45 : decode cX3_askDay 45 = .ok (.baload, 1) := by decide +kernel
theorem dX3_askDay_46 : decode cX3_askDay 46 = .ok (.ifCond .ne 25, 3) := by decide +kernel
theorem dX3_askDay_49 : decode cX3_askDay 49 = .ok (.aload_n 0, 1) := by decide +kernel
theorem dX3_askDay_50 : decode cX3_askDay 50 = .ok (.getfield 18, 3) := by decide +kernel
theorem dX3_askDay_53 : decode cX3_askDay 53 = .ok (.iload_n 3, 1) := by decide +kernel
theorem dX3_askDay_54 : decode cX3_askDay 54 = .ok (.iaload, 1) := by decide +kernel
theorem dX3_askDay_55 : decode cX3_askDay 55 = .ok (.iload_n 2, 1) := by decide +kernel
theorem dX3_askDay_56 : decode cX3_askDay 56 = .ok (.if_icmp .gt 12, 3) := by decide +kernel
theorem dX3_askDay_59 : decode cX3_askDay 59 = .ok (.aload_n 0, 1) := by decide +kernel
theorem dX3_askDay_60 : decode cX3_askDay 60 = .ok (.getfield 18, 3) := by decide +kernel
theorem dX3_askDay_63 : decode cX3_askDay 63 = .ok (.iload_n 3, 1) := by decide +kernel
theorem dX3_askDay_64 : decode cX3_askDay 64 = .ok (.iaload, 1) := by decide +kernel
theorem dX3_askDay_65 : decode cX3_askDay 65 = .ok (.goto 5, 3) := by decide +kernel
theorem dX3_askDay_68 : decode cX3_askDay 68 = .ok (.bipush (-2), 2) := by decide +kernel
theorem dX3_askDay_70 : decode cX3_askDay 70 = .ok (.ireturn, 1) := by decide +kernel
theorem dX3_askDay_71 : decode cX3_askDay 71 = .ok (.iinc 3 1, 3) := by decide +kernel
theorem dX3_askDay_74 : decode cX3_askDay 74 = .ok (.goto (-50), 3) := by decide +kernel
theorem dX3_askDay_77 : decode cX3_askDay 77 = .ok (.bipush (-2), 2) := by decide +kernel
theorem dX3_askDay_79 : decode cX3_askDay 79 = .ok (.ireturn, 1) := by decide +kernel
theorem dX3_comeDay_0 : decode cX3_comeDay 0 = .ok (.aload_n 0, 1) := by decide +kernel
theorem dX3_comeDay_1 : decode cX3_comeDay 1 = .ok (.iload_n 1, 1) := by decide +kernel
theorem dX3_comeDay_2 : decode cX3_comeDay 2 = .ok (.invokevirtual 41, 3) := by decide +kernel
theorem dX3_comeDay_5 : decode cX3_comeDay 5 = .ok (.ifCond .ne 6, 3) := by decide +kernel
theorem dX3_comeDay_8 : decode cX3_comeDay 8 = .ok (.bipush (-2), 2) := by decide +kernel
theorem dX3_comeDay_10 : decode cX3_comeDay 10 = .ok (.ireturn, 1) := by decide +kernel
theorem dX3_comeDay_11 : decode cX3_comeDay 11 = .ok (.aload_n 0, 1) := by decide +kernel
theorem dX3_comeDay_12 : decode cX3_comeDay 12 = .ok (.getfield 18, 3) := by decide +kernel
theorem dX3_comeDay_15 : decode cX3_comeDay 15 = .ok (.iload_n 1, 1) := by decide +kernel
theorem dX3_comeDay_16 : decode cX3_comeDay 16 = .ok (.iaload, 1) := by decide +kernel
theorem dX3_comeDay_17 : decode cX3_comeDay 17 = .ok (.istore_n 3, 1) := by decide +kernel
theorem dX3_comeDay_18 : decode cX3_comeDay 18 = .ok (.aload_n 0, 1) := by decide +kernel
theorem dX3_comeDay_19 : decode cX3_comeDay 19 = .ok (.getfield 21, 3) := by decide +kernel
theorem dX3_comeDay_22 : decode cX3_comeDay 22 = .ok (.iload_n 1, 1) := by decide +kernel
theorem dX3_comeDay_23 : decode cX3_comeDay 23 = .ok (.baload, 1) := by decide +kernel
theorem dX3_comeDay_24 : decode cX3_comeDay 24 = .ok (.ifCond .eq 31, 3) := by decide +kernel
theorem dX3_comeDay_27 : decode cX3_comeDay 27 = .ok (.aload_n 0, 1) := by decide +kernel
theorem dX3_comeDay_28 : decode cX3_comeDay 28 = .ok (.iload_n 1, 1) := by decide +kernel
theorem dX3_comeDay_29 : decode cX3_comeDay 29 = .ok (.iload_n 2, 1) := by decide +kernel
theorem dX3_comeDay_30 : decode cX3_comeDay 30 = .ok (.invokevirtual 45, 3) := by decide +kernel
theorem dX3_comeDay_33 : decode cX3_comeDay 33 = .ok (.istore 4, 2) := by decide +kernel
theorem dX3_comeDay_35 : decode cX3_comeDay 35 = .ok (.iload 4, 2) := by decide +kernel
theorem dX3_comeDay_37 : decode cX3_comeDay 37 = .ok (.bipush (-2), 2) := by decide +kernel
theorem dX3_comeDay_39 : decode cX3_comeDay 39 = .ok (.if_icmp .ne 6, 3) := by decide +kernel
theorem dX3_comeDay_42 : decode cX3_comeDay 42 = .ok (.bipush (-2), 2) := by decide +kernel
theorem dX3_comeDay_44 : decode cX3_comeDay 44 = .ok (.ireturn, 1) := by decide +kernel
theorem dX3_comeDay_45 : decode cX3_comeDay 45 = .ok (.iload 4, 2) := by decide +kernel
theorem dX3_comeDay_47 : decode cX3_comeDay 47 = .ok (.iconst 2, 1) := by decide +kernel
theorem dX3_comeDay_48 : decode cX3_comeDay 48 = .ok (.aload_n 0, 1) := by decide +kernel
theorem dX3_comeDay_49 : decode cX3_comeDay 49 = .ok (.getfield 35, 3) := by decide +kernel
theorem dX3_comeDay_52 : decode cX3_comeDay 52 = .ok (.imul, 1) := by decide +kernel
theorem dX3_comeDay_53 : decode cX3_comeDay 53 = .ok (.iadd, 1) := by decide +kernel
theorem dX3_comeDay_54 : decode cX3_comeDay 54 = .ok (.istore_n 3, 1) := by decide +kernel
theorem dX3_comeDay_55 : decode cX3_comeDay 55 = .ok (.iload_n 3, 1) := by decide +kernel
theorem dX3_comeDay_56 : decode cX3_comeDay 56 = .ok (.iload_n 2, 1) := by decide +kernel
theorem dX3_comeDay_57 : decode cX3_comeDay 57 = .ok (.if_icmp .gt 7, 3) := by decide +kernel
theorem dX3_comeDay_60 : decode cX3_comeDay 60 = .ok (.iload_n 3, 1) := by decide +kernel
theorem dX3_comeDay_61 : decode cX3_comeDay 61 = .ok (.goto 5, 3) := by decide +kernel
theorem dX3_comeDay_64 : decode cX3_comeDay 64 = .ok (.bipush (-2), 2) := by decide +kernel
theorem dX3_comeDay_66 : decode cX3_comeDay 66 = .ok (.ireturn, 1) := by decide +kernel
theorem dX3_inForce_0 : decode cX3_inForce 0 = .ok (.iconst 0, 1) := by decide +kernel
theorem dX3_inForce_1 : decode cX3_inForce 1 = .ok (.istore_n 2, 1) := by decide +kernel
theorem dX3_inForce_2 : decode cX3_inForce 2 = .ok (.iload_n 2, 1) := by decide +kernel
theorem dX3_inForce_3 : decode cX3_inForce 3 = .ok (.aload_n 0, 1) := by decide +kernel
theorem dX3_inForce_4 : decode cX3_inForce 4 = .ok (.getfield 25, 3) := by decide +kernel
theorem dX3_inForce_7 : decode cX3_inForce 7 = .ok (.if_icmp .ge 20, 3) := by decide +kernel
theorem dX3_inForce_10 : decode cX3_inForce 10 = .ok (.aload_n 0, 1) := by decide +kernel
theorem dX3_inForce_11 : decode cX3_inForce 11 = .ok (.iload_n 2, 1) := by decide +kernel
theorem dX3_inForce_12 : decode cX3_inForce 12 = .ok (.iload_n 1, 1) := by decide +kernel
theorem dX3_inForce_13 : decode cX3_inForce 13 = .ok (.invokevirtual 49, 3) := by decide +kernel
theorem dX3_inForce_16 : decode cX3_inForce 16 = .ok (.bipush (-2), 2) := by decide +kernel
theorem dX3_inForce_18 : decode cX3_inForce 18 = .ok (.if_icmp .eq 9, 3) := by decide +kernel
theorem dX3_inForce_21 : decode cX3_inForce 21 = .ok (.iinc 2 1, 3) := by decide +kernel
theorem dX3_inForce_24 : decode cX3_inForce 24 = .ok (.goto (-22), 3) := by decide +kernel
theorem dX3_inForce_27 : decode cX3_inForce 27 = .ok (.iload_n 2, 1) := by decide +kernel
theorem dX3_inForce_28 : decode cX3_inForce 28 = .ok (.ifCond .ne 8, 3) := by decide +kernel
theorem dX3_inForce_31 : decode cX3_inForce 31 = .ok (.bipush (-2), 2) := by decide +kernel
theorem dX3_inForce_33 : decode cX3_inForce 33 = .ok (.goto 6, 3) := by decide +kernel
theorem dX3_inForce_36 : decode cX3_inForce 36 = .ok (.iload_n 2, 1) := by decide +kernel
theorem dX3_inForce_37 : decode cX3_inForce 37 = .ok (.iconst 1, 1) := by decide +kernel
theorem dX3_inForce_38 : decode cX3_inForce 38 = .ok (.isub, 1) := by decide +kernel
theorem dX3_inForce_39 : decode cX3_inForce 39 = .ok (.ireturn, 1) := by decide +kernel
theorem dX3_onTheWay_0 : decode cX3_onTheWay 0 = .ok (.iload_n 1, 1) := by decide +kernel
theorem dX3_onTheWay_1 : decode cX3_onTheWay 1 = .ok (.iconst 2, 1) := by decide +kernel
theorem dX3_onTheWay_2 : decode cX3_onTheWay 2 = .ok (.if_icmp .ne 15, 3) := by decide +kernel
theorem dX3_onTheWay_5 : decode cX3_onTheWay 5 = .ok (.aload_n 0, 1) := by decide +kernel
theorem dX3_onTheWay_6 : decode cX3_onTheWay 6 = .ok (.iload_n 2, 1) := by decide +kernel
theorem dX3_onTheWay_7 : decode cX3_onTheWay 7 = .ok (.invokevirtual 52, 3) := by decide +kernel
theorem dX3_onTheWay_10 : decode cX3_onTheWay 10 = .ok (.aload_n 0, 1) := by decide +kernel
theorem dX3_onTheWay_11 : decode cX3_onTheWay 11 = .ok (.iload_n 2, 1) := by decide +kernel
theorem dX3_onTheWay_12 : decode cX3_onTheWay 12 = .ok (.invokevirtual 56, 3) := by decide +kernel
theorem dX3_onTheWay_15 : decode cX3_onTheWay 15 = .ok (.isub, 1) := by decide +kernel
theorem dX3_onTheWay_16 : decode cX3_onTheWay 16 = .ok (.ireturn, 1) := by decide +kernel
theorem dX3_onTheWay_17 : decode cX3_onTheWay 17 = .ok (.iconst 0, 1) := by decide +kernel
theorem dX3_onTheWay_18 : decode cX3_onTheWay 18 = .ok (.istore_n 3, 1) := by decide +kernel
theorem dX3_onTheWay_19 : decode cX3_onTheWay 19 = .ok (.iconst 0, 1) := by decide +kernel
theorem dX3_onTheWay_20 : decode cX3_onTheWay 20 = .ok (.istore 4, 2) := by decide +kernel
theorem dX3_onTheWay_22 : decode cX3_onTheWay 22 = .ok (.iload 4, 2) := by decide +kernel
theorem dX3_onTheWay_24 : decode cX3_onTheWay 24 = .ok (.aload_n 0, 1) := by decide +kernel
theorem dX3_onTheWay_25 : decode cX3_onTheWay 25 = .ok (.getfield 25, 3) := by decide +kernel
theorem dX3_onTheWay_28 : decode cX3_onTheWay 28 = .ok (.if_icmp .ge 39, 3) := by decide +kernel
theorem dX3_onTheWay_31 : decode cX3_onTheWay 31 = .ok (.iload_n 1, 1) := by decide +kernel
theorem dX3_onTheWay_32 : decode cX3_onTheWay 32 = .ok (.ifCond .ne 16, 3) := by decide +kernel
theorem dX3_onTheWay_35 : decode cX3_onTheWay 35 = .ok (.aload_n 0, 1) := by decide +kernel
theorem dX3_onTheWay_36 : decode cX3_onTheWay 36 = .ok (.iload 4, 2) := by decide +kernel
theorem dX3_onTheWay_38 : decode cX3_onTheWay 38 = .ok (.iload_n 2, 1) := by decide +kernel
theorem dX3_onTheWay_39 : decode cX3_onTheWay 39 = .ok (.invokevirtual 59, 3) := by decide +kernel
theorem dX3_onTheWay_42 : decode cX3_onTheWay 42 = .ok (.ifCond .eq 19, 3) := by decide +kernel
theorem dX3_onTheWay_45 : decode cX3_onTheWay 45 = .ok (.goto 13, 3) := by decide +kernel
theorem dX3_onTheWay_48 : decode cX3_onTheWay 48 = .ok (.aload_n 0, 1) := by decide +kernel
theorem dX3_onTheWay_49 : decode cX3_onTheWay 49 = .ok (.iload 4, 2) := by decide +kernel
theorem dX3_onTheWay_51 : decode cX3_onTheWay 51 = .ok (.iload_n 2, 1) := by decide +kernel
theorem dX3_onTheWay_52 : decode cX3_onTheWay 52 = .ok (.invokevirtual 63, 3) := by decide +kernel
theorem dX3_onTheWay_55 : decode cX3_onTheWay 55 = .ok (.ifCond .eq 6, 3) := by decide +kernel
theorem dX3_onTheWay_58 : decode cX3_onTheWay 58 = .ok (.iinc 3 1, 3) := by decide +kernel
theorem dX3_onTheWay_61 : decode cX3_onTheWay 61 = .ok (.iinc 4 1, 3) := by decide +kernel
theorem dX3_onTheWay_64 : decode cX3_onTheWay 64 = .ok (.goto (-42), 3) := by decide +kernel
theorem dX3_onTheWay_67 : decode cX3_onTheWay 67 = .ok (.iload_n 3, 1) := by decide +kernel
theorem dX3_onTheWay_68 : decode cX3_onTheWay 68 = .ok (.ireturn, 1) := by decide +kernel
theorem dX3_isOut_0 : decode cX3_isOut 0 = .ok (.aload_n 0, 1) := by decide +kernel
theorem dX3_isOut_1 : decode cX3_isOut 1 = .ok (.iload_n 1, 1) := by decide +kernel
theorem dX3_isOut_2 : decode cX3_isOut 2 = .ok (.iload_n 2, 1) := by decide +kernel
theorem dX3_isOut_3 : decode cX3_isOut 3 = .ok (.invokevirtual 49, 3) := by decide +kernel
theorem dX3_isOut_6 : decode cX3_isOut 6 = .ok (.bipush (-2), 2) := by decide +kernel
theorem dX3_isOut_8 : decode cX3_isOut 8 = .ok (.if_icmp .ne 11, 3) := by decide +kernel
theorem dX3_isOut_11 : decode cX3_isOut 11 = .ok (.aload_n 0, 1) := by decide +kernel
theorem dX3_isOut_12 : decode cX3_isOut 12 = .ok (.iload_n 1, 1) := by decide +kernel
theorem dX3_isOut_13 : decode cX3_isOut 13 = .ok (.invokevirtual 41, 3) := by decide +kernel
theorem dX3_isOut_16 : decode cX3_isOut 16 = .ok (.ifCond .ne 5, 3) := by decide +kernel
theorem dX3_isOut_19 : decode cX3_isOut 19 = .ok (.iconst 0, 1) := by decide +kernel
theorem dX3_isOut_20 : decode cX3_isOut 20 = .ok (.ireturn, 1) := by decide +kernel
theorem dX3_isOut_21 : decode cX3_isOut 21 = .ok (.aload_n 0, 1) := by decide +kernel
theorem dX3_isOut_22 : decode cX3_isOut 22 = .ok (.iload_n 1, 1) := by decide +kernel
theorem dX3_isOut_23 : decode cX3_isOut 23 = .ok (.iload_n 2, 1) := by decide +kernel
theorem dX3_isOut_24 : decode cX3_isOut 24 = .ok (.invokevirtual 45, 3) := by decide +kernel
theorem dX3_isOut_27 : decode cX3_isOut 27 = .ok (.istore_n 3, 1) := by decide +kernel
theorem dX3_isOut_28 : decode cX3_isOut 28 = .ok (.aload_n 0, 1) := by decide +kernel
theorem dX3_isOut_29 : decode cX3_isOut 29 = .ok (.getfield 21, 3) := by decide +kernel
theorem dX3_isOut_32 : decode cX3_isOut 32 = .ok (.iload_n 1, 1) := by decide +kernel
theorem dX3_isOut_33 : decode cX3_isOut 33 = .ok (.baload, 1) := by decide +kernel
theorem dX3_isOut_34 : decode cX3_isOut 34 = .ok (.ifCond .eq 19, 3) := by decide +kernel
theorem dX3_isOut_37 : decode cX3_isOut 37 = .ok (.iload_n 3, 1) := by decide +kernel
theorem dX3_isOut_38 : decode cX3_isOut 38 = .ok (.bipush (-2), 2) := by decide +kernel
theorem dX3_isOut_40 : decode cX3_isOut 40 = .ok (.if_icmp .eq 17, 3) := by decide +kernel
theorem dX3_isOut_43 : decode cX3_isOut 43 = .ok (.iload_n 3, 1) := by decide +kernel
theorem dX3_isOut_44 : decode cX3_isOut 44 = .ok (.aload_n 0, 1) := by decide +kernel
theorem dX3_isOut_45 : decode cX3_isOut 45 = .ok (.getfield 35, 3) := by decide +kernel
theorem dX3_isOut_48 : decode cX3_isOut 48 = .ok (.iadd, 1) := by decide +kernel
theorem dX3_isOut_49 : decode cX3_isOut 49 = .ok (.iload_n 2, 1) := by decide +kernel
theorem dX3_isOut_50 : decode cX3_isOut 50 = .ok (.if_icmp .gt 7, 3) := by decide +kernel
theorem dX3_isOut_53 : decode cX3_isOut 53 = .ok (.iconst 1, 1) := by decide +kernel
theorem dX3_isOut_54 : decode cX3_isOut 54 = .ok (.goto 4, 3) := by decide +kernel
theorem dX3_isOut_57 : decode cX3_isOut 57 = .ok (.iconst 0, 1) := by decide +kernel
theorem dX3_isOut_58 : decode cX3_isOut 58 = .ok (.ireturn, 1) := by decide +kernel
theorem dX3_isAskOut_0 : decode cX3_isAskOut 0 = .ok (.aload_n 0, 1) := by decide +kernel
theorem dX3_isAskOut_1 : decode cX3_isAskOut 1 = .ok (.iload_n 1, 1) := by decide +kernel
theorem dX3_isAskOut_2 : decode cX3_isAskOut 2 = .ok (.iload_n 2, 1) := by decide +kernel
theorem dX3_isAskOut_3 : decode cX3_isAskOut 3 = .ok (.invokevirtual 45, 3) := by decide +kernel
theorem dX3_isAskOut_6 : decode cX3_isAskOut 6 = .ok (.istore_n 3, 1) := by decide +kernel
theorem dX3_isAskOut_7 : decode cX3_isAskOut 7 = .ok (.iload_n 3, 1) := by decide +kernel
theorem dX3_isAskOut_8 : decode cX3_isAskOut 8 = .ok (.bipush (-2), 2) := by decide +kernel
theorem dX3_isAskOut_10 : decode cX3_isAskOut 10 = .ok (.if_icmp .eq 17, 3) := by decide +kernel
theorem dX3_isAskOut_13 : decode cX3_isAskOut 13 = .ok (.iload_n 3, 1) := by decide +kernel
theorem dX3_isAskOut_14 : decode cX3_isAskOut 14 = .ok (.aload_n 0, 1) := by decide +kernel
theorem dX3_isAskOut_15 : decode cX3_isAskOut 15 = .ok (.getfield 35, 3) := by decide +kernel
theorem dX3_isAskOut_18 : decode cX3_isAskOut 18 = .ok (.iadd, 1) := by decide +kernel
theorem dX3_isAskOut_19 : decode cX3_isAskOut 19 = .ok (.iload_n 2, 1) := by decide +kernel
theorem dX3_isAskOut_20 : decode cX3_isAskOut 20 = .ok (.if_icmp .le 7, 3) := by decide +kernel
theorem dX3_isAskOut_23 : decode cX3_isAskOut 23 = .ok (.iconst 1, 1) := by decide +kernel
theorem dX3_isAskOut_24 : decode cX3_isAskOut 24 = .ok (.goto 4, 3) := by decide +kernel
theorem dX3_isAskOut_27 : decode cX3_isAskOut 27 = .ok (.iconst 0, 1) := by decide +kernel
theorem dX3_isAskOut_28 : decode cX3_isAskOut 28 = .ok (.ireturn, 1) := by decide +kernel
theorem dX3_accountsSent_0 : decode cX3_accountsSent 0 = .ok (.iload_n 1, 1) := by decide +kernel
theorem dX3_accountsSent_1 : decode cX3_accountsSent 1 = .ok (.invokestatic 66, 3) := by decide +kernel
theorem dX3_accountsSent_4 : decode cX3_accountsSent 4 = .ok (.aload_n 0, 1) := by decide +kernel
theorem dX3_accountsSent_5 : decode cX3_accountsSent 5 = .ok (.getfield 38, 3) := by decide +kernel
theorem dX3_accountsSent_8 : decode cX3_accountsSent 8 = .ok (.invokestatic 66, 3) := by decide +kernel
theorem dX3_accountsSent_11 : decode cX3_accountsSent 11 = .ok (.isub, 1) := by decide +kernel
theorem dX3_accountsSent_12 : decode cX3_accountsSent 12 = .ok (.ireturn, 1) := by decide +kernel
theorem dX3_accountsCome_0 : decode cX3_accountsCome 0 = .ok (.iconst 0, 1) := by decide +kernel
theorem dX3_accountsCome_1 : decode cX3_accountsCome 1 = .ok (.iload_n 1, 1) := by decide +kernel
theorem dX3_accountsCome_2 : decode cX3_accountsCome 2 = .ok (.aload_n 0, 1) := by decide +kernel
theorem dX3_accountsCome_3 : decode cX3_accountsCome 3 = .ok (.getfield 35, 3) := by decide +kernel
theorem dX3_accountsCome_6 : decode cX3_accountsCome 6 = .ok (.isub, 1) := by decide +kernel
theorem dX3_accountsCome_7 : decode cX3_accountsCome 7 = .ok (.iconst 1, 1) := by decide +kernel
theorem dX3_accountsCome_8 : decode cX3_accountsCome 8 = .ok (.iadd, 1) := by decide +kernel
theorem dX3_accountsCome_9 : decode cX3_accountsCome 9 = .ok (.invokestatic 66, 3) := by decide +kernel
theorem dX3_accountsCome_12 : decode cX3_accountsCome 12 = .ok (.aload_n 0, 1) := by decide +kernel
theorem dX3_accountsCome_13 : decode cX3_accountsCome 13 = .ok (.getfield 38, 3) := by decide +kernel
theorem dX3_accountsCome_16 : decode cX3_accountsCome 16 = .ok (.invokestatic 66, 3) := by decide +kernel
theorem dX3_accountsCome_19 : decode cX3_accountsCome 19 = .ok (.isub, 1) := by decide +kernel
theorem dX3_accountsCome_20 : decode cX3_accountsCome 20 = .ok (.invokestatic 69, 3) := by decide +kernel
theorem dX3_accountsCome_23 : decode cX3_accountsCome 23 = .ok (.ireturn, 1) := by decide +kernel
theorem dX3_stampsOf_0 : decode cX3_stampsOf 0 = .ok (.iload_n 1, 1) := by decide +kernel
theorem dX3_stampsOf_1 : decode cX3_stampsOf 1 = .ok (.ifCond .lt 21, 3) := by decide +kernel
theorem dX3_stampsOf_4 : decode cX3_stampsOf 4 = .ok (.iload_n 1, 1) := by decide +kernel
theorem dX3_stampsOf_5 : decode cX3_stampsOf 5 = .ok (.aload_n 0, 1) := by decide +kernel
theorem dX3_stampsOf_6 : decode cX3_stampsOf 6 = .ok (.getfield 13, 3) := by decide +kernel
theorem dX3_stampsOf_9 : decode cX3_stampsOf 9 = .ok (.arraylength, 1) := by decide +kernel
theorem dX3_stampsOf_10 : decode cX3_stampsOf 10 = .ok (.if_icmp .ge 12, 3) := by decide +kernel
theorem dX3_stampsOf_13 : decode cX3_stampsOf 13 = .ok (.aload_n 0, 1) := by decide +kernel
theorem dX3_stampsOf_14 : decode cX3_stampsOf 14 = .ok (.getfield 13, 3) := by decide +kernel
theorem dX3_stampsOf_17 : decode cX3_stampsOf 17 = .ok (.iload_n 1, 1) := by decide +kernel
theorem dX3_stampsOf_18 : decode cX3_stampsOf 18 = .ok (.iaload, 1) := by decide +kernel
theorem dX3_stampsOf_19 : decode cX3_stampsOf 19 = .ok (.goto 4, 3) := by decide +kernel
theorem dX3_stampsOf_22 : decode cX3_stampsOf 22 = .ok (.iconst 0, 1) := by decide +kernel
theorem dX3_stampsOf_23 : decode cX3_stampsOf 23 = .ok (.ireturn, 1) := by decide +kernel
theorem dX3_addStamps_0 : decode cX3_addStamps 0 = .ok (.iload_n 1, 1) := by decide +kernel
theorem dX3_addStamps_1 : decode cX3_addStamps 1 = .ok (.ifCond .lt 22, 3) := by decide +kernel
theorem dX3_addStamps_4 : decode cX3_addStamps 4 = .ok (.iload_n 1, 1) := by decide +kernel
theorem dX3_addStamps_5 : decode cX3_addStamps 5 = .ok (.aload_n 0, 1) := by decide +kernel
theorem dX3_addStamps_6 : decode cX3_addStamps 6 = .ok (.getfield 13, 3) := by decide +kernel
theorem dX3_addStamps_9 : decode cX3_addStamps 9 = .ok (.arraylength, 1) := by decide +kernel
theorem dX3_addStamps_10 : decode cX3_addStamps 10 = .ok (.if_icmp .ge 13, 3) := by decide +kernel
theorem dX3_addStamps_13 : decode cX3_addStamps 13 = .ok (.aload_n 0, 1) := by decide +kernel
theorem dX3_addStamps_14 : decode cX3_addStamps 14 = .ok (.getfield 13, 3) := by decide +kernel
theorem dX3_addStamps_17 : decode cX3_addStamps 17 = .ok (.iload_n 1, 1) := by decide +kernel
theorem dX3_addStamps_18 : decode cX3_addStamps 18 = .ok (.dup2, 1) := by decide +kernel
theorem dX3_addStamps_19 : decode cX3_addStamps 19 = .ok (.iaload, 1) := by decide +kernel
theorem dX3_addStamps_20 : decode cX3_addStamps 20 = .ok (.iload_n 2, 1) := by decide +kernel
theorem dX3_addStamps_21 : decode cX3_addStamps 21 = .ok (.iadd, 1) := by decide +kernel
theorem dX3_addStamps_22 : decode cX3_addStamps 22 = .ok (.iastore, 1) := by decide +kernel
theorem dX3_addStamps_23 : decode cX3_addStamps 23 = .ok (.return_, 1) := by decide +kernel
theorem dX3_book_0 : decode cX3_book 0 = .ok (.aload_n 0, 1) := by decide +kernel
theorem dX3_book_1 : decode cX3_book 1 = .ok (.dup, 1) := by decide +kernel
theorem dX3_book_2 : decode cX3_book 2 = .ok (.getfield 29, 3) := by decide +kernel
theorem dX3_book_5 : decode cX3_book 5 = .ok (.iload_n 1, 1) := by decide +kernel
theorem dX3_book_6 : decode cX3_book 6 = .ok (.iadd, 1) := by decide +kernel
theorem dX3_book_7 : decode cX3_book 7 = .ok (.putfield 29, 3) := by decide +kernel
theorem dX3_book_10 : decode cX3_book 10 = .ok (.aload_n 0, 1) := by decide +kernel
theorem dX3_book_11 : decode cX3_book 11 = .ok (.dup, 1) := by decide +kernel
theorem dX3_book_12 : decode cX3_book 12 = .ok (.getfield 32, 3) := by decide +kernel
theorem dX3_book_15 : decode cX3_book 15 = .ok (.iconst 1, 1) := by decide +kernel
theorem dX3_book_16 : decode cX3_book 16 = .ok (.iadd, 1) := by decide +kernel
theorem dX3_book_17 : decode cX3_book 17 = .ok (.putfield 32, 3) := by decide +kernel
theorem dX3_book_20 : decode cX3_book 20 = .ok (.iconst 0, 1) := by decide +kernel
theorem dX3_book_21 : decode cX3_book 21 = .ok (.istore_n 3, 1) := by decide +kernel
theorem dX3_book_22 : decode cX3_book 22 = .ok (.iload_n 3, 1) := by decide +kernel
theorem dX3_book_23 : decode cX3_book 23 = .ok (.aload_n 2, 1) := by decide +kernel
theorem dX3_book_24 : decode cX3_book 24 = .ok (.arraylength, 1) := by decide +kernel
theorem dX3_book_25 : decode cX3_book 25 = .ok (.if_icmp .ge 18, 3) := by decide +kernel
theorem dX3_book_28 : decode cX3_book 28 = .ok (.aload_n 0, 1) := by decide +kernel
theorem dX3_book_29 : decode cX3_book 29 = .ok (.iload_n 3, 1) := by decide +kernel
theorem dX3_book_30 : decode cX3_book 30 = .ok (.aload_n 2, 1) := by decide +kernel
theorem dX3_book_31 : decode cX3_book 31 = .ok (.iload_n 3, 1) := by decide +kernel
theorem dX3_book_32 : decode cX3_book 32 = .ok (.iaload, 1) := by decide +kernel
theorem dX3_book_33 : decode cX3_book 33 = .ok (.ineg, 1) := by decide +kernel
theorem dX3_book_34 : decode cX3_book 34 = .ok (.invokevirtual 74, 3) := by decide +kernel
theorem dX3_book_37 : decode cX3_book 37 = .ok (.iinc 3 1, 3) := by decide +kernel
theorem dX3_book_40 : decode cX3_book 40 = .ok (.goto (-18), 3) := by decide +kernel
theorem dX3_book_43 : decode cX3_book 43 = .ok (.return_, 1) := by decide +kernel
theorem dX4_init_0 : decode cX4_init 0 = .ok (.aload_n 0, 1) := by decide +kernel
theorem dX4_init_1 : decode cX4_init 1 = .ok (.invokespecial 3, 3) := by decide +kernel
theorem dX4_init_4 : decode cX4_init 4 = .ok (.aload_n 0, 1) := by decide +kernel
theorem dX4_init_5 : decode cX4_init 5 = .ok (.iconst 0, 1) := by decide +kernel
theorem dX4_init_6 : decode cX4_init 6 = .ok (.putfield 9, 3) := by decide +kernel
theorem dX4_init_9 : decode cX4_init 9 = .ok (.aload_n 0, 1) := by decide +kernel
theorem dX4_init_10 : decode cX4_init 10 = .ok (.iconst 0, 1) := by decide +kernel
theorem dX4_init_11 : decode cX4_init 11 = .ok (.putfield 15, 3) := by decide +kernel
theorem dX4_init_14 : decode cX4_init 14 = .ok (.aload_n 0, 1) := by decide +kernel
theorem dX4_init_15 : decode cX4_init 15 = .ok (.iconst 0, 1) := by decide +kernel
theorem dX4_init_16 : decode cX4_init 16 = .ok (.putfield 18, 3) := by decide +kernel
theorem dX4_init_19 : decode cX4_init 19 = .ok (.aload_n 0, 1) := by decide +kernel
theorem dX4_init_20 : decode cX4_init 20 = .ok (.bipush 13, 2) := by decide +kernel
theorem dX4_init_22 : decode cX4_init 22 = .ok (.putfield 21, 3) := by decide +kernel
theorem dX4_init_25 : decode cX4_init 25 = .ok (.aload_n 0, 1) := by decide +kernel
theorem dX4_init_26 : decode cX4_init 26 = .ok (.iconst 0, 1) := by decide +kernel
theorem dX4_init_27 : decode cX4_init 27 = .ok (.putfield 24, 3) := by decide +kernel
theorem dX4_init_30 : decode cX4_init 30 = .ok (.aload_n 0, 1) := by decide +kernel
theorem dX4_init_31 : decode cX4_init 31 = .ok (.aload_n 1, 1) := by decide +kernel
theorem dX4_init_32 : decode cX4_init 32 = .ok (.putfield 27, 3) := by decide +kernel
theorem dX4_init_35 : decode cX4_init 35 = .ok (.return_, 1) := by decide +kernel
theorem dX4_read_0 : decode cX4_read 0 = .ok (.aload_n 0, 1) := by decide +kernel
theorem dX4_read_1 : decode cX4_read 1 = .ok (.iconst 0, 1) := by decide +kernel
theorem dX4_read_2 : decode cX4_read 2 = .ok (.putfield 9, 3) := by decide +kernel
theorem dX4_read_5 : decode cX4_read 5 = .ok (.aload_n 0, 1) := by decide +kernel
theorem dX4_read_6 : decode cX4_read 6 = .ok (.iconst 0, 1) := by decide +kernel
theorem dX4_read_7 : decode cX4_read 7 = .ok (.putfield 18, 3) := by decide +kernel
theorem dX4_read_10 : decode cX4_read 10 = .ok (.aload_n 0, 1) := by decide +kernel
theorem dX4_read_11 : decode cX4_read 11 = .ok (.bipush 13, 2) := by decide +kernel
theorem dX4_read_13 : decode cX4_read 13 = .ok (.putfield 21, 3) := by decide +kernel
theorem dX4_read_16 : decode cX4_read 16 = .ok (.aload_n 0, 1) := by decide +kernel
theorem dX4_read_17 : decode cX4_read 17 = .ok (.bipush 13, 2) := by decide +kernel
theorem dX4_read_19 : decode cX4_read 19 = .ok (.invokevirtual 31, 3) := by decide +kernel
theorem dX4_read_22 : decode cX4_read 22 = .ok (.pop, 1) := by decide +kernel
theorem dX4_read_23 : decode cX4_read 23 = .ok (.bipush 12, 2) := by decide +kernel
theorem dX4_read_25 : decode cX4_read 25 = .ok (.anewarray 35, 3) := by decide +kernel
theorem dX4_read_28 : decode cX4_read 28 = .ok (.astore_n 1, 1) := by decide +kernel
theorem dX4_read_29 : decode cX4_read 29 = .ok (.iconst 0, 1) := by decide +kernel
theorem dX4_read_30 : decode cX4_read 30 = .ok (.istore_n 2, 1) := by decide +kernel
theorem dX4_read_31 : decode cX4_read 31 = .ok (.iload_n 2, 1) := by decide +kernel
theorem dX4_read_32 : decode cX4_read 32 = .ok (.bipush 12, 2) := by decide +kernel
theorem dX4_read_34 : decode cX4_read 34 = .ok (.if_icmp .gt 37, 3) := by decide +kernel
theorem dX4_read_37 : decode cX4_read 37 = .ok (.aload_n 0, 1) := by decide +kernel
theorem dX4_read_38 : decode cX4_read 38 = .ok (.iload_n 2, 1) := by decide +kernel
theorem dX4_read_39 : decode cX4_read 39 = .ok (.invokevirtual 37, 3) := by decide +kernel
theorem dX4_read_42 : decode cX4_read 42 = .ok (.astore_n 3, 1) := by decide +kernel
theorem dX4_read_43 : decode cX4_read 43 = .ok (.iload_n 2, 1) := by decide +kernel
theorem dX4_read_44 : decode cX4_read 44 = .ok (.aload_n 1, 1) := by decide +kernel
theorem dX4_read_45 : decode cX4_read 45 = .ok (.arraylength, 1) := by decide +kernel
theorem dX4_read_46 : decode cX4_read 46 = .ok (.if_icmp .ge 7, 3) := by decide +kernel
theorem dX4_read_49 : decode cX4_read 49 = .ok (.aload_n 1, 1) := by decide +kernel
theorem dX4_read_50 : decode cX4_read 50 = .ok (.iload_n 2, 1) := by decide +kernel
theorem dX4_read_51 : decode cX4_read 51 = .ok (.aload_n 3, 1) := by decide +kernel
theorem dX4_read_52 : decode cX4_read 52 = .ok (.aastore, 1) := by decide +kernel
theorem dX4_read_53 : decode cX4_read 53 = .ok (.aload_n 0, 1) := by decide +kernel
theorem dX4_read_54 : decode cX4_read 54 = .ok (.bipush 59, 2) := by decide +kernel
theorem dX4_read_56 : decode cX4_read 56 = .ok (.invokevirtual 31, 3) := by decide +kernel
theorem dX4_read_59 : decode cX4_read 59 = .ok (.ifCond .ne 6, 3) := by decide +kernel
theorem dX4_read_62 : decode cX4_read 62 = .ok (.goto 9, 3) := by decide +kernel
theorem dX4_read_65 : decode cX4_read 65 = .ok (.iinc 2 1, 3) := by decide +kernel
theorem dX4_read_68 : decode cX4_read 68 = .ok (.goto (-37), 3) := by decide +kernel
theorem dX4_read_71 : decode cX4_read 71 = .ok (.aload_n 0, 1) := by decide +kernel
theorem dX4_read_72 : decode cX4_read 72 = .ok (.getfield 21, 3) := by decide +kernel
theorem dX4_read_75 : decode cX4_read 75 = .ok (.ifCond .eq 8, 3) := by decide +kernel
theorem dX4_read_78 : decode cX4_read 78 = .ok (.aload_n 0, 1) := by decide +kernel
theorem dX4_read_79 : decode cX4_read 79 = .ok (.iconst 1, 1) := by decide +kernel
theorem dX4_read_80 : decode cX4_read 80 = .ok (.invokevirtual 41, 3) := by decide +kernel
theorem dX4_read_83 : decode cX4_read 83 = .ok (.aload_n 0, 1) := by decide +kernel
theorem dX4_read_84 : decode cX4_read 84 = .ok (.getfield 9, 3) := by decide +kernel
theorem dX4_read_87 : decode cX4_read 87 = .ok (.ifCond .ne 7, 3) := by decide +kernel
theorem dX4_read_90 : decode cX4_read 90 = .ok (.aload_n 1, 1) := by decide +kernel
theorem dX4_read_91 : decode cX4_read 91 = .ok (.goto 4, 3) := by decide +kernel
theorem dX4_read_94 : decode cX4_read 94 = .ok (.aconst_null, 1) := by decide +kernel
theorem dX4_read_95 : decode cX4_read 95 = .ok (.areturn, 1) := by decide +kernel
theorem dX4_readLine_0 : decode cX4_readLine 0 = .ok (.aload_n 0, 1) := by decide +kernel
theorem dX4_readLine_1 : decode cX4_readLine 1 = .ok (.getfield 21, 3) := by decide +kernel
theorem dX4_readLine_4 : decode cX4_readLine 4 = .ok (.iconst 4, 1) := by decide +kernel
theorem dX4_readLine_5 : decode cX4_readLine 5 = .ok (.if_icmp .ne 14, 3) := by decide +kernel
theorem dX4_readLine_8 : decode cX4_readLine 8 = .ok (.iload_n 1, 1) := by decide +kernel
theorem dX4_readLine_9 : decode cX4_readLine 9 = .ok (.bipush 12, 2) := by decide +kernel
theorem dX4_readLine_11 : decode cX4_readLine 11 = .ok (.if_icmp .lt 8, 3) := by decide +kernel
theorem dX4_readLine_14 : decode cX4_readLine 14 = .ok (.aload_n 0, 1) := by decide +kernel
theorem dX4_readLine_15 : decode cX4_readLine 15 = .ok (.iconst 4, 1) := by decide +kernel
theorem dX4_readLine_16 : decode cX4_readLine 16 = .ok (.invokevirtual 41, 3) := by decide +kernel
theorem dX4_readLine_19 : decode cX4_readLine 19 = .ok (.aload_n 0, 1) := by decide +kernel
theorem dX4_readLine_20 : decode cX4_readLine 20 = .ok (.iconst 4, 1) := by decide +kernel
theorem dX4_readLine_21 : decode cX4_readLine 21 = .ok (.invokevirtual 45, 3) := by decide +kernel
theorem dX4_readLine_24 : decode cX4_readLine 24 = .ok (.pop, 1) := by decide +kernel
theorem dX4_readLine_25 : decode cX4_readLine 25 = .ok (.aload_n 0, 1) := by decide +kernel
theorem dX4_readLine_26 : decode cX4_readLine 26 = .ok (.getfield 21, 3) := by decide +kernel
theorem dX4_readLine_29 : decode cX4_readLine 29 = .ok (.iconst 2, 1) := by decide +kernel
theorem dX4_readLine_30 : decode cX4_readLine 30 = .ok (.if_icmp .ne 17, 3) := by decide +kernel
theorem dX4_readLine_33 : decode cX4_readLine 33 = .ok (.aload_n 0, 1) := by decide +kernel
theorem dX4_readLine_34 : decode cX4_readLine 34 = .ok (.getfield 24, 3) := by decide +kernel
theorem dX4_readLine_37 : decode cX4_readLine 37 = .ok (.bipush 9, 2) := by decide +kernel
theorem dX4_readLine_39 : decode cX4_readLine 39 = .ok (.if_icmp .le 8, 3) := by decide +kernel
theorem dX4_readLine_42 : decode cX4_readLine 42 = .ok (.aload_n 0, 1) := by decide +kernel
theorem dX4_readLine_43 : decode cX4_readLine 43 = .ok (.iconst 3, 1) := by decide +kernel
theorem dX4_readLine_44 : decode cX4_readLine 44 = .ok (.invokevirtual 41, 3) := by decide +kernel
theorem dX4_readLine_47 : decode cX4_readLine 47 = .ok (.new 35, 3) := by decide +kernel
theorem dX4_readLine_50 : decode cX4_readLine 50 = .ok (.dup, 1) := by decide +kernel
theorem dX4_readLine_51 : decode cX4_readLine 51 = .ok (.aload_n 0, 1) := by decide +kernel
theorem dX4_readLine_52 : decode cX4_readLine 52 = .ok (.iconst 2, 1) := by decide +kernel
theorem dX4_readLine_53 : decode cX4_readLine 53 = .ok (.invokevirtual 45, 3) := by decide +kernel
theorem dX4_readLine_56 : decode cX4_readLine 56 = .ok (.invokespecial 49, 3) := by decide +kernel
theorem dX4_readLine_59 : decode cX4_readLine 59 = .ok (.astore_n 2, 1) := by decide +kernel
theorem dX4_readLine_60 : decode cX4_readLine 60 = .ok (.aload_n 0, 1) := by decide +kernel
theorem dX4_readLine_61 : decode cX4_readLine 61 = .ok (.iconst 5, 1) := by decide +kernel
theorem dX4_readLine_62 : decode cX4_readLine 62 = .ok (.invokevirtual 31, 3) := by decide +kernel
theorem dX4_readLine_65 : decode cX4_readLine 65 = .ok (.ifCond .eq 8, 3) := by decide +kernel
theorem dX4_readLine_68 : decode cX4_readLine 68 = .ok (.aload_n 0, 1) := by decide +kernel
theorem dX4_readLine_69 : decode cX4_readLine 69 = .ok (.aload_n 2, 1) := by decide +kernel
theorem dX4_readLine_70 : decode cX4_readLine 70 = .ok (.invokevirtual 51, 3) := by decide +kernel
theorem dX4_readLine_73 : decode cX4_readLine 73 = .ok (.aload_n 0, 1) := by decide +kernel
theorem dX4_readLine_74 : decode cX4_readLine 74 = .ok (.bipush 7, 2) := by decide +kernel
theorem dX4_readLine_76 : decode cX4_readLine 76 = .ok (.invokevirtual 45, 3) := by decide +kernel
theorem dX4_readLine_79 : decode cX4_readLine 79 = .ok (.pop, 1) := by decide +kernel
theorem dX4_readLine_80 : decode cX4_readLine 80 = .ok (.aload_n 0, 1) := by decide +kernel
theorem dX4_readLine_81 : decode cX4_readLine 81 = .ok (.aload_n 2, 1) := by decide +kernel
theorem dX4_readLine_82 : decode cX4_readLine 82 = .ok (.invokevirtual 55, 3) := by decide +kernel
theorem dX4_readLine_85 : decode cX4_readLine 85 = .ok (.aload_n 2, 1) := by decide +kernel
theorem dX4_readLine_86 : decode cX4_readLine 86 = .ok (.areturn, 1) := by decide +kernel
theorem dX4_readTests_0 : decode cX4_readTests 0 = .ok (.iconst 0, 1) := by decide +kernel
theorem dX4_readTests_1 : decode cX4_readTests 1 = .ok (.istore_n 2, 1) := by decide +kernel
theorem dX4_readTests_2 : decode cX4_readTests 2 = .ok (.iload_n 2, 1) := by decide +kernel
theorem dX4_readTests_3 : decode cX4_readTests 3 = .ok (.iconst 4, 1) := by decide +kernel
theorem dX4_readTests_4 : decode cX4_readTests 4 = .ok (.if_icmp .gt 43, 3) := by decide +kernel
theorem dX4_readTests_7 : decode cX4_readTests 7 = .ok (.aload_n 0, 1) := by decide +kernel
theorem dX4_readTests_8 : decode cX4_readTests 8 = .ok (.iload_n 2, 1) := by decide +kernel
theorem dX4_readTests_9 : decode cX4_readTests 9 = .ok (.invokevirtual 58, 3) := by decide +kernel
theorem dX4_readTests_12 : decode cX4_readTests 12 = .ok (.astore_n 3, 1) := by decide +kernel
theorem dX4_readTests_13 : decode cX4_readTests 13 = .ok (.iload_n 2, 1) := by decide +kernel
theorem dX4_readTests_14 : decode cX4_readTests 14 = .ok (.aload_n 1, 1) := by decide +kernel
theorem dX4_readTests_15 : decode cX4_readTests 15 = .ok (.getfield 62, 3) := by decide +kernel
theorem dX4_readTests_18 : decode cX4_readTests 18 = .ok (.arraylength, 1) := by decide +kernel
theorem dX4_readTests_19 : decode cX4_readTests 19 = .ok (.if_icmp .ge 10, 3) := by decide +kernel
theorem dX4_readTests_22 : decode cX4_readTests 22 = .ok (.aload_n 1, 1) := by decide +kernel
theorem dX4_readTests_23 : decode cX4_readTests 23 = .ok (.getfield 62, 3) := by decide +kernel
theorem dX4_readTests_26 : decode cX4_readTests 26 = .ok (.iload_n 2, 1) := by decide +kernel
theorem dX4_readTests_27 : decode cX4_readTests 27 = .ok (.aload_n 3, 1) := by decide +kernel
theorem dX4_readTests_28 : decode cX4_readTests 28 = .ok (.aastore, 1) := by decide +kernel
theorem dX4_readTests_29 : decode cX4_readTests 29 = .ok (.aload_n 0, 1) := by decide +kernel
theorem dX4_readTests_30 : decode cX4_readTests 30 = .ok (.bipush 6, 2) := by decide +kernel
theorem dX4_readTests_32 : decode cX4_readTests 32 = .ok (.invokevirtual 31, 3) := by decide +kernel
theorem dX4_readTests_35 : decode cX4_readTests 35 = .ok (.ifCond .ne 6, 3) := by decide +kernel
theorem dX4_readTests_38 : decode cX4_readTests 38 = .ok (.goto 9, 3) := by decide +kernel
theorem dX4_readTests_41 : decode cX4_readTests 41 = .ok (.iinc 2 1, 3) := by decide +kernel
theorem dX4_readTests_44 : decode cX4_readTests 44 = .ok (.goto (-42), 3) := by decide +kernel
theorem dX4_readTests_47 : decode cX4_readTests 47 = .ok (.return_, 1) := by decide +kernel
theorem dX4_readTest_0 : decode cX4_readTest 0 = .ok (.aload_n 0, 1) := by decide +kernel
theorem dX4_readTest_1 : decode cX4_readTest 1 = .ok (.getfield 21, 3) := by decide +kernel
theorem dX4_readTest_4 : decode cX4_readTest 4 = .ok (.invokestatic 66, 3) := by decide +kernel
theorem dX4_readTest_7 : decode cX4_readTest 7 = .ok (.ifCond .eq 13, 3) := by decide +kernel
theorem dX4_readTest_10 : decode cX4_readTest 10 = .ok (.iload_n 1, 1) := by decide +kernel
theorem dX4_readTest_11 : decode cX4_readTest 11 = .ok (.iconst 4, 1) := by decide +kernel
theorem dX4_readTest_12 : decode cX4_readTest 12 = .ok (.if_icmp .lt 8, 3) := by decide +kernel
theorem dX4_readTest_15 : decode cX4_readTest 15 = .ok (.aload_n 0, 1) := by decide +kernel
theorem dX4_readTest_16 : decode cX4_readTest 16 = .ok (.iconst 4, 1) := by decide +kernel
theorem dX4_readTest_17 : decode cX4_readTest 17 = .ok (.invokevirtual 41, 3) := by decide +kernel
theorem dX4_readTest_20 : decode cX4_readTest 20 = .ok (.aload_n 0, 1) := by decide +kernel
theorem dX4_readTest_21 : decode cX4_readTest 21 = .ok (.invokevirtual 69, 3) := by decide +kernel
theorem dX4_readTest_24 : decode cX4_readTest 24 = .ok (.istore_n 2, 1) := by decide +kernel
theorem dX4_readTest_25 : decode cX4_readTest 25 = .ok (.aload_n 0, 1) := by decide +kernel
theorem dX4_readTest_26 : decode cX4_readTest 26 = .ok (.getfield 21, 3) := by decide +kernel
theorem dX4_readTest_29 : decode cX4_readTest 29 = .ok (.istore_n 3, 1) := by decide +kernel
theorem dX4_readTest_30 : decode cX4_readTest 30 = .ok (.iload_n 3, 1) := by decide +kernel
theorem dX4_readTest_31 : decode cX4_readTest 31 = .ok (.bipush 60, 2) := by decide +kernel
theorem dX4_readTest_33 : decode cX4_readTest 33 = .ok (.if_icmp .eq 20, 3) := by decide +kernel
theorem dX4_readTest_36 : decode cX4_readTest 36 = .ok (.iload_n 3, 1) := by decide +kernel
theorem dX4_readTest_37 : decode cX4_readTest 37 = .ok (.bipush 62, 2) := by decide +kernel
theorem dX4_readTest_39 : decode cX4_readTest 39 = .ok (.if_icmp .eq 14, 3) := by decide +kernel
theorem dX4_readTest_42 : decode cX4_readTest 42 = .ok (.iload_n 3, 1) := by decide +kernel
theorem dX4_readTest_43 : decode cX4_readTest 43 = .ok (.bipush 61, 2) := by decide +kernel
theorem dX4_readTest_45 : decode cX4_readTest 45 = .ok (.if_icmp .eq 8, 3) := by decide +kernel
theorem dX4_readTest_48 : decode cX4_readTest 48 = .ok (.aload_n 0, 1) := by decide +kernel
theorem dX4_readTest_49 : decode cX4_readTest 49 = .ok (.iconst 1, 1) := by decide +kernel
theorem dX4_readTest_50 : decode cX4_readTest 50 = .ok (.invokevirtual 41, 3) := by decide +kernel
theorem dX4_readTest_53 : decode cX4_readTest 53 = .ok (.aload_n 0, 1) := by decide +kernel
theorem dX4_readTest_54 : decode cX4_readTest 54 = .ok (.iload_n 3, 1) := by decide +kernel
theorem dX4_readTest_55 : decode cX4_readTest 55 = .ok (.invokevirtual 31, 3) := by decide +kernel
theorem dX4_readTest_58 : decode cX4_readTest 58 = .ok (.pop, 1) := by decide +kernel
theorem dX4_readTest_59 : decode cX4_readTest 59 = .ok (.new 73, 3) := by decide +kernel
theorem dX4_readTest_62 : decode cX4_readTest 62 = .ok (.dup, 1) := by decide +kernel
theorem dX4_readTest_63 : decode cX4_readTest 63 = .ok (.iload_n 2, 1) := by decide +kernel
theorem dX4_readTest_64 : decode cX4_readTest 64 = .ok (.iload_n 3, 1) := by decide +kernel
theorem dX4_readTest_65 : decode cX4_readTest 65 = .ok (.aload_n 0, 1) := by decide +kernel
theorem dX4_readTest_66 : decode cX4_readTest 66 = .ok (.iconst 2, 1) := by decide +kernel
theorem dX4_readTest_67 : decode cX4_readTest 67 = .ok (.invokevirtual 45, 3) := by decide +kernel
theorem dX4_readTest_70 : decode cX4_readTest 70 = .ok (.invokespecial 75, 3) := by decide +kernel
theorem dX4_readTest_73 : decode cX4_readTest 73 = .ok (.areturn, 1) := by decide +kernel
theorem dX4_readTerms_0 : decode cX4_readTerms 0 = .ok (.iconst 0, 1) := by decide +kernel
theorem dX4_readTerms_1 : decode cX4_readTerms 1 = .ok (.istore_n 2, 1) := by decide +kernel
theorem dX4_readTerms_2 : decode cX4_readTerms 2 = .ok (.iload_n 2, 1) := by decide +kernel
theorem dX4_readTerms_3 : decode cX4_readTerms 3 = .ok (.iconst 4, 1) := by decide +kernel
theorem dX4_readTerms_4 : decode cX4_readTerms 4 = .ok (.if_icmp .gt 43, 3) := by decide +kernel
theorem dX4_readTerms_7 : decode cX4_readTerms 7 = .ok (.aload_n 0, 1) := by decide +kernel
theorem dX4_readTerms_8 : decode cX4_readTerms 8 = .ok (.iload_n 2, 1) := by decide +kernel
theorem dX4_readTerms_9 : decode cX4_readTerms 9 = .ok (.invokevirtual 78, 3) := by decide +kernel
theorem dX4_readTerms_12 : decode cX4_readTerms 12 = .ok (.astore_n 3, 1) := by decide +kernel
theorem dX4_readTerms_13 : decode cX4_readTerms 13 = .ok (.iload_n 2, 1) := by decide +kernel
theorem dX4_readTerms_14 : decode cX4_readTerms 14 = .ok (.aload_n 1, 1) := by decide +kernel
theorem dX4_readTerms_15 : decode cX4_readTerms 15 = .ok (.getfield 82, 3) := by decide +kernel
theorem dX4_readTerms_18 : decode cX4_readTerms 18 = .ok (.arraylength, 1) := by decide +kernel
theorem dX4_readTerms_19 : decode cX4_readTerms 19 = .ok (.if_icmp .ge 10, 3) := by decide +kernel
theorem dX4_readTerms_22 : decode cX4_readTerms 22 = .ok (.aload_n 1, 1) := by decide +kernel
theorem dX4_readTerms_23 : decode cX4_readTerms 23 = .ok (.getfield 82, 3) := by decide +kernel
theorem dX4_readTerms_26 : decode cX4_readTerms 26 = .ok (.iload_n 2, 1) := by decide +kernel
theorem dX4_readTerms_27 : decode cX4_readTerms 27 = .ok (.aload_n 3, 1) := by decide +kernel
theorem dX4_readTerms_28 : decode cX4_readTerms 28 = .ok (.aastore, 1) := by decide +kernel
theorem dX4_readTerms_29 : decode cX4_readTerms 29 = .ok (.aload_n 0, 1) := by decide +kernel
theorem dX4_readTerms_30 : decode cX4_readTerms 30 = .ok (.bipush 43, 2) := by decide +kernel
theorem dX4_readTerms_32 : decode cX4_readTerms 32 = .ok (.invokevirtual 31, 3) := by decide +kernel
theorem dX4_readTerms_35 : decode cX4_readTerms 35 = .ok (.ifCond .ne 6, 3) := by decide +kernel
theorem dX4_readTerms_38 : decode cX4_readTerms 38 = .ok (.goto 9, 3) := by decide +kernel
theorem dX4_readTerms_41 : decode cX4_readTerms 41 = .ok (.iinc 2 1, 3) := by decide +kernel
theorem dX4_readTerms_44 : decode cX4_readTerms 44 = .ok (.goto (-42), 3) := by decide +kernel
theorem dX4_readTerms_47 : decode cX4_readTerms 47 = .ok (.return_, 1) := by decide +kernel
theorem dX4_readTerm_0 : decode cX4_readTerm 0 = .ok (.aload_n 0, 1) := by decide +kernel
theorem dX4_readTerm_1 : decode cX4_readTerm 1 = .ok (.getfield 21, 3) := by decide +kernel
theorem dX4_readTerm_4 : decode cX4_readTerm 4 = .ok (.iconst 2, 1) := by decide +kernel
theorem dX4_readTerm_5 : decode cX4_readTerm 5 = .ok (.if_icmp .ne 7, 3) := by decide +kernel
theorem dX4_readTerm_8 : decode cX4_readTerm 8 = .ok (.iconst 1, 1) := by decide +kernel
theorem dX4_readTerm_9 : decode cX4_readTerm 9 = .ok (.goto 4, 3) := by decide +kernel
theorem dX4_readTerm_12 : decode cX4_readTerm 12 = .ok (.iconst 0, 1) := by decide +kernel
theorem dX4_readTerm_13 : decode cX4_readTerm 13 = .ok (.istore_n 2, 1) := by decide +kernel
theorem dX4_readTerm_14 : decode cX4_readTerm 14 = .ok (.iload_n 2, 1) := by decide +kernel
theorem dX4_readTerm_15 : decode cX4_readTerm 15 = .ok (.ifCond .ne 13, 3) := by decide +kernel
theorem dX4_readTerm_18 : decode cX4_readTerm 18 = .ok (.aload_n 0, 1) := by decide +kernel
theorem dX4_readTerm_19 : decode cX4_readTerm 19 = .ok (.getfield 21, 3) := by decide +kernel
theorem dX4_readTerm_22 : decode cX4_readTerm 22 = .ok (.invokestatic 66, 3) := by decide +kernel
theorem dX4_readTerm_25 : decode cX4_readTerm 25 = .ok (.ifCond .eq 13, 3) := by decide +kernel
theorem dX4_readTerm_28 : decode cX4_readTerm 28 = .ok (.iload_n 1, 1) := by decide +kernel
theorem dX4_readTerm_29 : decode cX4_readTerm 29 = .ok (.iconst 4, 1) := by decide +kernel
theorem dX4_readTerm_30 : decode cX4_readTerm 30 = .ok (.if_icmp .lt 8, 3) := by decide +kernel
theorem dX4_readTerm_33 : decode cX4_readTerm 33 = .ok (.aload_n 0, 1) := by decide +kernel
theorem dX4_readTerm_34 : decode cX4_readTerm 34 = .ok (.iconst 4, 1) := by decide +kernel
theorem dX4_readTerm_35 : decode cX4_readTerm 35 = .ok (.invokevirtual 41, 3) := by decide +kernel
theorem dX4_readTerm_38 : decode cX4_readTerm 38 = .ok (.iload_n 2, 1) := by decide +kernel
theorem dX4_readTerm_39 : decode cX4_readTerm 39 = .ok (.ifCond .eq 11, 3) := by decide +kernel
theorem dX4_readTerm_42 : decode cX4_readTerm 42 = .ok (.aload_n 0, 1) := by decide +kernel
theorem dX4_readTerm_43 : decode cX4_readTerm 43 = .ok (.iconst 2, 1) := by decide +kernel
theorem dX4_readTerm_44 : decode cX4_readTerm 44 = .ok (.invokevirtual 45, 3) := by decide +kernel
theorem dX4_readTerm_47 : decode cX4_readTerm 47 = .ok (.goto 4, 3) := by decide +kernel
theorem dX4_readTerm_50 : decode cX4_readTerm 50 = .ok (.iconst 1, 1) := by decide +kernel
theorem dX4_readTerm_51 : decode cX4_readTerm 51 = .ok (.istore_n 3, 1) := by decide +kernel
theorem dX4_readTerm_52 : decode cX4_readTerm 52 = .ok (.iload_n 2, 1) := by decide +kernel
theorem dX4_readTerm_53 : decode cX4_readTerm 53 = .ok (.ifCond .eq 24, 3) := by decide +kernel
theorem dX4_readTerm_56 : decode cX4_readTerm 56 = .ok (.aload_n 0, 1) := by decide +kernel
theorem dX4_readTerm_57 : decode cX4_readTerm 57 = .ok (.bipush 42, 2) := by decide +kernel
theorem dX4_readTerm_59 : decode cX4_readTerm 59 = .ok (.invokevirtual 31, 3) := by decide +kernel
theorem dX4_readTerm_62 : decode cX4_readTerm 62 = .ok (.ifCond .ne 15, 3) := by decide +kernel
theorem dX4_readTerm_65 : decode cX4_readTerm 65 = .ok (.new 86, 3) := by decide +kernel
theorem dX4_readTerm_68 : decode cX4_readTerm 68 = .ok (.dup, 1) := by decide +kernel
theorem dX4_readTerm_69 : decode cX4_readTerm 69 = .ok (.iload_n 3, 1) := by decide +kernel
theorem dX4_readTerm_70 : decode cX4_readTerm 70 = .ok (.bipush 12, 2) := by decide +kernel
theorem dX4_readTerm_72 : decode cX4_readTerm 72 = .ok (.iconst 1, 1) := by decide +kernel
theorem dX4_readTerm_73 : decode cX4_readTerm 73 = .ok (.invokespecial 88, 3) := by decide +kernel
theorem dX4_readTerm_76 : decode cX4_readTerm 76 = .ok (.areturn, 1) := by decide +kernel
theorem dX4_readTerm_77 : decode cX4_readTerm 77 = .ok (.aload_n 0, 1) := by decide +kernel
theorem dX4_readTerm_78 : decode cX4_readTerm 78 = .ok (.invokevirtual 69, 3) := by decide +kernel
theorem dX4_readTerm_81 : decode cX4_readTerm 81 = .ok (.istore 4, 2) := by decide +kernel
theorem dX4_readTerm_83 : decode cX4_readTerm 83 = .ok (.aload_n 0, 1) := by decide +kernel
theorem dX4_readTerm_84 : decode cX4_readTerm 84 = .ok (.bipush 47, 2) := by decide +kernel
theorem dX4_readTerm_86 : decode cX4_readTerm 86 = .ok (.invokevirtual 31, 3) := by decide +kernel
theorem dX4_readTerm_89 : decode cX4_readTerm 89 = .ok (.ifCond .ne 15, 3) := by decide +kernel
theorem dX4_readTerm_92 : decode cX4_readTerm 92 = .ok (.new 86, 3) := by decide +kernel
theorem dX4_readTerm_95 : decode cX4_readTerm 95 = .ok (.dup, 1) := by decide +kernel
theorem dX4_readTerm_96 : decode cX4_readTerm 96 = .ok (.iload_n 3, 1) := by decide +kernel
theorem dX4_readTerm_97 : decode cX4_readTerm 97 = .ok (.iload 4, 2) := by decide +kernel
theorem dX4_readTerm_99 : decode cX4_readTerm 99 = .ok (.iconst 1, 1) := by decide +kernel
theorem dX4_readTerm_100 : decode cX4_readTerm 100 = .ok (.invokespecial 88, 3) := by decide +kernel
theorem dX4_readTerm_103 : decode cX4_readTerm 103 = .ok (.areturn, 1) := by decide +kernel
theorem dX4_readTerm_104 : decode cX4_readTerm 104 = .ok (.aload_n 0, 1) := by decide +kernel
theorem dX4_readTerm_105 : decode cX4_readTerm 105 = .ok (.getfield 21, 3) := by decide +kernel
theorem dX4_readTerm_108 : decode cX4_readTerm 108 = .ok (.iconst 2, 1) := by decide +kernel
theorem dX4_readTerm_109 : decode cX4_readTerm 109 = .ok (.if_icmp .ne 15, 3) := by decide +kernel
theorem dX4_readTerm_112 : decode cX4_readTerm 112 = .ok (.aload_n 0, 1) := by decide +kernel
theorem dX4_readTerm_113 : decode cX4_readTerm 113 = .ok (.getfield 24, 3) := by decide +kernel
theorem dX4_readTerm_116 : decode cX4_readTerm 116 = .ok (.ifCond .ne 8, 3) := by decide +kernel
theorem dX4_readTerm_119 : decode cX4_readTerm 119 = .ok (.aload_n 0, 1) := by decide +kernel
theorem dX4_readTerm_120 : decode cX4_readTerm 120 = .ok (.iconst 3, 1) := by decide +kernel
theorem dX4_readTerm_121 : decode cX4_readTerm 121 = .ok (.invokevirtual 41, 3) := by decide +kernel
theorem dX4_readTerm_124 : decode cX4_readTerm 124 = .ok (.new 86, 3) := by decide +kernel
theorem dX4_readTerm_127 : decode cX4_readTerm 127 = .ok (.dup, 1) := by decide +kernel
theorem dX4_readTerm_128 : decode cX4_readTerm 128 = .ok (.iload_n 3, 1) := by decide +kernel
theorem dX4_readTerm_129 : decode cX4_readTerm 129 = .ok (.iload 4, 2) := by decide +kernel
theorem dX4_readTerm_131 : decode cX4_readTerm 131 = .ok (.aload_n 0, 1) := by decide +kernel
theorem dX4_readTerm_132 : decode cX4_readTerm 132 = .ok (.iconst 2, 1) := by decide +kernel
theorem dX4_readTerm_133 : decode cX4_readTerm 133 = .ok (.invokevirtual 45, 3) := by decide +kernel
theorem dX4_readTerm_136 : decode cX4_readTerm 136 = .ok (.invokespecial 88, 3) := by decide +kernel
theorem dX4_readTerm_139 : decode cX4_readTerm 139 = .ok (.areturn, 1) := by decide +kernel
theorem dX4_needName_0 : decode cX4_needName 0 = .ok (.aload_n 0, 1) := by decide +kernel
theorem dX4_needName_1 : decode cX4_needName 1 = .ok (.getfield 21, 3) := by decide +kernel
theorem dX4_needName_4 : decode cX4_needName 4 = .ok (.istore_n 1, 1) := by decide +kernel
theorem dX4_needName_5 : decode cX4_needName 5 = .ok (.iload_n 1, 1) := by decide +kernel
theorem dX4_needName_6 : decode cX4_needName 6 = .ok (.iconst 3, 1) := by decide +kernel
theorem dX4_needName_7 : decode cX4_needName 7 = .ok (.if_icmp .ne 8, 3) := by decide +kernel
theorem dX4_needName_10 : decode cX4_needName 10 = .ok (.aload_n 0, 1) := by decide +kernel
theorem dX4_needName_11 : decode cX4_needName 11 = .ok (.iconst 2, 1) := by decide +kernel
theorem dX4_needName_12 : decode cX4_needName 12 = .ok (.invokevirtual 41, 3) := by decide +kernel
theorem dX4_needName_15 : decode cX4_needName 15 = .ok (.iload_n 1, 1) := by decide +kernel
theorem dX4_needName_16 : decode cX4_needName 16 = .ok (.invokestatic 66, 3) := by decide +kernel
theorem dX4_needName_19 : decode cX4_needName 19 = .ok (.ifCond .ne 8, 3) := by decide +kernel
theorem dX4_needName_22 : decode cX4_needName 22 = .ok (.aload_n 0, 1) := by decide +kernel
theorem dX4_needName_23 : decode cX4_needName 23 = .ok (.iconst 1, 1) := by decide +kernel
theorem dX4_needName_24 : decode cX4_needName 24 = .ok (.invokevirtual 41, 3) := by decide +kernel
theorem dX4_needName_27 : decode cX4_needName 27 = .ok (.aload_n 0, 1) := by decide +kernel
theorem dX4_needName_28 : decode cX4_needName 28 = .ok (.iload_n 1, 1) := by decide +kernel
theorem dX4_needName_29 : decode cX4_needName 29 = .ok (.invokevirtual 31, 3) := by decide +kernel
theorem dX4_needName_32 : decode cX4_needName 32 = .ok (.pop, 1) := by decide +kernel
theorem dX4_needName_33 : decode cX4_needName 33 = .ok (.iload_n 1, 1) := by decide +kernel
theorem dX4_needName_34 : decode cX4_needName 34 = .ok (.ireturn, 1) := by decide +kernel
theorem dX4_need_0 : decode cX4_need 0 = .ok (.aload_n 0, 1) := by decide +kernel
theorem dX4_need_1 : decode cX4_need 1 = .ok (.getfield 24, 3) := by decide +kernel
theorem dX4_need_4 : decode cX4_need 4 = .ok (.istore_n 2, 1) := by decide +kernel
theorem dX4_need_5 : decode cX4_need 5 = .ok (.aload_n 0, 1) := by decide +kernel
theorem dX4_need_6 : decode cX4_need 6 = .ok (.iload_n 1, 1) := by decide +kernel
theorem dX4_need_7 : decode cX4_need 7 = .ok (.invokevirtual 31, 3) := by decide +kernel
theorem dX4_need_10 : decode cX4_need 10 = .ok (.ifCond .ne 8, 3) := by decide +kernel
theorem dX4_need_13 : decode cX4_need 13 = .ok (.aload_n 0, 1) := by decide +kernel
theorem dX4_need_14 : decode cX4_need 14 = .ok (.iconst 1, 1) := by decide +kernel
theorem dX4_need_15 : decode cX4_need 15 = .ok (.invokevirtual 41, 3) := by decide +kernel
theorem dX4_need_18 : decode cX4_need 18 = .ok (.iload_n 2, 1) := by decide +kernel
theorem dX4_need_19 : decode cX4_need 19 = .ok (.ireturn, 1) := by decide +kernel
theorem dX4_skip_0 : decode cX4_skip 0 = .ok (.aload_n 0, 1) := by decide +kernel
theorem dX4_skip_1 : decode cX4_skip 1 = .ok (.getfield 9, 3) := by decide +kernel
theorem dX4_skip_4 : decode cX4_skip 4 = .ok (.ifCond .ne 11, 3) := by decide +kernel
theorem dX4_skip_7 : decode cX4_skip 7 = .ok (.aload_n 0, 1) := by decide +kernel
theorem dX4_skip_8 : decode cX4_skip 8 = .ok (.getfield 21, 3) := by decide +kernel
theorem dX4_skip_11 : decode cX4_skip 11 = .ok (.iload_n 1, 1) := by decide +kernel
theorem dX4_skip_12 : decode cX4_skip 12 = .ok (.if_icmp .eq 5, 3) := by decide +kernel
theorem dX4_skip_15 : decode cX4_skip 15 = .ok (.iconst 0, 1) := by decide +kernel
theorem dX4_skip_16 : decode cX4_skip 16 = .ok (.ireturn, 1) := by decide +kernel
theorem dX4_skip_17 : decode cX4_skip 17 = .ok (.aload_n 0, 1) := by decide +kernel
theorem dX4_skip_18 : decode cX4_skip 18 = .ok (.getfield 18, 3) := by decide +kernel
theorem dX4_skip_21 : decode cX4_skip 21 = .ok (.ifCond .lt 106, 3) := by decide +kernel
theorem dX4_skip_24 : decode cX4_skip 24 = .ok (.aload_n 0, 1) := by decide +kernel
theorem dX4_skip_25 : decode cX4_skip 25 = .ok (.getfield 18, 3) := by decide +kernel
theorem dX4_skip_28 : decode cX4_skip 28 = .ok (.aload_n 0, 1) := by decide +kernel
theorem dX4_skip_29 : decode cX4_skip 29 = .ok (.getfield 27, 3) := by decide +kernel
theorem dX4_skip_32 : decode cX4_skip 32 = .ok (.getfield 89, 3) := by decide +kernel
theorem dX4_skip_35 : decode cX4_skip 35 = .ok (.arraylength, 1) := by decide +kernel
theorem dX4_skip_36 : decode cX4_skip 36 = .ok (.if_icmp .ge 91, 3) := by decide +kernel
theorem dX4_skip_39 : decode cX4_skip 39 = .ok (.aload_n 0, 1) := by decide +kernel
theorem dX4_skip_40 : decode cX4_skip 40 = .ok (.getfield 18, 3) := by decide +kernel
theorem dX4_skip_43 : decode cX4_skip 43 = .ok (.aload_n 0, 1) := by decide +kernel
theorem dX4_skip_44 : decode cX4_skip 44 = .ok (.getfield 27, 3) := by decide +kernel
theorem dX4_skip_47 : decode cX4_skip 47 = .ok (.getfield 95, 3) := by decide +kernel
theorem dX4_skip_50 : decode cX4_skip 50 = .ok (.arraylength, 1) := by decide +kernel
theorem dX4_skip_51 : decode cX4_skip 51 = .ok (.if_icmp .ge 76, 3) := by decide +kernel
theorem dX4_skip_54 : decode cX4_skip 54 = .ok (.aload_n 0, 1) := by decide +kernel
theorem dX4_skip_55 : decode cX4_skip 55 = .ok (.getfield 18, 3) := by decide +kernel
theorem dX4_skip_58 : decode cX4_skip 58 = .ok (.aload_n 0, 1) := by decide +kernel
theorem dX4_skip_59 : decode cX4_skip 59 = .ok (.getfield 27, 3) := by decide +kernel
theorem dX4_skip_62 : decode cX4_skip 62 = .ok (.getfield 98, 3) := by decide +kernel
theorem dX4_skip_65 : decode cX4_skip 65 = .ok (.arraylength, 1) := by decide +kernel
theorem dX4_skip_66 : decode cX4_skip 66 = .ok (.if_icmp .ge 61, 3) := by decide +kernel
theorem dX4_skip_69 : decode cX4_skip 69 = .ok (.aload_n 0, 1) := by decide +kernel
theorem dX4_skip_70 : decode cX4_skip 70 = .ok (.aload_n 0, 1) := by decide +kernel
theorem dX4_skip_71 : decode cX4_skip 71 = .ok (.getfield 27, 3) := by decide +kernel
theorem dX4_skip_74 : decode cX4_skip 74 = .ok (.getfield 89, 3) := by decide +kernel
theorem dX4_skip_77 : decode cX4_skip 77 = .ok (.aload_n 0, 1) := by decide +kernel
theorem dX4_skip_78 : decode cX4_skip 78 = .ok (.getfield 18, 3) := by decide +kernel
theorem dX4_skip_81 : decode cX4_skip 81 = .ok (.iaload, 1) := by decide +kernel
theorem dX4_skip_82 : decode cX4_skip 82 = .ok (.putfield 21, 3) := by decide +kernel
theorem dX4_skip_85 : decode cX4_skip 85 = .ok (.aload_n 0, 1) := by decide +kernel
theorem dX4_skip_86 : decode cX4_skip 86 = .ok (.aload_n 0, 1) := by decide +kernel
theorem dX4_skip_87 : decode cX4_skip 87 = .ok (.getfield 27, 3) := by decide +kernel
theorem dX4_skip_90 : decode cX4_skip 90 = .ok (.getfield 95, 3) := by decide +kernel
theorem dX4_skip_93 : decode cX4_skip 93 = .ok (.aload_n 0, 1) := by decide +kernel
theorem dX4_skip_94 : decode cX4_skip 94 = .ok (.getfield 18, 3) := by decide +kernel
theorem dX4_skip_97 : decode cX4_skip 97 = .ok (.iaload, 1) := by decide +kernel
theorem dX4_skip_98 : decode cX4_skip 98 = .ok (.putfield 15, 3) := by decide +kernel
theorem dX4_skip_101 : decode cX4_skip 101 = .ok (.aload_n 0, 1) := by decide +kernel
theorem dX4_skip_102 : decode cX4_skip 102 = .ok (.aload_n 0, 1) := by decide +kernel
theorem dX4_skip_103 : decode cX4_skip 103 = .ok (.getfield 27, 3) := by decide +kernel
theorem dX4_skip_106 : decode cX4_skip 106 = .ok (.getfield 98, 3) := by decide +kernel
theorem dX4_skip_109 : decode cX4_skip 109 = .ok (.aload_n 0, 1) := by decide +kernel
theorem dX4_skip_110 : decode cX4_skip 110 = .ok (.getfield 18, 3) := by decide +kernel
theorem dX4_skip_113 : decode cX4_skip 113 = .ok (.iaload, 1) := by decide +kernel
theorem dX4_skip_114 : decode cX4_skip 114 = .ok (.putfield 24, 3) := by decide +kernel
theorem dX4_skip_117 : decode cX4_skip 117 = .ok (.aload_n 0, 1) := by decide +kernel
theorem dX4_skip_118 : decode cX4_skip 118 = .ok (.dup, 1) := by decide +kernel
theorem dX4_skip_119 : decode cX4_skip 119 = .ok (.getfield 18, 3) := by decide +kernel
theorem dX4_skip_122 : decode cX4_skip 122 = .ok (.iconst 1, 1) := by decide +kernel
theorem dX4_skip_123 : decode cX4_skip 123 = .ok (.iadd, 1) := by decide +kernel
theorem dX4_skip_124 : decode cX4_skip 124 = .ok (.putfield 18, 3) := by decide +kernel
theorem dX4_skip_127 : decode cX4_skip 127 = .ok (.iconst 1, 1) := by decide +kernel
theorem dX4_skip_128 : decode cX4_skip 128 = .ok (.ireturn, 1) := by decide +kernel
theorem dX4_blame_0 : decode cX4_blame 0 = .ok (.aload_n 0, 1) := by decide +kernel
theorem dX4_blame_1 : decode cX4_blame 1 = .ok (.getfield 9, 3) := by decide +kernel
theorem dX4_blame_4 : decode cX4_blame 4 = .ok (.ifCond .ne 8, 3) := by decide +kernel
theorem dX4_blame_7 : decode cX4_blame 7 = .ok (.aload_n 0, 1) := by decide +kernel
theorem dX4_blame_8 : decode cX4_blame 8 = .ok (.iload_n 1, 1) := by decide +kernel
theorem dX4_blame_9 : decode cX4_blame 9 = .ok (.putfield 9, 3) := by decide +kernel
theorem dX4_blame_12 : decode cX4_blame 12 = .ok (.return_, 1) := by decide +kernel
theorem dX4_isName_0 : decode cX4_isName 0 = .ok (.iload_n 0, 1) := by decide +kernel
theorem dX4_isName_1 : decode cX4_isName 1 = .ok (.bipush 8, 2) := by decide +kernel
theorem dX4_isName_3 : decode cX4_isName 3 = .ok (.if_icmp .lt 13, 3) := by decide +kernel
theorem dX4_isName_6 : decode cX4_isName 6 = .ok (.iload_n 0, 1) := by decide +kernel
theorem dX4_isName_7 : decode cX4_isName 7 = .ok (.bipush 11, 2) := by decide +kernel
theorem dX4_isName_9 : decode cX4_isName 9 = .ok (.if_icmp .gt 7, 3) := by decide +kernel
theorem dX4_isName_12 : decode cX4_isName 12 = .ok (.iconst 1, 1) := by decide +kernel
theorem dX4_isName_13 : decode cX4_isName 13 = .ok (.goto 4, 3) := by decide +kernel
theorem dX4_isName_16 : decode cX4_isName 16 = .ok (.iconst 0, 1) := by decide +kernel
theorem dX4_isName_17 : decode cX4_isName 17 = .ok (.ireturn, 1) := by decide +kernel
theorem dX5_init_0 : decode cX5_init 0 = .ok (.aload_n 0, 1) := by decide +kernel
theorem dX5_init_1 : decode cX5_init 1 = .ok (.invokespecial 3, 3) := by decide +kernel
theorem dX5_init_4 : decode cX5_init 4 = .ok (.aload_n 0, 1) := by decide +kernel
theorem dX5_init_5 : decode cX5_init 5 = .ok (.sipush 300, 3) := by decide +kernel
theorem dX5_init_8 : decode cX5_init 8 = .ok (.newarray .int, 2) := by decide +kernel
theorem dX5_init_10 : decode cX5_init 10 = .ok (.putfield 9, 3) := by decide +kernel
theorem dX5_init_13 : decode cX5_init 13 = .ok (.aload_n 0, 1) := by decide +kernel
theorem dX5_init_14 : decode cX5_init 14 = .ok (.iconst 0, 1) := by decide +kernel
theorem dX5_init_15 : decode cX5_init 15 = .ok (.putfield 15, 3) := by decide +kernel
theorem dX5_init_18 : decode cX5_init 18 = .ok (.return_, 1) := by decide +kernel
theorem dX5_add_0 : decode cX5_add 0 = .ok (.bipush 24, 2) := by decide +kernel
theorem dX5_add_2 : decode cX5_add 2 = .ok (.istore_n 2, 1) := by decide +kernel
theorem dX5_add_3 : decode cX5_add 3 = .ok (.iload_n 2, 1) := by decide +kernel
theorem dX5_add_4 : decode cX5_add 4 = .ok (.ifCond .lt 54, 3) := by decide +kernel
theorem dX5_add_7 : decode cX5_add 7 = .ok (.aload_n 0, 1) := by decide +kernel
theorem dX5_add_8 : decode cX5_add 8 = .ok (.getfield 15, 3) := by decide +kernel
theorem dX5_add_11 : decode cX5_add 11 = .ok (.ifCond .lt 41, 3) := by decide +kernel
theorem dX5_add_14 : decode cX5_add 14 = .ok (.aload_n 0, 1) := by decide +kernel
theorem dX5_add_15 : decode cX5_add 15 = .ok (.getfield 15, 3) := by decide +kernel
theorem dX5_add_18 : decode cX5_add 18 = .ok (.aload_n 0, 1) := by decide +kernel
theorem dX5_add_19 : decode cX5_add 19 = .ok (.getfield 9, 3) := by decide +kernel
theorem dX5_add_22 : decode cX5_add 22 = .ok (.arraylength, 1) := by decide +kernel
theorem dX5_add_23 : decode cX5_add 23 = .ok (.if_icmp .ge 29, 3) := by decide +kernel
theorem dX5_add_26 : decode cX5_add 26 = .ok (.aload_n 0, 1) := by decide +kernel
theorem dX5_add_27 : decode cX5_add 27 = .ok (.getfield 9, 3) := by decide +kernel
theorem dX5_add_30 : decode cX5_add 30 = .ok (.aload_n 0, 1) := by decide +kernel
theorem dX5_add_31 : decode cX5_add 31 = .ok (.getfield 15, 3) := by decide +kernel
theorem dX5_add_34 : decode cX5_add 34 = .ok (.iload_n 1, 1) := by decide +kernel
theorem dX5_add_35 : decode cX5_add 35 = .ok (.iload_n 2, 1) := by decide +kernel
theorem dX5_add_36 : decode cX5_add 36 = .ok (.iushr, 1) := by decide +kernel
theorem dX5_add_37 : decode cX5_add 37 = .ok (.sipush 255, 3) := by decide +kernel
theorem dX5_add_40 : decode cX5_add 40 = .ok (.iand, 1) := by decide +kernel
theorem dX5_add_41 : decode cX5_add 41 = .ok (.iastore, 1) := by decide +kernel
theorem dX5_add_42 : decode cX5_add 42 = .ok (.aload_n 0, 1) := by decide +kernel
theorem dX5_add_43 : decode cX5_add 43 = .ok (.dup, 1) := by decide +kernel
theorem dX5_add_44 : decode cX5_add 44 = .ok (.getfield 15, 3) := by decide +kernel
theorem dX5_add_47 : decode cX5_add 47 = .ok (.iconst 1, 1) := by decide +kernel
theorem dX5_add_48 : decode cX5_add 48 = .ok (.iadd, 1) := by decide +kernel
theorem dX5_add_49 : decode cX5_add 49 = .ok (.putfield 15, 3) := by decide +kernel
theorem dX5_add_52 : decode cX5_add 52 = .ok (.iinc 2 (-8), 3) := by decide +kernel
theorem dX5_add_55 : decode cX5_add 55 = .ok (.goto (-52), 3) := by decide +kernel
theorem dX5_add_58 : decode cX5_add 58 = .ok (.return_, 1) := by decide +kernel
theorem dX5_clear_0 : decode cX5_clear 0 = .ok (.aload_n 0, 1) := by decide +kernel
theorem dX5_clear_1 : decode cX5_clear 1 = .ok (.iconst 0, 1) := by decide +kernel
theorem dX5_clear_2 : decode cX5_clear 2 = .ok (.putfield 15, 3) := by decide +kernel
theorem dX5_clear_5 : decode cX5_clear 5 = .ok (.return_, 1) := by decide +kernel
theorem dX5_at_0 : decode cX5_at 0 = .ok (.iload_n 1, 1) := by decide +kernel
theorem dX5_at_1 : decode cX5_at 1 = .ok (.ifCond .lt 29, 3) := by decide +kernel
theorem dX5_at_4 : decode cX5_at 4 = .ok (.iload_n 1, 1) := by decide +kernel
theorem dX5_at_5 : decode cX5_at 5 = .ok (.aload_n 0, 1) := by decide +kernel
theorem dX5_at_6 : decode cX5_at 6 = .ok (.getfield 15, 3) := by decide +kernel
theorem dX5_at_9 : decode cX5_at 9 = .ok (.if_icmp .ge 21, 3) := by decide +kernel
theorem dX5_at_12 : decode cX5_at 12 = .ok (.iload_n 1, 1) := by decide +kernel
theorem dX5_at_13 : decode cX5_at 13 = .ok (.aload_n 0, 1) := by decide +kernel
theorem dX5_at_14 : decode cX5_at 14 = .ok (.getfield 9, 3) := by decide +kernel
theorem dX5_at_17 : decode cX5_at 17 = .ok (.arraylength, 1) := by decide +kernel
theorem dX5_at_18 : decode cX5_at 18 = .ok (.if_icmp .ge 12, 3) := by decide +kernel
theorem dX5_at_21 : decode cX5_at 21 = .ok (.aload_n 0, 1) := by decide +kernel
theorem dX5_at_22 : decode cX5_at 22 = .ok (.getfield 9, 3) := by decide +kernel
theorem dX5_at_25 : decode cX5_at 25 = .ok (.iload_n 1, 1) := by decide +kernel
theorem dX5_at_26 : decode cX5_at 26 = .ok (.iaload, 1) := by decide +kernel
theorem dX5_at_27 : decode cX5_at 27 = .ok (.goto 5, 3) := by decide +kernel
theorem dX5_at_30 : decode cX5_at 30 = .ok (.bipush 32, 2) := by decide +kernel
theorem dX5_at_32 : decode cX5_at 32 = .ok (.ireturn, 1) := by decide +kernel
theorem dX6_init_0 : decode cX6_init 0 = .ok (.aload_n 0, 1) := by decide +kernel
theorem dX6_init_1 : decode cX6_init 1 = .ok (.invokespecial 3, 3) := by decide +kernel
theorem dX6_init_4 : decode cX6_init 4 = .ok (.aload_n 0, 1) := by decide +kernel
theorem dX6_init_5 : decode cX6_init 5 = .ok (.iload_n 1, 1) := by decide +kernel
theorem dX6_init_6 : decode cX6_init 6 = .ok (.putfield 9, 3) := by decide +kernel
theorem dX6_init_9 : decode cX6_init 9 = .ok (.aload_n 0, 1) := by decide +kernel
theorem dX6_init_10 : decode cX6_init 10 = .ok (.aload_n 2, 1) := by decide +kernel
theorem dX6_init_11 : decode cX6_init 11 = .ok (.putfield 15, 3) := by decide +kernel
theorem dX6_init_14 : decode cX6_init 14 = .ok (.return_, 1) := by decide +kernel
theorem dX6_feeOf_0 : decode cX6_feeOf 0 = .ok (.iconst 0, 1) := by decide +kernel
theorem dX6_feeOf_1 : decode cX6_feeOf 1 = .ok (.istore_n 2, 1) := by decide +kernel
theorem dX6_feeOf_2 : decode cX6_feeOf 2 = .ok (.iload_n 2, 1) := by decide +kernel
theorem dX6_feeOf_3 : decode cX6_feeOf 3 = .ok (.aload_n 0, 1) := by decide +kernel
theorem dX6_feeOf_4 : decode cX6_feeOf 4 = .ok (.getfield 15, 3) := by decide +kernel
theorem dX6_feeOf_7 : decode cX6_feeOf 7 = .ok (.arraylength, 1) := by decide +kernel
theorem dX6_feeOf_8 : decode cX6_feeOf 8 = .ok (.if_icmp .ge 34, 3) := by decide +kernel
theorem dX6_feeOf_11 : decode cX6_feeOf 11 = .ok (.aload_n 0, 1) := by decide +kernel
theorem dX6_feeOf_12 : decode cX6_feeOf 12 = .ok (.getfield 15, 3) := by decide +kernel
theorem dX6_feeOf_15 : decode cX6_feeOf 15 = .ok (.iload_n 2, 1) := by decide +kernel
theorem dX6_feeOf_16 : decode cX6_feeOf 16 = .ok (.aaload, 1) := by decide +kernel
theorem dX6_feeOf_17 : decode cX6_feeOf 17 = .ok (.astore_n 3, 1) := by decide +kernel
theorem dX6_feeOf_18 : decode cX6_feeOf 18 = .ok (.aload_n 3, 1) := by decide +kernel
theorem dX6_feeOf_19 : decode cX6_feeOf 19 = .ok (.ifnull 17, 3) := by decide +kernel
theorem dX6_feeOf_22 : decode cX6_feeOf 22 = .ok (.aload_n 3, 1) := by decide +kernel
theorem dX6_feeOf_23 : decode cX6_feeOf 23 = .ok (.aload_n 1, 1) := by decide +kernel
theorem dX6_feeOf_24 : decode cX6_feeOf 24 = .ok (.invokevirtual 19, 3) := by decide +kernel
theorem dX6_feeOf_27 : decode cX6_feeOf 27 = .ok (.ifCond .eq 9, 3) := by decide +kernel
theorem dX6_feeOf_30 : decode cX6_feeOf 30 = .ok (.aload_n 3, 1) := by decide +kernel
theorem dX6_feeOf_31 : decode cX6_feeOf 31 = .ok (.aload_n 1, 1) := by decide +kernel
theorem dX6_feeOf_32 : decode cX6_feeOf 32 = .ok (.invokevirtual 25, 3) := by decide +kernel
theorem dX6_feeOf_35 : decode cX6_feeOf 35 = .ok (.ireturn, 1) := by decide +kernel
theorem dX6_feeOf_36 : decode cX6_feeOf 36 = .ok (.iinc 2 1, 3) := by decide +kernel
theorem dX6_feeOf_39 : decode cX6_feeOf 39 = .ok (.goto (-37), 3) := by decide +kernel
theorem dX6_feeOf_42 : decode cX6_feeOf 42 = .ok (.bipush (-2), 2) := by decide +kernel
theorem dX6_feeOf_44 : decode cX6_feeOf 44 = .ok (.ireturn, 1) := by decide +kernel
theorem dX7_init_0 : decode cX7_init 0 = .ok (.aload_n 0, 1) := by decide +kernel
theorem dX7_init_1 : decode cX7_init 1 = .ok (.invokespecial 1, 3) := by decide +kernel
theorem dX7_init_4 : decode cX7_init 4 = .ok (.aload_n 0, 1) := by decide +kernel
theorem dX7_init_5 : decode cX7_init 5 = .ok (.iload_n 1, 1) := by decide +kernel
theorem dX7_init_6 : decode cX7_init 6 = .ok (.putfield 7, 3) := by decide +kernel
theorem dX7_init_9 : decode cX7_init 9 = .ok (.aload_n 0, 1) := by decide +kernel
theorem dX7_init_10 : decode cX7_init 10 = .ok (.iload_n 2, 1) := by decide +kernel
theorem dX7_init_11 : decode cX7_init 11 = .ok (.putfield 13, 3) := by decide +kernel
theorem dX7_init_14 : decode cX7_init 14 = .ok (.aload_n 0, 1) := by decide +kernel
theorem dX7_init_15 : decode cX7_init 15 = .ok (.iload_n 3, 1) := by decide +kernel
theorem dX7_init_16 : decode cX7_init 16 = .ok (.putfield 16, 3) := by decide +kernel
theorem dX7_init_19 : decode cX7_init 19 = .ok (.return_, 1) := by decide +kernel
theorem dX7_amount_0 : decode cX7_amount 0 = .ok (.aload_n 0, 1) := by decide +kernel
theorem dX7_amount_1 : decode cX7_amount 1 = .ok (.getfield 7, 3) := by decide +kernel
theorem dX7_amount_4 : decode cX7_amount 4 = .ok (.aload_n 1, 1) := by decide +kernel
theorem dX7_amount_5 : decode cX7_amount 5 = .ok (.aload_n 0, 1) := by decide +kernel
theorem dX7_amount_6 : decode cX7_amount 6 = .ok (.getfield 13, 3) := by decide +kernel
theorem dX7_amount_9 : decode cX7_amount 9 = .ok (.invokevirtual 19, 3) := by decide +kernel
theorem dX7_amount_12 : decode cX7_amount 12 = .ok (.imul, 1) := by decide +kernel
theorem dX7_amount_13 : decode cX7_amount 13 = .ok (.istore_n 2, 1) := by decide +kernel
theorem dX7_amount_14 : decode cX7_amount 14 = .ok (.aload_n 0, 1) := by decide +kernel
theorem dX7_amount_15 : decode cX7_amount 15 = .ok (.getfield 16, 3) := by decide +kernel
theorem dX7_amount_18 : decode cX7_amount 18 = .ok (.ifCond .le 12, 3) := by decide +kernel
theorem dX7_amount_21 : decode cX7_amount 21 = .ok (.iload_n 2, 1) := by decide +kernel
theorem dX7_amount_22 : decode cX7_amount 22 = .ok (.aload_n 0, 1) := by decide +kernel
theorem dX7_amount_23 : decode cX7_amount 23 = .ok (.getfield 16, 3) := by decide +kernel
theorem dX7_amount_26 : decode cX7_amount 26 = .ok (.idiv, 1) := by decide +kernel
theorem dX7_amount_27 : decode cX7_amount 27 = .ok (.goto 4, 3) := by decide +kernel
theorem dX7_amount_30 : decode cX7_amount 30 = .ok (.iload_n 2, 1) := by decide +kernel
theorem dX7_amount_31 : decode cX7_amount 31 = .ok (.ireturn, 1) := by decide +kernel
theorem dX8_init_0 : decode cX8_init 0 = .ok (.aload_n 0, 1) := by decide +kernel
theorem dX8_init_1 : decode cX8_init 1 = .ok (.invokespecial 1, 3) := by decide +kernel
theorem dX8_init_4 : decode cX8_init 4 = .ok (.aload_n 0, 1) := by decide +kernel
theorem dX8_init_5 : decode cX8_init 5 = .ok (.iload_n 1, 1) := by decide +kernel
theorem dX8_init_6 : decode cX8_init 6 = .ok (.putfield 7, 3) := by decide +kernel
theorem dX8_init_9 : decode cX8_init 9 = .ok (.aload_n 0, 1) := by decide +kernel
theorem dX8_init_10 : decode cX8_init 10 = .ok (.iload_n 2, 1) := by decide +kernel
theorem dX8_init_11 : decode cX8_init 11 = .ok (.putfield 13, 3) := by decide +kernel
theorem dX8_init_14 : decode cX8_init 14 = .ok (.aload_n 0, 1) := by decide +kernel
theorem dX8_init_15 : decode cX8_init 15 = .ok (.iload_n 3, 1) := by decide +kernel
theorem dX8_init_16 : decode cX8_init 16 = .ok (.putfield 16, 3) := by decide +kernel
theorem dX8_init_19 : decode cX8_init 19 = .ok (.return_, 1) := by decide +kernel
theorem dX8_holds_0 : decode cX8_holds 0 = .ok (.aload_n 1, 1) := by decide +kernel
theorem dX8_holds_1 : decode cX8_holds 1 = .ok (.aload_n 0, 1) := by decide +kernel
theorem dX8_holds_2 : decode cX8_holds 2 = .ok (.getfield 7, 3) := by decide +kernel
theorem dX8_holds_5 : decode cX8_holds 5 = .ok (.invokevirtual 19, 3) := by decide +kernel
theorem dX8_holds_8 : decode cX8_holds 8 = .ok (.istore_n 2, 1) := by decide +kernel
theorem dX8_holds_9 : decode cX8_holds 9 = .ok (.aload_n 0, 1) := by decide +kernel
theorem dX8_holds_10 : decode cX8_holds 10 = .ok (.getfield 13, 3) := by decide +kernel
theorem dX8_holds_13 : decode cX8_holds 13 = .ok (.bipush 60, 2) := by decide +kernel
theorem dX8_holds_15 : decode cX8_holds 15 = .ok (.if_icmp .ne 17, 3) := by decide +kernel
theorem dX8_holds_18 : decode cX8_holds 18 = .ok (.iload_n 2, 1) := by decide +kernel
theorem dX8_holds_19 : decode cX8_holds 19 = .ok (.aload_n 0, 1) := by decide +kernel
theorem dX8_holds_20 : decode cX8_holds 20 = .ok (.getfield 16, 3) := by decide +kernel
theorem dX8_holds_23 : decode cX8_holds 23 = .ok (.if_icmp .ge 7, 3) := by decide +kernel
theorem dX8_holds_26 : decode cX8_holds 26 = .ok (.iconst 1, 1) := by decide +kernel
theorem dX8_holds_27 : decode cX8_holds 27 = .ok (.goto 4, 3) := by decide +kernel
theorem dX8_holds_30 : decode cX8_holds 30 = .ok (.iconst 0, 1) := by decide +kernel
theorem dX8_holds_31 : decode cX8_holds 31 = .ok (.ireturn, 1) := by decide +kernel
theorem dX8_holds_32 : decode cX8_holds 32 = .ok (.aload_n 0, 1) := by decide +kernel
theorem dX8_holds_33 : decode cX8_holds 33 = .ok (.getfield 13, 3) := by decide +kernel
theorem dX8_holds_36 : decode cX8_holds 36 = .ok (.bipush 62, 2) := by decide +kernel
theorem dX8_holds_38 : decode cX8_holds 38 = .ok (.if_icmp .ne 19, 3) := by decide +kernel
theorem dX8_holds_41 : decode cX8_holds 41 = .ok (.iload_n 2, 1) := by decide +kernel
theorem dX8_holds_42 : decode cX8_holds 42 = .ok (.aload_n 0, 1) := by decide +kernel
theorem dX8_holds_43 : decode cX8_holds 43 = .ok (.getfield 16, 3) := by decide +kernel
theorem dX8_holds_46 : decode cX8_holds 46 = .ok (.if_icmp .le 7, 3) := by decide +kernel
theorem dX8_holds_49 : decode cX8_holds 49 = .ok (.iconst 1, 1) := by decide +kernel
theorem dX8_holds_50 : decode cX8_holds 50 = .ok (.goto 20, 3) := by decide +kernel
theorem dX8_holds_53 : decode cX8_holds 53 = .ok (.iconst 0, 1) := by decide +kernel
theorem dX8_holds_54 : decode cX8_holds 54 = .ok (.goto 16, 3) := by decide +kernel
theorem dX8_holds_57 : decode cX8_holds 57 = .ok (.iload_n 2, 1) := by decide +kernel
theorem dX8_holds_58 : decode cX8_holds 58 = .ok (.aload_n 0, 1) := by decide +kernel
theorem dX8_holds_59 : decode cX8_holds 59 = .ok (.getfield 16, 3) := by decide +kernel
theorem dX8_holds_62 : decode cX8_holds 62 = .ok (.if_icmp .ne 7, 3) := by decide +kernel
theorem dX8_holds_65 : decode cX8_holds 65 = .ok (.iconst 1, 1) := by decide +kernel
theorem dX8_holds_66 : decode cX8_holds 66 = .ok (.goto 4, 3) := by decide +kernel
theorem dX8_holds_69 : decode cX8_holds 69 = .ok (.iconst 0, 1) := by decide +kernel
theorem dX8_holds_70 : decode cX8_holds 70 = .ok (.ireturn, 1) := by decide +kernel
theorem dX9_init_0 : decode cX9_init 0 = .ok (.aload_n 0, 1) := by decide +kernel
theorem dX9_init_1 : decode cX9_init 1 = .ok (.invokespecial 3, 3) := by decide +kernel
theorem dX9_init_4 : decode cX9_init 4 = .ok (.aload_n 0, 1) := by decide +kernel
theorem dX9_init_5 : decode cX9_init 5 = .ok (.sipush 301, 3) := by decide +kernel
theorem dX9_init_8 : decode cX9_init 8 = .ok (.newarray .int, 2) := by decide +kernel
theorem dX9_init_10 : decode cX9_init 10 = .ok (.putfield 9, 3) := by decide +kernel
theorem dX9_init_13 : decode cX9_init 13 = .ok (.aload_n 0, 1) := by decide +kernel
theorem dX9_init_14 : decode cX9_init 14 = .ok (.sipush 301, 3) := by decide +kernel
theorem dX9_init_17 : decode cX9_init 17 = .ok (.newarray .int, 2) := by decide +kernel
theorem dX9_init_19 : decode cX9_init 19 = .ok (.putfield 15, 3) := by decide +kernel
theorem dX9_init_22 : decode cX9_init 22 = .ok (.aload_n 0, 1) := by decide +kernel
theorem dX9_init_23 : decode cX9_init 23 = .ok (.sipush 301, 3) := by decide +kernel
theorem dX9_init_26 : decode cX9_init 26 = .ok (.newarray .int, 2) := by decide +kernel
theorem dX9_init_28 : decode cX9_init 28 = .ok (.putfield 18, 3) := by decide +kernel
theorem dX9_init_31 : decode cX9_init 31 = .ok (.aload_n 0, 1) := by decide +kernel
theorem dX9_init_32 : decode cX9_init 32 = .ok (.iconst 0, 1) := by decide +kernel
theorem dX9_init_33 : decode cX9_init 33 = .ok (.putfield 21, 3) := by decide +kernel
theorem dX9_init_36 : decode cX9_init 36 = .ok (.return_, 1) := by decide +kernel
theorem dX9_cut_0 : decode cX9_cut 0 = .ok (.aload_n 0, 1) := by decide +kernel
theorem dX9_cut_1 : decode cX9_cut 1 = .ok (.iconst 0, 1) := by decide +kernel
theorem dX9_cut_2 : decode cX9_cut 2 = .ok (.putfield 21, 3) := by decide +kernel
theorem dX9_cut_5 : decode cX9_cut 5 = .ok (.iconst 0, 1) := by decide +kernel
theorem dX9_cut_6 : decode cX9_cut 6 = .ok (.istore_n 3, 1) := by decide +kernel
theorem dX9_cut_7 : decode cX9_cut 7 = .ok (.iload_n 3, 1) := by decide +kernel
theorem dX9_cut_8 : decode cX9_cut 8 = .ok (.iload_n 2, 1) := by decide +kernel
theorem dX9_cut_9 : decode cX9_cut 9 = .ok (.if_icmp .ge 20, 3) := by decide +kernel
theorem dX9_cut_12 : decode cX9_cut 12 = .ok (.iload_n 3, 1) := by decide +kernel
theorem dX9_cut_13 : decode cX9_cut 13 = .ok (.iconst 1, 1) := by decide +kernel
theorem dX9_cut_14 : decode cX9_cut 14 = .ok (.iadd, 1) := by decide +kernel
theorem dX9_cut_15 : decode cX9_cut 15 = .ok (.aload_n 0, 1) := by decide +kernel
theorem dX9_cut_16 : decode cX9_cut 16 = .ok (.aload_n 1, 1) := by decide +kernel
theorem dX9_cut_17 : decode cX9_cut 17 = .ok (.iload_n 3, 1) := by decide +kernel
theorem dX9_cut_18 : decode cX9_cut 18 = .ok (.iload_n 2, 1) := by decide +kernel
theorem dX9_cut_19 : decode cX9_cut 19 = .ok (.invokevirtual 25, 3) := by decide +kernel
theorem dX9_cut_22 : decode cX9_cut 22 = .ok (.invokestatic 29, 3) := by decide +kernel
theorem dX9_cut_25 : decode cX9_cut 25 = .ok (.istore_n 3, 1) := by decide +kernel
theorem dX9_cut_26 : decode cX9_cut 26 = .ok (.goto (-19), 3) := by decide +kernel
theorem dX9_cut_29 : decode cX9_cut 29 = .ok (.aload_n 0, 1) := by decide +kernel
theorem dX9_cut_30 : decode cX9_cut 30 = .ok (.iconst 0, 1) := by decide +kernel
theorem dX9_cut_31 : decode cX9_cut 31 = .ok (.iload_n 2, 1) := by decide +kernel
theorem dX9_cut_32 : decode cX9_cut 32 = .ok (.iconst 0, 1) := by decide +kernel
theorem dX9_cut_33 : decode cX9_cut 33 = .ok (.invokevirtual 35, 3) := by decide +kernel
theorem dX9_cut_36 : decode cX9_cut 36 = .ok (.return_, 1) := by decide +kernel
theorem dX9_cutOne_0 : decode cX9_cutOne 0 = .ok (.aload_n 1, 1) := by decide +kernel
theorem dX9_cutOne_1 : decode cX9_cutOne 1 = .ok (.iload_n 2, 1) := by decide +kernel
theorem dX9_cutOne_2 : decode cX9_cutOne 2 = .ok (.invokevirtual 39, 3) := by decide +kernel
theorem dX9_cutOne_5 : decode cX9_cutOne 5 = .ok (.istore 4, 2) := by decide +kernel
theorem dX9_cutOne_7 : decode cX9_cutOne 7 = .ok (.iload 4, 2) := by decide +kernel
theorem dX9_cutOne_9 : decode cX9_cutOne 9 = .ok (.invokestatic 45, 3) := by decide +kernel
theorem dX9_cutOne_12 : decode cX9_cutOne 12 = .ok (.ifCond .eq 11, 3) := by decide +kernel
theorem dX9_cutOne_15 : decode cX9_cutOne 15 = .ok (.aload_n 0, 1) := by decide +kernel
theorem dX9_cutOne_16 : decode cX9_cutOne 16 = .ok (.aload_n 1, 1) := by decide +kernel
theorem dX9_cutOne_17 : decode cX9_cutOne 17 = .ok (.iload_n 2, 1) := by decide +kernel
theorem dX9_cutOne_18 : decode cX9_cutOne 18 = .ok (.iload_n 3, 1) := by decide +kernel
theorem dX9_cutOne_19 : decode cX9_cutOne 19 = .ok (.invokevirtual 49, 3) := by decide +kernel
theorem dX9_cutOne_22 : decode cX9_cutOne 22 = .ok (.ireturn, 1) := by decide +kernel
theorem dX9_cutOne_23 : decode cX9_cutOne 23 = .ok (.iload 4, 2) := by decide +kernel
theorem dX9_cutOne_25 : decode cX9_cutOne 25 = .ok (.invokestatic 52, 3) := by decide +kernel
theorem dX9_cutOne_28 : decode cX9_cutOne 28 = .ok (.ifCond .eq 11, 3) := by decide +kernel
theorem dX9_cutOne_31 : decode cX9_cutOne 31 = .ok (.aload_n 0, 1) := by decide +kernel
theorem dX9_cutOne_32 : decode cX9_cutOne 32 = .ok (.aload_n 1, 1) := by decide +kernel
theorem dX9_cutOne_33 : decode cX9_cutOne 33 = .ok (.iload_n 2, 1) := by decide +kernel
theorem dX9_cutOne_34 : decode cX9_cutOne 34 = .ok (.iload_n 3, 1) := by decide +kernel
theorem dX9_cutOne_35 : decode cX9_cutOne 35 = .ok (.invokevirtual 55, 3) := by decide +kernel
theorem dX9_cutOne_38 : decode cX9_cutOne 38 = .ok (.ireturn, 1) := by decide +kernel
theorem dX9_cutOne_39 : decode cX9_cutOne 39 = .ok (.iload 4, 2) := by decide +kernel
theorem dX9_cutOne_41 : decode cX9_cutOne 41 = .ok (.bipush 32, 2) := by decide +kernel
theorem dX9_cutOne_43 : decode cX9_cutOne 43 = .ok (.if_icmp .eq 26, 3) := by decide +kernel
theorem dX9_cutOne_46 : decode cX9_cutOne 46 = .ok (.aload_n 0, 1) := by decide +kernel
theorem dX9_cutOne_47 : decode cX9_cutOne 47 = .ok (.ldc 58, 2) := by decide +kernel
theorem dX9_cutOne_49 : decode cX9_cutOne 49 = .ok (.iload 4, 2) := by decide +kernel
theorem dX9_cutOne_51 : decode cX9_cutOne 51 = .ok (.i2c, 1) := by decide +kernel
theorem dX9_cutOne_52 : decode cX9_cutOne 52 = .ok (.invokevirtual 60, 3) := by decide +kernel
theorem dX9_cutOne_55 : decode cX9_cutOne 55 = .ok (.ifCond .lt 8, 3) := by decide +kernel
theorem dX9_cutOne_58 : decode cX9_cutOne 58 = .ok (.iload 4, 2) := by decide +kernel
theorem dX9_cutOne_60 : decode cX9_cutOne 60 = .ok (.goto 4, 3) := by decide +kernel
theorem dX9_cutOne_63 : decode cX9_cutOne 63 = .ok (.iconst 1, 1) := by decide +kernel
theorem dX9_cutOne_64 : decode cX9_cutOne 64 = .ok (.iload_n 2, 1) := by decide +kernel
theorem dX9_cutOne_65 : decode cX9_cutOne 65 = .ok (.iconst 0, 1) := by decide +kernel
theorem dX9_cutOne_66 : decode cX9_cutOne 66 = .ok (.invokevirtual 35, 3) := by decide +kernel
theorem dX9_cutOne_69 : decode cX9_cutOne 69 = .ok (.iload_n 2, 1) := by decide +kernel
theorem dX9_cutOne_70 : decode cX9_cutOne 70 = .ok (.iconst 1, 1) := by decide +kernel
theorem dX9_cutOne_71 : decode cX9_cutOne 71 = .ok (.iadd, 1) := by decide +kernel
theorem dX9_cutOne_72 : decode cX9_cutOne 72 = .ok (.ireturn, 1) := by decide +kernel
theorem dX9_cutWord_0 : decode cX9_cutWord 0 = .ok (.iload_n 2, 1) := by decide +kernel
theorem dX9_cutWord_1 : decode cX9_cutWord 1 = .ok (.istore 4, 2) := by decide +kernel
theorem dX9_cutWord_3 : decode cX9_cutWord 3 = .ok (.iload 4, 2) := by decide +kernel
theorem dX9_cutWord_5 : decode cX9_cutWord 5 = .ok (.iload_n 3, 1) := by decide +kernel
theorem dX9_cutWord_6 : decode cX9_cutWord 6 = .ok (.if_icmp .ge 21, 3) := by decide +kernel
theorem dX9_cutWord_9 : decode cX9_cutWord 9 = .ok (.aload_n 1, 1) := by decide +kernel
theorem dX9_cutWord_10 : decode cX9_cutWord 10 = .ok (.iload 4, 2) := by decide +kernel
theorem dX9_cutWord_12 : decode cX9_cutWord 12 = .ok (.invokevirtual 39, 3) := by decide +kernel
theorem dX9_cutWord_15 : decode cX9_cutWord 15 = .ok (.invokestatic 45, 3) := by decide +kernel
theorem dX9_cutWord_18 : decode cX9_cutWord 18 = .ok (.ifCond .eq 9, 3) := by decide +kernel
theorem dX9_cutWord_21 : decode cX9_cutWord 21 = .ok (.iinc 4 1, 3) := by decide +kernel
theorem dX9_cutWord_24 : decode cX9_cutWord 24 = .ok (.goto (-21), 3) := by decide +kernel
theorem dX9_cutWord_27 : decode cX9_cutWord 27 = .ok (.aload_n 0, 1) := by decide +kernel
theorem dX9_cutWord_28 : decode cX9_cutWord 28 = .ok (.iload 4, 2) := by decide +kernel
theorem dX9_cutWord_30 : decode cX9_cutWord 30 = .ok (.iload_n 2, 1) := by decide +kernel
theorem dX9_cutWord_31 : decode cX9_cutWord 31 = .ok (.isub, 1) := by decide +kernel
theorem dX9_cutWord_32 : decode cX9_cutWord 32 = .ok (.bipush 8, 2) := by decide +kernel
theorem dX9_cutWord_34 : decode cX9_cutWord 34 = .ok (.if_icmp .le 7, 3) := by decide +kernel
theorem dX9_cutWord_37 : decode cX9_cutWord 37 = .ok (.iconst 1, 1) := by decide +kernel
theorem dX9_cutWord_38 : decode cX9_cutWord 38 = .ok (.goto 10, 3) := by decide +kernel
theorem dX9_cutWord_41 : decode cX9_cutWord 41 = .ok (.aload_n 1, 1) := by decide +kernel
theorem dX9_cutWord_42 : decode cX9_cutWord 42 = .ok (.iload_n 2, 1) := by decide +kernel
theorem dX9_cutWord_43 : decode cX9_cutWord 43 = .ok (.iload 4, 2) := by decide +kernel
theorem dX9_cutWord_45 : decode cX9_cutWord 45 = .ok (.invokestatic 65, 3) := by decide +kernel
theorem dX9_cutWord_48 : decode cX9_cutWord 48 = .ok (.iload_n 2, 1) := by decide +kernel
theorem dX9_cutWord_49 : decode cX9_cutWord 49 = .ok (.iconst 0, 1) := by decide +kernel
theorem dX9_cutWord_50 : decode cX9_cutWord 50 = .ok (.invokevirtual 35, 3) := by decide +kernel
theorem dX9_cutWord_53 : decode cX9_cutWord 53 = .ok (.iload 4, 2) := by decide +kernel
theorem dX9_cutWord_55 : decode cX9_cutWord 55 = .ok (.ireturn, 1) := by decide +kernel
theorem dX9_cutNumber_0 : decode cX9_cutNumber 0 = .ok (.iload_n 2, 1) := by decide +kernel
theorem dX9_cutNumber_1 : decode cX9_cutNumber 1 = .ok (.istore 4, 2) := by decide +kernel
theorem dX9_cutNumber_3 : decode cX9_cutNumber 3 = .ok (.iconst 0, 1) := by decide +kernel
theorem dX9_cutNumber_4 : decode cX9_cutNumber 4 = .ok (.istore 5, 2) := by decide +kernel
theorem dX9_cutNumber_6 : decode cX9_cutNumber 6 = .ok (.iload 4, 2) := by decide +kernel
theorem dX9_cutNumber_8 : decode cX9_cutNumber 8 = .ok (.iload_n 3, 1) := by decide +kernel
theorem dX9_cutNumber_9 : decode cX9_cutNumber 9 = .ok (.if_icmp .ge 38, 3) := by decide +kernel
theorem dX9_cutNumber_12 : decode cX9_cutNumber 12 = .ok (.aload_n 1, 1) := by decide +kernel
theorem dX9_cutNumber_13 : decode cX9_cutNumber 13 = .ok (.iload 4, 2) := by decide +kernel
theorem dX9_cutNumber_15 : decode cX9_cutNumber 15 = .ok (.invokevirtual 39, 3) := by decide +kernel
theorem dX9_cutNumber_18 : decode cX9_cutNumber 18 = .ok (.invokestatic 52, 3) := by decide +kernel
theorem dX9_cutNumber_21 : decode cX9_cutNumber 21 = .ok (.ifCond .eq 26, 3) := by decide +kernel
theorem dX9_cutNumber_24 : decode cX9_cutNumber 24 = .ok (.iload 5, 2) := by decide +kernel
theorem dX9_cutNumber_26 : decode cX9_cutNumber 26 = .ok (.bipush 10, 2) := by decide +kernel
theorem dX9_cutNumber_28 : decode cX9_cutNumber 28 = .ok (.imul, 1) := by decide +kernel
theorem dX9_cutNumber_29 : decode cX9_cutNumber 29 = .ok (.aload_n 1, 1) := by decide +kernel
theorem dX9_cutNumber_30 : decode cX9_cutNumber 30 = .ok (.iload 4, 2) := by decide +kernel
theorem dX9_cutNumber_32 : decode cX9_cutNumber 32 = .ok (.invokevirtual 39, 3) := by decide +kernel
theorem dX9_cutNumber_35 : decode cX9_cutNumber 35 = .ok (.iadd, 1) := by decide +kernel
theorem dX9_cutNumber_36 : decode cX9_cutNumber 36 = .ok (.bipush 48, 2) := by decide +kernel
theorem dX9_cutNumber_38 : decode cX9_cutNumber 38 = .ok (.isub, 1) := by decide +kernel
theorem dX9_cutNumber_39 : decode cX9_cutNumber 39 = .ok (.istore 5, 2) := by decide +kernel
theorem dX9_cutNumber_41 : decode cX9_cutNumber 41 = .ok (.iinc 4 1, 3) := by decide +kernel
theorem dX9_cutNumber_44 : decode cX9_cutNumber 44 = .ok (.goto (-38), 3) := by decide +kernel
theorem dX9_cutNumber_47 : decode cX9_cutNumber 47 = .ok (.aload_n 0, 1) := by decide +kernel
theorem dX9_cutNumber_48 : decode cX9_cutNumber 48 = .ok (.iload 4, 2) := by decide +kernel
theorem dX9_cutNumber_50 : decode cX9_cutNumber 50 = .ok (.iload_n 2, 1) := by decide +kernel
theorem dX9_cutNumber_51 : decode cX9_cutNumber 51 = .ok (.isub, 1) := by decide +kernel
theorem dX9_cutNumber_52 : decode cX9_cutNumber 52 = .ok (.iconst 3, 1) := by decide +kernel
theorem dX9_cutNumber_53 : decode cX9_cutNumber 53 = .ok (.if_icmp .le 7, 3) := by decide +kernel
theorem dX9_cutNumber_56 : decode cX9_cutNumber 56 = .ok (.iconst 1, 1) := by decide +kernel
theorem dX9_cutNumber_57 : decode cX9_cutNumber 57 = .ok (.goto 4, 3) := by decide +kernel
theorem dX9_cutNumber_60 : decode cX9_cutNumber 60 = .ok (.iconst 2, 1) := by decide +kernel
theorem dX9_cutNumber_61 : decode cX9_cutNumber 61 = .ok (.iload_n 2, 1) := by decide +kernel
theorem dX9_cutNumber_62 : decode cX9_cutNumber 62 = .ok (.iload 5, 2) := by decide +kernel
theorem dX9_cutNumber_64 : decode cX9_cutNumber 64 = .ok (.invokevirtual 35, 3) := by decide +kernel
theorem dX9_cutNumber_67 : decode cX9_cutNumber 67 = .ok (.iload 4, 2) := by decide +kernel
theorem dX9_cutNumber_69 : decode cX9_cutNumber 69 = .ok (.ireturn, 1) := by decide +kernel
theorem dX9_put_0 : decode cX9_put 0 = .ok (.aload_n 0, 1) := by decide +kernel
theorem dX9_put_1 : decode cX9_put 1 = .ok (.getfield 21, 3) := by decide +kernel
theorem dX9_put_4 : decode cX9_put 4 = .ok (.ifCond .lt 79, 3) := by decide +kernel
theorem dX9_put_7 : decode cX9_put 7 = .ok (.aload_n 0, 1) := by decide +kernel
theorem dX9_put_8 : decode cX9_put 8 = .ok (.getfield 21, 3) := by decide +kernel
theorem dX9_put_11 : decode cX9_put 11 = .ok (.aload_n 0, 1) := by decide +kernel
theorem dX9_put_12 : decode cX9_put 12 = .ok (.getfield 9, 3) := by decide +kernel
theorem dX9_put_15 : decode cX9_put 15 = .ok (.arraylength, 1) := by decide +kernel
theorem dX9_put_16 : decode cX9_put 16 = .ok (.if_icmp .ge 67, 3) := by decide +kernel
theorem dX9_put_19 : decode cX9_put 19 = .ok (.aload_n 0, 1) := by decide +kernel
theorem dX9_put_20 : decode cX9_put 20 = .ok (.getfield 21, 3) := by decide +kernel
theorem dX9_put_23 : decode cX9_put 23 = .ok (.aload_n 0, 1) := by decide +kernel
theorem dX9_put_24 : decode cX9_put 24 = .ok (.getfield 15, 3) := by decide +kernel
theorem dX9_put_27 : decode cX9_put 27 = .ok (.arraylength, 1) := by decide +kernel
theorem dX9_put_28 : decode cX9_put 28 = .ok (.if_icmp .ge 55, 3) := by decide +kernel
theorem dX9_put_31 : decode cX9_put 31 = .ok (.aload_n 0, 1) := by decide +kernel
theorem dX9_put_32 : decode cX9_put 32 = .ok (.getfield 21, 3) := by decide +kernel
theorem dX9_put_35 : decode cX9_put 35 = .ok (.aload_n 0, 1) := by decide +kernel
theorem dX9_put_36 : decode cX9_put 36 = .ok (.getfield 18, 3) := by decide +kernel
theorem dX9_put_39 : decode cX9_put 39 = .ok (.arraylength, 1) := by decide +kernel
theorem dX9_put_40 : decode cX9_put 40 = .ok (.if_icmp .ge 43, 3) := by decide +kernel
theorem dX9_put_43 : decode cX9_put 43 = .ok (.aload_n 0, 1) := by decide +kernel
theorem dX9_put_44 : decode cX9_put 44 = .ok (.getfield 9, 3) := by decide +kernel
theorem dX9_put_47 : decode cX9_put 47 = .ok (.aload_n 0, 1) := by decide +kernel
theorem dX9_put_48 : decode cX9_put 48 = .ok (.getfield 21, 3) := by decide +kernel
theorem dX9_put_51 : decode cX9_put 51 = .ok (.iload_n 1, 1) := by decide +kernel
theorem dX9_put_52 : decode cX9_put 52 = .ok (.iastore, 1) := by decide +kernel
theorem dX9_put_53 : decode cX9_put 53 = .ok (.aload_n 0, 1) := by decide +kernel
theorem dX9_put_54 : decode cX9_put 54 = .ok (.getfield 15, 3) := by decide +kernel
theorem dX9_put_57 : decode cX9_put 57 = .ok (.aload_n 0, 1) := by decide +kernel
theorem dX9_put_58 : decode cX9_put 58 = .ok (.getfield 21, 3) := by decide +kernel
theorem dX9_put_61 : decode cX9_put 61 = .ok (.iload_n 2, 1) := by decide +kernel
theorem dX9_put_62 : decode cX9_put 62 = .ok (.iastore, 1) := by decide +kernel
theorem dX9_put_63 : decode cX9_put 63 = .ok (.aload_n 0, 1) := by decide +kernel
theorem dX9_put_64 : decode cX9_put 64 = .ok (.getfield 18, 3) := by decide +kernel
theorem dX9_put_67 : decode cX9_put 67 = .ok (.aload_n 0, 1) := by decide +kernel
theorem dX9_put_68 : decode cX9_put 68 = .ok (.getfield 21, 3) := by decide +kernel
theorem dX9_put_71 : decode cX9_put 71 = .ok (.iload_n 3, 1) := by decide +kernel
theorem dX9_put_72 : decode cX9_put 72 = .ok (.iastore, 1) := by decide +kernel
theorem dX9_put_73 : decode cX9_put 73 = .ok (.aload_n 0, 1) := by decide +kernel
theorem dX9_put_74 : decode cX9_put 74 = .ok (.dup, 1) := by decide +kernel
theorem dX9_put_75 : decode cX9_put 75 = .ok (.getfield 21, 3) := by decide +kernel
theorem dX9_put_78 : decode cX9_put 78 = .ok (.iconst 1, 1) := by decide +kernel
theorem dX9_put_79 : decode cX9_put 79 = .ok (.iadd, 1) := by decide +kernel
theorem dX9_put_80 : decode cX9_put 80 = .ok (.putfield 21, 3) := by decide +kernel
theorem dX9_put_83 : decode cX9_put 83 = .ok (.return_, 1) := by decide +kernel
theorem dX9_isLetter_0 : decode cX9_isLetter 0 = .ok (.iload_n 0, 1) := by decide +kernel
theorem dX9_isLetter_1 : decode cX9_isLetter 1 = .ok (.bipush 97, 2) := by decide +kernel
theorem dX9_isLetter_3 : decode cX9_isLetter 3 = .ok (.if_icmp .lt 13, 3) := by decide +kernel
theorem dX9_isLetter_6 : decode cX9_isLetter 6 = .ok (.iload_n 0, 1) := by decide +kernel
theorem dX9_isLetter_7 : decode cX9_isLetter 7 = .ok (.bipush 122, 2) := by decide +kernel
theorem dX9_isLetter_9 : decode cX9_isLetter 9 = .ok (.if_icmp .gt 7, 3) := by decide +kernel
theorem dX9_isLetter_12 : decode cX9_isLetter 12 = .ok (.iconst 1, 1) := by decide +kernel
theorem dX9_isLetter_13 : decode cX9_isLetter 13 = .ok (.goto 4, 3) := by decide +kernel
theorem dX9_isLetter_16 : decode cX9_isLetter 16 = .ok (.iconst 0, 1) := by decide +kernel
theorem dX9_isLetter_17 : decode cX9_isLetter 17 = .ok (.ireturn, 1) := by decide +kernel
theorem dX9_isDigit_0 : decode cX9_isDigit 0 = .ok (.iload_n 0, 1) := by decide +kernel
theorem dX9_isDigit_1 : decode cX9_isDigit 1 = .ok (.bipush 48, 2) := by decide +kernel
theorem dX9_isDigit_3 : decode cX9_isDigit 3 = .ok (.if_icmp .lt 13, 3) := by decide +kernel
theorem dX9_isDigit_6 : decode cX9_isDigit 6 = .ok (.iload_n 0, 1) := by decide +kernel
theorem dX9_isDigit_7 : decode cX9_isDigit 7 = .ok (.bipush 57, 2) := by decide +kernel
theorem dX9_isDigit_9 : decode cX9_isDigit 9 = .ok (.if_icmp .gt 7, 3) := by decide +kernel
theorem dX9_isDigit_12 : decode cX9_isDigit 12 = .ok (.iconst 1, 1) := by decide +kernel
theorem dX9_isDigit_13 : decode cX9_isDigit 13 = .ok (.goto 4, 3) := by decide +kernel
theorem dX9_isDigit_16 : decode cX9_isDigit 16 = .ok (.iconst 0, 1) := by decide +kernel
theorem dX9_isDigit_17 : decode cX9_isDigit 17 = .ok (.ireturn, 1) := by decide +kernel
theorem dX9_wordKind_0 : decode cX9_wordKind 0 = .ok (.aload_n 0, 1) := by decide +kernel
theorem dX9_wordKind_1 : decode cX9_wordKind 1 = .ok (.iload_n 1, 1) := by decide +kernel
theorem dX9_wordKind_2 : decode cX9_wordKind 2 = .ok (.iload_n 2, 1) := by decide +kernel
theorem dX9_wordKind_3 : decode cX9_wordKind 3 = .ok (.ldc 68, 2) := by decide +kernel
theorem dX9_wordKind_5 : decode cX9_wordKind 5 = .ok (.invokestatic 70, 3) := by decide +kernel
theorem dX9_wordKind_8 : decode cX9_wordKind 8 = .ok (.ifCond .eq 5, 3) := by decide +kernel
theorem dX9_wordKind_11 : decode cX9_wordKind 11 = .ok (.iconst 4, 1) := by decide +kernel
theorem dX9_wordKind_12 : decode cX9_wordKind 12 = .ok (.ireturn, 1) := by decide +kernel
theorem dX9_wordKind_13 : decode cX9_wordKind 13 = .ok (.aload_n 0, 1) := by decide +kernel
theorem dX9_wordKind_14 : decode cX9_wordKind 14 = .ok (.iload_n 1, 1) := by decide +kernel
theorem dX9_wordKind_15 : decode cX9_wordKind 15 = .ok (.iload_n 2, 1) := by decide +kernel
theorem dX9_wordKind_16 : decode cX9_wordKind 16 = .ok (.ldc 74, 2) := by decide +kernel
theorem dX9_wordKind_18 : decode cX9_wordKind 18 = .ok (.invokestatic 70, 3) := by decide +kernel
theorem dX9_wordKind_21 : decode cX9_wordKind 21 = .ok (.ifCond .eq 5, 3) := by decide +kernel
theorem dX9_wordKind_24 : decode cX9_wordKind 24 = .ok (.iconst 5, 1) := by decide +kernel
theorem dX9_wordKind_25 : decode cX9_wordKind 25 = .ok (.ireturn, 1) := by decide +kernel
theorem dX9_wordKind_26 : decode cX9_wordKind 26 = .ok (.aload_n 0, 1) := by decide +kernel
theorem dX9_wordKind_27 : decode cX9_wordKind 27 = .ok (.iload_n 1, 1) := by decide +kernel
theorem dX9_wordKind_28 : decode cX9_wordKind 28 = .ok (.iload_n 2, 1) := by decide +kernel
theorem dX9_wordKind_29 : decode cX9_wordKind 29 = .ok (.ldc 76, 2) := by decide +kernel
theorem dX9_wordKind_31 : decode cX9_wordKind 31 = .ok (.invokestatic 70, 3) := by decide +kernel
theorem dX9_wordKind_34 : decode cX9_wordKind 34 = .ok (.ifCond .eq 6, 3) := by decide +kernel
theorem dX9_wordKind_37 : decode cX9_wordKind 37 = .ok (.bipush 6, 2) := by decide +kernel
theorem dX9_wordKind_39 : decode cX9_wordKind 39 = .ok (.ireturn, 1) := by decide +kernel
theorem dX9_wordKind_40 : decode cX9_wordKind 40 = .ok (.aload_n 0, 1) := by decide +kernel
theorem dX9_wordKind_41 : decode cX9_wordKind 41 = .ok (.iload_n 1, 1) := by decide +kernel
theorem dX9_wordKind_42 : decode cX9_wordKind 42 = .ok (.iload_n 2, 1) := by decide +kernel
theorem dX9_wordKind_43 : decode cX9_wordKind 43 = .ok (.ldc 78, 2) := by decide +kernel
theorem dX9_wordKind_45 : decode cX9_wordKind 45 = .ok (.invokestatic 70, 3) := by decide +kernel
theorem dX9_wordKind_48 : decode cX9_wordKind 48 = .ok (.ifCond .eq 6, 3) := by decide +kernel
theorem dX9_wordKind_51 : decode cX9_wordKind 51 = .ok (.bipush 7, 2) := by decide +kernel
theorem dX9_wordKind_53 : decode cX9_wordKind 53 = .ok (.ireturn, 1) := by decide +kernel
theorem dX9_wordKind_54 : decode cX9_wordKind 54 = .ok (.aload_n 0, 1) := by decide +kernel
theorem dX9_wordKind_55 : decode cX9_wordKind 55 = .ok (.iload_n 1, 1) := by decide +kernel
theorem dX9_wordKind_56 : decode cX9_wordKind 56 = .ok (.iload_n 2, 1) := by decide +kernel
theorem dX9_wordKind_57 : decode cX9_wordKind 57 = .ok (.ldc 80, 2) := by decide +kernel
theorem dX9_wordKind_59 : decode cX9_wordKind 59 = .ok (.invokestatic 70, 3) := by decide +kernel
theorem dX9_wordKind_62 : decode cX9_wordKind 62 = .ok (.ifCond .eq 6, 3) := by decide +kernel
theorem dX9_wordKind_65 : decode cX9_wordKind 65 = .ok (.bipush 8, 2) := by decide +kernel
theorem dX9_wordKind_67 : decode cX9_wordKind 67 = .ok (.ireturn, 1) := by decide +kernel
theorem dX9_wordKind_68 : decode cX9_wordKind 68 = .ok (.aload_n 0, 1) := by decide +kernel
theorem dX9_wordKind_69 : decode cX9_wordKind 69 = .ok (.iload_n 1, 1) := by decide +kernel
theorem dX9_wordKind_70 : decode cX9_wordKind 70 = .ok (.iload_n 2, 1) := by decide +kernel
theorem dX9_wordKind_71 : decode cX9_wordKind 71 = .ok (.ldc 82, 2) := by decide +kernel
theorem dX9_wordKind_73 : decode cX9_wordKind 73 = .ok (.invokestatic 70, 3) := by decide +kernel
theorem dX9_wordKind_76 : decode cX9_wordKind 76 = .ok (.ifCond .eq 6, 3) := by decide +kernel
theorem dX9_wordKind_79 : decode cX9_wordKind 79 = .ok (.bipush 9, 2) := by decide +kernel
theorem dX9_wordKind_81 : decode cX9_wordKind 81 = .ok (.ireturn, 1) := by decide +kernel
theorem dX9_wordKind_82 : decode cX9_wordKind 82 = .ok (.aload_n 0, 1) := by decide +kernel
theorem dX9_wordKind_83 : decode cX9_wordKind 83 = .ok (.iload_n 1, 1) := by decide +kernel
theorem dX9_wordKind_84 : decode cX9_wordKind 84 = .ok (.iload_n 2, 1) := by decide +kernel
theorem dX9_wordKind_85 : decode cX9_wordKind 85 = .ok (.ldc 84, 2) := by decide +kernel
theorem dX9_wordKind_87 : decode cX9_wordKind 87 = .ok (.invokestatic 70, 3) := by decide +kernel
theorem dX9_wordKind_90 : decode cX9_wordKind 90 = .ok (.ifCond .eq 6, 3) := by decide +kernel
theorem dX9_wordKind_93 : decode cX9_wordKind 93 = .ok (.bipush 10, 2) := by decide +kernel
theorem dX9_wordKind_95 : decode cX9_wordKind 95 = .ok (.ireturn, 1) := by decide +kernel
theorem dX9_wordKind_96 : decode cX9_wordKind 96 = .ok (.aload_n 0, 1) := by decide +kernel
theorem dX9_wordKind_97 : decode cX9_wordKind 97 = .ok (.iload_n 1, 1) := by decide +kernel
theorem dX9_wordKind_98 : decode cX9_wordKind 98 = .ok (.iload_n 2, 1) := by decide +kernel
theorem dX9_wordKind_99 : decode cX9_wordKind 99 = .ok (.ldc 86, 2) := by decide +kernel
theorem dX9_wordKind_101 : decode cX9_wordKind 101 = .ok (.invokestatic 70, 3) := by decide +kernel
theorem dX9_wordKind_104 : decode cX9_wordKind 104 = .ok (.ifCond .eq 8, 3) := by decide +kernel
theorem dX9_wordKind_107 : decode cX9_wordKind 107 = .ok (.bipush 11, 2) := by decide +kernel
theorem dX9_wordKind_109 : decode cX9_wordKind 109 = .ok (.goto 4, 3) := by decide +kernel
theorem dX9_wordKind_112 : decode cX9_wordKind 112 = .ok (.iconst 3, 1) := by decide +kernel
theorem dX9_wordKind_113 : decode cX9_wordKind 113 = .ok (.ireturn, 1) := by decide +kernel
theorem dX9_isWord_0 : decode cX9_isWord 0 = .ok (.iload_n 2, 1) := by decide +kernel
theorem dX9_isWord_1 : decode cX9_isWord 1 = .ok (.iload_n 1, 1) := by decide +kernel
theorem dX9_isWord_2 : decode cX9_isWord 2 = .ok (.isub, 1) := by decide +kernel
theorem dX9_isWord_3 : decode cX9_isWord 3 = .ok (.aload_n 3, 1) := by decide +kernel
theorem dX9_isWord_4 : decode cX9_isWord 4 = .ok (.invokevirtual 88, 3) := by decide +kernel
theorem dX9_isWord_7 : decode cX9_isWord 7 = .ok (.if_icmp .eq 5, 3) := by decide +kernel
theorem dX9_isWord_10 : decode cX9_isWord 10 = .ok (.iconst 0, 1) := by decide +kernel
theorem dX9_isWord_11 : decode cX9_isWord 11 = .ok (.ireturn, 1) := by decide +kernel
theorem dX9_isWord_12 : decode cX9_isWord 12 = .ok (.iconst 0, 1) := by decide +kernel
theorem dX9_isWord_13 : decode cX9_isWord 13 = .ok (.istore 4, 2) := by decide +kernel
theorem dX9_isWord_15 : decode cX9_isWord 15 = .ok (.iload 4, 2) := by decide +kernel
theorem dX9_isWord_17 : decode cX9_isWord 17 = .ok (.aload_n 3, 1) := by decide +kernel
theorem dX9_isWord_18 : decode cX9_isWord 18 = .ok (.invokevirtual 88, 3) := by decide +kernel
theorem dX9_isWord_21 : decode cX9_isWord 21 = .ok (.if_icmp .ge 28, 3) := by decide +kernel
theorem dX9_isWord_24 : decode cX9_isWord 24 = .ok (.aload_n 0, 1) := by decide +kernel
theorem dX9_isWord_25 : decode cX9_isWord 25 = .ok (.iload_n 1, 1) := by decide +kernel
theorem dX9_isWord_26 : decode cX9_isWord 26 = .ok (.iload 4, 2) := by decide +kernel
theorem dX9_isWord_28 : decode cX9_isWord 28 = .ok (.iadd, 1) := by decide +kernel
theorem dX9_isWord_29 : decode cX9_isWord 29 = .ok (.invokevirtual 39, 3) := by decide +kernel
theorem dX9_isWord_32 : decode cX9_isWord 32 = .ok (.aload_n 3, 1) := by decide +kernel
theorem dX9_isWord_33 : decode cX9_isWord 33 = .ok (.iload 4, 2) := by decide +kernel
theorem dX9_isWord_35 : decode cX9_isWord 35 = .ok (.invokevirtual 92, 3) := by decide +kernel
theorem dX9_isWord_38 : decode cX9_isWord 38 = .ok (.if_icmp .eq 5, 3) := by decide +kernel
theorem dX9_isWord_41 : decode cX9_isWord 41 = .ok (.iconst 0, 1) := by decide +kernel
theorem dX9_isWord_42 : decode cX9_isWord 42 = .ok (.ireturn, 1) := by decide +kernel
theorem dX9_isWord_43 : decode cX9_isWord 43 = .ok (.iinc 4 1, 3) := by decide +kernel
theorem dX9_isWord_46 : decode cX9_isWord 46 = .ok (.goto (-31), 3) := by decide +kernel
theorem dX9_isWord_49 : decode cX9_isWord 49 = .ok (.iconst 1, 1) := by decide +kernel
theorem dX9_isWord_50 : decode cX9_isWord 50 = .ok (.ireturn, 1) := by decide +kernel
end
section
theorem dX10_init_0 : decode cX10_init 0 = .ok (.aload_n 0, 1) := by decide +kernel
theorem dX10_init_1 : decode cX10_init 1 = .ok (.invokespecial 1, 3) := by decide +kernel
theorem dX10_init_4 : decode cX10_init 4 = .ok (.aload_n 0, 1) := by decide +kernel
theorem dX10_init_5 : decode cX10_init 5 = .ok (.bipush 8, 2) := by decide +kernel
theorem dX10_init_7 : decode cX10_init 7 = .ok (.anewarray 9, 3) := by decide +kernel
theorem dX10_init_10 : decode cX10_init 10 = .ok (.putfield 11, 3) := by decide +kernel
theorem dX10_init_13 : decode cX10_init 13 = .ok (.aload_n 0, 1) := by decide +kernel
theorem dX10_init_14 : decode cX10_init 14 = .ok (.bipush 30, 2) := by decide +kernel
theorem dX10_init_16 : decode cX10_init 16 = .ok (.anewarray 15, 3) := by decide +kernel
theorem dX10_init_19 : decode cX10_init 19 = .ok (.putfield 17, 3) := by decide +kernel
theorem dX10_init_22 : decode cX10_init 22 = .ok (.aload_n 0, 1) := by decide +kernel
theorem dX10_init_23 : decode cX10_init 23 = .ok (.sipush 200, 3) := by decide +kernel
theorem dX10_init_26 : decode cX10_init 26 = .ok (.anewarray 21, 3) := by decide +kernel
theorem dX10_init_29 : decode cX10_init 29 = .ok (.putfield 23, 3) := by decide +kernel
theorem dX10_init_32 : decode cX10_init 32 = .ok (.aload_n 0, 1) := by decide +kernel
theorem dX10_init_33 : decode cX10_init 33 = .ok (.new 27, 3) := by decide +kernel
theorem dX10_init_36 : decode cX10_init 36 = .ok (.dup, 1) := by decide +kernel
theorem dX10_init_37 : decode cX10_init 37 = .ok (.invokespecial 29, 3) := by decide +kernel
theorem dX10_init_40 : decode cX10_init 40 = .ok (.putfield 30, 3) := by decide +kernel
theorem dX10_init_43 : decode cX10_init 43 = .ok (.aload_n 0, 1) := by decide +kernel
theorem dX10_init_44 : decode cX10_init 44 = .ok (.new 34, 3) := by decide +kernel
theorem dX10_init_47 : decode cX10_init 47 = .ok (.dup, 1) := by decide +kernel
theorem dX10_init_48 : decode cX10_init 48 = .ok (.invokespecial 36, 3) := by decide +kernel
theorem dX10_init_51 : decode cX10_init 51 = .ok (.putfield 37, 3) := by decide +kernel
theorem dX10_init_54 : decode cX10_init 54 = .ok (.aload_n 0, 1) := by decide +kernel
theorem dX10_init_55 : decode cX10_init 55 = .ok (.new 41, 3) := by decide +kernel
theorem dX10_init_58 : decode cX10_init 58 = .ok (.dup, 1) := by decide +kernel
theorem dX10_init_59 : decode cX10_init 59 = .ok (.aload_n 0, 1) := by decide +kernel
theorem dX10_init_60 : decode cX10_init 60 = .ok (.getfield 37, 3) := by decide +kernel
theorem dX10_init_63 : decode cX10_init 63 = .ok (.invokespecial 43, 3) := by decide +kernel
theorem dX10_init_66 : decode cX10_init 66 = .ok (.putfield 46, 3) := by decide +kernel
theorem dX10_init_69 : decode cX10_init 69 = .ok (.aload_n 0, 1) := by decide +kernel
theorem dX10_init_70 : decode cX10_init 70 = .ok (.new 50, 3) := by decide +kernel
theorem dX10_init_73 : decode cX10_init 73 = .ok (.dup, 1) := by decide +kernel
theorem dX10_init_74 : decode cX10_init 74 = .ok (.invokespecial 52, 3) := by decide +kernel
theorem dX10_init_77 : decode cX10_init 77 = .ok (.putfield 53, 3) := by decide +kernel
theorem dX10_init_80 : decode cX10_init 80 = .ok (.aload_n 0, 1) := by decide +kernel
theorem dX10_init_81 : decode cX10_init 81 = .ok (.iconst 0, 1) := by decide +kernel
theorem dX10_init_82 : decode cX10_init 82 = .ok (.putfield 57, 3) := by decide +kernel
theorem dX10_init_85 : decode cX10_init 85 = .ok (.aload_n 0, 1) := by decide +kernel
theorem dX10_init_86 : decode cX10_init 86 = .ok (.iconst 0, 1) := by decide +kernel
theorem dX10_init_87 : decode cX10_init 87 = .ok (.putfield 61, 3) := by decide +kernel
theorem dX10_init_90 : decode cX10_init 90 = .ok (.aload_n 0, 1) := by decide +kernel
theorem dX10_init_91 : decode cX10_init 91 = .ok (.iconst 0, 1) := by decide +kernel
theorem dX10_init_92 : decode cX10_init 92 = .ok (.putfield 64, 3) := by decide +kernel
theorem dX10_init_95 : decode cX10_init 95 = .ok (.aload_n 0, 1) := by decide +kernel
theorem dX10_init_96 : decode cX10_init 96 = .ok (.iconst 0, 1) := by decide +kernel
theorem dX10_init_97 : decode cX10_init 97 = .ok (.putfield 67, 3) := by decide +kernel
theorem dX10_init_100 : decode cX10_init 100 = .ok (.aload_n 0, 1) := by decide +kernel
theorem dX10_init_101 : decode cX10_init 101 = .ok (.iconst 0, 1) := by decide +kernel
theorem dX10_init_102 : decode cX10_init 102 = .ok (.putfield 70, 3) := by decide +kernel
theorem dX10_init_105 : decode cX10_init 105 = .ok (.aload_n 0, 1) := by decide +kernel
theorem dX10_init_106 : decode cX10_init 106 = .ok (.iconst 0, 1) := by decide +kernel
theorem dX10_init_107 : decode cX10_init 107 = .ok (.putfield 73, 3) := by decide +kernel
theorem dX10_init_110 : decode cX10_init 110 = .ok (.return_, 1) := by decide +kernel
theorem dX10_port_0 : decode cX10_port 0 = .ok (.iload_n 1, 1) := by decide +kernel
theorem dX10_port_1 : decode cX10_port 1 = .ok (.iconst 1, 1) := by decide +kernel
theorem dX10_port_2 : decode cX10_port 2 = .ok (.if_icmp .lt 9, 3) := by decide +kernel
theorem dX10_port_5 : decode cX10_port 5 = .ok (.iload_n 1, 1) := by decide +kernel
theorem dX10_port_6 : decode cX10_port 6 = .ok (.bipush 60, 2) := by decide +kernel
theorem dX10_port_8 : decode cX10_port 8 = .ok (.if_icmp .le 9, 3) := by decide +kernel
theorem dX10_port_11 : decode cX10_port 11 = .ok (.aload_n 0, 1) := by decide +kernel
theorem dX10_port_12 : decode cX10_port 12 = .ok (.iconst 2, 1) := by decide +kernel
theorem dX10_port_13 : decode cX10_port 13 = .ok (.invokevirtual 76, 3) := by decide +kernel
theorem dX10_port_16 : decode cX10_port 16 = .ok (.ireturn, 1) := by decide +kernel
theorem dX10_port_17 : decode cX10_port 17 = .ok (.aload_n 0, 1) := by decide +kernel
theorem dX10_port_18 : decode cX10_port 18 = .ok (.getfield 57, 3) := by decide +kernel
theorem dX10_port_21 : decode cX10_port 21 = .ok (.aload_n 0, 1) := by decide +kernel
theorem dX10_port_22 : decode cX10_port 22 = .ok (.getfield 11, 3) := by decide +kernel
theorem dX10_port_25 : decode cX10_port 25 = .ok (.arraylength, 1) := by decide +kernel
theorem dX10_port_26 : decode cX10_port 26 = .ok (.if_icmp .lt 9, 3) := by decide +kernel
theorem dX10_port_29 : decode cX10_port 29 = .ok (.aload_n 0, 1) := by decide +kernel
theorem dX10_port_30 : decode cX10_port 30 = .ok (.iconst 3, 1) := by decide +kernel
theorem dX10_port_31 : decode cX10_port 31 = .ok (.invokevirtual 76, 3) := by decide +kernel
theorem dX10_port_34 : decode cX10_port 34 = .ok (.ireturn, 1) := by decide +kernel
theorem dX10_port_35 : decode cX10_port 35 = .ok (.new 9, 3) := by decide +kernel
theorem dX10_port_38 : decode cX10_port 38 = .ok (.dup, 1) := by decide +kernel
theorem dX10_port_39 : decode cX10_port 39 = .ok (.iload_n 1, 1) := by decide +kernel
theorem dX10_port_40 : decode cX10_port 40 = .ok (.aload_n 0, 1) := by decide +kernel
theorem dX10_port_41 : decode cX10_port 41 = .ok (.getfield 67, 3) := by decide +kernel
theorem dX10_port_44 : decode cX10_port 44 = .ok (.invokespecial 80, 3) := by decide +kernel
theorem dX10_port_47 : decode cX10_port 47 = .ok (.astore_n 2, 1) := by decide +kernel
theorem dX10_port_48 : decode cX10_port 48 = .ok (.iconst 0, 1) := by decide +kernel
theorem dX10_port_49 : decode cX10_port 49 = .ok (.istore_n 3, 1) := by decide +kernel
theorem dX10_port_50 : decode cX10_port 50 = .ok (.iload_n 3, 1) := by decide +kernel
theorem dX10_port_51 : decode cX10_port 51 = .ok (.aload_n 0, 1) := by decide +kernel
theorem dX10_port_52 : decode cX10_port 52 = .ok (.getfield 61, 3) := by decide +kernel
theorem dX10_port_55 : decode cX10_port 55 = .ok (.if_icmp .ge 17, 3) := by decide +kernel
theorem dX10_port_58 : decode cX10_port 58 = .ok (.aload_n 2, 1) := by decide +kernel
theorem dX10_port_59 : decode cX10_port 59 = .ok (.aload_n 0, 1) := by decide +kernel
theorem dX10_port_60 : decode cX10_port 60 = .ok (.getfield 67, 3) := by decide +kernel
theorem dX10_port_63 : decode cX10_port 63 = .ok (.invokevirtual 83, 3) := by decide +kernel
theorem dX10_port_66 : decode cX10_port 66 = .ok (.iinc 3 1, 3) := by decide +kernel
theorem dX10_port_69 : decode cX10_port 69 = .ok (.goto (-19), 3) := by decide +kernel
theorem dX10_port_72 : decode cX10_port 72 = .ok (.aload_n 0, 1) := by decide +kernel
theorem dX10_port_73 : decode cX10_port 73 = .ok (.getfield 11, 3) := by decide +kernel
theorem dX10_port_76 : decode cX10_port 76 = .ok (.aload_n 0, 1) := by decide +kernel
theorem dX10_port_77 : decode cX10_port 77 = .ok (.getfield 57, 3) := by decide +kernel
theorem dX10_port_80 : decode cX10_port 80 = .ok (.aload_n 2, 1) := by decide +kernel
theorem dX10_port_81 : decode cX10_port 81 = .ok (.aastore, 1) := by decide +kernel
theorem dX10_port_82 : decode cX10_port 82 = .ok (.aload_n 0, 1) := by decide +kernel
theorem dX10_port_83 : decode cX10_port 83 = .ok (.dup, 1) := by decide +kernel
theorem dX10_port_84 : decode cX10_port 84 = .ok (.getfield 57, 3) := by decide +kernel
theorem dX10_port_87 : decode cX10_port 87 = .ok (.iconst 1, 1) := by decide +kernel
theorem dX10_port_88 : decode cX10_port 88 = .ok (.iadd, 1) := by decide +kernel
theorem dX10_port_89 : decode cX10_port 89 = .ok (.putfield 57, 3) := by decide +kernel
theorem dX10_port_92 : decode cX10_port 92 = .ok (.aload_n 0, 1) := by decide +kernel
theorem dX10_port_93 : decode cX10_port 93 = .ok (.aload_n 0, 1) := by decide +kernel
theorem dX10_port_94 : decode cX10_port 94 = .ok (.getfield 57, 3) := by decide +kernel
theorem dX10_port_97 : decode cX10_port 97 = .ok (.iconst 1, 1) := by decide +kernel
theorem dX10_port_98 : decode cX10_port 98 = .ok (.isub, 1) := by decide +kernel
theorem dX10_port_99 : decode cX10_port 99 = .ok (.invokevirtual 87, 3) := by decide +kernel
theorem dX10_port_102 : decode cX10_port 102 = .ok (.ireturn, 1) := by decide +kernel
theorem dX10_feed_0 : decode cX10_feed 0 = .ok (.aload_n 0, 1) := by decide +kernel
theorem dX10_feed_1 : decode cX10_feed 1 = .ok (.getfield 30, 3) := by decide +kernel
theorem dX10_feed_4 : decode cX10_feed 4 = .ok (.getfield 90, 3) := by decide +kernel
theorem dX10_feed_7 : decode cX10_feed 7 = .ok (.bipush 20, 2) := by decide +kernel
theorem dX10_feed_9 : decode cX10_feed 9 = .ok (.iadd, 1) := by decide +kernel
theorem dX10_feed_10 : decode cX10_feed 10 = .ok (.sipush 300, 3) := by decide +kernel
theorem dX10_feed_13 : decode cX10_feed 13 = .ok (.if_icmp .le 5, 3) := by decide +kernel
theorem dX10_feed_16 : decode cX10_feed 16 = .ok (.iconst (-1), 1) := by decide +kernel
theorem dX10_feed_17 : decode cX10_feed 17 = .ok (.ireturn, 1) := by decide +kernel
theorem dX10_feed_18 : decode cX10_feed 18 = .ok (.aload_n 0, 1) := by decide +kernel
theorem dX10_feed_19 : decode cX10_feed 19 = .ok (.getfield 30, 3) := by decide +kernel
theorem dX10_feed_22 : decode cX10_feed 22 = .ok (.iload_n 1, 1) := by decide +kernel
theorem dX10_feed_23 : decode cX10_feed 23 = .ok (.invokevirtual 93, 3) := by decide +kernel
theorem dX10_feed_26 : decode cX10_feed 26 = .ok (.aload_n 0, 1) := by decide +kernel
theorem dX10_feed_27 : decode cX10_feed 27 = .ok (.getfield 30, 3) := by decide +kernel
theorem dX10_feed_30 : decode cX10_feed 30 = .ok (.iload_n 2, 1) := by decide +kernel
theorem dX10_feed_31 : decode cX10_feed 31 = .ok (.invokevirtual 93, 3) := by decide +kernel
theorem dX10_feed_34 : decode cX10_feed 34 = .ok (.aload_n 0, 1) := by decide +kernel
theorem dX10_feed_35 : decode cX10_feed 35 = .ok (.getfield 30, 3) := by decide +kernel
theorem dX10_feed_38 : decode cX10_feed 38 = .ok (.iload_n 3, 1) := by decide +kernel
theorem dX10_feed_39 : decode cX10_feed 39 = .ok (.invokevirtual 93, 3) := by decide +kernel
theorem dX10_feed_42 : decode cX10_feed 42 = .ok (.aload_n 0, 1) := by decide +kernel
theorem dX10_feed_43 : decode cX10_feed 43 = .ok (.getfield 30, 3) := by decide +kernel
theorem dX10_feed_46 : decode cX10_feed 46 = .ok (.iload 4, 2) := by decide +kernel
theorem dX10_feed_48 : decode cX10_feed 48 = .ok (.invokevirtual 93, 3) := by decide +kernel
theorem dX10_feed_51 : decode cX10_feed 51 = .ok (.aload_n 0, 1) := by decide +kernel
theorem dX10_feed_52 : decode cX10_feed 52 = .ok (.getfield 30, 3) := by decide +kernel
theorem dX10_feed_55 : decode cX10_feed 55 = .ok (.iload 5, 2) := by decide +kernel
theorem dX10_feed_57 : decode cX10_feed 57 = .ok (.invokevirtual 93, 3) := by decide +kernel
theorem dX10_feed_60 : decode cX10_feed 60 = .ok (.aload_n 0, 1) := by decide +kernel
theorem dX10_feed_61 : decode cX10_feed 61 = .ok (.getfield 30, 3) := by decide +kernel
theorem dX10_feed_64 : decode cX10_feed 64 = .ok (.getfield 90, 3) := by decide +kernel
theorem dX10_feed_67 : decode cX10_feed 67 = .ok (.ireturn, 1) := by decide +kernel
theorem dX10_tariff_0 : decode cX10_tariff 0 = .ok (.iload_n 1, 1) := by decide +kernel
theorem dX10_tariff_1 : decode cX10_tariff 1 = .ok (.ifCond .lt 14, 3) := by decide +kernel
theorem dX10_tariff_4 : decode cX10_tariff 4 = .ok (.iload_n 1, 1) := by decide +kernel
theorem dX10_tariff_5 : decode cX10_tariff 5 = .ok (.aload_n 0, 1) := by decide +kernel
theorem dX10_tariff_6 : decode cX10_tariff 6 = .ok (.getfield 30, 3) := by decide +kernel
theorem dX10_tariff_9 : decode cX10_tariff 9 = .ok (.getfield 90, 3) := by decide +kernel
theorem dX10_tariff_12 : decode cX10_tariff 12 = .ok (.if_icmp .le 9, 3) := by decide +kernel
theorem dX10_tariff_15 : decode cX10_tariff 15 = .ok (.aload_n 0, 1) := by decide +kernel
theorem dX10_tariff_16 : decode cX10_tariff 16 = .ok (.iconst 2, 1) := by decide +kernel
theorem dX10_tariff_17 : decode cX10_tariff 17 = .ok (.invokevirtual 76, 3) := by decide +kernel
theorem dX10_tariff_20 : decode cX10_tariff 20 = .ok (.ireturn, 1) := by decide +kernel
theorem dX10_tariff_21 : decode cX10_tariff 21 = .ok (.aload_n 0, 1) := by decide +kernel
theorem dX10_tariff_22 : decode cX10_tariff 22 = .ok (.getfield 37, 3) := by decide +kernel
theorem dX10_tariff_25 : decode cX10_tariff 25 = .ok (.aload_n 0, 1) := by decide +kernel
theorem dX10_tariff_26 : decode cX10_tariff 26 = .ok (.getfield 30, 3) := by decide +kernel
theorem dX10_tariff_29 : decode cX10_tariff 29 = .ok (.iload_n 1, 1) := by decide +kernel
theorem dX10_tariff_30 : decode cX10_tariff 30 = .ok (.invokevirtual 96, 3) := by decide +kernel
theorem dX10_tariff_33 : decode cX10_tariff 33 = .ok (.aload_n 0, 1) := by decide +kernel
theorem dX10_tariff_34 : decode cX10_tariff 34 = .ok (.getfield 46, 3) := by decide +kernel
theorem dX10_tariff_37 : decode cX10_tariff 37 = .ok (.invokevirtual 100, 3) := by decide +kernel
theorem dX10_tariff_40 : decode cX10_tariff 40 = .ok (.astore_n 2, 1) := by decide +kernel
theorem dX10_tariff_41 : decode cX10_tariff 41 = .ok (.aload_n 0, 1) := by decide +kernel
theorem dX10_tariff_42 : decode cX10_tariff 42 = .ok (.getfield 30, 3) := by decide +kernel
theorem dX10_tariff_45 : decode cX10_tariff 45 = .ok (.invokevirtual 104, 3) := by decide +kernel
theorem dX10_tariff_48 : decode cX10_tariff 48 = .ok (.aload_n 0, 1) := by decide +kernel
theorem dX10_tariff_49 : decode cX10_tariff 49 = .ok (.aload_n 0, 1) := by decide +kernel
theorem dX10_tariff_50 : decode cX10_tariff 50 = .ok (.getfield 46, 3) := by decide +kernel
theorem dX10_tariff_53 : decode cX10_tariff 53 = .ok (.getfield 107, 3) := by decide +kernel
theorem dX10_tariff_56 : decode cX10_tariff 56 = .ok (.putfield 73, 3) := by decide +kernel
theorem dX10_tariff_59 : decode cX10_tariff 59 = .ok (.aload_n 2, 1) := by decide +kernel
theorem dX10_tariff_60 : decode cX10_tariff 60 = .ok (.ifnonnull 9, 3) := by decide +kernel
theorem dX10_tariff_63 : decode cX10_tariff 63 = .ok (.aload_n 0, 1) := by decide +kernel
theorem dX10_tariff_64 : decode cX10_tariff 64 = .ok (.iconst 4, 1) := by decide +kernel
theorem dX10_tariff_65 : decode cX10_tariff 65 = .ok (.invokevirtual 76, 3) := by decide +kernel
theorem dX10_tariff_68 : decode cX10_tariff 68 = .ok (.ireturn, 1) := by decide +kernel
theorem dX10_tariff_69 : decode cX10_tariff 69 = .ok (.aload_n 0, 1) := by decide +kernel
theorem dX10_tariff_70 : decode cX10_tariff 70 = .ok (.getfield 61, 3) := by decide +kernel
theorem dX10_tariff_73 : decode cX10_tariff 73 = .ok (.aload_n 0, 1) := by decide +kernel
theorem dX10_tariff_74 : decode cX10_tariff 74 = .ok (.getfield 17, 3) := by decide +kernel
theorem dX10_tariff_77 : decode cX10_tariff 77 = .ok (.arraylength, 1) := by decide +kernel
theorem dX10_tariff_78 : decode cX10_tariff 78 = .ok (.if_icmp .lt 9, 3) := by decide +kernel
theorem dX10_tariff_81 : decode cX10_tariff 81 = .ok (.aload_n 0, 1) := by decide +kernel
theorem dX10_tariff_82 : decode cX10_tariff 82 = .ok (.iconst 3, 1) := by decide +kernel
theorem dX10_tariff_83 : decode cX10_tariff 83 = .ok (.invokevirtual 76, 3) := by decide +kernel
theorem dX10_tariff_86 : decode cX10_tariff 86 = .ok (.ireturn, 1) := by decide +kernel
theorem dX10_tariff_87 : decode cX10_tariff 87 = .ok (.aload_n 0, 1) := by decide +kernel
theorem dX10_tariff_88 : decode cX10_tariff 88 = .ok (.getfield 17, 3) := by decide +kernel
theorem dX10_tariff_91 : decode cX10_tariff 91 = .ok (.aload_n 0, 1) := by decide +kernel
theorem dX10_tariff_92 : decode cX10_tariff 92 = .ok (.getfield 61, 3) := by decide +kernel
theorem dX10_tariff_95 : decode cX10_tariff 95 = .ok (.new 15, 3) := by decide +kernel
theorem dX10_tariff_98 : decode cX10_tariff 98 = .ok (.dup, 1) := by decide +kernel
theorem dX10_tariff_99 : decode cX10_tariff 99 = .ok (.aload_n 0, 1) := by decide +kernel
theorem dX10_tariff_100 : decode cX10_tariff 100 = .ok (.getfield 67, 3) := by decide +kernel
theorem dX10_tariff_103 : decode cX10_tariff 103 = .ok (.aload_n 2, 1) := by decide +kernel
theorem dX10_tariff_104 : decode cX10_tariff 104 = .ok (.invokespecial 110, 3) := by decide +kernel
theorem dX10_tariff_107 : decode cX10_tariff 107 = .ok (.aastore, 1) := by decide +kernel
theorem dX10_tariff_108 : decode cX10_tariff 108 = .ok (.aload_n 0, 1) := by decide +kernel
theorem dX10_tariff_109 : decode cX10_tariff 109 = .ok (.dup, 1) := by decide +kernel
theorem dX10_tariff_110 : decode cX10_tariff 110 = .ok (.getfield 61, 3) := by decide +kernel
theorem dX10_tariff_113 : decode cX10_tariff 113 = .ok (.iconst 1, 1) := by decide +kernel
theorem dX10_tariff_114 : decode cX10_tariff 114 = .ok (.iadd, 1) := by decide +kernel
theorem dX10_tariff_115 : decode cX10_tariff 115 = .ok (.putfield 61, 3) := by decide +kernel
theorem dX10_tariff_118 : decode cX10_tariff 118 = .ok (.aload_n 0, 1) := by decide +kernel
theorem dX10_tariff_119 : decode cX10_tariff 119 = .ok (.invokevirtual 113, 3) := by decide +kernel
theorem dX10_tariff_122 : decode cX10_tariff 122 = .ok (.aload_n 0, 1) := by decide +kernel
theorem dX10_tariff_123 : decode cX10_tariff 123 = .ok (.aload_n 0, 1) := by decide +kernel
theorem dX10_tariff_124 : decode cX10_tariff 124 = .ok (.getfield 61, 3) := by decide +kernel
theorem dX10_tariff_127 : decode cX10_tariff 127 = .ok (.iconst 1, 1) := by decide +kernel
theorem dX10_tariff_128 : decode cX10_tariff 128 = .ok (.isub, 1) := by decide +kernel
theorem dX10_tariff_129 : decode cX10_tariff 129 = .ok (.invokevirtual 87, 3) := by decide +kernel
theorem dX10_tariff_132 : decode cX10_tariff 132 = .ok (.ireturn, 1) := by decide +kernel
theorem dX10_fault_0 : decode cX10_fault 0 = .ok (.aload_n 0, 1) := by decide +kernel
theorem dX10_fault_1 : decode cX10_fault 1 = .ok (.getfield 73, 3) := by decide +kernel
theorem dX10_fault_4 : decode cX10_fault 4 = .ok (.ireturn, 1) := by decide +kernel
theorem dX10_where_0 : decode cX10_where 0 = .ok (.aload_n 0, 1) := by decide +kernel
theorem dX10_where_1 : decode cX10_where 1 = .ok (.getfield 70, 3) := by decide +kernel
theorem dX10_where_4 : decode cX10_where 4 = .ok (.iconst 4, 1) := by decide +kernel
theorem dX10_where_5 : decode cX10_where 5 = .ok (.if_icmp .ne 13, 3) := by decide +kernel
theorem dX10_where_8 : decode cX10_where 8 = .ok (.aload_n 0, 1) := by decide +kernel
theorem dX10_where_9 : decode cX10_where 9 = .ok (.getfield 46, 3) := by decide +kernel
theorem dX10_where_12 : decode cX10_where 12 = .ok (.getfield 116, 3) := by decide +kernel
theorem dX10_where_15 : decode cX10_where 15 = .ok (.goto 4, 3) := by decide +kernel
theorem dX10_where_18 : decode cX10_where 18 = .ok (.iconst (-1), 1) := by decide +kernel
theorem dX10_where_19 : decode cX10_where 19 = .ok (.ireturn, 1) := by decide +kernel
theorem dX10_lost_0 : decode cX10_lost 0 = .ok (.aload_n 0, 1) := by decide +kernel
theorem dX10_lost_1 : decode cX10_lost 1 = .ok (.iload_n 1, 1) := by decide +kernel
theorem dX10_lost_2 : decode cX10_lost 2 = .ok (.invokevirtual 119, 3) := by decide +kernel
theorem dX10_lost_5 : decode cX10_lost 5 = .ok (.astore_n 3, 1) := by decide +kernel
theorem dX10_lost_6 : decode cX10_lost 6 = .ok (.aload_n 3, 1) := by decide +kernel
theorem dX10_lost_7 : decode cX10_lost 7 = .ok (.ifnull 11, 3) := by decide +kernel
theorem dX10_lost_10 : decode cX10_lost 10 = .ok (.aload_n 3, 1) := by decide +kernel
theorem dX10_lost_11 : decode cX10_lost 11 = .ok (.iload_n 2, 1) := by decide +kernel
theorem dX10_lost_12 : decode cX10_lost 12 = .ok (.invokevirtual 123, 3) := by decide +kernel
theorem dX10_lost_15 : decode cX10_lost 15 = .ok (.ifCond .ne 11, 3) := by decide +kernel
theorem dX10_lost_18 : decode cX10_lost 18 = .ok (.aload_n 0, 1) := by decide +kernel
theorem dX10_lost_19 : decode cX10_lost 19 = .ok (.iconst 1, 1) := by decide +kernel
theorem dX10_lost_20 : decode cX10_lost 20 = .ok (.invokevirtual 76, 3) := by decide +kernel
theorem dX10_lost_23 : decode cX10_lost 23 = .ok (.pop, 1) := by decide +kernel
theorem dX10_lost_24 : decode cX10_lost 24 = .ok (.iconst 0, 1) := by decide +kernel
theorem dX10_lost_25 : decode cX10_lost 25 = .ok (.ireturn, 1) := by decide +kernel
theorem dX10_lost_26 : decode cX10_lost 26 = .ok (.aload_n 3, 1) := by decide +kernel
theorem dX10_lost_27 : decode cX10_lost 27 = .ok (.iload_n 2, 1) := by decide +kernel
theorem dX10_lost_28 : decode cX10_lost 28 = .ok (.aload_n 0, 1) := by decide +kernel
theorem dX10_lost_29 : decode cX10_lost 29 = .ok (.getfield 67, 3) := by decide +kernel
theorem dX10_lost_32 : decode cX10_lost 32 = .ok (.invokevirtual 127, 3) := by decide +kernel
theorem dX10_lost_35 : decode cX10_lost 35 = .ok (.ifCond .ne 12, 3) := by decide +kernel
theorem dX10_lost_38 : decode cX10_lost 38 = .ok (.aload_n 0, 1) := by decide +kernel
theorem dX10_lost_39 : decode cX10_lost 39 = .ok (.bipush 7, 2) := by decide +kernel
theorem dX10_lost_41 : decode cX10_lost 41 = .ok (.invokevirtual 76, 3) := by decide +kernel
theorem dX10_lost_44 : decode cX10_lost 44 = .ok (.pop, 1) := by decide +kernel
theorem dX10_lost_45 : decode cX10_lost 45 = .ok (.iconst 0, 1) := by decide +kernel
theorem dX10_lost_46 : decode cX10_lost 46 = .ok (.ireturn, 1) := by decide +kernel
theorem dX10_lost_47 : decode cX10_lost 47 = .ok (.aload_n 0, 1) := by decide +kernel
theorem dX10_lost_48 : decode cX10_lost 48 = .ok (.iconst 0, 1) := by decide +kernel
theorem dX10_lost_49 : decode cX10_lost 49 = .ok (.invokevirtual 87, 3) := by decide +kernel
theorem dX10_lost_52 : decode cX10_lost 52 = .ok (.pop, 1) := by decide +kernel
theorem dX10_lost_53 : decode cX10_lost 53 = .ok (.iconst 1, 1) := by decide +kernel
theorem dX10_lost_54 : decode cX10_lost 54 = .ok (.ireturn, 1) := by decide +kernel
theorem dX10_pass_0 : decode cX10_pass 0 = .ok (.iload_n 1, 1) := by decide +kernel
theorem dX10_pass_1 : decode cX10_pass 1 = .ok (.iconst 1, 1) := by decide +kernel
theorem dX10_pass_2 : decode cX10_pass 2 = .ok (.if_icmp .lt 22, 3) := by decide +kernel
theorem dX10_pass_5 : decode cX10_pass 5 = .ok (.iload_n 1, 1) := by decide +kernel
theorem dX10_pass_6 : decode cX10_pass 6 = .ok (.sipush 400, 3) := by decide +kernel
theorem dX10_pass_9 : decode cX10_pass 9 = .ok (.if_icmp .gt 15, 3) := by decide +kernel
theorem dX10_pass_12 : decode cX10_pass 12 = .ok (.iload_n 1, 1) := by decide +kernel
theorem dX10_pass_13 : decode cX10_pass 13 = .ok (.sipush 10000, 3) := by decide +kernel
theorem dX10_pass_16 : decode cX10_pass 16 = .ok (.aload_n 0, 1) := by decide +kernel
theorem dX10_pass_17 : decode cX10_pass 17 = .ok (.getfield 67, 3) := by decide +kernel
theorem dX10_pass_20 : decode cX10_pass 20 = .ok (.isub, 1) := by decide +kernel
theorem dX10_pass_21 : decode cX10_pass 21 = .ok (.if_icmp .le 9, 3) := by decide +kernel
theorem dX10_pass_24 : decode cX10_pass 24 = .ok (.aload_n 0, 1) := by decide +kernel
theorem dX10_pass_25 : decode cX10_pass 25 = .ok (.iconst 2, 1) := by decide +kernel
theorem dX10_pass_26 : decode cX10_pass 26 = .ok (.invokevirtual 76, 3) := by decide +kernel
theorem dX10_pass_29 : decode cX10_pass 29 = .ok (.ireturn, 1) := by decide +kernel
theorem dX10_pass_30 : decode cX10_pass 30 = .ok (.aload_n 0, 1) := by decide +kernel
theorem dX10_pass_31 : decode cX10_pass 31 = .ok (.dup, 1) := by decide +kernel
theorem dX10_pass_32 : decode cX10_pass 32 = .ok (.getfield 67, 3) := by decide +kernel
theorem dX10_pass_35 : decode cX10_pass 35 = .ok (.iload_n 1, 1) := by decide +kernel
theorem dX10_pass_36 : decode cX10_pass 36 = .ok (.iadd, 1) := by decide +kernel
theorem dX10_pass_37 : decode cX10_pass 37 = .ok (.putfield 67, 3) := by decide +kernel
theorem dX10_pass_40 : decode cX10_pass 40 = .ok (.aload_n 0, 1) := by decide +kernel
theorem dX10_pass_41 : decode cX10_pass 41 = .ok (.aload_n 0, 1) := by decide +kernel
theorem dX10_pass_42 : decode cX10_pass 42 = .ok (.getfield 67, 3) := by decide +kernel
theorem dX10_pass_45 : decode cX10_pass 45 = .ok (.invokevirtual 87, 3) := by decide +kernel
theorem dX10_pass_48 : decode cX10_pass 48 = .ok (.ireturn, 1) := by decide +kernel
theorem dX10_force_0 : decode cX10_force 0 = .ok (.aload_n 0, 1) := by decide +kernel
theorem dX10_force_1 : decode cX10_force 1 = .ok (.iload_n 1, 1) := by decide +kernel
theorem dX10_force_2 : decode cX10_force 2 = .ok (.invokevirtual 119, 3) := by decide +kernel
theorem dX10_force_5 : decode cX10_force 5 = .ok (.astore_n 2, 1) := by decide +kernel
theorem dX10_force_6 : decode cX10_force 6 = .ok (.aload_n 2, 1) := by decide +kernel
theorem dX10_force_7 : decode cX10_force 7 = .ok (.ifnonnull 7, 3) := by decide +kernel
theorem dX10_force_10 : decode cX10_force 10 = .ok (.iconst (-1), 1) := by decide +kernel
theorem dX10_force_11 : decode cX10_force 11 = .ok (.goto 11, 3) := by decide +kernel
theorem dX10_force_14 : decode cX10_force 14 = .ok (.aload_n 2, 1) := by decide +kernel
theorem dX10_force_15 : decode cX10_force 15 = .ok (.aload_n 0, 1) := by decide +kernel
theorem dX10_force_16 : decode cX10_force 16 = .ok (.getfield 67, 3) := by decide +kernel
theorem dX10_force_19 : decode cX10_force 19 = .ok (.invokevirtual 131, 3) := by decide +kernel
theorem dX10_force_22 : decode cX10_force 22 = .ok (.ireturn, 1) := by decide +kernel
theorem dX10_came_0 : decode cX10_came 0 = .ok (.aload_n 0, 1) := by decide +kernel
theorem dX10_came_1 : decode cX10_came 1 = .ok (.iload_n 1, 1) := by decide +kernel
theorem dX10_came_2 : decode cX10_came 2 = .ok (.invokevirtual 119, 3) := by decide +kernel
theorem dX10_came_5 : decode cX10_came 5 = .ok (.astore_n 3, 1) := by decide +kernel
theorem dX10_came_6 : decode cX10_came 6 = .ok (.aload_n 3, 1) := by decide +kernel
theorem dX10_came_7 : decode cX10_came 7 = .ok (.ifnull 11, 3) := by decide +kernel
theorem dX10_came_10 : decode cX10_came 10 = .ok (.aload_n 3, 1) := by decide +kernel
theorem dX10_came_11 : decode cX10_came 11 = .ok (.iload_n 2, 1) := by decide +kernel
theorem dX10_came_12 : decode cX10_came 12 = .ok (.invokevirtual 123, 3) := by decide +kernel
theorem dX10_came_15 : decode cX10_came 15 = .ok (.ifCond .ne 5, 3) := by decide +kernel
theorem dX10_came_18 : decode cX10_came 18 = .ok (.iconst (-1), 1) := by decide +kernel
theorem dX10_came_19 : decode cX10_came 19 = .ok (.ireturn, 1) := by decide +kernel
theorem dX10_came_20 : decode cX10_came 20 = .ok (.aload_n 3, 1) := by decide +kernel
theorem dX10_came_21 : decode cX10_came 21 = .ok (.iload_n 2, 1) := by decide +kernel
theorem dX10_came_22 : decode cX10_came 22 = .ok (.aload_n 0, 1) := by decide +kernel
theorem dX10_came_23 : decode cX10_came 23 = .ok (.getfield 67, 3) := by decide +kernel
theorem dX10_came_26 : decode cX10_came 26 = .ok (.invokevirtual 134, 3) := by decide +kernel
theorem dX10_came_29 : decode cX10_came 29 = .ok (.ireturn, 1) := by decide +kernel
theorem dX10_asked_0 : decode cX10_asked 0 = .ok (.aload_n 0, 1) := by decide +kernel
theorem dX10_asked_1 : decode cX10_asked 1 = .ok (.iload_n 1, 1) := by decide +kernel
theorem dX10_asked_2 : decode cX10_asked 2 = .ok (.invokevirtual 119, 3) := by decide +kernel
theorem dX10_asked_5 : decode cX10_asked 5 = .ok (.astore_n 3, 1) := by decide +kernel
theorem dX10_asked_6 : decode cX10_asked 6 = .ok (.aload_n 3, 1) := by decide +kernel
theorem dX10_asked_7 : decode cX10_asked 7 = .ok (.ifnull 11, 3) := by decide +kernel
theorem dX10_asked_10 : decode cX10_asked 10 = .ok (.aload_n 3, 1) := by decide +kernel
theorem dX10_asked_11 : decode cX10_asked 11 = .ok (.iload_n 2, 1) := by decide +kernel
theorem dX10_asked_12 : decode cX10_asked 12 = .ok (.invokevirtual 123, 3) := by decide +kernel
theorem dX10_asked_15 : decode cX10_asked 15 = .ok (.ifCond .ne 5, 3) := by decide +kernel
theorem dX10_asked_18 : decode cX10_asked 18 = .ok (.iconst (-1), 1) := by decide +kernel
theorem dX10_asked_19 : decode cX10_asked 19 = .ok (.ireturn, 1) := by decide +kernel
theorem dX10_asked_20 : decode cX10_asked 20 = .ok (.aload_n 3, 1) := by decide +kernel
theorem dX10_asked_21 : decode cX10_asked 21 = .ok (.iload_n 2, 1) := by decide +kernel
theorem dX10_asked_22 : decode cX10_asked 22 = .ok (.aload_n 0, 1) := by decide +kernel
theorem dX10_asked_23 : decode cX10_asked 23 = .ok (.getfield 67, 3) := by decide +kernel
theorem dX10_asked_26 : decode cX10_asked 26 = .ok (.invokevirtual 138, 3) := by decide +kernel
theorem dX10_asked_29 : decode cX10_asked 29 = .ok (.bipush (-2), 2) := by decide +kernel
theorem dX10_asked_31 : decode cX10_asked 31 = .ok (.if_icmp .ne 7, 3) := by decide +kernel
theorem dX10_asked_34 : decode cX10_asked 34 = .ok (.iconst 0, 1) := by decide +kernel
theorem dX10_asked_35 : decode cX10_asked 35 = .ok (.goto 4, 3) := by decide +kernel
theorem dX10_asked_38 : decode cX10_asked 38 = .ok (.iconst 1, 1) := by decide +kernel
theorem dX10_asked_39 : decode cX10_asked 39 = .ok (.ireturn, 1) := by decide +kernel
theorem dX10_under_0 : decode cX10_under 0 = .ok (.iload_n 1, 1) := by decide +kernel
theorem dX10_under_1 : decode cX10_under 1 = .ok (.ifCond .lt 8, 3) := by decide +kernel
theorem dX10_under_4 : decode cX10_under 4 = .ok (.iload_n 1, 1) := by decide +kernel
theorem dX10_under_5 : decode cX10_under 5 = .ok (.iconst 2, 1) := by decide +kernel
theorem dX10_under_6 : decode cX10_under 6 = .ok (.if_icmp .le 5, 3) := by decide +kernel
theorem dX10_under_9 : decode cX10_under 9 = .ok (.iconst (-1), 1) := by decide +kernel
theorem dX10_under_10 : decode cX10_under 10 = .ok (.ireturn, 1) := by decide +kernel
theorem dX10_under_11 : decode cX10_under 11 = .ok (.iconst 0, 1) := by decide +kernel
theorem dX10_under_12 : decode cX10_under 12 = .ok (.istore_n 2, 1) := by decide +kernel
theorem dX10_under_13 : decode cX10_under 13 = .ok (.iconst 0, 1) := by decide +kernel
theorem dX10_under_14 : decode cX10_under 14 = .ok (.istore_n 3, 1) := by decide +kernel
theorem dX10_under_15 : decode cX10_under 15 = .ok (.iload_n 3, 1) := by decide +kernel
theorem dX10_under_16 : decode cX10_under 16 = .ok (.aload_n 0, 1) := by decide +kernel
theorem dX10_under_17 : decode cX10_under 17 = .ok (.getfield 57, 3) := by decide +kernel
theorem dX10_under_20 : decode cX10_under 20 = .ok (.if_icmp .ge 34, 3) := by decide +kernel
theorem dX10_under_23 : decode cX10_under 23 = .ok (.aload_n 0, 1) := by decide +kernel
theorem dX10_under_24 : decode cX10_under 24 = .ok (.iload_n 3, 1) := by decide +kernel
theorem dX10_under_25 : decode cX10_under 25 = .ok (.invokevirtual 119, 3) := by decide +kernel
theorem dX10_under_28 : decode cX10_under 28 = .ok (.astore 4, 2) := by decide +kernel
theorem dX10_under_30 : decode cX10_under 30 = .ok (.aload 4, 2) := by decide +kernel
theorem dX10_under_32 : decode cX10_under 32 = .ok (.ifnull 16, 3) := by decide +kernel
theorem dX10_under_35 : decode cX10_under 35 = .ok (.iload_n 2, 1) := by decide +kernel
theorem dX10_under_36 : decode cX10_under 36 = .ok (.aload 4, 2) := by decide +kernel
theorem dX10_under_38 : decode cX10_under 38 = .ok (.iload_n 1, 1) := by decide +kernel
theorem dX10_under_39 : decode cX10_under 39 = .ok (.aload_n 0, 1) := by decide +kernel
theorem dX10_under_40 : decode cX10_under 40 = .ok (.getfield 67, 3) := by decide +kernel
theorem dX10_under_43 : decode cX10_under 43 = .ok (.invokevirtual 141, 3) := by decide +kernel
theorem dX10_under_46 : decode cX10_under 46 = .ok (.iadd, 1) := by decide +kernel
theorem dX10_under_47 : decode cX10_under 47 = .ok (.istore_n 2, 1) := by decide +kernel
theorem dX10_under_48 : decode cX10_under 48 = .ok (.iinc 3 1, 3) := by decide +kernel
theorem dX10_under_51 : decode cX10_under 51 = .ok (.goto (-36), 3) := by decide +kernel
theorem dX10_under_54 : decode cX10_under 54 = .ok (.iload_n 2, 1) := by decide +kernel
theorem dX10_under_55 : decode cX10_under 55 = .ok (.ireturn, 1) := by decide +kernel
theorem dX10_stock_0 : decode cX10_stock 0 = .ok (.aload_n 0, 1) := by decide +kernel
theorem dX10_stock_1 : decode cX10_stock 1 = .ok (.iload_n 1, 1) := by decide +kernel
theorem dX10_stock_2 : decode cX10_stock 2 = .ok (.invokevirtual 119, 3) := by decide +kernel
theorem dX10_stock_5 : decode cX10_stock 5 = .ok (.astore 4, 2) := by decide +kernel
theorem dX10_stock_7 : decode cX10_stock 7 = .ok (.aload 4, 2) := by decide +kernel
theorem dX10_stock_9 : decode cX10_stock 9 = .ok (.ifnull 10, 3) := by decide +kernel
theorem dX10_stock_12 : decode cX10_stock 12 = .ok (.iload_n 2, 1) := by decide +kernel
theorem dX10_stock_13 : decode cX10_stock 13 = .ok (.invokestatic 144, 3) := by decide +kernel
theorem dX10_stock_16 : decode cX10_stock 16 = .ok (.ifCond .ne 9, 3) := by decide +kernel
theorem dX10_stock_19 : decode cX10_stock 19 = .ok (.aload_n 0, 1) := by decide +kernel
theorem dX10_stock_20 : decode cX10_stock 20 = .ok (.iconst 1, 1) := by decide +kernel
theorem dX10_stock_21 : decode cX10_stock 21 = .ok (.invokevirtual 76, 3) := by decide +kernel
theorem dX10_stock_24 : decode cX10_stock 24 = .ok (.ireturn, 1) := by decide +kernel
theorem dX10_stock_25 : decode cX10_stock 25 = .ok (.iload_n 3, 1) := by decide +kernel
theorem dX10_stock_26 : decode cX10_stock 26 = .ok (.ifCond .lt 17, 3) := by decide +kernel
theorem dX10_stock_29 : decode cX10_stock 29 = .ok (.iload_n 3, 1) := by decide +kernel
theorem dX10_stock_30 : decode cX10_stock 30 = .ok (.sipush 10000, 3) := by decide +kernel
theorem dX10_stock_33 : decode cX10_stock 33 = .ok (.aload 4, 2) := by decide +kernel
theorem dX10_stock_35 : decode cX10_stock 35 = .ok (.iload_n 2, 1) := by decide +kernel
theorem dX10_stock_36 : decode cX10_stock 36 = .ok (.invokevirtual 147, 3) := by decide +kernel
theorem dX10_stock_39 : decode cX10_stock 39 = .ok (.isub, 1) := by decide +kernel
theorem dX10_stock_40 : decode cX10_stock 40 = .ok (.if_icmp .le 9, 3) := by decide +kernel
theorem dX10_stock_43 : decode cX10_stock 43 = .ok (.aload_n 0, 1) := by decide +kernel
theorem dX10_stock_44 : decode cX10_stock 44 = .ok (.iconst 2, 1) := by decide +kernel
theorem dX10_stock_45 : decode cX10_stock 45 = .ok (.invokevirtual 76, 3) := by decide +kernel
theorem dX10_stock_48 : decode cX10_stock 48 = .ok (.ireturn, 1) := by decide +kernel
theorem dX10_stock_49 : decode cX10_stock 49 = .ok (.aload 4, 2) := by decide +kernel
theorem dX10_stock_51 : decode cX10_stock 51 = .ok (.iload_n 2, 1) := by decide +kernel
theorem dX10_stock_52 : decode cX10_stock 52 = .ok (.iload_n 3, 1) := by decide +kernel
theorem dX10_stock_53 : decode cX10_stock 53 = .ok (.invokevirtual 150, 3) := by decide +kernel
theorem dX10_stock_56 : decode cX10_stock 56 = .ok (.aload_n 0, 1) := by decide +kernel
theorem dX10_stock_57 : decode cX10_stock 57 = .ok (.aload 4, 2) := by decide +kernel
theorem dX10_stock_59 : decode cX10_stock 59 = .ok (.iload_n 2, 1) := by decide +kernel
theorem dX10_stock_60 : decode cX10_stock 60 = .ok (.invokevirtual 147, 3) := by decide +kernel
theorem dX10_stock_63 : decode cX10_stock 63 = .ok (.invokevirtual 87, 3) := by decide +kernel
theorem dX10_stock_66 : decode cX10_stock 66 = .ok (.ireturn, 1) := by decide +kernel
theorem dX10_fee_0 : decode cX10_fee 0 = .ok (.aload_n 0, 1) := by decide +kernel
theorem dX10_fee_1 : decode cX10_fee 1 = .ok (.iload_n 1, 1) := by decide +kernel
theorem dX10_fee_2 : decode cX10_fee 2 = .ok (.invokevirtual 153, 3) := by decide +kernel
theorem dX10_fee_5 : decode cX10_fee 5 = .ok (.astore 6, 2) := by decide +kernel
theorem dX10_fee_7 : decode cX10_fee 7 = .ok (.aload_n 0, 1) := by decide +kernel
theorem dX10_fee_8 : decode cX10_fee 8 = .ok (.iload_n 2, 1) := by decide +kernel
theorem dX10_fee_9 : decode cX10_fee 9 = .ok (.invokevirtual 119, 3) := by decide +kernel
theorem dX10_fee_12 : decode cX10_fee 12 = .ok (.astore 7, 2) := by decide +kernel
theorem dX10_fee_14 : decode cX10_fee 14 = .ok (.aload 6, 2) := by decide +kernel
theorem dX10_fee_16 : decode cX10_fee 16 = .ok (.ifnull 8, 3) := by decide +kernel
theorem dX10_fee_19 : decode cX10_fee 19 = .ok (.aload 7, 2) := by decide +kernel
theorem dX10_fee_21 : decode cX10_fee 21 = .ok (.ifnonnull 9, 3) := by decide +kernel
theorem dX10_fee_24 : decode cX10_fee 24 = .ok (.aload_n 0, 1) := by decide +kernel
theorem dX10_fee_25 : decode cX10_fee 25 = .ok (.iconst 1, 1) := by decide +kernel
theorem dX10_fee_26 : decode cX10_fee 26 = .ok (.invokevirtual 76, 3) := by decide +kernel
theorem dX10_fee_29 : decode cX10_fee 29 = .ok (.ireturn, 1) := by decide +kernel
theorem dX10_fee_30 : decode cX10_fee 30 = .ok (.iload_n 3, 1) := by decide +kernel
theorem dX10_fee_31 : decode cX10_fee 31 = .ok (.iload 4, 2) := by decide +kernel
theorem dX10_fee_33 : decode cX10_fee 33 = .ok (.iload 5, 2) := by decide +kernel
theorem dX10_fee_35 : decode cX10_fee 35 = .ok (.invokestatic 157, 3) := by decide +kernel
theorem dX10_fee_38 : decode cX10_fee 38 = .ok (.ifCond .ne 9, 3) := by decide +kernel
theorem dX10_fee_41 : decode cX10_fee 41 = .ok (.aload_n 0, 1) := by decide +kernel
theorem dX10_fee_42 : decode cX10_fee 42 = .ok (.iconst 2, 1) := by decide +kernel
theorem dX10_fee_43 : decode cX10_fee 43 = .ok (.invokevirtual 76, 3) := by decide +kernel
theorem dX10_fee_46 : decode cX10_fee 46 = .ok (.ireturn, 1) := by decide +kernel
theorem dX10_fee_47 : decode cX10_fee 47 = .ok (.aload_n 0, 1) := by decide +kernel
theorem dX10_fee_48 : decode cX10_fee 48 = .ok (.aload 6, 2) := by decide +kernel
theorem dX10_fee_50 : decode cX10_fee 50 = .ok (.new 21, 3) := by decide +kernel
theorem dX10_fee_53 : decode cX10_fee 53 = .ok (.dup, 1) := by decide +kernel
theorem dX10_fee_54 : decode cX10_fee 54 = .ok (.iload_n 2, 1) := by decide +kernel
theorem dX10_fee_55 : decode cX10_fee 55 = .ok (.iload_n 3, 1) := by decide +kernel
theorem dX10_fee_56 : decode cX10_fee 56 = .ok (.iload 4, 2) := by decide +kernel
theorem dX10_fee_58 : decode cX10_fee 58 = .ok (.iload 5, 2) := by decide +kernel
theorem dX10_fee_60 : decode cX10_fee 60 = .ok (.aload 7, 2) := by decide +kernel
theorem dX10_fee_62 : decode cX10_fee 62 = .ok (.getfield 161, 3) := by decide +kernel
theorem dX10_fee_65 : decode cX10_fee 65 = .ok (.invokespecial 163, 3) := by decide +kernel
theorem dX10_fee_68 : decode cX10_fee 68 = .ok (.invokevirtual 166, 3) := by decide +kernel
theorem dX10_fee_71 : decode cX10_fee 71 = .ok (.invokevirtual 87, 3) := by decide +kernel
theorem dX10_fee_74 : decode cX10_fee 74 = .ok (.ireturn, 1) := by decide +kernel
theorem dX10_seal_0 : decode cX10_seal 0 = .ok (.aload_n 0, 1) := by decide +kernel
theorem dX10_seal_1 : decode cX10_seal 1 = .ok (.iload_n 1, 1) := by decide +kernel
theorem dX10_seal_2 : decode cX10_seal 2 = .ok (.invokevirtual 119, 3) := by decide +kernel
theorem dX10_seal_5 : decode cX10_seal 5 = .ok (.astore 5, 2) := by decide +kernel
theorem dX10_seal_7 : decode cX10_seal 7 = .ok (.aload 5, 2) := by decide +kernel
theorem dX10_seal_9 : decode cX10_seal 9 = .ok (.ifnonnull 9, 3) := by decide +kernel
theorem dX10_seal_12 : decode cX10_seal 12 = .ok (.aload_n 0, 1) := by decide +kernel
theorem dX10_seal_13 : decode cX10_seal 13 = .ok (.iconst 1, 1) := by decide +kernel
theorem dX10_seal_14 : decode cX10_seal 14 = .ok (.invokevirtual 76, 3) := by decide +kernel
theorem dX10_seal_17 : decode cX10_seal 17 = .ok (.ireturn, 1) := by decide +kernel
theorem dX10_seal_18 : decode cX10_seal 18 = .ok (.iload_n 2, 1) := by decide +kernel
theorem dX10_seal_19 : decode cX10_seal 19 = .ok (.iload_n 3, 1) := by decide +kernel
theorem dX10_seal_20 : decode cX10_seal 20 = .ok (.iload 4, 2) := by decide +kernel
theorem dX10_seal_22 : decode cX10_seal 22 = .ok (.invokestatic 157, 3) := by decide +kernel
theorem dX10_seal_25 : decode cX10_seal 25 = .ok (.ifCond .ne 9, 3) := by decide +kernel
theorem dX10_seal_28 : decode cX10_seal 28 = .ok (.aload_n 0, 1) := by decide +kernel
theorem dX10_seal_29 : decode cX10_seal 29 = .ok (.iconst 2, 1) := by decide +kernel
theorem dX10_seal_30 : decode cX10_seal 30 = .ok (.invokevirtual 76, 3) := by decide +kernel
theorem dX10_seal_33 : decode cX10_seal 33 = .ok (.ireturn, 1) := by decide +kernel
theorem dX10_seal_34 : decode cX10_seal 34 = .ok (.aload 5, 2) := by decide +kernel
theorem dX10_seal_36 : decode cX10_seal 36 = .ok (.aload_n 0, 1) := by decide +kernel
theorem dX10_seal_37 : decode cX10_seal 37 = .ok (.getfield 67, 3) := by decide +kernel
theorem dX10_seal_40 : decode cX10_seal 40 = .ok (.invokevirtual 131, 3) := by decide +kernel
theorem dX10_seal_43 : decode cX10_seal 43 = .ok (.istore 6, 2) := by decide +kernel
theorem dX10_seal_45 : decode cX10_seal 45 = .ok (.aload_n 0, 1) := by decide +kernel
theorem dX10_seal_46 : decode cX10_seal 46 = .ok (.iload 6, 2) := by decide +kernel
theorem dX10_seal_48 : decode cX10_seal 48 = .ok (.invokevirtual 153, 3) := by decide +kernel
theorem dX10_seal_51 : decode cX10_seal 51 = .ok (.astore 7, 2) := by decide +kernel
theorem dX10_seal_53 : decode cX10_seal 53 = .ok (.aload 7, 2) := by decide +kernel
theorem dX10_seal_55 : decode cX10_seal 55 = .ok (.ifnonnull 9, 3) := by decide +kernel
theorem dX10_seal_58 : decode cX10_seal 58 = .ok (.aload_n 0, 1) := by decide +kernel
theorem dX10_seal_59 : decode cX10_seal 59 = .ok (.iconst 5, 1) := by decide +kernel
theorem dX10_seal_60 : decode cX10_seal 60 = .ok (.invokevirtual 76, 3) := by decide +kernel
theorem dX10_seal_63 : decode cX10_seal 63 = .ok (.ireturn, 1) := by decide +kernel
theorem dX10_seal_64 : decode cX10_seal 64 = .ok (.new 21, 3) := by decide +kernel
theorem dX10_seal_67 : decode cX10_seal 67 = .ok (.dup, 1) := by decide +kernel
theorem dX10_seal_68 : decode cX10_seal 68 = .ok (.iload_n 1, 1) := by decide +kernel
theorem dX10_seal_69 : decode cX10_seal 69 = .ok (.iload_n 2, 1) := by decide +kernel
theorem dX10_seal_70 : decode cX10_seal 70 = .ok (.iload_n 3, 1) := by decide +kernel
theorem dX10_seal_71 : decode cX10_seal 71 = .ok (.iload 4, 2) := by decide +kernel
theorem dX10_seal_73 : decode cX10_seal 73 = .ok (.aload 5, 2) := by decide +kernel
theorem dX10_seal_75 : decode cX10_seal 75 = .ok (.getfield 161, 3) := by decide +kernel
theorem dX10_seal_78 : decode cX10_seal 78 = .ok (.invokespecial 163, 3) := by decide +kernel
theorem dX10_seal_81 : decode cX10_seal 81 = .ok (.astore 8, 2) := by decide +kernel
theorem dX10_seal_83 : decode cX10_seal 83 = .ok (.aload 7, 2) := by decide +kernel
theorem dX10_seal_85 : decode cX10_seal 85 = .ok (.aload 8, 2) := by decide +kernel
theorem dX10_seal_87 : decode cX10_seal 87 = .ok (.invokevirtual 166, 3) := by decide +kernel
theorem dX10_seal_90 : decode cX10_seal 90 = .ok (.istore 9, 2) := by decide +kernel
theorem dX10_seal_92 : decode cX10_seal 92 = .ok (.iload 9, 2) := by decide +kernel
theorem dX10_seal_94 : decode cX10_seal 94 = .ok (.bipush (-2), 2) := by decide +kernel
theorem dX10_seal_96 : decode cX10_seal 96 = .ok (.if_icmp .ne 9, 3) := by decide +kernel
theorem dX10_seal_99 : decode cX10_seal 99 = .ok (.aload_n 0, 1) := by decide +kernel
theorem dX10_seal_100 : decode cX10_seal 100 = .ok (.iconst 5, 1) := by decide +kernel
theorem dX10_seal_101 : decode cX10_seal 101 = .ok (.invokevirtual 76, 3) := by decide +kernel
theorem dX10_seal_104 : decode cX10_seal 104 = .ok (.ireturn, 1) := by decide +kernel
theorem dX10_seal_105 : decode cX10_seal 105 = .ok (.aload_n 0, 1) := by decide +kernel
theorem dX10_seal_106 : decode cX10_seal 106 = .ok (.getfield 53, 3) := by decide +kernel
theorem dX10_seal_109 : decode cX10_seal 109 = .ok (.aload 5, 2) := by decide +kernel
theorem dX10_seal_111 : decode cX10_seal 111 = .ok (.getfield 170, 3) := by decide +kernel
theorem dX10_seal_114 : decode cX10_seal 114 = .ok (.iload 9, 2) := by decide +kernel
theorem dX10_seal_116 : decode cX10_seal 116 = .ok (.invokevirtual 174, 3) := by decide +kernel
theorem dX10_seal_119 : decode cX10_seal 119 = .ok (.astore 10, 2) := by decide +kernel
theorem dX10_seal_121 : decode cX10_seal 121 = .ok (.aload 10, 2) := by decide +kernel
theorem dX10_seal_123 : decode cX10_seal 123 = .ok (.ifnonnull 10, 3) := by decide +kernel
theorem dX10_seal_126 : decode cX10_seal 126 = .ok (.aload_n 0, 1) := by decide +kernel
theorem dX10_seal_127 : decode cX10_seal 127 = .ok (.bipush 6, 2) := by decide +kernel
theorem dX10_seal_129 : decode cX10_seal 129 = .ok (.invokevirtual 76, 3) := by decide +kernel
theorem dX10_seal_132 : decode cX10_seal 132 = .ok (.ireturn, 1) := by decide +kernel
theorem dX10_seal_133 : decode cX10_seal 133 = .ok (.aload_n 0, 1) := by decide +kernel
theorem dX10_seal_134 : decode cX10_seal 134 = .ok (.getfield 64, 3) := by decide +kernel
theorem dX10_seal_137 : decode cX10_seal 137 = .ok (.aload_n 0, 1) := by decide +kernel
theorem dX10_seal_138 : decode cX10_seal 138 = .ok (.getfield 23, 3) := by decide +kernel
theorem dX10_seal_141 : decode cX10_seal 141 = .ok (.arraylength, 1) := by decide +kernel
theorem dX10_seal_142 : decode cX10_seal 142 = .ok (.if_icmp .lt 9, 3) := by decide +kernel
theorem dX10_seal_145 : decode cX10_seal 145 = .ok (.aload_n 0, 1) := by decide +kernel
theorem dX10_seal_146 : decode cX10_seal 146 = .ok (.iconst 3, 1) := by decide +kernel
theorem dX10_seal_147 : decode cX10_seal 147 = .ok (.invokevirtual 76, 3) := by decide +kernel
theorem dX10_seal_150 : decode cX10_seal 150 = .ok (.ireturn, 1) := by decide +kernel
theorem dX10_seal_151 : decode cX10_seal 151 = .ok (.aload 8, 2) := by decide +kernel
theorem dX10_seal_153 : decode cX10_seal 153 = .ok (.aload_n 0, 1) := by decide +kernel
theorem dX10_seal_154 : decode cX10_seal 154 = .ok (.getfield 67, 3) := by decide +kernel
theorem dX10_seal_157 : decode cX10_seal 157 = .ok (.iload 9, 2) := by decide +kernel
theorem dX10_seal_159 : decode cX10_seal 159 = .ok (.iload 6, 2) := by decide +kernel
theorem dX10_seal_161 : decode cX10_seal 161 = .ok (.aload 10, 2) := by decide +kernel
theorem dX10_seal_163 : decode cX10_seal 163 = .ok (.invokevirtual 178, 3) := by decide +kernel
theorem dX10_seal_166 : decode cX10_seal 166 = .ok (.aload 5, 2) := by decide +kernel
theorem dX10_seal_168 : decode cX10_seal 168 = .ok (.iload 9, 2) := by decide +kernel
theorem dX10_seal_170 : decode cX10_seal 170 = .ok (.aload 10, 2) := by decide +kernel
theorem dX10_seal_172 : decode cX10_seal 172 = .ok (.invokevirtual 182, 3) := by decide +kernel
theorem dX10_seal_175 : decode cX10_seal 175 = .ok (.aload_n 0, 1) := by decide +kernel
theorem dX10_seal_176 : decode cX10_seal 176 = .ok (.getfield 23, 3) := by decide +kernel
theorem dX10_seal_179 : decode cX10_seal 179 = .ok (.aload_n 0, 1) := by decide +kernel
theorem dX10_seal_180 : decode cX10_seal 180 = .ok (.getfield 64, 3) := by decide +kernel
theorem dX10_seal_183 : decode cX10_seal 183 = .ok (.aload 8, 2) := by decide +kernel
theorem dX10_seal_185 : decode cX10_seal 185 = .ok (.aastore, 1) := by decide +kernel
theorem dX10_seal_186 : decode cX10_seal 186 = .ok (.aload_n 0, 1) := by decide +kernel
theorem dX10_seal_187 : decode cX10_seal 187 = .ok (.dup, 1) := by decide +kernel
theorem dX10_seal_188 : decode cX10_seal 188 = .ok (.getfield 64, 3) := by decide +kernel
theorem dX10_seal_191 : decode cX10_seal 191 = .ok (.iconst 1, 1) := by decide +kernel
theorem dX10_seal_192 : decode cX10_seal 192 = .ok (.iadd, 1) := by decide +kernel
theorem dX10_seal_193 : decode cX10_seal 193 = .ok (.putfield 64, 3) := by decide +kernel
theorem dX10_seal_196 : decode cX10_seal 196 = .ok (.aload_n 0, 1) := by decide +kernel
theorem dX10_seal_197 : decode cX10_seal 197 = .ok (.aload_n 0, 1) := by decide +kernel
theorem dX10_seal_198 : decode cX10_seal 198 = .ok (.getfield 64, 3) := by decide +kernel
theorem dX10_seal_201 : decode cX10_seal 201 = .ok (.iconst 1, 1) := by decide +kernel
theorem dX10_seal_202 : decode cX10_seal 202 = .ok (.isub, 1) := by decide +kernel
theorem dX10_seal_203 : decode cX10_seal 203 = .ok (.invokevirtual 87, 3) := by decide +kernel
theorem dX10_seal_206 : decode cX10_seal 206 = .ok (.ireturn, 1) := by decide +kernel
theorem dX10_paper_0 : decode cX10_paper 0 = .ok (.aload_n 0, 1) := by decide +kernel
theorem dX10_paper_1 : decode cX10_paper 1 = .ok (.iload_n 1, 1) := by decide +kernel
theorem dX10_paper_2 : decode cX10_paper 2 = .ok (.invokevirtual 186, 3) := by decide +kernel
theorem dX10_paper_5 : decode cX10_paper 5 = .ok (.astore_n 3, 1) := by decide +kernel
theorem dX10_paper_6 : decode cX10_paper 6 = .ok (.aload_n 3, 1) := by decide +kernel
theorem dX10_paper_7 : decode cX10_paper 7 = .ok (.ifnonnull 5, 3) := by decide +kernel
theorem dX10_paper_10 : decode cX10_paper 10 = .ok (.iconst (-1), 1) := by decide +kernel
theorem dX10_paper_11 : decode cX10_paper 11 = .ok (.ireturn, 1) := by decide +kernel
theorem dX10_paper_12 : decode cX10_paper 12 = .ok (.iload_n 2, 1) := by decide +kernel
theorem dX10_paper_13 : decode cX10_paper 13 = .ok (.tableswitch 114 0 8 #[51, 56, 61, 66, 71, 76, 81, 86, 91], 51) := by decide +kernel
theorem dX10_paper_64 : decode cX10_paper 64 = .ok (.aload_n 3, 1) := by decide +kernel
theorem dX10_paper_65 : decode cX10_paper 65 = .ok (.getfield 190, 3) := by decide +kernel
theorem dX10_paper_68 : decode cX10_paper 68 = .ok (.ireturn, 1) := by decide +kernel
theorem dX10_paper_69 : decode cX10_paper 69 = .ok (.aload_n 3, 1) := by decide +kernel
theorem dX10_paper_70 : decode cX10_paper 70 = .ok (.getfield 193, 3) := by decide +kernel
theorem dX10_paper_73 : decode cX10_paper 73 = .ok (.ireturn, 1) := by decide +kernel
theorem dX10_paper_74 : decode cX10_paper 74 = .ok (.aload_n 3, 1) := by decide +kernel
theorem dX10_paper_75 : decode cX10_paper 75 = .ok (.getfield 196, 3) := by decide +kernel
theorem dX10_paper_78 : decode cX10_paper 78 = .ok (.ireturn, 1) := by decide +kernel
theorem dX10_paper_79 : decode cX10_paper 79 = .ok (.aload_n 3, 1) := by decide +kernel
theorem dX10_paper_80 : decode cX10_paper 80 = .ok (.getfield 199, 3) := by decide +kernel
theorem dX10_paper_83 : decode cX10_paper 83 = .ok (.ireturn, 1) := by decide +kernel
theorem dX10_paper_84 : decode cX10_paper 84 = .ok (.aload_n 3, 1) := by decide +kernel
theorem dX10_paper_85 : decode cX10_paper 85 = .ok (.getfield 202, 3) := by decide +kernel
theorem dX10_paper_88 : decode cX10_paper 88 = .ok (.ireturn, 1) := by decide +kernel
theorem dX10_paper_89 : decode cX10_paper 89 = .ok (.aload_n 3, 1) := by decide +kernel
theorem dX10_paper_90 : decode cX10_paper 90 = .ok (.getfield 205, 3) := by decide +kernel
theorem dX10_paper_93 : decode cX10_paper 93 = .ok (.ireturn, 1) := by decide +kernel
theorem dX10_paper_94 : decode cX10_paper 94 = .ok (.aload_n 3, 1) := by decide +kernel
theorem dX10_paper_95 : decode cX10_paper 95 = .ok (.getfield 208, 3) := by decide +kernel
theorem dX10_paper_98 : decode cX10_paper 98 = .ok (.ireturn, 1) := by decide +kernel
theorem dX10_paper_99 : decode cX10_paper 99 = .ok (.aload_n 3, 1) := by decide +kernel
theorem dX10_paper_100 : decode cX10_paper 100 = .ok (.invokevirtual 211, 3) := by decide +kernel
theorem dX10_paper_103 : decode cX10_paper 103 = .ok (.ireturn, 1) := by decide +kernel
theorem dX10_paper_104 : decode cX10_paper 104 = .ok (.aload_n 0, 1) := by decide +kernel
theorem dX10_paper_105 : decode cX10_paper 105 = .ok (.aload_n 3, 1) := by decide +kernel
theorem dX10_paper_106 : decode cX10_paper 106 = .ok (.aload_n 0, 1) := by decide +kernel
theorem dX10_paper_107 : decode cX10_paper 107 = .ok (.getfield 67, 3) := by decide +kernel
theorem dX10_paper_110 : decode cX10_paper 110 = .ok (.invokevirtual 215, 3) := by decide +kernel
theorem dX10_paper_113 : decode cX10_paper 113 = .ok (.ifCond .eq 11, 3) := by decide +kernel
theorem dX10_paper_116 : decode cX10_paper 116 = .ok (.aload_n 0, 1) := by decide +kernel
theorem dX10_paper_117 : decode cX10_paper 117 = .ok (.aload_n 3, 1) := by decide +kernel
theorem dX10_paper_118 : decode cX10_paper 118 = .ok (.invokevirtual 219, 3) := by decide +kernel
theorem dX10_paper_121 : decode cX10_paper 121 = .ok (.goto 5, 3) := by decide +kernel
theorem dX10_paper_124 : decode cX10_paper 124 = .ok (.bipush (-2), 2) := by decide +kernel
theorem dX10_paper_126 : decode cX10_paper 126 = .ok (.ireturn, 1) := by decide +kernel
theorem dX10_paper_127 : decode cX10_paper 127 = .ok (.iconst (-1), 1) := by decide +kernel
theorem dX10_paper_128 : decode cX10_paper 128 = .ok (.ireturn, 1) := by decide +kernel
theorem dX10_stamps_0 : decode cX10_stamps 0 = .ok (.aload_n 0, 1) := by decide +kernel
theorem dX10_stamps_1 : decode cX10_stamps 1 = .ok (.iload_n 1, 1) := by decide +kernel
theorem dX10_stamps_2 : decode cX10_stamps 2 = .ok (.invokevirtual 186, 3) := by decide +kernel
theorem dX10_stamps_5 : decode cX10_stamps 5 = .ok (.astore_n 3, 1) := by decide +kernel
theorem dX10_stamps_6 : decode cX10_stamps 6 = .ok (.aload_n 3, 1) := by decide +kernel
theorem dX10_stamps_7 : decode cX10_stamps 7 = .ok (.ifnull 10, 3) := by decide +kernel
theorem dX10_stamps_10 : decode cX10_stamps 10 = .ok (.iload_n 2, 1) := by decide +kernel
theorem dX10_stamps_11 : decode cX10_stamps 11 = .ok (.invokestatic 144, 3) := by decide +kernel
theorem dX10_stamps_14 : decode cX10_stamps 14 = .ok (.ifCond .ne 5, 3) := by decide +kernel
theorem dX10_stamps_17 : decode cX10_stamps 17 = .ok (.iconst (-1), 1) := by decide +kernel
theorem dX10_stamps_18 : decode cX10_stamps 18 = .ok (.ireturn, 1) := by decide +kernel
theorem dX10_stamps_19 : decode cX10_stamps 19 = .ok (.aload_n 3, 1) := by decide +kernel
theorem dX10_stamps_20 : decode cX10_stamps 20 = .ok (.iload_n 2, 1) := by decide +kernel
theorem dX10_stamps_21 : decode cX10_stamps 21 = .ok (.invokevirtual 222, 3) := by decide +kernel
theorem dX10_stamps_24 : decode cX10_stamps 24 = .ok (.ireturn, 1) := by decide +kernel
theorem dX10_about_0 : decode cX10_about 0 = .ok (.aload_n 0, 1) := by decide +kernel
theorem dX10_about_1 : decode cX10_about 1 = .ok (.iload_n 1, 1) := by decide +kernel
theorem dX10_about_2 : decode cX10_about 2 = .ok (.invokevirtual 119, 3) := by decide +kernel
theorem dX10_about_5 : decode cX10_about 5 = .ok (.astore_n 3, 1) := by decide +kernel
theorem dX10_about_6 : decode cX10_about 6 = .ok (.aload_n 3, 1) := by decide +kernel
theorem dX10_about_7 : decode cX10_about 7 = .ok (.ifnonnull 5, 3) := by decide +kernel
theorem dX10_about_10 : decode cX10_about 10 = .ok (.iconst (-1), 1) := by decide +kernel
theorem dX10_about_11 : decode cX10_about 11 = .ok (.ireturn, 1) := by decide +kernel
theorem dX10_about_12 : decode cX10_about 12 = .ok (.iload_n 2, 1) := by decide +kernel
theorem dX10_about_13 : decode cX10_about 13 = .ok (.tableswitch 55 0 3 #[31, 36, 41, 46], 31) := by decide +kernel
theorem dX10_about_44 : decode cX10_about 44 = .ok (.aload_n 3, 1) := by decide +kernel
theorem dX10_about_45 : decode cX10_about 45 = .ok (.getfield 223, 3) := by decide +kernel
theorem dX10_about_48 : decode cX10_about 48 = .ok (.ireturn, 1) := by decide +kernel
theorem dX10_about_49 : decode cX10_about 49 = .ok (.aload_n 3, 1) := by decide +kernel
theorem dX10_about_50 : decode cX10_about 50 = .ok (.getfield 226, 3) := by decide +kernel
theorem dX10_about_53 : decode cX10_about 53 = .ok (.ireturn, 1) := by decide +kernel
theorem dX10_about_54 : decode cX10_about 54 = .ok (.aload_n 3, 1) := by decide +kernel
theorem dX10_about_55 : decode cX10_about 55 = .ok (.getfield 161, 3) := by decide +kernel
theorem dX10_about_58 : decode cX10_about 58 = .ok (.ireturn, 1) := by decide +kernel
theorem dX10_about_59 : decode cX10_about 59 = .ok (.aload_n 3, 1) := by decide +kernel
theorem dX10_about_60 : decode cX10_about 60 = .ok (.aload_n 0, 1) := by decide +kernel
theorem dX10_about_61 : decode cX10_about 61 = .ok (.getfield 67, 3) := by decide +kernel
theorem dX10_about_64 : decode cX10_about 64 = .ok (.invokevirtual 229, 3) := by decide +kernel
theorem dX10_about_67 : decode cX10_about 67 = .ok (.ireturn, 1) := by decide +kernel
theorem dX10_about_68 : decode cX10_about 68 = .ok (.iload_n 2, 1) := by decide +kernel
theorem dX10_about_69 : decode cX10_about 69 = .ok (.iconst 4, 1) := by decide +kernel
theorem dX10_about_70 : decode cX10_about 70 = .ok (.isub, 1) := by decide +kernel
theorem dX10_about_71 : decode cX10_about 71 = .ok (.invokestatic 144, 3) := by decide +kernel
theorem dX10_about_74 : decode cX10_about 74 = .ok (.ifCond .eq 13, 3) := by decide +kernel
theorem dX10_about_77 : decode cX10_about 77 = .ok (.aload_n 3, 1) := by decide +kernel
theorem dX10_about_78 : decode cX10_about 78 = .ok (.iload_n 2, 1) := by decide +kernel
theorem dX10_about_79 : decode cX10_about 79 = .ok (.iconst 4, 1) := by decide +kernel
theorem dX10_about_80 : decode cX10_about 80 = .ok (.isub, 1) := by decide +kernel
theorem dX10_about_81 : decode cX10_about 81 = .ok (.invokevirtual 147, 3) := by decide +kernel
theorem dX10_about_84 : decode cX10_about 84 = .ok (.goto 4, 3) := by decide +kernel
theorem dX10_about_87 : decode cX10_about 87 = .ok (.iconst (-1), 1) := by decide +kernel
theorem dX10_about_88 : decode cX10_about 88 = .ok (.ireturn, 1) := by decide +kernel
theorem dX10_known_0 : decode cX10_known 0 = .ok (.aload_n 0, 1) := by decide +kernel
theorem dX10_known_1 : decode cX10_known 1 = .ok (.iload_n 1, 1) := by decide +kernel
theorem dX10_known_2 : decode cX10_known 2 = .ok (.invokevirtual 119, 3) := by decide +kernel
theorem dX10_known_5 : decode cX10_known 5 = .ok (.ifnull 11, 3) := by decide +kernel
theorem dX10_known_8 : decode cX10_known 8 = .ok (.aload_n 0, 1) := by decide +kernel
theorem dX10_known_9 : decode cX10_known 9 = .ok (.iload_n 2, 1) := by decide +kernel
theorem dX10_known_10 : decode cX10_known 10 = .ok (.invokevirtual 232, 3) := by decide +kernel
theorem dX10_known_13 : decode cX10_known 13 = .ok (.ifCond .ne 5, 3) := by decide +kernel
theorem dX10_known_16 : decode cX10_known 16 = .ok (.iconst (-1), 1) := by decide +kernel
theorem dX10_known_17 : decode cX10_known 17 = .ok (.ireturn, 1) := by decide +kernel
theorem dX10_known_18 : decode cX10_known 18 = .ok (.iconst 0, 1) := by decide +kernel
theorem dX10_known_19 : decode cX10_known 19 = .ok (.istore_n 3, 1) := by decide +kernel
theorem dX10_known_20 : decode cX10_known 20 = .ok (.iconst 0, 1) := by decide +kernel
theorem dX10_known_21 : decode cX10_known 21 = .ok (.istore 4, 2) := by decide +kernel
theorem dX10_known_23 : decode cX10_known 23 = .ok (.iload 4, 2) := by decide +kernel
theorem dX10_known_25 : decode cX10_known 25 = .ok (.aload_n 0, 1) := by decide +kernel
theorem dX10_known_26 : decode cX10_known 26 = .ok (.getfield 64, 3) := by decide +kernel
theorem dX10_known_29 : decode cX10_known 29 = .ok (.if_icmp .ge 23, 3) := by decide +kernel
theorem dX10_known_32 : decode cX10_known 32 = .ok (.aload_n 0, 1) := by decide +kernel
theorem dX10_known_33 : decode cX10_known 33 = .ok (.iload_n 1, 1) := by decide +kernel
theorem dX10_known_34 : decode cX10_known 34 = .ok (.iload 4, 2) := by decide +kernel
theorem dX10_known_36 : decode cX10_known 36 = .ok (.iload_n 2, 1) := by decide +kernel
theorem dX10_known_37 : decode cX10_known 37 = .ok (.invokevirtual 235, 3) := by decide +kernel
theorem dX10_known_40 : decode cX10_known 40 = .ok (.ifCond .eq 6, 3) := by decide +kernel
theorem dX10_known_43 : decode cX10_known 43 = .ok (.iinc 3 1, 3) := by decide +kernel
theorem dX10_known_46 : decode cX10_known 46 = .ok (.iinc 4 1, 3) := by decide +kernel
theorem dX10_known_49 : decode cX10_known 49 = .ok (.goto (-26), 3) := by decide +kernel
theorem dX10_known_52 : decode cX10_known 52 = .ok (.iload_n 3, 1) := by decide +kernel
theorem dX10_known_53 : decode cX10_known 53 = .ok (.ireturn, 1) := by decide +kernel
theorem dX10_sum_0 : decode cX10_sum 0 = .ok (.aload_n 0, 1) := by decide +kernel
theorem dX10_sum_1 : decode cX10_sum 1 = .ok (.iload_n 1, 1) := by decide +kernel
theorem dX10_sum_2 : decode cX10_sum 2 = .ok (.invokevirtual 119, 3) := by decide +kernel
theorem dX10_sum_5 : decode cX10_sum 5 = .ok (.ifnull 11, 3) := by decide +kernel
theorem dX10_sum_8 : decode cX10_sum 8 = .ok (.aload_n 0, 1) := by decide +kernel
theorem dX10_sum_9 : decode cX10_sum 9 = .ok (.iload_n 2, 1) := by decide +kernel
theorem dX10_sum_10 : decode cX10_sum 10 = .ok (.invokevirtual 232, 3) := by decide +kernel
theorem dX10_sum_13 : decode cX10_sum 13 = .ok (.ifCond .ne 5, 3) := by decide +kernel
theorem dX10_sum_16 : decode cX10_sum 16 = .ok (.iconst (-1), 1) := by decide +kernel
theorem dX10_sum_17 : decode cX10_sum 17 = .ok (.ireturn, 1) := by decide +kernel
theorem dX10_sum_18 : decode cX10_sum 18 = .ok (.iconst 0, 1) := by decide +kernel
theorem dX10_sum_19 : decode cX10_sum 19 = .ok (.istore_n 3, 1) := by decide +kernel
theorem dX10_sum_20 : decode cX10_sum 20 = .ok (.iconst 0, 1) := by decide +kernel
theorem dX10_sum_21 : decode cX10_sum 21 = .ok (.istore 4, 2) := by decide +kernel
theorem dX10_sum_23 : decode cX10_sum 23 = .ok (.iload 4, 2) := by decide +kernel
theorem dX10_sum_25 : decode cX10_sum 25 = .ok (.aload_n 0, 1) := by decide +kernel
theorem dX10_sum_26 : decode cX10_sum 26 = .ok (.getfield 64, 3) := by decide +kernel
theorem dX10_sum_29 : decode cX10_sum 29 = .ok (.if_icmp .ge 29, 3) := by decide +kernel
theorem dX10_sum_32 : decode cX10_sum 32 = .ok (.aload_n 0, 1) := by decide +kernel
theorem dX10_sum_33 : decode cX10_sum 33 = .ok (.iload_n 1, 1) := by decide +kernel
theorem dX10_sum_34 : decode cX10_sum 34 = .ok (.iload 4, 2) := by decide +kernel
theorem dX10_sum_36 : decode cX10_sum 36 = .ok (.iload_n 2, 1) := by decide +kernel
theorem dX10_sum_37 : decode cX10_sum 37 = .ok (.invokevirtual 235, 3) := by decide +kernel
theorem dX10_sum_40 : decode cX10_sum 40 = .ok (.ifCond .eq 12, 3) := by decide +kernel
theorem dX10_sum_43 : decode cX10_sum 43 = .ok (.iload_n 3, 1) := by decide +kernel
theorem dX10_sum_44 : decode cX10_sum 44 = .ok (.aload_n 0, 1) := by decide +kernel
theorem dX10_sum_45 : decode cX10_sum 45 = .ok (.iload 4, 2) := by decide +kernel
theorem dX10_sum_47 : decode cX10_sum 47 = .ok (.invokevirtual 238, 3) := by decide +kernel
theorem dX10_sum_50 : decode cX10_sum 50 = .ok (.iadd, 1) := by decide +kernel
theorem dX10_sum_51 : decode cX10_sum 51 = .ok (.istore_n 3, 1) := by decide +kernel
theorem dX10_sum_52 : decode cX10_sum 52 = .ok (.iinc 4 1, 3) := by decide +kernel
theorem dX10_sum_55 : decode cX10_sum 55 = .ok (.goto (-32), 3) := by decide +kernel
theorem dX10_sum_58 : decode cX10_sum 58 = .ok (.iload_n 3, 1) := by decide +kernel
theorem dX10_sum_59 : decode cX10_sum 59 = .ok (.ireturn, 1) := by decide +kernel
theorem dX10_homes_0 : decode cX10_homes 0 = .ok (.aload_n 0, 1) := by decide +kernel
theorem dX10_homes_1 : decode cX10_homes 1 = .ok (.iload_n 1, 1) := by decide +kernel
theorem dX10_homes_2 : decode cX10_homes 2 = .ok (.invokevirtual 241, 3) := by decide +kernel
theorem dX10_homes_5 : decode cX10_homes 5 = .ok (.ireturn, 1) := by decide +kernel
theorem dX10_difference_0 : decode cX10_difference 0 = .ok (.iconst 0, 1) := by decide +kernel
theorem dX10_difference_1 : decode cX10_difference 1 = .ok (.istore_n 2, 1) := by decide +kernel
theorem dX10_difference_2 : decode cX10_difference 2 = .ok (.iconst 0, 1) := by decide +kernel
theorem dX10_difference_3 : decode cX10_difference 3 = .ok (.istore_n 3, 1) := by decide +kernel
theorem dX10_difference_4 : decode cX10_difference 4 = .ok (.iload_n 3, 1) := by decide +kernel
theorem dX10_difference_5 : decode cX10_difference 5 = .ok (.aload_n 0, 1) := by decide +kernel
theorem dX10_difference_6 : decode cX10_difference 6 = .ok (.getfield 64, 3) := by decide +kernel
theorem dX10_difference_9 : decode cX10_difference 9 = .ok (.if_icmp .ge 48, 3) := by decide +kernel
theorem dX10_difference_12 : decode cX10_difference 12 = .ok (.aload_n 0, 1) := by decide +kernel
theorem dX10_difference_13 : decode cX10_difference 13 = .ok (.iload_n 3, 1) := by decide +kernel
theorem dX10_difference_14 : decode cX10_difference 14 = .ok (.invokevirtual 241, 3) := by decide +kernel
theorem dX10_difference_17 : decode cX10_difference 17 = .ok (.istore 4, 2) := by decide +kernel
theorem dX10_difference_19 : decode cX10_difference 19 = .ok (.iload 4, 2) := by decide +kernel
theorem dX10_difference_21 : decode cX10_difference 21 = .ok (.sipush (-10000), 3) := by decide +kernel
theorem dX10_difference_24 : decode cX10_difference 24 = .ok (.if_icmp .eq 27, 3) := by decide +kernel
theorem dX10_difference_27 : decode cX10_difference 27 = .ok (.aload_n 0, 1) := by decide +kernel
theorem dX10_difference_28 : decode cX10_difference 28 = .ok (.iload_n 1, 1) := by decide +kernel
theorem dX10_difference_29 : decode cX10_difference 29 = .ok (.iload_n 3, 1) := by decide +kernel
theorem dX10_difference_30 : decode cX10_difference 30 = .ok (.aload_n 0, 1) := by decide +kernel
theorem dX10_difference_31 : decode cX10_difference 31 = .ok (.getfield 67, 3) := by decide +kernel
theorem dX10_difference_34 : decode cX10_difference 34 = .ok (.invokevirtual 235, 3) := by decide +kernel
theorem dX10_difference_37 : decode cX10_difference 37 = .ok (.ifCond .eq 14, 3) := by decide +kernel
theorem dX10_difference_40 : decode cX10_difference 40 = .ok (.iload_n 2, 1) := by decide +kernel
theorem dX10_difference_41 : decode cX10_difference 41 = .ok (.aload_n 0, 1) := by decide +kernel
theorem dX10_difference_42 : decode cX10_difference 42 = .ok (.iload_n 3, 1) := by decide +kernel
theorem dX10_difference_43 : decode cX10_difference 43 = .ok (.invokevirtual 238, 3) := by decide +kernel
theorem dX10_difference_46 : decode cX10_difference 46 = .ok (.iload 4, 2) := by decide +kernel
theorem dX10_difference_48 : decode cX10_difference 48 = .ok (.isub, 1) := by decide +kernel
theorem dX10_difference_49 : decode cX10_difference 49 = .ok (.iadd, 1) := by decide +kernel
theorem dX10_difference_50 : decode cX10_difference 50 = .ok (.istore_n 2, 1) := by decide +kernel
theorem dX10_difference_51 : decode cX10_difference 51 = .ok (.iinc 3 1, 3) := by decide +kernel
theorem dX10_difference_54 : decode cX10_difference 54 = .ok (.goto (-50), 3) := by decide +kernel
theorem dX10_difference_57 : decode cX10_difference 57 = .ok (.iload_n 2, 1) := by decide +kernel
theorem dX10_difference_58 : decode cX10_difference 58 = .ok (.ireturn, 1) := by decide +kernel
theorem dX10_unlike_0 : decode cX10_unlike 0 = .ok (.aload_n 0, 1) := by decide +kernel
theorem dX10_unlike_1 : decode cX10_unlike 1 = .ok (.iload_n 1, 1) := by decide +kernel
theorem dX10_unlike_2 : decode cX10_unlike 2 = .ok (.invokevirtual 119, 3) := by decide +kernel
theorem dX10_unlike_5 : decode cX10_unlike 5 = .ok (.ifnonnull 5, 3) := by decide +kernel
theorem dX10_unlike_8 : decode cX10_unlike 8 = .ok (.iconst (-1), 1) := by decide +kernel
theorem dX10_unlike_9 : decode cX10_unlike 9 = .ok (.ireturn, 1) := by decide +kernel
theorem dX10_unlike_10 : decode cX10_unlike 10 = .ok (.iconst 0, 1) := by decide +kernel
theorem dX10_unlike_11 : decode cX10_unlike 11 = .ok (.istore_n 2, 1) := by decide +kernel
theorem dX10_unlike_12 : decode cX10_unlike 12 = .ok (.iconst 0, 1) := by decide +kernel
theorem dX10_unlike_13 : decode cX10_unlike 13 = .ok (.istore_n 3, 1) := by decide +kernel
theorem dX10_unlike_14 : decode cX10_unlike 14 = .ok (.iload_n 3, 1) := by decide +kernel
theorem dX10_unlike_15 : decode cX10_unlike 15 = .ok (.aload_n 0, 1) := by decide +kernel
theorem dX10_unlike_16 : decode cX10_unlike 16 = .ok (.getfield 64, 3) := by decide +kernel
theorem dX10_unlike_19 : decode cX10_unlike 19 = .ok (.if_icmp .ge 38, 3) := by decide +kernel
theorem dX10_unlike_22 : decode cX10_unlike 22 = .ok (.aload_n 0, 1) := by decide +kernel
theorem dX10_unlike_23 : decode cX10_unlike 23 = .ok (.iload_n 1, 1) := by decide +kernel
theorem dX10_unlike_24 : decode cX10_unlike 24 = .ok (.iload_n 3, 1) := by decide +kernel
theorem dX10_unlike_25 : decode cX10_unlike 25 = .ok (.aload_n 0, 1) := by decide +kernel
theorem dX10_unlike_26 : decode cX10_unlike 26 = .ok (.getfield 67, 3) := by decide +kernel
theorem dX10_unlike_29 : decode cX10_unlike 29 = .ok (.invokevirtual 235, 3) := by decide +kernel
theorem dX10_unlike_32 : decode cX10_unlike 32 = .ok (.ifCond .eq 19, 3) := by decide +kernel
theorem dX10_unlike_35 : decode cX10_unlike 35 = .ok (.aload_n 0, 1) := by decide +kernel
theorem dX10_unlike_36 : decode cX10_unlike 36 = .ok (.iload_n 3, 1) := by decide +kernel
theorem dX10_unlike_37 : decode cX10_unlike 37 = .ok (.invokevirtual 238, 3) := by decide +kernel
theorem dX10_unlike_40 : decode cX10_unlike 40 = .ok (.aload_n 0, 1) := by decide +kernel
theorem dX10_unlike_41 : decode cX10_unlike 41 = .ok (.iload_n 3, 1) := by decide +kernel
theorem dX10_unlike_42 : decode cX10_unlike 42 = .ok (.invokevirtual 241, 3) := by decide +kernel
theorem dX10_unlike_45 : decode cX10_unlike 45 = .ok (.if_icmp .eq 6, 3) := by decide +kernel
theorem dX10_unlike_48 : decode cX10_unlike 48 = .ok (.iinc 2 1, 3) := by decide +kernel
theorem dX10_unlike_51 : decode cX10_unlike 51 = .ok (.iinc 3 1, 3) := by decide +kernel
theorem dX10_unlike_54 : decode cX10_unlike 54 = .ok (.goto (-40), 3) := by decide +kernel
theorem dX10_unlike_57 : decode cX10_unlike 57 = .ok (.iload_n 2, 1) := by decide +kernel
theorem dX10_unlike_58 : decode cX10_unlike 58 = .ok (.ireturn, 1) := by decide +kernel
theorem dX10_count_0 : decode cX10_count 0 = .ok (.iload_n 1, 1) := by decide +kernel
theorem dX10_count_1 : decode cX10_count 1 = .ok (.tableswitch 63 0 4 #[35, 40, 45, 50, 55], 35) := by decide +kernel
theorem dX10_count_36 : decode cX10_count 36 = .ok (.aload_n 0, 1) := by decide +kernel
theorem dX10_count_37 : decode cX10_count 37 = .ok (.getfield 57, 3) := by decide +kernel
theorem dX10_count_40 : decode cX10_count 40 = .ok (.ireturn, 1) := by decide +kernel
theorem dX10_count_41 : decode cX10_count 41 = .ok (.aload_n 0, 1) := by decide +kernel
theorem dX10_count_42 : decode cX10_count 42 = .ok (.getfield 61, 3) := by decide +kernel
theorem dX10_count_45 : decode cX10_count 45 = .ok (.ireturn, 1) := by decide +kernel
theorem dX10_count_46 : decode cX10_count 46 = .ok (.aload_n 0, 1) := by decide +kernel
theorem dX10_count_47 : decode cX10_count 47 = .ok (.getfield 64, 3) := by decide +kernel
theorem dX10_count_50 : decode cX10_count 50 = .ok (.ireturn, 1) := by decide +kernel
theorem dX10_count_51 : decode cX10_count 51 = .ok (.aload_n 0, 1) := by decide +kernel
theorem dX10_count_52 : decode cX10_count 52 = .ok (.getfield 67, 3) := by decide +kernel
theorem dX10_count_55 : decode cX10_count 55 = .ok (.ireturn, 1) := by decide +kernel
theorem dX10_count_56 : decode cX10_count 56 = .ok (.aload_n 0, 1) := by decide +kernel
theorem dX10_count_57 : decode cX10_count 57 = .ok (.getfield 30, 3) := by decide +kernel
theorem dX10_count_60 : decode cX10_count 60 = .ok (.getfield 90, 3) := by decide +kernel
theorem dX10_count_63 : decode cX10_count 63 = .ok (.ireturn, 1) := by decide +kernel
theorem dX10_count_64 : decode cX10_count 64 = .ok (.iconst (-1), 1) := by decide +kernel
theorem dX10_count_65 : decode cX10_count 65 = .ok (.ireturn, 1) := by decide +kernel
theorem dX10_trouble_0 : decode cX10_trouble 0 = .ok (.aload_n 0, 1) := by decide +kernel
theorem dX10_trouble_1 : decode cX10_trouble 1 = .ok (.getfield 70, 3) := by decide +kernel
theorem dX10_trouble_4 : decode cX10_trouble 4 = .ok (.ireturn, 1) := by decide +kernel
theorem dX10_refuse_0 : decode cX10_refuse 0 = .ok (.aload_n 0, 1) := by decide +kernel
theorem dX10_refuse_1 : decode cX10_refuse 1 = .ok (.iload_n 1, 1) := by decide +kernel
theorem dX10_refuse_2 : decode cX10_refuse 2 = .ok (.putfield 70, 3) := by decide +kernel
theorem dX10_refuse_5 : decode cX10_refuse 5 = .ok (.iconst (-1), 1) := by decide +kernel
theorem dX10_refuse_6 : decode cX10_refuse 6 = .ok (.ireturn, 1) := by decide +kernel
theorem dX10_accept_0 : decode cX10_accept 0 = .ok (.aload_n 0, 1) := by decide +kernel
theorem dX10_accept_1 : decode cX10_accept 1 = .ok (.iconst 0, 1) := by decide +kernel
theorem dX10_accept_2 : decode cX10_accept 2 = .ok (.putfield 70, 3) := by decide +kernel
theorem dX10_accept_5 : decode cX10_accept 5 = .ok (.iload_n 1, 1) := by decide +kernel
theorem dX10_accept_6 : decode cX10_accept 6 = .ok (.ireturn, 1) := by decide +kernel
theorem dX10_portAt_0 : decode cX10_portAt 0 = .ok (.iload_n 1, 1) := by decide +kernel
theorem dX10_portAt_1 : decode cX10_portAt 1 = .ok (.ifCond .lt 29, 3) := by decide +kernel
theorem dX10_portAt_4 : decode cX10_portAt 4 = .ok (.iload_n 1, 1) := by decide +kernel
theorem dX10_portAt_5 : decode cX10_portAt 5 = .ok (.aload_n 0, 1) := by decide +kernel
theorem dX10_portAt_6 : decode cX10_portAt 6 = .ok (.getfield 57, 3) := by decide +kernel
theorem dX10_portAt_9 : decode cX10_portAt 9 = .ok (.if_icmp .ge 21, 3) := by decide +kernel
theorem dX10_portAt_12 : decode cX10_portAt 12 = .ok (.iload_n 1, 1) := by decide +kernel
theorem dX10_portAt_13 : decode cX10_portAt 13 = .ok (.aload_n 0, 1) := by decide +kernel
theorem dX10_portAt_14 : decode cX10_portAt 14 = .ok (.getfield 11, 3) := by decide +kernel
theorem dX10_portAt_17 : decode cX10_portAt 17 = .ok (.arraylength, 1) := by decide +kernel
theorem dX10_portAt_18 : decode cX10_portAt 18 = .ok (.if_icmp .ge 12, 3) := by decide +kernel
theorem dX10_portAt_21 : decode cX10_portAt 21 = .ok (.aload_n 0, 1) := by decide +kernel
theorem dX10_portAt_22 : decode cX10_portAt 22 = .ok (.getfield 11, 3) := by decide +kernel
theorem dX10_portAt_25 : decode cX10_portAt 25 = .ok (.iload_n 1, 1) := by decide +kernel
theorem dX10_portAt_26 : decode cX10_portAt 26 = .ok (.aaload, 1) := by decide +kernel
theorem dX10_portAt_27 : decode cX10_portAt 27 = .ok (.goto 4, 3) := by decide +kernel
theorem dX10_portAt_30 : decode cX10_portAt 30 = .ok (.aconst_null, 1) := by decide +kernel
theorem dX10_portAt_31 : decode cX10_portAt 31 = .ok (.areturn, 1) := by decide +kernel
theorem dX10_tariffAt_0 : decode cX10_tariffAt 0 = .ok (.iload_n 1, 1) := by decide +kernel
theorem dX10_tariffAt_1 : decode cX10_tariffAt 1 = .ok (.ifCond .lt 29, 3) := by decide +kernel
theorem dX10_tariffAt_4 : decode cX10_tariffAt 4 = .ok (.iload_n 1, 1) := by decide +kernel
theorem dX10_tariffAt_5 : decode cX10_tariffAt 5 = .ok (.aload_n 0, 1) := by decide +kernel
theorem dX10_tariffAt_6 : decode cX10_tariffAt 6 = .ok (.getfield 61, 3) := by decide +kernel
theorem dX10_tariffAt_9 : decode cX10_tariffAt 9 = .ok (.if_icmp .ge 21, 3) := by decide +kernel
theorem dX10_tariffAt_12 : decode cX10_tariffAt 12 = .ok (.iload_n 1, 1) := by decide +kernel
theorem dX10_tariffAt_13 : decode cX10_tariffAt 13 = .ok (.aload_n 0, 1) := by decide +kernel
theorem dX10_tariffAt_14 : decode cX10_tariffAt 14 = .ok (.getfield 17, 3) := by decide +kernel
theorem dX10_tariffAt_17 : decode cX10_tariffAt 17 = .ok (.arraylength, 1) := by decide +kernel
theorem dX10_tariffAt_18 : decode cX10_tariffAt 18 = .ok (.if_icmp .ge 12, 3) := by decide +kernel
theorem dX10_tariffAt_21 : decode cX10_tariffAt 21 = .ok (.aload_n 0, 1) := by decide +kernel
theorem dX10_tariffAt_22 : decode cX10_tariffAt 22 = .ok (.getfield 17, 3) := by decide +kernel
theorem dX10_tariffAt_25 : decode cX10_tariffAt 25 = .ok (.iload_n 1, 1) := by decide +kernel
theorem dX10_tariffAt_26 : decode cX10_tariffAt 26 = .ok (.aaload, 1) := by decide +kernel
theorem dX10_tariffAt_27 : decode cX10_tariffAt 27 = .ok (.goto 4, 3) := by decide +kernel
theorem dX10_tariffAt_30 : decode cX10_tariffAt 30 = .ok (.aconst_null, 1) := by decide +kernel
theorem dX10_tariffAt_31 : decode cX10_tariffAt 31 = .ok (.areturn, 1) := by decide +kernel
theorem dX10_paperAt_0 : decode cX10_paperAt 0 = .ok (.iload_n 1, 1) := by decide +kernel
theorem dX10_paperAt_1 : decode cX10_paperAt 1 = .ok (.ifCond .lt 29, 3) := by decide +kernel
theorem dX10_paperAt_4 : decode cX10_paperAt 4 = .ok (.iload_n 1, 1) := by decide +kernel
theorem dX10_paperAt_5 : decode cX10_paperAt 5 = .ok (.aload_n 0, 1) := by decide +kernel
theorem dX10_paperAt_6 : decode cX10_paperAt 6 = .ok (.getfield 64, 3) := by decide +kernel
theorem dX10_paperAt_9 : decode cX10_paperAt 9 = .ok (.if_icmp .ge 21, 3) := by decide +kernel
theorem dX10_paperAt_12 : decode cX10_paperAt 12 = .ok (.iload_n 1, 1) := by decide +kernel
theorem dX10_paperAt_13 : decode cX10_paperAt 13 = .ok (.aload_n 0, 1) := by decide +kernel
theorem dX10_paperAt_14 : decode cX10_paperAt 14 = .ok (.getfield 23, 3) := by decide +kernel
theorem dX10_paperAt_17 : decode cX10_paperAt 17 = .ok (.arraylength, 1) := by decide +kernel
theorem dX10_paperAt_18 : decode cX10_paperAt 18 = .ok (.if_icmp .ge 12, 3) := by decide +kernel
theorem dX10_paperAt_21 : decode cX10_paperAt 21 = .ok (.aload_n 0, 1) := by decide +kernel
theorem dX10_paperAt_22 : decode cX10_paperAt 22 = .ok (.getfield 23, 3) := by decide +kernel
theorem dX10_paperAt_25 : decode cX10_paperAt 25 = .ok (.iload_n 1, 1) := by decide +kernel
theorem dX10_paperAt_26 : decode cX10_paperAt 26 = .ok (.aaload, 1) := by decide +kernel
theorem dX10_paperAt_27 : decode cX10_paperAt 27 = .ok (.goto 4, 3) := by decide +kernel
theorem dX10_paperAt_30 : decode cX10_paperAt 30 = .ok (.aconst_null, 1) := by decide +kernel
theorem dX10_paperAt_31 : decode cX10_paperAt 31 = .ok (.areturn, 1) := by decide +kernel
theorem dX10_isWorth_0 : decode cX10_isWorth 0 = .ok (.iload_n 0, 1) := by decide +kernel
theorem dX10_isWorth_1 : decode cX10_isWorth 1 = .ok (.ifCond .lt 15, 3) := by decide +kernel
theorem dX10_isWorth_4 : decode cX10_isWorth 4 = .ok (.iload_n 0, 1) := by decide +kernel
theorem dX10_isWorth_5 : decode cX10_isWorth 5 = .ok (.getstatic 244, 3) := by decide +kernel
theorem dX10_isWorth_8 : decode cX10_isWorth 8 = .ok (.arraylength, 1) := by decide +kernel
theorem dX10_isWorth_9 : decode cX10_isWorth 9 = .ok (.if_icmp .ge 7, 3) := by decide +kernel
theorem dX10_isWorth_12 : decode cX10_isWorth 12 = .ok (.iconst 1, 1) := by decide +kernel
theorem dX10_isWorth_13 : decode cX10_isWorth 13 = .ok (.goto 4, 3) := by decide +kernel
theorem dX10_isWorth_16 : decode cX10_isWorth 16 = .ok (.iconst 0, 1) := by decide +kernel
theorem dX10_isWorth_17 : decode cX10_isWorth 17 = .ok (.ireturn, 1) := by decide +kernel
theorem dX10_isPaper_0 : decode cX10_isPaper 0 = .ok (.iload_n 0, 1) := by decide +kernel
theorem dX10_isPaper_1 : decode cX10_isPaper 1 = .ok (.ifCond .lt 35, 3) := by decide +kernel
theorem dX10_isPaper_4 : decode cX10_isPaper 4 = .ok (.iload_n 0, 1) := by decide +kernel
theorem dX10_isPaper_5 : decode cX10_isPaper 5 = .ok (.bipush 9, 2) := by decide +kernel
theorem dX10_isPaper_7 : decode cX10_isPaper 7 = .ok (.if_icmp .gt 29, 3) := by decide +kernel
theorem dX10_isPaper_10 : decode cX10_isPaper 10 = .ok (.iload_n 1, 1) := by decide +kernel
theorem dX10_isPaper_11 : decode cX10_isPaper 11 = .ok (.ifCond .lt 25, 3) := by decide +kernel
theorem dX10_isPaper_14 : decode cX10_isPaper 14 = .ok (.iload_n 1, 1) := by decide +kernel
theorem dX10_isPaper_15 : decode cX10_isPaper 15 = .ok (.sipush 9999, 3) := by decide +kernel
theorem dX10_isPaper_18 : decode cX10_isPaper 18 = .ok (.if_icmp .gt 18, 3) := by decide +kernel
theorem dX10_isPaper_21 : decode cX10_isPaper 21 = .ok (.iload_n 2, 1) := by decide +kernel
theorem dX10_isPaper_22 : decode cX10_isPaper 22 = .ok (.iconst 1, 1) := by decide +kernel
theorem dX10_isPaper_23 : decode cX10_isPaper 23 = .ok (.if_icmp .lt 13, 3) := by decide +kernel
theorem dX10_isPaper_26 : decode cX10_isPaper 26 = .ok (.iload_n 2, 1) := by decide +kernel
theorem dX10_isPaper_27 : decode cX10_isPaper 27 = .ok (.bipush 99, 2) := by decide +kernel
theorem dX10_isPaper_29 : decode cX10_isPaper 29 = .ok (.if_icmp .gt 7, 3) := by decide +kernel
theorem dX10_isPaper_32 : decode cX10_isPaper 32 = .ok (.iconst 1, 1) := by decide +kernel
theorem dX10_isPaper_33 : decode cX10_isPaper 33 = .ok (.goto 4, 3) := by decide +kernel
theorem dX10_isPaper_36 : decode cX10_isPaper 36 = .ok (.iconst 0, 1) := by decide +kernel
theorem dX10_isPaper_37 : decode cX10_isPaper 37 = .ok (.ireturn, 1) := by decide +kernel
theorem dX10_isPast_0 : decode cX10_isPast 0 = .ok (.iload_n 1, 1) := by decide +kernel
theorem dX10_isPast_1 : decode cX10_isPast 1 = .ok (.ifCond .lt 15, 3) := by decide +kernel
theorem dX10_isPast_4 : decode cX10_isPast 4 = .ok (.iload_n 1, 1) := by decide +kernel
theorem dX10_isPast_5 : decode cX10_isPast 5 = .ok (.aload_n 0, 1) := by decide +kernel
theorem dX10_isPast_6 : decode cX10_isPast 6 = .ok (.getfield 67, 3) := by decide +kernel
theorem dX10_isPast_9 : decode cX10_isPast 9 = .ok (.if_icmp .gt 7, 3) := by decide +kernel
theorem dX10_isPast_12 : decode cX10_isPast 12 = .ok (.iconst 1, 1) := by decide +kernel
theorem dX10_isPast_13 : decode cX10_isPast 13 = .ok (.goto 4, 3) := by decide +kernel
theorem dX10_isPast_16 : decode cX10_isPast 16 = .ok (.iconst 0, 1) := by decide +kernel
theorem dX10_isPast_17 : decode cX10_isPast 17 = .ok (.ireturn, 1) := by decide +kernel
theorem dX10_sendOut_0 : decode cX10_sendOut 0 = .ok (.iconst 0, 1) := by decide +kernel
theorem dX10_sendOut_1 : decode cX10_sendOut 1 = .ok (.istore_n 1, 1) := by decide +kernel
theorem dX10_sendOut_2 : decode cX10_sendOut 2 = .ok (.iload_n 1, 1) := by decide +kernel
theorem dX10_sendOut_3 : decode cX10_sendOut 3 = .ok (.aload_n 0, 1) := by decide +kernel
theorem dX10_sendOut_4 : decode cX10_sendOut 4 = .ok (.getfield 57, 3) := by decide +kernel
theorem dX10_sendOut_7 : decode cX10_sendOut 7 = .ok (.if_icmp .ge 32, 3) := by decide +kernel
theorem dX10_sendOut_10 : decode cX10_sendOut 10 = .ok (.aload_n 0, 1) := by decide +kernel
theorem dX10_sendOut_11 : decode cX10_sendOut 11 = .ok (.iload_n 1, 1) := by decide +kernel
theorem dX10_sendOut_12 : decode cX10_sendOut 12 = .ok (.invokevirtual 119, 3) := by decide +kernel
theorem dX10_sendOut_15 : decode cX10_sendOut 15 = .ok (.astore_n 2, 1) := by decide +kernel
theorem dX10_sendOut_16 : decode cX10_sendOut 16 = .ok (.aload_n 2, 1) := by decide +kernel
theorem dX10_sendOut_17 : decode cX10_sendOut 17 = .ok (.ifnull 16, 3) := by decide +kernel
theorem dX10_sendOut_20 : decode cX10_sendOut 20 = .ok (.aload_n 2, 1) := by decide +kernel
theorem dX10_sendOut_21 : decode cX10_sendOut 21 = .ok (.aload_n 0, 1) := by decide +kernel
theorem dX10_sendOut_22 : decode cX10_sendOut 22 = .ok (.getfield 67, 3) := by decide +kernel
theorem dX10_sendOut_25 : decode cX10_sendOut 25 = .ok (.aload_n 2, 1) := by decide +kernel
theorem dX10_sendOut_26 : decode cX10_sendOut 26 = .ok (.getfield 223, 3) := by decide +kernel
theorem dX10_sendOut_29 : decode cX10_sendOut 29 = .ok (.iadd, 1) := by decide +kernel
theorem dX10_sendOut_30 : decode cX10_sendOut 30 = .ok (.invokevirtual 83, 3) := by decide +kernel
theorem dX10_sendOut_33 : decode cX10_sendOut 33 = .ok (.iinc 1 1, 3) := by decide +kernel
theorem dX10_sendOut_36 : decode cX10_sendOut 36 = .ok (.goto (-34), 3) := by decide +kernel
theorem dX10_sendOut_39 : decode cX10_sendOut 39 = .ok (.return_, 1) := by decide +kernel
theorem dX10_knownDay_0 : decode cX10_knownDay 0 = .ok (.aload_n 0, 1) := by decide +kernel
theorem dX10_knownDay_1 : decode cX10_knownDay 1 = .ok (.aload_n 1, 1) := by decide +kernel
theorem dX10_knownDay_2 : decode cX10_knownDay 2 = .ok (.getfield 190, 3) := by decide +kernel
theorem dX10_knownDay_5 : decode cX10_knownDay 5 = .ok (.invokevirtual 119, 3) := by decide +kernel
theorem dX10_knownDay_8 : decode cX10_knownDay 8 = .ok (.astore_n 2, 1) := by decide +kernel
theorem dX10_knownDay_9 : decode cX10_knownDay 9 = .ok (.aload_n 2, 1) := by decide +kernel
theorem dX10_knownDay_10 : decode cX10_knownDay 10 = .ok (.ifnonnull 7, 3) := by decide +kernel
theorem dX10_knownDay_13 : decode cX10_knownDay 13 = .ok (.iconst 0, 1) := by decide +kernel
theorem dX10_knownDay_14 : decode cX10_knownDay 14 = .ok (.goto 7, 3) := by decide +kernel
theorem dX10_knownDay_17 : decode cX10_knownDay 17 = .ok (.aload_n 2, 1) := by decide +kernel
theorem dX10_knownDay_18 : decode cX10_knownDay 18 = .ok (.getfield 223, 3) := by decide +kernel
theorem dX10_knownDay_21 : decode cX10_knownDay 21 = .ok (.istore_n 3, 1) := by decide +kernel
theorem dX10_knownDay_22 : decode cX10_knownDay 22 = .ok (.aload_n 1, 1) := by decide +kernel
theorem dX10_knownDay_23 : decode cX10_knownDay 23 = .ok (.getfield 202, 3) := by decide +kernel
theorem dX10_knownDay_26 : decode cX10_knownDay 26 = .ok (.invokestatic 247, 3) := by decide +kernel
theorem dX10_knownDay_29 : decode cX10_knownDay 29 = .ok (.bipush 30, 2) := by decide +kernel
theorem dX10_knownDay_31 : decode cX10_knownDay 31 = .ok (.imul, 1) := by decide +kernel
theorem dX10_knownDay_32 : decode cX10_knownDay 32 = .ok (.iload_n 3, 1) := by decide +kernel
theorem dX10_knownDay_33 : decode cX10_knownDay 33 = .ok (.iadd, 1) := by decide +kernel
theorem dX10_knownDay_34 : decode cX10_knownDay 34 = .ok (.ireturn, 1) := by decide +kernel
theorem dX10_isKnown_0 : decode cX10_isKnown 0 = .ok (.aload_n 0, 1) := by decide +kernel
theorem dX10_isKnown_1 : decode cX10_isKnown 1 = .ok (.aload_n 1, 1) := by decide +kernel
theorem dX10_isKnown_2 : decode cX10_isKnown 2 = .ok (.invokevirtual 219, 3) := by decide +kernel
theorem dX10_isKnown_5 : decode cX10_isKnown 5 = .ok (.iload_n 2, 1) := by decide +kernel
theorem dX10_isKnown_6 : decode cX10_isKnown 6 = .ok (.if_icmp .gt 7, 3) := by decide +kernel
theorem dX10_isKnown_9 : decode cX10_isKnown 9 = .ok (.iconst 1, 1) := by decide +kernel
theorem dX10_isKnown_10 : decode cX10_isKnown 10 = .ok (.goto 4, 3) := by decide +kernel
theorem dX10_isKnown_13 : decode cX10_isKnown 13 = .ok (.iconst 0, 1) := by decide +kernel
theorem dX10_isKnown_14 : decode cX10_isKnown 14 = .ok (.ireturn, 1) := by decide +kernel
theorem dX10_isKnownOf_0 : decode cX10_isKnownOf 0 = .ok (.aload_n 0, 1) := by decide +kernel
theorem dX10_isKnownOf_1 : decode cX10_isKnownOf 1 = .ok (.iload_n 2, 1) := by decide +kernel
theorem dX10_isKnownOf_2 : decode cX10_isKnownOf 2 = .ok (.invokevirtual 186, 3) := by decide +kernel
theorem dX10_isKnownOf_5 : decode cX10_isKnownOf 5 = .ok (.astore 4, 2) := by decide +kernel
theorem dX10_isKnownOf_7 : decode cX10_isKnownOf 7 = .ok (.aload 4, 2) := by decide +kernel
theorem dX10_isKnownOf_9 : decode cX10_isKnownOf 9 = .ok (.ifnull 26, 3) := by decide +kernel
theorem dX10_isKnownOf_12 : decode cX10_isKnownOf 12 = .ok (.aload 4, 2) := by decide +kernel
theorem dX10_isKnownOf_14 : decode cX10_isKnownOf 14 = .ok (.getfield 190, 3) := by decide +kernel
theorem dX10_isKnownOf_17 : decode cX10_isKnownOf 17 = .ok (.iload_n 1, 1) := by decide +kernel
theorem dX10_isKnownOf_18 : decode cX10_isKnownOf 18 = .ok (.if_icmp .ne 17, 3) := by decide +kernel
theorem dX10_isKnownOf_21 : decode cX10_isKnownOf 21 = .ok (.aload_n 0, 1) := by decide +kernel
theorem dX10_isKnownOf_22 : decode cX10_isKnownOf 22 = .ok (.aload 4, 2) := by decide +kernel
theorem dX10_isKnownOf_24 : decode cX10_isKnownOf 24 = .ok (.iload_n 3, 1) := by decide +kernel
theorem dX10_isKnownOf_25 : decode cX10_isKnownOf 25 = .ok (.invokevirtual 215, 3) := by decide +kernel
theorem dX10_isKnownOf_28 : decode cX10_isKnownOf 28 = .ok (.ifCond .eq 7, 3) := by decide +kernel
theorem dX10_isKnownOf_31 : decode cX10_isKnownOf 31 = .ok (.iconst 1, 1) := by decide +kernel
theorem dX10_isKnownOf_32 : decode cX10_isKnownOf 32 = .ok (.goto 4, 3) := by decide +kernel
theorem dX10_isKnownOf_35 : decode cX10_isKnownOf 35 = .ok (.iconst 0, 1) := by decide +kernel
theorem dX10_isKnownOf_36 : decode cX10_isKnownOf 36 = .ok (.ireturn, 1) := by decide +kernel
theorem dX10_chargedFor_0 : decode cX10_chargedFor 0 = .ok (.aload_n 0, 1) := by decide +kernel
theorem dX10_chargedFor_1 : decode cX10_chargedFor 1 = .ok (.iload_n 1, 1) := by decide +kernel
theorem dX10_chargedFor_2 : decode cX10_chargedFor 2 = .ok (.invokevirtual 186, 3) := by decide +kernel
theorem dX10_chargedFor_5 : decode cX10_chargedFor 5 = .ok (.astore_n 2, 1) := by decide +kernel
theorem dX10_chargedFor_6 : decode cX10_chargedFor 6 = .ok (.aload_n 2, 1) := by decide +kernel
theorem dX10_chargedFor_7 : decode cX10_chargedFor 7 = .ok (.ifnonnull 7, 3) := by decide +kernel
theorem dX10_chargedFor_10 : decode cX10_chargedFor 10 = .ok (.iconst 0, 1) := by decide +kernel
theorem dX10_chargedFor_11 : decode cX10_chargedFor 11 = .ok (.goto 7, 3) := by decide +kernel
theorem dX10_chargedFor_14 : decode cX10_chargedFor 14 = .ok (.aload_n 2, 1) := by decide +kernel
theorem dX10_chargedFor_15 : decode cX10_chargedFor 15 = .ok (.getfield 205, 3) := by decide +kernel
theorem dX10_chargedFor_18 : decode cX10_chargedFor 18 = .ok (.ireturn, 1) := by decide +kernel
theorem dX10_homeFee_0 : decode cX10_homeFee 0 = .ok (.aload_n 0, 1) := by decide +kernel
theorem dX10_homeFee_1 : decode cX10_homeFee 1 = .ok (.iload_n 1, 1) := by decide +kernel
theorem dX10_homeFee_2 : decode cX10_homeFee 2 = .ok (.invokevirtual 186, 3) := by decide +kernel
theorem dX10_homeFee_5 : decode cX10_homeFee 5 = .ok (.astore_n 2, 1) := by decide +kernel
theorem dX10_homeFee_6 : decode cX10_homeFee 6 = .ok (.aload_n 2, 1) := by decide +kernel
theorem dX10_homeFee_7 : decode cX10_homeFee 7 = .ok (.ifnonnull 7, 3) := by decide +kernel
theorem dX10_homeFee_10 : decode cX10_homeFee 10 = .ok (.sipush (-10000), 3) := by decide +kernel
theorem dX10_homeFee_13 : decode cX10_homeFee 13 = .ok (.ireturn, 1) := by decide +kernel
theorem dX10_homeFee_14 : decode cX10_homeFee 14 = .ok (.aload_n 0, 1) := by decide +kernel
theorem dX10_homeFee_15 : decode cX10_homeFee 15 = .ok (.getfield 61, 3) := by decide +kernel
theorem dX10_homeFee_18 : decode cX10_homeFee 18 = .ok (.iconst 1, 1) := by decide +kernel
theorem dX10_homeFee_19 : decode cX10_homeFee 19 = .ok (.isub, 1) := by decide +kernel
theorem dX10_homeFee_20 : decode cX10_homeFee 20 = .ok (.istore_n 3, 1) := by decide +kernel
theorem dX10_homeFee_21 : decode cX10_homeFee 21 = .ok (.iload_n 3, 1) := by decide +kernel
theorem dX10_homeFee_22 : decode cX10_homeFee 22 = .ok (.ifCond .lt 57, 3) := by decide +kernel
theorem dX10_homeFee_25 : decode cX10_homeFee 25 = .ok (.aload_n 0, 1) := by decide +kernel
theorem dX10_homeFee_26 : decode cX10_homeFee 26 = .ok (.iload_n 3, 1) := by decide +kernel
theorem dX10_homeFee_27 : decode cX10_homeFee 27 = .ok (.invokevirtual 153, 3) := by decide +kernel
theorem dX10_homeFee_30 : decode cX10_homeFee 30 = .ok (.astore 4, 2) := by decide +kernel
theorem dX10_homeFee_32 : decode cX10_homeFee 32 = .ok (.aload 4, 2) := by decide +kernel
theorem dX10_homeFee_34 : decode cX10_homeFee 34 = .ok (.ifnull 39, 3) := by decide +kernel
theorem dX10_homeFee_37 : decode cX10_homeFee 37 = .ok (.aload 4, 2) := by decide +kernel
theorem dX10_homeFee_39 : decode cX10_homeFee 39 = .ok (.getfield 250, 3) := by decide +kernel
theorem dX10_homeFee_42 : decode cX10_homeFee 42 = .ok (.aload_n 2, 1) := by decide +kernel
theorem dX10_homeFee_43 : decode cX10_homeFee 43 = .ok (.getfield 202, 3) := by decide +kernel
theorem dX10_homeFee_46 : decode cX10_homeFee 46 = .ok (.if_icmp .gt 27, 3) := by decide +kernel
theorem dX10_homeFee_49 : decode cX10_homeFee 49 = .ok (.aload 4, 2) := by decide +kernel
theorem dX10_homeFee_51 : decode cX10_homeFee 51 = .ok (.aload_n 2, 1) := by decide +kernel
theorem dX10_homeFee_52 : decode cX10_homeFee 52 = .ok (.invokevirtual 166, 3) := by decide +kernel
theorem dX10_homeFee_55 : decode cX10_homeFee 55 = .ok (.istore 5, 2) := by decide +kernel
theorem dX10_homeFee_57 : decode cX10_homeFee 57 = .ok (.iload 5, 2) := by decide +kernel
theorem dX10_homeFee_59 : decode cX10_homeFee 59 = .ok (.bipush (-2), 2) := by decide +kernel
theorem dX10_homeFee_61 : decode cX10_homeFee 61 = .ok (.if_icmp .ne 9, 3) := by decide +kernel
theorem dX10_homeFee_64 : decode cX10_homeFee 64 = .ok (.sipush (-10000), 3) := by decide +kernel
theorem dX10_homeFee_67 : decode cX10_homeFee 67 = .ok (.goto 5, 3) := by decide +kernel
theorem dX10_homeFee_70 : decode cX10_homeFee 70 = .ok (.iload 5, 2) := by decide +kernel
theorem dX10_homeFee_72 : decode cX10_homeFee 72 = .ok (.ireturn, 1) := by decide +kernel
theorem dX10_homeFee_73 : decode cX10_homeFee 73 = .ok (.iinc 3 (-1), 3) := by decide +kernel
theorem dX10_homeFee_76 : decode cX10_homeFee 76 = .ok (.goto (-55), 3) := by decide +kernel
theorem dX10_homeFee_79 : decode cX10_homeFee 79 = .ok (.sipush (-10000), 3) := by decide +kernel
theorem dX10_homeFee_82 : decode cX10_homeFee 82 = .ok (.ireturn, 1) := by decide +kernel
theorem dX10_accountsBelow_0 : decode cX10_accountsBelow 0 = .ok (.iload_n 0, 1) := by decide +kernel
theorem dX10_accountsBelow_1 : decode cX10_accountsBelow 1 = .ok (.ifCond .gt 7, 3) := by decide +kernel
theorem dX10_accountsBelow_4 : decode cX10_accountsBelow 4 = .ok (.iconst 0, 1) := by decide +kernel
theorem dX10_accountsBelow_5 : decode cX10_accountsBelow 5 = .ok (.goto 12, 3) := by decide +kernel
theorem dX10_accountsBelow_8 : decode cX10_accountsBelow 8 = .ok (.iload_n 0, 1) := by decide +kernel
theorem dX10_accountsBelow_9 : decode cX10_accountsBelow 9 = .ok (.bipush 30, 2) := by decide +kernel
theorem dX10_accountsBelow_11 : decode cX10_accountsBelow 11 = .ok (.iadd, 1) := by decide +kernel
theorem dX10_accountsBelow_12 : decode cX10_accountsBelow 12 = .ok (.iconst 1, 1) := by decide +kernel
theorem dX10_accountsBelow_13 : decode cX10_accountsBelow 13 = .ok (.isub, 1) := by decide +kernel
theorem dX10_accountsBelow_14 : decode cX10_accountsBelow 14 = .ok (.bipush 30, 2) := by decide +kernel
theorem dX10_accountsBelow_16 : decode cX10_accountsBelow 16 = .ok (.idiv, 1) := by decide +kernel
theorem dX10_accountsBelow_17 : decode cX10_accountsBelow 17 = .ok (.ireturn, 1) := by decide +kernel
theorem dX11_init_0 : decode cX11_init 0 = .ok (.aload_n 0, 1) := by decide +kernel
theorem dX11_init_1 : decode cX11_init 1 = .ok (.aconst_null, 1) := by decide +kernel
theorem dX11_init_2 : decode cX11_init 2 = .ok (.aconst_null, 1) := by decide +kernel
theorem dX11_init_3 : decode cX11_init 3 = .ok (.iconst 0, 1) := by decide +kernel
theorem dX11_init_4 : decode cX11_init 4 = .ok (.iconst 0, 1) := by decide +kernel
theorem dX11_init_5 : decode cX11_init 5 = .ok (.invokespecial 1, 3) := by decide +kernel
theorem dX11_init_8 : decode cX11_init 8 = .ok (.return_, 1) := by decide +kernel
end
section
theorem dX12_init_0 : decode cX12_init 0 = .ok (.aload_n 0, 1) := by decide +kernel
theorem dX12_init_1 : decode cX12_init 1 = .ok (.invokespecial 1, 3) := by decide +kernel
theorem dX12_init_4 : decode cX12_init 4 = .ok (.aload_n 0, 1) := by decide +kernel
theorem dX12_init_5 : decode cX12_init 5 = .ok (.iconst (-1), 1) := by decide +kernel
theorem dX12_init_6 : decode cX12_init 6 = .ok (.putfield 9, 3) := by decide +kernel
theorem dX12_init_9 : decode cX12_init 9 = .ok (.aload_n 0, 1) := by decide +kernel
theorem dX12_init_10 : decode cX12_init 10 = .ok (.new 13, 3) := by decide +kernel
theorem dX12_init_13 : decode cX12_init 13 = .ok (.dup, 1) := by decide +kernel
theorem dX12_init_14 : decode cX12_init 14 = .ok (.invokespecial 15, 3) := by decide +kernel
theorem dX12_init_17 : decode cX12_init 17 = .ok (.putfield 16, 3) := by decide +kernel
theorem dX12_init_20 : decode cX12_init 20 = .ok (.aload_n 0, 1) := by decide +kernel
theorem dX12_init_21 : decode cX12_init 21 = .ok (.sipush 300, 3) := by decide +kernel
theorem dX12_init_24 : decode cX12_init 24 = .ok (.newarray .byte, 2) := by decide +kernel
theorem dX12_init_26 : decode cX12_init 26 = .ok (.putfield 20, 3) := by decide +kernel
theorem dX12_init_29 : decode cX12_init 29 = .ok (.aload_n 0, 1) := by decide +kernel
theorem dX12_init_30 : decode cX12_init 30 = .ok (.bipush 30, 2) := by decide +kernel
theorem dX12_init_32 : decode cX12_init 32 = .ok (.newarray .int, 2) := by decide +kernel
theorem dX12_init_34 : decode cX12_init 34 = .ok (.putfield 24, 3) := by decide +kernel
theorem dX12_init_37 : decode cX12_init 37 = .ok (.aload_n 0, 1) := by decide +kernel
theorem dX12_init_38 : decode cX12_init 38 = .ok (.bipush 31, 2) := by decide +kernel
theorem dX12_init_40 : decode cX12_init 40 = .ok (.newarray .int, 2) := by decide +kernel
theorem dX12_init_42 : decode cX12_init 42 = .ok (.putfield 28, 3) := by decide +kernel
theorem dX12_init_45 : decode cX12_init 45 = .ok (.aload_n 0, 1) := by decide +kernel
theorem dX12_init_46 : decode cX12_init 46 = .ok (.sipush 372, 3) := by decide +kernel
theorem dX12_init_49 : decode cX12_init 49 = .ok (.newarray .int, 2) := by decide +kernel
theorem dX12_init_51 : decode cX12_init 51 = .ok (.putfield 31, 3) := by decide +kernel
theorem dX12_init_54 : decode cX12_init 54 = .ok (.aload_n 0, 1) := by decide +kernel
theorem dX12_init_55 : decode cX12_init 55 = .ok (.sipush 372, 3) := by decide +kernel
theorem dX12_init_58 : decode cX12_init 58 = .ok (.newarray .int, 2) := by decide +kernel
theorem dX12_init_60 : decode cX12_init 60 = .ok (.putfield 34, 3) := by decide +kernel
theorem dX12_init_63 : decode cX12_init 63 = .ok (.aload_n 0, 1) := by decide +kernel
theorem dX12_init_64 : decode cX12_init 64 = .ok (.sipush 372, 3) := by decide +kernel
theorem dX12_init_67 : decode cX12_init 67 = .ok (.newarray .int, 2) := by decide +kernel
theorem dX12_init_69 : decode cX12_init 69 = .ok (.putfield 37, 3) := by decide +kernel
theorem dX12_init_72 : decode cX12_init 72 = .ok (.aload_n 0, 1) := by decide +kernel
theorem dX12_init_73 : decode cX12_init 73 = .ok (.sipush 1488, 3) := by decide +kernel
theorem dX12_init_76 : decode cX12_init 76 = .ok (.newarray .int, 2) := by decide +kernel
theorem dX12_init_78 : decode cX12_init 78 = .ok (.putfield 40, 3) := by decide +kernel
theorem dX12_init_81 : decode cX12_init 81 = .ok (.aload_n 0, 1) := by decide +kernel
theorem dX12_init_82 : decode cX12_init 82 = .ok (.sipush 1488, 3) := by decide +kernel
theorem dX12_init_85 : decode cX12_init 85 = .ok (.newarray .int, 2) := by decide +kernel
theorem dX12_init_87 : decode cX12_init 87 = .ok (.putfield 43, 3) := by decide +kernel
theorem dX12_init_90 : decode cX12_init 90 = .ok (.aload_n 0, 1) := by decide +kernel
theorem dX12_init_91 : decode cX12_init 91 = .ok (.sipush 1488, 3) := by decide +kernel
theorem dX12_init_94 : decode cX12_init 94 = .ok (.newarray .int, 2) := by decide +kernel
theorem dX12_init_96 : decode cX12_init 96 = .ok (.putfield 46, 3) := by decide +kernel
theorem dX12_init_99 : decode cX12_init 99 = .ok (.aload_n 0, 1) := by decide +kernel
theorem dX12_init_100 : decode cX12_init 100 = .ok (.sipush 1488, 3) := by decide +kernel
theorem dX12_init_103 : decode cX12_init 103 = .ok (.newarray .int, 2) := by decide +kernel
theorem dX12_init_105 : decode cX12_init 105 = .ok (.putfield 49, 3) := by decide +kernel
theorem dX12_init_108 : decode cX12_init 108 = .ok (.aload_n 0, 1) := by decide +kernel
theorem dX12_init_109 : decode cX12_init 109 = .ok (.sipush 1488, 3) := by decide +kernel
theorem dX12_init_112 : decode cX12_init 112 = .ok (.newarray .int, 2) := by decide +kernel
theorem dX12_init_114 : decode cX12_init 114 = .ok (.putfield 52, 3) := by decide +kernel
theorem dX12_init_117 : decode cX12_init 117 = .ok (.aload_n 0, 1) := by decide +kernel
theorem dX12_init_118 : decode cX12_init 118 = .ok (.sipush 1488, 3) := by decide +kernel
theorem dX12_init_121 : decode cX12_init 121 = .ok (.newarray .int, 2) := by decide +kernel
theorem dX12_init_123 : decode cX12_init 123 = .ok (.putfield 55, 3) := by decide +kernel
theorem dX12_init_126 : decode cX12_init 126 = .ok (.aload_n 0, 1) := by decide +kernel
theorem dX12_init_127 : decode cX12_init 127 = .ok (.bipush 8, 2) := by decide +kernel
theorem dX12_init_129 : decode cX12_init 129 = .ok (.newarray .int, 2) := by decide +kernel
theorem dX12_init_131 : decode cX12_init 131 = .ok (.putfield 58, 3) := by decide +kernel
theorem dX12_init_134 : decode cX12_init 134 = .ok (.aload_n 0, 1) := by decide +kernel
theorem dX12_init_135 : decode cX12_init 135 = .ok (.bipush 8, 2) := by decide +kernel
theorem dX12_init_137 : decode cX12_init 137 = .ok (.newarray .int, 2) := by decide +kernel
theorem dX12_init_139 : decode cX12_init 139 = .ok (.putfield 61, 3) := by decide +kernel
theorem dX12_init_142 : decode cX12_init 142 = .ok (.aload_n 0, 1) := by decide +kernel
theorem dX12_init_143 : decode cX12_init 143 = .ok (.bipush 8, 2) := by decide +kernel
theorem dX12_init_145 : decode cX12_init 145 = .ok (.newarray .int, 2) := by decide +kernel
theorem dX12_init_147 : decode cX12_init 147 = .ok (.putfield 64, 3) := by decide +kernel
theorem dX12_init_150 : decode cX12_init 150 = .ok (.aload_n 0, 1) := by decide +kernel
theorem dX12_init_151 : decode cX12_init 151 = .ok (.bipush 8, 2) := by decide +kernel
theorem dX12_init_153 : decode cX12_init 153 = .ok (.newarray .int, 2) := by decide +kernel
theorem dX12_init_155 : decode cX12_init 155 = .ok (.putfield 67, 3) := by decide +kernel
theorem dX12_init_158 : decode cX12_init 158 = .ok (.aload_n 0, 1) := by decide +kernel
theorem dX12_init_159 : decode cX12_init 159 = .ok (.bipush 8, 2) := by decide +kernel
theorem dX12_init_161 : decode cX12_init 161 = .ok (.newarray .int, 2) := by decide +kernel
theorem dX12_init_163 : decode cX12_init 163 = .ok (.putfield 70, 3) := by decide +kernel
theorem dX12_init_166 : decode cX12_init 166 = .ok (.aload_n 0, 1) := by decide +kernel
theorem dX12_init_167 : decode cX12_init 167 = .ok (.bipush 40, 2) := by decide +kernel
theorem dX12_init_169 : decode cX12_init 169 = .ok (.newarray .int, 2) := by decide +kernel
theorem dX12_init_171 : decode cX12_init 171 = .ok (.putfield 73, 3) := by decide +kernel
theorem dX12_init_174 : decode cX12_init 174 = .ok (.aload_n 0, 1) := by decide +kernel
theorem dX12_init_175 : decode cX12_init 175 = .ok (.sipush 240, 3) := by decide +kernel
theorem dX12_init_178 : decode cX12_init 178 = .ok (.newarray .int, 2) := by decide +kernel
theorem dX12_init_180 : decode cX12_init 180 = .ok (.putfield 76, 3) := by decide +kernel
theorem dX12_init_183 : decode cX12_init 183 = .ok (.aload_n 0, 1) := by decide +kernel
theorem dX12_init_184 : decode cX12_init 184 = .ok (.sipush 240, 3) := by decide +kernel
theorem dX12_init_187 : decode cX12_init 187 = .ok (.newarray .int, 2) := by decide +kernel
theorem dX12_init_189 : decode cX12_init 189 = .ok (.putfield 79, 3) := by decide +kernel
theorem dX12_init_192 : decode cX12_init 192 = .ok (.aload_n 0, 1) := by decide +kernel
theorem dX12_init_193 : decode cX12_init 193 = .ok (.sipush 240, 3) := by decide +kernel
theorem dX12_init_196 : decode cX12_init 196 = .ok (.newarray .int, 2) := by decide +kernel
theorem dX12_init_198 : decode cX12_init 198 = .ok (.putfield 82, 3) := by decide +kernel
theorem dX12_init_201 : decode cX12_init 201 = .ok (.aload_n 0, 1) := by decide +kernel
theorem dX12_init_202 : decode cX12_init 202 = .ok (.sipush 240, 3) := by decide +kernel
theorem dX12_init_205 : decode cX12_init 205 = .ok (.newarray .boolean, 2) := by decide +kernel
theorem dX12_init_207 : decode cX12_init 207 = .ok (.putfield 85, 3) := by decide +kernel
theorem dX12_init_210 : decode cX12_init 210 = .ok (.aload_n 0, 1) := by decide +kernel
theorem dX12_init_211 : decode cX12_init 211 = .ok (.sipush 200, 3) := by decide +kernel
theorem dX12_init_214 : decode cX12_init 214 = .ok (.newarray .int, 2) := by decide +kernel
theorem dX12_init_216 : decode cX12_init 216 = .ok (.putfield 89, 3) := by decide +kernel
theorem dX12_init_219 : decode cX12_init 219 = .ok (.aload_n 0, 1) := by decide +kernel
theorem dX12_init_220 : decode cX12_init 220 = .ok (.sipush 200, 3) := by decide +kernel
theorem dX12_init_223 : decode cX12_init 223 = .ok (.newarray .int, 2) := by decide +kernel
theorem dX12_init_225 : decode cX12_init 225 = .ok (.putfield 92, 3) := by decide +kernel
theorem dX12_init_228 : decode cX12_init 228 = .ok (.aload_n 0, 1) := by decide +kernel
theorem dX12_init_229 : decode cX12_init 229 = .ok (.sipush 200, 3) := by decide +kernel
theorem dX12_init_232 : decode cX12_init 232 = .ok (.newarray .int, 2) := by decide +kernel
theorem dX12_init_234 : decode cX12_init 234 = .ok (.putfield 95, 3) := by decide +kernel
theorem dX12_init_237 : decode cX12_init 237 = .ok (.aload_n 0, 1) := by decide +kernel
theorem dX12_init_238 : decode cX12_init 238 = .ok (.sipush 200, 3) := by decide +kernel
theorem dX12_init_241 : decode cX12_init 241 = .ok (.newarray .int, 2) := by decide +kernel
theorem dX12_init_243 : decode cX12_init 243 = .ok (.putfield 98, 3) := by decide +kernel
theorem dX12_init_246 : decode cX12_init 246 = .ok (.aload_n 0, 1) := by decide +kernel
theorem dX12_init_247 : decode cX12_init 247 = .ok (.sipush 200, 3) := by decide +kernel
theorem dX12_init_250 : decode cX12_init 250 = .ok (.newarray .int, 2) := by decide +kernel
theorem dX12_init_252 : decode cX12_init 252 = .ok (.putfield 101, 3) := by decide +kernel
theorem dX12_init_255 : decode cX12_init 255 = .ok (.aload_n 0, 1) := by decide +kernel
theorem dX12_init_256 : decode cX12_init 256 = .ok (.sipush 200, 3) := by decide +kernel
theorem dX12_init_259 : decode cX12_init 259 = .ok (.newarray .int, 2) := by decide +kernel
theorem dX12_init_261 : decode cX12_init 261 = .ok (.putfield 104, 3) := by decide +kernel
theorem dX12_init_264 : decode cX12_init 264 = .ok (.aload_n 0, 1) := by decide +kernel
theorem dX12_init_265 : decode cX12_init 265 = .ok (.sipush 200, 3) := by decide +kernel
theorem dX12_init_268 : decode cX12_init 268 = .ok (.newarray .int, 2) := by decide +kernel
theorem dX12_init_270 : decode cX12_init 270 = .ok (.putfield 107, 3) := by decide +kernel
theorem dX12_init_273 : decode cX12_init 273 = .ok (.aload_n 0, 1) := by decide +kernel
theorem dX12_init_274 : decode cX12_init 274 = .ok (.sipush 200, 3) := by decide +kernel
theorem dX12_init_277 : decode cX12_init 277 = .ok (.newarray .int, 2) := by decide +kernel
theorem dX12_init_279 : decode cX12_init 279 = .ok (.putfield 110, 3) := by decide +kernel
theorem dX12_init_282 : decode cX12_init 282 = .ok (.aload_n 0, 1) := by decide +kernel
theorem dX12_init_283 : decode cX12_init 283 = .ok (.sipush 1000, 3) := by decide +kernel
theorem dX12_init_286 : decode cX12_init 286 = .ok (.newarray .int, 2) := by decide +kernel
theorem dX12_init_288 : decode cX12_init 288 = .ok (.putfield 113, 3) := by decide +kernel
theorem dX12_init_291 : decode cX12_init 291 = .ok (.aload_n 0, 1) := by decide +kernel
theorem dX12_init_292 : decode cX12_init 292 = .ok (.sipush 5001, 3) := by decide +kernel
theorem dX12_init_295 : decode cX12_init 295 = .ok (.newarray .long, 2) := by decide +kernel
theorem dX12_init_297 : decode cX12_init 297 = .ok (.putfield 116, 3) := by decide +kernel
theorem dX12_init_300 : decode cX12_init 300 = .ok (.aload_n 0, 1) := by decide +kernel
theorem dX12_init_301 : decode cX12_init 301 = .ok (.iconst 5, 1) := by decide +kernel
theorem dX12_init_302 : decode cX12_init 302 = .ok (.newarray .int, 2) := by decide +kernel
theorem dX12_init_304 : decode cX12_init 304 = .ok (.putfield 120, 3) := by decide +kernel
theorem dX12_init_307 : decode cX12_init 307 = .ok (.return_, 1) := by decide +kernel
theorem dX12_refused_0 : decode cX12_refused 0 = .ok (.aload_n 0, 1) := by decide +kernel
theorem dX12_refused_1 : decode cX12_refused 1 = .ok (.iload_n 1, 1) := by decide +kernel
theorem dX12_refused_2 : decode cX12_refused 2 = .ok (.putfield 126, 3) := by decide +kernel
theorem dX12_refused_5 : decode cX12_refused 5 = .ok (.aload_n 0, 1) := by decide +kernel
theorem dX12_refused_6 : decode cX12_refused 6 = .ok (.iconst (-1), 1) := by decide +kernel
theorem dX12_refused_7 : decode cX12_refused 7 = .ok (.putfield 9, 3) := by decide +kernel
theorem dX12_refused_10 : decode cX12_refused 10 = .ok (.iconst (-1), 1) := by decide +kernel
theorem dX12_refused_11 : decode cX12_refused 11 = .ok (.ireturn, 1) := by decide +kernel
theorem dX12_done_0 : decode cX12_done 0 = .ok (.aload_n 0, 1) := by decide +kernel
theorem dX12_done_1 : decode cX12_done 1 = .ok (.iconst 0, 1) := by decide +kernel
theorem dX12_done_2 : decode cX12_done 2 = .ok (.putfield 126, 3) := by decide +kernel
theorem dX12_done_5 : decode cX12_done 5 = .ok (.aload_n 0, 1) := by decide +kernel
theorem dX12_done_6 : decode cX12_done 6 = .ok (.iconst (-1), 1) := by decide +kernel
theorem dX12_done_7 : decode cX12_done 7 = .ok (.putfield 9, 3) := by decide +kernel
theorem dX12_done_10 : decode cX12_done 10 = .ok (.iload_n 1, 1) := by decide +kernel
theorem dX12_done_11 : decode cX12_done 11 = .ok (.ireturn, 1) := by decide +kernel
theorem dX12_in_0 : decode cX12_in 0 = .ok (.iload_n 0, 1) := by decide +kernel
theorem dX12_in_1 : decode cX12_in 1 = .ok (.iload_n 1, 1) := by decide +kernel
theorem dX12_in_2 : decode cX12_in 2 = .ok (.if_icmp .lt 12, 3) := by decide +kernel
theorem dX12_in_5 : decode cX12_in 5 = .ok (.iload_n 0, 1) := by decide +kernel
theorem dX12_in_6 : decode cX12_in 6 = .ok (.iload_n 2, 1) := by decide +kernel
theorem dX12_in_7 : decode cX12_in 7 = .ok (.if_icmp .gt 7, 3) := by decide +kernel
theorem dX12_in_10 : decode cX12_in 10 = .ok (.iconst 1, 1) := by decide +kernel
theorem dX12_in_11 : decode cX12_in 11 = .ok (.goto 4, 3) := by decide +kernel
theorem dX12_in_14 : decode cX12_in 14 = .ok (.iconst 0, 1) := by decide +kernel
theorem dX12_in_15 : decode cX12_in 15 = .ok (.ireturn, 1) := by decide +kernel
theorem dX12_stop_0 : decode cX12_stop 0 = .ok (.aload_n 0, 1) := by decide +kernel
theorem dX12_stop_1 : decode cX12_stop 1 = .ok (.getfield 16, 3) := by decide +kernel
theorem dX12_stop_4 : decode cX12_stop 4 = .ok (.iload_n 1, 1) := by decide +kernel
theorem dX12_stop_5 : decode cX12_stop 5 = .ok (.putfield 129, 3) := by decide +kernel
theorem dX12_stop_8 : decode cX12_stop 8 = .ok (.aload_n 0, 1) := by decide +kernel
theorem dX12_stop_9 : decode cX12_stop 9 = .ok (.getfield 16, 3) := by decide +kernel
theorem dX12_stop_12 : decode cX12_stop 12 = .ok (.aload_n 0, 1) := by decide +kernel
theorem dX12_stop_13 : decode cX12_stop 13 = .ok (.getfield 131, 3) := by decide +kernel
theorem dX12_stop_16 : decode cX12_stop 16 = .ok (.putfield 134, 3) := by decide +kernel
theorem dX12_stop_19 : decode cX12_stop 19 = .ok (.aload_n 0, 1) := by decide +kernel
theorem dX12_stop_20 : decode cX12_stop 20 = .ok (.getfield 16, 3) := by decide +kernel
theorem dX12_stop_23 : decode cX12_stop 23 = .ok (.areturn, 1) := by decide +kernel
theorem dX12_byteAt_0 : decode cX12_byteAt 0 = .ok (.iload_n 1, 1) := by decide +kernel
theorem dX12_byteAt_1 : decode cX12_byteAt 1 = .ok (.aload_n 0, 1) := by decide +kernel
theorem dX12_byteAt_2 : decode cX12_byteAt 2 = .ok (.getfield 135, 3) := by decide +kernel
theorem dX12_byteAt_5 : decode cX12_byteAt 5 = .ok (.if_icmp .ge 16, 3) := by decide +kernel
theorem dX12_byteAt_8 : decode cX12_byteAt 8 = .ok (.aload_n 0, 1) := by decide +kernel
theorem dX12_byteAt_9 : decode cX12_byteAt 9 = .ok (.getfield 20, 3) := by decide +kernel
theorem dX12_byteAt_12 : decode cX12_byteAt 12 = .ok (.iload_n 1, 1) := by decide +kernel
theorem dX12_byteAt_13 : decode cX12_byteAt 13 = .ok (.baload, 1) := by decide +kernel
theorem dX12_byteAt_14 : decode cX12_byteAt 14 = .ok (.sipush 255, 3) := by decide +kernel
theorem dX12_byteAt_17 : decode cX12_byteAt 17 = .ok (.iand, 1) := by decide +kernel
theorem dX12_byteAt_18 : decode cX12_byteAt 18 = .ok (.goto 4, 3) := by decide +kernel
theorem dX12_byteAt_21 : decode cX12_byteAt 21 = .ok (.iconst (-1), 1) := by decide +kernel
theorem dX12_byteAt_22 : decode cX12_byteAt 22 = .ok (.ireturn, 1) := by decide +kernel
theorem dX12_isLetter_0 : decode cX12_isLetter 0 = .ok (.iload_n 0, 1) := by decide +kernel
theorem dX12_isLetter_1 : decode cX12_isLetter 1 = .ok (.bipush 97, 2) := by decide +kernel
theorem dX12_isLetter_3 : decode cX12_isLetter 3 = .ok (.if_icmp .lt 13, 3) := by decide +kernel
theorem dX12_isLetter_6 : decode cX12_isLetter 6 = .ok (.iload_n 0, 1) := by decide +kernel
theorem dX12_isLetter_7 : decode cX12_isLetter 7 = .ok (.bipush 122, 2) := by decide +kernel
theorem dX12_isLetter_9 : decode cX12_isLetter 9 = .ok (.if_icmp .gt 7, 3) := by decide +kernel
theorem dX12_isLetter_12 : decode cX12_isLetter 12 = .ok (.iconst 1, 1) := by decide +kernel
theorem dX12_isLetter_13 : decode cX12_isLetter 13 = .ok (.goto 4, 3) := by decide +kernel
theorem dX12_isLetter_16 : decode cX12_isLetter 16 = .ok (.iconst 0, 1) := by decide +kernel
theorem dX12_isLetter_17 : decode cX12_isLetter 17 = .ok (.ireturn, 1) := by decide +kernel
theorem dX12_isDigit_0 : decode cX12_isDigit 0 = .ok (.iload_n 0, 1) := by decide +kernel
theorem dX12_isDigit_1 : decode cX12_isDigit 1 = .ok (.bipush 48, 2) := by decide +kernel
theorem dX12_isDigit_3 : decode cX12_isDigit 3 = .ok (.if_icmp .lt 13, 3) := by decide +kernel
theorem dX12_isDigit_6 : decode cX12_isDigit 6 = .ok (.iload_n 0, 1) := by decide +kernel
theorem dX12_isDigit_7 : decode cX12_isDigit 7 = .ok (.bipush 57, 2) := by decide +kernel
theorem dX12_isDigit_9 : decode cX12_isDigit 9 = .ok (.if_icmp .gt 7, 3) := by decide +kernel
theorem dX12_isDigit_12 : decode cX12_isDigit 12 = .ok (.iconst 1, 1) := by decide +kernel
theorem dX12_isDigit_13 : decode cX12_isDigit 13 = .ok (.goto 4, 3) := by decide +kernel
theorem dX12_isDigit_16 : decode cX12_isDigit 16 = .ok (.iconst 0, 1) := by decide +kernel
theorem dX12_isDigit_17 : decode cX12_isDigit 17 = .ok (.ireturn, 1) := by decide +kernel
theorem dX12_wordOf_0 : decode cX12_wordOf 0 = .ok (.lconst 0, 1) := by decide +kernel
theorem dX12_wordOf_1 : decode cX12_wordOf 1 = .ok (.lstore_n 1, 1) := by decide +kernel
theorem dX12_wordOf_2 : decode cX12_wordOf 2 = .ok (.iconst 0, 1) := by decide +kernel
theorem dX12_wordOf_3 : decode cX12_wordOf 3 = .ok (.istore_n 3, 1) := by decide +kernel
theorem dX12_wordOf_4 : decode cX12_wordOf 4 = .ok (.iload_n 3, 1) := by decide +kernel
theorem dX12_wordOf_5 : decode cX12_wordOf 5 = .ok (.aload_n 0, 1) := by decide +kernel
theorem dX12_wordOf_6 : decode cX12_wordOf 6 = .ok (.invokevirtual 138, 3) := by decide +kernel
theorem dX12_wordOf_9 : decode cX12_wordOf 9 = .ok (.if_icmp .ge 27, 3) := by decide +kernel
theorem dX12_wordOf_12 : decode cX12_wordOf 12 = .ok (.ldc2_w 144, 3) := by decide +kernel
theorem dX12_wordOf_15 : decode cX12_wordOf 15 = .ok (.lload_n 1, 1) := by decide +kernel
theorem dX12_wordOf_16 : decode cX12_wordOf 16 = .ok (.lmul, 1) := by decide +kernel
theorem dX12_wordOf_17 : decode cX12_wordOf 17 = .ok (.aload_n 0, 1) := by decide +kernel
theorem dX12_wordOf_18 : decode cX12_wordOf 18 = .ok (.iload_n 3, 1) := by decide +kernel
theorem dX12_wordOf_19 : decode cX12_wordOf 19 = .ok (.invokevirtual 146, 3) := by decide +kernel
theorem dX12_wordOf_22 : decode cX12_wordOf 22 = .ok (.bipush 97, 2) := by decide +kernel
theorem dX12_wordOf_24 : decode cX12_wordOf 24 = .ok (.isub, 1) := by decide +kernel
theorem dX12_wordOf_25 : decode cX12_wordOf 25 = .ok (.iconst 1, 1) := by decide +kernel
theorem dX12_wordOf_26 : decode cX12_wordOf 26 = .ok (.iadd, 1) := by decide +kernel
theorem dX12_wordOf_27 : decode cX12_wordOf 27 = .ok (.i2l, 1) := by decide +kernel
theorem dX12_wordOf_28 : decode cX12_wordOf 28 = .ok (.ladd, 1) := by decide +kernel
theorem dX12_wordOf_29 : decode cX12_wordOf 29 = .ok (.lstore_n 1, 1) := by decide +kernel
theorem dX12_wordOf_30 : decode cX12_wordOf 30 = .ok (.iinc 3 1, 3) := by decide +kernel
theorem dX12_wordOf_33 : decode cX12_wordOf 33 = .ok (.goto (-29), 3) := by decide +kernel
theorem dX12_wordOf_36 : decode cX12_wordOf 36 = .ok (.lload_n 1, 1) := by decide +kernel
theorem dX12_wordOf_37 : decode cX12_wordOf 37 = .ok (.lreturn, 1) := by decide +kernel
theorem dX12_next_0 : decode cX12_next 0 = .ok (.aload_n 0, 1) := by decide +kernel
theorem dX12_next_1 : decode cX12_next 1 = .ok (.aload_n 0, 1) := by decide +kernel
theorem dX12_next_2 : decode cX12_next 2 = .ok (.getfield 150, 3) := by decide +kernel
theorem dX12_next_5 : decode cX12_next 5 = .ok (.invokevirtual 153, 3) := by decide +kernel
theorem dX12_next_8 : decode cX12_next 8 = .ok (.bipush 32, 2) := by decide +kernel
theorem dX12_next_10 : decode cX12_next 10 = .ok (.if_icmp .ne 16, 3) := by decide +kernel
theorem dX12_next_13 : decode cX12_next 13 = .ok (.aload_n 0, 1) := by decide +kernel
theorem dX12_next_14 : decode cX12_next 14 = .ok (.dup, 1) := by decide +kernel
theorem dX12_next_15 : decode cX12_next 15 = .ok (.getfield 150, 3) := by decide +kernel
theorem dX12_next_18 : decode cX12_next 18 = .ok (.iconst 1, 1) := by decide +kernel
theorem dX12_next_19 : decode cX12_next 19 = .ok (.iadd, 1) := by decide +kernel
theorem dX12_next_20 : decode cX12_next 20 = .ok (.putfield 150, 3) := by decide +kernel
theorem dX12_next_23 : decode cX12_next 23 = .ok (.goto (-23), 3) := by decide +kernel
theorem dX12_next_26 : decode cX12_next 26 = .ok (.aload_n 0, 1) := by decide +kernel
theorem dX12_next_27 : decode cX12_next 27 = .ok (.aload_n 0, 1) := by decide +kernel
theorem dX12_next_28 : decode cX12_next 28 = .ok (.getfield 150, 3) := by decide +kernel
theorem dX12_next_31 : decode cX12_next 31 = .ok (.putfield 131, 3) := by decide +kernel
theorem dX12_next_34 : decode cX12_next 34 = .ok (.aload_n 0, 1) := by decide +kernel
theorem dX12_next_35 : decode cX12_next 35 = .ok (.iconst 0, 1) := by decide +kernel
theorem dX12_next_36 : decode cX12_next 36 = .ok (.putfield 157, 3) := by decide +kernel
theorem dX12_next_39 : decode cX12_next 39 = .ok (.aload_n 0, 1) := by decide +kernel
theorem dX12_next_40 : decode cX12_next 40 = .ok (.iconst 0, 1) := by decide +kernel
theorem dX12_next_41 : decode cX12_next 41 = .ok (.putfield 160, 3) := by decide +kernel
theorem dX12_next_44 : decode cX12_next 44 = .ok (.aload_n 0, 1) := by decide +kernel
theorem dX12_next_45 : decode cX12_next 45 = .ok (.aload_n 0, 1) := by decide +kernel
theorem dX12_next_46 : decode cX12_next 46 = .ok (.getfield 150, 3) := by decide +kernel
theorem dX12_next_49 : decode cX12_next 49 = .ok (.invokevirtual 153, 3) := by decide +kernel
theorem dX12_next_52 : decode cX12_next 52 = .ok (.istore_n 1, 1) := by decide +kernel
theorem dX12_next_53 : decode cX12_next 53 = .ok (.iconst 0, 1) := by decide +kernel
theorem dX12_next_54 : decode cX12_next 54 = .ok (.istore_n 2, 1) := by decide +kernel
theorem dX12_next_55 : decode cX12_next 55 = .ok (.iload_n 1, 1) := by decide +kernel
theorem dX12_next_56 : decode cX12_next 56 = .ok (.iconst (-1), 1) := by decide +kernel
theorem dX12_next_57 : decode cX12_next 57 = .ok (.if_icmp .ne 11, 3) := by decide +kernel
theorem dX12_next_60 : decode cX12_next 60 = .ok (.aload_n 0, 1) := by decide +kernel
theorem dX12_next_61 : decode cX12_next 61 = .ok (.iconst 1, 1) := by decide +kernel
theorem dX12_next_62 : decode cX12_next 62 = .ok (.putfield 157, 3) := by decide +kernel
theorem dX12_next_65 : decode cX12_next 65 = .ok (.goto 237, 3) := by decide +kernel
theorem dX12_next_68 : decode cX12_next 68 = .ok (.iload_n 1, 1) := by decide +kernel
theorem dX12_next_69 : decode cX12_next 69 = .ok (.invokestatic 163, 3) := by decide +kernel
theorem dX12_next_72 : decode cX12_next 72 = .ok (.ifCond .eq 85, 3) := by decide +kernel
theorem dX12_next_75 : decode cX12_next 75 = .ok (.aload_n 0, 1) := by decide +kernel
theorem dX12_next_76 : decode cX12_next 76 = .ok (.lconst 0, 1) := by decide +kernel
theorem dX12_next_77 : decode cX12_next 77 = .ok (.putfield 167, 3) := by decide +kernel
theorem dX12_next_80 : decode cX12_next 80 = .ok (.aload_n 0, 1) := by decide +kernel
theorem dX12_next_81 : decode cX12_next 81 = .ok (.aload_n 0, 1) := by decide +kernel
theorem dX12_next_82 : decode cX12_next 82 = .ok (.getfield 150, 3) := by decide +kernel
theorem dX12_next_85 : decode cX12_next 85 = .ok (.invokevirtual 153, 3) := by decide +kernel
theorem dX12_next_88 : decode cX12_next 88 = .ok (.invokestatic 163, 3) := by decide +kernel
theorem dX12_next_91 : decode cX12_next 91 = .ok (.ifCond .eq 52, 3) := by decide +kernel
theorem dX12_next_94 : decode cX12_next 94 = .ok (.iload_n 2, 1) := by decide +kernel
theorem dX12_next_95 : decode cX12_next 95 = .ok (.bipush 8, 2) := by decide +kernel
theorem dX12_next_97 : decode cX12_next 97 = .ok (.if_icmp .ge 30, 3) := by decide +kernel
theorem dX12_next_100 : decode cX12_next 100 = .ok (.aload_n 0, 1) := by decide +kernel
theorem dX12_next_101 : decode cX12_next 101 = .ok (.ldc2_w 144, 3) := by decide +kernel
theorem dX12_next_104 : decode cX12_next 104 = .ok (.aload_n 0, 1) := by decide +kernel
theorem dX12_next_105 : decode cX12_next 105 = .ok (.getfield 167, 3) := by decide +kernel
theorem dX12_next_108 : decode cX12_next 108 = .ok (.lmul, 1) := by decide +kernel
theorem dX12_next_109 : decode cX12_next 109 = .ok (.aload_n 0, 1) := by decide +kernel
theorem dX12_next_110 : decode cX12_next 110 = .ok (.aload_n 0, 1) := by decide +kernel
theorem dX12_next_111 : decode cX12_next 111 = .ok (.getfield 150, 3) := by decide +kernel
theorem dX12_next_114 : decode cX12_next 114 = .ok (.invokevirtual 153, 3) := by decide +kernel
theorem dX12_next_117 : decode cX12_next 117 = .ok (.bipush 97, 2) := by decide +kernel
theorem dX12_next_119 : decode cX12_next 119 = .ok (.isub, 1) := by decide +kernel
theorem dX12_next_120 : decode cX12_next 120 = .ok (.iconst 1, 1) := by decide +kernel
theorem dX12_next_121 : decode cX12_next 121 = .ok (.iadd, 1) := by decide +kernel
theorem dX12_next_122 : decode cX12_next 122 = .ok (.i2l, 1) := by decide +kernel
theorem dX12_next_123 : decode cX12_next 123 = .ok (.ladd, 1) := by decide +kernel
theorem dX12_next_124 : decode cX12_next 124 = .ok (.putfield 167, 3) := by decide +kernel
theorem dX12_next_127 : decode cX12_next 127 = .ok (.iinc 2 1, 3) := by decide +kernel
theorem dX12_next_130 : decode cX12_next 130 = .ok (.aload_n 0, 1) := by decide +kernel
theorem dX12_next_131 : decode cX12_next 131 = .ok (.dup, 1) := by decide +kernel
theorem dX12_next_132 : decode cX12_next 132 = .ok (.getfield 150, 3) := by decide +kernel
theorem dX12_next_135 : decode cX12_next 135 = .ok (.iconst 1, 1) := by decide +kernel
theorem dX12_next_136 : decode cX12_next 136 = .ok (.iadd, 1) := by decide +kernel
theorem dX12_next_137 : decode cX12_next 137 = .ok (.putfield 150, 3) := by decide +kernel
theorem dX12_next_140 : decode cX12_next 140 = .ok (.goto (-60), 3) := by decide +kernel
theorem dX12_next_143 : decode cX12_next 143 = .ok (.iload_n 2, 1) := by decide +kernel
theorem dX12_next_144 : decode cX12_next 144 = .ok (.bipush 9, 2) := by decide +kernel
theorem dX12_next_146 : decode cX12_next 146 = .ok (.if_icmp .ge 156, 3) := by decide +kernel
theorem dX12_next_149 : decode cX12_next 149 = .ok (.aload_n 0, 1) := by decide +kernel
theorem dX12_next_150 : decode cX12_next 150 = .ok (.iconst 2, 1) := by decide +kernel
theorem dX12_next_151 : decode cX12_next 151 = .ok (.putfield 157, 3) := by decide +kernel
theorem dX12_next_154 : decode cX12_next 154 = .ok (.goto 148, 3) := by decide +kernel
theorem dX12_next_157 : decode cX12_next 157 = .ok (.iload_n 1, 1) := by decide +kernel
theorem dX12_next_158 : decode cX12_next 158 = .ok (.invokestatic 171, 3) := by decide +kernel
theorem dX12_next_161 : decode cX12_next 161 = .ok (.ifCond .eq 79, 3) := by decide +kernel
theorem dX12_next_164 : decode cX12_next 164 = .ok (.aload_n 0, 1) := by decide +kernel
theorem dX12_next_165 : decode cX12_next 165 = .ok (.iconst 0, 1) := by decide +kernel
theorem dX12_next_166 : decode cX12_next 166 = .ok (.putfield 174, 3) := by decide +kernel
theorem dX12_next_169 : decode cX12_next 169 = .ok (.aload_n 0, 1) := by decide +kernel
theorem dX12_next_170 : decode cX12_next 170 = .ok (.aload_n 0, 1) := by decide +kernel
theorem dX12_next_171 : decode cX12_next 171 = .ok (.getfield 150, 3) := by decide +kernel
theorem dX12_next_174 : decode cX12_next 174 = .ok (.invokevirtual 153, 3) := by decide +kernel
theorem dX12_next_177 : decode cX12_next 177 = .ok (.invokestatic 171, 3) := by decide +kernel
theorem dX12_next_180 : decode cX12_next 180 = .ok (.ifCond .eq 47, 3) := by decide +kernel
theorem dX12_next_183 : decode cX12_next 183 = .ok (.iload_n 2, 1) := by decide +kernel
theorem dX12_next_184 : decode cX12_next 184 = .ok (.iconst 3, 1) := by decide +kernel
theorem dX12_next_185 : decode cX12_next 185 = .ok (.if_icmp .ge 26, 3) := by decide +kernel
theorem dX12_next_188 : decode cX12_next 188 = .ok (.aload_n 0, 1) := by decide +kernel
theorem dX12_next_189 : decode cX12_next 189 = .ok (.bipush 10, 2) := by decide +kernel
theorem dX12_next_191 : decode cX12_next 191 = .ok (.aload_n 0, 1) := by decide +kernel
theorem dX12_next_192 : decode cX12_next 192 = .ok (.getfield 174, 3) := by decide +kernel
theorem dX12_next_195 : decode cX12_next 195 = .ok (.imul, 1) := by decide +kernel
theorem dX12_next_196 : decode cX12_next 196 = .ok (.aload_n 0, 1) := by decide +kernel
theorem dX12_next_197 : decode cX12_next 197 = .ok (.aload_n 0, 1) := by decide +kernel
theorem dX12_next_198 : decode cX12_next 198 = .ok (.getfield 150, 3) := by decide +kernel
theorem dX12_next_201 : decode cX12_next 201 = .ok (.invokevirtual 153, 3) := by decide +kernel
theorem dX12_next_204 : decode cX12_next 204 = .ok (.iadd, 1) := by decide +kernel
theorem dX12_next_205 : decode cX12_next 205 = .ok (.bipush 48, 2) := by decide +kernel
theorem dX12_next_207 : decode cX12_next 207 = .ok (.isub, 1) := by decide +kernel
theorem dX12_next_208 : decode cX12_next 208 = .ok (.putfield 174, 3) := by decide +kernel
theorem dX12_next_211 : decode cX12_next 211 = .ok (.iinc 2 1, 3) := by decide +kernel
theorem dX12_next_214 : decode cX12_next 214 = .ok (.aload_n 0, 1) := by decide +kernel
theorem dX12_next_215 : decode cX12_next 215 = .ok (.dup, 1) := by decide +kernel
theorem dX12_next_216 : decode cX12_next 216 = .ok (.getfield 150, 3) := by decide +kernel
theorem dX12_next_219 : decode cX12_next 219 = .ok (.iconst 1, 1) := by decide +kernel
theorem dX12_next_220 : decode cX12_next 220 = .ok (.iadd, 1) := by decide +kernel
theorem dX12_next_221 : decode cX12_next 221 = .ok (.putfield 150, 3) := by decide +kernel
theorem dX12_next_224 : decode cX12_next 224 = .ok (.goto (-55), 3) := by decide +kernel
theorem dX12_next_227 : decode cX12_next 227 = .ok (.iload_n 2, 1) := by decide +kernel
theorem dX12_next_228 : decode cX12_next 228 = .ok (.iconst 4, 1) := by decide +kernel
theorem dX12_next_229 : decode cX12_next 229 = .ok (.if_icmp .ge 73, 3) := by decide +kernel
theorem dX12_next_232 : decode cX12_next 232 = .ok (.aload_n 0, 1) := by decide +kernel
theorem dX12_next_233 : decode cX12_next 233 = .ok (.iconst 3, 1) := by decide +kernel
theorem dX12_next_234 : decode cX12_next 234 = .ok (.putfield 157, 3) := by decide +kernel
theorem dX12_next_237 : decode cX12_next 237 = .ok (.goto 65, 3) := by decide +kernel
theorem dX12_next_240 : decode cX12_next 240 = .ok (.iload_n 1, 1) := by decide +kernel
theorem dX12_next_241 : decode cX12_next 241 = .ok (.bipush 60, 2) := by decide +kernel
theorem dX12_next_243 : decode cX12_next 243 = .ok (.if_icmp .eq 39, 3) := by decide +kernel
theorem dX12_next_246 : decode cX12_next 246 = .ok (.iload_n 1, 1) := by decide +kernel
theorem dX12_next_247 : decode cX12_next 247 = .ok (.bipush 62, 2) := by decide +kernel
theorem dX12_next_249 : decode cX12_next 249 = .ok (.if_icmp .eq 33, 3) := by decide +kernel
theorem dX12_next_252 : decode cX12_next 252 = .ok (.iload_n 1, 1) := by decide +kernel
theorem dX12_next_253 : decode cX12_next 253 = .ok (.bipush 61, 2) := by decide +kernel
theorem dX12_next_255 : decode cX12_next 255 = .ok (.if_icmp .eq 27, 3) := by decide +kernel
theorem dX12_next_258 : decode cX12_next 258 = .ok (.iload_n 1, 1) := by decide +kernel
theorem dX12_next_259 : decode cX12_next 259 = .ok (.bipush 43, 2) := by decide +kernel
theorem dX12_next_261 : decode cX12_next 261 = .ok (.if_icmp .eq 21, 3) := by decide +kernel
theorem dX12_next_264 : decode cX12_next 264 = .ok (.iload_n 1, 1) := by decide +kernel
theorem dX12_next_265 : decode cX12_next 265 = .ok (.bipush 42, 2) := by decide +kernel
theorem dX12_next_267 : decode cX12_next 267 = .ok (.if_icmp .eq 15, 3) := by decide +kernel
theorem dX12_next_270 : decode cX12_next 270 = .ok (.iload_n 1, 1) := by decide +kernel
theorem dX12_next_271 : decode cX12_next 271 = .ok (.bipush 47, 2) := by decide +kernel
theorem dX12_next_273 : decode cX12_next 273 = .ok (.if_icmp .eq 9, 3) := by decide +kernel
theorem dX12_next_276 : decode cX12_next 276 = .ok (.iload_n 1, 1) := by decide +kernel
theorem dX12_next_277 : decode cX12_next 277 = .ok (.bipush 59, 2) := by decide +kernel
theorem dX12_next_279 : decode cX12_next 279 = .ok (.if_icmp .ne 23, 3) := by decide +kernel
theorem dX12_next_282 : decode cX12_next 282 = .ok (.aload_n 0, 1) := by decide +kernel
theorem dX12_next_283 : decode cX12_next 283 = .ok (.iconst 4, 1) := by decide +kernel
theorem dX12_next_284 : decode cX12_next 284 = .ok (.putfield 157, 3) := by decide +kernel
theorem dX12_next_287 : decode cX12_next 287 = .ok (.aload_n 0, 1) := by decide +kernel
theorem dX12_next_288 : decode cX12_next 288 = .ok (.iload_n 1, 1) := by decide +kernel
theorem dX12_next_289 : decode cX12_next 289 = .ok (.putfield 160, 3) := by decide +kernel
theorem dX12_next_292 : decode cX12_next 292 = .ok (.aload_n 0, 1) := by decide +kernel
theorem dX12_next_293 : decode cX12_next 293 = .ok (.dup, 1) := by decide +kernel
theorem dX12_next_294 : decode cX12_next 294 = .ok (.getfield 150, 3) := by decide +kernel
theorem dX12_next_297 : decode cX12_next 297 = .ok (.iconst 1, 1) := by decide +kernel
theorem dX12_next_298 : decode cX12_next 298 = .ok (.iadd, 1) := by decide +kernel
theorem dX12_next_299 : decode cX12_next 299 = .ok (.putfield 150, 3) := by decide +kernel
theorem dX12_next_302 : decode cX12_next 302 = .ok (.return_, 1) := by decide +kernel
theorem dX12_isWord_0 : decode cX12_isWord 0 = .ok (.aload_n 0, 1) := by decide +kernel
theorem dX12_isWord_1 : decode cX12_isWord 1 = .ok (.getfield 157, 3) := by decide +kernel
theorem dX12_isWord_4 : decode cX12_isWord 4 = .ok (.iconst 2, 1) := by decide +kernel
theorem dX12_isWord_5 : decode cX12_isWord 5 = .ok (.if_icmp .ne 19, 3) := by decide +kernel
theorem dX12_isWord_8 : decode cX12_isWord 8 = .ok (.aload_n 0, 1) := by decide +kernel
theorem dX12_isWord_9 : decode cX12_isWord 9 = .ok (.getfield 167, 3) := by decide +kernel
theorem dX12_isWord_12 : decode cX12_isWord 12 = .ok (.aload_n 1, 1) := by decide +kernel
theorem dX12_isWord_13 : decode cX12_isWord 13 = .ok (.invokestatic 177, 3) := by decide +kernel
theorem dX12_isWord_16 : decode cX12_isWord 16 = .ok (.lcmp, 1) := by decide +kernel
theorem dX12_isWord_17 : decode cX12_isWord 17 = .ok (.ifCond .ne 7, 3) := by decide +kernel
theorem dX12_isWord_20 : decode cX12_isWord 20 = .ok (.iconst 1, 1) := by decide +kernel
theorem dX12_isWord_21 : decode cX12_isWord 21 = .ok (.goto 4, 3) := by decide +kernel
theorem dX12_isWord_24 : decode cX12_isWord 24 = .ok (.iconst 0, 1) := by decide +kernel
theorem dX12_isWord_25 : decode cX12_isWord 25 = .ok (.ireturn, 1) := by decide +kernel
theorem dX12_is_0 : decode cX12_is 0 = .ok (.aload_n 0, 1) := by decide +kernel
theorem dX12_is_1 : decode cX12_is 1 = .ok (.getfield 157, 3) := by decide +kernel
theorem dX12_is_4 : decode cX12_is 4 = .ok (.iconst 4, 1) := by decide +kernel
theorem dX12_is_5 : decode cX12_is 5 = .ok (.if_icmp .ne 15, 3) := by decide +kernel
theorem dX12_is_8 : decode cX12_is 8 = .ok (.aload_n 0, 1) := by decide +kernel
theorem dX12_is_9 : decode cX12_is 9 = .ok (.getfield 160, 3) := by decide +kernel
theorem dX12_is_12 : decode cX12_is 12 = .ok (.iload_n 1, 1) := by decide +kernel
theorem dX12_is_13 : decode cX12_is 13 = .ok (.if_icmp .ne 7, 3) := by decide +kernel
theorem dX12_is_16 : decode cX12_is 16 = .ok (.iconst 1, 1) := by decide +kernel
theorem dX12_is_17 : decode cX12_is 17 = .ok (.goto 4, 3) := by decide +kernel
theorem dX12_is_20 : decode cX12_is 20 = .ok (.iconst 0, 1) := by decide +kernel
theorem dX12_is_21 : decode cX12_is 21 = .ok (.ireturn, 1) := by decide +kernel
theorem dX12_nameHere_0 : decode cX12_nameHere 0 = .ok (.aload_n 0, 1) := by decide +kernel
theorem dX12_nameHere_1 : decode cX12_nameHere 1 = .ok (.getfield 157, 3) := by decide +kernel
theorem dX12_nameHere_4 : decode cX12_nameHere 4 = .ok (.iconst 2, 1) := by decide +kernel
theorem dX12_nameHere_5 : decode cX12_nameHere 5 = .ok (.if_icmp .ne 39, 3) := by decide +kernel
theorem dX12_nameHere_8 : decode cX12_nameHere 8 = .ok (.aload_n 0, 1) := by decide +kernel
theorem dX12_nameHere_9 : decode cX12_nameHere 9 = .ok (.ldc 181, 2) := by decide +kernel
theorem dX12_nameHere_11 : decode cX12_nameHere 11 = .ok (.invokevirtual 182, 3) := by decide +kernel
theorem dX12_nameHere_14 : decode cX12_nameHere 14 = .ok (.ifCond .ne 30, 3) := by decide +kernel
theorem dX12_nameHere_17 : decode cX12_nameHere 17 = .ok (.aload_n 0, 1) := by decide +kernel
theorem dX12_nameHere_18 : decode cX12_nameHere 18 = .ok (.ldc 186, 2) := by decide +kernel
theorem dX12_nameHere_20 : decode cX12_nameHere 20 = .ok (.invokevirtual 182, 3) := by decide +kernel
theorem dX12_nameHere_23 : decode cX12_nameHere 23 = .ok (.ifCond .ne 21, 3) := by decide +kernel
theorem dX12_nameHere_26 : decode cX12_nameHere 26 = .ok (.aload_n 0, 1) := by decide +kernel
theorem dX12_nameHere_27 : decode cX12_nameHere 27 = .ok (.ldc 188, 2) := by decide +kernel
theorem dX12_nameHere_29 : decode cX12_nameHere 29 = .ok (.invokevirtual 182, 3) := by decide +kernel
theorem dX12_nameHere_32 : decode cX12_nameHere 32 = .ok (.ifCond .ne 12, 3) := by decide +kernel
theorem dX12_nameHere_35 : decode cX12_nameHere 35 = .ok (.aload_n 0, 1) := by decide +kernel
theorem dX12_nameHere_36 : decode cX12_nameHere 36 = .ok (.ldc 190, 2) := by decide +kernel
theorem dX12_nameHere_38 : decode cX12_nameHere 38 = .ok (.invokevirtual 182, 3) := by decide +kernel
theorem dX12_nameHere_41 : decode cX12_nameHere 41 = .ok (.ifCond .eq 9, 3) := by decide +kernel
theorem dX12_nameHere_44 : decode cX12_nameHere 44 = .ok (.aload_n 0, 1) := by decide +kernel
theorem dX12_nameHere_45 : decode cX12_nameHere 45 = .ok (.iconst 1, 1) := by decide +kernel
theorem dX12_nameHere_46 : decode cX12_nameHere 46 = .ok (.invokevirtual 192, 3) := by decide +kernel
theorem dX12_nameHere_49 : decode cX12_nameHere 49 = .ok (.athrow, 1) := by decide +kernel
theorem dX12_nameHere_50 : decode cX12_nameHere 50 = .ok (.aload_n 0, 1) := by decide +kernel
theorem dX12_nameHere_51 : decode cX12_nameHere 51 = .ok (.ldc 195, 2) := by decide +kernel
theorem dX12_nameHere_53 : decode cX12_nameHere 53 = .ok (.invokevirtual 182, 3) := by decide +kernel
theorem dX12_nameHere_56 : decode cX12_nameHere 56 = .ok (.ifCond .eq 7, 3) := by decide +kernel
theorem dX12_nameHere_59 : decode cX12_nameHere 59 = .ok (.iconst 0, 1) := by decide +kernel
theorem dX12_nameHere_60 : decode cX12_nameHere 60 = .ok (.goto 43, 3) := by decide +kernel
theorem dX12_nameHere_63 : decode cX12_nameHere 63 = .ok (.aload_n 0, 1) := by decide +kernel
theorem dX12_nameHere_64 : decode cX12_nameHere 64 = .ok (.ldc 196, 2) := by decide +kernel
theorem dX12_nameHere_66 : decode cX12_nameHere 66 = .ok (.invokevirtual 182, 3) := by decide +kernel
theorem dX12_nameHere_69 : decode cX12_nameHere 69 = .ok (.ifCond .eq 7, 3) := by decide +kernel
theorem dX12_nameHere_72 : decode cX12_nameHere 72 = .ok (.iconst 1, 1) := by decide +kernel
theorem dX12_nameHere_73 : decode cX12_nameHere 73 = .ok (.goto 30, 3) := by decide +kernel
theorem dX12_nameHere_76 : decode cX12_nameHere 76 = .ok (.aload_n 0, 1) := by decide +kernel
theorem dX12_nameHere_77 : decode cX12_nameHere 77 = .ok (.ldc 197, 2) := by decide +kernel
theorem dX12_nameHere_79 : decode cX12_nameHere 79 = .ok (.invokevirtual 182, 3) := by decide +kernel
theorem dX12_nameHere_82 : decode cX12_nameHere 82 = .ok (.ifCond .eq 7, 3) := by decide +kernel
theorem dX12_nameHere_85 : decode cX12_nameHere 85 = .ok (.iconst 2, 1) := by decide +kernel
theorem dX12_nameHere_86 : decode cX12_nameHere 86 = .ok (.goto 17, 3) := by decide +kernel
theorem dX12_nameHere_89 : decode cX12_nameHere 89 = .ok (.aload_n 0, 1) := by decide +kernel
theorem dX12_nameHere_90 : decode cX12_nameHere 90 = .ok (.ldc 199, 2) := by decide +kernel
theorem dX12_nameHere_92 : decode cX12_nameHere 92 = .ok (.invokevirtual 182, 3) := by decide +kernel
theorem dX12_nameHere_95 : decode cX12_nameHere 95 = .ok (.ifCond .eq 7, 3) := by decide +kernel
theorem dX12_nameHere_98 : decode cX12_nameHere 98 = .ok (.iconst 3, 1) := by decide +kernel
theorem dX12_nameHere_99 : decode cX12_nameHere 99 = .ok (.goto 4, 3) := by decide +kernel
theorem dX12_nameHere_102 : decode cX12_nameHere 102 = .ok (.iconst (-1), 1) := by decide +kernel
theorem dX12_nameHere_103 : decode cX12_nameHere 103 = .ok (.istore_n 1, 1) := by decide +kernel
theorem dX12_nameHere_104 : decode cX12_nameHere 104 = .ok (.iload_n 1, 1) := by decide +kernel
theorem dX12_nameHere_105 : decode cX12_nameHere 105 = .ok (.iconst (-1), 1) := by decide +kernel
theorem dX12_nameHere_106 : decode cX12_nameHere 106 = .ok (.if_icmp .ne 9, 3) := by decide +kernel
theorem dX12_nameHere_109 : decode cX12_nameHere 109 = .ok (.aload_n 0, 1) := by decide +kernel
theorem dX12_nameHere_110 : decode cX12_nameHere 110 = .ok (.iconst 2, 1) := by decide +kernel
theorem dX12_nameHere_111 : decode cX12_nameHere 111 = .ok (.invokevirtual 192, 3) := by decide +kernel
theorem dX12_nameHere_114 : decode cX12_nameHere 114 = .ok (.athrow, 1) := by decide +kernel
theorem dX12_nameHere_115 : decode cX12_nameHere 115 = .ok (.iload_n 1, 1) := by decide +kernel
theorem dX12_nameHere_116 : decode cX12_nameHere 116 = .ok (.ireturn, 1) := by decide +kernel
theorem dX12_reads_0 : decode cX12_reads 0 = .ok (.aload_n 0, 1) := by decide +kernel
theorem dX12_reads_1 : decode cX12_reads 1 = .ok (.getfield 201, 3) := by decide +kernel
theorem dX12_reads_4 : decode cX12_reads 4 = .ok (.istore_n 1, 1) := by decide +kernel
theorem dX12_reads_5 : decode cX12_reads 5 = .ok (.aload_n 0, 1) := by decide +kernel
theorem dX12_reads_6 : decode cX12_reads 6 = .ok (.getfield 28, 3) := by decide +kernel
theorem dX12_reads_9 : decode cX12_reads 9 = .ok (.iload_n 1, 1) := by decide +kernel
theorem dX12_reads_10 : decode cX12_reads 10 = .ok (.iconst 0, 1) := by decide +kernel
theorem dX12_reads_11 : decode cX12_reads 11 = .ok (.iastore, 1) := by decide +kernel
theorem dX12_reads_12 : decode cX12_reads 12 = .ok (.aload_n 0, 1) := by decide +kernel
theorem dX12_reads_13 : decode cX12_reads 13 = .ok (.invokevirtual 204, 3) := by decide +kernel
theorem dX12_reads_16 : decode cX12_reads 16 = .ok (.iconst 1, 1) := by decide +kernel
theorem dX12_reads_17 : decode cX12_reads 17 = .ok (.istore_n 2, 1) := by decide +kernel
theorem dX12_reads_18 : decode cX12_reads 18 = .ok (.iload_n 2, 1) := by decide +kernel
theorem dX12_reads_19 : decode cX12_reads 19 = .ok (.ifCond .eq 212, 3) := by decide +kernel
theorem dX12_reads_22 : decode cX12_reads 22 = .ok (.aload_n 0, 1) := by decide +kernel
theorem dX12_reads_23 : decode cX12_reads 23 = .ok (.ldc 181, 2) := by decide +kernel
theorem dX12_reads_25 : decode cX12_reads 25 = .ok (.invokevirtual 182, 3) := by decide +kernel
theorem dX12_reads_28 : decode cX12_reads 28 = .ok (.ifCond .ne 9, 3) := by decide +kernel
theorem dX12_reads_31 : decode cX12_reads 31 = .ok (.aload_n 0, 1) := by decide +kernel
theorem dX12_reads_32 : decode cX12_reads 32 = .ok (.iconst 1, 1) := by decide +kernel
theorem dX12_reads_33 : decode cX12_reads 33 = .ok (.invokevirtual 192, 3) := by decide +kernel
theorem dX12_reads_36 : decode cX12_reads 36 = .ok (.athrow, 1) := by decide +kernel
theorem dX12_reads_37 : decode cX12_reads 37 = .ok (.aload_n 0, 1) := by decide +kernel
theorem dX12_reads_38 : decode cX12_reads 38 = .ok (.getfield 28, 3) := by decide +kernel
theorem dX12_reads_41 : decode cX12_reads 41 = .ok (.iload_n 1, 1) := by decide +kernel
theorem dX12_reads_42 : decode cX12_reads 42 = .ok (.iaload, 1) := by decide +kernel
theorem dX12_reads_43 : decode cX12_reads 43 = .ok (.bipush 12, 2) := by decide +kernel
theorem dX12_reads_45 : decode cX12_reads 45 = .ok (.if_icmp .ne 9, 3) := by decide +kernel
theorem dX12_reads_48 : decode cX12_reads 48 = .ok (.aload_n 0, 1) := by decide +kernel
theorem dX12_reads_49 : decode cX12_reads 49 = .ok (.iconst 4, 1) := by decide +kernel
theorem dX12_reads_50 : decode cX12_reads 50 = .ok (.invokevirtual 192, 3) := by decide +kernel
theorem dX12_reads_53 : decode cX12_reads 53 = .ok (.athrow, 1) := by decide +kernel
theorem dX12_reads_54 : decode cX12_reads 54 = .ok (.bipush 12, 2) := by decide +kernel
theorem dX12_reads_56 : decode cX12_reads 56 = .ok (.iload_n 1, 1) := by decide +kernel
theorem dX12_reads_57 : decode cX12_reads 57 = .ok (.imul, 1) := by decide +kernel
theorem dX12_reads_58 : decode cX12_reads 58 = .ok (.aload_n 0, 1) := by decide +kernel
theorem dX12_reads_59 : decode cX12_reads 59 = .ok (.getfield 28, 3) := by decide +kernel
theorem dX12_reads_62 : decode cX12_reads 62 = .ok (.iload_n 1, 1) := by decide +kernel
theorem dX12_reads_63 : decode cX12_reads 63 = .ok (.iaload, 1) := by decide +kernel
theorem dX12_reads_64 : decode cX12_reads 64 = .ok (.iadd, 1) := by decide +kernel
theorem dX12_reads_65 : decode cX12_reads 65 = .ok (.istore_n 3, 1) := by decide +kernel
theorem dX12_reads_66 : decode cX12_reads 66 = .ok (.aload_n 0, 1) := by decide +kernel
theorem dX12_reads_67 : decode cX12_reads 67 = .ok (.getfield 34, 3) := by decide +kernel
theorem dX12_reads_70 : decode cX12_reads 70 = .ok (.iload_n 3, 1) := by decide +kernel
theorem dX12_reads_71 : decode cX12_reads 71 = .ok (.iconst 0, 1) := by decide +kernel
theorem dX12_reads_72 : decode cX12_reads 72 = .ok (.iastore, 1) := by decide +kernel
theorem dX12_reads_73 : decode cX12_reads 73 = .ok (.aload_n 0, 1) := by decide +kernel
theorem dX12_reads_74 : decode cX12_reads 74 = .ok (.getfield 37, 3) := by decide +kernel
theorem dX12_reads_77 : decode cX12_reads 77 = .ok (.iload_n 3, 1) := by decide +kernel
theorem dX12_reads_78 : decode cX12_reads 78 = .ok (.iconst 0, 1) := by decide +kernel
theorem dX12_reads_79 : decode cX12_reads 79 = .ok (.iastore, 1) := by decide +kernel
theorem dX12_reads_80 : decode cX12_reads 80 = .ok (.aload_n 0, 1) := by decide +kernel
theorem dX12_reads_81 : decode cX12_reads 81 = .ok (.invokevirtual 204, 3) := by decide +kernel
theorem dX12_reads_84 : decode cX12_reads 84 = .ok (.aload_n 0, 1) := by decide +kernel
theorem dX12_reads_85 : decode cX12_reads 85 = .ok (.getfield 157, 3) := by decide +kernel
theorem dX12_reads_88 : decode cX12_reads 88 = .ok (.iconst 3, 1) := by decide +kernel
theorem dX12_reads_89 : decode cX12_reads 89 = .ok (.if_icmp .eq 9, 3) := by decide +kernel
theorem dX12_reads_92 : decode cX12_reads 92 = .ok (.aload_n 0, 1) := by decide +kernel
theorem dX12_reads_93 : decode cX12_reads 93 = .ok (.iconst 1, 1) := by decide +kernel
theorem dX12_reads_94 : decode cX12_reads 94 = .ok (.invokevirtual 192, 3) := by decide +kernel
theorem dX12_reads_97 : decode cX12_reads 97 = .ok (.athrow, 1) := by decide +kernel
theorem dX12_reads_98 : decode cX12_reads 98 = .ok (.aload_n 0, 1) := by decide +kernel
theorem dX12_reads_99 : decode cX12_reads 99 = .ok (.getfield 174, 3) := by decide +kernel
theorem dX12_reads_102 : decode cX12_reads 102 = .ok (.bipush 9, 2) := by decide +kernel
theorem dX12_reads_104 : decode cX12_reads 104 = .ok (.if_icmp .le 9, 3) := by decide +kernel
theorem dX12_reads_107 : decode cX12_reads 107 = .ok (.aload_n 0, 1) := by decide +kernel
theorem dX12_reads_108 : decode cX12_reads 108 = .ok (.iconst 3, 1) := by decide +kernel
theorem dX12_reads_109 : decode cX12_reads 109 = .ok (.invokevirtual 192, 3) := by decide +kernel
theorem dX12_reads_112 : decode cX12_reads 112 = .ok (.athrow, 1) := by decide +kernel
theorem dX12_reads_113 : decode cX12_reads 113 = .ok (.aload_n 0, 1) := by decide +kernel
theorem dX12_reads_114 : decode cX12_reads 114 = .ok (.getfield 31, 3) := by decide +kernel
theorem dX12_reads_117 : decode cX12_reads 117 = .ok (.iload_n 3, 1) := by decide +kernel
theorem dX12_reads_118 : decode cX12_reads 118 = .ok (.aload_n 0, 1) := by decide +kernel
theorem dX12_reads_119 : decode cX12_reads 119 = .ok (.getfield 174, 3) := by decide +kernel
theorem dX12_reads_122 : decode cX12_reads 122 = .ok (.iastore, 1) := by decide +kernel
theorem dX12_reads_123 : decode cX12_reads 123 = .ok (.aload_n 0, 1) := by decide +kernel
theorem dX12_reads_124 : decode cX12_reads 124 = .ok (.invokevirtual 204, 3) := by decide +kernel
theorem dX12_reads_127 : decode cX12_reads 127 = .ok (.aload_n 0, 1) := by decide +kernel
theorem dX12_reads_128 : decode cX12_reads 128 = .ok (.ldc 186, 2) := by decide +kernel
theorem dX12_reads_130 : decode cX12_reads 130 = .ok (.invokevirtual 182, 3) := by decide +kernel
theorem dX12_reads_133 : decode cX12_reads 133 = .ok (.istore 4, 2) := by decide +kernel
theorem dX12_reads_135 : decode cX12_reads 135 = .ok (.iload 4, 2) := by decide +kernel
theorem dX12_reads_137 : decode cX12_reads 137 = .ok (.ifCond .eq 23, 3) := by decide +kernel
theorem dX12_reads_140 : decode cX12_reads 140 = .ok (.aload_n 0, 1) := by decide +kernel
theorem dX12_reads_141 : decode cX12_reads 141 = .ok (.invokevirtual 204, 3) := by decide +kernel
theorem dX12_reads_144 : decode cX12_reads 144 = .ok (.aload_n 0, 1) := by decide +kernel
theorem dX12_reads_145 : decode cX12_reads 145 = .ok (.iload_n 3, 1) := by decide +kernel
theorem dX12_reads_146 : decode cX12_reads 146 = .ok (.invokevirtual 207, 3) := by decide +kernel
theorem dX12_reads_149 : decode cX12_reads 149 = .ok (.aload_n 0, 1) := by decide +kernel
theorem dX12_reads_150 : decode cX12_reads 150 = .ok (.ldc 188, 2) := by decide +kernel
theorem dX12_reads_152 : decode cX12_reads 152 = .ok (.invokevirtual 182, 3) := by decide +kernel
theorem dX12_reads_155 : decode cX12_reads 155 = .ok (.istore 4, 2) := by decide +kernel
theorem dX12_reads_157 : decode cX12_reads 157 = .ok (.goto (-22), 3) := by decide +kernel
theorem dX12_reads_160 : decode cX12_reads 160 = .ok (.aload_n 0, 1) := by decide +kernel
theorem dX12_reads_161 : decode cX12_reads 161 = .ok (.ldc 190, 2) := by decide +kernel
theorem dX12_reads_163 : decode cX12_reads 163 = .ok (.invokevirtual 182, 3) := by decide +kernel
theorem dX12_reads_166 : decode cX12_reads 166 = .ok (.ifCond .ne 9, 3) := by decide +kernel
theorem dX12_reads_169 : decode cX12_reads 169 = .ok (.aload_n 0, 1) := by decide +kernel
theorem dX12_reads_170 : decode cX12_reads 170 = .ok (.iconst 1, 1) := by decide +kernel
theorem dX12_reads_171 : decode cX12_reads 171 = .ok (.invokevirtual 192, 3) := by decide +kernel
theorem dX12_reads_174 : decode cX12_reads 174 = .ok (.athrow, 1) := by decide +kernel
theorem dX12_reads_175 : decode cX12_reads 175 = .ok (.iconst 1, 1) := by decide +kernel
theorem dX12_reads_176 : decode cX12_reads 176 = .ok (.istore 5, 2) := by decide +kernel
theorem dX12_reads_178 : decode cX12_reads 178 = .ok (.iload 5, 2) := by decide +kernel
theorem dX12_reads_180 : decode cX12_reads 180 = .ok (.ifCond .eq 23, 3) := by decide +kernel
theorem dX12_reads_183 : decode cX12_reads 183 = .ok (.aload_n 0, 1) := by decide +kernel
theorem dX12_reads_184 : decode cX12_reads 184 = .ok (.invokevirtual 204, 3) := by decide +kernel
theorem dX12_reads_187 : decode cX12_reads 187 = .ok (.aload_n 0, 1) := by decide +kernel
theorem dX12_reads_188 : decode cX12_reads 188 = .ok (.iload_n 3, 1) := by decide +kernel
theorem dX12_reads_189 : decode cX12_reads 189 = .ok (.invokevirtual 211, 3) := by decide +kernel
theorem dX12_reads_192 : decode cX12_reads 192 = .ok (.aload_n 0, 1) := by decide +kernel
theorem dX12_reads_193 : decode cX12_reads 193 = .ok (.bipush 43, 2) := by decide +kernel
theorem dX12_reads_195 : decode cX12_reads 195 = .ok (.invokevirtual 214, 3) := by decide +kernel
theorem dX12_reads_198 : decode cX12_reads 198 = .ok (.istore 5, 2) := by decide +kernel
theorem dX12_reads_200 : decode cX12_reads 200 = .ok (.goto (-22), 3) := by decide +kernel
theorem dX12_reads_203 : decode cX12_reads 203 = .ok (.aload_n 0, 1) := by decide +kernel
theorem dX12_reads_204 : decode cX12_reads 204 = .ok (.getfield 28, 3) := by decide +kernel
theorem dX12_reads_207 : decode cX12_reads 207 = .ok (.iload_n 1, 1) := by decide +kernel
theorem dX12_reads_208 : decode cX12_reads 208 = .ok (.dup2, 1) := by decide +kernel
theorem dX12_reads_209 : decode cX12_reads 209 = .ok (.iaload, 1) := by decide +kernel
theorem dX12_reads_210 : decode cX12_reads 210 = .ok (.iconst 1, 1) := by decide +kernel
theorem dX12_reads_211 : decode cX12_reads 211 = .ok (.iadd, 1) := by decide +kernel
theorem dX12_reads_212 : decode cX12_reads 212 = .ok (.iastore, 1) := by decide +kernel
theorem dX12_reads_213 : decode cX12_reads 213 = .ok (.aload_n 0, 1) := by decide +kernel
theorem dX12_reads_214 : decode cX12_reads 214 = .ok (.bipush 59, 2) := by decide +kernel
theorem dX12_reads_216 : decode cX12_reads 216 = .ok (.invokevirtual 214, 3) := by decide +kernel
theorem dX12_reads_219 : decode cX12_reads 219 = .ok (.istore_n 2, 1) := by decide +kernel
theorem dX12_reads_220 : decode cX12_reads 220 = .ok (.iload_n 2, 1) := by decide +kernel
theorem dX12_reads_221 : decode cX12_reads 221 = .ok (.ifCond .eq 7, 3) := by decide +kernel
theorem dX12_reads_224 : decode cX12_reads 224 = .ok (.aload_n 0, 1) := by decide +kernel
theorem dX12_reads_225 : decode cX12_reads 225 = .ok (.invokevirtual 204, 3) := by decide +kernel
theorem dX12_reads_228 : decode cX12_reads 228 = .ok (.goto (-210), 3) := by decide +kernel
theorem dX12_reads_231 : decode cX12_reads 231 = .ok (.aload_n 0, 1) := by decide +kernel
theorem dX12_reads_232 : decode cX12_reads 232 = .ok (.getfield 157, 3) := by decide +kernel
theorem dX12_reads_235 : decode cX12_reads 235 = .ok (.iconst 1, 1) := by decide +kernel
theorem dX12_reads_236 : decode cX12_reads 236 = .ok (.if_icmp .eq 9, 3) := by decide +kernel
theorem dX12_reads_239 : decode cX12_reads 239 = .ok (.aload_n 0, 1) := by decide +kernel
theorem dX12_reads_240 : decode cX12_reads 240 = .ok (.iconst 1, 1) := by decide +kernel
theorem dX12_reads_241 : decode cX12_reads 241 = .ok (.invokevirtual 192, 3) := by decide +kernel
theorem dX12_reads_244 : decode cX12_reads 244 = .ok (.athrow, 1) := by decide +kernel
theorem dX12_reads_245 : decode cX12_reads 245 = .ok (.return_, 1) := by decide +kernel
theorem dX12_readTest_0 : decode cX12_readTest 0 = .ok (.aload_n 0, 1) := by decide +kernel
theorem dX12_readTest_1 : decode cX12_readTest 1 = .ok (.invokevirtual 216, 3) := by decide +kernel
theorem dX12_readTest_4 : decode cX12_readTest 4 = .ok (.istore_n 2, 1) := by decide +kernel
theorem dX12_readTest_5 : decode cX12_readTest 5 = .ok (.aload_n 0, 1) := by decide +kernel
theorem dX12_readTest_6 : decode cX12_readTest 6 = .ok (.getfield 34, 3) := by decide +kernel
theorem dX12_readTest_9 : decode cX12_readTest 9 = .ok (.iload_n 1, 1) := by decide +kernel
theorem dX12_readTest_10 : decode cX12_readTest 10 = .ok (.iaload, 1) := by decide +kernel
theorem dX12_readTest_11 : decode cX12_readTest 11 = .ok (.iconst 4, 1) := by decide +kernel
theorem dX12_readTest_12 : decode cX12_readTest 12 = .ok (.if_icmp .ne 9, 3) := by decide +kernel
theorem dX12_readTest_15 : decode cX12_readTest 15 = .ok (.aload_n 0, 1) := by decide +kernel
theorem dX12_readTest_16 : decode cX12_readTest 16 = .ok (.iconst 4, 1) := by decide +kernel
theorem dX12_readTest_17 : decode cX12_readTest 17 = .ok (.invokevirtual 192, 3) := by decide +kernel
theorem dX12_readTest_20 : decode cX12_readTest 20 = .ok (.athrow, 1) := by decide +kernel
theorem dX12_readTest_21 : decode cX12_readTest 21 = .ok (.iconst 4, 1) := by decide +kernel
theorem dX12_readTest_22 : decode cX12_readTest 22 = .ok (.iload_n 1, 1) := by decide +kernel
theorem dX12_readTest_23 : decode cX12_readTest 23 = .ok (.imul, 1) := by decide +kernel
theorem dX12_readTest_24 : decode cX12_readTest 24 = .ok (.aload_n 0, 1) := by decide +kernel
theorem dX12_readTest_25 : decode cX12_readTest 25 = .ok (.getfield 34, 3) := by decide +kernel
theorem dX12_readTest_28 : decode cX12_readTest 28 = .ok (.iload_n 1, 1) := by decide +kernel
theorem dX12_readTest_29 : decode cX12_readTest 29 = .ok (.iaload, 1) := by decide +kernel
theorem dX12_readTest_30 : decode cX12_readTest 30 = .ok (.iadd, 1) := by decide +kernel
theorem dX12_readTest_31 : decode cX12_readTest 31 = .ok (.istore_n 3, 1) := by decide +kernel
theorem dX12_readTest_32 : decode cX12_readTest 32 = .ok (.aload_n 0, 1) := by decide +kernel
theorem dX12_readTest_33 : decode cX12_readTest 33 = .ok (.getfield 40, 3) := by decide +kernel
theorem dX12_readTest_36 : decode cX12_readTest 36 = .ok (.iload_n 3, 1) := by decide +kernel
theorem dX12_readTest_37 : decode cX12_readTest 37 = .ok (.iload_n 2, 1) := by decide +kernel
theorem dX12_readTest_38 : decode cX12_readTest 38 = .ok (.iastore, 1) := by decide +kernel
theorem dX12_readTest_39 : decode cX12_readTest 39 = .ok (.aload_n 0, 1) := by decide +kernel
theorem dX12_readTest_40 : decode cX12_readTest 40 = .ok (.invokevirtual 204, 3) := by decide +kernel
theorem dX12_readTest_43 : decode cX12_readTest 43 = .ok (.aload_n 0, 1) := by decide +kernel
theorem dX12_readTest_44 : decode cX12_readTest 44 = .ok (.bipush 60, 2) := by decide +kernel
theorem dX12_readTest_46 : decode cX12_readTest 46 = .ok (.invokevirtual 214, 3) := by decide +kernel
theorem dX12_readTest_49 : decode cX12_readTest 49 = .ok (.ifCond .ne 27, 3) := by decide +kernel
theorem dX12_readTest_52 : decode cX12_readTest 52 = .ok (.aload_n 0, 1) := by decide +kernel
theorem dX12_readTest_53 : decode cX12_readTest 53 = .ok (.bipush 62, 2) := by decide +kernel
theorem dX12_readTest_55 : decode cX12_readTest 55 = .ok (.invokevirtual 214, 3) := by decide +kernel
theorem dX12_readTest_58 : decode cX12_readTest 58 = .ok (.ifCond .ne 18, 3) := by decide +kernel
theorem dX12_readTest_61 : decode cX12_readTest 61 = .ok (.aload_n 0, 1) := by decide +kernel
theorem dX12_readTest_62 : decode cX12_readTest 62 = .ok (.bipush 61, 2) := by decide +kernel
theorem dX12_readTest_64 : decode cX12_readTest 64 = .ok (.invokevirtual 214, 3) := by decide +kernel
theorem dX12_readTest_67 : decode cX12_readTest 67 = .ok (.ifCond .ne 9, 3) := by decide +kernel
theorem dX12_readTest_70 : decode cX12_readTest 70 = .ok (.aload_n 0, 1) := by decide +kernel
theorem dX12_readTest_71 : decode cX12_readTest 71 = .ok (.iconst 1, 1) := by decide +kernel
theorem dX12_readTest_72 : decode cX12_readTest 72 = .ok (.invokevirtual 192, 3) := by decide +kernel
theorem dX12_readTest_75 : decode cX12_readTest 75 = .ok (.athrow, 1) := by decide +kernel
theorem dX12_readTest_76 : decode cX12_readTest 76 = .ok (.aload_n 0, 1) := by decide +kernel
theorem dX12_readTest_77 : decode cX12_readTest 77 = .ok (.getfield 43, 3) := by decide +kernel
theorem dX12_readTest_80 : decode cX12_readTest 80 = .ok (.iload_n 3, 1) := by decide +kernel
theorem dX12_readTest_81 : decode cX12_readTest 81 = .ok (.aload_n 0, 1) := by decide +kernel
theorem dX12_readTest_82 : decode cX12_readTest 82 = .ok (.getfield 160, 3) := by decide +kernel
theorem dX12_readTest_85 : decode cX12_readTest 85 = .ok (.iastore, 1) := by decide +kernel
theorem dX12_readTest_86 : decode cX12_readTest 86 = .ok (.aload_n 0, 1) := by decide +kernel
theorem dX12_readTest_87 : decode cX12_readTest 87 = .ok (.invokevirtual 204, 3) := by decide +kernel
theorem dX12_readTest_90 : decode cX12_readTest 90 = .ok (.aload_n 0, 1) := by decide +kernel
theorem dX12_readTest_91 : decode cX12_readTest 91 = .ok (.getfield 157, 3) := by decide +kernel
theorem dX12_readTest_94 : decode cX12_readTest 94 = .ok (.iconst 3, 1) := by decide +kernel
theorem dX12_readTest_95 : decode cX12_readTest 95 = .ok (.if_icmp .eq 9, 3) := by decide +kernel
theorem dX12_readTest_98 : decode cX12_readTest 98 = .ok (.aload_n 0, 1) := by decide +kernel
theorem dX12_readTest_99 : decode cX12_readTest 99 = .ok (.iconst 1, 1) := by decide +kernel
theorem dX12_readTest_100 : decode cX12_readTest 100 = .ok (.invokevirtual 192, 3) := by decide +kernel
theorem dX12_readTest_103 : decode cX12_readTest 103 = .ok (.athrow, 1) := by decide +kernel
theorem dX12_readTest_104 : decode cX12_readTest 104 = .ok (.aload_n 0, 1) := by decide +kernel
theorem dX12_readTest_105 : decode cX12_readTest 105 = .ok (.getfield 46, 3) := by decide +kernel
theorem dX12_readTest_108 : decode cX12_readTest 108 = .ok (.iload_n 3, 1) := by decide +kernel
theorem dX12_readTest_109 : decode cX12_readTest 109 = .ok (.aload_n 0, 1) := by decide +kernel
theorem dX12_readTest_110 : decode cX12_readTest 110 = .ok (.getfield 174, 3) := by decide +kernel
theorem dX12_readTest_113 : decode cX12_readTest 113 = .ok (.iastore, 1) := by decide +kernel
theorem dX12_readTest_114 : decode cX12_readTest 114 = .ok (.aload_n 0, 1) := by decide +kernel
theorem dX12_readTest_115 : decode cX12_readTest 115 = .ok (.invokevirtual 204, 3) := by decide +kernel
theorem dX12_readTest_118 : decode cX12_readTest 118 = .ok (.aload_n 0, 1) := by decide +kernel
theorem dX12_readTest_119 : decode cX12_readTest 119 = .ok (.getfield 34, 3) := by decide +kernel
theorem dX12_readTest_122 : decode cX12_readTest 122 = .ok (.iload_n 1, 1) := by decide +kernel
theorem dX12_readTest_123 : decode cX12_readTest 123 = .ok (.dup2, 1) := by decide +kernel
theorem dX12_readTest_124 : decode cX12_readTest 124 = .ok (.iaload, 1) := by decide +kernel
theorem dX12_readTest_125 : decode cX12_readTest 125 = .ok (.iconst 1, 1) := by decide +kernel
theorem dX12_readTest_126 : decode cX12_readTest 126 = .ok (.iadd, 1) := by decide +kernel
theorem dX12_readTest_127 : decode cX12_readTest 127 = .ok (.iastore, 1) := by decide +kernel
theorem dX12_readTest_128 : decode cX12_readTest 128 = .ok (.return_, 1) := by decide +kernel
theorem dX12_readTerm_0 : decode cX12_readTerm 0 = .ok (.aload_n 0, 1) := by decide +kernel
theorem dX12_readTerm_1 : decode cX12_readTerm 1 = .ok (.getfield 157, 3) := by decide +kernel
theorem dX12_readTerm_4 : decode cX12_readTerm 4 = .ok (.iconst 3, 1) := by decide +kernel
theorem dX12_readTerm_5 : decode cX12_readTerm 5 = .ok (.if_icmp .ne 7, 3) := by decide +kernel
theorem dX12_readTerm_8 : decode cX12_readTerm 8 = .ok (.iconst (-1), 1) := by decide +kernel
theorem dX12_readTerm_9 : decode cX12_readTerm 9 = .ok (.goto 7, 3) := by decide +kernel
theorem dX12_readTerm_12 : decode cX12_readTerm 12 = .ok (.aload_n 0, 1) := by decide +kernel
theorem dX12_readTerm_13 : decode cX12_readTerm 13 = .ok (.invokevirtual 216, 3) := by decide +kernel
theorem dX12_readTerm_16 : decode cX12_readTerm 16 = .ok (.istore_n 2, 1) := by decide +kernel
theorem dX12_readTerm_17 : decode cX12_readTerm 17 = .ok (.aload_n 0, 1) := by decide +kernel
theorem dX12_readTerm_18 : decode cX12_readTerm 18 = .ok (.getfield 37, 3) := by decide +kernel
theorem dX12_readTerm_21 : decode cX12_readTerm 21 = .ok (.iload_n 1, 1) := by decide +kernel
theorem dX12_readTerm_22 : decode cX12_readTerm 22 = .ok (.iaload, 1) := by decide +kernel
theorem dX12_readTerm_23 : decode cX12_readTerm 23 = .ok (.iconst 4, 1) := by decide +kernel
theorem dX12_readTerm_24 : decode cX12_readTerm 24 = .ok (.if_icmp .ne 9, 3) := by decide +kernel
theorem dX12_readTerm_27 : decode cX12_readTerm 27 = .ok (.aload_n 0, 1) := by decide +kernel
theorem dX12_readTerm_28 : decode cX12_readTerm 28 = .ok (.iconst 4, 1) := by decide +kernel
theorem dX12_readTerm_29 : decode cX12_readTerm 29 = .ok (.invokevirtual 192, 3) := by decide +kernel
theorem dX12_readTerm_32 : decode cX12_readTerm 32 = .ok (.athrow, 1) := by decide +kernel
theorem dX12_readTerm_33 : decode cX12_readTerm 33 = .ok (.iconst 4, 1) := by decide +kernel
theorem dX12_readTerm_34 : decode cX12_readTerm 34 = .ok (.iload_n 1, 1) := by decide +kernel
theorem dX12_readTerm_35 : decode cX12_readTerm 35 = .ok (.imul, 1) := by decide +kernel
theorem dX12_readTerm_36 : decode cX12_readTerm 36 = .ok (.aload_n 0, 1) := by decide +kernel
theorem dX12_readTerm_37 : decode cX12_readTerm 37 = .ok (.getfield 37, 3) := by decide +kernel
theorem dX12_readTerm_40 : decode cX12_readTerm 40 = .ok (.iload_n 1, 1) := by decide +kernel
theorem dX12_readTerm_41 : decode cX12_readTerm 41 = .ok (.iaload, 1) := by decide +kernel
theorem dX12_readTerm_42 : decode cX12_readTerm 42 = .ok (.iadd, 1) := by decide +kernel
theorem dX12_readTerm_43 : decode cX12_readTerm 43 = .ok (.istore_n 3, 1) := by decide +kernel
theorem dX12_readTerm_44 : decode cX12_readTerm 44 = .ok (.aload_n 0, 1) := by decide +kernel
theorem dX12_readTerm_45 : decode cX12_readTerm 45 = .ok (.getfield 52, 3) := by decide +kernel
theorem dX12_readTerm_48 : decode cX12_readTerm 48 = .ok (.iload_n 3, 1) := by decide +kernel
theorem dX12_readTerm_49 : decode cX12_readTerm 49 = .ok (.aload_n 0, 1) := by decide +kernel
theorem dX12_readTerm_50 : decode cX12_readTerm 50 = .ok (.getfield 157, 3) := by decide +kernel
theorem dX12_readTerm_53 : decode cX12_readTerm 53 = .ok (.iconst 3, 1) := by decide +kernel
theorem dX12_readTerm_54 : decode cX12_readTerm 54 = .ok (.if_icmp .ne 10, 3) := by decide +kernel
theorem dX12_readTerm_57 : decode cX12_readTerm 57 = .ok (.aload_n 0, 1) := by decide +kernel
theorem dX12_readTerm_58 : decode cX12_readTerm 58 = .ok (.getfield 174, 3) := by decide +kernel
theorem dX12_readTerm_61 : decode cX12_readTerm 61 = .ok (.goto 4, 3) := by decide +kernel
theorem dX12_readTerm_64 : decode cX12_readTerm 64 = .ok (.iconst 1, 1) := by decide +kernel
theorem dX12_readTerm_65 : decode cX12_readTerm 65 = .ok (.iastore, 1) := by decide +kernel
theorem dX12_readTerm_66 : decode cX12_readTerm 66 = .ok (.aload_n 0, 1) := by decide +kernel
theorem dX12_readTerm_67 : decode cX12_readTerm 67 = .ok (.getfield 55, 3) := by decide +kernel
theorem dX12_readTerm_70 : decode cX12_readTerm 70 = .ok (.iload_n 3, 1) := by decide +kernel
theorem dX12_readTerm_71 : decode cX12_readTerm 71 = .ok (.iconst 1, 1) := by decide +kernel
theorem dX12_readTerm_72 : decode cX12_readTerm 72 = .ok (.iastore, 1) := by decide +kernel
theorem dX12_readTerm_73 : decode cX12_readTerm 73 = .ok (.aload_n 0, 1) := by decide +kernel
theorem dX12_readTerm_74 : decode cX12_readTerm 74 = .ok (.invokevirtual 204, 3) := by decide +kernel
theorem dX12_readTerm_77 : decode cX12_readTerm 77 = .ok (.iload_n 2, 1) := by decide +kernel
theorem dX12_readTerm_78 : decode cX12_readTerm 78 = .ok (.iconst (-1), 1) := by decide +kernel
theorem dX12_readTerm_79 : decode cX12_readTerm 79 = .ok (.if_icmp .ne 25, 3) := by decide +kernel
theorem dX12_readTerm_82 : decode cX12_readTerm 82 = .ok (.aload_n 0, 1) := by decide +kernel
theorem dX12_readTerm_83 : decode cX12_readTerm 83 = .ok (.bipush 42, 2) := by decide +kernel
theorem dX12_readTerm_85 : decode cX12_readTerm 85 = .ok (.invokevirtual 214, 3) := by decide +kernel
theorem dX12_readTerm_88 : decode cX12_readTerm 88 = .ok (.ifCond .eq 16, 3) := by decide +kernel
theorem dX12_readTerm_91 : decode cX12_readTerm 91 = .ok (.aload_n 0, 1) := by decide +kernel
theorem dX12_readTerm_92 : decode cX12_readTerm 92 = .ok (.invokevirtual 204, 3) := by decide +kernel
theorem dX12_readTerm_95 : decode cX12_readTerm 95 = .ok (.aload_n 0, 1) := by decide +kernel
theorem dX12_readTerm_96 : decode cX12_readTerm 96 = .ok (.invokevirtual 216, 3) := by decide +kernel
theorem dX12_readTerm_99 : decode cX12_readTerm 99 = .ok (.istore_n 2, 1) := by decide +kernel
theorem dX12_readTerm_100 : decode cX12_readTerm 100 = .ok (.aload_n 0, 1) := by decide +kernel
theorem dX12_readTerm_101 : decode cX12_readTerm 101 = .ok (.invokevirtual 204, 3) := by decide +kernel
theorem dX12_readTerm_104 : decode cX12_readTerm 104 = .ok (.aload_n 0, 1) := by decide +kernel
theorem dX12_readTerm_105 : decode cX12_readTerm 105 = .ok (.getfield 49, 3) := by decide +kernel
theorem dX12_readTerm_108 : decode cX12_readTerm 108 = .ok (.iload_n 3, 1) := by decide +kernel
theorem dX12_readTerm_109 : decode cX12_readTerm 109 = .ok (.iload_n 2, 1) := by decide +kernel
theorem dX12_readTerm_110 : decode cX12_readTerm 110 = .ok (.iastore, 1) := by decide +kernel
theorem dX12_readTerm_111 : decode cX12_readTerm 111 = .ok (.iload_n 2, 1) := by decide +kernel
theorem dX12_readTerm_112 : decode cX12_readTerm 112 = .ok (.iconst (-1), 1) := by decide +kernel
theorem dX12_readTerm_113 : decode cX12_readTerm 113 = .ok (.if_icmp .eq 57, 3) := by decide +kernel
theorem dX12_readTerm_116 : decode cX12_readTerm 116 = .ok (.aload_n 0, 1) := by decide +kernel
theorem dX12_readTerm_117 : decode cX12_readTerm 117 = .ok (.bipush 47, 2) := by decide +kernel
theorem dX12_readTerm_119 : decode cX12_readTerm 119 = .ok (.invokevirtual 214, 3) := by decide +kernel
theorem dX12_readTerm_122 : decode cX12_readTerm 122 = .ok (.ifCond .eq 48, 3) := by decide +kernel
theorem dX12_readTerm_125 : decode cX12_readTerm 125 = .ok (.aload_n 0, 1) := by decide +kernel
theorem dX12_readTerm_126 : decode cX12_readTerm 126 = .ok (.invokevirtual 204, 3) := by decide +kernel
theorem dX12_readTerm_129 : decode cX12_readTerm 129 = .ok (.aload_n 0, 1) := by decide +kernel
theorem dX12_readTerm_130 : decode cX12_readTerm 130 = .ok (.getfield 157, 3) := by decide +kernel
theorem dX12_readTerm_133 : decode cX12_readTerm 133 = .ok (.iconst 3, 1) := by decide +kernel
theorem dX12_readTerm_134 : decode cX12_readTerm 134 = .ok (.if_icmp .eq 9, 3) := by decide +kernel
theorem dX12_readTerm_137 : decode cX12_readTerm 137 = .ok (.aload_n 0, 1) := by decide +kernel
theorem dX12_readTerm_138 : decode cX12_readTerm 138 = .ok (.iconst 1, 1) := by decide +kernel
theorem dX12_readTerm_139 : decode cX12_readTerm 139 = .ok (.invokevirtual 192, 3) := by decide +kernel
theorem dX12_readTerm_142 : decode cX12_readTerm 142 = .ok (.athrow, 1) := by decide +kernel
theorem dX12_readTerm_143 : decode cX12_readTerm 143 = .ok (.aload_n 0, 1) := by decide +kernel
theorem dX12_readTerm_144 : decode cX12_readTerm 144 = .ok (.getfield 174, 3) := by decide +kernel
theorem dX12_readTerm_147 : decode cX12_readTerm 147 = .ok (.ifCond .ne 9, 3) := by decide +kernel
theorem dX12_readTerm_150 : decode cX12_readTerm 150 = .ok (.aload_n 0, 1) := by decide +kernel
theorem dX12_readTerm_151 : decode cX12_readTerm 151 = .ok (.iconst 3, 1) := by decide +kernel
theorem dX12_readTerm_152 : decode cX12_readTerm 152 = .ok (.invokevirtual 192, 3) := by decide +kernel
theorem dX12_readTerm_155 : decode cX12_readTerm 155 = .ok (.athrow, 1) := by decide +kernel
theorem dX12_readTerm_156 : decode cX12_readTerm 156 = .ok (.aload_n 0, 1) := by decide +kernel
theorem dX12_readTerm_157 : decode cX12_readTerm 157 = .ok (.getfield 55, 3) := by decide +kernel
theorem dX12_readTerm_160 : decode cX12_readTerm 160 = .ok (.iload_n 3, 1) := by decide +kernel
theorem dX12_readTerm_161 : decode cX12_readTerm 161 = .ok (.aload_n 0, 1) := by decide +kernel
theorem dX12_readTerm_162 : decode cX12_readTerm 162 = .ok (.getfield 174, 3) := by decide +kernel
theorem dX12_readTerm_165 : decode cX12_readTerm 165 = .ok (.iastore, 1) := by decide +kernel
theorem dX12_readTerm_166 : decode cX12_readTerm 166 = .ok (.aload_n 0, 1) := by decide +kernel
theorem dX12_readTerm_167 : decode cX12_readTerm 167 = .ok (.invokevirtual 204, 3) := by decide +kernel
theorem dX12_readTerm_170 : decode cX12_readTerm 170 = .ok (.aload_n 0, 1) := by decide +kernel
theorem dX12_readTerm_171 : decode cX12_readTerm 171 = .ok (.getfield 37, 3) := by decide +kernel
theorem dX12_readTerm_174 : decode cX12_readTerm 174 = .ok (.iload_n 1, 1) := by decide +kernel
theorem dX12_readTerm_175 : decode cX12_readTerm 175 = .ok (.dup2, 1) := by decide +kernel
theorem dX12_readTerm_176 : decode cX12_readTerm 176 = .ok (.iaload, 1) := by decide +kernel
theorem dX12_readTerm_177 : decode cX12_readTerm 177 = .ok (.iconst 1, 1) := by decide +kernel
theorem dX12_readTerm_178 : decode cX12_readTerm 178 = .ok (.iadd, 1) := by decide +kernel
theorem dX12_readTerm_179 : decode cX12_readTerm 179 = .ok (.iastore, 1) := by decide +kernel
theorem dX12_readTerm_180 : decode cX12_readTerm 180 = .ok (.return_, 1) := by decide +kernel
theorem dX12_valueOf_0 : decode cX12_valueOf 0 = .ok (.iload_n 0, 1) := by decide +kernel
theorem dX12_valueOf_1 : decode cX12_valueOf 1 = .ok (.iconst (-1), 1) := by decide +kernel
theorem dX12_valueOf_2 : decode cX12_valueOf 2 = .ok (.if_icmp .ne 7, 3) := by decide +kernel
theorem dX12_valueOf_5 : decode cX12_valueOf 5 = .ok (.iconst 1, 1) := by decide +kernel
theorem dX12_valueOf_6 : decode cX12_valueOf 6 = .ok (.goto 31, 3) := by decide +kernel
theorem dX12_valueOf_9 : decode cX12_valueOf 9 = .ok (.iload_n 0, 1) := by decide +kernel
theorem dX12_valueOf_10 : decode cX12_valueOf 10 = .ok (.ifCond .ne 7, 3) := by decide +kernel
theorem dX12_valueOf_13 : decode cX12_valueOf 13 = .ok (.iload_n 1, 1) := by decide +kernel
theorem dX12_valueOf_14 : decode cX12_valueOf 14 = .ok (.goto 23, 3) := by decide +kernel
theorem dX12_valueOf_17 : decode cX12_valueOf 17 = .ok (.iload_n 0, 1) := by decide +kernel
theorem dX12_valueOf_18 : decode cX12_valueOf 18 = .ok (.iconst 1, 1) := by decide +kernel
theorem dX12_valueOf_19 : decode cX12_valueOf 19 = .ok (.if_icmp .ne 7, 3) := by decide +kernel
theorem dX12_valueOf_22 : decode cX12_valueOf 22 = .ok (.iload_n 2, 1) := by decide +kernel
theorem dX12_valueOf_23 : decode cX12_valueOf 23 = .ok (.goto 14, 3) := by decide +kernel
theorem dX12_valueOf_26 : decode cX12_valueOf 26 = .ok (.iload_n 0, 1) := by decide +kernel
theorem dX12_valueOf_27 : decode cX12_valueOf 27 = .ok (.iconst 2, 1) := by decide +kernel
theorem dX12_valueOf_28 : decode cX12_valueOf 28 = .ok (.if_icmp .ne 7, 3) := by decide +kernel
theorem dX12_valueOf_31 : decode cX12_valueOf 31 = .ok (.iload_n 3, 1) := by decide +kernel
theorem dX12_valueOf_32 : decode cX12_valueOf 32 = .ok (.goto 5, 3) := by decide +kernel
theorem dX12_valueOf_35 : decode cX12_valueOf 35 = .ok (.iload 4, 2) := by decide +kernel
theorem dX12_valueOf_37 : decode cX12_valueOf 37 = .ok (.ireturn, 1) := by decide +kernel
theorem dX12_feeOf_0 : decode cX12_feeOf 0 = .ok (.bipush 12, 2) := by decide +kernel
theorem dX12_feeOf_2 : decode cX12_feeOf 2 = .ok (.iload_n 1, 1) := by decide +kernel
theorem dX12_feeOf_3 : decode cX12_feeOf 3 = .ok (.imul, 1) := by decide +kernel
theorem dX12_feeOf_4 : decode cX12_feeOf 4 = .ok (.istore 7, 2) := by decide +kernel
theorem dX12_feeOf_6 : decode cX12_feeOf 6 = .ok (.iload 7, 2) := by decide +kernel
theorem dX12_feeOf_8 : decode cX12_feeOf 8 = .ok (.bipush 12, 2) := by decide +kernel
theorem dX12_feeOf_10 : decode cX12_feeOf 10 = .ok (.iload_n 1, 1) := by decide +kernel
theorem dX12_feeOf_11 : decode cX12_feeOf 11 = .ok (.imul, 1) := by decide +kernel
theorem dX12_feeOf_12 : decode cX12_feeOf 12 = .ok (.aload_n 0, 1) := by decide +kernel
theorem dX12_feeOf_13 : decode cX12_feeOf 13 = .ok (.getfield 28, 3) := by decide +kernel
theorem dX12_feeOf_16 : decode cX12_feeOf 16 = .ok (.iload_n 1, 1) := by decide +kernel
theorem dX12_feeOf_17 : decode cX12_feeOf 17 = .ok (.iaload, 1) := by decide +kernel
theorem dX12_feeOf_18 : decode cX12_feeOf 18 = .ok (.iadd, 1) := by decide +kernel
theorem dX12_feeOf_19 : decode cX12_feeOf 19 = .ok (.if_icmp .ge 240, 3) := by decide +kernel
theorem dX12_feeOf_22 : decode cX12_feeOf 22 = .ok (.aload_n 0, 1) := by decide +kernel
theorem dX12_feeOf_23 : decode cX12_feeOf 23 = .ok (.getfield 31, 3) := by decide +kernel
theorem dX12_feeOf_26 : decode cX12_feeOf 26 = .ok (.iload 7, 2) := by decide +kernel
theorem dX12_feeOf_28 : decode cX12_feeOf 28 = .ok (.iaload, 1) := by decide +kernel
theorem dX12_feeOf_29 : decode cX12_feeOf 29 = .ok (.iload_n 2, 1) := by decide +kernel
theorem dX12_feeOf_30 : decode cX12_feeOf 30 = .ok (.if_icmp .ne 7, 3) := by decide +kernel
theorem dX12_feeOf_33 : decode cX12_feeOf 33 = .ok (.iconst 1, 1) := by decide +kernel
theorem dX12_feeOf_34 : decode cX12_feeOf 34 = .ok (.goto 4, 3) := by decide +kernel
theorem dX12_feeOf_37 : decode cX12_feeOf 37 = .ok (.iconst 0, 1) := by decide +kernel
theorem dX12_feeOf_38 : decode cX12_feeOf 38 = .ok (.istore 8, 2) := by decide +kernel
theorem dX12_feeOf_40 : decode cX12_feeOf 40 = .ok (.iconst 4, 1) := by decide +kernel
theorem dX12_feeOf_41 : decode cX12_feeOf 41 = .ok (.iload 7, 2) := by decide +kernel
theorem dX12_feeOf_43 : decode cX12_feeOf 43 = .ok (.imul, 1) := by decide +kernel
theorem dX12_feeOf_44 : decode cX12_feeOf 44 = .ok (.istore 9, 2) := by decide +kernel
theorem dX12_feeOf_46 : decode cX12_feeOf 46 = .ok (.iload 9, 2) := by decide +kernel
theorem dX12_feeOf_48 : decode cX12_feeOf 48 = .ok (.iconst 4, 1) := by decide +kernel
theorem dX12_feeOf_49 : decode cX12_feeOf 49 = .ok (.iload 7, 2) := by decide +kernel
theorem dX12_feeOf_51 : decode cX12_feeOf 51 = .ok (.imul, 1) := by decide +kernel
theorem dX12_feeOf_52 : decode cX12_feeOf 52 = .ok (.aload_n 0, 1) := by decide +kernel
theorem dX12_feeOf_53 : decode cX12_feeOf 53 = .ok (.getfield 34, 3) := by decide +kernel
theorem dX12_feeOf_56 : decode cX12_feeOf 56 = .ok (.iload 7, 2) := by decide +kernel
theorem dX12_feeOf_58 : decode cX12_feeOf 58 = .ok (.iaload, 1) := by decide +kernel
theorem dX12_feeOf_59 : decode cX12_feeOf 59 = .ok (.iadd, 1) := by decide +kernel
theorem dX12_feeOf_60 : decode cX12_feeOf 60 = .ok (.if_icmp .ge 106, 3) := by decide +kernel
theorem dX12_feeOf_63 : decode cX12_feeOf 63 = .ok (.aload_n 0, 1) := by decide +kernel
theorem dX12_feeOf_64 : decode cX12_feeOf 64 = .ok (.getfield 40, 3) := by decide +kernel
theorem dX12_feeOf_67 : decode cX12_feeOf 67 = .ok (.iload 9, 2) := by decide +kernel
theorem dX12_feeOf_69 : decode cX12_feeOf 69 = .ok (.iaload, 1) := by decide +kernel
theorem dX12_feeOf_70 : decode cX12_feeOf 70 = .ok (.iload_n 3, 1) := by decide +kernel
theorem dX12_feeOf_71 : decode cX12_feeOf 71 = .ok (.iload 4, 2) := by decide +kernel
theorem dX12_feeOf_73 : decode cX12_feeOf 73 = .ok (.iload 5, 2) := by decide +kernel
theorem dX12_feeOf_75 : decode cX12_feeOf 75 = .ok (.iload 6, 2) := by decide +kernel
theorem dX12_feeOf_77 : decode cX12_feeOf 77 = .ok (.invokestatic 219, 3) := by decide +kernel
theorem dX12_feeOf_80 : decode cX12_feeOf 80 = .ok (.istore 10, 2) := by decide +kernel
theorem dX12_feeOf_82 : decode cX12_feeOf 82 = .ok (.iload 8, 2) := by decide +kernel
theorem dX12_feeOf_84 : decode cX12_feeOf 84 = .ok (.ifCond .eq 73, 3) := by decide +kernel
theorem dX12_feeOf_87 : decode cX12_feeOf 87 = .ok (.aload_n 0, 1) := by decide +kernel
theorem dX12_feeOf_88 : decode cX12_feeOf 88 = .ok (.getfield 43, 3) := by decide +kernel
theorem dX12_feeOf_91 : decode cX12_feeOf 91 = .ok (.iload 9, 2) := by decide +kernel
theorem dX12_feeOf_93 : decode cX12_feeOf 93 = .ok (.iaload, 1) := by decide +kernel
theorem dX12_feeOf_94 : decode cX12_feeOf 94 = .ok (.bipush 60, 2) := by decide +kernel
theorem dX12_feeOf_96 : decode cX12_feeOf 96 = .ok (.if_icmp .ne 18, 3) := by decide +kernel
theorem dX12_feeOf_99 : decode cX12_feeOf 99 = .ok (.iload 10, 2) := by decide +kernel
theorem dX12_feeOf_101 : decode cX12_feeOf 101 = .ok (.aload_n 0, 1) := by decide +kernel
theorem dX12_feeOf_102 : decode cX12_feeOf 102 = .ok (.getfield 46, 3) := by decide +kernel
theorem dX12_feeOf_105 : decode cX12_feeOf 105 = .ok (.iload 9, 2) := by decide +kernel
theorem dX12_feeOf_107 : decode cX12_feeOf 107 = .ok (.iaload, 1) := by decide +kernel
theorem dX12_feeOf_108 : decode cX12_feeOf 108 = .ok (.if_icmp .ge 49, 3) := by decide +kernel
theorem dX12_feeOf_111 : decode cX12_feeOf 111 = .ok (.goto 42, 3) := by decide +kernel
theorem dX12_feeOf_114 : decode cX12_feeOf 114 = .ok (.aload_n 0, 1) := by decide +kernel
theorem dX12_feeOf_115 : decode cX12_feeOf 115 = .ok (.getfield 43, 3) := by decide +kernel
theorem dX12_feeOf_118 : decode cX12_feeOf 118 = .ok (.iload 9, 2) := by decide +kernel
theorem dX12_feeOf_120 : decode cX12_feeOf 120 = .ok (.iaload, 1) := by decide +kernel
theorem dX12_feeOf_121 : decode cX12_feeOf 121 = .ok (.bipush 62, 2) := by decide +kernel
theorem dX12_feeOf_123 : decode cX12_feeOf 123 = .ok (.if_icmp .ne 18, 3) := by decide +kernel
theorem dX12_feeOf_126 : decode cX12_feeOf 126 = .ok (.iload 10, 2) := by decide +kernel
theorem dX12_feeOf_128 : decode cX12_feeOf 128 = .ok (.aload_n 0, 1) := by decide +kernel
theorem dX12_feeOf_129 : decode cX12_feeOf 129 = .ok (.getfield 46, 3) := by decide +kernel
theorem dX12_feeOf_132 : decode cX12_feeOf 132 = .ok (.iload 9, 2) := by decide +kernel
theorem dX12_feeOf_134 : decode cX12_feeOf 134 = .ok (.iaload, 1) := by decide +kernel
theorem dX12_feeOf_135 : decode cX12_feeOf 135 = .ok (.if_icmp .le 22, 3) := by decide +kernel
theorem dX12_feeOf_138 : decode cX12_feeOf 138 = .ok (.goto 15, 3) := by decide +kernel
theorem dX12_feeOf_141 : decode cX12_feeOf 141 = .ok (.iload 10, 2) := by decide +kernel
theorem dX12_feeOf_143 : decode cX12_feeOf 143 = .ok (.aload_n 0, 1) := by decide +kernel
theorem dX12_feeOf_144 : decode cX12_feeOf 144 = .ok (.getfield 46, 3) := by decide +kernel
theorem dX12_feeOf_147 : decode cX12_feeOf 147 = .ok (.iload 9, 2) := by decide +kernel
theorem dX12_feeOf_149 : decode cX12_feeOf 149 = .ok (.iaload, 1) := by decide +kernel
theorem dX12_feeOf_150 : decode cX12_feeOf 150 = .ok (.if_icmp .ne 7, 3) := by decide +kernel
theorem dX12_feeOf_153 : decode cX12_feeOf 153 = .ok (.iconst 1, 1) := by decide +kernel
theorem dX12_feeOf_154 : decode cX12_feeOf 154 = .ok (.goto 4, 3) := by decide +kernel
theorem dX12_feeOf_157 : decode cX12_feeOf 157 = .ok (.iconst 0, 1) := by decide +kernel
theorem dX12_feeOf_158 : decode cX12_feeOf 158 = .ok (.istore 8, 2) := by decide +kernel
theorem dX12_feeOf_160 : decode cX12_feeOf 160 = .ok (.iinc 9 1, 3) := by decide +kernel
theorem dX12_feeOf_163 : decode cX12_feeOf 163 = .ok (.goto (-117), 3) := by decide +kernel
theorem dX12_feeOf_166 : decode cX12_feeOf 166 = .ok (.iload 8, 2) := by decide +kernel
theorem dX12_feeOf_168 : decode cX12_feeOf 168 = .ok (.ifCond .ne 6, 3) := by decide +kernel
theorem dX12_feeOf_171 : decode cX12_feeOf 171 = .ok (.goto 82, 3) := by decide +kernel
theorem dX12_feeOf_174 : decode cX12_feeOf 174 = .ok (.iconst 0, 1) := by decide +kernel
theorem dX12_feeOf_175 : decode cX12_feeOf 175 = .ok (.istore 9, 2) := by decide +kernel
theorem dX12_feeOf_177 : decode cX12_feeOf 177 = .ok (.iconst 4, 1) := by decide +kernel
theorem dX12_feeOf_178 : decode cX12_feeOf 178 = .ok (.iload 7, 2) := by decide +kernel
theorem dX12_feeOf_180 : decode cX12_feeOf 180 = .ok (.imul, 1) := by decide +kernel
theorem dX12_feeOf_181 : decode cX12_feeOf 181 = .ok (.istore 10, 2) := by decide +kernel
theorem dX12_feeOf_183 : decode cX12_feeOf 183 = .ok (.iload 10, 2) := by decide +kernel
theorem dX12_feeOf_185 : decode cX12_feeOf 185 = .ok (.iconst 4, 1) := by decide +kernel
theorem dX12_feeOf_186 : decode cX12_feeOf 186 = .ok (.iload 7, 2) := by decide +kernel
theorem dX12_feeOf_188 : decode cX12_feeOf 188 = .ok (.imul, 1) := by decide +kernel
theorem dX12_feeOf_189 : decode cX12_feeOf 189 = .ok (.aload_n 0, 1) := by decide +kernel
theorem dX12_feeOf_190 : decode cX12_feeOf 190 = .ok (.getfield 37, 3) := by decide +kernel
theorem dX12_feeOf_193 : decode cX12_feeOf 193 = .ok (.iload 7, 2) := by decide +kernel
theorem dX12_feeOf_195 : decode cX12_feeOf 195 = .ok (.iaload, 1) := by decide +kernel
theorem dX12_feeOf_196 : decode cX12_feeOf 196 = .ok (.iadd, 1) := by decide +kernel
theorem dX12_feeOf_197 : decode cX12_feeOf 197 = .ok (.if_icmp .ge 47, 3) := by decide +kernel
theorem dX12_feeOf_200 : decode cX12_feeOf 200 = .ok (.iload 9, 2) := by decide +kernel
theorem dX12_feeOf_202 : decode cX12_feeOf 202 = .ok (.aload_n 0, 1) := by decide +kernel
theorem dX12_feeOf_203 : decode cX12_feeOf 203 = .ok (.getfield 52, 3) := by decide +kernel
theorem dX12_feeOf_206 : decode cX12_feeOf 206 = .ok (.iload 10, 2) := by decide +kernel
theorem dX12_feeOf_208 : decode cX12_feeOf 208 = .ok (.iaload, 1) := by decide +kernel
theorem dX12_feeOf_209 : decode cX12_feeOf 209 = .ok (.aload_n 0, 1) := by decide +kernel
theorem dX12_feeOf_210 : decode cX12_feeOf 210 = .ok (.getfield 49, 3) := by decide +kernel
theorem dX12_feeOf_213 : decode cX12_feeOf 213 = .ok (.iload 10, 2) := by decide +kernel
theorem dX12_feeOf_215 : decode cX12_feeOf 215 = .ok (.iaload, 1) := by decide +kernel
theorem dX12_feeOf_216 : decode cX12_feeOf 216 = .ok (.iload_n 3, 1) := by decide +kernel
theorem dX12_feeOf_217 : decode cX12_feeOf 217 = .ok (.iload 4, 2) := by decide +kernel
theorem dX12_feeOf_219 : decode cX12_feeOf 219 = .ok (.iload 5, 2) := by decide +kernel
theorem dX12_feeOf_221 : decode cX12_feeOf 221 = .ok (.iload 6, 2) := by decide +kernel
theorem dX12_feeOf_223 : decode cX12_feeOf 223 = .ok (.invokestatic 219, 3) := by decide +kernel
theorem dX12_feeOf_226 : decode cX12_feeOf 226 = .ok (.imul, 1) := by decide +kernel
theorem dX12_feeOf_227 : decode cX12_feeOf 227 = .ok (.aload_n 0, 1) := by decide +kernel
theorem dX12_feeOf_228 : decode cX12_feeOf 228 = .ok (.getfield 55, 3) := by decide +kernel
theorem dX12_feeOf_231 : decode cX12_feeOf 231 = .ok (.iload 10, 2) := by decide +kernel
theorem dX12_feeOf_233 : decode cX12_feeOf 233 = .ok (.iaload, 1) := by decide +kernel
theorem dX12_feeOf_234 : decode cX12_feeOf 234 = .ok (.idiv, 1) := by decide +kernel
theorem dX12_feeOf_235 : decode cX12_feeOf 235 = .ok (.iadd, 1) := by decide +kernel
theorem dX12_feeOf_236 : decode cX12_feeOf 236 = .ok (.istore 9, 2) := by decide +kernel
theorem dX12_feeOf_238 : decode cX12_feeOf 238 = .ok (.iinc 10 1, 3) := by decide +kernel
theorem dX12_feeOf_241 : decode cX12_feeOf 241 = .ok (.goto (-58), 3) := by decide +kernel
theorem dX12_feeOf_244 : decode cX12_feeOf 244 = .ok (.iload 9, 2) := by decide +kernel
theorem dX12_feeOf_246 : decode cX12_feeOf 246 = .ok (.sipush 5000, 3) := by decide +kernel
theorem dX12_feeOf_249 : decode cX12_feeOf 249 = .ok (.invokestatic 223, 3) := by decide +kernel
theorem dX12_feeOf_252 : decode cX12_feeOf 252 = .ok (.ireturn, 1) := by decide +kernel
theorem dX12_feeOf_253 : decode cX12_feeOf 253 = .ok (.iinc 7 1, 3) := by decide +kernel
theorem dX12_feeOf_256 : decode cX12_feeOf 256 = .ok (.goto (-250), 3) := by decide +kernel
theorem dX12_feeOf_259 : decode cX12_feeOf 259 = .ok (.iconst (-1), 1) := by decide +kernel
theorem dX12_feeOf_260 : decode cX12_feeOf 260 = .ok (.ireturn, 1) := by decide +kernel
theorem dX12_port_0 : decode cX12_port 0 = .ok (.aload_n 0, 1) := by decide +kernel
theorem dX12_port_1 : decode cX12_port 1 = .ok (.iconst 0, 1) := by decide +kernel
theorem dX12_port_2 : decode cX12_port 2 = .ok (.putfield 123, 3) := by decide +kernel
theorem dX12_port_5 : decode cX12_port 5 = .ok (.iload_n 1, 1) := by decide +kernel
theorem dX12_port_6 : decode cX12_port 6 = .ok (.iconst 1, 1) := by decide +kernel
theorem dX12_port_7 : decode cX12_port 7 = .ok (.bipush 60, 2) := by decide +kernel
theorem dX12_port_9 : decode cX12_port 9 = .ok (.invokestatic 229, 3) := by decide +kernel
theorem dX12_port_12 : decode cX12_port 12 = .ok (.ifCond .ne 9, 3) := by decide +kernel
theorem dX12_port_15 : decode cX12_port 15 = .ok (.aload_n 0, 1) := by decide +kernel
theorem dX12_port_16 : decode cX12_port 16 = .ok (.iconst 2, 1) := by decide +kernel
theorem dX12_port_17 : decode cX12_port 17 = .ok (.invokevirtual 233, 3) := by decide +kernel
theorem dX12_port_20 : decode cX12_port 20 = .ok (.ireturn, 1) := by decide +kernel
theorem dX12_port_21 : decode cX12_port 21 = .ok (.aload_n 0, 1) := by decide +kernel
theorem dX12_port_22 : decode cX12_port 22 = .ok (.getfield 236, 3) := by decide +kernel
theorem dX12_port_25 : decode cX12_port 25 = .ok (.bipush 8, 2) := by decide +kernel
theorem dX12_port_27 : decode cX12_port 27 = .ok (.if_icmp .ne 9, 3) := by decide +kernel
theorem dX12_port_30 : decode cX12_port 30 = .ok (.aload_n 0, 1) := by decide +kernel
theorem dX12_port_31 : decode cX12_port 31 = .ok (.iconst 3, 1) := by decide +kernel
theorem dX12_port_32 : decode cX12_port 32 = .ok (.invokevirtual 233, 3) := by decide +kernel
theorem dX12_port_35 : decode cX12_port 35 = .ok (.ireturn, 1) := by decide +kernel
theorem dX12_port_36 : decode cX12_port 36 = .ok (.aload_n 0, 1) := by decide +kernel
theorem dX12_port_37 : decode cX12_port 37 = .ok (.getfield 58, 3) := by decide +kernel
theorem dX12_port_40 : decode cX12_port 40 = .ok (.aload_n 0, 1) := by decide +kernel
theorem dX12_port_41 : decode cX12_port 41 = .ok (.getfield 236, 3) := by decide +kernel
theorem dX12_port_44 : decode cX12_port 44 = .ok (.iload_n 1, 1) := by decide +kernel
theorem dX12_port_45 : decode cX12_port 45 = .ok (.iastore, 1) := by decide +kernel
theorem dX12_port_46 : decode cX12_port 46 = .ok (.aload_n 0, 1) := by decide +kernel
theorem dX12_port_47 : decode cX12_port 47 = .ok (.getfield 61, 3) := by decide +kernel
theorem dX12_port_50 : decode cX12_port 50 = .ok (.aload_n 0, 1) := by decide +kernel
theorem dX12_port_51 : decode cX12_port 51 = .ok (.getfield 236, 3) := by decide +kernel
theorem dX12_port_54 : decode cX12_port 54 = .ok (.aload_n 0, 1) := by decide +kernel
theorem dX12_port_55 : decode cX12_port 55 = .ok (.getfield 239, 3) := by decide +kernel
theorem dX12_port_58 : decode cX12_port 58 = .ok (.iastore, 1) := by decide +kernel
theorem dX12_port_59 : decode cX12_port 59 = .ok (.iconst 0, 1) := by decide +kernel
theorem dX12_port_60 : decode cX12_port 60 = .ok (.istore_n 2, 1) := by decide +kernel
theorem dX12_port_61 : decode cX12_port 61 = .ok (.iload_n 2, 1) := by decide +kernel
theorem dX12_port_62 : decode cX12_port 62 = .ok (.aload_n 0, 1) := by decide +kernel
theorem dX12_port_63 : decode cX12_port 63 = .ok (.getfield 201, 3) := by decide +kernel
theorem dX12_port_66 : decode cX12_port 66 = .ok (.if_icmp .ge 22, 3) := by decide +kernel
theorem dX12_port_69 : decode cX12_port 69 = .ok (.aload_n 0, 1) := by decide +kernel
theorem dX12_port_70 : decode cX12_port 70 = .ok (.aload_n 0, 1) := by decide +kernel
theorem dX12_port_71 : decode cX12_port 71 = .ok (.getfield 236, 3) := by decide +kernel
theorem dX12_port_74 : decode cX12_port 74 = .ok (.iload_n 2, 1) := by decide +kernel
theorem dX12_port_75 : decode cX12_port 75 = .ok (.aload_n 0, 1) := by decide +kernel
theorem dX12_port_76 : decode cX12_port 76 = .ok (.getfield 239, 3) := by decide +kernel
theorem dX12_port_79 : decode cX12_port 79 = .ok (.invokevirtual 242, 3) := by decide +kernel
theorem dX12_port_82 : decode cX12_port 82 = .ok (.iinc 2 1, 3) := by decide +kernel
theorem dX12_port_85 : decode cX12_port 85 = .ok (.goto (-24), 3) := by decide +kernel
theorem dX12_port_88 : decode cX12_port 88 = .ok (.aload_n 0, 1) := by decide +kernel
theorem dX12_port_89 : decode cX12_port 89 = .ok (.dup, 1) := by decide +kernel
theorem dX12_port_90 : decode cX12_port 90 = .ok (.getfield 236, 3) := by decide +kernel
theorem dX12_port_93 : decode cX12_port 93 = .ok (.iconst 1, 1) := by decide +kernel
theorem dX12_port_94 : decode cX12_port 94 = .ok (.iadd, 1) := by decide +kernel
theorem dX12_port_95 : decode cX12_port 95 = .ok (.putfield 236, 3) := by decide +kernel
theorem dX12_port_98 : decode cX12_port 98 = .ok (.aload_n 0, 1) := by decide +kernel
theorem dX12_port_99 : decode cX12_port 99 = .ok (.aload_n 0, 1) := by decide +kernel
theorem dX12_port_100 : decode cX12_port 100 = .ok (.getfield 236, 3) := by decide +kernel
theorem dX12_port_103 : decode cX12_port 103 = .ok (.iconst 1, 1) := by decide +kernel
theorem dX12_port_104 : decode cX12_port 104 = .ok (.isub, 1) := by decide +kernel
theorem dX12_port_105 : decode cX12_port 105 = .ok (.invokevirtual 246, 3) := by decide +kernel
theorem dX12_port_108 : decode cX12_port 108 = .ok (.ireturn, 1) := by decide +kernel
theorem dX12_sends_0 : decode cX12_sends 0 = .ok (.aload_n 0, 1) := by decide +kernel
theorem dX12_sends_1 : decode cX12_sends 1 = .ok (.getfield 76, 3) := by decide +kernel
theorem dX12_sends_4 : decode cX12_sends 4 = .ok (.bipush 30, 2) := by decide +kernel
theorem dX12_sends_6 : decode cX12_sends 6 = .ok (.iload_n 1, 1) := by decide +kernel
theorem dX12_sends_7 : decode cX12_sends 7 = .ok (.imul, 1) := by decide +kernel
theorem dX12_sends_8 : decode cX12_sends 8 = .ok (.iload_n 2, 1) := by decide +kernel
theorem dX12_sends_9 : decode cX12_sends 9 = .ok (.iadd, 1) := by decide +kernel
theorem dX12_sends_10 : decode cX12_sends 10 = .ok (.iload_n 3, 1) := by decide +kernel
theorem dX12_sends_11 : decode cX12_sends 11 = .ok (.iastore, 1) := by decide +kernel
theorem dX12_sends_12 : decode cX12_sends 12 = .ok (.aload_n 0, 1) := by decide +kernel
theorem dX12_sends_13 : decode cX12_sends 13 = .ok (.getfield 79, 3) := by decide +kernel
theorem dX12_sends_16 : decode cX12_sends 16 = .ok (.bipush 30, 2) := by decide +kernel
theorem dX12_sends_18 : decode cX12_sends 18 = .ok (.iload_n 1, 1) := by decide +kernel
theorem dX12_sends_19 : decode cX12_sends 19 = .ok (.imul, 1) := by decide +kernel
theorem dX12_sends_20 : decode cX12_sends 20 = .ok (.iload_n 2, 1) := by decide +kernel
theorem dX12_sends_21 : decode cX12_sends 21 = .ok (.iadd, 1) := by decide +kernel
theorem dX12_sends_22 : decode cX12_sends 22 = .ok (.ldc 249, 2) := by decide +kernel
theorem dX12_sends_24 : decode cX12_sends 24 = .ok (.iastore, 1) := by decide +kernel
theorem dX12_sends_25 : decode cX12_sends 25 = .ok (.aload_n 0, 1) := by decide +kernel
theorem dX12_sends_26 : decode cX12_sends 26 = .ok (.getfield 82, 3) := by decide +kernel
theorem dX12_sends_29 : decode cX12_sends 29 = .ok (.bipush 30, 2) := by decide +kernel
theorem dX12_sends_31 : decode cX12_sends 31 = .ok (.iload_n 1, 1) := by decide +kernel
theorem dX12_sends_32 : decode cX12_sends 32 = .ok (.imul, 1) := by decide +kernel
theorem dX12_sends_33 : decode cX12_sends 33 = .ok (.iload_n 2, 1) := by decide +kernel
theorem dX12_sends_34 : decode cX12_sends 34 = .ok (.iadd, 1) := by decide +kernel
theorem dX12_sends_35 : decode cX12_sends 35 = .ok (.ldc 249, 2) := by decide +kernel
theorem dX12_sends_37 : decode cX12_sends 37 = .ok (.iastore, 1) := by decide +kernel
theorem dX12_sends_38 : decode cX12_sends 38 = .ok (.aload_n 0, 1) := by decide +kernel
theorem dX12_sends_39 : decode cX12_sends 39 = .ok (.getfield 85, 3) := by decide +kernel
theorem dX12_sends_42 : decode cX12_sends 42 = .ok (.bipush 30, 2) := by decide +kernel
theorem dX12_sends_44 : decode cX12_sends 44 = .ok (.iload_n 1, 1) := by decide +kernel
theorem dX12_sends_45 : decode cX12_sends 45 = .ok (.imul, 1) := by decide +kernel
theorem dX12_sends_46 : decode cX12_sends 46 = .ok (.iload_n 2, 1) := by decide +kernel
theorem dX12_sends_47 : decode cX12_sends 47 = .ok (.iadd, 1) := by decide +kernel
theorem dX12_sends_48 : decode cX12_sends 48 = .ok (.iconst 0, 1) := by decide +kernel
theorem dX12_sends_49 : decode cX12_sends 49 = .ok (.bastore, 1) := by decide +kernel
theorem dX12_sends_50 : decode cX12_sends 50 = .ok (.return_, 1) := by decide +kernel
theorem dX12_feed_0 : decode cX12_feed 0 = .ok (.aload_n 0, 1) := by decide +kernel
theorem dX12_feed_1 : decode cX12_feed 1 = .ok (.iconst 0, 1) := by decide +kernel
theorem dX12_feed_2 : decode cX12_feed 2 = .ok (.putfield 123, 3) := by decide +kernel
theorem dX12_feed_5 : decode cX12_feed 5 = .ok (.aload_n 0, 1) := by decide +kernel
theorem dX12_feed_6 : decode cX12_feed 6 = .ok (.getfield 250, 3) := by decide +kernel
theorem dX12_feed_9 : decode cX12_feed 9 = .ok (.bipush 20, 2) := by decide +kernel
theorem dX12_feed_11 : decode cX12_feed 11 = .ok (.iadd, 1) := by decide +kernel
theorem dX12_feed_12 : decode cX12_feed 12 = .ok (.sipush 300, 3) := by decide +kernel
theorem dX12_feed_15 : decode cX12_feed 15 = .ok (.if_icmp .le 5, 3) := by decide +kernel
theorem dX12_feed_18 : decode cX12_feed 18 = .ok (.iconst (-1), 1) := by decide +kernel
theorem dX12_feed_19 : decode cX12_feed 19 = .ok (.ireturn, 1) := by decide +kernel
theorem dX12_feed_20 : decode cX12_feed 20 = .ok (.iconst 0, 1) := by decide +kernel
theorem dX12_feed_21 : decode cX12_feed 21 = .ok (.istore 6, 2) := by decide +kernel
theorem dX12_feed_23 : decode cX12_feed 23 = .ok (.iload 6, 2) := by decide +kernel
theorem dX12_feed_25 : decode cX12_feed 25 = .ok (.bipush 20, 2) := by decide +kernel
theorem dX12_feed_27 : decode cX12_feed 27 = .ok (.if_icmp .ge 90, 3) := by decide +kernel
theorem dX12_feed_30 : decode cX12_feed 30 = .ok (.iload 6, 2) := by decide +kernel
theorem dX12_feed_32 : decode cX12_feed 32 = .ok (.iconst 4, 1) := by decide +kernel
theorem dX12_feed_33 : decode cX12_feed 33 = .ok (.if_icmp .ge 7, 3) := by decide +kernel
theorem dX12_feed_36 : decode cX12_feed 36 = .ok (.iload_n 1, 1) := by decide +kernel
theorem dX12_feed_37 : decode cX12_feed 37 = .ok (.goto 39, 3) := by decide +kernel
theorem dX12_feed_40 : decode cX12_feed 40 = .ok (.iload 6, 2) := by decide +kernel
theorem dX12_feed_42 : decode cX12_feed 42 = .ok (.bipush 8, 2) := by decide +kernel
theorem dX12_feed_44 : decode cX12_feed 44 = .ok (.if_icmp .ge 7, 3) := by decide +kernel
theorem dX12_feed_47 : decode cX12_feed 47 = .ok (.iload_n 2, 1) := by decide +kernel
theorem dX12_feed_48 : decode cX12_feed 48 = .ok (.goto 28, 3) := by decide +kernel
theorem dX12_feed_51 : decode cX12_feed 51 = .ok (.iload 6, 2) := by decide +kernel
theorem dX12_feed_53 : decode cX12_feed 53 = .ok (.bipush 12, 2) := by decide +kernel
theorem dX12_feed_55 : decode cX12_feed 55 = .ok (.if_icmp .ge 7, 3) := by decide +kernel
theorem dX12_feed_58 : decode cX12_feed 58 = .ok (.iload_n 3, 1) := by decide +kernel
theorem dX12_feed_59 : decode cX12_feed 59 = .ok (.goto 17, 3) := by decide +kernel
theorem dX12_feed_62 : decode cX12_feed 62 = .ok (.iload 6, 2) := by decide +kernel
theorem dX12_feed_64 : decode cX12_feed 64 = .ok (.bipush 16, 2) := by decide +kernel
theorem dX12_feed_66 : decode cX12_feed 66 = .ok (.if_icmp .ge 8, 3) := by decide +kernel
theorem dX12_feed_69 : decode cX12_feed 69 = .ok (.iload 4, 2) := by decide +kernel
theorem dX12_feed_71 : decode cX12_feed 71 = .ok (.goto 5, 3) := by decide +kernel
theorem dX12_feed_74 : decode cX12_feed 74 = .ok (.iload 5, 2) := by decide +kernel
theorem dX12_feed_76 : decode cX12_feed 76 = .ok (.istore 7, 2) := by decide +kernel
theorem dX12_feed_78 : decode cX12_feed 78 = .ok (.aload_n 0, 1) := by decide +kernel
theorem dX12_feed_79 : decode cX12_feed 79 = .ok (.getfield 20, 3) := by decide +kernel
theorem dX12_feed_82 : decode cX12_feed 82 = .ok (.aload_n 0, 1) := by decide +kernel
theorem dX12_feed_83 : decode cX12_feed 83 = .ok (.getfield 250, 3) := by decide +kernel
theorem dX12_feed_86 : decode cX12_feed 86 = .ok (.iload 7, 2) := by decide +kernel
theorem dX12_feed_88 : decode cX12_feed 88 = .ok (.bipush 24, 2) := by decide +kernel
theorem dX12_feed_90 : decode cX12_feed 90 = .ok (.bipush 8, 2) := by decide +kernel
theorem dX12_feed_92 : decode cX12_feed 92 = .ok (.iload 6, 2) := by decide +kernel
theorem dX12_feed_94 : decode cX12_feed 94 = .ok (.iconst 4, 1) := by decide +kernel
theorem dX12_feed_95 : decode cX12_feed 95 = .ok (.irem, 1) := by decide +kernel
theorem dX12_feed_96 : decode cX12_feed 96 = .ok (.imul, 1) := by decide +kernel
theorem dX12_feed_97 : decode cX12_feed 97 = .ok (.isub, 1) := by decide +kernel
theorem dX12_feed_98 : decode cX12_feed 98 = .ok (.ishr, 1) := by decide +kernel
theorem dX12_feed_99 : decode cX12_feed 99 = .ok (.i2b, 1) := by decide +kernel
theorem dX12_feed_100 : decode cX12_feed 100 = .ok (.bastore, 1) := by decide +kernel
theorem dX12_feed_101 : decode cX12_feed 101 = .ok (.aload_n 0, 1) := by decide +kernel
theorem dX12_feed_102 : decode cX12_feed 102 = .ok (.dup, 1) := by decide +kernel
theorem dX12_feed_103 : decode cX12_feed 103 = .ok (.getfield 250, 3) := by decide +kernel
theorem dX12_feed_106 : decode cX12_feed 106 = .ok (.iconst 1, 1) := by decide +kernel
theorem dX12_feed_107 : decode cX12_feed 107 = .ok (.iadd, 1) := by decide +kernel
theorem dX12_feed_108 : decode cX12_feed 108 = .ok (.putfield 250, 3) := by decide +kernel
theorem dX12_feed_111 : decode cX12_feed 111 = .ok (.iinc 6 1, 3) := by decide +kernel
theorem dX12_feed_114 : decode cX12_feed 114 = .ok (.goto (-91), 3) := by decide +kernel
theorem dX12_feed_117 : decode cX12_feed 117 = .ok (.aload_n 0, 1) := by decide +kernel
theorem dX12_feed_118 : decode cX12_feed 118 = .ok (.getfield 250, 3) := by decide +kernel
theorem dX12_feed_121 : decode cX12_feed 121 = .ok (.ireturn, 1) := by decide +kernel
theorem dX12_tariff_0 : decode cX12_tariff 0 = .ok (.aload_n 0, 1) := by decide +kernel
theorem dX12_tariff_1 : decode cX12_tariff 1 = .ok (.iconst 0, 1) := by decide +kernel
theorem dX12_tariff_2 : decode cX12_tariff 2 = .ok (.putfield 123, 3) := by decide +kernel
theorem dX12_tariff_5 : decode cX12_tariff 5 = .ok (.iload_n 1, 1) := by decide +kernel
theorem dX12_tariff_6 : decode cX12_tariff 6 = .ok (.ifCond .lt 11, 3) := by decide +kernel
theorem dX12_tariff_9 : decode cX12_tariff 9 = .ok (.iload_n 1, 1) := by decide +kernel
theorem dX12_tariff_10 : decode cX12_tariff 10 = .ok (.aload_n 0, 1) := by decide +kernel
theorem dX12_tariff_11 : decode cX12_tariff 11 = .ok (.getfield 250, 3) := by decide +kernel
theorem dX12_tariff_14 : decode cX12_tariff 14 = .ok (.if_icmp .le 9, 3) := by decide +kernel
theorem dX12_tariff_17 : decode cX12_tariff 17 = .ok (.aload_n 0, 1) := by decide +kernel
theorem dX12_tariff_18 : decode cX12_tariff 18 = .ok (.iconst 2, 1) := by decide +kernel
theorem dX12_tariff_19 : decode cX12_tariff 19 = .ok (.invokevirtual 233, 3) := by decide +kernel
theorem dX12_tariff_22 : decode cX12_tariff 22 = .ok (.ireturn, 1) := by decide +kernel
theorem dX12_tariff_23 : decode cX12_tariff 23 = .ok (.aload_n 0, 1) := by decide +kernel
theorem dX12_tariff_24 : decode cX12_tariff 24 = .ok (.iload_n 1, 1) := by decide +kernel
theorem dX12_tariff_25 : decode cX12_tariff 25 = .ok (.putfield 135, 3) := by decide +kernel
theorem dX12_tariff_28 : decode cX12_tariff 28 = .ok (.aload_n 0, 1) := by decide +kernel
theorem dX12_tariff_29 : decode cX12_tariff 29 = .ok (.iconst 0, 1) := by decide +kernel
theorem dX12_tariff_30 : decode cX12_tariff 30 = .ok (.putfield 250, 3) := by decide +kernel
theorem dX12_tariff_33 : decode cX12_tariff 33 = .ok (.aload_n 0, 1) := by decide +kernel
theorem dX12_tariff_34 : decode cX12_tariff 34 = .ok (.iconst 0, 1) := by decide +kernel
theorem dX12_tariff_35 : decode cX12_tariff 35 = .ok (.putfield 150, 3) := by decide +kernel
theorem dX12_tariff_38 : decode cX12_tariff 38 = .ok (.aload_n 0, 1) := by decide +kernel
theorem dX12_tariff_39 : decode cX12_tariff 39 = .ok (.iconst 0, 1) := by decide +kernel
theorem dX12_tariff_40 : decode cX12_tariff 40 = .ok (.putfield 253, 3) := by decide +kernel
theorem dX12_tariff_43 : decode cX12_tariff 43 = .ok (.aload_n 0, 1) := by decide +kernel
theorem dX12_tariff_44 : decode cX12_tariff 44 = .ok (.invokevirtual 256, 3) := by decide +kernel
theorem dX12_tariff_47 : decode cX12_tariff 47 = .ok (.goto 27, 3) := by decide +kernel
theorem dX12_tariff_50 : decode cX12_tariff 50 = .ok (.astore_n 2, 1) := by decide +kernel
theorem dX12_tariff_51 : decode cX12_tariff 51 = .ok (.aload_n 0, 1) := by decide +kernel
theorem dX12_tariff_52 : decode cX12_tariff 52 = .ok (.aload_n 2, 1) := by decide +kernel
theorem dX12_tariff_53 : decode cX12_tariff 53 = .ok (.getfield 129, 3) := by decide +kernel
theorem dX12_tariff_56 : decode cX12_tariff 56 = .ok (.putfield 253, 3) := by decide +kernel
theorem dX12_tariff_59 : decode cX12_tariff 59 = .ok (.aload_n 0, 1) := by decide +kernel
theorem dX12_tariff_60 : decode cX12_tariff 60 = .ok (.iconst 4, 1) := by decide +kernel
theorem dX12_tariff_61 : decode cX12_tariff 61 = .ok (.putfield 126, 3) := by decide +kernel
theorem dX12_tariff_64 : decode cX12_tariff 64 = .ok (.aload_n 0, 1) := by decide +kernel
theorem dX12_tariff_65 : decode cX12_tariff 65 = .ok (.aload_n 2, 1) := by decide +kernel
theorem dX12_tariff_66 : decode cX12_tariff 66 = .ok (.getfield 134, 3) := by decide +kernel
theorem dX12_tariff_69 : decode cX12_tariff 69 = .ok (.putfield 9, 3) := by decide +kernel
theorem dX12_tariff_72 : decode cX12_tariff 72 = .ok (.iconst (-1), 1) := by decide +kernel
theorem dX12_tariff_73 : decode cX12_tariff 73 = .ok (.ireturn, 1) := by decide +kernel
theorem dX12_tariff_74 : decode cX12_tariff 74 = .ok (.aload_n 0, 1) := by decide +kernel
theorem dX12_tariff_75 : decode cX12_tariff 75 = .ok (.getfield 201, 3) := by decide +kernel
theorem dX12_tariff_78 : decode cX12_tariff 78 = .ok (.bipush 30, 2) := by decide +kernel
theorem dX12_tariff_80 : decode cX12_tariff 80 = .ok (.if_icmp .ne 9, 3) := by decide +kernel
theorem dX12_tariff_83 : decode cX12_tariff 83 = .ok (.aload_n 0, 1) := by decide +kernel
theorem dX12_tariff_84 : decode cX12_tariff 84 = .ok (.iconst 3, 1) := by decide +kernel
theorem dX12_tariff_85 : decode cX12_tariff 85 = .ok (.invokevirtual 233, 3) := by decide +kernel
theorem dX12_tariff_88 : decode cX12_tariff 88 = .ok (.ireturn, 1) := by decide +kernel
theorem dX12_tariff_89 : decode cX12_tariff 89 = .ok (.aload_n 0, 1) := by decide +kernel
theorem dX12_tariff_90 : decode cX12_tariff 90 = .ok (.getfield 24, 3) := by decide +kernel
theorem dX12_tariff_93 : decode cX12_tariff 93 = .ok (.aload_n 0, 1) := by decide +kernel
theorem dX12_tariff_94 : decode cX12_tariff 94 = .ok (.getfield 201, 3) := by decide +kernel
theorem dX12_tariff_97 : decode cX12_tariff 97 = .ok (.aload_n 0, 1) := by decide +kernel
theorem dX12_tariff_98 : decode cX12_tariff 98 = .ok (.getfield 239, 3) := by decide +kernel
theorem dX12_tariff_101 : decode cX12_tariff 101 = .ok (.iastore, 1) := by decide +kernel
theorem dX12_tariff_102 : decode cX12_tariff 102 = .ok (.iconst 0, 1) := by decide +kernel
theorem dX12_tariff_103 : decode cX12_tariff 103 = .ok (.istore_n 2, 1) := by decide +kernel
theorem dX12_tariff_104 : decode cX12_tariff 104 = .ok (.iload_n 2, 1) := by decide +kernel
theorem dX12_tariff_105 : decode cX12_tariff 105 = .ok (.aload_n 0, 1) := by decide +kernel
theorem dX12_tariff_106 : decode cX12_tariff 106 = .ok (.getfield 236, 3) := by decide +kernel
theorem dX12_tariff_109 : decode cX12_tariff 109 = .ok (.if_icmp .ge 29, 3) := by decide +kernel
theorem dX12_tariff_112 : decode cX12_tariff 112 = .ok (.aload_n 0, 1) := by decide +kernel
theorem dX12_tariff_113 : decode cX12_tariff 113 = .ok (.iload_n 2, 1) := by decide +kernel
theorem dX12_tariff_114 : decode cX12_tariff 114 = .ok (.aload_n 0, 1) := by decide +kernel
theorem dX12_tariff_115 : decode cX12_tariff 115 = .ok (.getfield 201, 3) := by decide +kernel
theorem dX12_tariff_118 : decode cX12_tariff 118 = .ok (.aload_n 0, 1) := by decide +kernel
theorem dX12_tariff_119 : decode cX12_tariff 119 = .ok (.getfield 239, 3) := by decide +kernel
theorem dX12_tariff_122 : decode cX12_tariff 122 = .ok (.aload_n 0, 1) := by decide +kernel
theorem dX12_tariff_123 : decode cX12_tariff 123 = .ok (.getfield 58, 3) := by decide +kernel
theorem dX12_tariff_126 : decode cX12_tariff 126 = .ok (.iload_n 2, 1) := by decide +kernel
theorem dX12_tariff_127 : decode cX12_tariff 127 = .ok (.iaload, 1) := by decide +kernel
theorem dX12_tariff_128 : decode cX12_tariff 128 = .ok (.iadd, 1) := by decide +kernel
theorem dX12_tariff_129 : decode cX12_tariff 129 = .ok (.invokevirtual 242, 3) := by decide +kernel
theorem dX12_tariff_132 : decode cX12_tariff 132 = .ok (.iinc 2 1, 3) := by decide +kernel
theorem dX12_tariff_135 : decode cX12_tariff 135 = .ok (.goto (-31), 3) := by decide +kernel
theorem dX12_tariff_138 : decode cX12_tariff 138 = .ok (.aload_n 0, 1) := by decide +kernel
theorem dX12_tariff_139 : decode cX12_tariff 139 = .ok (.dup, 1) := by decide +kernel
theorem dX12_tariff_140 : decode cX12_tariff 140 = .ok (.getfield 201, 3) := by decide +kernel
theorem dX12_tariff_143 : decode cX12_tariff 143 = .ok (.iconst 1, 1) := by decide +kernel
theorem dX12_tariff_144 : decode cX12_tariff 144 = .ok (.iadd, 1) := by decide +kernel
theorem dX12_tariff_145 : decode cX12_tariff 145 = .ok (.putfield 201, 3) := by decide +kernel
theorem dX12_tariff_148 : decode cX12_tariff 148 = .ok (.aload_n 0, 1) := by decide +kernel
theorem dX12_tariff_149 : decode cX12_tariff 149 = .ok (.aload_n 0, 1) := by decide +kernel
theorem dX12_tariff_150 : decode cX12_tariff 150 = .ok (.getfield 201, 3) := by decide +kernel
theorem dX12_tariff_153 : decode cX12_tariff 153 = .ok (.iconst 1, 1) := by decide +kernel
theorem dX12_tariff_154 : decode cX12_tariff 154 = .ok (.isub, 1) := by decide +kernel
theorem dX12_tariff_155 : decode cX12_tariff 155 = .ok (.invokevirtual 246, 3) := by decide +kernel
theorem dX12_tariff_158 : decode cX12_tariff 158 = .ok (.ireturn, 1) := by decide +kernel
theorem dX12_fault_0 : decode cX12_fault 0 = .ok (.aload_n 0, 1) := by decide +kernel
theorem dX12_fault_1 : decode cX12_fault 1 = .ok (.iconst 0, 1) := by decide +kernel
theorem dX12_fault_2 : decode cX12_fault 2 = .ok (.putfield 123, 3) := by decide +kernel
theorem dX12_fault_5 : decode cX12_fault 5 = .ok (.aload_n 0, 1) := by decide +kernel
theorem dX12_fault_6 : decode cX12_fault 6 = .ok (.getfield 253, 3) := by decide +kernel
theorem dX12_fault_9 : decode cX12_fault 9 = .ok (.ireturn, 1) := by decide +kernel
theorem dX12_where_0 : decode cX12_where 0 = .ok (.aload_n 0, 1) := by decide +kernel
theorem dX12_where_1 : decode cX12_where 1 = .ok (.iconst 0, 1) := by decide +kernel
theorem dX12_where_2 : decode cX12_where 2 = .ok (.putfield 123, 3) := by decide +kernel
theorem dX12_where_5 : decode cX12_where 5 = .ok (.aload_n 0, 1) := by decide +kernel
theorem dX12_where_6 : decode cX12_where 6 = .ok (.getfield 9, 3) := by decide +kernel
theorem dX12_where_9 : decode cX12_where 9 = .ok (.ireturn, 1) := by decide +kernel
theorem dX12_isPort_0 : decode cX12_isPort 0 = .ok (.iload_n 1, 1) := by decide +kernel
theorem dX12_isPort_1 : decode cX12_isPort 1 = .ok (.ifCond .lt 15, 3) := by decide +kernel
theorem dX12_isPort_4 : decode cX12_isPort 4 = .ok (.iload_n 1, 1) := by decide +kernel
theorem dX12_isPort_5 : decode cX12_isPort 5 = .ok (.aload_n 0, 1) := by decide +kernel
theorem dX12_isPort_6 : decode cX12_isPort 6 = .ok (.getfield 236, 3) := by decide +kernel
theorem dX12_isPort_9 : decode cX12_isPort 9 = .ok (.if_icmp .ge 7, 3) := by decide +kernel
theorem dX12_isPort_12 : decode cX12_isPort 12 = .ok (.iconst 1, 1) := by decide +kernel
theorem dX12_isPort_13 : decode cX12_isPort 13 = .ok (.goto 4, 3) := by decide +kernel
theorem dX12_isPort_16 : decode cX12_isPort 16 = .ok (.iconst 0, 1) := by decide +kernel
theorem dX12_isPort_17 : decode cX12_isPort 17 = .ok (.ireturn, 1) := by decide +kernel
theorem dX12_isTariff_0 : decode cX12_isTariff 0 = .ok (.iload_n 1, 1) := by decide +kernel
theorem dX12_isTariff_1 : decode cX12_isTariff 1 = .ok (.ifCond .lt 15, 3) := by decide +kernel
theorem dX12_isTariff_4 : decode cX12_isTariff 4 = .ok (.iload_n 1, 1) := by decide +kernel
theorem dX12_isTariff_5 : decode cX12_isTariff 5 = .ok (.aload_n 0, 1) := by decide +kernel
theorem dX12_isTariff_6 : decode cX12_isTariff 6 = .ok (.getfield 201, 3) := by decide +kernel
theorem dX12_isTariff_9 : decode cX12_isTariff 9 = .ok (.if_icmp .ge 7, 3) := by decide +kernel
theorem dX12_isTariff_12 : decode cX12_isTariff 12 = .ok (.iconst 1, 1) := by decide +kernel
theorem dX12_isTariff_13 : decode cX12_isTariff 13 = .ok (.goto 4, 3) := by decide +kernel
theorem dX12_isTariff_16 : decode cX12_isTariff 16 = .ok (.iconst 0, 1) := by decide +kernel
theorem dX12_isTariff_17 : decode cX12_isTariff 17 = .ok (.ireturn, 1) := by decide +kernel
theorem dX12_comes_0 : decode cX12_comes 0 = .ok (.bipush 30, 2) := by decide +kernel
theorem dX12_comes_2 : decode cX12_comes 2 = .ok (.iload_n 1, 1) := by decide +kernel
theorem dX12_comes_3 : decode cX12_comes 3 = .ok (.imul, 1) := by decide +kernel
theorem dX12_comes_4 : decode cX12_comes 4 = .ok (.iload_n 2, 1) := by decide +kernel
theorem dX12_comes_5 : decode cX12_comes 5 = .ok (.iadd, 1) := by decide +kernel
theorem dX12_comes_6 : decode cX12_comes 6 = .ok (.istore_n 3, 1) := by decide +kernel
theorem dX12_comes_7 : decode cX12_comes 7 = .ok (.aload_n 0, 1) := by decide +kernel
theorem dX12_comes_8 : decode cX12_comes 8 = .ok (.getfield 85, 3) := by decide +kernel
theorem dX12_comes_11 : decode cX12_comes 11 = .ok (.iload_n 3, 1) := by decide +kernel
theorem dX12_comes_12 : decode cX12_comes 12 = .ok (.baload, 1) := by decide +kernel
theorem dX12_comes_13 : decode cX12_comes 13 = .ok (.ifCond .eq 12, 3) := by decide +kernel
theorem dX12_comes_16 : decode cX12_comes 16 = .ok (.aload_n 0, 1) := by decide +kernel
theorem dX12_comes_17 : decode cX12_comes 17 = .ok (.getfield 79, 3) := by decide +kernel
theorem dX12_comes_20 : decode cX12_comes 20 = .ok (.iload_n 3, 1) := by decide +kernel
theorem dX12_comes_21 : decode cX12_comes 21 = .ok (.iaload, 1) := by decide +kernel
theorem dX12_comes_22 : decode cX12_comes 22 = .ok (.goto 9, 3) := by decide +kernel
theorem dX12_comes_25 : decode cX12_comes 25 = .ok (.aload_n 0, 1) := by decide +kernel
theorem dX12_comes_26 : decode cX12_comes 26 = .ok (.getfield 76, 3) := by decide +kernel
theorem dX12_comes_29 : decode cX12_comes 29 = .ok (.iload_n 3, 1) := by decide +kernel
theorem dX12_comes_30 : decode cX12_comes 30 = .ok (.iaload, 1) := by decide +kernel
theorem dX12_comes_31 : decode cX12_comes 31 = .ok (.ireturn, 1) := by decide +kernel
theorem dX12_hasCome_0 : decode cX12_hasCome 0 = .ok (.aload_n 0, 1) := by decide +kernel
theorem dX12_hasCome_1 : decode cX12_hasCome 1 = .ok (.iload_n 1, 1) := by decide +kernel
theorem dX12_hasCome_2 : decode cX12_hasCome 2 = .ok (.iload_n 2, 1) := by decide +kernel
theorem dX12_hasCome_3 : decode cX12_hasCome 3 = .ok (.invokevirtual 259, 3) := by decide +kernel
theorem dX12_hasCome_6 : decode cX12_hasCome 6 = .ok (.iload_n 3, 1) := by decide +kernel
theorem dX12_hasCome_7 : decode cX12_hasCome 7 = .ok (.if_icmp .gt 7, 3) := by decide +kernel
theorem dX12_hasCome_10 : decode cX12_hasCome 10 = .ok (.iconst 1, 1) := by decide +kernel
theorem dX12_hasCome_11 : decode cX12_hasCome 11 = .ok (.goto 4, 3) := by decide +kernel
theorem dX12_hasCome_14 : decode cX12_hasCome 14 = .ok (.iconst 0, 1) := by decide +kernel
theorem dX12_hasCome_15 : decode cX12_hasCome 15 = .ok (.ireturn, 1) := by decide +kernel
theorem dX12_lost_0 : decode cX12_lost 0 = .ok (.aload_n 0, 1) := by decide +kernel
theorem dX12_lost_1 : decode cX12_lost 1 = .ok (.iconst 0, 1) := by decide +kernel
theorem dX12_lost_2 : decode cX12_lost 2 = .ok (.putfield 123, 3) := by decide +kernel
theorem dX12_lost_5 : decode cX12_lost 5 = .ok (.aload_n 0, 1) := by decide +kernel
theorem dX12_lost_6 : decode cX12_lost 6 = .ok (.iload_n 1, 1) := by decide +kernel
theorem dX12_lost_7 : decode cX12_lost 7 = .ok (.invokevirtual 262, 3) := by decide +kernel
theorem dX12_lost_10 : decode cX12_lost 10 = .ok (.ifCond .eq 15, 3) := by decide +kernel
theorem dX12_lost_13 : decode cX12_lost 13 = .ok (.aload_n 0, 1) := by decide +kernel
theorem dX12_lost_14 : decode cX12_lost 14 = .ok (.iload_n 2, 1) := by decide +kernel
theorem dX12_lost_15 : decode cX12_lost 15 = .ok (.invokevirtual 265, 3) := by decide +kernel
theorem dX12_lost_18 : decode cX12_lost 18 = .ok (.ifCond .eq 7, 3) := by decide +kernel
theorem dX12_lost_21 : decode cX12_lost 21 = .ok (.iconst 1, 1) := by decide +kernel
theorem dX12_lost_22 : decode cX12_lost 22 = .ok (.goto 4, 3) := by decide +kernel
theorem dX12_lost_25 : decode cX12_lost 25 = .ok (.iconst 0, 1) := by decide +kernel
theorem dX12_lost_26 : decode cX12_lost 26 = .ok (.istore_n 3, 1) := by decide +kernel
theorem dX12_lost_27 : decode cX12_lost 27 = .ok (.iload_n 3, 1) := by decide +kernel
theorem dX12_lost_28 : decode cX12_lost 28 = .ok (.ifCond .eq 34, 3) := by decide +kernel
theorem dX12_lost_31 : decode cX12_lost 31 = .ok (.aload_n 0, 1) := by decide +kernel
theorem dX12_lost_32 : decode cX12_lost 32 = .ok (.getfield 85, 3) := by decide +kernel
theorem dX12_lost_35 : decode cX12_lost 35 = .ok (.bipush 30, 2) := by decide +kernel
theorem dX12_lost_37 : decode cX12_lost 37 = .ok (.iload_n 1, 1) := by decide +kernel
theorem dX12_lost_38 : decode cX12_lost 38 = .ok (.imul, 1) := by decide +kernel
theorem dX12_lost_39 : decode cX12_lost 39 = .ok (.iload_n 2, 1) := by decide +kernel
theorem dX12_lost_40 : decode cX12_lost 40 = .ok (.iadd, 1) := by decide +kernel
theorem dX12_lost_41 : decode cX12_lost 41 = .ok (.baload, 1) := by decide +kernel
theorem dX12_lost_42 : decode cX12_lost 42 = .ok (.ifCond .ne 20, 3) := by decide +kernel
theorem dX12_lost_45 : decode cX12_lost 45 = .ok (.aload_n 0, 1) := by decide +kernel
theorem dX12_lost_46 : decode cX12_lost 46 = .ok (.iload_n 1, 1) := by decide +kernel
theorem dX12_lost_47 : decode cX12_lost 47 = .ok (.iload_n 2, 1) := by decide +kernel
theorem dX12_lost_48 : decode cX12_lost 48 = .ok (.aload_n 0, 1) := by decide +kernel
theorem dX12_lost_49 : decode cX12_lost 49 = .ok (.getfield 239, 3) := by decide +kernel
theorem dX12_lost_52 : decode cX12_lost 52 = .ok (.invokevirtual 268, 3) := by decide +kernel
theorem dX12_lost_55 : decode cX12_lost 55 = .ok (.ifCond .ne 7, 3) := by decide +kernel
theorem dX12_lost_58 : decode cX12_lost 58 = .ok (.iconst 1, 1) := by decide +kernel
theorem dX12_lost_59 : decode cX12_lost 59 = .ok (.goto 4, 3) := by decide +kernel
theorem dX12_lost_62 : decode cX12_lost 62 = .ok (.iconst 0, 1) := by decide +kernel
theorem dX12_lost_63 : decode cX12_lost 63 = .ok (.istore 4, 2) := by decide +kernel
theorem dX12_lost_65 : decode cX12_lost 65 = .ok (.aload_n 0, 1) := by decide +kernel
theorem dX12_lost_66 : decode cX12_lost 66 = .ok (.iload_n 3, 1) := by decide +kernel
theorem dX12_lost_67 : decode cX12_lost 67 = .ok (.ifCond .ne 7, 3) := by decide +kernel
theorem dX12_lost_70 : decode cX12_lost 70 = .ok (.iconst 1, 1) := by decide +kernel
theorem dX12_lost_71 : decode cX12_lost 71 = .ok (.goto 14, 3) := by decide +kernel
theorem dX12_lost_74 : decode cX12_lost 74 = .ok (.iload 4, 2) := by decide +kernel
theorem dX12_lost_76 : decode cX12_lost 76 = .ok (.ifCond .eq 7, 3) := by decide +kernel
theorem dX12_lost_79 : decode cX12_lost 79 = .ok (.iconst 0, 1) := by decide +kernel
theorem dX12_lost_80 : decode cX12_lost 80 = .ok (.goto 5, 3) := by decide +kernel
end
section
theorem dX12_lost_83 : decode cX12_lost 83 = .ok (.bipush 7, 2) := by decide +kernel
theorem dX12_lost_85 : decode cX12_lost 85 = .ok (.putfield 126, 3) := by decide +kernel
theorem dX12_lost_88 : decode cX12_lost 88 = .ok (.aload_n 0, 1) := by decide +kernel
theorem dX12_lost_89 : decode cX12_lost 89 = .ok (.iconst (-1), 1) := by decide +kernel
theorem dX12_lost_90 : decode cX12_lost 90 = .ok (.putfield 9, 3) := by decide +kernel
theorem dX12_lost_93 : decode cX12_lost 93 = .ok (.iload 4, 2) := by decide +kernel
theorem dX12_lost_95 : decode cX12_lost 95 = .ok (.ifCond .eq 15, 3) := by decide +kernel
theorem dX12_lost_98 : decode cX12_lost 98 = .ok (.aload_n 0, 1) := by decide +kernel
theorem dX12_lost_99 : decode cX12_lost 99 = .ok (.getfield 85, 3) := by decide +kernel
theorem dX12_lost_102 : decode cX12_lost 102 = .ok (.bipush 30, 2) := by decide +kernel
theorem dX12_lost_104 : decode cX12_lost 104 = .ok (.iload_n 1, 1) := by decide +kernel
theorem dX12_lost_105 : decode cX12_lost 105 = .ok (.imul, 1) := by decide +kernel
theorem dX12_lost_106 : decode cX12_lost 106 = .ok (.iload_n 2, 1) := by decide +kernel
theorem dX12_lost_107 : decode cX12_lost 107 = .ok (.iadd, 1) := by decide +kernel
theorem dX12_lost_108 : decode cX12_lost 108 = .ok (.iconst 1, 1) := by decide +kernel
theorem dX12_lost_109 : decode cX12_lost 109 = .ok (.bastore, 1) := by decide +kernel
theorem dX12_lost_110 : decode cX12_lost 110 = .ok (.iload 4, 2) := by decide +kernel
theorem dX12_lost_112 : decode cX12_lost 112 = .ok (.ireturn, 1) := by decide +kernel
theorem dX12_asks_0 : decode cX12_asks 0 = .ok (.iconst 0, 1) := by decide +kernel
theorem dX12_asks_1 : decode cX12_asks 1 = .ok (.istore_n 3, 1) := by decide +kernel
theorem dX12_asks_2 : decode cX12_asks 2 = .ok (.aload_n 0, 1) := by decide +kernel
theorem dX12_asks_3 : decode cX12_asks 3 = .ok (.getfield 201, 3) := by decide +kernel
theorem dX12_asks_6 : decode cX12_asks 6 = .ok (.iconst 1, 1) := by decide +kernel
theorem dX12_asks_7 : decode cX12_asks 7 = .ok (.isub, 1) := by decide +kernel
theorem dX12_asks_8 : decode cX12_asks 8 = .ok (.istore 4, 2) := by decide +kernel
theorem dX12_asks_10 : decode cX12_asks 10 = .ok (.iload 4, 2) := by decide +kernel
theorem dX12_asks_12 : decode cX12_asks 12 = .ok (.ifCond .lt 75, 3) := by decide +kernel
theorem dX12_asks_15 : decode cX12_asks 15 = .ok (.bipush 30, 2) := by decide +kernel
theorem dX12_asks_17 : decode cX12_asks 17 = .ok (.iload_n 1, 1) := by decide +kernel
theorem dX12_asks_18 : decode cX12_asks 18 = .ok (.imul, 1) := by decide +kernel
theorem dX12_asks_19 : decode cX12_asks 19 = .ok (.iload 4, 2) := by decide +kernel
theorem dX12_asks_21 : decode cX12_asks 21 = .ok (.iadd, 1) := by decide +kernel
theorem dX12_asks_22 : decode cX12_asks 22 = .ok (.istore 5, 2) := by decide +kernel
theorem dX12_asks_24 : decode cX12_asks 24 = .ok (.aload_n 0, 1) := by decide +kernel
theorem dX12_asks_25 : decode cX12_asks 25 = .ok (.iload_n 1, 1) := by decide +kernel
theorem dX12_asks_26 : decode cX12_asks 26 = .ok (.iload 4, 2) := by decide +kernel
theorem dX12_asks_28 : decode cX12_asks 28 = .ok (.iload_n 2, 1) := by decide +kernel
theorem dX12_asks_29 : decode cX12_asks 29 = .ok (.invokevirtual 268, 3) := by decide +kernel
theorem dX12_asks_32 : decode cX12_asks 32 = .ok (.ifCond .eq 8, 3) := by decide +kernel
theorem dX12_asks_35 : decode cX12_asks 35 = .ok (.iconst 1, 1) := by decide +kernel
theorem dX12_asks_36 : decode cX12_asks 36 = .ok (.istore_n 3, 1) := by decide +kernel
theorem dX12_asks_37 : decode cX12_asks 37 = .ok (.goto 44, 3) := by decide +kernel
theorem dX12_asks_40 : decode cX12_asks 40 = .ok (.iload_n 3, 1) := by decide +kernel
theorem dX12_asks_41 : decode cX12_asks 41 = .ok (.ifCond .eq 40, 3) := by decide +kernel
theorem dX12_asks_44 : decode cX12_asks 44 = .ok (.aload_n 0, 1) := by decide +kernel
theorem dX12_asks_45 : decode cX12_asks 45 = .ok (.getfield 82, 3) := by decide +kernel
theorem dX12_asks_48 : decode cX12_asks 48 = .ok (.iload 5, 2) := by decide +kernel
theorem dX12_asks_50 : decode cX12_asks 50 = .ok (.iaload, 1) := by decide +kernel
theorem dX12_asks_51 : decode cX12_asks 51 = .ok (.ldc 249, 2) := by decide +kernel
theorem dX12_asks_53 : decode cX12_asks 53 = .ok (.if_icmp .ne 28, 3) := by decide +kernel
theorem dX12_asks_56 : decode cX12_asks 56 = .ok (.aload_n 0, 1) := by decide +kernel
theorem dX12_asks_57 : decode cX12_asks 57 = .ok (.getfield 82, 3) := by decide +kernel
theorem dX12_asks_60 : decode cX12_asks 60 = .ok (.iload 5, 2) := by decide +kernel
theorem dX12_asks_62 : decode cX12_asks 62 = .ok (.iload_n 2, 1) := by decide +kernel
theorem dX12_asks_63 : decode cX12_asks 63 = .ok (.iastore, 1) := by decide +kernel
theorem dX12_asks_64 : decode cX12_asks 64 = .ok (.aload_n 0, 1) := by decide +kernel
theorem dX12_asks_65 : decode cX12_asks 65 = .ok (.getfield 79, 3) := by decide +kernel
theorem dX12_asks_68 : decode cX12_asks 68 = .ok (.iload 5, 2) := by decide +kernel
theorem dX12_asks_70 : decode cX12_asks 70 = .ok (.iload_n 2, 1) := by decide +kernel
theorem dX12_asks_71 : decode cX12_asks 71 = .ok (.iconst 2, 1) := by decide +kernel
theorem dX12_asks_72 : decode cX12_asks 72 = .ok (.aload_n 0, 1) := by decide +kernel
theorem dX12_asks_73 : decode cX12_asks 73 = .ok (.getfield 58, 3) := by decide +kernel
theorem dX12_asks_76 : decode cX12_asks 76 = .ok (.iload_n 1, 1) := by decide +kernel
theorem dX12_asks_77 : decode cX12_asks 77 = .ok (.iaload, 1) := by decide +kernel
theorem dX12_asks_78 : decode cX12_asks 78 = .ok (.imul, 1) := by decide +kernel
theorem dX12_asks_79 : decode cX12_asks 79 = .ok (.iadd, 1) := by decide +kernel
theorem dX12_asks_80 : decode cX12_asks 80 = .ok (.iastore, 1) := by decide +kernel
theorem dX12_asks_81 : decode cX12_asks 81 = .ok (.iinc 4 (-1), 3) := by decide +kernel
theorem dX12_asks_84 : decode cX12_asks 84 = .ok (.goto (-74), 3) := by decide +kernel
theorem dX12_asks_87 : decode cX12_asks 87 = .ok (.return_, 1) := by decide +kernel
theorem dX12_pass_0 : decode cX12_pass 0 = .ok (.aload_n 0, 1) := by decide +kernel
theorem dX12_pass_1 : decode cX12_pass 1 = .ok (.iconst 0, 1) := by decide +kernel
theorem dX12_pass_2 : decode cX12_pass 2 = .ok (.putfield 123, 3) := by decide +kernel
theorem dX12_pass_5 : decode cX12_pass 5 = .ok (.iload_n 1, 1) := by decide +kernel
theorem dX12_pass_6 : decode cX12_pass 6 = .ok (.iconst 1, 1) := by decide +kernel
theorem dX12_pass_7 : decode cX12_pass 7 = .ok (.sipush 400, 3) := by decide +kernel
theorem dX12_pass_10 : decode cX12_pass 10 = .ok (.invokestatic 229, 3) := by decide +kernel
theorem dX12_pass_13 : decode cX12_pass 13 = .ok (.ifCond .eq 15, 3) := by decide +kernel
theorem dX12_pass_16 : decode cX12_pass 16 = .ok (.aload_n 0, 1) := by decide +kernel
theorem dX12_pass_17 : decode cX12_pass 17 = .ok (.getfield 239, 3) := by decide +kernel
theorem dX12_pass_20 : decode cX12_pass 20 = .ok (.iload_n 1, 1) := by decide +kernel
theorem dX12_pass_21 : decode cX12_pass 21 = .ok (.iadd, 1) := by decide +kernel
theorem dX12_pass_22 : decode cX12_pass 22 = .ok (.sipush 10000, 3) := by decide +kernel
theorem dX12_pass_25 : decode cX12_pass 25 = .ok (.if_icmp .le 9, 3) := by decide +kernel
theorem dX12_pass_28 : decode cX12_pass 28 = .ok (.aload_n 0, 1) := by decide +kernel
theorem dX12_pass_29 : decode cX12_pass 29 = .ok (.iconst 2, 1) := by decide +kernel
theorem dX12_pass_30 : decode cX12_pass 30 = .ok (.invokevirtual 233, 3) := by decide +kernel
theorem dX12_pass_33 : decode cX12_pass 33 = .ok (.ireturn, 1) := by decide +kernel
theorem dX12_pass_34 : decode cX12_pass 34 = .ok (.iconst 0, 1) := by decide +kernel
theorem dX12_pass_35 : decode cX12_pass 35 = .ok (.istore_n 2, 1) := by decide +kernel
theorem dX12_pass_36 : decode cX12_pass 36 = .ok (.iload_n 2, 1) := by decide +kernel
theorem dX12_pass_37 : decode cX12_pass 37 = .ok (.iload_n 1, 1) := by decide +kernel
theorem dX12_pass_38 : decode cX12_pass 38 = .ok (.if_icmp .ge 97, 3) := by decide +kernel
theorem dX12_pass_41 : decode cX12_pass 41 = .ok (.iconst 0, 1) := by decide +kernel
theorem dX12_pass_42 : decode cX12_pass 42 = .ok (.istore_n 3, 1) := by decide +kernel
theorem dX12_pass_43 : decode cX12_pass 43 = .ok (.iload_n 3, 1) := by decide +kernel
theorem dX12_pass_44 : decode cX12_pass 44 = .ok (.aload_n 0, 1) := by decide +kernel
theorem dX12_pass_45 : decode cX12_pass 45 = .ok (.getfield 236, 3) := by decide +kernel
theorem dX12_pass_48 : decode cX12_pass 48 = .ok (.if_icmp .ge 46, 3) := by decide +kernel
theorem dX12_pass_51 : decode cX12_pass 51 = .ok (.aload_n 0, 1) := by decide +kernel
theorem dX12_pass_52 : decode cX12_pass 52 = .ok (.getfield 70, 3) := by decide +kernel
theorem dX12_pass_55 : decode cX12_pass 55 = .ok (.iload_n 3, 1) := by decide +kernel
theorem dX12_pass_56 : decode cX12_pass 56 = .ok (.dup2, 1) := by decide +kernel
theorem dX12_pass_57 : decode cX12_pass 57 = .ok (.iaload, 1) := by decide +kernel
theorem dX12_pass_58 : decode cX12_pass 58 = .ok (.aload_n 0, 1) := by decide +kernel
theorem dX12_pass_59 : decode cX12_pass 59 = .ok (.getfield 239, 3) := by decide +kernel
theorem dX12_pass_62 : decode cX12_pass 62 = .ok (.bipush 30, 2) := by decide +kernel
theorem dX12_pass_64 : decode cX12_pass 64 = .ok (.irem, 1) := by decide +kernel
theorem dX12_pass_65 : decode cX12_pass 65 = .ok (.ifCond .ne 20, 3) := by decide +kernel
theorem dX12_pass_68 : decode cX12_pass 68 = .ok (.aload_n 0, 1) := by decide +kernel
theorem dX12_pass_69 : decode cX12_pass 69 = .ok (.getfield 239, 3) := by decide +kernel
theorem dX12_pass_72 : decode cX12_pass 72 = .ok (.aload_n 0, 1) := by decide +kernel
theorem dX12_pass_73 : decode cX12_pass 73 = .ok (.getfield 61, 3) := by decide +kernel
theorem dX12_pass_76 : decode cX12_pass 76 = .ok (.iload_n 3, 1) := by decide +kernel
theorem dX12_pass_77 : decode cX12_pass 77 = .ok (.iaload, 1) := by decide +kernel
theorem dX12_pass_78 : decode cX12_pass 78 = .ok (.if_icmp .lt 7, 3) := by decide +kernel
theorem dX12_pass_81 : decode cX12_pass 81 = .ok (.iconst 1, 1) := by decide +kernel
theorem dX12_pass_82 : decode cX12_pass 82 = .ok (.goto 4, 3) := by decide +kernel
theorem dX12_pass_85 : decode cX12_pass 85 = .ok (.iconst 0, 1) := by decide +kernel
theorem dX12_pass_86 : decode cX12_pass 86 = .ok (.iadd, 1) := by decide +kernel
theorem dX12_pass_87 : decode cX12_pass 87 = .ok (.iastore, 1) := by decide +kernel
theorem dX12_pass_88 : decode cX12_pass 88 = .ok (.iinc 3 1, 3) := by decide +kernel
theorem dX12_pass_91 : decode cX12_pass 91 = .ok (.goto (-48), 3) := by decide +kernel
theorem dX12_pass_94 : decode cX12_pass 94 = .ok (.aload_n 0, 1) := by decide +kernel
theorem dX12_pass_95 : decode cX12_pass 95 = .ok (.dup, 1) := by decide +kernel
theorem dX12_pass_96 : decode cX12_pass 96 = .ok (.getfield 239, 3) := by decide +kernel
theorem dX12_pass_99 : decode cX12_pass 99 = .ok (.iconst 1, 1) := by decide +kernel
theorem dX12_pass_100 : decode cX12_pass 100 = .ok (.iadd, 1) := by decide +kernel
theorem dX12_pass_101 : decode cX12_pass 101 = .ok (.putfield 239, 3) := by decide +kernel
theorem dX12_pass_104 : decode cX12_pass 104 = .ok (.iconst 0, 1) := by decide +kernel
theorem dX12_pass_105 : decode cX12_pass 105 = .ok (.istore_n 3, 1) := by decide +kernel
theorem dX12_pass_106 : decode cX12_pass 106 = .ok (.iload_n 3, 1) := by decide +kernel
theorem dX12_pass_107 : decode cX12_pass 107 = .ok (.aload_n 0, 1) := by decide +kernel
theorem dX12_pass_108 : decode cX12_pass 108 = .ok (.getfield 236, 3) := by decide +kernel
theorem dX12_pass_111 : decode cX12_pass 111 = .ok (.if_icmp .ge 18, 3) := by decide +kernel
theorem dX12_pass_114 : decode cX12_pass 114 = .ok (.aload_n 0, 1) := by decide +kernel
theorem dX12_pass_115 : decode cX12_pass 115 = .ok (.iload_n 3, 1) := by decide +kernel
theorem dX12_pass_116 : decode cX12_pass 116 = .ok (.aload_n 0, 1) := by decide +kernel
theorem dX12_pass_117 : decode cX12_pass 117 = .ok (.getfield 239, 3) := by decide +kernel
theorem dX12_pass_120 : decode cX12_pass 120 = .ok (.invokevirtual 271, 3) := by decide +kernel
theorem dX12_pass_123 : decode cX12_pass 123 = .ok (.iinc 3 1, 3) := by decide +kernel
theorem dX12_pass_126 : decode cX12_pass 126 = .ok (.goto (-20), 3) := by decide +kernel
theorem dX12_pass_129 : decode cX12_pass 129 = .ok (.iinc 2 1, 3) := by decide +kernel
theorem dX12_pass_132 : decode cX12_pass 132 = .ok (.goto (-96), 3) := by decide +kernel
theorem dX12_pass_135 : decode cX12_pass 135 = .ok (.aload_n 0, 1) := by decide +kernel
theorem dX12_pass_136 : decode cX12_pass 136 = .ok (.aload_n 0, 1) := by decide +kernel
theorem dX12_pass_137 : decode cX12_pass 137 = .ok (.getfield 239, 3) := by decide +kernel
theorem dX12_pass_140 : decode cX12_pass 140 = .ok (.invokevirtual 246, 3) := by decide +kernel
theorem dX12_pass_143 : decode cX12_pass 143 = .ok (.ireturn, 1) := by decide +kernel
theorem dX12_forceOf_0 : decode cX12_forceOf 0 = .ok (.iconst 0, 1) := by decide +kernel
theorem dX12_forceOf_1 : decode cX12_forceOf 1 = .ok (.istore_n 2, 1) := by decide +kernel
theorem dX12_forceOf_2 : decode cX12_forceOf 2 = .ok (.iload_n 2, 1) := by decide +kernel
theorem dX12_forceOf_3 : decode cX12_forceOf 3 = .ok (.aload_n 0, 1) := by decide +kernel
theorem dX12_forceOf_4 : decode cX12_forceOf 4 = .ok (.getfield 201, 3) := by decide +kernel
theorem dX12_forceOf_7 : decode cX12_forceOf 7 = .ok (.if_icmp .ge 22, 3) := by decide +kernel
theorem dX12_forceOf_10 : decode cX12_forceOf 10 = .ok (.aload_n 0, 1) := by decide +kernel
theorem dX12_forceOf_11 : decode cX12_forceOf 11 = .ok (.iload_n 1, 1) := by decide +kernel
theorem dX12_forceOf_12 : decode cX12_forceOf 12 = .ok (.iload_n 2, 1) := by decide +kernel
theorem dX12_forceOf_13 : decode cX12_forceOf 13 = .ok (.aload_n 0, 1) := by decide +kernel
theorem dX12_forceOf_14 : decode cX12_forceOf 14 = .ok (.getfield 239, 3) := by decide +kernel
theorem dX12_forceOf_17 : decode cX12_forceOf 17 = .ok (.invokevirtual 268, 3) := by decide +kernel
theorem dX12_forceOf_20 : decode cX12_forceOf 20 = .ok (.ifCond .eq 9, 3) := by decide +kernel
theorem dX12_forceOf_23 : decode cX12_forceOf 23 = .ok (.iinc 2 1, 3) := by decide +kernel
theorem dX12_forceOf_26 : decode cX12_forceOf 26 = .ok (.goto (-24), 3) := by decide +kernel
theorem dX12_forceOf_29 : decode cX12_forceOf 29 = .ok (.iload_n 2, 1) := by decide +kernel
theorem dX12_forceOf_30 : decode cX12_forceOf 30 = .ok (.ifCond .ne 8, 3) := by decide +kernel
theorem dX12_forceOf_33 : decode cX12_forceOf 33 = .ok (.bipush (-2), 2) := by decide +kernel
theorem dX12_forceOf_35 : decode cX12_forceOf 35 = .ok (.goto 6, 3) := by decide +kernel
theorem dX12_forceOf_38 : decode cX12_forceOf 38 = .ok (.iload_n 2, 1) := by decide +kernel
theorem dX12_forceOf_39 : decode cX12_forceOf 39 = .ok (.iconst 1, 1) := by decide +kernel
theorem dX12_forceOf_40 : decode cX12_forceOf 40 = .ok (.isub, 1) := by decide +kernel
theorem dX12_forceOf_41 : decode cX12_forceOf 41 = .ok (.ireturn, 1) := by decide +kernel
theorem dX12_force_0 : decode cX12_force 0 = .ok (.aload_n 0, 1) := by decide +kernel
theorem dX12_force_1 : decode cX12_force 1 = .ok (.iconst 0, 1) := by decide +kernel
theorem dX12_force_2 : decode cX12_force 2 = .ok (.putfield 123, 3) := by decide +kernel
theorem dX12_force_5 : decode cX12_force 5 = .ok (.aload_n 0, 1) := by decide +kernel
theorem dX12_force_6 : decode cX12_force 6 = .ok (.iload_n 1, 1) := by decide +kernel
theorem dX12_force_7 : decode cX12_force 7 = .ok (.invokevirtual 262, 3) := by decide +kernel
theorem dX12_force_10 : decode cX12_force 10 = .ok (.ifCond .eq 11, 3) := by decide +kernel
theorem dX12_force_13 : decode cX12_force 13 = .ok (.aload_n 0, 1) := by decide +kernel
theorem dX12_force_14 : decode cX12_force 14 = .ok (.iload_n 1, 1) := by decide +kernel
theorem dX12_force_15 : decode cX12_force 15 = .ok (.invokevirtual 275, 3) := by decide +kernel
theorem dX12_force_18 : decode cX12_force 18 = .ok (.goto 4, 3) := by decide +kernel
theorem dX12_force_21 : decode cX12_force 21 = .ok (.iconst (-1), 1) := by decide +kernel
theorem dX12_force_22 : decode cX12_force 22 = .ok (.ireturn, 1) := by decide +kernel
theorem dX12_came_0 : decode cX12_came 0 = .ok (.aload_n 0, 1) := by decide +kernel
theorem dX12_came_1 : decode cX12_came 1 = .ok (.iconst 0, 1) := by decide +kernel
theorem dX12_came_2 : decode cX12_came 2 = .ok (.putfield 123, 3) := by decide +kernel
theorem dX12_came_5 : decode cX12_came 5 = .ok (.aload_n 0, 1) := by decide +kernel
theorem dX12_came_6 : decode cX12_came 6 = .ok (.iload_n 1, 1) := by decide +kernel
theorem dX12_came_7 : decode cX12_came 7 = .ok (.invokevirtual 262, 3) := by decide +kernel
theorem dX12_came_10 : decode cX12_came 10 = .ok (.ifCond .eq 11, 3) := by decide +kernel
theorem dX12_came_13 : decode cX12_came 13 = .ok (.aload_n 0, 1) := by decide +kernel
theorem dX12_came_14 : decode cX12_came 14 = .ok (.iload_n 2, 1) := by decide +kernel
theorem dX12_came_15 : decode cX12_came 15 = .ok (.invokevirtual 265, 3) := by decide +kernel
theorem dX12_came_18 : decode cX12_came 18 = .ok (.ifCond .ne 5, 3) := by decide +kernel
theorem dX12_came_21 : decode cX12_came 21 = .ok (.iconst (-1), 1) := by decide +kernel
theorem dX12_came_22 : decode cX12_came 22 = .ok (.ireturn, 1) := by decide +kernel
theorem dX12_came_23 : decode cX12_came 23 = .ok (.aload_n 0, 1) := by decide +kernel
theorem dX12_came_24 : decode cX12_came 24 = .ok (.iload_n 1, 1) := by decide +kernel
theorem dX12_came_25 : decode cX12_came 25 = .ok (.iload_n 2, 1) := by decide +kernel
theorem dX12_came_26 : decode cX12_came 26 = .ok (.aload_n 0, 1) := by decide +kernel
theorem dX12_came_27 : decode cX12_came 27 = .ok (.getfield 239, 3) := by decide +kernel
theorem dX12_came_30 : decode cX12_came 30 = .ok (.invokevirtual 268, 3) := by decide +kernel
theorem dX12_came_33 : decode cX12_came 33 = .ok (.ifCond .eq 12, 3) := by decide +kernel
theorem dX12_came_36 : decode cX12_came 36 = .ok (.aload_n 0, 1) := by decide +kernel
theorem dX12_came_37 : decode cX12_came 37 = .ok (.iload_n 1, 1) := by decide +kernel
theorem dX12_came_38 : decode cX12_came 38 = .ok (.iload_n 2, 1) := by decide +kernel
theorem dX12_came_39 : decode cX12_came 39 = .ok (.invokevirtual 259, 3) := by decide +kernel
theorem dX12_came_42 : decode cX12_came 42 = .ok (.goto 5, 3) := by decide +kernel
theorem dX12_came_45 : decode cX12_came 45 = .ok (.bipush (-2), 2) := by decide +kernel
theorem dX12_came_47 : decode cX12_came 47 = .ok (.ireturn, 1) := by decide +kernel
theorem dX12_asked_0 : decode cX12_asked 0 = .ok (.aload_n 0, 1) := by decide +kernel
theorem dX12_asked_1 : decode cX12_asked 1 = .ok (.iconst 0, 1) := by decide +kernel
theorem dX12_asked_2 : decode cX12_asked 2 = .ok (.putfield 123, 3) := by decide +kernel
theorem dX12_asked_5 : decode cX12_asked 5 = .ok (.aload_n 0, 1) := by decide +kernel
theorem dX12_asked_6 : decode cX12_asked 6 = .ok (.iload_n 1, 1) := by decide +kernel
theorem dX12_asked_7 : decode cX12_asked 7 = .ok (.invokevirtual 262, 3) := by decide +kernel
theorem dX12_asked_10 : decode cX12_asked 10 = .ok (.ifCond .eq 11, 3) := by decide +kernel
theorem dX12_asked_13 : decode cX12_asked 13 = .ok (.aload_n 0, 1) := by decide +kernel
theorem dX12_asked_14 : decode cX12_asked 14 = .ok (.iload_n 2, 1) := by decide +kernel
theorem dX12_asked_15 : decode cX12_asked 15 = .ok (.invokevirtual 265, 3) := by decide +kernel
theorem dX12_asked_18 : decode cX12_asked 18 = .ok (.ifCond .ne 5, 3) := by decide +kernel
theorem dX12_asked_21 : decode cX12_asked 21 = .ok (.iconst (-1), 1) := by decide +kernel
theorem dX12_asked_22 : decode cX12_asked 22 = .ok (.ireturn, 1) := by decide +kernel
theorem dX12_asked_23 : decode cX12_asked 23 = .ok (.aload_n 0, 1) := by decide +kernel
theorem dX12_asked_24 : decode cX12_asked 24 = .ok (.getfield 82, 3) := by decide +kernel
theorem dX12_asked_27 : decode cX12_asked 27 = .ok (.bipush 30, 2) := by decide +kernel
theorem dX12_asked_29 : decode cX12_asked 29 = .ok (.iload_n 1, 1) := by decide +kernel
theorem dX12_asked_30 : decode cX12_asked 30 = .ok (.imul, 1) := by decide +kernel
theorem dX12_asked_31 : decode cX12_asked 31 = .ok (.iload_n 2, 1) := by decide +kernel
theorem dX12_asked_32 : decode cX12_asked 32 = .ok (.iadd, 1) := by decide +kernel
theorem dX12_asked_33 : decode cX12_asked 33 = .ok (.iaload, 1) := by decide +kernel
theorem dX12_asked_34 : decode cX12_asked 34 = .ok (.ldc 249, 2) := by decide +kernel
theorem dX12_asked_36 : decode cX12_asked 36 = .ok (.if_icmp .ne 7, 3) := by decide +kernel
theorem dX12_asked_39 : decode cX12_asked 39 = .ok (.iconst 0, 1) := by decide +kernel
theorem dX12_asked_40 : decode cX12_asked 40 = .ok (.goto 4, 3) := by decide +kernel
theorem dX12_asked_43 : decode cX12_asked 43 = .ok (.iconst 1, 1) := by decide +kernel
theorem dX12_asked_44 : decode cX12_asked 44 = .ok (.ireturn, 1) := by decide +kernel
theorem dX12_under_0 : decode cX12_under 0 = .ok (.aload_n 0, 1) := by decide +kernel
theorem dX12_under_1 : decode cX12_under 1 = .ok (.iconst 0, 1) := by decide +kernel
theorem dX12_under_2 : decode cX12_under 2 = .ok (.putfield 123, 3) := by decide +kernel
theorem dX12_under_5 : decode cX12_under 5 = .ok (.iload_n 1, 1) := by decide +kernel
theorem dX12_under_6 : decode cX12_under 6 = .ok (.iconst 0, 1) := by decide +kernel
theorem dX12_under_7 : decode cX12_under 7 = .ok (.iconst 2, 1) := by decide +kernel
theorem dX12_under_8 : decode cX12_under 8 = .ok (.invokestatic 229, 3) := by decide +kernel
theorem dX12_under_11 : decode cX12_under 11 = .ok (.ifCond .ne 5, 3) := by decide +kernel
theorem dX12_under_14 : decode cX12_under 14 = .ok (.iconst (-1), 1) := by decide +kernel
theorem dX12_under_15 : decode cX12_under 15 = .ok (.ireturn, 1) := by decide +kernel
theorem dX12_under_16 : decode cX12_under 16 = .ok (.iconst 0, 1) := by decide +kernel
theorem dX12_under_17 : decode cX12_under 17 = .ok (.istore_n 2, 1) := by decide +kernel
theorem dX12_under_18 : decode cX12_under 18 = .ok (.iconst 0, 1) := by decide +kernel
theorem dX12_under_19 : decode cX12_under 19 = .ok (.istore_n 3, 1) := by decide +kernel
theorem dX12_under_20 : decode cX12_under 20 = .ok (.iload_n 3, 1) := by decide +kernel
theorem dX12_under_21 : decode cX12_under 21 = .ok (.aload_n 0, 1) := by decide +kernel
theorem dX12_under_22 : decode cX12_under 22 = .ok (.getfield 236, 3) := by decide +kernel
theorem dX12_under_25 : decode cX12_under 25 = .ok (.if_icmp .ge 218, 3) := by decide +kernel
theorem dX12_under_28 : decode cX12_under 28 = .ok (.iconst 0, 1) := by decide +kernel
theorem dX12_under_29 : decode cX12_under 29 = .ok (.istore 4, 2) := by decide +kernel
theorem dX12_under_31 : decode cX12_under 31 = .ok (.iload 4, 2) := by decide +kernel
theorem dX12_under_33 : decode cX12_under 33 = .ok (.aload_n 0, 1) := by decide +kernel
theorem dX12_under_34 : decode cX12_under 34 = .ok (.getfield 201, 3) := by decide +kernel
theorem dX12_under_37 : decode cX12_under 37 = .ok (.if_icmp .ge 142, 3) := by decide +kernel
theorem dX12_under_40 : decode cX12_under 40 = .ok (.bipush 30, 2) := by decide +kernel
theorem dX12_under_42 : decode cX12_under 42 = .ok (.iload_n 3, 1) := by decide +kernel
theorem dX12_under_43 : decode cX12_under 43 = .ok (.imul, 1) := by decide +kernel
theorem dX12_under_44 : decode cX12_under 44 = .ok (.iload 4, 2) := by decide +kernel
theorem dX12_under_46 : decode cX12_under 46 = .ok (.iadd, 1) := by decide +kernel
theorem dX12_under_47 : decode cX12_under 47 = .ok (.istore 5, 2) := by decide +kernel
theorem dX12_under_49 : decode cX12_under 49 = .ok (.aload_n 0, 1) := by decide +kernel
theorem dX12_under_50 : decode cX12_under 50 = .ok (.getfield 82, 3) := by decide +kernel
theorem dX12_under_53 : decode cX12_under 53 = .ok (.iload 5, 2) := by decide +kernel
theorem dX12_under_55 : decode cX12_under 55 = .ok (.iaload, 1) := by decide +kernel
theorem dX12_under_56 : decode cX12_under 56 = .ok (.ldc 249, 2) := by decide +kernel
theorem dX12_under_58 : decode cX12_under 58 = .ok (.if_icmp .ne 8, 3) := by decide +kernel
theorem dX12_under_61 : decode cX12_under 61 = .ok (.ldc 249, 2) := by decide +kernel
theorem dX12_under_63 : decode cX12_under 63 = .ok (.goto 17, 3) := by decide +kernel
theorem dX12_under_66 : decode cX12_under 66 = .ok (.aload_n 0, 1) := by decide +kernel
theorem dX12_under_67 : decode cX12_under 67 = .ok (.getfield 82, 3) := by decide +kernel
theorem dX12_under_70 : decode cX12_under 70 = .ok (.iload 5, 2) := by decide +kernel
theorem dX12_under_72 : decode cX12_under 72 = .ok (.iaload, 1) := by decide +kernel
theorem dX12_under_73 : decode cX12_under 73 = .ok (.aload_n 0, 1) := by decide +kernel
theorem dX12_under_74 : decode cX12_under 74 = .ok (.getfield 58, 3) := by decide +kernel
theorem dX12_under_77 : decode cX12_under 77 = .ok (.iload_n 3, 1) := by decide +kernel
theorem dX12_under_78 : decode cX12_under 78 = .ok (.iaload, 1) := by decide +kernel
theorem dX12_under_79 : decode cX12_under 79 = .ok (.iadd, 1) := by decide +kernel
theorem dX12_under_80 : decode cX12_under 80 = .ok (.istore 6, 2) := by decide +kernel
theorem dX12_under_82 : decode cX12_under 82 = .ok (.iload_n 1, 1) := by decide +kernel
theorem dX12_under_83 : decode cX12_under 83 = .ok (.ifCond .ne 61, 3) := by decide +kernel
theorem dX12_under_86 : decode cX12_under 86 = .ok (.iload_n 2, 1) := by decide +kernel
theorem dX12_under_87 : decode cX12_under 87 = .ok (.aload_n 0, 1) := by decide +kernel
theorem dX12_under_88 : decode cX12_under 88 = .ok (.getfield 85, 3) := by decide +kernel
theorem dX12_under_91 : decode cX12_under 91 = .ok (.iload 5, 2) := by decide +kernel
theorem dX12_under_93 : decode cX12_under 93 = .ok (.baload, 1) := by decide +kernel
theorem dX12_under_94 : decode cX12_under 94 = .ok (.ifCond .ne 17, 3) := by decide +kernel
theorem dX12_under_97 : decode cX12_under 97 = .ok (.aload_n 0, 1) := by decide +kernel
theorem dX12_under_98 : decode cX12_under 98 = .ok (.getfield 76, 3) := by decide +kernel
theorem dX12_under_101 : decode cX12_under 101 = .ok (.iload 5, 2) := by decide +kernel
theorem dX12_under_103 : decode cX12_under 103 = .ok (.iaload, 1) := by decide +kernel
theorem dX12_under_104 : decode cX12_under 104 = .ok (.aload_n 0, 1) := by decide +kernel
theorem dX12_under_105 : decode cX12_under 105 = .ok (.getfield 239, 3) := by decide +kernel
theorem dX12_under_108 : decode cX12_under 108 = .ok (.if_icmp .gt 26, 3) := by decide +kernel
theorem dX12_under_111 : decode cX12_under 111 = .ok (.iload 6, 2) := by decide +kernel
theorem dX12_under_113 : decode cX12_under 113 = .ok (.aload_n 0, 1) := by decide +kernel
theorem dX12_under_114 : decode cX12_under 114 = .ok (.getfield 239, 3) := by decide +kernel
theorem dX12_under_117 : decode cX12_under 117 = .ok (.if_icmp .gt 21, 3) := by decide +kernel
theorem dX12_under_120 : decode cX12_under 120 = .ok (.aload_n 0, 1) := by decide +kernel
theorem dX12_under_121 : decode cX12_under 121 = .ok (.getfield 79, 3) := by decide +kernel
theorem dX12_under_124 : decode cX12_under 124 = .ok (.iload 5, 2) := by decide +kernel
theorem dX12_under_126 : decode cX12_under 126 = .ok (.iaload, 1) := by decide +kernel
theorem dX12_under_127 : decode cX12_under 127 = .ok (.aload_n 0, 1) := by decide +kernel
theorem dX12_under_128 : decode cX12_under 128 = .ok (.getfield 239, 3) := by decide +kernel
theorem dX12_under_131 : decode cX12_under 131 = .ok (.if_icmp .le 7, 3) := by decide +kernel
theorem dX12_under_134 : decode cX12_under 134 = .ok (.iconst 1, 1) := by decide +kernel
theorem dX12_under_135 : decode cX12_under 135 = .ok (.goto 4, 3) := by decide +kernel
theorem dX12_under_138 : decode cX12_under 138 = .ok (.iconst 0, 1) := by decide +kernel
theorem dX12_under_139 : decode cX12_under 139 = .ok (.iadd, 1) := by decide +kernel
theorem dX12_under_140 : decode cX12_under 140 = .ok (.istore_n 2, 1) := by decide +kernel
theorem dX12_under_141 : decode cX12_under 141 = .ok (.goto 32, 3) := by decide +kernel
theorem dX12_under_144 : decode cX12_under 144 = .ok (.iload_n 1, 1) := by decide +kernel
theorem dX12_under_145 : decode cX12_under 145 = .ok (.iconst 1, 1) := by decide +kernel
theorem dX12_under_146 : decode cX12_under 146 = .ok (.if_icmp .ne 27, 3) := by decide +kernel
theorem dX12_under_149 : decode cX12_under 149 = .ok (.iload_n 2, 1) := by decide +kernel
theorem dX12_under_150 : decode cX12_under 150 = .ok (.iload 6, 2) := by decide +kernel
theorem dX12_under_152 : decode cX12_under 152 = .ok (.ldc 249, 2) := by decide +kernel
theorem dX12_under_154 : decode cX12_under 154 = .ok (.if_icmp .eq 16, 3) := by decide +kernel
theorem dX12_under_157 : decode cX12_under 157 = .ok (.iload 6, 2) := by decide +kernel
theorem dX12_under_159 : decode cX12_under 159 = .ok (.aload_n 0, 1) := by decide +kernel
theorem dX12_under_160 : decode cX12_under 160 = .ok (.getfield 239, 3) := by decide +kernel
theorem dX12_under_163 : decode cX12_under 163 = .ok (.if_icmp .le 7, 3) := by decide +kernel
theorem dX12_under_166 : decode cX12_under 166 = .ok (.iconst 1, 1) := by decide +kernel
theorem dX12_under_167 : decode cX12_under 167 = .ok (.goto 4, 3) := by decide +kernel
theorem dX12_under_170 : decode cX12_under 170 = .ok (.iconst 0, 1) := by decide +kernel
theorem dX12_under_171 : decode cX12_under 171 = .ok (.iadd, 1) := by decide +kernel
theorem dX12_under_172 : decode cX12_under 172 = .ok (.istore_n 2, 1) := by decide +kernel
theorem dX12_under_173 : decode cX12_under 173 = .ok (.iinc 4 1, 3) := by decide +kernel
theorem dX12_under_176 : decode cX12_under 176 = .ok (.goto (-145), 3) := by decide +kernel
theorem dX12_under_179 : decode cX12_under 179 = .ok (.iconst 0, 1) := by decide +kernel
theorem dX12_under_180 : decode cX12_under 180 = .ok (.istore 4, 2) := by decide +kernel
theorem dX12_under_182 : decode cX12_under 182 = .ok (.iload 4, 2) := by decide +kernel
theorem dX12_under_184 : decode cX12_under 184 = .ok (.aload_n 0, 1) := by decide +kernel
theorem dX12_under_185 : decode cX12_under 185 = .ok (.getfield 239, 3) := by decide +kernel
theorem dX12_under_188 : decode cX12_under 188 = .ok (.if_icmp .ge 49, 3) := by decide +kernel
theorem dX12_under_191 : decode cX12_under 191 = .ok (.iload_n 1, 1) := by decide +kernel
theorem dX12_under_192 : decode cX12_under 192 = .ok (.iconst 2, 1) := by decide +kernel
theorem dX12_under_193 : decode cX12_under 193 = .ok (.if_icmp .ne 44, 3) := by decide +kernel
theorem dX12_under_196 : decode cX12_under 196 = .ok (.iload_n 2, 1) := by decide +kernel
theorem dX12_under_197 : decode cX12_under 197 = .ok (.iload 4, 2) := by decide +kernel
theorem dX12_under_199 : decode cX12_under 199 = .ok (.aload_n 0, 1) := by decide +kernel
theorem dX12_under_200 : decode cX12_under 200 = .ok (.getfield 61, 3) := by decide +kernel
theorem dX12_under_203 : decode cX12_under 203 = .ok (.iload_n 3, 1) := by decide +kernel
theorem dX12_under_204 : decode cX12_under 204 = .ok (.iaload, 1) := by decide +kernel
theorem dX12_under_205 : decode cX12_under 205 = .ok (.if_icmp .lt 23, 3) := by decide +kernel
theorem dX12_under_208 : decode cX12_under 208 = .ok (.iload 4, 2) := by decide +kernel
theorem dX12_under_210 : decode cX12_under 210 = .ok (.aload_n 0, 1) := by decide +kernel
theorem dX12_under_211 : decode cX12_under 211 = .ok (.getfield 58, 3) := by decide +kernel
theorem dX12_under_214 : decode cX12_under 214 = .ok (.iload_n 3, 1) := by decide +kernel
theorem dX12_under_215 : decode cX12_under 215 = .ok (.iaload, 1) := by decide +kernel
theorem dX12_under_216 : decode cX12_under 216 = .ok (.iadd, 1) := by decide +kernel
theorem dX12_under_217 : decode cX12_under 217 = .ok (.aload_n 0, 1) := by decide +kernel
theorem dX12_under_218 : decode cX12_under 218 = .ok (.getfield 239, 3) := by decide +kernel
theorem dX12_under_221 : decode cX12_under 221 = .ok (.if_icmp .le 7, 3) := by decide +kernel
theorem dX12_under_224 : decode cX12_under 224 = .ok (.iconst 1, 1) := by decide +kernel
theorem dX12_under_225 : decode cX12_under 225 = .ok (.goto 4, 3) := by decide +kernel
theorem dX12_under_228 : decode cX12_under 228 = .ok (.iconst 0, 1) := by decide +kernel
theorem dX12_under_229 : decode cX12_under 229 = .ok (.iadd, 1) := by decide +kernel
theorem dX12_under_230 : decode cX12_under 230 = .ok (.istore_n 2, 1) := by decide +kernel
theorem dX12_under_231 : decode cX12_under 231 = .ok (.iinc 4 30, 3) := by decide +kernel
theorem dX12_under_234 : decode cX12_under 234 = .ok (.goto (-52), 3) := by decide +kernel
theorem dX12_under_237 : decode cX12_under 237 = .ok (.iinc 3 1, 3) := by decide +kernel
theorem dX12_under_240 : decode cX12_under 240 = .ok (.goto (-220), 3) := by decide +kernel
theorem dX12_under_243 : decode cX12_under 243 = .ok (.iload_n 2, 1) := by decide +kernel
theorem dX12_under_244 : decode cX12_under 244 = .ok (.ireturn, 1) := by decide +kernel
theorem dX12_stock_0 : decode cX12_stock 0 = .ok (.aload_n 0, 1) := by decide +kernel
theorem dX12_stock_1 : decode cX12_stock 1 = .ok (.iconst 0, 1) := by decide +kernel
theorem dX12_stock_2 : decode cX12_stock 2 = .ok (.putfield 123, 3) := by decide +kernel
theorem dX12_stock_5 : decode cX12_stock 5 = .ok (.aload_n 0, 1) := by decide +kernel
theorem dX12_stock_6 : decode cX12_stock 6 = .ok (.iload_n 1, 1) := by decide +kernel
theorem dX12_stock_7 : decode cX12_stock 7 = .ok (.invokevirtual 262, 3) := by decide +kernel
theorem dX12_stock_10 : decode cX12_stock 10 = .ok (.ifCond .eq 12, 3) := by decide +kernel
theorem dX12_stock_13 : decode cX12_stock 13 = .ok (.iload_n 2, 1) := by decide +kernel
theorem dX12_stock_14 : decode cX12_stock 14 = .ok (.iconst 0, 1) := by decide +kernel
theorem dX12_stock_15 : decode cX12_stock 15 = .ok (.iconst 4, 1) := by decide +kernel
theorem dX12_stock_16 : decode cX12_stock 16 = .ok (.invokestatic 229, 3) := by decide +kernel
theorem dX12_stock_19 : decode cX12_stock 19 = .ok (.ifCond .ne 9, 3) := by decide +kernel
theorem dX12_stock_22 : decode cX12_stock 22 = .ok (.aload_n 0, 1) := by decide +kernel
theorem dX12_stock_23 : decode cX12_stock 23 = .ok (.iconst 1, 1) := by decide +kernel
theorem dX12_stock_24 : decode cX12_stock 24 = .ok (.invokevirtual 233, 3) := by decide +kernel
theorem dX12_stock_27 : decode cX12_stock 27 = .ok (.ireturn, 1) := by decide +kernel
theorem dX12_stock_28 : decode cX12_stock 28 = .ok (.iconst 5, 1) := by decide +kernel
theorem dX12_stock_29 : decode cX12_stock 29 = .ok (.iload_n 1, 1) := by decide +kernel
theorem dX12_stock_30 : decode cX12_stock 30 = .ok (.imul, 1) := by decide +kernel
theorem dX12_stock_31 : decode cX12_stock 31 = .ok (.iload_n 2, 1) := by decide +kernel
theorem dX12_stock_32 : decode cX12_stock 32 = .ok (.iadd, 1) := by decide +kernel
theorem dX12_stock_33 : decode cX12_stock 33 = .ok (.istore 4, 2) := by decide +kernel
theorem dX12_stock_35 : decode cX12_stock 35 = .ok (.iload_n 3, 1) := by decide +kernel
theorem dX12_stock_36 : decode cX12_stock 36 = .ok (.ifCond .lt 25, 3) := by decide +kernel
theorem dX12_stock_39 : decode cX12_stock 39 = .ok (.iload_n 3, 1) := by decide +kernel
theorem dX12_stock_40 : decode cX12_stock 40 = .ok (.sipush 10000, 3) := by decide +kernel
theorem dX12_stock_43 : decode cX12_stock 43 = .ok (.if_icmp .gt 18, 3) := by decide +kernel
theorem dX12_stock_46 : decode cX12_stock 46 = .ok (.aload_n 0, 1) := by decide +kernel
theorem dX12_stock_47 : decode cX12_stock 47 = .ok (.getfield 73, 3) := by decide +kernel
theorem dX12_stock_50 : decode cX12_stock 50 = .ok (.iload 4, 2) := by decide +kernel
theorem dX12_stock_52 : decode cX12_stock 52 = .ok (.iaload, 1) := by decide +kernel
theorem dX12_stock_53 : decode cX12_stock 53 = .ok (.iload_n 3, 1) := by decide +kernel
theorem dX12_stock_54 : decode cX12_stock 54 = .ok (.iadd, 1) := by decide +kernel
theorem dX12_stock_55 : decode cX12_stock 55 = .ok (.sipush 10000, 3) := by decide +kernel
theorem dX12_stock_58 : decode cX12_stock 58 = .ok (.if_icmp .le 9, 3) := by decide +kernel
theorem dX12_stock_61 : decode cX12_stock 61 = .ok (.aload_n 0, 1) := by decide +kernel
theorem dX12_stock_62 : decode cX12_stock 62 = .ok (.iconst 2, 1) := by decide +kernel
theorem dX12_stock_63 : decode cX12_stock 63 = .ok (.invokevirtual 233, 3) := by decide +kernel
theorem dX12_stock_66 : decode cX12_stock 66 = .ok (.ireturn, 1) := by decide +kernel
theorem dX12_stock_67 : decode cX12_stock 67 = .ok (.aload_n 0, 1) := by decide +kernel
theorem dX12_stock_68 : decode cX12_stock 68 = .ok (.getfield 73, 3) := by decide +kernel
theorem dX12_stock_71 : decode cX12_stock 71 = .ok (.iload 4, 2) := by decide +kernel
theorem dX12_stock_73 : decode cX12_stock 73 = .ok (.dup2, 1) := by decide +kernel
theorem dX12_stock_74 : decode cX12_stock 74 = .ok (.iaload, 1) := by decide +kernel
theorem dX12_stock_75 : decode cX12_stock 75 = .ok (.iload_n 3, 1) := by decide +kernel
theorem dX12_stock_76 : decode cX12_stock 76 = .ok (.iadd, 1) := by decide +kernel
theorem dX12_stock_77 : decode cX12_stock 77 = .ok (.iastore, 1) := by decide +kernel
theorem dX12_stock_78 : decode cX12_stock 78 = .ok (.aload_n 0, 1) := by decide +kernel
theorem dX12_stock_79 : decode cX12_stock 79 = .ok (.aload_n 0, 1) := by decide +kernel
theorem dX12_stock_80 : decode cX12_stock 80 = .ok (.getfield 73, 3) := by decide +kernel
theorem dX12_stock_83 : decode cX12_stock 83 = .ok (.iload 4, 2) := by decide +kernel
theorem dX12_stock_85 : decode cX12_stock 85 = .ok (.iaload, 1) := by decide +kernel
theorem dX12_stock_86 : decode cX12_stock 86 = .ok (.invokevirtual 246, 3) := by decide +kernel
theorem dX12_stock_89 : decode cX12_stock 89 = .ok (.ireturn, 1) := by decide +kernel
theorem dX12_isPaper_0 : decode cX12_isPaper 0 = .ok (.iload_n 0, 1) := by decide +kernel
theorem dX12_isPaper_1 : decode cX12_isPaper 1 = .ok (.iconst 0, 1) := by decide +kernel
theorem dX12_isPaper_2 : decode cX12_isPaper 2 = .ok (.bipush 9, 2) := by decide +kernel
theorem dX12_isPaper_4 : decode cX12_isPaper 4 = .ok (.invokestatic 229, 3) := by decide +kernel
theorem dX12_isPaper_7 : decode cX12_isPaper 7 = .ok (.ifCond .eq 28, 3) := by decide +kernel
theorem dX12_isPaper_10 : decode cX12_isPaper 10 = .ok (.iload_n 1, 1) := by decide +kernel
theorem dX12_isPaper_11 : decode cX12_isPaper 11 = .ok (.iconst 0, 1) := by decide +kernel
theorem dX12_isPaper_12 : decode cX12_isPaper 12 = .ok (.sipush 9999, 3) := by decide +kernel
theorem dX12_isPaper_15 : decode cX12_isPaper 15 = .ok (.invokestatic 229, 3) := by decide +kernel
theorem dX12_isPaper_18 : decode cX12_isPaper 18 = .ok (.ifCond .eq 17, 3) := by decide +kernel
theorem dX12_isPaper_21 : decode cX12_isPaper 21 = .ok (.iload_n 2, 1) := by decide +kernel
theorem dX12_isPaper_22 : decode cX12_isPaper 22 = .ok (.iconst 1, 1) := by decide +kernel
theorem dX12_isPaper_23 : decode cX12_isPaper 23 = .ok (.bipush 99, 2) := by decide +kernel
theorem dX12_isPaper_25 : decode cX12_isPaper 25 = .ok (.invokestatic 229, 3) := by decide +kernel
theorem dX12_isPaper_28 : decode cX12_isPaper 28 = .ok (.ifCond .eq 7, 3) := by decide +kernel
theorem dX12_isPaper_31 : decode cX12_isPaper 31 = .ok (.iconst 1, 1) := by decide +kernel
theorem dX12_isPaper_32 : decode cX12_isPaper 32 = .ok (.goto 4, 3) := by decide +kernel
theorem dX12_isPaper_35 : decode cX12_isPaper 35 = .ok (.iconst 0, 1) := by decide +kernel
theorem dX12_isPaper_36 : decode cX12_isPaper 36 = .ok (.ireturn, 1) := by decide +kernel
theorem dX12_fee_0 : decode cX12_fee 0 = .ok (.aload_n 0, 1) := by decide +kernel
theorem dX12_fee_1 : decode cX12_fee 1 = .ok (.iconst 0, 1) := by decide +kernel
theorem dX12_fee_2 : decode cX12_fee 2 = .ok (.putfield 123, 3) := by decide +kernel
theorem dX12_fee_5 : decode cX12_fee 5 = .ok (.aload_n 0, 1) := by decide +kernel
theorem dX12_fee_6 : decode cX12_fee 6 = .ok (.iload_n 1, 1) := by decide +kernel
theorem dX12_fee_7 : decode cX12_fee 7 = .ok (.invokevirtual 265, 3) := by decide +kernel
theorem dX12_fee_10 : decode cX12_fee 10 = .ok (.ifCond .eq 11, 3) := by decide +kernel
theorem dX12_fee_13 : decode cX12_fee 13 = .ok (.aload_n 0, 1) := by decide +kernel
theorem dX12_fee_14 : decode cX12_fee 14 = .ok (.iload_n 2, 1) := by decide +kernel
theorem dX12_fee_15 : decode cX12_fee 15 = .ok (.invokevirtual 262, 3) := by decide +kernel
theorem dX12_fee_18 : decode cX12_fee 18 = .ok (.ifCond .ne 9, 3) := by decide +kernel
theorem dX12_fee_21 : decode cX12_fee 21 = .ok (.aload_n 0, 1) := by decide +kernel
theorem dX12_fee_22 : decode cX12_fee 22 = .ok (.iconst 1, 1) := by decide +kernel
theorem dX12_fee_23 : decode cX12_fee 23 = .ok (.invokevirtual 233, 3) := by decide +kernel
theorem dX12_fee_26 : decode cX12_fee 26 = .ok (.ireturn, 1) := by decide +kernel
theorem dX12_fee_27 : decode cX12_fee 27 = .ok (.iload_n 3, 1) := by decide +kernel
theorem dX12_fee_28 : decode cX12_fee 28 = .ok (.iload 4, 2) := by decide +kernel
theorem dX12_fee_30 : decode cX12_fee 30 = .ok (.iload 5, 2) := by decide +kernel
theorem dX12_fee_32 : decode cX12_fee 32 = .ok (.invokestatic 278, 3) := by decide +kernel
theorem dX12_fee_35 : decode cX12_fee 35 = .ok (.ifCond .ne 9, 3) := by decide +kernel
theorem dX12_fee_38 : decode cX12_fee 38 = .ok (.aload_n 0, 1) := by decide +kernel
theorem dX12_fee_39 : decode cX12_fee 39 = .ok (.iconst 2, 1) := by decide +kernel
theorem dX12_fee_40 : decode cX12_fee 40 = .ok (.invokevirtual 233, 3) := by decide +kernel
theorem dX12_fee_43 : decode cX12_fee 43 = .ok (.ireturn, 1) := by decide +kernel
theorem dX12_fee_44 : decode cX12_fee 44 = .ok (.aload_n 0, 1) := by decide +kernel
theorem dX12_fee_45 : decode cX12_fee 45 = .ok (.iload_n 1, 1) := by decide +kernel
theorem dX12_fee_46 : decode cX12_fee 46 = .ok (.iload_n 3, 1) := by decide +kernel
theorem dX12_fee_47 : decode cX12_fee 47 = .ok (.iload 4, 2) := by decide +kernel
theorem dX12_fee_49 : decode cX12_fee 49 = .ok (.iload 5, 2) := by decide +kernel
theorem dX12_fee_51 : decode cX12_fee 51 = .ok (.iload_n 2, 1) := by decide +kernel
theorem dX12_fee_52 : decode cX12_fee 52 = .ok (.aload_n 0, 1) := by decide +kernel
theorem dX12_fee_53 : decode cX12_fee 53 = .ok (.getfield 67, 3) := by decide +kernel
theorem dX12_fee_56 : decode cX12_fee 56 = .ok (.iload_n 2, 1) := by decide +kernel
theorem dX12_fee_57 : decode cX12_fee 57 = .ok (.iaload, 1) := by decide +kernel
theorem dX12_fee_58 : decode cX12_fee 58 = .ok (.invokevirtual 281, 3) := by decide +kernel
theorem dX12_fee_61 : decode cX12_fee 61 = .ok (.istore 6, 2) := by decide +kernel
theorem dX12_fee_63 : decode cX12_fee 63 = .ok (.aload_n 0, 1) := by decide +kernel
theorem dX12_fee_64 : decode cX12_fee 64 = .ok (.iload 6, 2) := by decide +kernel
theorem dX12_fee_66 : decode cX12_fee 66 = .ok (.iconst (-1), 1) := by decide +kernel
theorem dX12_fee_67 : decode cX12_fee 67 = .ok (.if_icmp .ne 8, 3) := by decide +kernel
theorem dX12_fee_70 : decode cX12_fee 70 = .ok (.bipush (-2), 2) := by decide +kernel
theorem dX12_fee_72 : decode cX12_fee 72 = .ok (.goto 5, 3) := by decide +kernel
theorem dX12_fee_75 : decode cX12_fee 75 = .ok (.iload 6, 2) := by decide +kernel
theorem dX12_fee_77 : decode cX12_fee 77 = .ok (.invokevirtual 246, 3) := by decide +kernel
theorem dX12_fee_80 : decode cX12_fee 80 = .ok (.ireturn, 1) := by decide +kernel
theorem dX12_chooses_0 : decode cX12_chooses 0 = .ok (.iconst 1, 1) := by decide +kernel
theorem dX12_chooses_1 : decode cX12_chooses 1 = .ok (.istore_n 3, 1) := by decide +kernel
theorem dX12_chooses_2 : decode cX12_chooses 2 = .ok (.iload_n 3, 1) := by decide +kernel
theorem dX12_chooses_3 : decode cX12_chooses 3 = .ok (.iload_n 2, 1) := by decide +kernel
theorem dX12_chooses_4 : decode cX12_chooses 4 = .ok (.if_icmp .gt 18, 3) := by decide +kernel
theorem dX12_chooses_7 : decode cX12_chooses 7 = .ok (.aload_n 0, 1) := by decide +kernel
theorem dX12_chooses_8 : decode cX12_chooses 8 = .ok (.getfield 116, 3) := by decide +kernel
theorem dX12_chooses_11 : decode cX12_chooses 11 = .ok (.iload_n 3, 1) := by decide +kernel
theorem dX12_chooses_12 : decode cX12_chooses 12 = .ok (.ldc2_w 287, 3) := by decide +kernel
theorem dX12_chooses_15 : decode cX12_chooses 15 = .ok (.lastore, 1) := by decide +kernel
theorem dX12_chooses_16 : decode cX12_chooses 16 = .ok (.iinc 3 1, 3) := by decide +kernel
theorem dX12_chooses_19 : decode cX12_chooses 19 = .ok (.goto (-17), 3) := by decide +kernel
theorem dX12_chooses_22 : decode cX12_chooses 22 = .ok (.aload_n 0, 1) := by decide +kernel
theorem dX12_chooses_23 : decode cX12_chooses 23 = .ok (.getfield 116, 3) := by decide +kernel
theorem dX12_chooses_26 : decode cX12_chooses 26 = .ok (.iconst 0, 1) := by decide +kernel
theorem dX12_chooses_27 : decode cX12_chooses 27 = .ok (.lconst 0, 1) := by decide +kernel
theorem dX12_chooses_28 : decode cX12_chooses 28 = .ok (.lastore, 1) := by decide +kernel
theorem dX12_chooses_29 : decode cX12_chooses 29 = .ok (.iconst 0, 1) := by decide +kernel
theorem dX12_chooses_30 : decode cX12_chooses 30 = .ok (.istore_n 3, 1) := by decide +kernel
theorem dX12_chooses_31 : decode cX12_chooses 31 = .ok (.iload_n 3, 1) := by decide +kernel
theorem dX12_chooses_32 : decode cX12_chooses 32 = .ok (.iconst 5, 1) := by decide +kernel
theorem dX12_chooses_33 : decode cX12_chooses 33 = .ok (.if_icmp .ge 187, 3) := by decide +kernel
theorem dX12_chooses_36 : decode cX12_chooses 36 = .ok (.aload_n 0, 1) := by decide +kernel
theorem dX12_chooses_37 : decode cX12_chooses 37 = .ok (.getfield 73, 3) := by decide +kernel
theorem dX12_chooses_40 : decode cX12_chooses 40 = .ok (.iconst 5, 1) := by decide +kernel
theorem dX12_chooses_41 : decode cX12_chooses 41 = .ok (.iload_n 1, 1) := by decide +kernel
theorem dX12_chooses_42 : decode cX12_chooses 42 = .ok (.imul, 1) := by decide +kernel
theorem dX12_chooses_43 : decode cX12_chooses 43 = .ok (.iload_n 3, 1) := by decide +kernel
theorem dX12_chooses_44 : decode cX12_chooses 44 = .ok (.iadd, 1) := by decide +kernel
theorem dX12_chooses_45 : decode cX12_chooses 45 = .ok (.iaload, 1) := by decide +kernel
theorem dX12_chooses_46 : decode cX12_chooses 46 = .ok (.iload_n 2, 1) := by decide +kernel
theorem dX12_chooses_47 : decode cX12_chooses 47 = .ok (.getstatic 289, 3) := by decide +kernel
theorem dX12_chooses_50 : decode cX12_chooses 50 = .ok (.iload_n 3, 1) := by decide +kernel
theorem dX12_chooses_51 : decode cX12_chooses 51 = .ok (.iaload, 1) := by decide +kernel
theorem dX12_chooses_52 : decode cX12_chooses 52 = .ok (.idiv, 1) := by decide +kernel
theorem dX12_chooses_53 : decode cX12_chooses 53 = .ok (.invokestatic 223, 3) := by decide +kernel
theorem dX12_chooses_56 : decode cX12_chooses 56 = .ok (.istore 4, 2) := by decide +kernel
theorem dX12_chooses_58 : decode cX12_chooses 58 = .ok (.ldc2_w 292, 3) := by decide +kernel
theorem dX12_chooses_61 : decode cX12_chooses 61 = .ok (.iload_n 3, 1) := by decide +kernel
theorem dX12_chooses_62 : decode cX12_chooses 62 = .ok (.ifCond .ne 7, 3) := by decide +kernel
theorem dX12_chooses_65 : decode cX12_chooses 65 = .ok (.lconst 0, 1) := by decide +kernel
theorem dX12_chooses_66 : decode cX12_chooses 66 = .ok (.goto 37, 3) := by decide +kernel
theorem dX12_chooses_69 : decode cX12_chooses 69 = .ok (.iload_n 3, 1) := by decide +kernel
theorem dX12_chooses_70 : decode cX12_chooses 70 = .ok (.iconst 1, 1) := by decide +kernel
theorem dX12_chooses_71 : decode cX12_chooses 71 = .ok (.if_icmp .ne 7, 3) := by decide +kernel
theorem dX12_chooses_74 : decode cX12_chooses 74 = .ok (.lconst 1, 1) := by decide +kernel
theorem dX12_chooses_75 : decode cX12_chooses 75 = .ok (.goto 28, 3) := by decide +kernel
theorem dX12_chooses_78 : decode cX12_chooses 78 = .ok (.iload_n 3, 1) := by decide +kernel
theorem dX12_chooses_79 : decode cX12_chooses 79 = .ok (.iconst 2, 1) := by decide +kernel
theorem dX12_chooses_80 : decode cX12_chooses 80 = .ok (.if_icmp .ne 9, 3) := by decide +kernel
theorem dX12_chooses_83 : decode cX12_chooses 83 = .ok (.ldc2_w 294, 3) := by decide +kernel
theorem dX12_chooses_86 : decode cX12_chooses 86 = .ok (.goto 17, 3) := by decide +kernel
theorem dX12_chooses_89 : decode cX12_chooses 89 = .ok (.iload_n 3, 1) := by decide +kernel
theorem dX12_chooses_90 : decode cX12_chooses 90 = .ok (.iconst 3, 1) := by decide +kernel
theorem dX12_chooses_91 : decode cX12_chooses 91 = .ok (.if_icmp .ne 9, 3) := by decide +kernel
theorem dX12_chooses_94 : decode cX12_chooses 94 = .ok (.ldc2_w 296, 3) := by decide +kernel
theorem dX12_chooses_97 : decode cX12_chooses 97 = .ok (.goto 6, 3) := by decide +kernel
theorem dX12_chooses_100 : decode cX12_chooses 100 = .ok (.ldc2_w 298, 3) := by decide +kernel
theorem dX12_chooses_103 : decode cX12_chooses 103 = .ok (.lsub, 1) := by decide +kernel
theorem dX12_chooses_104 : decode cX12_chooses 104 = .ok (.lstore 5, 2) := by decide +kernel
theorem dX12_chooses_106 : decode cX12_chooses 106 = .ok (.iconst 1, 1) := by decide +kernel
theorem dX12_chooses_107 : decode cX12_chooses 107 = .ok (.istore 7, 2) := by decide +kernel
theorem dX12_chooses_109 : decode cX12_chooses 109 = .ok (.iload 4, 2) := by decide +kernel
theorem dX12_chooses_111 : decode cX12_chooses 111 = .ok (.ifCond .le 103, 3) := by decide +kernel
theorem dX12_chooses_114 : decode cX12_chooses 114 = .ok (.iload 7, 2) := by decide +kernel
theorem dX12_chooses_116 : decode cX12_chooses 116 = .ok (.iload 4, 2) := by decide +kernel
theorem dX12_chooses_118 : decode cX12_chooses 118 = .ok (.invokestatic 223, 3) := by decide +kernel
theorem dX12_chooses_121 : decode cX12_chooses 121 = .ok (.istore 8, 2) := by decide +kernel
theorem dX12_chooses_123 : decode cX12_chooses 123 = .ok (.iload 4, 2) := by decide +kernel
theorem dX12_chooses_125 : decode cX12_chooses 125 = .ok (.iload 8, 2) := by decide +kernel
theorem dX12_chooses_127 : decode cX12_chooses 127 = .ok (.isub, 1) := by decide +kernel
theorem dX12_chooses_128 : decode cX12_chooses 128 = .ok (.istore 4, 2) := by decide +kernel
theorem dX12_chooses_130 : decode cX12_chooses 130 = .ok (.iload_n 2, 1) := by decide +kernel
theorem dX12_chooses_131 : decode cX12_chooses 131 = .ok (.istore 9, 2) := by decide +kernel
theorem dX12_chooses_133 : decode cX12_chooses 133 = .ok (.iload 9, 2) := by decide +kernel
theorem dX12_chooses_135 : decode cX12_chooses 135 = .ok (.iload 8, 2) := by decide +kernel
theorem dX12_chooses_137 : decode cX12_chooses 137 = .ok (.getstatic 289, 3) := by decide +kernel
theorem dX12_chooses_140 : decode cX12_chooses 140 = .ok (.iload_n 3, 1) := by decide +kernel
theorem dX12_chooses_141 : decode cX12_chooses 141 = .ok (.iaload, 1) := by decide +kernel
theorem dX12_chooses_142 : decode cX12_chooses 142 = .ok (.imul, 1) := by decide +kernel
theorem dX12_chooses_143 : decode cX12_chooses 143 = .ok (.if_icmp .lt 62, 3) := by decide +kernel
theorem dX12_chooses_146 : decode cX12_chooses 146 = .ok (.aload_n 0, 1) := by decide +kernel
theorem dX12_chooses_147 : decode cX12_chooses 147 = .ok (.getfield 116, 3) := by decide +kernel
theorem dX12_chooses_150 : decode cX12_chooses 150 = .ok (.iload 9, 2) := by decide +kernel
theorem dX12_chooses_152 : decode cX12_chooses 152 = .ok (.iload 8, 2) := by decide +kernel
theorem dX12_chooses_154 : decode cX12_chooses 154 = .ok (.getstatic 289, 3) := by decide +kernel
theorem dX12_chooses_157 : decode cX12_chooses 157 = .ok (.iload_n 3, 1) := by decide +kernel
theorem dX12_chooses_158 : decode cX12_chooses 158 = .ok (.iaload, 1) := by decide +kernel
theorem dX12_chooses_159 : decode cX12_chooses 159 = .ok (.imul, 1) := by decide +kernel
theorem dX12_chooses_160 : decode cX12_chooses 160 = .ok (.isub, 1) := by decide +kernel
theorem dX12_chooses_161 : decode cX12_chooses 161 = .ok (.laload, 1) := by decide +kernel
theorem dX12_chooses_162 : decode cX12_chooses 162 = .ok (.lstore 10, 2) := by decide +kernel
theorem dX12_chooses_164 : decode cX12_chooses 164 = .ok (.lload 10, 2) := by decide +kernel
theorem dX12_chooses_166 : decode cX12_chooses 166 = .ok (.ldc2_w 287, 3) := by decide +kernel
theorem dX12_chooses_169 : decode cX12_chooses 169 = .ok (.lcmp, 1) := by decide +kernel
theorem dX12_chooses_170 : decode cX12_chooses 170 = .ok (.ifCond .eq 29, 3) := by decide +kernel
theorem dX12_chooses_173 : decode cX12_chooses 173 = .ok (.aload_n 0, 1) := by decide +kernel
theorem dX12_chooses_174 : decode cX12_chooses 174 = .ok (.getfield 116, 3) := by decide +kernel
theorem dX12_chooses_177 : decode cX12_chooses 177 = .ok (.iload 9, 2) := by decide +kernel
theorem dX12_chooses_179 : decode cX12_chooses 179 = .ok (.aload_n 0, 1) := by decide +kernel
theorem dX12_chooses_180 : decode cX12_chooses 180 = .ok (.getfield 116, 3) := by decide +kernel
theorem dX12_chooses_183 : decode cX12_chooses 183 = .ok (.iload 9, 2) := by decide +kernel
theorem dX12_chooses_185 : decode cX12_chooses 185 = .ok (.laload, 1) := by decide +kernel
theorem dX12_chooses_186 : decode cX12_chooses 186 = .ok (.lload 10, 2) := by decide +kernel
theorem dX12_chooses_188 : decode cX12_chooses 188 = .ok (.iload 8, 2) := by decide +kernel
theorem dX12_chooses_190 : decode cX12_chooses 190 = .ok (.i2l, 1) := by decide +kernel
theorem dX12_chooses_191 : decode cX12_chooses 191 = .ok (.lload 5, 2) := by decide +kernel
theorem dX12_chooses_193 : decode cX12_chooses 193 = .ok (.lmul, 1) := by decide +kernel
theorem dX12_chooses_194 : decode cX12_chooses 194 = .ok (.ladd, 1) := by decide +kernel
theorem dX12_chooses_195 : decode cX12_chooses 195 = .ok (.invokestatic 300, 3) := by decide +kernel
theorem dX12_chooses_198 : decode cX12_chooses 198 = .ok (.lastore, 1) := by decide +kernel
theorem dX12_chooses_199 : decode cX12_chooses 199 = .ok (.iinc 9 (-1), 3) := by decide +kernel
theorem dX12_chooses_202 : decode cX12_chooses 202 = .ok (.goto (-69), 3) := by decide +kernel
theorem dX12_chooses_205 : decode cX12_chooses 205 = .ok (.iload 7, 2) := by decide +kernel
theorem dX12_chooses_207 : decode cX12_chooses 207 = .ok (.iconst 2, 1) := by decide +kernel
theorem dX12_chooses_208 : decode cX12_chooses 208 = .ok (.imul, 1) := by decide +kernel
theorem dX12_chooses_209 : decode cX12_chooses 209 = .ok (.istore 7, 2) := by decide +kernel
theorem dX12_chooses_211 : decode cX12_chooses 211 = .ok (.goto (-102), 3) := by decide +kernel
theorem dX12_chooses_214 : decode cX12_chooses 214 = .ok (.iinc 3 1, 3) := by decide +kernel
theorem dX12_chooses_217 : decode cX12_chooses 217 = .ok (.goto (-186), 3) := by decide +kernel
theorem dX12_chooses_220 : decode cX12_chooses 220 = .ok (.aload_n 0, 1) := by decide +kernel
theorem dX12_chooses_221 : decode cX12_chooses 221 = .ok (.getfield 116, 3) := by decide +kernel
theorem dX12_chooses_224 : decode cX12_chooses 224 = .ok (.iload_n 2, 1) := by decide +kernel
theorem dX12_chooses_225 : decode cX12_chooses 225 = .ok (.laload, 1) := by decide +kernel
theorem dX12_chooses_226 : decode cX12_chooses 226 = .ok (.ldc2_w 287, 3) := by decide +kernel
theorem dX12_chooses_229 : decode cX12_chooses 229 = .ok (.lcmp, 1) := by decide +kernel
theorem dX12_chooses_230 : decode cX12_chooses 230 = .ok (.ifCond .ne 5, 3) := by decide +kernel
theorem dX12_chooses_233 : decode cX12_chooses 233 = .ok (.iconst 0, 1) := by decide +kernel
theorem dX12_chooses_234 : decode cX12_chooses 234 = .ok (.ireturn, 1) := by decide +kernel
theorem dX12_chooses_235 : decode cX12_chooses 235 = .ok (.aload_n 0, 1) := by decide +kernel
theorem dX12_chooses_236 : decode cX12_chooses 236 = .ok (.getfield 116, 3) := by decide +kernel
theorem dX12_chooses_239 : decode cX12_chooses 239 = .ok (.iload_n 2, 1) := by decide +kernel
theorem dX12_chooses_240 : decode cX12_chooses 240 = .ok (.laload, 1) := by decide +kernel
theorem dX12_chooses_241 : decode cX12_chooses 241 = .ok (.ldc2_w 292, 3) := by decide +kernel
theorem dX12_chooses_244 : decode cX12_chooses 244 = .ok (.ladd, 1) := by decide +kernel
theorem dX12_chooses_245 : decode cX12_chooses 245 = .ok (.lconst 1, 1) := by decide +kernel
theorem dX12_chooses_246 : decode cX12_chooses 246 = .ok (.lsub, 1) := by decide +kernel
theorem dX12_chooses_247 : decode cX12_chooses 247 = .ok (.bipush 40, 2) := by decide +kernel
theorem dX12_chooses_249 : decode cX12_chooses 249 = .ok (.lshr, 1) := by decide +kernel
theorem dX12_chooses_250 : decode cX12_chooses 250 = .ok (.lstore_n 3, 1) := by decide +kernel
theorem dX12_chooses_251 : decode cX12_chooses 251 = .ok (.lload_n 3, 1) := by decide +kernel
theorem dX12_chooses_252 : decode cX12_chooses 252 = .ok (.bipush 40, 2) := by decide +kernel
theorem dX12_chooses_254 : decode cX12_chooses 254 = .ok (.lshl, 1) := by decide +kernel
theorem dX12_chooses_255 : decode cX12_chooses 255 = .ok (.aload_n 0, 1) := by decide +kernel
theorem dX12_chooses_256 : decode cX12_chooses 256 = .ok (.getfield 116, 3) := by decide +kernel
theorem dX12_chooses_259 : decode cX12_chooses 259 = .ok (.iload_n 2, 1) := by decide +kernel
theorem dX12_chooses_260 : decode cX12_chooses 260 = .ok (.laload, 1) := by decide +kernel
theorem dX12_chooses_261 : decode cX12_chooses 261 = .ok (.lsub, 1) := by decide +kernel
theorem dX12_chooses_262 : decode cX12_chooses 262 = .ok (.lstore 5, 2) := by decide +kernel
theorem dX12_chooses_264 : decode cX12_chooses 264 = .ok (.aload_n 0, 1) := by decide +kernel
theorem dX12_chooses_265 : decode cX12_chooses 265 = .ok (.getfield 120, 3) := by decide +kernel
theorem dX12_chooses_268 : decode cX12_chooses 268 = .ok (.iconst 1, 1) := by decide +kernel
theorem dX12_chooses_269 : decode cX12_chooses 269 = .ok (.lload 5, 2) := by decide +kernel
theorem dX12_chooses_271 : decode cX12_chooses 271 = .ok (.ldc2_w 303, 3) := by decide +kernel
theorem dX12_chooses_274 : decode cX12_chooses 274 = .ok (.land, 1) := by decide +kernel
theorem dX12_chooses_275 : decode cX12_chooses 275 = .ok (.l2i, 1) := by decide +kernel
theorem dX12_chooses_276 : decode cX12_chooses 276 = .ok (.iastore, 1) := by decide +kernel
theorem dX12_chooses_277 : decode cX12_chooses 277 = .ok (.aload_n 0, 1) := by decide +kernel
theorem dX12_chooses_278 : decode cX12_chooses 278 = .ok (.getfield 120, 3) := by decide +kernel
theorem dX12_chooses_281 : decode cX12_chooses 281 = .ok (.iconst 2, 1) := by decide +kernel
theorem dX12_chooses_282 : decode cX12_chooses 282 = .ok (.lload 5, 2) := by decide +kernel
theorem dX12_chooses_284 : decode cX12_chooses 284 = .ok (.bipush 12, 2) := by decide +kernel
theorem dX12_chooses_286 : decode cX12_chooses 286 = .ok (.lshr, 1) := by decide +kernel
theorem dX12_chooses_287 : decode cX12_chooses 287 = .ok (.ldc2_w 305, 3) := by decide +kernel
theorem dX12_chooses_290 : decode cX12_chooses 290 = .ok (.land, 1) := by decide +kernel
theorem dX12_chooses_291 : decode cX12_chooses 291 = .ok (.l2i, 1) := by decide +kernel
theorem dX12_chooses_292 : decode cX12_chooses 292 = .ok (.iastore, 1) := by decide +kernel
theorem dX12_chooses_293 : decode cX12_chooses 293 = .ok (.aload_n 0, 1) := by decide +kernel
theorem dX12_chooses_294 : decode cX12_chooses 294 = .ok (.getfield 120, 3) := by decide +kernel
theorem dX12_chooses_297 : decode cX12_chooses 297 = .ok (.iconst 3, 1) := by decide +kernel
theorem dX12_chooses_298 : decode cX12_chooses 298 = .ok (.lload 5, 2) := by decide +kernel
theorem dX12_chooses_300 : decode cX12_chooses 300 = .ok (.bipush 22, 2) := by decide +kernel
theorem dX12_chooses_302 : decode cX12_chooses 302 = .ok (.lshr, 1) := by decide +kernel
theorem dX12_chooses_303 : decode cX12_chooses 303 = .ok (.ldc2_w 307, 3) := by decide +kernel
theorem dX12_chooses_306 : decode cX12_chooses 306 = .ok (.land, 1) := by decide +kernel
theorem dX12_chooses_307 : decode cX12_chooses 307 = .ok (.l2i, 1) := by decide +kernel
theorem dX12_chooses_308 : decode cX12_chooses 308 = .ok (.iastore, 1) := by decide +kernel
theorem dX12_chooses_309 : decode cX12_chooses 309 = .ok (.aload_n 0, 1) := by decide +kernel
theorem dX12_chooses_310 : decode cX12_chooses 310 = .ok (.getfield 120, 3) := by decide +kernel
theorem dX12_chooses_313 : decode cX12_chooses 313 = .ok (.iconst 4, 1) := by decide +kernel
theorem dX12_chooses_314 : decode cX12_chooses 314 = .ok (.lload 5, 2) := by decide +kernel
theorem dX12_chooses_316 : decode cX12_chooses 316 = .ok (.bipush 31, 2) := by decide +kernel
theorem dX12_chooses_318 : decode cX12_chooses 318 = .ok (.lshr, 1) := by decide +kernel
theorem dX12_chooses_319 : decode cX12_chooses 319 = .ok (.l2i, 1) := by decide +kernel
theorem dX12_chooses_320 : decode cX12_chooses 320 = .ok (.iastore, 1) := by decide +kernel
theorem dX12_chooses_321 : decode cX12_chooses 321 = .ok (.aload_n 0, 1) := by decide +kernel
theorem dX12_chooses_322 : decode cX12_chooses 322 = .ok (.getfield 120, 3) := by decide +kernel
theorem dX12_chooses_325 : decode cX12_chooses 325 = .ok (.iconst 0, 1) := by decide +kernel
theorem dX12_chooses_326 : decode cX12_chooses 326 = .ok (.lload_n 3, 1) := by decide +kernel
theorem dX12_chooses_327 : decode cX12_chooses 327 = .ok (.l2i, 1) := by decide +kernel
theorem dX12_chooses_328 : decode cX12_chooses 328 = .ok (.aload_n 0, 1) := by decide +kernel
theorem dX12_chooses_329 : decode cX12_chooses 329 = .ok (.getfield 120, 3) := by decide +kernel
theorem dX12_chooses_332 : decode cX12_chooses 332 = .ok (.iconst 1, 1) := by decide +kernel
theorem dX12_chooses_333 : decode cX12_chooses 333 = .ok (.iaload, 1) := by decide +kernel
theorem dX12_chooses_334 : decode cX12_chooses 334 = .ok (.isub, 1) := by decide +kernel
theorem dX12_chooses_335 : decode cX12_chooses 335 = .ok (.aload_n 0, 1) := by decide +kernel
theorem dX12_chooses_336 : decode cX12_chooses 336 = .ok (.getfield 120, 3) := by decide +kernel
theorem dX12_chooses_339 : decode cX12_chooses 339 = .ok (.iconst 2, 1) := by decide +kernel
theorem dX12_chooses_340 : decode cX12_chooses 340 = .ok (.iaload, 1) := by decide +kernel
theorem dX12_chooses_341 : decode cX12_chooses 341 = .ok (.isub, 1) := by decide +kernel
theorem dX12_chooses_342 : decode cX12_chooses 342 = .ok (.aload_n 0, 1) := by decide +kernel
theorem dX12_chooses_343 : decode cX12_chooses 343 = .ok (.getfield 120, 3) := by decide +kernel
theorem dX12_chooses_346 : decode cX12_chooses 346 = .ok (.iconst 3, 1) := by decide +kernel
theorem dX12_chooses_347 : decode cX12_chooses 347 = .ok (.iaload, 1) := by decide +kernel
theorem dX12_chooses_348 : decode cX12_chooses 348 = .ok (.isub, 1) := by decide +kernel
theorem dX12_chooses_349 : decode cX12_chooses 349 = .ok (.aload_n 0, 1) := by decide +kernel
theorem dX12_chooses_350 : decode cX12_chooses 350 = .ok (.getfield 120, 3) := by decide +kernel
theorem dX12_chooses_353 : decode cX12_chooses 353 = .ok (.iconst 4, 1) := by decide +kernel
theorem dX12_chooses_354 : decode cX12_chooses 354 = .ok (.iaload, 1) := by decide +kernel
theorem dX12_chooses_355 : decode cX12_chooses 355 = .ok (.isub, 1) := by decide +kernel
theorem dX12_chooses_356 : decode cX12_chooses 356 = .ok (.iastore, 1) := by decide +kernel
theorem dX12_chooses_357 : decode cX12_chooses 357 = .ok (.iconst 1, 1) := by decide +kernel
theorem dX12_chooses_358 : decode cX12_chooses 358 = .ok (.ireturn, 1) := by decide +kernel
theorem dX12_seal_0 : decode cX12_seal 0 = .ok (.aload_n 0, 1) := by decide +kernel
theorem dX12_seal_1 : decode cX12_seal 1 = .ok (.iconst 0, 1) := by decide +kernel
theorem dX12_seal_2 : decode cX12_seal 2 = .ok (.putfield 123, 3) := by decide +kernel
theorem dX12_seal_5 : decode cX12_seal 5 = .ok (.aload_n 0, 1) := by decide +kernel
theorem dX12_seal_6 : decode cX12_seal 6 = .ok (.iload_n 1, 1) := by decide +kernel
theorem dX12_seal_7 : decode cX12_seal 7 = .ok (.invokevirtual 262, 3) := by decide +kernel
theorem dX12_seal_10 : decode cX12_seal 10 = .ok (.ifCond .ne 9, 3) := by decide +kernel
theorem dX12_seal_13 : decode cX12_seal 13 = .ok (.aload_n 0, 1) := by decide +kernel
theorem dX12_seal_14 : decode cX12_seal 14 = .ok (.iconst 1, 1) := by decide +kernel
theorem dX12_seal_15 : decode cX12_seal 15 = .ok (.invokevirtual 233, 3) := by decide +kernel
theorem dX12_seal_18 : decode cX12_seal 18 = .ok (.ireturn, 1) := by decide +kernel
theorem dX12_seal_19 : decode cX12_seal 19 = .ok (.iload_n 2, 1) := by decide +kernel
theorem dX12_seal_20 : decode cX12_seal 20 = .ok (.iload_n 3, 1) := by decide +kernel
theorem dX12_seal_21 : decode cX12_seal 21 = .ok (.iload 4, 2) := by decide +kernel
theorem dX12_seal_23 : decode cX12_seal 23 = .ok (.invokestatic 278, 3) := by decide +kernel
theorem dX12_seal_26 : decode cX12_seal 26 = .ok (.ifCond .ne 9, 3) := by decide +kernel
theorem dX12_seal_29 : decode cX12_seal 29 = .ok (.aload_n 0, 1) := by decide +kernel
theorem dX12_seal_30 : decode cX12_seal 30 = .ok (.iconst 2, 1) := by decide +kernel
theorem dX12_seal_31 : decode cX12_seal 31 = .ok (.invokevirtual 233, 3) := by decide +kernel
theorem dX12_seal_34 : decode cX12_seal 34 = .ok (.ireturn, 1) := by decide +kernel
theorem dX12_seal_35 : decode cX12_seal 35 = .ok (.aload_n 0, 1) := by decide +kernel
theorem dX12_seal_36 : decode cX12_seal 36 = .ok (.iload_n 1, 1) := by decide +kernel
theorem dX12_seal_37 : decode cX12_seal 37 = .ok (.invokevirtual 275, 3) := by decide +kernel
theorem dX12_seal_40 : decode cX12_seal 40 = .ok (.istore 5, 2) := by decide +kernel
theorem dX12_seal_42 : decode cX12_seal 42 = .ok (.iload 5, 2) := by decide +kernel
theorem dX12_seal_44 : decode cX12_seal 44 = .ok (.ifCond .ge 7, 3) := by decide +kernel
theorem dX12_seal_47 : decode cX12_seal 47 = .ok (.iconst (-1), 1) := by decide +kernel
theorem dX12_seal_48 : decode cX12_seal 48 = .ok (.goto 20, 3) := by decide +kernel
theorem dX12_seal_51 : decode cX12_seal 51 = .ok (.aload_n 0, 1) := by decide +kernel
theorem dX12_seal_52 : decode cX12_seal 52 = .ok (.iload 5, 2) := by decide +kernel
theorem dX12_seal_54 : decode cX12_seal 54 = .ok (.iload_n 2, 1) := by decide +kernel
theorem dX12_seal_55 : decode cX12_seal 55 = .ok (.iload_n 3, 1) := by decide +kernel
theorem dX12_seal_56 : decode cX12_seal 56 = .ok (.iload 4, 2) := by decide +kernel
theorem dX12_seal_58 : decode cX12_seal 58 = .ok (.iload_n 1, 1) := by decide +kernel
theorem dX12_seal_59 : decode cX12_seal 59 = .ok (.aload_n 0, 1) := by decide +kernel
theorem dX12_seal_60 : decode cX12_seal 60 = .ok (.getfield 67, 3) := by decide +kernel
theorem dX12_seal_63 : decode cX12_seal 63 = .ok (.iload_n 1, 1) := by decide +kernel
theorem dX12_seal_64 : decode cX12_seal 64 = .ok (.iaload, 1) := by decide +kernel
theorem dX12_seal_65 : decode cX12_seal 65 = .ok (.invokevirtual 281, 3) := by decide +kernel
theorem dX12_seal_68 : decode cX12_seal 68 = .ok (.istore 6, 2) := by decide +kernel
theorem dX12_seal_70 : decode cX12_seal 70 = .ok (.iload 6, 2) := by decide +kernel
theorem dX12_seal_72 : decode cX12_seal 72 = .ok (.iconst (-1), 1) := by decide +kernel
theorem dX12_seal_73 : decode cX12_seal 73 = .ok (.if_icmp .ne 9, 3) := by decide +kernel
theorem dX12_seal_76 : decode cX12_seal 76 = .ok (.aload_n 0, 1) := by decide +kernel
theorem dX12_seal_77 : decode cX12_seal 77 = .ok (.iconst 5, 1) := by decide +kernel
theorem dX12_seal_78 : decode cX12_seal 78 = .ok (.invokevirtual 233, 3) := by decide +kernel
theorem dX12_seal_81 : decode cX12_seal 81 = .ok (.ireturn, 1) := by decide +kernel
theorem dX12_seal_82 : decode cX12_seal 82 = .ok (.aload_n 0, 1) := by decide +kernel
theorem dX12_seal_83 : decode cX12_seal 83 = .ok (.iload_n 1, 1) := by decide +kernel
theorem dX12_seal_84 : decode cX12_seal 84 = .ok (.iload 6, 2) := by decide +kernel
theorem dX12_seal_86 : decode cX12_seal 86 = .ok (.invokevirtual 309, 3) := by decide +kernel
theorem dX12_seal_89 : decode cX12_seal 89 = .ok (.ifCond .ne 10, 3) := by decide +kernel
theorem dX12_seal_92 : decode cX12_seal 92 = .ok (.aload_n 0, 1) := by decide +kernel
theorem dX12_seal_93 : decode cX12_seal 93 = .ok (.bipush 6, 2) := by decide +kernel
theorem dX12_seal_95 : decode cX12_seal 95 = .ok (.invokevirtual 233, 3) := by decide +kernel
theorem dX12_seal_98 : decode cX12_seal 98 = .ok (.ireturn, 1) := by decide +kernel
theorem dX12_seal_99 : decode cX12_seal 99 = .ok (.aload_n 0, 1) := by decide +kernel
theorem dX12_seal_100 : decode cX12_seal 100 = .ok (.getfield 313, 3) := by decide +kernel
theorem dX12_seal_103 : decode cX12_seal 103 = .ok (.sipush 200, 3) := by decide +kernel
theorem dX12_seal_106 : decode cX12_seal 106 = .ok (.if_icmp .ne 9, 3) := by decide +kernel
theorem dX12_seal_109 : decode cX12_seal 109 = .ok (.aload_n 0, 1) := by decide +kernel
theorem dX12_seal_110 : decode cX12_seal 110 = .ok (.iconst 3, 1) := by decide +kernel
theorem dX12_seal_111 : decode cX12_seal 111 = .ok (.invokevirtual 233, 3) := by decide +kernel
theorem dX12_seal_114 : decode cX12_seal 114 = .ok (.ireturn, 1) := by decide +kernel
theorem dX12_seal_115 : decode cX12_seal 115 = .ok (.aload_n 0, 1) := by decide +kernel
theorem dX12_seal_116 : decode cX12_seal 116 = .ok (.getfield 313, 3) := by decide +kernel
theorem dX12_seal_119 : decode cX12_seal 119 = .ok (.istore 7, 2) := by decide +kernel
theorem dX12_seal_121 : decode cX12_seal 121 = .ok (.aload_n 0, 1) := by decide +kernel
theorem dX12_seal_122 : decode cX12_seal 122 = .ok (.dup, 1) := by decide +kernel
theorem dX12_seal_123 : decode cX12_seal 123 = .ok (.getfield 313, 3) := by decide +kernel
theorem dX12_seal_126 : decode cX12_seal 126 = .ok (.iconst 1, 1) := by decide +kernel
theorem dX12_seal_127 : decode cX12_seal 127 = .ok (.iadd, 1) := by decide +kernel
theorem dX12_seal_128 : decode cX12_seal 128 = .ok (.putfield 313, 3) := by decide +kernel
theorem dX12_seal_131 : decode cX12_seal 131 = .ok (.aload_n 0, 1) := by decide +kernel
theorem dX12_seal_132 : decode cX12_seal 132 = .ok (.getfield 89, 3) := by decide +kernel
theorem dX12_seal_135 : decode cX12_seal 135 = .ok (.iload 7, 2) := by decide +kernel
theorem dX12_seal_137 : decode cX12_seal 137 = .ok (.iload_n 1, 1) := by decide +kernel
theorem dX12_seal_138 : decode cX12_seal 138 = .ok (.iastore, 1) := by decide +kernel
theorem dX12_seal_139 : decode cX12_seal 139 = .ok (.aload_n 0, 1) := by decide +kernel
theorem dX12_seal_140 : decode cX12_seal 140 = .ok (.getfield 92, 3) := by decide +kernel
theorem dX12_seal_143 : decode cX12_seal 143 = .ok (.iload 7, 2) := by decide +kernel
theorem dX12_seal_145 : decode cX12_seal 145 = .ok (.iload_n 2, 1) := by decide +kernel
theorem dX12_seal_146 : decode cX12_seal 146 = .ok (.iastore, 1) := by decide +kernel
theorem dX12_seal_147 : decode cX12_seal 147 = .ok (.aload_n 0, 1) := by decide +kernel
theorem dX12_seal_148 : decode cX12_seal 148 = .ok (.getfield 95, 3) := by decide +kernel
theorem dX12_seal_151 : decode cX12_seal 151 = .ok (.iload 7, 2) := by decide +kernel
theorem dX12_seal_153 : decode cX12_seal 153 = .ok (.iload_n 3, 1) := by decide +kernel
theorem dX12_seal_154 : decode cX12_seal 154 = .ok (.iastore, 1) := by decide +kernel
theorem dX12_seal_155 : decode cX12_seal 155 = .ok (.aload_n 0, 1) := by decide +kernel
theorem dX12_seal_156 : decode cX12_seal 156 = .ok (.getfield 98, 3) := by decide +kernel
theorem dX12_seal_159 : decode cX12_seal 159 = .ok (.iload 7, 2) := by decide +kernel
theorem dX12_seal_161 : decode cX12_seal 161 = .ok (.iload 4, 2) := by decide +kernel
theorem dX12_seal_163 : decode cX12_seal 163 = .ok (.iastore, 1) := by decide +kernel
theorem dX12_seal_164 : decode cX12_seal 164 = .ok (.aload_n 0, 1) := by decide +kernel
theorem dX12_seal_165 : decode cX12_seal 165 = .ok (.getfield 101, 3) := by decide +kernel
theorem dX12_seal_168 : decode cX12_seal 168 = .ok (.iload 7, 2) := by decide +kernel
theorem dX12_seal_170 : decode cX12_seal 170 = .ok (.aload_n 0, 1) := by decide +kernel
theorem dX12_seal_171 : decode cX12_seal 171 = .ok (.getfield 239, 3) := by decide +kernel
theorem dX12_seal_174 : decode cX12_seal 174 = .ok (.iastore, 1) := by decide +kernel
theorem dX12_seal_175 : decode cX12_seal 175 = .ok (.aload_n 0, 1) := by decide +kernel
theorem dX12_seal_176 : decode cX12_seal 176 = .ok (.getfield 104, 3) := by decide +kernel
theorem dX12_seal_179 : decode cX12_seal 179 = .ok (.iload 7, 2) := by decide +kernel
theorem dX12_seal_181 : decode cX12_seal 181 = .ok (.iload 6, 2) := by decide +kernel
theorem dX12_seal_183 : decode cX12_seal 183 = .ok (.iastore, 1) := by decide +kernel
theorem dX12_seal_184 : decode cX12_seal 184 = .ok (.aload_n 0, 1) := by decide +kernel
theorem dX12_seal_185 : decode cX12_seal 185 = .ok (.getfield 107, 3) := by decide +kernel
theorem dX12_seal_188 : decode cX12_seal 188 = .ok (.iload 7, 2) := by decide +kernel
theorem dX12_seal_190 : decode cX12_seal 190 = .ok (.iload 5, 2) := by decide +kernel
theorem dX12_seal_192 : decode cX12_seal 192 = .ok (.iastore, 1) := by decide +kernel
theorem dX12_seal_193 : decode cX12_seal 193 = .ok (.aload_n 0, 1) := by decide +kernel
theorem dX12_seal_194 : decode cX12_seal 194 = .ok (.getfield 110, 3) := by decide +kernel
theorem dX12_seal_197 : decode cX12_seal 197 = .ok (.iload 7, 2) := by decide +kernel
theorem dX12_seal_199 : decode cX12_seal 199 = .ok (.aload_n 0, 1) := by decide +kernel
theorem dX12_seal_200 : decode cX12_seal 200 = .ok (.getfield 67, 3) := by decide +kernel
theorem dX12_seal_203 : decode cX12_seal 203 = .ok (.iload_n 1, 1) := by decide +kernel
theorem dX12_seal_204 : decode cX12_seal 204 = .ok (.iaload, 1) := by decide +kernel
theorem dX12_seal_205 : decode cX12_seal 205 = .ok (.iastore, 1) := by decide +kernel
theorem dX12_seal_206 : decode cX12_seal 206 = .ok (.aload_n 0, 1) := by decide +kernel
theorem dX12_seal_207 : decode cX12_seal 207 = .ok (.getfield 67, 3) := by decide +kernel
theorem dX12_seal_210 : decode cX12_seal 210 = .ok (.iload_n 1, 1) := by decide +kernel
theorem dX12_seal_211 : decode cX12_seal 211 = .ok (.dup2, 1) := by decide +kernel
theorem dX12_seal_212 : decode cX12_seal 212 = .ok (.iaload, 1) := by decide +kernel
theorem dX12_seal_213 : decode cX12_seal 213 = .ok (.iconst 1, 1) := by decide +kernel
theorem dX12_seal_214 : decode cX12_seal 214 = .ok (.iadd, 1) := by decide +kernel
theorem dX12_seal_215 : decode cX12_seal 215 = .ok (.iastore, 1) := by decide +kernel
theorem dX12_seal_216 : decode cX12_seal 216 = .ok (.aload_n 0, 1) := by decide +kernel
theorem dX12_seal_217 : decode cX12_seal 217 = .ok (.getfield 64, 3) := by decide +kernel
theorem dX12_seal_220 : decode cX12_seal 220 = .ok (.iload_n 1, 1) := by decide +kernel
theorem dX12_seal_221 : decode cX12_seal 221 = .ok (.dup2, 1) := by decide +kernel
theorem dX12_seal_222 : decode cX12_seal 222 = .ok (.iaload, 1) := by decide +kernel
theorem dX12_seal_223 : decode cX12_seal 223 = .ok (.iload 6, 2) := by decide +kernel
theorem dX12_seal_225 : decode cX12_seal 225 = .ok (.iadd, 1) := by decide +kernel
theorem dX12_seal_226 : decode cX12_seal 226 = .ok (.iastore, 1) := by decide +kernel
theorem dX12_seal_227 : decode cX12_seal 227 = .ok (.iconst 0, 1) := by decide +kernel
theorem dX12_seal_228 : decode cX12_seal 228 = .ok (.istore 8, 2) := by decide +kernel
theorem dX12_seal_230 : decode cX12_seal 230 = .ok (.iload 8, 2) := by decide +kernel
theorem dX12_seal_232 : decode cX12_seal 232 = .ok (.iconst 5, 1) := by decide +kernel
theorem dX12_seal_233 : decode cX12_seal 233 = .ok (.if_icmp .ge 49, 3) := by decide +kernel
theorem dX12_seal_236 : decode cX12_seal 236 = .ok (.aload_n 0, 1) := by decide +kernel
theorem dX12_seal_237 : decode cX12_seal 237 = .ok (.getfield 113, 3) := by decide +kernel
theorem dX12_seal_240 : decode cX12_seal 240 = .ok (.iconst 5, 1) := by decide +kernel
theorem dX12_seal_241 : decode cX12_seal 241 = .ok (.iload 7, 2) := by decide +kernel
theorem dX12_seal_243 : decode cX12_seal 243 = .ok (.imul, 1) := by decide +kernel
theorem dX12_seal_244 : decode cX12_seal 244 = .ok (.iload 8, 2) := by decide +kernel
theorem dX12_seal_246 : decode cX12_seal 246 = .ok (.iadd, 1) := by decide +kernel
theorem dX12_seal_247 : decode cX12_seal 247 = .ok (.aload_n 0, 1) := by decide +kernel
theorem dX12_seal_248 : decode cX12_seal 248 = .ok (.getfield 120, 3) := by decide +kernel
theorem dX12_seal_251 : decode cX12_seal 251 = .ok (.iload 8, 2) := by decide +kernel
theorem dX12_seal_253 : decode cX12_seal 253 = .ok (.iaload, 1) := by decide +kernel
theorem dX12_seal_254 : decode cX12_seal 254 = .ok (.iastore, 1) := by decide +kernel
theorem dX12_seal_255 : decode cX12_seal 255 = .ok (.aload_n 0, 1) := by decide +kernel
theorem dX12_seal_256 : decode cX12_seal 256 = .ok (.getfield 73, 3) := by decide +kernel
theorem dX12_seal_259 : decode cX12_seal 259 = .ok (.iconst 5, 1) := by decide +kernel
theorem dX12_seal_260 : decode cX12_seal 260 = .ok (.iload_n 1, 1) := by decide +kernel
theorem dX12_seal_261 : decode cX12_seal 261 = .ok (.imul, 1) := by decide +kernel
theorem dX12_seal_262 : decode cX12_seal 262 = .ok (.iload 8, 2) := by decide +kernel
theorem dX12_seal_264 : decode cX12_seal 264 = .ok (.iadd, 1) := by decide +kernel
theorem dX12_seal_265 : decode cX12_seal 265 = .ok (.dup2, 1) := by decide +kernel
theorem dX12_seal_266 : decode cX12_seal 266 = .ok (.iaload, 1) := by decide +kernel
theorem dX12_seal_267 : decode cX12_seal 267 = .ok (.aload_n 0, 1) := by decide +kernel
theorem dX12_seal_268 : decode cX12_seal 268 = .ok (.getfield 120, 3) := by decide +kernel
theorem dX12_seal_271 : decode cX12_seal 271 = .ok (.iload 8, 2) := by decide +kernel
theorem dX12_seal_273 : decode cX12_seal 273 = .ok (.iaload, 1) := by decide +kernel
theorem dX12_seal_274 : decode cX12_seal 274 = .ok (.isub, 1) := by decide +kernel
theorem dX12_seal_275 : decode cX12_seal 275 = .ok (.iastore, 1) := by decide +kernel
theorem dX12_seal_276 : decode cX12_seal 276 = .ok (.iinc 8 1, 3) := by decide +kernel
theorem dX12_seal_279 : decode cX12_seal 279 = .ok (.goto (-49), 3) := by decide +kernel
theorem dX12_seal_282 : decode cX12_seal 282 = .ok (.aload_n 0, 1) := by decide +kernel
theorem dX12_seal_283 : decode cX12_seal 283 = .ok (.iload 7, 2) := by decide +kernel
theorem dX12_seal_285 : decode cX12_seal 285 = .ok (.invokevirtual 246, 3) := by decide +kernel
theorem dX12_seal_288 : decode cX12_seal 288 = .ok (.ireturn, 1) := by decide +kernel
theorem dX12_homeOf_0 : decode cX12_homeOf 0 = .ok (.aload_n 0, 1) := by decide +kernel
theorem dX12_homeOf_1 : decode cX12_homeOf 1 = .ok (.getfield 101, 3) := by decide +kernel
theorem dX12_homeOf_4 : decode cX12_homeOf 4 = .ok (.iload_n 1, 1) := by decide +kernel
theorem dX12_homeOf_5 : decode cX12_homeOf 5 = .ok (.iaload, 1) := by decide +kernel
theorem dX12_homeOf_6 : decode cX12_homeOf 6 = .ok (.bipush 29, 2) := by decide +kernel
theorem dX12_homeOf_8 : decode cX12_homeOf 8 = .ok (.iadd, 1) := by decide +kernel
theorem dX12_homeOf_9 : decode cX12_homeOf 9 = .ok (.bipush 30, 2) := by decide +kernel
theorem dX12_homeOf_11 : decode cX12_homeOf 11 = .ok (.idiv, 1) := by decide +kernel
theorem dX12_homeOf_12 : decode cX12_homeOf 12 = .ok (.bipush 30, 2) := by decide +kernel
theorem dX12_homeOf_14 : decode cX12_homeOf 14 = .ok (.imul, 1) := by decide +kernel
theorem dX12_homeOf_15 : decode cX12_homeOf 15 = .ok (.aload_n 0, 1) := by decide +kernel
theorem dX12_homeOf_16 : decode cX12_homeOf 16 = .ok (.getfield 58, 3) := by decide +kernel
theorem dX12_homeOf_19 : decode cX12_homeOf 19 = .ok (.aload_n 0, 1) := by decide +kernel
theorem dX12_homeOf_20 : decode cX12_homeOf 20 = .ok (.getfield 89, 3) := by decide +kernel
theorem dX12_homeOf_23 : decode cX12_homeOf 23 = .ok (.iload_n 1, 1) := by decide +kernel
theorem dX12_homeOf_24 : decode cX12_homeOf 24 = .ok (.iaload, 1) := by decide +kernel
theorem dX12_homeOf_25 : decode cX12_homeOf 25 = .ok (.iaload, 1) := by decide +kernel
theorem dX12_homeOf_26 : decode cX12_homeOf 26 = .ok (.iadd, 1) := by decide +kernel
theorem dX12_homeOf_27 : decode cX12_homeOf 27 = .ok (.ireturn, 1) := by decide +kernel
theorem dX12_paper_0 : decode cX12_paper 0 = .ok (.aload_n 0, 1) := by decide +kernel
theorem dX12_paper_1 : decode cX12_paper 1 = .ok (.iconst 0, 1) := by decide +kernel
theorem dX12_paper_2 : decode cX12_paper 2 = .ok (.putfield 123, 3) := by decide +kernel
theorem dX12_paper_5 : decode cX12_paper 5 = .ok (.iload_n 1, 1) := by decide +kernel
theorem dX12_paper_6 : decode cX12_paper 6 = .ok (.ifCond .lt 11, 3) := by decide +kernel
theorem dX12_paper_9 : decode cX12_paper 9 = .ok (.iload_n 1, 1) := by decide +kernel
theorem dX12_paper_10 : decode cX12_paper 10 = .ok (.aload_n 0, 1) := by decide +kernel
theorem dX12_paper_11 : decode cX12_paper 11 = .ok (.getfield 313, 3) := by decide +kernel
theorem dX12_paper_14 : decode cX12_paper 14 = .ok (.if_icmp .lt 5, 3) := by decide +kernel
theorem dX12_paper_17 : decode cX12_paper 17 = .ok (.iconst (-1), 1) := by decide +kernel
theorem dX12_paper_18 : decode cX12_paper 18 = .ok (.ireturn, 1) := by decide +kernel
theorem dX12_paper_19 : decode cX12_paper 19 = .ok (.iload_n 2, 1) := by decide +kernel
theorem dX12_paper_20 : decode cX12_paper 20 = .ok (.tableswitch 157 0 8 #[52, 59, 66, 73, 80, 87, 94, 101, 134], 52) := by decide +kernel
theorem dX12_paper_72 : decode cX12_paper 72 = .ok (.aload_n 0, 1) := by decide +kernel
theorem dX12_paper_73 : decode cX12_paper 73 = .ok (.getfield 89, 3) := by decide +kernel
theorem dX12_paper_76 : decode cX12_paper 76 = .ok (.iload_n 1, 1) := by decide +kernel
theorem dX12_paper_77 : decode cX12_paper 77 = .ok (.iaload, 1) := by decide +kernel
theorem dX12_paper_78 : decode cX12_paper 78 = .ok (.ireturn, 1) := by decide +kernel
theorem dX12_paper_79 : decode cX12_paper 79 = .ok (.aload_n 0, 1) := by decide +kernel
theorem dX12_paper_80 : decode cX12_paper 80 = .ok (.getfield 92, 3) := by decide +kernel
theorem dX12_paper_83 : decode cX12_paper 83 = .ok (.iload_n 1, 1) := by decide +kernel
theorem dX12_paper_84 : decode cX12_paper 84 = .ok (.iaload, 1) := by decide +kernel
theorem dX12_paper_85 : decode cX12_paper 85 = .ok (.ireturn, 1) := by decide +kernel
theorem dX12_paper_86 : decode cX12_paper 86 = .ok (.aload_n 0, 1) := by decide +kernel
theorem dX12_paper_87 : decode cX12_paper 87 = .ok (.getfield 95, 3) := by decide +kernel
theorem dX12_paper_90 : decode cX12_paper 90 = .ok (.iload_n 1, 1) := by decide +kernel
theorem dX12_paper_91 : decode cX12_paper 91 = .ok (.iaload, 1) := by decide +kernel
theorem dX12_paper_92 : decode cX12_paper 92 = .ok (.ireturn, 1) := by decide +kernel
theorem dX12_paper_93 : decode cX12_paper 93 = .ok (.aload_n 0, 1) := by decide +kernel
theorem dX12_paper_94 : decode cX12_paper 94 = .ok (.getfield 98, 3) := by decide +kernel
theorem dX12_paper_97 : decode cX12_paper 97 = .ok (.iload_n 1, 1) := by decide +kernel
theorem dX12_paper_98 : decode cX12_paper 98 = .ok (.iaload, 1) := by decide +kernel
theorem dX12_paper_99 : decode cX12_paper 99 = .ok (.ireturn, 1) := by decide +kernel
theorem dX12_paper_100 : decode cX12_paper 100 = .ok (.aload_n 0, 1) := by decide +kernel
theorem dX12_paper_101 : decode cX12_paper 101 = .ok (.getfield 101, 3) := by decide +kernel
theorem dX12_paper_104 : decode cX12_paper 104 = .ok (.iload_n 1, 1) := by decide +kernel
theorem dX12_paper_105 : decode cX12_paper 105 = .ok (.iaload, 1) := by decide +kernel
theorem dX12_paper_106 : decode cX12_paper 106 = .ok (.ireturn, 1) := by decide +kernel
theorem dX12_paper_107 : decode cX12_paper 107 = .ok (.aload_n 0, 1) := by decide +kernel
theorem dX12_paper_108 : decode cX12_paper 108 = .ok (.getfield 104, 3) := by decide +kernel
theorem dX12_paper_111 : decode cX12_paper 111 = .ok (.iload_n 1, 1) := by decide +kernel
theorem dX12_paper_112 : decode cX12_paper 112 = .ok (.iaload, 1) := by decide +kernel
theorem dX12_paper_113 : decode cX12_paper 113 = .ok (.ireturn, 1) := by decide +kernel
theorem dX12_paper_114 : decode cX12_paper 114 = .ok (.aload_n 0, 1) := by decide +kernel
theorem dX12_paper_115 : decode cX12_paper 115 = .ok (.getfield 107, 3) := by decide +kernel
theorem dX12_paper_118 : decode cX12_paper 118 = .ok (.iload_n 1, 1) := by decide +kernel
theorem dX12_paper_119 : decode cX12_paper 119 = .ok (.iaload, 1) := by decide +kernel
theorem dX12_paper_120 : decode cX12_paper 120 = .ok (.ireturn, 1) := by decide +kernel
theorem dX12_paper_121 : decode cX12_paper 121 = .ok (.iconst 0, 1) := by decide +kernel
theorem dX12_paper_122 : decode cX12_paper 122 = .ok (.istore_n 3, 1) := by decide +kernel
theorem dX12_paper_123 : decode cX12_paper 123 = .ok (.iconst 0, 1) := by decide +kernel
theorem dX12_paper_124 : decode cX12_paper 124 = .ok (.istore 4, 2) := by decide +kernel
theorem dX12_paper_126 : decode cX12_paper 126 = .ok (.iload 4, 2) := by decide +kernel
theorem dX12_paper_128 : decode cX12_paper 128 = .ok (.iconst 5, 1) := by decide +kernel
theorem dX12_paper_129 : decode cX12_paper 129 = .ok (.if_icmp .ge 23, 3) := by decide +kernel
theorem dX12_paper_132 : decode cX12_paper 132 = .ok (.iload_n 3, 1) := by decide +kernel
theorem dX12_paper_133 : decode cX12_paper 133 = .ok (.aload_n 0, 1) := by decide +kernel
theorem dX12_paper_134 : decode cX12_paper 134 = .ok (.getfield 113, 3) := by decide +kernel
theorem dX12_paper_137 : decode cX12_paper 137 = .ok (.iconst 5, 1) := by decide +kernel
theorem dX12_paper_138 : decode cX12_paper 138 = .ok (.iload_n 1, 1) := by decide +kernel
theorem dX12_paper_139 : decode cX12_paper 139 = .ok (.imul, 1) := by decide +kernel
theorem dX12_paper_140 : decode cX12_paper 140 = .ok (.iload 4, 2) := by decide +kernel
theorem dX12_paper_142 : decode cX12_paper 142 = .ok (.iadd, 1) := by decide +kernel
theorem dX12_paper_143 : decode cX12_paper 143 = .ok (.iaload, 1) := by decide +kernel
theorem dX12_paper_144 : decode cX12_paper 144 = .ok (.iadd, 1) := by decide +kernel
theorem dX12_paper_145 : decode cX12_paper 145 = .ok (.istore_n 3, 1) := by decide +kernel
theorem dX12_paper_146 : decode cX12_paper 146 = .ok (.iinc 4 1, 3) := by decide +kernel
theorem dX12_paper_149 : decode cX12_paper 149 = .ok (.goto (-23), 3) := by decide +kernel
theorem dX12_paper_152 : decode cX12_paper 152 = .ok (.iload_n 3, 1) := by decide +kernel
theorem dX12_paper_153 : decode cX12_paper 153 = .ok (.ireturn, 1) := by decide +kernel
theorem dX12_paper_154 : decode cX12_paper 154 = .ok (.aload_n 0, 1) := by decide +kernel
theorem dX12_paper_155 : decode cX12_paper 155 = .ok (.iload_n 1, 1) := by decide +kernel
theorem dX12_paper_156 : decode cX12_paper 156 = .ok (.invokevirtual 316, 3) := by decide +kernel
theorem dX12_paper_159 : decode cX12_paper 159 = .ok (.aload_n 0, 1) := by decide +kernel
theorem dX12_paper_160 : decode cX12_paper 160 = .ok (.getfield 239, 3) := by decide +kernel
theorem dX12_paper_163 : decode cX12_paper 163 = .ok (.if_icmp .gt 11, 3) := by decide +kernel
theorem dX12_paper_166 : decode cX12_paper 166 = .ok (.aload_n 0, 1) := by decide +kernel
theorem dX12_paper_167 : decode cX12_paper 167 = .ok (.iload_n 1, 1) := by decide +kernel
theorem dX12_paper_168 : decode cX12_paper 168 = .ok (.invokevirtual 316, 3) := by decide +kernel
theorem dX12_paper_171 : decode cX12_paper 171 = .ok (.goto 5, 3) := by decide +kernel
theorem dX12_paper_174 : decode cX12_paper 174 = .ok (.bipush (-2), 2) := by decide +kernel
theorem dX12_paper_176 : decode cX12_paper 176 = .ok (.ireturn, 1) := by decide +kernel
theorem dX12_paper_177 : decode cX12_paper 177 = .ok (.iconst (-1), 1) := by decide +kernel
theorem dX12_paper_178 : decode cX12_paper 178 = .ok (.ireturn, 1) := by decide +kernel
theorem dX12_stamps_0 : decode cX12_stamps 0 = .ok (.aload_n 0, 1) := by decide +kernel
theorem dX12_stamps_1 : decode cX12_stamps 1 = .ok (.iconst 0, 1) := by decide +kernel
theorem dX12_stamps_2 : decode cX12_stamps 2 = .ok (.putfield 123, 3) := by decide +kernel
theorem dX12_stamps_5 : decode cX12_stamps 5 = .ok (.iload_n 1, 1) := by decide +kernel
theorem dX12_stamps_6 : decode cX12_stamps 6 = .ok (.ifCond .lt 33, 3) := by decide +kernel
theorem dX12_stamps_9 : decode cX12_stamps 9 = .ok (.iload_n 1, 1) := by decide +kernel
theorem dX12_stamps_10 : decode cX12_stamps 10 = .ok (.aload_n 0, 1) := by decide +kernel
theorem dX12_stamps_11 : decode cX12_stamps 11 = .ok (.getfield 313, 3) := by decide +kernel
theorem dX12_stamps_14 : decode cX12_stamps 14 = .ok (.if_icmp .ge 25, 3) := by decide +kernel
theorem dX12_stamps_17 : decode cX12_stamps 17 = .ok (.iload_n 2, 1) := by decide +kernel
theorem dX12_stamps_18 : decode cX12_stamps 18 = .ok (.iconst 0, 1) := by decide +kernel
theorem dX12_stamps_19 : decode cX12_stamps 19 = .ok (.iconst 4, 1) := by decide +kernel
theorem dX12_stamps_20 : decode cX12_stamps 20 = .ok (.invokestatic 229, 3) := by decide +kernel
theorem dX12_stamps_23 : decode cX12_stamps 23 = .ok (.ifCond .eq 16, 3) := by decide +kernel
theorem dX12_stamps_26 : decode cX12_stamps 26 = .ok (.aload_n 0, 1) := by decide +kernel
theorem dX12_stamps_27 : decode cX12_stamps 27 = .ok (.getfield 113, 3) := by decide +kernel
theorem dX12_stamps_30 : decode cX12_stamps 30 = .ok (.iconst 5, 1) := by decide +kernel
theorem dX12_stamps_31 : decode cX12_stamps 31 = .ok (.iload_n 1, 1) := by decide +kernel
theorem dX12_stamps_32 : decode cX12_stamps 32 = .ok (.imul, 1) := by decide +kernel
theorem dX12_stamps_33 : decode cX12_stamps 33 = .ok (.iload_n 2, 1) := by decide +kernel
theorem dX12_stamps_34 : decode cX12_stamps 34 = .ok (.iadd, 1) := by decide +kernel
theorem dX12_stamps_35 : decode cX12_stamps 35 = .ok (.iaload, 1) := by decide +kernel
theorem dX12_stamps_36 : decode cX12_stamps 36 = .ok (.goto 4, 3) := by decide +kernel
theorem dX12_stamps_39 : decode cX12_stamps 39 = .ok (.iconst (-1), 1) := by decide +kernel
theorem dX12_stamps_40 : decode cX12_stamps 40 = .ok (.ireturn, 1) := by decide +kernel
theorem dX12_about_0 : decode cX12_about 0 = .ok (.aload_n 0, 1) := by decide +kernel
theorem dX12_about_1 : decode cX12_about 1 = .ok (.iconst 0, 1) := by decide +kernel
theorem dX12_about_2 : decode cX12_about 2 = .ok (.putfield 123, 3) := by decide +kernel
theorem dX12_about_5 : decode cX12_about 5 = .ok (.aload_n 0, 1) := by decide +kernel
theorem dX12_about_6 : decode cX12_about 6 = .ok (.iload_n 1, 1) := by decide +kernel
theorem dX12_about_7 : decode cX12_about 7 = .ok (.invokevirtual 262, 3) := by decide +kernel
theorem dX12_about_10 : decode cX12_about 10 = .ok (.ifCond .ne 5, 3) := by decide +kernel
theorem dX12_about_13 : decode cX12_about 13 = .ok (.iconst (-1), 1) := by decide +kernel
theorem dX12_about_14 : decode cX12_about 14 = .ok (.ireturn, 1) := by decide +kernel
theorem dX12_about_15 : decode cX12_about 15 = .ok (.iload_n 2, 1) := by decide +kernel
theorem dX12_about_16 : decode cX12_about 16 = .ok (.tableswitch 93 0 8 #[52, 59, 66, 73, 80, 80, 80, 80, 80], 52) := by decide +kernel
theorem dX12_about_68 : decode cX12_about 68 = .ok (.aload_n 0, 1) := by decide +kernel
theorem dX12_about_69 : decode cX12_about 69 = .ok (.getfield 58, 3) := by decide +kernel
theorem dX12_about_72 : decode cX12_about 72 = .ok (.iload_n 1, 1) := by decide +kernel
theorem dX12_about_73 : decode cX12_about 73 = .ok (.iaload, 1) := by decide +kernel
theorem dX12_about_74 : decode cX12_about 74 = .ok (.ireturn, 1) := by decide +kernel
theorem dX12_about_75 : decode cX12_about 75 = .ok (.aload_n 0, 1) := by decide +kernel
theorem dX12_about_76 : decode cX12_about 76 = .ok (.getfield 64, 3) := by decide +kernel
theorem dX12_about_79 : decode cX12_about 79 = .ok (.iload_n 1, 1) := by decide +kernel
theorem dX12_about_80 : decode cX12_about 80 = .ok (.iaload, 1) := by decide +kernel
theorem dX12_about_81 : decode cX12_about 81 = .ok (.ireturn, 1) := by decide +kernel
theorem dX12_about_82 : decode cX12_about 82 = .ok (.aload_n 0, 1) := by decide +kernel
theorem dX12_about_83 : decode cX12_about 83 = .ok (.getfield 67, 3) := by decide +kernel
theorem dX12_about_86 : decode cX12_about 86 = .ok (.iload_n 1, 1) := by decide +kernel
theorem dX12_about_87 : decode cX12_about 87 = .ok (.iaload, 1) := by decide +kernel
theorem dX12_about_88 : decode cX12_about 88 = .ok (.ireturn, 1) := by decide +kernel
theorem dX12_about_89 : decode cX12_about 89 = .ok (.aload_n 0, 1) := by decide +kernel
theorem dX12_about_90 : decode cX12_about 90 = .ok (.getfield 70, 3) := by decide +kernel
theorem dX12_about_93 : decode cX12_about 93 = .ok (.iload_n 1, 1) := by decide +kernel
theorem dX12_about_94 : decode cX12_about 94 = .ok (.iaload, 1) := by decide +kernel
theorem dX12_about_95 : decode cX12_about 95 = .ok (.ireturn, 1) := by decide +kernel
theorem dX12_about_96 : decode cX12_about 96 = .ok (.aload_n 0, 1) := by decide +kernel
theorem dX12_about_97 : decode cX12_about 97 = .ok (.getfield 73, 3) := by decide +kernel
theorem dX12_about_100 : decode cX12_about 100 = .ok (.iconst 5, 1) := by decide +kernel
theorem dX12_about_101 : decode cX12_about 101 = .ok (.iload_n 1, 1) := by decide +kernel
theorem dX12_about_102 : decode cX12_about 102 = .ok (.imul, 1) := by decide +kernel
theorem dX12_about_103 : decode cX12_about 103 = .ok (.iload_n 2, 1) := by decide +kernel
theorem dX12_about_104 : decode cX12_about 104 = .ok (.iadd, 1) := by decide +kernel
theorem dX12_about_105 : decode cX12_about 105 = .ok (.iconst 4, 1) := by decide +kernel
theorem dX12_about_106 : decode cX12_about 106 = .ok (.isub, 1) := by decide +kernel
theorem dX12_about_107 : decode cX12_about 107 = .ok (.iaload, 1) := by decide +kernel
theorem dX12_about_108 : decode cX12_about 108 = .ok (.ireturn, 1) := by decide +kernel
theorem dX12_about_109 : decode cX12_about 109 = .ok (.iconst (-1), 1) := by decide +kernel
theorem dX12_about_110 : decode cX12_about 110 = .ok (.ireturn, 1) := by decide +kernel
theorem dX12_known_0 : decode cX12_known 0 = .ok (.aload_n 0, 1) := by decide +kernel
theorem dX12_known_1 : decode cX12_known 1 = .ok (.iconst 0, 1) := by decide +kernel
theorem dX12_known_2 : decode cX12_known 2 = .ok (.putfield 123, 3) := by decide +kernel
theorem dX12_known_5 : decode cX12_known 5 = .ok (.aload_n 0, 1) := by decide +kernel
theorem dX12_known_6 : decode cX12_known 6 = .ok (.iload_n 1, 1) := by decide +kernel
theorem dX12_known_7 : decode cX12_known 7 = .ok (.invokevirtual 262, 3) := by decide +kernel
theorem dX12_known_10 : decode cX12_known 10 = .ok (.ifCond .eq 15, 3) := by decide +kernel
theorem dX12_known_13 : decode cX12_known 13 = .ok (.iload_n 2, 1) := by decide +kernel
theorem dX12_known_14 : decode cX12_known 14 = .ok (.ifCond .lt 11, 3) := by decide +kernel
theorem dX12_known_17 : decode cX12_known 17 = .ok (.iload_n 2, 1) := by decide +kernel
theorem dX12_known_18 : decode cX12_known 18 = .ok (.aload_n 0, 1) := by decide +kernel
theorem dX12_known_19 : decode cX12_known 19 = .ok (.getfield 239, 3) := by decide +kernel
theorem dX12_known_22 : decode cX12_known 22 = .ok (.if_icmp .le 5, 3) := by decide +kernel
theorem dX12_known_25 : decode cX12_known 25 = .ok (.iconst (-1), 1) := by decide +kernel
theorem dX12_known_26 : decode cX12_known 26 = .ok (.ireturn, 1) := by decide +kernel
theorem dX12_known_27 : decode cX12_known 27 = .ok (.iconst 0, 1) := by decide +kernel
theorem dX12_known_28 : decode cX12_known 28 = .ok (.istore_n 3, 1) := by decide +kernel
theorem dX12_known_29 : decode cX12_known 29 = .ok (.iconst 0, 1) := by decide +kernel
theorem dX12_known_30 : decode cX12_known 30 = .ok (.istore 4, 2) := by decide +kernel
theorem dX12_known_32 : decode cX12_known 32 = .ok (.iload 4, 2) := by decide +kernel
theorem dX12_known_34 : decode cX12_known 34 = .ok (.aload_n 0, 1) := by decide +kernel
theorem dX12_known_35 : decode cX12_known 35 = .ok (.getfield 313, 3) := by decide +kernel
theorem dX12_known_38 : decode cX12_known 38 = .ok (.if_icmp .ge 38, 3) := by decide +kernel
theorem dX12_known_41 : decode cX12_known 41 = .ok (.iload_n 3, 1) := by decide +kernel
theorem dX12_known_42 : decode cX12_known 42 = .ok (.aload_n 0, 1) := by decide +kernel
theorem dX12_known_43 : decode cX12_known 43 = .ok (.getfield 89, 3) := by decide +kernel
theorem dX12_known_46 : decode cX12_known 46 = .ok (.iload 4, 2) := by decide +kernel
theorem dX12_known_48 : decode cX12_known 48 = .ok (.iaload, 1) := by decide +kernel
theorem dX12_known_49 : decode cX12_known 49 = .ok (.iload_n 1, 1) := by decide +kernel
theorem dX12_known_50 : decode cX12_known 50 = .ok (.if_icmp .ne 17, 3) := by decide +kernel
theorem dX12_known_53 : decode cX12_known 53 = .ok (.aload_n 0, 1) := by decide +kernel
theorem dX12_known_54 : decode cX12_known 54 = .ok (.iload 4, 2) := by decide +kernel
theorem dX12_known_56 : decode cX12_known 56 = .ok (.invokevirtual 316, 3) := by decide +kernel
theorem dX12_known_59 : decode cX12_known 59 = .ok (.iload_n 2, 1) := by decide +kernel
theorem dX12_known_60 : decode cX12_known 60 = .ok (.if_icmp .gt 7, 3) := by decide +kernel
theorem dX12_known_63 : decode cX12_known 63 = .ok (.iconst 1, 1) := by decide +kernel
theorem dX12_known_64 : decode cX12_known 64 = .ok (.goto 4, 3) := by decide +kernel
theorem dX12_known_67 : decode cX12_known 67 = .ok (.iconst 0, 1) := by decide +kernel
theorem dX12_known_68 : decode cX12_known 68 = .ok (.iadd, 1) := by decide +kernel
theorem dX12_known_69 : decode cX12_known 69 = .ok (.istore_n 3, 1) := by decide +kernel
theorem dX12_known_70 : decode cX12_known 70 = .ok (.iinc 4 1, 3) := by decide +kernel
theorem dX12_known_73 : decode cX12_known 73 = .ok (.goto (-41), 3) := by decide +kernel
theorem dX12_known_76 : decode cX12_known 76 = .ok (.iload_n 3, 1) := by decide +kernel
theorem dX12_known_77 : decode cX12_known 77 = .ok (.ireturn, 1) := by decide +kernel
theorem dX12_sum_0 : decode cX12_sum 0 = .ok (.aload_n 0, 1) := by decide +kernel
theorem dX12_sum_1 : decode cX12_sum 1 = .ok (.iconst 0, 1) := by decide +kernel
theorem dX12_sum_2 : decode cX12_sum 2 = .ok (.putfield 123, 3) := by decide +kernel
theorem dX12_sum_5 : decode cX12_sum 5 = .ok (.aload_n 0, 1) := by decide +kernel
theorem dX12_sum_6 : decode cX12_sum 6 = .ok (.iload_n 1, 1) := by decide +kernel
theorem dX12_sum_7 : decode cX12_sum 7 = .ok (.invokevirtual 262, 3) := by decide +kernel
theorem dX12_sum_10 : decode cX12_sum 10 = .ok (.ifCond .eq 15, 3) := by decide +kernel
theorem dX12_sum_13 : decode cX12_sum 13 = .ok (.iload_n 2, 1) := by decide +kernel
theorem dX12_sum_14 : decode cX12_sum 14 = .ok (.ifCond .lt 11, 3) := by decide +kernel
theorem dX12_sum_17 : decode cX12_sum 17 = .ok (.iload_n 2, 1) := by decide +kernel
theorem dX12_sum_18 : decode cX12_sum 18 = .ok (.aload_n 0, 1) := by decide +kernel
theorem dX12_sum_19 : decode cX12_sum 19 = .ok (.getfield 239, 3) := by decide +kernel
theorem dX12_sum_22 : decode cX12_sum 22 = .ok (.if_icmp .le 5, 3) := by decide +kernel
theorem dX12_sum_25 : decode cX12_sum 25 = .ok (.iconst (-1), 1) := by decide +kernel
theorem dX12_sum_26 : decode cX12_sum 26 = .ok (.ireturn, 1) := by decide +kernel
theorem dX12_sum_27 : decode cX12_sum 27 = .ok (.iconst 0, 1) := by decide +kernel
theorem dX12_sum_28 : decode cX12_sum 28 = .ok (.istore_n 3, 1) := by decide +kernel
theorem dX12_sum_29 : decode cX12_sum 29 = .ok (.iconst 0, 1) := by decide +kernel
theorem dX12_sum_30 : decode cX12_sum 30 = .ok (.istore 4, 2) := by decide +kernel
theorem dX12_sum_32 : decode cX12_sum 32 = .ok (.iload 4, 2) := by decide +kernel
theorem dX12_sum_34 : decode cX12_sum 34 = .ok (.aload_n 0, 1) := by decide +kernel
theorem dX12_sum_35 : decode cX12_sum 35 = .ok (.getfield 313, 3) := by decide +kernel
theorem dX12_sum_38 : decode cX12_sum 38 = .ok (.if_icmp .ge 44, 3) := by decide +kernel
theorem dX12_sum_41 : decode cX12_sum 41 = .ok (.iload_n 3, 1) := by decide +kernel
theorem dX12_sum_42 : decode cX12_sum 42 = .ok (.aload_n 0, 1) := by decide +kernel
theorem dX12_sum_43 : decode cX12_sum 43 = .ok (.getfield 89, 3) := by decide +kernel
theorem dX12_sum_46 : decode cX12_sum 46 = .ok (.iload 4, 2) := by decide +kernel
theorem dX12_sum_48 : decode cX12_sum 48 = .ok (.iaload, 1) := by decide +kernel
theorem dX12_sum_49 : decode cX12_sum 49 = .ok (.iload_n 1, 1) := by decide +kernel
theorem dX12_sum_50 : decode cX12_sum 50 = .ok (.if_icmp .ne 23, 3) := by decide +kernel
theorem dX12_sum_53 : decode cX12_sum 53 = .ok (.aload_n 0, 1) := by decide +kernel
theorem dX12_sum_54 : decode cX12_sum 54 = .ok (.iload 4, 2) := by decide +kernel
theorem dX12_sum_56 : decode cX12_sum 56 = .ok (.invokevirtual 316, 3) := by decide +kernel
theorem dX12_sum_59 : decode cX12_sum 59 = .ok (.iload_n 2, 1) := by decide +kernel
theorem dX12_sum_60 : decode cX12_sum 60 = .ok (.if_icmp .gt 13, 3) := by decide +kernel
theorem dX12_sum_63 : decode cX12_sum 63 = .ok (.aload_n 0, 1) := by decide +kernel
theorem dX12_sum_64 : decode cX12_sum 64 = .ok (.getfield 104, 3) := by decide +kernel
theorem dX12_sum_67 : decode cX12_sum 67 = .ok (.iload 4, 2) := by decide +kernel
theorem dX12_sum_69 : decode cX12_sum 69 = .ok (.iaload, 1) := by decide +kernel
theorem dX12_sum_70 : decode cX12_sum 70 = .ok (.goto 4, 3) := by decide +kernel
theorem dX12_sum_73 : decode cX12_sum 73 = .ok (.iconst 0, 1) := by decide +kernel
theorem dX12_sum_74 : decode cX12_sum 74 = .ok (.iadd, 1) := by decide +kernel
theorem dX12_sum_75 : decode cX12_sum 75 = .ok (.istore_n 3, 1) := by decide +kernel
theorem dX12_sum_76 : decode cX12_sum 76 = .ok (.iinc 4 1, 3) := by decide +kernel
theorem dX12_sum_79 : decode cX12_sum 79 = .ok (.goto (-47), 3) := by decide +kernel
theorem dX12_sum_82 : decode cX12_sum 82 = .ok (.iload_n 3, 1) := by decide +kernel
theorem dX12_sum_83 : decode cX12_sum 83 = .ok (.ireturn, 1) := by decide +kernel
theorem dX12_homesFee_0 : decode cX12_homesFee 0 = .ok (.aload_n 0, 1) := by decide +kernel
theorem dX12_homesFee_1 : decode cX12_homesFee 1 = .ok (.getfield 201, 3) := by decide +kernel
theorem dX12_homesFee_4 : decode cX12_homesFee 4 = .ok (.iconst 1, 1) := by decide +kernel
theorem dX12_homesFee_5 : decode cX12_homesFee 5 = .ok (.isub, 1) := by decide +kernel
theorem dX12_homesFee_6 : decode cX12_homesFee 6 = .ok (.istore_n 2, 1) := by decide +kernel
theorem dX12_homesFee_7 : decode cX12_homesFee 7 = .ok (.iload_n 2, 1) := by decide +kernel
theorem dX12_homesFee_8 : decode cX12_homesFee 8 = .ok (.ifCond .lt 24, 3) := by decide +kernel
theorem dX12_homesFee_11 : decode cX12_homesFee 11 = .ok (.aload_n 0, 1) := by decide +kernel
theorem dX12_homesFee_12 : decode cX12_homesFee 12 = .ok (.getfield 24, 3) := by decide +kernel
theorem dX12_homesFee_15 : decode cX12_homesFee 15 = .ok (.iload_n 2, 1) := by decide +kernel
theorem dX12_homesFee_16 : decode cX12_homesFee 16 = .ok (.iaload, 1) := by decide +kernel
theorem dX12_homesFee_17 : decode cX12_homesFee 17 = .ok (.aload_n 0, 1) := by decide +kernel
theorem dX12_homesFee_18 : decode cX12_homesFee 18 = .ok (.getfield 101, 3) := by decide +kernel
theorem dX12_homesFee_21 : decode cX12_homesFee 21 = .ok (.iload_n 1, 1) := by decide +kernel
theorem dX12_homesFee_22 : decode cX12_homesFee 22 = .ok (.iaload, 1) := by decide +kernel
theorem dX12_homesFee_23 : decode cX12_homesFee 23 = .ok (.if_icmp .le 9, 3) := by decide +kernel
theorem dX12_homesFee_26 : decode cX12_homesFee 26 = .ok (.iinc 2 (-1), 3) := by decide +kernel
theorem dX12_homesFee_29 : decode cX12_homesFee 29 = .ok (.goto (-22), 3) := by decide +kernel
theorem dX12_homesFee_32 : decode cX12_homesFee 32 = .ok (.iload_n 2, 1) := by decide +kernel
theorem dX12_homesFee_33 : decode cX12_homesFee 33 = .ok (.ifCond .ge 7, 3) := by decide +kernel
theorem dX12_homesFee_36 : decode cX12_homesFee 36 = .ok (.iconst (-1), 1) := by decide +kernel
theorem dX12_homesFee_37 : decode cX12_homesFee 37 = .ok (.goto 38, 3) := by decide +kernel
theorem dX12_homesFee_40 : decode cX12_homesFee 40 = .ok (.aload_n 0, 1) := by decide +kernel
theorem dX12_homesFee_41 : decode cX12_homesFee 41 = .ok (.iload_n 2, 1) := by decide +kernel
theorem dX12_homesFee_42 : decode cX12_homesFee 42 = .ok (.aload_n 0, 1) := by decide +kernel
theorem dX12_homesFee_43 : decode cX12_homesFee 43 = .ok (.getfield 92, 3) := by decide +kernel
theorem dX12_homesFee_46 : decode cX12_homesFee 46 = .ok (.iload_n 1, 1) := by decide +kernel
theorem dX12_homesFee_47 : decode cX12_homesFee 47 = .ok (.iaload, 1) := by decide +kernel
theorem dX12_homesFee_48 : decode cX12_homesFee 48 = .ok (.aload_n 0, 1) := by decide +kernel
theorem dX12_homesFee_49 : decode cX12_homesFee 49 = .ok (.getfield 95, 3) := by decide +kernel
theorem dX12_homesFee_52 : decode cX12_homesFee 52 = .ok (.iload_n 1, 1) := by decide +kernel
theorem dX12_homesFee_53 : decode cX12_homesFee 53 = .ok (.iaload, 1) := by decide +kernel
theorem dX12_homesFee_54 : decode cX12_homesFee 54 = .ok (.aload_n 0, 1) := by decide +kernel
theorem dX12_homesFee_55 : decode cX12_homesFee 55 = .ok (.getfield 98, 3) := by decide +kernel
theorem dX12_homesFee_58 : decode cX12_homesFee 58 = .ok (.iload_n 1, 1) := by decide +kernel
theorem dX12_homesFee_59 : decode cX12_homesFee 59 = .ok (.iaload, 1) := by decide +kernel
theorem dX12_homesFee_60 : decode cX12_homesFee 60 = .ok (.aload_n 0, 1) := by decide +kernel
theorem dX12_homesFee_61 : decode cX12_homesFee 61 = .ok (.getfield 89, 3) := by decide +kernel
theorem dX12_homesFee_64 : decode cX12_homesFee 64 = .ok (.iload_n 1, 1) := by decide +kernel
theorem dX12_homesFee_65 : decode cX12_homesFee 65 = .ok (.iaload, 1) := by decide +kernel
theorem dX12_homesFee_66 : decode cX12_homesFee 66 = .ok (.aload_n 0, 1) := by decide +kernel
theorem dX12_homesFee_67 : decode cX12_homesFee 67 = .ok (.getfield 110, 3) := by decide +kernel
theorem dX12_homesFee_70 : decode cX12_homesFee 70 = .ok (.iload_n 1, 1) := by decide +kernel
theorem dX12_homesFee_71 : decode cX12_homesFee 71 = .ok (.iaload, 1) := by decide +kernel
theorem dX12_homesFee_72 : decode cX12_homesFee 72 = .ok (.invokevirtual 281, 3) := by decide +kernel
theorem dX12_homesFee_75 : decode cX12_homesFee 75 = .ok (.istore_n 3, 1) := by decide +kernel
theorem dX12_homesFee_76 : decode cX12_homesFee 76 = .ok (.iload_n 3, 1) := by decide +kernel
theorem dX12_homesFee_77 : decode cX12_homesFee 77 = .ok (.iconst (-1), 1) := by decide +kernel
theorem dX12_homesFee_78 : decode cX12_homesFee 78 = .ok (.if_icmp .ne 9, 3) := by decide +kernel
theorem dX12_homesFee_81 : decode cX12_homesFee 81 = .ok (.sipush (-10000), 3) := by decide +kernel
theorem dX12_homesFee_84 : decode cX12_homesFee 84 = .ok (.goto 4, 3) := by decide +kernel
theorem dX12_homesFee_87 : decode cX12_homesFee 87 = .ok (.iload_n 3, 1) := by decide +kernel
theorem dX12_homesFee_88 : decode cX12_homesFee 88 = .ok (.ireturn, 1) := by decide +kernel
theorem dX12_homes_0 : decode cX12_homes 0 = .ok (.aload_n 0, 1) := by decide +kernel
theorem dX12_homes_1 : decode cX12_homes 1 = .ok (.iconst 0, 1) := by decide +kernel
theorem dX12_homes_2 : decode cX12_homes 2 = .ok (.putfield 123, 3) := by decide +kernel
theorem dX12_homes_5 : decode cX12_homes 5 = .ok (.iload_n 1, 1) := by decide +kernel
theorem dX12_homes_6 : decode cX12_homes 6 = .ok (.ifCond .lt 19, 3) := by decide +kernel
theorem dX12_homes_9 : decode cX12_homes 9 = .ok (.iload_n 1, 1) := by decide +kernel
theorem dX12_homes_10 : decode cX12_homes 10 = .ok (.aload_n 0, 1) := by decide +kernel
theorem dX12_homes_11 : decode cX12_homes 11 = .ok (.getfield 313, 3) := by decide +kernel
theorem dX12_homes_14 : decode cX12_homes 14 = .ok (.if_icmp .ge 11, 3) := by decide +kernel
theorem dX12_homes_17 : decode cX12_homes 17 = .ok (.aload_n 0, 1) := by decide +kernel
theorem dX12_homes_18 : decode cX12_homes 18 = .ok (.iload_n 1, 1) := by decide +kernel
theorem dX12_homes_19 : decode cX12_homes 19 = .ok (.invokevirtual 319, 3) := by decide +kernel
theorem dX12_homes_22 : decode cX12_homes 22 = .ok (.goto 6, 3) := by decide +kernel
theorem dX12_homes_25 : decode cX12_homes 25 = .ok (.sipush (-10000), 3) := by decide +kernel
theorem dX12_homes_28 : decode cX12_homes 28 = .ok (.ireturn, 1) := by decide +kernel
theorem dX12_difference_0 : decode cX12_difference 0 = .ok (.aload_n 0, 1) := by decide +kernel
theorem dX12_difference_1 : decode cX12_difference 1 = .ok (.iconst 0, 1) := by decide +kernel
theorem dX12_difference_2 : decode cX12_difference 2 = .ok (.putfield 123, 3) := by decide +kernel
theorem dX12_difference_5 : decode cX12_difference 5 = .ok (.aload_n 0, 1) := by decide +kernel
theorem dX12_difference_6 : decode cX12_difference 6 = .ok (.iload_n 1, 1) := by decide +kernel
theorem dX12_difference_7 : decode cX12_difference 7 = .ok (.invokevirtual 262, 3) := by decide +kernel
theorem dX12_difference_10 : decode cX12_difference 10 = .ok (.ifCond .ne 5, 3) := by decide +kernel
theorem dX12_difference_13 : decode cX12_difference 13 = .ok (.iconst 0, 1) := by decide +kernel
theorem dX12_difference_14 : decode cX12_difference 14 = .ok (.ireturn, 1) := by decide +kernel
theorem dX12_difference_15 : decode cX12_difference 15 = .ok (.iconst 0, 1) := by decide +kernel
theorem dX12_difference_16 : decode cX12_difference 16 = .ok (.istore_n 2, 1) := by decide +kernel
theorem dX12_difference_17 : decode cX12_difference 17 = .ok (.iconst 0, 1) := by decide +kernel
theorem dX12_difference_18 : decode cX12_difference 18 = .ok (.istore_n 3, 1) := by decide +kernel
theorem dX12_difference_19 : decode cX12_difference 19 = .ok (.iload_n 3, 1) := by decide +kernel
theorem dX12_difference_20 : decode cX12_difference 20 = .ok (.aload_n 0, 1) := by decide +kernel
theorem dX12_difference_21 : decode cX12_difference 21 = .ok (.getfield 313, 3) := by decide +kernel
theorem dX12_difference_24 : decode cX12_difference 24 = .ok (.if_icmp .ge 61, 3) := by decide +kernel
theorem dX12_difference_27 : decode cX12_difference 27 = .ok (.iload_n 2, 1) := by decide +kernel
theorem dX12_difference_28 : decode cX12_difference 28 = .ok (.aload_n 0, 1) := by decide +kernel
theorem dX12_difference_29 : decode cX12_difference 29 = .ok (.getfield 89, 3) := by decide +kernel
theorem dX12_difference_32 : decode cX12_difference 32 = .ok (.iload_n 3, 1) := by decide +kernel
theorem dX12_difference_33 : decode cX12_difference 33 = .ok (.iaload, 1) := by decide +kernel
theorem dX12_difference_34 : decode cX12_difference 34 = .ok (.iload_n 1, 1) := by decide +kernel
theorem dX12_difference_35 : decode cX12_difference 35 = .ok (.if_icmp .ne 41, 3) := by decide +kernel
theorem dX12_difference_38 : decode cX12_difference 38 = .ok (.aload_n 0, 1) := by decide +kernel
theorem dX12_difference_39 : decode cX12_difference 39 = .ok (.iload_n 3, 1) := by decide +kernel
theorem dX12_difference_40 : decode cX12_difference 40 = .ok (.invokevirtual 316, 3) := by decide +kernel
theorem dX12_difference_43 : decode cX12_difference 43 = .ok (.aload_n 0, 1) := by decide +kernel
theorem dX12_difference_44 : decode cX12_difference 44 = .ok (.getfield 239, 3) := by decide +kernel
theorem dX12_difference_47 : decode cX12_difference 47 = .ok (.if_icmp .gt 29, 3) := by decide +kernel
theorem dX12_difference_50 : decode cX12_difference 50 = .ok (.aload_n 0, 1) := by decide +kernel
theorem dX12_difference_51 : decode cX12_difference 51 = .ok (.iload_n 3, 1) := by decide +kernel
theorem dX12_difference_52 : decode cX12_difference 52 = .ok (.invokevirtual 319, 3) := by decide +kernel
theorem dX12_difference_55 : decode cX12_difference 55 = .ok (.sipush (-10000), 3) := by decide +kernel
theorem dX12_difference_58 : decode cX12_difference 58 = .ok (.if_icmp .eq 18, 3) := by decide +kernel
theorem dX12_difference_61 : decode cX12_difference 61 = .ok (.aload_n 0, 1) := by decide +kernel
theorem dX12_difference_62 : decode cX12_difference 62 = .ok (.getfield 104, 3) := by decide +kernel
theorem dX12_difference_65 : decode cX12_difference 65 = .ok (.iload_n 3, 1) := by decide +kernel
theorem dX12_difference_66 : decode cX12_difference 66 = .ok (.iaload, 1) := by decide +kernel
theorem dX12_difference_67 : decode cX12_difference 67 = .ok (.aload_n 0, 1) := by decide +kernel
theorem dX12_difference_68 : decode cX12_difference 68 = .ok (.iload_n 3, 1) := by decide +kernel
theorem dX12_difference_69 : decode cX12_difference 69 = .ok (.invokevirtual 319, 3) := by decide +kernel
theorem dX12_difference_72 : decode cX12_difference 72 = .ok (.isub, 1) := by decide +kernel
theorem dX12_difference_73 : decode cX12_difference 73 = .ok (.goto 4, 3) := by decide +kernel
theorem dX12_difference_76 : decode cX12_difference 76 = .ok (.iconst 0, 1) := by decide +kernel
theorem dX12_difference_77 : decode cX12_difference 77 = .ok (.iadd, 1) := by decide +kernel
theorem dX12_difference_78 : decode cX12_difference 78 = .ok (.istore_n 2, 1) := by decide +kernel
theorem dX12_difference_79 : decode cX12_difference 79 = .ok (.iinc 3 1, 3) := by decide +kernel
theorem dX12_difference_82 : decode cX12_difference 82 = .ok (.goto (-63), 3) := by decide +kernel
theorem dX12_difference_85 : decode cX12_difference 85 = .ok (.iload_n 2, 1) := by decide +kernel
theorem dX12_difference_86 : decode cX12_difference 86 = .ok (.ireturn, 1) := by decide +kernel
theorem dX12_unlike_0 : decode cX12_unlike 0 = .ok (.aload_n 0, 1) := by decide +kernel
theorem dX12_unlike_1 : decode cX12_unlike 1 = .ok (.iconst 0, 1) := by decide +kernel
theorem dX12_unlike_2 : decode cX12_unlike 2 = .ok (.putfield 123, 3) := by decide +kernel
theorem dX12_unlike_5 : decode cX12_unlike 5 = .ok (.aload_n 0, 1) := by decide +kernel
theorem dX12_unlike_6 : decode cX12_unlike 6 = .ok (.iload_n 1, 1) := by decide +kernel
theorem dX12_unlike_7 : decode cX12_unlike 7 = .ok (.invokevirtual 262, 3) := by decide +kernel
theorem dX12_unlike_10 : decode cX12_unlike 10 = .ok (.ifCond .ne 5, 3) := by decide +kernel
theorem dX12_unlike_13 : decode cX12_unlike 13 = .ok (.iconst (-1), 1) := by decide +kernel
theorem dX12_unlike_14 : decode cX12_unlike 14 = .ok (.ireturn, 1) := by decide +kernel
theorem dX12_unlike_15 : decode cX12_unlike 15 = .ok (.iconst 0, 1) := by decide +kernel
theorem dX12_unlike_16 : decode cX12_unlike 16 = .ok (.istore_n 2, 1) := by decide +kernel
theorem dX12_unlike_17 : decode cX12_unlike 17 = .ok (.iconst 0, 1) := by decide +kernel
theorem dX12_unlike_18 : decode cX12_unlike 18 = .ok (.istore_n 3, 1) := by decide +kernel
theorem dX12_unlike_19 : decode cX12_unlike 19 = .ok (.iload_n 3, 1) := by decide +kernel
theorem dX12_unlike_20 : decode cX12_unlike 20 = .ok (.aload_n 0, 1) := by decide +kernel
theorem dX12_unlike_21 : decode cX12_unlike 21 = .ok (.getfield 313, 3) := by decide +kernel
theorem dX12_unlike_24 : decode cX12_unlike 24 = .ok (.if_icmp .ge 53, 3) := by decide +kernel
theorem dX12_unlike_27 : decode cX12_unlike 27 = .ok (.iload_n 2, 1) := by decide +kernel
theorem dX12_unlike_28 : decode cX12_unlike 28 = .ok (.aload_n 0, 1) := by decide +kernel
theorem dX12_unlike_29 : decode cX12_unlike 29 = .ok (.getfield 89, 3) := by decide +kernel
theorem dX12_unlike_32 : decode cX12_unlike 32 = .ok (.iload_n 3, 1) := by decide +kernel
theorem dX12_unlike_33 : decode cX12_unlike 33 = .ok (.iaload, 1) := by decide +kernel
theorem dX12_unlike_34 : decode cX12_unlike 34 = .ok (.iload_n 1, 1) := by decide +kernel
theorem dX12_unlike_35 : decode cX12_unlike 35 = .ok (.if_icmp .ne 33, 3) := by decide +kernel
theorem dX12_unlike_38 : decode cX12_unlike 38 = .ok (.aload_n 0, 1) := by decide +kernel
theorem dX12_unlike_39 : decode cX12_unlike 39 = .ok (.iload_n 3, 1) := by decide +kernel
theorem dX12_unlike_40 : decode cX12_unlike 40 = .ok (.invokevirtual 316, 3) := by decide +kernel
theorem dX12_unlike_43 : decode cX12_unlike 43 = .ok (.aload_n 0, 1) := by decide +kernel
theorem dX12_unlike_44 : decode cX12_unlike 44 = .ok (.getfield 239, 3) := by decide +kernel
theorem dX12_unlike_47 : decode cX12_unlike 47 = .ok (.if_icmp .gt 21, 3) := by decide +kernel
theorem dX12_unlike_50 : decode cX12_unlike 50 = .ok (.aload_n 0, 1) := by decide +kernel
theorem dX12_unlike_51 : decode cX12_unlike 51 = .ok (.iload_n 3, 1) := by decide +kernel
theorem dX12_unlike_52 : decode cX12_unlike 52 = .ok (.invokevirtual 319, 3) := by decide +kernel
theorem dX12_unlike_55 : decode cX12_unlike 55 = .ok (.aload_n 0, 1) := by decide +kernel
theorem dX12_unlike_56 : decode cX12_unlike 56 = .ok (.getfield 104, 3) := by decide +kernel
theorem dX12_unlike_59 : decode cX12_unlike 59 = .ok (.iload_n 3, 1) := by decide +kernel
theorem dX12_unlike_60 : decode cX12_unlike 60 = .ok (.iaload, 1) := by decide +kernel
theorem dX12_unlike_61 : decode cX12_unlike 61 = .ok (.if_icmp .eq 7, 3) := by decide +kernel
theorem dX12_unlike_64 : decode cX12_unlike 64 = .ok (.iconst 1, 1) := by decide +kernel
theorem dX12_unlike_65 : decode cX12_unlike 65 = .ok (.goto 4, 3) := by decide +kernel
theorem dX12_unlike_68 : decode cX12_unlike 68 = .ok (.iconst 0, 1) := by decide +kernel
theorem dX12_unlike_69 : decode cX12_unlike 69 = .ok (.iadd, 1) := by decide +kernel
theorem dX12_unlike_70 : decode cX12_unlike 70 = .ok (.istore_n 2, 1) := by decide +kernel
theorem dX12_unlike_71 : decode cX12_unlike 71 = .ok (.iinc 3 1, 3) := by decide +kernel
theorem dX12_unlike_74 : decode cX12_unlike 74 = .ok (.goto (-55), 3) := by decide +kernel
theorem dX12_unlike_77 : decode cX12_unlike 77 = .ok (.iload_n 2, 1) := by decide +kernel
theorem dX12_unlike_78 : decode cX12_unlike 78 = .ok (.ireturn, 1) := by decide +kernel
theorem dX12_count_0 : decode cX12_count 0 = .ok (.aload_n 0, 1) := by decide +kernel
theorem dX12_count_1 : decode cX12_count 1 = .ok (.iconst 0, 1) := by decide +kernel
theorem dX12_count_2 : decode cX12_count 2 = .ok (.putfield 123, 3) := by decide +kernel
theorem dX12_count_5 : decode cX12_count 5 = .ok (.iload_n 1, 1) := by decide +kernel
theorem dX12_count_6 : decode cX12_count 6 = .ok (.tableswitch 59 0 4 #[34, 39, 44, 49, 54], 34) := by decide +kernel
theorem dX12_count_40 : decode cX12_count 40 = .ok (.aload_n 0, 1) := by decide +kernel
theorem dX12_count_41 : decode cX12_count 41 = .ok (.getfield 236, 3) := by decide +kernel
theorem dX12_count_44 : decode cX12_count 44 = .ok (.ireturn, 1) := by decide +kernel
theorem dX12_count_45 : decode cX12_count 45 = .ok (.aload_n 0, 1) := by decide +kernel
theorem dX12_count_46 : decode cX12_count 46 = .ok (.getfield 201, 3) := by decide +kernel
theorem dX12_count_49 : decode cX12_count 49 = .ok (.ireturn, 1) := by decide +kernel
theorem dX12_count_50 : decode cX12_count 50 = .ok (.aload_n 0, 1) := by decide +kernel
theorem dX12_count_51 : decode cX12_count 51 = .ok (.getfield 313, 3) := by decide +kernel
theorem dX12_count_54 : decode cX12_count 54 = .ok (.ireturn, 1) := by decide +kernel
theorem dX12_count_55 : decode cX12_count 55 = .ok (.aload_n 0, 1) := by decide +kernel
theorem dX12_count_56 : decode cX12_count 56 = .ok (.getfield 239, 3) := by decide +kernel
theorem dX12_count_59 : decode cX12_count 59 = .ok (.ireturn, 1) := by decide +kernel
theorem dX12_count_60 : decode cX12_count 60 = .ok (.aload_n 0, 1) := by decide +kernel
theorem dX12_count_61 : decode cX12_count 61 = .ok (.getfield 250, 3) := by decide +kernel
theorem dX12_count_64 : decode cX12_count 64 = .ok (.ireturn, 1) := by decide +kernel
theorem dX12_count_65 : decode cX12_count 65 = .ok (.iconst (-1), 1) := by decide +kernel
theorem dX12_count_66 : decode cX12_count 66 = .ok (.ireturn, 1) := by decide +kernel
theorem dX12_trouble_0 : decode cX12_trouble 0 = .ok (.aload_n 0, 1) := by decide +kernel
theorem dX12_trouble_1 : decode cX12_trouble 1 = .ok (.iconst 0, 1) := by decide +kernel
theorem dX12_trouble_2 : decode cX12_trouble 2 = .ok (.putfield 123, 3) := by decide +kernel
theorem dX12_trouble_5 : decode cX12_trouble 5 = .ok (.aload_n 0, 1) := by decide +kernel
theorem dX12_trouble_6 : decode cX12_trouble 6 = .ok (.getfield 126, 3) := by decide +kernel
theorem dX12_trouble_9 : decode cX12_trouble 9 = .ok (.ireturn, 1) := by decide +kernel
end
section
theorem dJ9_max_7cf53_0 : decode cJ9_max_7cf53 0 = .ok (.iload_n 0, 1) := by decide +kernel
theorem dJ9_max_7cf53_1 : decode cJ9_max_7cf53 1 = .ok (.iload_n 1, 1) := by decide +kernel
theorem dJ9_max_7cf53_2 : decode cJ9_max_7cf53 2 = .ok (.if_icmp .lt 7, 3) := by decide +kernel
theorem dJ9_max_7cf53_5 : decode cJ9_max_7cf53 5 = .ok (.iload_n 0, 1) := by decide +kernel
theorem dJ9_max_7cf53_6 : decode cJ9_max_7cf53 6 = .ok (.goto 4, 3) := by decide +kernel
theorem dJ9_max_7cf53_9 : decode cJ9_max_7cf53 9 = .ok (.iload_n 1, 1) := by decide +kernel
theorem dJ9_max_7cf53_10 : decode cJ9_max_7cf53 10 = .ok (.ireturn, 1) := by decide +kernel
theorem dJ9_min_7cf53_0 : decode cJ9_min_7cf53 0 = .ok (.iload_n 0, 1) := by decide +kernel
theorem dJ9_min_7cf53_1 : decode cJ9_min_7cf53 1 = .ok (.iload_n 1, 1) := by decide +kernel
theorem dJ9_min_7cf53_2 : decode cJ9_min_7cf53 2 = .ok (.if_icmp .gt 7, 3) := by decide +kernel
theorem dJ9_min_7cf53_5 : decode cJ9_min_7cf53 5 = .ok (.iload_n 0, 1) := by decide +kernel
theorem dJ9_min_7cf53_6 : decode cJ9_min_7cf53 6 = .ok (.goto 4, 3) := by decide +kernel
theorem dJ9_min_7cf53_9 : decode cJ9_min_7cf53 9 = .ok (.iload_n 1, 1) := by decide +kernel
theorem dJ9_min_7cf53_10 : decode cJ9_min_7cf53 10 = .ok (.ireturn, 1) := by decide +kernel
theorem dJ9_min_f86c9_0 : decode cJ9_min_f86c9 0 = .ok (.lload_n 0, 1) := by decide +kernel
theorem dJ9_min_f86c9_1 : decode cJ9_min_f86c9 1 = .ok (.lload_n 2, 1) := by decide +kernel
theorem dJ9_min_f86c9_2 : decode cJ9_min_f86c9 2 = .ok (.lcmp, 1) := by decide +kernel
theorem dJ9_min_f86c9_3 : decode cJ9_min_f86c9 3 = .ok (.ifCond .gt 7, 3) := by decide +kernel
theorem dJ9_min_f86c9_6 : decode cJ9_min_f86c9 6 = .ok (.lload_n 0, 1) := by decide +kernel
theorem dJ9_min_f86c9_7 : decode cJ9_min_f86c9 7 = .ok (.goto 4, 3) := by decide +kernel
theorem dJ9_min_f86c9_10 : decode cJ9_min_f86c9 10 = .ok (.lload_n 2, 1) := by decide +kernel
theorem dJ9_min_f86c9_11 : decode cJ9_min_f86c9 11 = .ok (.lreturn, 1) := by decide +kernel
theorem dJ0_length_8abf5_0 : decode cJ0_length_8abf5 0 = .ok (.aload_n 0, 1) := by decide +kernel
theorem dJ0_length_8abf5_1 : decode cJ0_length_8abf5 1 = .ok (.getfield 9, 3) := by decide +kernel
theorem dJ0_length_8abf5_4 : decode cJ0_length_8abf5 4 = .ok (.arraylength, 1) := by decide +kernel
theorem dJ0_length_8abf5_5 : decode cJ0_length_8abf5 5 = .ok (.aload_n 0, 1) := by decide +kernel
theorem dJ0_length_8abf5_6 : decode cJ0_length_8abf5 6 = .ok (.invokevirtual 335, 3) := by decide +kernel
theorem dJ0_length_8abf5_9 : decode cJ0_length_8abf5 9 = .ok (.ishr, 1) := by decide +kernel
theorem dJ0_length_8abf5_10 : decode cJ0_length_8abf5 10 = .ok (.ireturn, 1) := by decide +kernel
theorem dJ0_charAt_5068e_0 : decode cJ0_charAt_5068e 0 = .ok (.aload_n 0, 1) := by decide +kernel
theorem dJ0_charAt_5068e_1 : decode cJ0_charAt_5068e 1 = .ok (.invokevirtual 492, 3) := by decide +kernel
theorem dJ0_charAt_5068e_4 : decode cJ0_charAt_5068e 4 = .ok (.ifCond .eq 12, 3) := by decide +kernel
theorem dJ0_charAt_5068e_7 : decode cJ0_charAt_5068e 7 = .ok (.aload_n 0, 1) := by decide +kernel
theorem dJ0_charAt_5068e_8 : decode cJ0_charAt_5068e 8 = .ok (.getfield 9, 3) := by decide +kernel
theorem dJ0_charAt_5068e_11 : decode cJ0_charAt_5068e 11 = .ok (.iload_n 1, 1) := by decide +kernel
theorem dJ0_charAt_5068e_12 : decode cJ0_charAt_5068e 12 = .ok (.invokestatic 495, 3) := by decide +kernel
theorem dJ0_charAt_5068e_15 : decode cJ0_charAt_5068e 15 = .ok (.ireturn, 1) := by decide +kernel
theorem dJ0_charAt_5068e_16 : decode cJ0_charAt_5068e 16 = .ok (.aload_n 0, 1) := by decide +kernel
theorem dJ0_charAt_5068e_17 : decode cJ0_charAt_5068e 17 = .ok (.getfield 9, 3) := by decide +kernel
theorem dJ0_charAt_5068e_20 : decode cJ0_charAt_5068e 20 = .ok (.iload_n 1, 1) := by decide +kernel
theorem dJ0_charAt_5068e_21 : decode cJ0_charAt_5068e 21 = .ok (.invokestatic 498, 3) := by decide +kernel
theorem dJ0_charAt_5068e_24 : decode cJ0_charAt_5068e 24 = .ok (.ireturn, 1) := by decide +kernel
theorem dJ0_indexOf_0f7a4_0 : decode cJ0_indexOf_0f7a4 0 = .ok (.aload_n 0, 1) := by decide +kernel
theorem dJ0_indexOf_0f7a4_1 : decode cJ0_indexOf_0f7a4 1 = .ok (.iload_n 1, 1) := by decide +kernel
theorem dJ0_indexOf_0f7a4_2 : decode cJ0_indexOf_0f7a4 2 = .ok (.iconst 0, 1) := by decide +kernel
theorem dJ0_indexOf_0f7a4_3 : decode cJ0_indexOf_0f7a4 3 = .ok (.invokevirtual 633, 3) := by decide +kernel
theorem dJ0_indexOf_0f7a4_6 : decode cJ0_indexOf_0f7a4 6 = .ok (.ireturn, 1) := by decide +kernel
theorem dJ0_indexOf_7cf53_0 : decode cJ0_indexOf_7cf53 0 = .ok (.aload_n 0, 1) := by decide +kernel
theorem dJ0_indexOf_7cf53_1 : decode cJ0_indexOf_7cf53 1 = .ok (.invokevirtual 492, 3) := by decide +kernel
theorem dJ0_indexOf_7cf53_4 : decode cJ0_indexOf_7cf53 4 = .ok (.ifCond .eq 19, 3) := by decide +kernel
theorem dJ0_indexOf_7cf53_7 : decode cJ0_indexOf_7cf53 7 = .ok (.aload_n 0, 1) := by decide +kernel
theorem dJ0_indexOf_7cf53_8 : decode cJ0_indexOf_7cf53 8 = .ok (.getfield 9, 3) := by decide +kernel
theorem dJ0_indexOf_7cf53_11 : decode cJ0_indexOf_7cf53 11 = .ok (.iload_n 1, 1) := by decide +kernel
theorem dJ0_indexOf_7cf53_12 : decode cJ0_indexOf_7cf53 12 = .ok (.iload_n 2, 1) := by decide +kernel
theorem dJ0_indexOf_7cf53_13 : decode cJ0_indexOf_7cf53 13 = .ok (.aload_n 0, 1) := by decide +kernel
theorem dJ0_indexOf_7cf53_14 : decode cJ0_indexOf_7cf53 14 = .ok (.invokevirtual 505, 3) := by decide +kernel
theorem dJ0_indexOf_7cf53_17 : decode cJ0_indexOf_7cf53 17 = .ok (.invokestatic 637, 3) := by decide +kernel
theorem dJ0_indexOf_7cf53_20 : decode cJ0_indexOf_7cf53 20 = .ok (.goto 16, 3) := by decide +kernel
theorem dJ0_indexOf_7cf53_23 : decode cJ0_indexOf_7cf53 23 = .ok (.aload_n 0, 1) := by decide +kernel
theorem dJ0_indexOf_7cf53_24 : decode cJ0_indexOf_7cf53 24 = .ok (.getfield 9, 3) := by decide +kernel
theorem dJ0_indexOf_7cf53_27 : decode cJ0_indexOf_7cf53 27 = .ok (.iload_n 1, 1) := by decide +kernel
theorem dJ0_indexOf_7cf53_28 : decode cJ0_indexOf_7cf53 28 = .ok (.iload_n 2, 1) := by decide +kernel
theorem dJ0_indexOf_7cf53_29 : decode cJ0_indexOf_7cf53 29 = .ok (.aload_n 0, 1) := by decide +kernel
theorem dJ0_indexOf_7cf53_30 : decode cJ0_indexOf_7cf53 30 = .ok (.invokevirtual 505, 3) := by decide +kernel
theorem dJ0_indexOf_7cf53_33 : decode cJ0_indexOf_7cf53 33 = .ok (.invokestatic 640, 3) := by decide +kernel
theorem dJ0_indexOf_7cf53_36 : decode cJ0_indexOf_7cf53 36 = .ok (.ireturn, 1) := by decide +kernel
theorem dJ0_coder_7d493_0 : decode cJ0_coder_7d493 0 = .ok (.getstatic 38, 3) := by decide +kernel
theorem dJ0_coder_7d493_3 : decode cJ0_coder_7d493 3 = .ok (.ifCond .eq 10, 3) := by decide +kernel
theorem dJ0_coder_7d493_6 : decode cJ0_coder_7d493 6 = .ok (.aload_n 0, 1) := by decide +kernel
theorem dJ0_coder_7d493_7 : decode cJ0_coder_7d493 7 = .ok (.getfield 15, 3) := by decide +kernel
theorem dJ0_coder_7d493_10 : decode cJ0_coder_7d493 10 = .ok (.goto 4, 3) := by decide +kernel
theorem dJ0_coder_7d493_13 : decode cJ0_coder_7d493 13 = .ok (.iconst 1, 1) := by decide +kernel
theorem dJ0_coder_7d493_14 : decode cJ0_coder_7d493 14 = .ok (.ireturn, 1) := by decide +kernel
theorem dJ0_isLatin1_aae02_0 : decode cJ0_isLatin1_aae02 0 = .ok (.getstatic 38, 3) := by decide +kernel
theorem dJ0_isLatin1_aae02_3 : decode cJ0_isLatin1_aae02 3 = .ok (.ifCond .eq 14, 3) := by decide +kernel
theorem dJ0_isLatin1_aae02_6 : decode cJ0_isLatin1_aae02 6 = .ok (.aload_n 0, 1) := by decide +kernel
theorem dJ0_isLatin1_aae02_7 : decode cJ0_isLatin1_aae02 7 = .ok (.getfield 15, 3) := by decide +kernel
theorem dJ0_isLatin1_aae02_10 : decode cJ0_isLatin1_aae02 10 = .ok (.ifCond .ne 7, 3) := by decide +kernel
theorem dJ0_isLatin1_aae02_13 : decode cJ0_isLatin1_aae02 13 = .ok (.iconst 1, 1) := by decide +kernel
theorem dJ0_isLatin1_aae02_14 : decode cJ0_isLatin1_aae02 14 = .ok (.goto 4, 3) := by decide +kernel
theorem dJ0_isLatin1_aae02_17 : decode cJ0_isLatin1_aae02 17 = .ok (.iconst 0, 1) := by decide +kernel
theorem dJ0_isLatin1_aae02_18 : decode cJ0_isLatin1_aae02 18 = .ok (.ireturn, 1) := by decide +kernel
theorem dJ0_checkIndex_df160_0 : decode cJ0_checkIndex_df160 0 = .ok (.iload_n 0, 1) := by decide +kernel
theorem dJ0_checkIndex_df160_1 : decode cJ0_checkIndex_df160 1 = .ok (.iload_n 1, 1) := by decide +kernel
theorem dJ0_checkIndex_df160_2 : decode cJ0_checkIndex_df160 2 = .ok (.getstatic 1053, 3) := by decide +kernel
theorem dJ0_checkIndex_df160_5 : decode cJ0_checkIndex_df160 5 = .ok (.invokestatic 1059, 3) := by decide +kernel
theorem dJ0_checkIndex_df160_8 : decode cJ0_checkIndex_df160 8 = .ok (.pop, 1) := by decide +kernel
theorem dJ0_checkIndex_df160_9 : decode cJ0_checkIndex_df160 9 = .ok (.return_, 1) := by decide +kernel
theorem dJ0_checkBoundsBeginEnd_23922_0 : decode cJ0_checkBoundsBeginEnd_23922 0 = .ok (.iload_n 0, 1) := by decide +kernel
theorem dJ0_checkBoundsBeginEnd_23922_1 : decode cJ0_checkBoundsBeginEnd_23922 1 = .ok (.iload_n 1, 1) := by decide +kernel
theorem dJ0_checkBoundsBeginEnd_23922_2 : decode cJ0_checkBoundsBeginEnd_23922 2 = .ok (.iload_n 2, 1) := by decide +kernel
theorem dJ0_checkBoundsBeginEnd_23922_3 : decode cJ0_checkBoundsBeginEnd_23922 3 = .ok (.getstatic 1053, 3) := by decide +kernel
theorem dJ0_checkBoundsBeginEnd_23922_6 : decode cJ0_checkBoundsBeginEnd_23922 6 = .ok (.invokestatic 1062, 3) := by decide +kernel
theorem dJ0_checkBoundsBeginEnd_23922_9 : decode cJ0_checkBoundsBeginEnd_23922 9 = .ok (.pop, 1) := by decide +kernel
theorem dJ0_checkBoundsBeginEnd_23922_10 : decode cJ0_checkBoundsBeginEnd_23922 10 = .ok (.return_, 1) := by decide +kernel
theorem dJ1_charAt_3b067_0 : decode cJ1_charAt_3b067 0 = .ok (.iload_n 1, 1) := by decide +kernel
theorem dJ1_charAt_3b067_1 : decode cJ1_charAt_3b067 1 = .ok (.aload_n 0, 1) := by decide +kernel
theorem dJ1_charAt_3b067_2 : decode cJ1_charAt_3b067 2 = .ok (.arraylength, 1) := by decide +kernel
theorem dJ1_charAt_3b067_3 : decode cJ1_charAt_3b067 3 = .ok (.invokestatic 9, 3) := by decide +kernel
theorem dJ1_charAt_3b067_6 : decode cJ1_charAt_3b067 6 = .ok (.aload_n 0, 1) := by decide +kernel
theorem dJ1_charAt_3b067_7 : decode cJ1_charAt_3b067 7 = .ok (.iload_n 1, 1) := by decide +kernel
theorem dJ1_charAt_3b067_8 : decode cJ1_charAt_3b067 8 = .ok (.baload, 1) := by decide +kernel
theorem dJ1_charAt_3b067_9 : decode cJ1_charAt_3b067 9 = .ok (.sipush 255, 3) := by decide +kernel
theorem dJ1_charAt_3b067_12 : decode cJ1_charAt_3b067 12 = .ok (.iand, 1) := by decide +kernel
theorem dJ1_charAt_3b067_13 : decode cJ1_charAt_3b067 13 = .ok (.i2c, 1) := by decide +kernel
theorem dJ1_charAt_3b067_14 : decode cJ1_charAt_3b067 14 = .ok (.ireturn, 1) := by decide +kernel
theorem dJ1_canEncode_9a6ad_0 : decode cJ1_canEncode_9a6ad 0 = .ok (.iload_n 0, 1) := by decide +kernel
theorem dJ1_canEncode_9a6ad_1 : decode cJ1_canEncode_9a6ad 1 = .ok (.ifCond .lt 14, 3) := by decide +kernel
theorem dJ1_canEncode_9a6ad_4 : decode cJ1_canEncode_9a6ad 4 = .ok (.iload_n 0, 1) := by decide +kernel
theorem dJ1_canEncode_9a6ad_5 : decode cJ1_canEncode_9a6ad 5 = .ok (.sipush 255, 3) := by decide +kernel
theorem dJ1_canEncode_9a6ad_8 : decode cJ1_canEncode_9a6ad 8 = .ok (.if_icmp .gt 7, 3) := by decide +kernel
theorem dJ1_canEncode_9a6ad_11 : decode cJ1_canEncode_9a6ad 11 = .ok (.iconst 1, 1) := by decide +kernel
theorem dJ1_canEncode_9a6ad_12 : decode cJ1_canEncode_9a6ad 12 = .ok (.goto 4, 3) := by decide +kernel
theorem dJ1_canEncode_9a6ad_15 : decode cJ1_canEncode_9a6ad 15 = .ok (.iconst 0, 1) := by decide +kernel
theorem dJ1_canEncode_9a6ad_16 : decode cJ1_canEncode_9a6ad 16 = .ok (.ireturn, 1) := by decide +kernel
theorem dJ1_indexOf_4cfef_0 : decode cJ1_indexOf_4cfef 0 = .ok (.iload_n 1, 1) := by decide +kernel
theorem dJ1_indexOf_4cfef_1 : decode cJ1_indexOf_4cfef 1 = .ok (.invokestatic 88, 3) := by decide +kernel
theorem dJ1_indexOf_4cfef_4 : decode cJ1_indexOf_4cfef 4 = .ok (.ifCond .ne 5, 3) := by decide +kernel
theorem dJ1_indexOf_4cfef_7 : decode cJ1_indexOf_4cfef 7 = .ok (.iconst (-1), 1) := by decide +kernel
theorem dJ1_indexOf_4cfef_8 : decode cJ1_indexOf_4cfef 8 = .ok (.ireturn, 1) := by decide +kernel
theorem dJ1_indexOf_4cfef_9 : decode cJ1_indexOf_4cfef 9 = .ok (.iload_n 2, 1) := by decide +kernel
theorem dJ1_indexOf_4cfef_10 : decode cJ1_indexOf_4cfef 10 = .ok (.iconst 0, 1) := by decide +kernel
theorem dJ1_indexOf_4cfef_11 : decode cJ1_indexOf_4cfef 11 = .ok (.invokestatic 92, 3) := by decide +kernel
theorem dJ1_indexOf_4cfef_14 : decode cJ1_indexOf_4cfef 14 = .ok (.istore_n 2, 1) := by decide +kernel
theorem dJ1_indexOf_4cfef_15 : decode cJ1_indexOf_4cfef 15 = .ok (.iload_n 3, 1) := by decide +kernel
theorem dJ1_indexOf_4cfef_16 : decode cJ1_indexOf_4cfef 16 = .ok (.aload_n 0, 1) := by decide +kernel
theorem dJ1_indexOf_4cfef_17 : decode cJ1_indexOf_4cfef 17 = .ok (.arraylength, 1) := by decide +kernel
theorem dJ1_indexOf_4cfef_18 : decode cJ1_indexOf_4cfef 18 = .ok (.invokestatic 38, 3) := by decide +kernel
theorem dJ1_indexOf_4cfef_21 : decode cJ1_indexOf_4cfef 21 = .ok (.istore_n 3, 1) := by decide +kernel
theorem dJ1_indexOf_4cfef_22 : decode cJ1_indexOf_4cfef 22 = .ok (.iload_n 2, 1) := by decide +kernel
theorem dJ1_indexOf_4cfef_23 : decode cJ1_indexOf_4cfef 23 = .ok (.iload_n 3, 1) := by decide +kernel
theorem dJ1_indexOf_4cfef_24 : decode cJ1_indexOf_4cfef 24 = .ok (.if_icmp .lt 5, 3) := by decide +kernel
theorem dJ1_indexOf_4cfef_27 : decode cJ1_indexOf_4cfef 27 = .ok (.iconst (-1), 1) := by decide +kernel
theorem dJ1_indexOf_4cfef_28 : decode cJ1_indexOf_4cfef 28 = .ok (.ireturn, 1) := by decide +kernel
theorem dJ1_indexOf_4cfef_29 : decode cJ1_indexOf_4cfef 29 = .ok (.aload_n 0, 1) := by decide +kernel
theorem dJ1_indexOf_4cfef_30 : decode cJ1_indexOf_4cfef 30 = .ok (.iload_n 1, 1) := by decide +kernel
theorem dJ1_indexOf_4cfef_31 : decode cJ1_indexOf_4cfef 31 = .ok (.iload_n 2, 1) := by decide +kernel
theorem dJ1_indexOf_4cfef_32 : decode cJ1_indexOf_4cfef 32 = .ok (.iload_n 3, 1) := by decide +kernel
theorem dJ1_indexOf_4cfef_33 : decode cJ1_indexOf_4cfef 33 = .ok (.invokestatic 95, 3) := by decide +kernel
theorem dJ1_indexOf_4cfef_36 : decode cJ1_indexOf_4cfef 36 = .ok (.ireturn, 1) := by decide +kernel
theorem dJ1_indexOfChar_4cfef_0 : decode cJ1_indexOfChar_4cfef 0 = .ok (.iload_n 1, 1) := by decide +kernel
theorem dJ1_indexOfChar_4cfef_1 : decode cJ1_indexOfChar_4cfef 1 = .ok (.i2b, 1) := by decide +kernel
theorem dJ1_indexOfChar_4cfef_2 : decode cJ1_indexOfChar_4cfef 2 = .ok (.istore 4, 2) := by decide +kernel
theorem dJ1_indexOfChar_4cfef_4 : decode cJ1_indexOfChar_4cfef 4 = .ok (.iload_n 2, 1) := by decide +kernel
theorem dJ1_indexOfChar_4cfef_5 : decode cJ1_indexOfChar_4cfef 5 = .ok (.istore 5, 2) := by decide +kernel
theorem dJ1_indexOfChar_4cfef_7 : decode cJ1_indexOfChar_4cfef 7 = .ok (.iload 5, 2) := by decide +kernel
theorem dJ1_indexOfChar_4cfef_9 : decode cJ1_indexOfChar_4cfef 9 = .ok (.iload_n 3, 1) := by decide +kernel
theorem dJ1_indexOfChar_4cfef_10 : decode cJ1_indexOfChar_4cfef 10 = .ok (.if_icmp .ge 21, 3) := by decide +kernel
theorem dJ1_indexOfChar_4cfef_13 : decode cJ1_indexOfChar_4cfef 13 = .ok (.aload_n 0, 1) := by decide +kernel
theorem dJ1_indexOfChar_4cfef_14 : decode cJ1_indexOfChar_4cfef 14 = .ok (.iload 5, 2) := by decide +kernel
theorem dJ1_indexOfChar_4cfef_16 : decode cJ1_indexOfChar_4cfef 16 = .ok (.baload, 1) := by decide +kernel
theorem dJ1_indexOfChar_4cfef_17 : decode cJ1_indexOfChar_4cfef 17 = .ok (.iload 4, 2) := by decide +kernel
theorem dJ1_indexOfChar_4cfef_19 : decode cJ1_indexOfChar_4cfef 19 = .ok (.if_icmp .ne 6, 3) := by decide +kernel
theorem dJ1_indexOfChar_4cfef_22 : decode cJ1_indexOfChar_4cfef 22 = .ok (.iload 5, 2) := by decide +kernel
theorem dJ1_indexOfChar_4cfef_24 : decode cJ1_indexOfChar_4cfef 24 = .ok (.ireturn, 1) := by decide +kernel
theorem dJ1_indexOfChar_4cfef_25 : decode cJ1_indexOfChar_4cfef 25 = .ok (.iinc 5 1, 3) := by decide +kernel
theorem dJ1_indexOfChar_4cfef_28 : decode cJ1_indexOfChar_4cfef 28 = .ok (.goto (-21), 3) := by decide +kernel
theorem dJ1_indexOfChar_4cfef_31 : decode cJ1_indexOfChar_4cfef 31 = .ok (.iconst (-1), 1) := by decide +kernel
theorem dJ1_indexOfChar_4cfef_32 : decode cJ1_indexOfChar_4cfef 32 = .ok (.ireturn, 1) := by decide +kernel
theorem dL_law_0 : decode cL_law 0 = .ok (.new 7, 3) := by decide +kernel
theorem dL_law_3 : decode cL_law 3 = .ok (.dup, 1) := by decide +kernel
theorem dL_law_4 : decode cL_law 4 = .ok (.invokespecial 9, 3) := by decide +kernel
theorem dL_law_7 : decode cL_law 7 = .ok (.astore_n 1, 1) := by decide +kernel
theorem dL_law_8 : decode cL_law 8 = .ok (.new 10, 3) := by decide +kernel
theorem dL_law_11 : decode cL_law 11 = .ok (.dup, 1) := by decide +kernel
theorem dL_law_12 : decode cL_law 12 = .ok (.invokespecial 12, 3) := by decide +kernel
theorem dL_law_15 : decode cL_law 15 = .ok (.astore_n 2, 1) := by decide +kernel
theorem dL_law_16 : decode cL_law 16 = .ok (.iconst 0, 1) := by decide +kernel
theorem dL_law_17 : decode cL_law 17 = .ok (.istore_n 3, 1) := by decide +kernel
theorem dL_law_18 : decode cL_law 18 = .ok (.iload_n 3, 1) := by decide +kernel
theorem dL_law_19 : decode cL_law 19 = .ok (.aload_n 0, 1) := by decide +kernel
theorem dL_law_20 : decode cL_law 20 = .ok (.arraylength, 1) := by decide +kernel
theorem dL_law_21 : decode cL_law 21 = .ok (.bipush 6, 2) := by decide +kernel
theorem dL_law_23 : decode cL_law 23 = .ok (.isub, 1) := by decide +kernel
theorem dL_law_24 : decode cL_law 24 = .ok (.if_icmp .gt 858, 3) := by decide +kernel
theorem dL_law_27 : decode cL_law 27 = .ok (.aload_n 0, 1) := by decide +kernel
theorem dL_law_28 : decode cL_law 28 = .ok (.iload_n 3, 1) := by decide +kernel
theorem dL_law_29 : decode cL_law 29 = .ok (.iaload, 1) := by decide +kernel
theorem dL_law_30 : decode cL_law 30 = .ok (.bipush 31, 2) := by decide +kernel
theorem dL_law_32 : decode cL_law 32 = .ok (.iand, 1) := by decide +kernel
theorem dL_law_33 : decode cL_law 33 = .ok (.tableswitch 843 0 23 #[111, 134, 197, 220, 233, 246, 279, 302, 325, 358, 391, 414, 457, 520, 573, 606, 639, 672, 705, 738, 761, 784, 807, 830], 111) := by decide +kernel
theorem dL_law_144 : decode cL_law 144 = .ok (.aload_n 1, 1) := by decide +kernel
theorem dL_law_145 : decode cL_law 145 = .ok (.aload_n 0, 1) := by decide +kernel
theorem dL_law_146 : decode cL_law 146 = .ok (.iload_n 3, 1) := by decide +kernel
theorem dL_law_147 : decode cL_law 147 = .ok (.iconst 1, 1) := by decide +kernel
theorem dL_law_148 : decode cL_law 148 = .ok (.iadd, 1) := by decide +kernel
theorem dL_law_149 : decode cL_law 149 = .ok (.iaload, 1) := by decide +kernel
theorem dL_law_150 : decode cL_law 150 = .ok (.invokevirtual 13, 3) := by decide +kernel
theorem dL_law_153 : decode cL_law 153 = .ok (.aload_n 2, 1) := by decide +kernel
theorem dL_law_154 : decode cL_law 154 = .ok (.aload_n 0, 1) := by decide +kernel
theorem dL_law_155 : decode cL_law 155 = .ok (.iload_n 3, 1) := by decide +kernel
theorem dL_law_156 : decode cL_law 156 = .ok (.iconst 1, 1) := by decide +kernel
theorem dL_law_157 : decode cL_law 157 = .ok (.iadd, 1) := by decide +kernel
theorem dL_law_158 : decode cL_law 158 = .ok (.iaload, 1) := by decide +kernel
theorem dL_law_159 : decode cL_law 159 = .ok (.invokevirtual 17, 3) := by decide +kernel
theorem dL_law_162 : decode cL_law 162 = .ok (.if_icmp .eq 714, 3) := by decide +kernel
theorem dL_law_165 : decode cL_law 165 = .ok (.iconst 0, 1) := by decide +kernel
theorem dL_law_166 : decode cL_law 166 = .ok (.ireturn, 1) := by decide +kernel
theorem dL_law_167 : decode cL_law 167 = .ok (.aload_n 1, 1) := by decide +kernel
theorem dL_law_168 : decode cL_law 168 = .ok (.aload_n 0, 1) := by decide +kernel
theorem dL_law_169 : decode cL_law 169 = .ok (.iload_n 3, 1) := by decide +kernel
theorem dL_law_170 : decode cL_law 170 = .ok (.iconst 1, 1) := by decide +kernel
theorem dL_law_171 : decode cL_law 171 = .ok (.iadd, 1) := by decide +kernel
theorem dL_law_172 : decode cL_law 172 = .ok (.iaload, 1) := by decide +kernel
theorem dL_law_173 : decode cL_law 173 = .ok (.aload_n 0, 1) := by decide +kernel
theorem dL_law_174 : decode cL_law 174 = .ok (.iload_n 3, 1) := by decide +kernel
theorem dL_law_175 : decode cL_law 175 = .ok (.iconst 2, 1) := by decide +kernel
theorem dL_law_176 : decode cL_law 176 = .ok (.iadd, 1) := by decide +kernel
theorem dL_law_177 : decode cL_law 177 = .ok (.iaload, 1) := by decide +kernel
theorem dL_law_178 : decode cL_law 178 = .ok (.aload_n 0, 1) := by decide +kernel
theorem dL_law_179 : decode cL_law 179 = .ok (.iload_n 3, 1) := by decide +kernel
theorem dL_law_180 : decode cL_law 180 = .ok (.iconst 3, 1) := by decide +kernel
theorem dL_law_181 : decode cL_law 181 = .ok (.iadd, 1) := by decide +kernel
theorem dL_law_182 : decode cL_law 182 = .ok (.iaload, 1) := by decide +kernel
theorem dL_law_183 : decode cL_law 183 = .ok (.aload_n 0, 1) := by decide +kernel
theorem dL_law_184 : decode cL_law 184 = .ok (.iload_n 3, 1) := by decide +kernel
theorem dL_law_185 : decode cL_law 185 = .ok (.iconst 4, 1) := by decide +kernel
theorem dL_law_186 : decode cL_law 186 = .ok (.iadd, 1) := by decide +kernel
theorem dL_law_187 : decode cL_law 187 = .ok (.iaload, 1) := by decide +kernel
theorem dL_law_188 : decode cL_law 188 = .ok (.aload_n 0, 1) := by decide +kernel
theorem dL_law_189 : decode cL_law 189 = .ok (.iload_n 3, 1) := by decide +kernel
theorem dL_law_190 : decode cL_law 190 = .ok (.iconst 5, 1) := by decide +kernel
theorem dL_law_191 : decode cL_law 191 = .ok (.iadd, 1) := by decide +kernel
theorem dL_law_192 : decode cL_law 192 = .ok (.iaload, 1) := by decide +kernel
theorem dL_law_193 : decode cL_law 193 = .ok (.invokevirtual 18, 3) := by decide +kernel
theorem dL_law_196 : decode cL_law 196 = .ok (.aload_n 2, 1) := by decide +kernel
theorem dL_law_197 : decode cL_law 197 = .ok (.aload_n 0, 1) := by decide +kernel
theorem dL_law_198 : decode cL_law 198 = .ok (.iload_n 3, 1) := by decide +kernel
theorem dL_law_199 : decode cL_law 199 = .ok (.iconst 1, 1) := by decide +kernel
theorem dL_law_200 : decode cL_law 200 = .ok (.iadd, 1) := by decide +kernel
theorem dL_law_201 : decode cL_law 201 = .ok (.iaload, 1) := by decide +kernel
theorem dL_law_202 : decode cL_law 202 = .ok (.aload_n 0, 1) := by decide +kernel
theorem dL_law_203 : decode cL_law 203 = .ok (.iload_n 3, 1) := by decide +kernel
theorem dL_law_204 : decode cL_law 204 = .ok (.iconst 2, 1) := by decide +kernel
theorem dL_law_205 : decode cL_law 205 = .ok (.iadd, 1) := by decide +kernel
theorem dL_law_206 : decode cL_law 206 = .ok (.iaload, 1) := by decide +kernel
theorem dL_law_207 : decode cL_law 207 = .ok (.aload_n 0, 1) := by decide +kernel
theorem dL_law_208 : decode cL_law 208 = .ok (.iload_n 3, 1) := by decide +kernel
theorem dL_law_209 : decode cL_law 209 = .ok (.iconst 3, 1) := by decide +kernel
theorem dL_law_210 : decode cL_law 210 = .ok (.iadd, 1) := by decide +kernel
theorem dL_law_211 : decode cL_law 211 = .ok (.iaload, 1) := by decide +kernel
theorem dL_law_212 : decode cL_law 212 = .ok (.aload_n 0, 1) := by decide +kernel
theorem dL_law_213 : decode cL_law 213 = .ok (.iload_n 3, 1) := by decide +kernel
theorem dL_law_214 : decode cL_law 214 = .ok (.iconst 4, 1) := by decide +kernel
theorem dL_law_215 : decode cL_law 215 = .ok (.iadd, 1) := by decide +kernel
theorem dL_law_216 : decode cL_law 216 = .ok (.iaload, 1) := by decide +kernel
theorem dL_law_217 : decode cL_law 217 = .ok (.aload_n 0, 1) := by decide +kernel
theorem dL_law_218 : decode cL_law 218 = .ok (.iload_n 3, 1) := by decide +kernel
theorem dL_law_219 : decode cL_law 219 = .ok (.iconst 5, 1) := by decide +kernel
theorem dL_law_220 : decode cL_law 220 = .ok (.iadd, 1) := by decide +kernel
theorem dL_law_221 : decode cL_law 221 = .ok (.iaload, 1) := by decide +kernel
theorem dL_law_222 : decode cL_law 222 = .ok (.invokevirtual 22, 3) := by decide +kernel
theorem dL_law_225 : decode cL_law 225 = .ok (.if_icmp .eq 651, 3) := by decide +kernel
theorem dL_law_228 : decode cL_law 228 = .ok (.iconst 0, 1) := by decide +kernel
theorem dL_law_229 : decode cL_law 229 = .ok (.ireturn, 1) := by decide +kernel
theorem dL_law_230 : decode cL_law 230 = .ok (.aload_n 1, 1) := by decide +kernel
theorem dL_law_231 : decode cL_law 231 = .ok (.aload_n 0, 1) := by decide +kernel
theorem dL_law_232 : decode cL_law 232 = .ok (.iload_n 3, 1) := by decide +kernel
theorem dL_law_233 : decode cL_law 233 = .ok (.iconst 1, 1) := by decide +kernel
theorem dL_law_234 : decode cL_law 234 = .ok (.iadd, 1) := by decide +kernel
theorem dL_law_235 : decode cL_law 235 = .ok (.iaload, 1) := by decide +kernel
theorem dL_law_236 : decode cL_law 236 = .ok (.invokevirtual 23, 3) := by decide +kernel
theorem dL_law_239 : decode cL_law 239 = .ok (.aload_n 2, 1) := by decide +kernel
theorem dL_law_240 : decode cL_law 240 = .ok (.aload_n 0, 1) := by decide +kernel
theorem dL_law_241 : decode cL_law 241 = .ok (.iload_n 3, 1) := by decide +kernel
theorem dL_law_242 : decode cL_law 242 = .ok (.iconst 1, 1) := by decide +kernel
theorem dL_law_243 : decode cL_law 243 = .ok (.iadd, 1) := by decide +kernel
theorem dL_law_244 : decode cL_law 244 = .ok (.iaload, 1) := by decide +kernel
theorem dL_law_245 : decode cL_law 245 = .ok (.invokevirtual 26, 3) := by decide +kernel
theorem dL_law_248 : decode cL_law 248 = .ok (.if_icmp .eq 628, 3) := by decide +kernel
theorem dL_law_251 : decode cL_law 251 = .ok (.iconst 0, 1) := by decide +kernel
theorem dL_law_252 : decode cL_law 252 = .ok (.ireturn, 1) := by decide +kernel
theorem dL_law_253 : decode cL_law 253 = .ok (.aload_n 1, 1) := by decide +kernel
theorem dL_law_254 : decode cL_law 254 = .ok (.invokevirtual 27, 3) := by decide +kernel
theorem dL_law_257 : decode cL_law 257 = .ok (.aload_n 2, 1) := by decide +kernel
theorem dL_law_258 : decode cL_law 258 = .ok (.invokevirtual 31, 3) := by decide +kernel
theorem dL_law_261 : decode cL_law 261 = .ok (.if_icmp .eq 615, 3) := by decide +kernel
theorem dL_law_264 : decode cL_law 264 = .ok (.iconst 0, 1) := by decide +kernel
theorem dL_law_265 : decode cL_law 265 = .ok (.ireturn, 1) := by decide +kernel
theorem dL_law_266 : decode cL_law 266 = .ok (.aload_n 1, 1) := by decide +kernel
theorem dL_law_267 : decode cL_law 267 = .ok (.invokevirtual 32, 3) := by decide +kernel
theorem dL_law_270 : decode cL_law 270 = .ok (.aload_n 2, 1) := by decide +kernel
theorem dL_law_271 : decode cL_law 271 = .ok (.invokevirtual 35, 3) := by decide +kernel
theorem dL_law_274 : decode cL_law 274 = .ok (.if_icmp .eq 602, 3) := by decide +kernel
theorem dL_law_277 : decode cL_law 277 = .ok (.iconst 0, 1) := by decide +kernel
theorem dL_law_278 : decode cL_law 278 = .ok (.ireturn, 1) := by decide +kernel
theorem dL_law_279 : decode cL_law 279 = .ok (.aload_n 1, 1) := by decide +kernel
theorem dL_law_280 : decode cL_law 280 = .ok (.aload_n 0, 1) := by decide +kernel
theorem dL_law_281 : decode cL_law 281 = .ok (.iload_n 3, 1) := by decide +kernel
theorem dL_law_282 : decode cL_law 282 = .ok (.iconst 1, 1) := by decide +kernel
theorem dL_law_283 : decode cL_law 283 = .ok (.iadd, 1) := by decide +kernel
theorem dL_law_284 : decode cL_law 284 = .ok (.iaload, 1) := by decide +kernel
theorem dL_law_285 : decode cL_law 285 = .ok (.aload_n 0, 1) := by decide +kernel
theorem dL_law_286 : decode cL_law 286 = .ok (.iload_n 3, 1) := by decide +kernel
theorem dL_law_287 : decode cL_law 287 = .ok (.iconst 2, 1) := by decide +kernel
theorem dL_law_288 : decode cL_law 288 = .ok (.iadd, 1) := by decide +kernel
theorem dL_law_289 : decode cL_law 289 = .ok (.iaload, 1) := by decide +kernel
theorem dL_law_290 : decode cL_law 290 = .ok (.invokevirtual 36, 3) := by decide +kernel
theorem dL_law_293 : decode cL_law 293 = .ok (.aload_n 2, 1) := by decide +kernel
theorem dL_law_294 : decode cL_law 294 = .ok (.aload_n 0, 1) := by decide +kernel
theorem dL_law_295 : decode cL_law 295 = .ok (.iload_n 3, 1) := by decide +kernel
theorem dL_law_296 : decode cL_law 296 = .ok (.iconst 1, 1) := by decide +kernel
theorem dL_law_297 : decode cL_law 297 = .ok (.iadd, 1) := by decide +kernel
theorem dL_law_298 : decode cL_law 298 = .ok (.iaload, 1) := by decide +kernel
theorem dL_law_299 : decode cL_law 299 = .ok (.aload_n 0, 1) := by decide +kernel
theorem dL_law_300 : decode cL_law 300 = .ok (.iload_n 3, 1) := by decide +kernel
theorem dL_law_301 : decode cL_law 301 = .ok (.iconst 2, 1) := by decide +kernel
theorem dL_law_302 : decode cL_law 302 = .ok (.iadd, 1) := by decide +kernel
theorem dL_law_303 : decode cL_law 303 = .ok (.iaload, 1) := by decide +kernel
theorem dL_law_304 : decode cL_law 304 = .ok (.invokevirtual 40, 3) := by decide +kernel
theorem dL_law_307 : decode cL_law 307 = .ok (.if_icmp .eq 569, 3) := by decide +kernel
theorem dL_law_310 : decode cL_law 310 = .ok (.iconst 0, 1) := by decide +kernel
theorem dL_law_311 : decode cL_law 311 = .ok (.ireturn, 1) := by decide +kernel
theorem dL_law_312 : decode cL_law 312 = .ok (.aload_n 1, 1) := by decide +kernel
theorem dL_law_313 : decode cL_law 313 = .ok (.aload_n 0, 1) := by decide +kernel
theorem dL_law_314 : decode cL_law 314 = .ok (.iload_n 3, 1) := by decide +kernel
theorem dL_law_315 : decode cL_law 315 = .ok (.iconst 1, 1) := by decide +kernel
theorem dL_law_316 : decode cL_law 316 = .ok (.iadd, 1) := by decide +kernel
theorem dL_law_317 : decode cL_law 317 = .ok (.iaload, 1) := by decide +kernel
theorem dL_law_318 : decode cL_law 318 = .ok (.invokevirtual 41, 3) := by decide +kernel
theorem dL_law_321 : decode cL_law 321 = .ok (.aload_n 2, 1) := by decide +kernel
theorem dL_law_322 : decode cL_law 322 = .ok (.aload_n 0, 1) := by decide +kernel
theorem dL_law_323 : decode cL_law 323 = .ok (.iload_n 3, 1) := by decide +kernel
theorem dL_law_324 : decode cL_law 324 = .ok (.iconst 1, 1) := by decide +kernel
theorem dL_law_325 : decode cL_law 325 = .ok (.iadd, 1) := by decide +kernel
theorem dL_law_326 : decode cL_law 326 = .ok (.iaload, 1) := by decide +kernel
theorem dL_law_327 : decode cL_law 327 = .ok (.invokevirtual 44, 3) := by decide +kernel
theorem dL_law_330 : decode cL_law 330 = .ok (.if_icmp .eq 546, 3) := by decide +kernel
theorem dL_law_333 : decode cL_law 333 = .ok (.iconst 0, 1) := by decide +kernel
theorem dL_law_334 : decode cL_law 334 = .ok (.ireturn, 1) := by decide +kernel
theorem dL_law_335 : decode cL_law 335 = .ok (.aload_n 1, 1) := by decide +kernel
theorem dL_law_336 : decode cL_law 336 = .ok (.aload_n 0, 1) := by decide +kernel
theorem dL_law_337 : decode cL_law 337 = .ok (.iload_n 3, 1) := by decide +kernel
theorem dL_law_338 : decode cL_law 338 = .ok (.iconst 1, 1) := by decide +kernel
theorem dL_law_339 : decode cL_law 339 = .ok (.iadd, 1) := by decide +kernel
theorem dL_law_340 : decode cL_law 340 = .ok (.iaload, 1) := by decide +kernel
theorem dL_law_341 : decode cL_law 341 = .ok (.invokevirtual 45, 3) := by decide +kernel
theorem dL_law_344 : decode cL_law 344 = .ok (.aload_n 2, 1) := by decide +kernel
theorem dL_law_345 : decode cL_law 345 = .ok (.aload_n 0, 1) := by decide +kernel
theorem dL_law_346 : decode cL_law 346 = .ok (.iload_n 3, 1) := by decide +kernel
theorem dL_law_347 : decode cL_law 347 = .ok (.iconst 1, 1) := by decide +kernel
theorem dL_law_348 : decode cL_law 348 = .ok (.iadd, 1) := by decide +kernel
theorem dL_law_349 : decode cL_law 349 = .ok (.iaload, 1) := by decide +kernel
theorem dL_law_350 : decode cL_law 350 = .ok (.invokevirtual 48, 3) := by decide +kernel
theorem dL_law_353 : decode cL_law 353 = .ok (.if_icmp .eq 523, 3) := by decide +kernel
theorem dL_law_356 : decode cL_law 356 = .ok (.iconst 0, 1) := by decide +kernel
theorem dL_law_357 : decode cL_law 357 = .ok (.ireturn, 1) := by decide +kernel
theorem dL_law_358 : decode cL_law 358 = .ok (.aload_n 1, 1) := by decide +kernel
theorem dL_law_359 : decode cL_law 359 = .ok (.aload_n 0, 1) := by decide +kernel
theorem dL_law_360 : decode cL_law 360 = .ok (.iload_n 3, 1) := by decide +kernel
theorem dL_law_361 : decode cL_law 361 = .ok (.iconst 1, 1) := by decide +kernel
theorem dL_law_362 : decode cL_law 362 = .ok (.iadd, 1) := by decide +kernel
theorem dL_law_363 : decode cL_law 363 = .ok (.iaload, 1) := by decide +kernel
theorem dL_law_364 : decode cL_law 364 = .ok (.aload_n 0, 1) := by decide +kernel
theorem dL_law_365 : decode cL_law 365 = .ok (.iload_n 3, 1) := by decide +kernel
theorem dL_law_366 : decode cL_law 366 = .ok (.iconst 2, 1) := by decide +kernel
theorem dL_law_367 : decode cL_law 367 = .ok (.iadd, 1) := by decide +kernel
theorem dL_law_368 : decode cL_law 368 = .ok (.iaload, 1) := by decide +kernel
theorem dL_law_369 : decode cL_law 369 = .ok (.invokevirtual 49, 3) := by decide +kernel
theorem dL_law_372 : decode cL_law 372 = .ok (.aload_n 2, 1) := by decide +kernel
theorem dL_law_373 : decode cL_law 373 = .ok (.aload_n 0, 1) := by decide +kernel
theorem dL_law_374 : decode cL_law 374 = .ok (.iload_n 3, 1) := by decide +kernel
theorem dL_law_375 : decode cL_law 375 = .ok (.iconst 1, 1) := by decide +kernel
theorem dL_law_376 : decode cL_law 376 = .ok (.iadd, 1) := by decide +kernel
theorem dL_law_377 : decode cL_law 377 = .ok (.iaload, 1) := by decide +kernel
theorem dL_law_378 : decode cL_law 378 = .ok (.aload_n 0, 1) := by decide +kernel
theorem dL_law_379 : decode cL_law 379 = .ok (.iload_n 3, 1) := by decide +kernel
theorem dL_law_380 : decode cL_law 380 = .ok (.iconst 2, 1) := by decide +kernel
theorem dL_law_381 : decode cL_law 381 = .ok (.iadd, 1) := by decide +kernel
theorem dL_law_382 : decode cL_law 382 = .ok (.iaload, 1) := by decide +kernel
theorem dL_law_383 : decode cL_law 383 = .ok (.invokevirtual 53, 3) := by decide +kernel
theorem dL_law_386 : decode cL_law 386 = .ok (.if_icmp .eq 490, 3) := by decide +kernel
theorem dL_law_389 : decode cL_law 389 = .ok (.iconst 0, 1) := by decide +kernel
theorem dL_law_390 : decode cL_law 390 = .ok (.ireturn, 1) := by decide +kernel
theorem dL_law_391 : decode cL_law 391 = .ok (.aload_n 1, 1) := by decide +kernel
theorem dL_law_392 : decode cL_law 392 = .ok (.aload_n 0, 1) := by decide +kernel
theorem dL_law_393 : decode cL_law 393 = .ok (.iload_n 3, 1) := by decide +kernel
theorem dL_law_394 : decode cL_law 394 = .ok (.iconst 1, 1) := by decide +kernel
theorem dL_law_395 : decode cL_law 395 = .ok (.iadd, 1) := by decide +kernel
theorem dL_law_396 : decode cL_law 396 = .ok (.iaload, 1) := by decide +kernel
theorem dL_law_397 : decode cL_law 397 = .ok (.aload_n 0, 1) := by decide +kernel
theorem dL_law_398 : decode cL_law 398 = .ok (.iload_n 3, 1) := by decide +kernel
theorem dL_law_399 : decode cL_law 399 = .ok (.iconst 2, 1) := by decide +kernel
theorem dL_law_400 : decode cL_law 400 = .ok (.iadd, 1) := by decide +kernel
theorem dL_law_401 : decode cL_law 401 = .ok (.iaload, 1) := by decide +kernel
theorem dL_law_402 : decode cL_law 402 = .ok (.invokevirtual 54, 3) := by decide +kernel
theorem dL_law_405 : decode cL_law 405 = .ok (.aload_n 2, 1) := by decide +kernel
theorem dL_law_406 : decode cL_law 406 = .ok (.aload_n 0, 1) := by decide +kernel
theorem dL_law_407 : decode cL_law 407 = .ok (.iload_n 3, 1) := by decide +kernel
theorem dL_law_408 : decode cL_law 408 = .ok (.iconst 1, 1) := by decide +kernel
theorem dL_law_409 : decode cL_law 409 = .ok (.iadd, 1) := by decide +kernel
theorem dL_law_410 : decode cL_law 410 = .ok (.iaload, 1) := by decide +kernel
theorem dL_law_411 : decode cL_law 411 = .ok (.aload_n 0, 1) := by decide +kernel
theorem dL_law_412 : decode cL_law 412 = .ok (.iload_n 3, 1) := by decide +kernel
theorem dL_law_413 : decode cL_law 413 = .ok (.iconst 2, 1) := by decide +kernel
theorem dL_law_414 : decode cL_law 414 = .ok (.iadd, 1) := by decide +kernel
theorem dL_law_415 : decode cL_law 415 = .ok (.iaload, 1) := by decide +kernel
theorem dL_law_416 : decode cL_law 416 = .ok (.invokevirtual 57, 3) := by decide +kernel
theorem dL_law_419 : decode cL_law 419 = .ok (.if_icmp .eq 457, 3) := by decide +kernel
theorem dL_law_422 : decode cL_law 422 = .ok (.iconst 0, 1) := by decide +kernel
theorem dL_law_423 : decode cL_law 423 = .ok (.ireturn, 1) := by decide +kernel
theorem dL_law_424 : decode cL_law 424 = .ok (.aload_n 1, 1) := by decide +kernel
theorem dL_law_425 : decode cL_law 425 = .ok (.aload_n 0, 1) := by decide +kernel
theorem dL_law_426 : decode cL_law 426 = .ok (.iload_n 3, 1) := by decide +kernel
theorem dL_law_427 : decode cL_law 427 = .ok (.iconst 1, 1) := by decide +kernel
theorem dL_law_428 : decode cL_law 428 = .ok (.iadd, 1) := by decide +kernel
theorem dL_law_429 : decode cL_law 429 = .ok (.iaload, 1) := by decide +kernel
theorem dL_law_430 : decode cL_law 430 = .ok (.invokevirtual 58, 3) := by decide +kernel
theorem dL_law_433 : decode cL_law 433 = .ok (.aload_n 2, 1) := by decide +kernel
theorem dL_law_434 : decode cL_law 434 = .ok (.aload_n 0, 1) := by decide +kernel
theorem dL_law_435 : decode cL_law 435 = .ok (.iload_n 3, 1) := by decide +kernel
theorem dL_law_436 : decode cL_law 436 = .ok (.iconst 1, 1) := by decide +kernel
theorem dL_law_437 : decode cL_law 437 = .ok (.iadd, 1) := by decide +kernel
theorem dL_law_438 : decode cL_law 438 = .ok (.iaload, 1) := by decide +kernel
theorem dL_law_439 : decode cL_law 439 = .ok (.invokevirtual 61, 3) := by decide +kernel
theorem dL_law_442 : decode cL_law 442 = .ok (.if_icmp .eq 434, 3) := by decide +kernel
theorem dL_law_445 : decode cL_law 445 = .ok (.iconst 0, 1) := by decide +kernel
theorem dL_law_446 : decode cL_law 446 = .ok (.ireturn, 1) := by decide +kernel
theorem dL_law_447 : decode cL_law 447 = .ok (.aload_n 1, 1) := by decide +kernel
theorem dL_law_448 : decode cL_law 448 = .ok (.aload_n 0, 1) := by decide +kernel
theorem dL_law_449 : decode cL_law 449 = .ok (.iload_n 3, 1) := by decide +kernel
theorem dL_law_450 : decode cL_law 450 = .ok (.iconst 1, 1) := by decide +kernel
theorem dL_law_451 : decode cL_law 451 = .ok (.iadd, 1) := by decide +kernel
theorem dL_law_452 : decode cL_law 452 = .ok (.iaload, 1) := by decide +kernel
theorem dL_law_453 : decode cL_law 453 = .ok (.aload_n 0, 1) := by decide +kernel
theorem dL_law_454 : decode cL_law 454 = .ok (.iload_n 3, 1) := by decide +kernel
theorem dL_law_455 : decode cL_law 455 = .ok (.iconst 2, 1) := by decide +kernel
theorem dL_law_456 : decode cL_law 456 = .ok (.iadd, 1) := by decide +kernel
theorem dL_law_457 : decode cL_law 457 = .ok (.iaload, 1) := by decide +kernel
theorem dL_law_458 : decode cL_law 458 = .ok (.aload_n 0, 1) := by decide +kernel
theorem dL_law_459 : decode cL_law 459 = .ok (.iload_n 3, 1) := by decide +kernel
theorem dL_law_460 : decode cL_law 460 = .ok (.iconst 3, 1) := by decide +kernel
theorem dL_law_461 : decode cL_law 461 = .ok (.iadd, 1) := by decide +kernel
theorem dL_law_462 : decode cL_law 462 = .ok (.iaload, 1) := by decide +kernel
theorem dL_law_463 : decode cL_law 463 = .ok (.invokevirtual 62, 3) := by decide +kernel
theorem dL_law_466 : decode cL_law 466 = .ok (.aload_n 2, 1) := by decide +kernel
theorem dL_law_467 : decode cL_law 467 = .ok (.aload_n 0, 1) := by decide +kernel
theorem dL_law_468 : decode cL_law 468 = .ok (.iload_n 3, 1) := by decide +kernel
theorem dL_law_469 : decode cL_law 469 = .ok (.iconst 1, 1) := by decide +kernel
theorem dL_law_470 : decode cL_law 470 = .ok (.iadd, 1) := by decide +kernel
theorem dL_law_471 : decode cL_law 471 = .ok (.iaload, 1) := by decide +kernel
theorem dL_law_472 : decode cL_law 472 = .ok (.aload_n 0, 1) := by decide +kernel
theorem dL_law_473 : decode cL_law 473 = .ok (.iload_n 3, 1) := by decide +kernel
theorem dL_law_474 : decode cL_law 474 = .ok (.iconst 2, 1) := by decide +kernel
theorem dL_law_475 : decode cL_law 475 = .ok (.iadd, 1) := by decide +kernel
theorem dL_law_476 : decode cL_law 476 = .ok (.iaload, 1) := by decide +kernel
theorem dL_law_477 : decode cL_law 477 = .ok (.aload_n 0, 1) := by decide +kernel
theorem dL_law_478 : decode cL_law 478 = .ok (.iload_n 3, 1) := by decide +kernel
theorem dL_law_479 : decode cL_law 479 = .ok (.iconst 3, 1) := by decide +kernel
theorem dL_law_480 : decode cL_law 480 = .ok (.iadd, 1) := by decide +kernel
theorem dL_law_481 : decode cL_law 481 = .ok (.iaload, 1) := by decide +kernel
theorem dL_law_482 : decode cL_law 482 = .ok (.invokevirtual 66, 3) := by decide +kernel
theorem dL_law_485 : decode cL_law 485 = .ok (.if_icmp .eq 391, 3) := by decide +kernel
theorem dL_law_488 : decode cL_law 488 = .ok (.iconst 0, 1) := by decide +kernel
theorem dL_law_489 : decode cL_law 489 = .ok (.ireturn, 1) := by decide +kernel
theorem dL_law_490 : decode cL_law 490 = .ok (.aload_n 1, 1) := by decide +kernel
theorem dL_law_491 : decode cL_law 491 = .ok (.aload_n 0, 1) := by decide +kernel
theorem dL_law_492 : decode cL_law 492 = .ok (.iload_n 3, 1) := by decide +kernel
theorem dL_law_493 : decode cL_law 493 = .ok (.iconst 1, 1) := by decide +kernel
theorem dL_law_494 : decode cL_law 494 = .ok (.iadd, 1) := by decide +kernel
theorem dL_law_495 : decode cL_law 495 = .ok (.iaload, 1) := by decide +kernel
theorem dL_law_496 : decode cL_law 496 = .ok (.aload_n 0, 1) := by decide +kernel
theorem dL_law_497 : decode cL_law 497 = .ok (.iload_n 3, 1) := by decide +kernel
theorem dL_law_498 : decode cL_law 498 = .ok (.iconst 2, 1) := by decide +kernel
theorem dL_law_499 : decode cL_law 499 = .ok (.iadd, 1) := by decide +kernel
theorem dL_law_500 : decode cL_law 500 = .ok (.iaload, 1) := by decide +kernel
theorem dL_law_501 : decode cL_law 501 = .ok (.aload_n 0, 1) := by decide +kernel
theorem dL_law_502 : decode cL_law 502 = .ok (.iload_n 3, 1) := by decide +kernel
theorem dL_law_503 : decode cL_law 503 = .ok (.iconst 3, 1) := by decide +kernel
theorem dL_law_504 : decode cL_law 504 = .ok (.iadd, 1) := by decide +kernel
theorem dL_law_505 : decode cL_law 505 = .ok (.iaload, 1) := by decide +kernel
theorem dL_law_506 : decode cL_law 506 = .ok (.aload_n 0, 1) := by decide +kernel
theorem dL_law_507 : decode cL_law 507 = .ok (.iload_n 3, 1) := by decide +kernel
theorem dL_law_508 : decode cL_law 508 = .ok (.iconst 4, 1) := by decide +kernel
theorem dL_law_509 : decode cL_law 509 = .ok (.iadd, 1) := by decide +kernel
theorem dL_law_510 : decode cL_law 510 = .ok (.iaload, 1) := by decide +kernel
theorem dL_law_511 : decode cL_law 511 = .ok (.aload_n 0, 1) := by decide +kernel
theorem dL_law_512 : decode cL_law 512 = .ok (.iload_n 3, 1) := by decide +kernel
theorem dL_law_513 : decode cL_law 513 = .ok (.iconst 5, 1) := by decide +kernel
theorem dL_law_514 : decode cL_law 514 = .ok (.iadd, 1) := by decide +kernel
theorem dL_law_515 : decode cL_law 515 = .ok (.iaload, 1) := by decide +kernel
theorem dL_law_516 : decode cL_law 516 = .ok (.invokevirtual 67, 3) := by decide +kernel
theorem dL_law_519 : decode cL_law 519 = .ok (.aload_n 2, 1) := by decide +kernel
theorem dL_law_520 : decode cL_law 520 = .ok (.aload_n 0, 1) := by decide +kernel
theorem dL_law_521 : decode cL_law 521 = .ok (.iload_n 3, 1) := by decide +kernel
theorem dL_law_522 : decode cL_law 522 = .ok (.iconst 1, 1) := by decide +kernel
theorem dL_law_523 : decode cL_law 523 = .ok (.iadd, 1) := by decide +kernel
theorem dL_law_524 : decode cL_law 524 = .ok (.iaload, 1) := by decide +kernel
theorem dL_law_525 : decode cL_law 525 = .ok (.aload_n 0, 1) := by decide +kernel
theorem dL_law_526 : decode cL_law 526 = .ok (.iload_n 3, 1) := by decide +kernel
theorem dL_law_527 : decode cL_law 527 = .ok (.iconst 2, 1) := by decide +kernel
theorem dL_law_528 : decode cL_law 528 = .ok (.iadd, 1) := by decide +kernel
theorem dL_law_529 : decode cL_law 529 = .ok (.iaload, 1) := by decide +kernel
theorem dL_law_530 : decode cL_law 530 = .ok (.aload_n 0, 1) := by decide +kernel
theorem dL_law_531 : decode cL_law 531 = .ok (.iload_n 3, 1) := by decide +kernel
theorem dL_law_532 : decode cL_law 532 = .ok (.iconst 3, 1) := by decide +kernel
theorem dL_law_533 : decode cL_law 533 = .ok (.iadd, 1) := by decide +kernel
theorem dL_law_534 : decode cL_law 534 = .ok (.iaload, 1) := by decide +kernel
theorem dL_law_535 : decode cL_law 535 = .ok (.aload_n 0, 1) := by decide +kernel
theorem dL_law_536 : decode cL_law 536 = .ok (.iload_n 3, 1) := by decide +kernel
theorem dL_law_537 : decode cL_law 537 = .ok (.iconst 4, 1) := by decide +kernel
theorem dL_law_538 : decode cL_law 538 = .ok (.iadd, 1) := by decide +kernel
theorem dL_law_539 : decode cL_law 539 = .ok (.iaload, 1) := by decide +kernel
theorem dL_law_540 : decode cL_law 540 = .ok (.aload_n 0, 1) := by decide +kernel
theorem dL_law_541 : decode cL_law 541 = .ok (.iload_n 3, 1) := by decide +kernel
theorem dL_law_542 : decode cL_law 542 = .ok (.iconst 5, 1) := by decide +kernel
theorem dL_law_543 : decode cL_law 543 = .ok (.iadd, 1) := by decide +kernel
theorem dL_law_544 : decode cL_law 544 = .ok (.iaload, 1) := by decide +kernel
theorem dL_law_545 : decode cL_law 545 = .ok (.invokevirtual 70, 3) := by decide +kernel
theorem dL_law_548 : decode cL_law 548 = .ok (.if_icmp .eq 328, 3) := by decide +kernel
theorem dL_law_551 : decode cL_law 551 = .ok (.iconst 0, 1) := by decide +kernel
theorem dL_law_552 : decode cL_law 552 = .ok (.ireturn, 1) := by decide +kernel
theorem dL_law_553 : decode cL_law 553 = .ok (.aload_n 1, 1) := by decide +kernel
theorem dL_law_554 : decode cL_law 554 = .ok (.aload_n 0, 1) := by decide +kernel
theorem dL_law_555 : decode cL_law 555 = .ok (.iload_n 3, 1) := by decide +kernel
theorem dL_law_556 : decode cL_law 556 = .ok (.iconst 1, 1) := by decide +kernel
theorem dL_law_557 : decode cL_law 557 = .ok (.iadd, 1) := by decide +kernel
theorem dL_law_558 : decode cL_law 558 = .ok (.iaload, 1) := by decide +kernel
theorem dL_law_559 : decode cL_law 559 = .ok (.aload_n 0, 1) := by decide +kernel
theorem dL_law_560 : decode cL_law 560 = .ok (.iload_n 3, 1) := by decide +kernel
theorem dL_law_561 : decode cL_law 561 = .ok (.iconst 2, 1) := by decide +kernel
theorem dL_law_562 : decode cL_law 562 = .ok (.iadd, 1) := by decide +kernel
theorem dL_law_563 : decode cL_law 563 = .ok (.iaload, 1) := by decide +kernel
theorem dL_law_564 : decode cL_law 564 = .ok (.aload_n 0, 1) := by decide +kernel
theorem dL_law_565 : decode cL_law 565 = .ok (.iload_n 3, 1) := by decide +kernel
theorem dL_law_566 : decode cL_law 566 = .ok (.iconst 3, 1) := by decide +kernel
theorem dL_law_567 : decode cL_law 567 = .ok (.iadd, 1) := by decide +kernel
theorem dL_law_568 : decode cL_law 568 = .ok (.iaload, 1) := by decide +kernel
theorem dL_law_569 : decode cL_law 569 = .ok (.aload_n 0, 1) := by decide +kernel
theorem dL_law_570 : decode cL_law 570 = .ok (.iload_n 3, 1) := by decide +kernel
theorem dL_law_571 : decode cL_law 571 = .ok (.iconst 4, 1) := by decide +kernel
theorem dL_law_572 : decode cL_law 572 = .ok (.iadd, 1) := by decide +kernel
theorem dL_law_573 : decode cL_law 573 = .ok (.iaload, 1) := by decide +kernel
theorem dL_law_574 : decode cL_law 574 = .ok (.invokevirtual 71, 3) := by decide +kernel
theorem dL_law_577 : decode cL_law 577 = .ok (.aload_n 2, 1) := by decide +kernel
theorem dL_law_578 : decode cL_law 578 = .ok (.aload_n 0, 1) := by decide +kernel
theorem dL_law_579 : decode cL_law 579 = .ok (.iload_n 3, 1) := by decide +kernel
theorem dL_law_580 : decode cL_law 580 = .ok (.iconst 1, 1) := by decide +kernel
theorem dL_law_581 : decode cL_law 581 = .ok (.iadd, 1) := by decide +kernel
theorem dL_law_582 : decode cL_law 582 = .ok (.iaload, 1) := by decide +kernel
theorem dL_law_583 : decode cL_law 583 = .ok (.aload_n 0, 1) := by decide +kernel
theorem dL_law_584 : decode cL_law 584 = .ok (.iload_n 3, 1) := by decide +kernel
theorem dL_law_585 : decode cL_law 585 = .ok (.iconst 2, 1) := by decide +kernel
theorem dL_law_586 : decode cL_law 586 = .ok (.iadd, 1) := by decide +kernel
theorem dL_law_587 : decode cL_law 587 = .ok (.iaload, 1) := by decide +kernel
theorem dL_law_588 : decode cL_law 588 = .ok (.aload_n 0, 1) := by decide +kernel
theorem dL_law_589 : decode cL_law 589 = .ok (.iload_n 3, 1) := by decide +kernel
theorem dL_law_590 : decode cL_law 590 = .ok (.iconst 3, 1) := by decide +kernel
theorem dL_law_591 : decode cL_law 591 = .ok (.iadd, 1) := by decide +kernel
theorem dL_law_592 : decode cL_law 592 = .ok (.iaload, 1) := by decide +kernel
theorem dL_law_593 : decode cL_law 593 = .ok (.aload_n 0, 1) := by decide +kernel
theorem dL_law_594 : decode cL_law 594 = .ok (.iload_n 3, 1) := by decide +kernel
theorem dL_law_595 : decode cL_law 595 = .ok (.iconst 4, 1) := by decide +kernel
theorem dL_law_596 : decode cL_law 596 = .ok (.iadd, 1) := by decide +kernel
theorem dL_law_597 : decode cL_law 597 = .ok (.iaload, 1) := by decide +kernel
theorem dL_law_598 : decode cL_law 598 = .ok (.invokevirtual 75, 3) := by decide +kernel
theorem dL_law_601 : decode cL_law 601 = .ok (.if_icmp .eq 275, 3) := by decide +kernel
theorem dL_law_604 : decode cL_law 604 = .ok (.iconst 0, 1) := by decide +kernel
theorem dL_law_605 : decode cL_law 605 = .ok (.ireturn, 1) := by decide +kernel
theorem dL_law_606 : decode cL_law 606 = .ok (.aload_n 1, 1) := by decide +kernel
theorem dL_law_607 : decode cL_law 607 = .ok (.aload_n 0, 1) := by decide +kernel
theorem dL_law_608 : decode cL_law 608 = .ok (.iload_n 3, 1) := by decide +kernel
theorem dL_law_609 : decode cL_law 609 = .ok (.iconst 1, 1) := by decide +kernel
theorem dL_law_610 : decode cL_law 610 = .ok (.iadd, 1) := by decide +kernel
theorem dL_law_611 : decode cL_law 611 = .ok (.iaload, 1) := by decide +kernel
theorem dL_law_612 : decode cL_law 612 = .ok (.aload_n 0, 1) := by decide +kernel
theorem dL_law_613 : decode cL_law 613 = .ok (.iload_n 3, 1) := by decide +kernel
theorem dL_law_614 : decode cL_law 614 = .ok (.iconst 2, 1) := by decide +kernel
theorem dL_law_615 : decode cL_law 615 = .ok (.iadd, 1) := by decide +kernel
theorem dL_law_616 : decode cL_law 616 = .ok (.iaload, 1) := by decide +kernel
theorem dL_law_617 : decode cL_law 617 = .ok (.invokevirtual 76, 3) := by decide +kernel
theorem dL_law_620 : decode cL_law 620 = .ok (.aload_n 2, 1) := by decide +kernel
theorem dL_law_621 : decode cL_law 621 = .ok (.aload_n 0, 1) := by decide +kernel
theorem dL_law_622 : decode cL_law 622 = .ok (.iload_n 3, 1) := by decide +kernel
theorem dL_law_623 : decode cL_law 623 = .ok (.iconst 1, 1) := by decide +kernel
theorem dL_law_624 : decode cL_law 624 = .ok (.iadd, 1) := by decide +kernel
theorem dL_law_625 : decode cL_law 625 = .ok (.iaload, 1) := by decide +kernel
theorem dL_law_626 : decode cL_law 626 = .ok (.aload_n 0, 1) := by decide +kernel
theorem dL_law_627 : decode cL_law 627 = .ok (.iload_n 3, 1) := by decide +kernel
theorem dL_law_628 : decode cL_law 628 = .ok (.iconst 2, 1) := by decide +kernel
theorem dL_law_629 : decode cL_law 629 = .ok (.iadd, 1) := by decide +kernel
theorem dL_law_630 : decode cL_law 630 = .ok (.iaload, 1) := by decide +kernel
theorem dL_law_631 : decode cL_law 631 = .ok (.invokevirtual 79, 3) := by decide +kernel
theorem dL_law_634 : decode cL_law 634 = .ok (.if_icmp .eq 242, 3) := by decide +kernel
theorem dL_law_637 : decode cL_law 637 = .ok (.iconst 0, 1) := by decide +kernel
theorem dL_law_638 : decode cL_law 638 = .ok (.ireturn, 1) := by decide +kernel
theorem dL_law_639 : decode cL_law 639 = .ok (.aload_n 1, 1) := by decide +kernel
theorem dL_law_640 : decode cL_law 640 = .ok (.aload_n 0, 1) := by decide +kernel
theorem dL_law_641 : decode cL_law 641 = .ok (.iload_n 3, 1) := by decide +kernel
theorem dL_law_642 : decode cL_law 642 = .ok (.iconst 1, 1) := by decide +kernel
theorem dL_law_643 : decode cL_law 643 = .ok (.iadd, 1) := by decide +kernel
theorem dL_law_644 : decode cL_law 644 = .ok (.iaload, 1) := by decide +kernel
theorem dL_law_645 : decode cL_law 645 = .ok (.aload_n 0, 1) := by decide +kernel
theorem dL_law_646 : decode cL_law 646 = .ok (.iload_n 3, 1) := by decide +kernel
theorem dL_law_647 : decode cL_law 647 = .ok (.iconst 2, 1) := by decide +kernel
theorem dL_law_648 : decode cL_law 648 = .ok (.iadd, 1) := by decide +kernel
theorem dL_law_649 : decode cL_law 649 = .ok (.iaload, 1) := by decide +kernel
theorem dL_law_650 : decode cL_law 650 = .ok (.invokevirtual 80, 3) := by decide +kernel
theorem dL_law_653 : decode cL_law 653 = .ok (.aload_n 2, 1) := by decide +kernel
theorem dL_law_654 : decode cL_law 654 = .ok (.aload_n 0, 1) := by decide +kernel
theorem dL_law_655 : decode cL_law 655 = .ok (.iload_n 3, 1) := by decide +kernel
theorem dL_law_656 : decode cL_law 656 = .ok (.iconst 1, 1) := by decide +kernel
theorem dL_law_657 : decode cL_law 657 = .ok (.iadd, 1) := by decide +kernel
theorem dL_law_658 : decode cL_law 658 = .ok (.iaload, 1) := by decide +kernel
theorem dL_law_659 : decode cL_law 659 = .ok (.aload_n 0, 1) := by decide +kernel
theorem dL_law_660 : decode cL_law 660 = .ok (.iload_n 3, 1) := by decide +kernel
theorem dL_law_661 : decode cL_law 661 = .ok (.iconst 2, 1) := by decide +kernel
theorem dL_law_662 : decode cL_law 662 = .ok (.iadd, 1) := by decide +kernel
theorem dL_law_663 : decode cL_law 663 = .ok (.iaload, 1) := by decide +kernel
theorem dL_law_664 : decode cL_law 664 = .ok (.invokevirtual 83, 3) := by decide +kernel
theorem dL_law_667 : decode cL_law 667 = .ok (.if_icmp .eq 209, 3) := by decide +kernel
theorem dL_law_670 : decode cL_law 670 = .ok (.iconst 0, 1) := by decide +kernel
theorem dL_law_671 : decode cL_law 671 = .ok (.ireturn, 1) := by decide +kernel
theorem dL_law_672 : decode cL_law 672 = .ok (.aload_n 1, 1) := by decide +kernel
theorem dL_law_673 : decode cL_law 673 = .ok (.aload_n 0, 1) := by decide +kernel
theorem dL_law_674 : decode cL_law 674 = .ok (.iload_n 3, 1) := by decide +kernel
theorem dL_law_675 : decode cL_law 675 = .ok (.iconst 1, 1) := by decide +kernel
theorem dL_law_676 : decode cL_law 676 = .ok (.iadd, 1) := by decide +kernel
theorem dL_law_677 : decode cL_law 677 = .ok (.iaload, 1) := by decide +kernel
theorem dL_law_678 : decode cL_law 678 = .ok (.aload_n 0, 1) := by decide +kernel
theorem dL_law_679 : decode cL_law 679 = .ok (.iload_n 3, 1) := by decide +kernel
theorem dL_law_680 : decode cL_law 680 = .ok (.iconst 2, 1) := by decide +kernel
theorem dL_law_681 : decode cL_law 681 = .ok (.iadd, 1) := by decide +kernel
theorem dL_law_682 : decode cL_law 682 = .ok (.iaload, 1) := by decide +kernel
theorem dL_law_683 : decode cL_law 683 = .ok (.invokevirtual 84, 3) := by decide +kernel
theorem dL_law_686 : decode cL_law 686 = .ok (.aload_n 2, 1) := by decide +kernel
theorem dL_law_687 : decode cL_law 687 = .ok (.aload_n 0, 1) := by decide +kernel
theorem dL_law_688 : decode cL_law 688 = .ok (.iload_n 3, 1) := by decide +kernel
theorem dL_law_689 : decode cL_law 689 = .ok (.iconst 1, 1) := by decide +kernel
theorem dL_law_690 : decode cL_law 690 = .ok (.iadd, 1) := by decide +kernel
theorem dL_law_691 : decode cL_law 691 = .ok (.iaload, 1) := by decide +kernel
theorem dL_law_692 : decode cL_law 692 = .ok (.aload_n 0, 1) := by decide +kernel
theorem dL_law_693 : decode cL_law 693 = .ok (.iload_n 3, 1) := by decide +kernel
theorem dL_law_694 : decode cL_law 694 = .ok (.iconst 2, 1) := by decide +kernel
theorem dL_law_695 : decode cL_law 695 = .ok (.iadd, 1) := by decide +kernel
theorem dL_law_696 : decode cL_law 696 = .ok (.iaload, 1) := by decide +kernel
theorem dL_law_697 : decode cL_law 697 = .ok (.invokevirtual 87, 3) := by decide +kernel
theorem dL_law_700 : decode cL_law 700 = .ok (.if_icmp .eq 176, 3) := by decide +kernel
theorem dL_law_703 : decode cL_law 703 = .ok (.iconst 0, 1) := by decide +kernel
theorem dL_law_704 : decode cL_law 704 = .ok (.ireturn, 1) := by decide +kernel
theorem dL_law_705 : decode cL_law 705 = .ok (.aload_n 1, 1) := by decide +kernel
theorem dL_law_706 : decode cL_law 706 = .ok (.aload_n 0, 1) := by decide +kernel
theorem dL_law_707 : decode cL_law 707 = .ok (.iload_n 3, 1) := by decide +kernel
theorem dL_law_708 : decode cL_law 708 = .ok (.iconst 1, 1) := by decide +kernel
theorem dL_law_709 : decode cL_law 709 = .ok (.iadd, 1) := by decide +kernel
theorem dL_law_710 : decode cL_law 710 = .ok (.iaload, 1) := by decide +kernel
theorem dL_law_711 : decode cL_law 711 = .ok (.aload_n 0, 1) := by decide +kernel
theorem dL_law_712 : decode cL_law 712 = .ok (.iload_n 3, 1) := by decide +kernel
theorem dL_law_713 : decode cL_law 713 = .ok (.iconst 2, 1) := by decide +kernel
theorem dL_law_714 : decode cL_law 714 = .ok (.iadd, 1) := by decide +kernel
theorem dL_law_715 : decode cL_law 715 = .ok (.iaload, 1) := by decide +kernel
theorem dL_law_716 : decode cL_law 716 = .ok (.invokevirtual 88, 3) := by decide +kernel
theorem dL_law_719 : decode cL_law 719 = .ok (.aload_n 2, 1) := by decide +kernel
theorem dL_law_720 : decode cL_law 720 = .ok (.aload_n 0, 1) := by decide +kernel
theorem dL_law_721 : decode cL_law 721 = .ok (.iload_n 3, 1) := by decide +kernel
theorem dL_law_722 : decode cL_law 722 = .ok (.iconst 1, 1) := by decide +kernel
theorem dL_law_723 : decode cL_law 723 = .ok (.iadd, 1) := by decide +kernel
theorem dL_law_724 : decode cL_law 724 = .ok (.iaload, 1) := by decide +kernel
theorem dL_law_725 : decode cL_law 725 = .ok (.aload_n 0, 1) := by decide +kernel
theorem dL_law_726 : decode cL_law 726 = .ok (.iload_n 3, 1) := by decide +kernel
theorem dL_law_727 : decode cL_law 727 = .ok (.iconst 2, 1) := by decide +kernel
theorem dL_law_728 : decode cL_law 728 = .ok (.iadd, 1) := by decide +kernel
theorem dL_law_729 : decode cL_law 729 = .ok (.iaload, 1) := by decide +kernel
theorem dL_law_730 : decode cL_law 730 = .ok (.invokevirtual 91, 3) := by decide +kernel
theorem dL_law_733 : decode cL_law 733 = .ok (.if_icmp .eq 143, 3) := by decide +kernel
theorem dL_law_736 : decode cL_law 736 = .ok (.iconst 0, 1) := by decide +kernel
theorem dL_law_737 : decode cL_law 737 = .ok (.ireturn, 1) := by decide +kernel
theorem dL_law_738 : decode cL_law 738 = .ok (.aload_n 1, 1) := by decide +kernel
theorem dL_law_739 : decode cL_law 739 = .ok (.aload_n 0, 1) := by decide +kernel
theorem dL_law_740 : decode cL_law 740 = .ok (.iload_n 3, 1) := by decide +kernel
theorem dL_law_741 : decode cL_law 741 = .ok (.iconst 1, 1) := by decide +kernel
theorem dL_law_742 : decode cL_law 742 = .ok (.iadd, 1) := by decide +kernel
theorem dL_law_743 : decode cL_law 743 = .ok (.iaload, 1) := by decide +kernel
theorem dL_law_744 : decode cL_law 744 = .ok (.aload_n 0, 1) := by decide +kernel
theorem dL_law_745 : decode cL_law 745 = .ok (.iload_n 3, 1) := by decide +kernel
theorem dL_law_746 : decode cL_law 746 = .ok (.iconst 2, 1) := by decide +kernel
theorem dL_law_747 : decode cL_law 747 = .ok (.iadd, 1) := by decide +kernel
theorem dL_law_748 : decode cL_law 748 = .ok (.iaload, 1) := by decide +kernel
theorem dL_law_749 : decode cL_law 749 = .ok (.invokevirtual 92, 3) := by decide +kernel
theorem dL_law_752 : decode cL_law 752 = .ok (.aload_n 2, 1) := by decide +kernel
theorem dL_law_753 : decode cL_law 753 = .ok (.aload_n 0, 1) := by decide +kernel
theorem dL_law_754 : decode cL_law 754 = .ok (.iload_n 3, 1) := by decide +kernel
theorem dL_law_755 : decode cL_law 755 = .ok (.iconst 1, 1) := by decide +kernel
theorem dL_law_756 : decode cL_law 756 = .ok (.iadd, 1) := by decide +kernel
theorem dL_law_757 : decode cL_law 757 = .ok (.iaload, 1) := by decide +kernel
theorem dL_law_758 : decode cL_law 758 = .ok (.aload_n 0, 1) := by decide +kernel
theorem dL_law_759 : decode cL_law 759 = .ok (.iload_n 3, 1) := by decide +kernel
theorem dL_law_760 : decode cL_law 760 = .ok (.iconst 2, 1) := by decide +kernel
theorem dL_law_761 : decode cL_law 761 = .ok (.iadd, 1) := by decide +kernel
theorem dL_law_762 : decode cL_law 762 = .ok (.iaload, 1) := by decide +kernel
theorem dL_law_763 : decode cL_law 763 = .ok (.invokevirtual 95, 3) := by decide +kernel
theorem dL_law_766 : decode cL_law 766 = .ok (.if_icmp .eq 110, 3) := by decide +kernel
theorem dL_law_769 : decode cL_law 769 = .ok (.iconst 0, 1) := by decide +kernel
theorem dL_law_770 : decode cL_law 770 = .ok (.ireturn, 1) := by decide +kernel
theorem dL_law_771 : decode cL_law 771 = .ok (.aload_n 1, 1) := by decide +kernel
theorem dL_law_772 : decode cL_law 772 = .ok (.aload_n 0, 1) := by decide +kernel
theorem dL_law_773 : decode cL_law 773 = .ok (.iload_n 3, 1) := by decide +kernel
theorem dL_law_774 : decode cL_law 774 = .ok (.iconst 1, 1) := by decide +kernel
theorem dL_law_775 : decode cL_law 775 = .ok (.iadd, 1) := by decide +kernel
theorem dL_law_776 : decode cL_law 776 = .ok (.iaload, 1) := by decide +kernel
theorem dL_law_777 : decode cL_law 777 = .ok (.invokevirtual 96, 3) := by decide +kernel
theorem dL_law_780 : decode cL_law 780 = .ok (.aload_n 2, 1) := by decide +kernel
theorem dL_law_781 : decode cL_law 781 = .ok (.aload_n 0, 1) := by decide +kernel
theorem dL_law_782 : decode cL_law 782 = .ok (.iload_n 3, 1) := by decide +kernel
theorem dL_law_783 : decode cL_law 783 = .ok (.iconst 1, 1) := by decide +kernel
theorem dL_law_784 : decode cL_law 784 = .ok (.iadd, 1) := by decide +kernel
theorem dL_law_785 : decode cL_law 785 = .ok (.iaload, 1) := by decide +kernel
theorem dL_law_786 : decode cL_law 786 = .ok (.invokevirtual 99, 3) := by decide +kernel
theorem dL_law_789 : decode cL_law 789 = .ok (.if_icmp .eq 87, 3) := by decide +kernel
theorem dL_law_792 : decode cL_law 792 = .ok (.iconst 0, 1) := by decide +kernel
theorem dL_law_793 : decode cL_law 793 = .ok (.ireturn, 1) := by decide +kernel
theorem dL_law_794 : decode cL_law 794 = .ok (.aload_n 1, 1) := by decide +kernel
theorem dL_law_795 : decode cL_law 795 = .ok (.aload_n 0, 1) := by decide +kernel
theorem dL_law_796 : decode cL_law 796 = .ok (.iload_n 3, 1) := by decide +kernel
theorem dL_law_797 : decode cL_law 797 = .ok (.iconst 1, 1) := by decide +kernel
theorem dL_law_798 : decode cL_law 798 = .ok (.iadd, 1) := by decide +kernel
theorem dL_law_799 : decode cL_law 799 = .ok (.iaload, 1) := by decide +kernel
theorem dL_law_800 : decode cL_law 800 = .ok (.invokevirtual 100, 3) := by decide +kernel
theorem dL_law_803 : decode cL_law 803 = .ok (.aload_n 2, 1) := by decide +kernel
theorem dL_law_804 : decode cL_law 804 = .ok (.aload_n 0, 1) := by decide +kernel
theorem dL_law_805 : decode cL_law 805 = .ok (.iload_n 3, 1) := by decide +kernel
theorem dL_law_806 : decode cL_law 806 = .ok (.iconst 1, 1) := by decide +kernel
theorem dL_law_807 : decode cL_law 807 = .ok (.iadd, 1) := by decide +kernel
theorem dL_law_808 : decode cL_law 808 = .ok (.iaload, 1) := by decide +kernel
theorem dL_law_809 : decode cL_law 809 = .ok (.invokevirtual 103, 3) := by decide +kernel
theorem dL_law_812 : decode cL_law 812 = .ok (.if_icmp .eq 64, 3) := by decide +kernel
theorem dL_law_815 : decode cL_law 815 = .ok (.iconst 0, 1) := by decide +kernel
theorem dL_law_816 : decode cL_law 816 = .ok (.ireturn, 1) := by decide +kernel
theorem dL_law_817 : decode cL_law 817 = .ok (.aload_n 1, 1) := by decide +kernel
theorem dL_law_818 : decode cL_law 818 = .ok (.aload_n 0, 1) := by decide +kernel
theorem dL_law_819 : decode cL_law 819 = .ok (.iload_n 3, 1) := by decide +kernel
theorem dL_law_820 : decode cL_law 820 = .ok (.iconst 1, 1) := by decide +kernel
theorem dL_law_821 : decode cL_law 821 = .ok (.iadd, 1) := by decide +kernel
theorem dL_law_822 : decode cL_law 822 = .ok (.iaload, 1) := by decide +kernel
theorem dL_law_823 : decode cL_law 823 = .ok (.invokevirtual 104, 3) := by decide +kernel
theorem dL_law_826 : decode cL_law 826 = .ok (.aload_n 2, 1) := by decide +kernel
theorem dL_law_827 : decode cL_law 827 = .ok (.aload_n 0, 1) := by decide +kernel
theorem dL_law_828 : decode cL_law 828 = .ok (.iload_n 3, 1) := by decide +kernel
theorem dL_law_829 : decode cL_law 829 = .ok (.iconst 1, 1) := by decide +kernel
theorem dL_law_830 : decode cL_law 830 = .ok (.iadd, 1) := by decide +kernel
theorem dL_law_831 : decode cL_law 831 = .ok (.iaload, 1) := by decide +kernel
theorem dL_law_832 : decode cL_law 832 = .ok (.invokevirtual 107, 3) := by decide +kernel
theorem dL_law_835 : decode cL_law 835 = .ok (.if_icmp .eq 41, 3) := by decide +kernel
theorem dL_law_838 : decode cL_law 838 = .ok (.iconst 0, 1) := by decide +kernel
theorem dL_law_839 : decode cL_law 839 = .ok (.ireturn, 1) := by decide +kernel
theorem dL_law_840 : decode cL_law 840 = .ok (.aload_n 1, 1) := by decide +kernel
theorem dL_law_841 : decode cL_law 841 = .ok (.aload_n 0, 1) := by decide +kernel
theorem dL_law_842 : decode cL_law 842 = .ok (.iload_n 3, 1) := by decide +kernel
theorem dL_law_843 : decode cL_law 843 = .ok (.iconst 1, 1) := by decide +kernel
theorem dL_law_844 : decode cL_law 844 = .ok (.iadd, 1) := by decide +kernel
theorem dL_law_845 : decode cL_law 845 = .ok (.iaload, 1) := by decide +kernel
theorem dL_law_846 : decode cL_law 846 = .ok (.invokevirtual 108, 3) := by decide +kernel
theorem dL_law_849 : decode cL_law 849 = .ok (.aload_n 2, 1) := by decide +kernel
theorem dL_law_850 : decode cL_law 850 = .ok (.aload_n 0, 1) := by decide +kernel
theorem dL_law_851 : decode cL_law 851 = .ok (.iload_n 3, 1) := by decide +kernel
theorem dL_law_852 : decode cL_law 852 = .ok (.iconst 1, 1) := by decide +kernel
theorem dL_law_853 : decode cL_law 853 = .ok (.iadd, 1) := by decide +kernel
theorem dL_law_854 : decode cL_law 854 = .ok (.iaload, 1) := by decide +kernel
theorem dL_law_855 : decode cL_law 855 = .ok (.invokevirtual 111, 3) := by decide +kernel
theorem dL_law_858 : decode cL_law 858 = .ok (.if_icmp .eq 18, 3) := by decide +kernel
theorem dL_law_861 : decode cL_law 861 = .ok (.iconst 0, 1) := by decide +kernel
theorem dL_law_862 : decode cL_law 862 = .ok (.ireturn, 1) := by decide +kernel
theorem dL_law_863 : decode cL_law 863 = .ok (.aload_n 1, 1) := by decide +kernel
theorem dL_law_864 : decode cL_law 864 = .ok (.invokevirtual 112, 3) := by decide +kernel
theorem dL_law_867 : decode cL_law 867 = .ok (.aload_n 2, 1) := by decide +kernel
theorem dL_law_868 : decode cL_law 868 = .ok (.invokevirtual 115, 3) := by decide +kernel
theorem dL_law_871 : decode cL_law 871 = .ok (.if_icmp .eq 5, 3) := by decide +kernel
theorem dL_law_874 : decode cL_law 874 = .ok (.iconst 0, 1) := by decide +kernel
theorem dL_law_875 : decode cL_law 875 = .ok (.ireturn, 1) := by decide +kernel
theorem dL_law_876 : decode cL_law 876 = .ok (.iinc 3 6, 3) := by decide +kernel
theorem dL_law_879 : decode cL_law 879 = .ok (.goto (-861), 3) := by decide +kernel
theorem dL_law_882 : decode cL_law 882 = .ok (.iconst 1, 1) := by decide +kernel
theorem dL_law_883 : decode cL_law 883 = .ok (.ireturn, 1) := by decide +kernel
end
section
section ROWS4
variable {fl : Bool} {G : mm_G} {J : mm_J} {d mc ms kc ks : Nat} {Q : Option Value → mm_M → Prop} {M : mm_M} {pc : Nat} {lv : List (Option Value)} {st : List Value}
/-! arrays at a place that is a number -/
theorem mm_cl31 {j n : Nat} (h : j < n) (hn : n < 2 ^ 31) : (nI j).toNatClampNeg = j := nI_clamp (Nat.lt_trans h hn)
theorem wa_ialdN {a k n j : Nat} (hd : decode J.2.1 pc = .ok (.iaload, 1)) (hs : mm_sh M a = some (.inr (k, n))) (hk : k = 0 ∨ k = 10) (hj : j < n) (hn : n < 2 ^ 31) (kk : wa_ fl G J d mc ms Q kc ks M (pc + 1) lv (.int (mm_I M a j) :: st)) : wa_ fl G J d mc ms Q kc ks M pc lv (.int (nI j) :: .ref a :: st) :=
  wa_iald hd hs hk (vp_in_nI hj hn) (by rw [mm_cl31 hj hn]; exact kk)
theorem wa_baldN {a k n j : Nat} (hd : decode J.2.1 pc = .ok (.baload, 1)) (hs : mm_sh M a = some (.inr (k, n))) (hk : k = 1 ∨ k = 2) (hj : j < n) (hn : n < 2 ^ 31) (kk : wa_ fl G J d mc ms Q kc ks M (pc + 1) lv (.int (mm_I M a j) :: st)) : wa_ fl G J d mc ms Q kc ks M pc lv (.int (nI j) :: .ref a :: st) :=
  wa_bald hd hs hk (vp_in_nI hj hn) (by rw [mm_cl31 hj hn]; exact kk)
theorem wa_laldN {a n j : Nat} (hd : decode J.2.1 pc = .ok (.laload, 1)) (hs : mm_sh M a = some (.inr (3, n))) (hj : j < n) (hn : n < 2 ^ 31) (kk : wa_ fl G J d mc ms Q kc ks M (pc + 1) lv (.long (mm_L M a j) :: st)) : wa_ fl G J d mc ms Q kc ks M pc lv (.int (nI j) :: .ref a :: st) :=
  wa_lald hd hs (vp_in_nI hj hn) (by rw [mm_cl31 hj hn]; exact kk)
theorem wa_aaldN {a k n j : Nat} {v : Value} (hd : decode J.2.1 pc = .ok (.aaload, 1)) (hs : mm_sh M a = some (.inr (k, n))) (hk3 : 3 < k) (hk : k < 10) (hj : j < n) (hn : n < 2 ^ 31) (hv : va_rf (mm_R M a j) = v) (kk : wa_ fl G J d mc ms Q kc ks M (pc + 1) lv (v :: st)) : wa_ fl G J d mc ms Q kc ks M pc lv (.int (nI j) :: .ref a :: st) :=
  wa_aald hd hs hk3 hk (vp_in_nI hj hn) (by rw [mm_cl31 hj hn]; exact hv) kk
theorem wa_iastN {a n j : Nat} {x : Int32} (hd : decode J.2.1 pc = .ok (.iastore, 1)) (hs : mm_sh M a = some (.inr (0, n))) (hj : j < n) (hn : n < 2 ^ 31) (kk : wa_ fl G J d mc ms Q kc ks (mm_sI M a j x) (pc + 1) lv st) : wa_ fl G J d mc ms Q kc ks M pc lv (.int x :: .int (nI j) :: .ref a :: st) :=
  wa_iast hd hs (vp_in_nI hj hn) (by rw [mm_cl31 hj hn]; exact kk)
theorem wa_bastN {a n j : Nat} {x : Int32} (hd : decode J.2.1 pc = .ok (.bastore, 1)) (hs : mm_sh M a = some (.inr (1, n))) (hj : j < n) (hn : n < 2 ^ 31) (kk : wa_ fl G J d mc ms Q kc ks (mm_sI M a j (vp_nar .byte x)) (pc + 1) lv st) : wa_ fl G J d mc ms Q kc ks M pc lv (.int x :: .int (nI j) :: .ref a :: st) :=
  wa_bast hd hs (vp_in_nI hj hn) (by rw [mm_cl31 hj hn]; exact kk)
theorem wa_zastN {a n j : Nat} {x : Int32} (hd : decode J.2.1 pc = .ok (.bastore, 1)) (hs : mm_sh M a = some (.inr (2, n))) (hj : j < n) (hn : n < 2 ^ 31) (hx : narrow .boolean (.int x) = .int x) (kk : wa_ fl G J d mc ms Q kc ks (mm_sI M a j x) (pc + 1) lv st) : wa_ fl G J d mc ms Q kc ks M pc lv (.int x :: .int (nI j) :: .ref a :: st) :=
  wa_zast hd hs (vp_in_nI hj hn) hx (by rw [mm_cl31 hj hn]; exact kk)
theorem wa_lastN {a n j : Nat} {x : Int64} (hd : decode J.2.1 pc = .ok (.lastore, 1)) (hs : mm_sh M a = some (.inr (3, n))) (hj : j < n) (hn : n < 2 ^ 31) (kk : wa_ fl G J d mc ms Q kc ks (mm_sL M a j x) (pc + 1) lv st) : wa_ fl G J d mc ms Q kc ks M pc lv (.long x :: .int (nI j) :: .ref a :: st) :=
  wa_last hd hs (vp_in_nI hj hn) (by rw [mm_cl31 hj hn]; exact kk)
theorem wa_aastN {a k n ci v j : Nat} {q : vw_C} (hd : decode J.2.1 pc = .ok (.aastore, 1)) (hs : mm_sh M a = some (.inr (k, n))) (hk3 : 3 < k) (hk : k < 10) (hv : mm_sh M v = some (.inl ci)) (hq : mm_cl[ci]? = some q) (hty : mm_el k = .object q.1) (hj : j < n) (hn : n < 2 ^ 31) (kk : wa_ fl G J d mc ms Q kc ks (mm_sR M a j (some v)) (pc + 1) lv st) : wa_ fl G J d mc ms Q kc ks M pc lv (.ref v :: .int (nI j) :: .ref a :: st) :=
  wa_aast hd hs hk3 hk hv hq hty (vp_in_nI hj hn) (by rw [mm_cl31 hj hn]; exact kk)
/-- a field that a nest mate keeps to itself -/
theorem wa_getIN {a ci k i : Nat} {q : vw_C} {host : String} (hd : decode J.2.1 pc = .ok (.getfield i, 3)) (hq : mm_cl[ci]? = some q) (hk : k < q.2.2) (hw : Cond.fieldLinkNest J.1.cls i (q.2.1 k).1 (q.2.1 k).2.1 (q.2.1 k).2.2.1 host ∈ mm_nw) (hs : mm_sh M a = some (.inl ci)) (hty : mm_ty ci k = .int) (kk : wa_ fl G J d mc ms Q kc ks M (pc + 3) lv (.int (mm_I M a k) :: st)) : wa_ fl G J d mc ms Q kc ks M pc lv (.ref a :: st) := by
  intro p l e R s m args below meth c H locs cells slots ls C hok hS hc hs' hl
  obtain ⟨-, cell, q1, q2, q3, q4⟩ := mm_obj hok hs hq
  obtain ⟨hSl, hfc, kC, hkC, hkind⟩ := C.2.2.2.2.1.1.1 ci _ hq
  obtain ⟨cf, kf, fi, f, hi, hsl⟩ := hSl k hk
  refine va_Wgetf C.1.1 C.1.2.1 C.1.2.2.2.1 (va_Nw.use rfl (C.2.2.2.2.1.2.1 _ hw)) hi (u_facts hfc hkC (u_lays C.1.2.2.2.2 (mm_in ci q hq) hk) hi).1 q1 (by rw [q3]; exact fun h => by cases h) (v := .int (mm_I M a k)) ?_ rfl rfl hd (kk p l e R s m args below meth c H locs cells slots ls C hok hS hc hs' hl)
  rw [hsl, q4 k hk]
  show some (mm_fv (mm_I M a) (mm_L M a) (mm_R M a) k (mm_ty ci k)) = _
  rw [hty]
  rfl
theorem wa_putN {a ci k i : Nat} {q : vw_C} {v : Value} {host : String} (hd : decode J.2.1 pc = .ok (.putfield i, 3)) (hq : mm_cl[ci]? = some q) (hk : k < q.2.2) (hw : Cond.fieldLinkNest J.1.cls i (q.2.1 k).1 (q.2.1 k).2.1 (q.2.1 k).2.2.1 host ∈ mm_nw) (hf : (q.2.1 k).2.2.2 = false) (hs : mm_sh M a = some (.inl ci)) (hkd : mm_kd (mm_ty ci k) v = true) (kk : wa_ fl G J d mc ms Q kc ks (mm_put M a k v) (pc + 3) lv st) : wa_ fl G J d mc ms Q kc ks M pc lv (v :: .ref a :: st) := by
  intro p l e R s m args below meth c H locs cells slots ls C hok hS hc hs' hl
  have hap := va_apart (own := J.1.cls) C.1.2.2.2.2 (mm_in ci q hq) (mm_ty ci) (mm_tyok ci q hq) (mm_nm ci q hq) C.2.2.2.2.1.1 hq
  obtain ⟨hge, cell, q1, q2, q3, q4⟩ := mm_obj hok hs hq
  obtain ⟨hSl, hfc, kC, hkC, hkind⟩ := C.2.2.2.2.1.1.1 ci _ hq
  obtain ⟨cf, kf, fi, f, hi, hsl⟩ := hSl k hk
  have hlay := C.1.2.2.2.2 _ (mm_in ci q hq _ (u_in_lay hk))
  unfold u_lay at hlay
  rw [if_neg (by rw [hf]; decide)] at hlay
  have hst := (u_facts hfc hkC (u_lays C.1.2.2.2.2 (mm_in ci q hq) hk) hi).1
  obtain ⟨hn1, hn2⟩ := mm_kd_n hkd
  have h6 := u_store hfc hkC hkind hlay hi (mm_tyok ci q hq k hk) hn1 hn2
  refine va_WputK C.1.1 C.1.2.1 (f := f) C.1.2.2.2.1 (va_Nw.use rfl (C.2.2.2.2.1.2.1 _ hw)) hi hst (by rw [q2]; exact h6) q1 q3 (by rw [hsl]; exact k2_hasslot (q4 k hk)) rfl rfl hd fun H' e1 e2 e3 => ?_
  rw [hsl] at e1 ⊢
  refine kk p l e R s m args below meth c H' _ cells slots ls C (mm_ok_put hok hs (mm_put_sh M a k v) (mm_put_z M a k v) (mm_put_ne M a k v) e2 e3 ?_) (mm_S_put hS e2 e3 hge) hc hs' hl
  exact ⟨hge, q, hq, t_OB.to (V := updV (fun k => mm_fv (mm_I M a) (mm_L M a) (mm_R M a) k (mm_ty ci k)) k v) ⟨_, e1, q2, q3, t_set q4 hap hk v⟩ (fun j _ => mm_put_fv M a k v (mm_ty ci) hkd j)⟩
/-- calls of what a nest mate keeps to itself -/
def lk_N (own : String) (i : Nat) (J2 : mm_J) (n : Nat) (host : String) : Prop := Cond.methodLinkNest own i J2.1 host ∈ mm_nw ∧ Cond.code J2.1 J2.2.1 J2.2.2.1 J2.2.2.2 ∈ gt_ws ∧ Cond.initialized J2.1.cls ∈ gt_ws ∧ (J2.1.cls ≠ "java/lang/invoke/MethodHandle" ∧ J2.1.cls ≠ "java/lang/invoke/VarHandle" ∧ (parseMethodDescriptor J2.1.desc).map (fun d => d.parameters.length) = some n) ∧ J2.2.2.1 ≤ 61
theorem wa_callSN {J2 : mm_J} {d2 mc2 ms2 i n : Nat} {As rest st0 : List Value} {kc' ks' : Nat} {host : String} (hd : decode J.2.1 pc = .ok (.invokestatic i, 3)) (hL : lk_N J.1.cls i J2 n host) (hw : Cond.static J2.1 ∈ gt_ws) (hn : As.length = n) (hst : st0 = As.reverse ++ rest) (hcat : (rest.map fun v => v.category).sum ≤ 8) (h1 : mc2 + kc' ≤ kc) (h2 : ms2 + ks' ≤ ks)
    (hM : ma_ G J2 d2 mc2 ms2 As M (fun o M' => wa_ fl G J (d2 + 1) mc ms Q kc' ks' M' (pc + 3) lv (mm_res o rest))) : wa_ fl G J (d2 + 1) mc ms Q kc ks M pc lv st0 := by
  intro p l e R s m args below meth c H locs cells slots ls C hok hS hc hs' hl
  obtain ⟨w1, w2, w3, w4, w5⟩ := hL
  have hR := C.2.2.2.2.2.2.2
  have hts := C.1.2.2.2.2
  have hcb : va_CN R s args J.1.cls i J2.1 host J2.2.1 J2.2.2.1 J2.2.2.2 (mm_ws J2) (mm_rm d2 mc2 ms2) mc2 ms2 n := va_cnB (Ts := gt_ws) n hts (mm_good w2) rfl rfl rfl (C.2.2.2.2.1.2.1 _ w1) (hts _ w3) w4 ⟨by show d2 + 1 ≤ _; omega, by show 8 + (J2.2.2.1 + 11) + 80 * d2 ≤ _; omega⟩
  refine mm_call (va_runSN (As := As) (rest := rest) C.1 (hM l) ⟨hcb, hts _ hw, trivial⟩ ⟨mm_blind G M _, mm_enter C hok hS As⟩ rfl hn hl.1 hst (mm_cat hcat) hd ⟨by omega, by omega⟩) hS ?_
  intro o M' H1 locs1 hQ hok1 hS1
  exact hQ p l e R s m args below meth c H1 locs1 _ _ ls C hok1 hS1 (by omega) (by omega) hl
theorem wa_callIN {J2 : mm_J} {d2 mc2 ms2 i n b : Nat} {As rest st0 : List Value} {kc' ks' : Nat} {host : String} (hd : decode J.2.1 pc = .ok (.invokespecial i, 3)) (hL : lk_N J.1.cls i J2 n host) (hw : J2.1.name = "<init>") (hw2 : Cond.instanceMethod J2.1 ∈ gt_ws) (hret : J2.2.2.2 = none) (hn : As.length = n) (hst : st0 = As.reverse ++ .ref b :: rest) (hcat : (rest.map fun v => v.category).sum ≤ 8) (h1 : mc2 + kc' ≤ kc) (h2 : ms2 + ks' ≤ ks)
    (hM : ma_ G J2 d2 mc2 ms2 (.ref b :: As) M (fun o M' => wa_ fl G J (d2 + 1) mc ms Q kc' ks' M' (pc + 3) lv (mm_res o rest))) : wa_ fl G J (d2 + 1) mc ms Q kc ks M pc lv st0 := by
  intro p l e R s m args below meth c H locs cells slots ls C hok hS hc hs' hl
  obtain ⟨w1, w2, w3, w4, w5⟩ := hL
  have hR := C.2.2.2.2.2.2.2
  have hts := C.1.2.2.2.2
  have hcb : va_CN R s args J.1.cls i J2.1 host J2.2.1 J2.2.2.1 none (mm_ws J2) (mm_rm d2 mc2 ms2) mc2 ms2 n := by
    rw [← hret]
    exact va_cnB (Ts := gt_ws) n hts (mm_good w2) rfl rfl rfl (C.2.2.2.2.1.2.1 _ w1) (hts _ w3) w4 ⟨by show d2 + 1 ≤ _; omega, by show 8 + (J2.2.2.1 + 11) + 80 * d2 ≤ _; omega⟩
  refine mm_call (va_runIN (As := As) (rest := rest) (b := b) C.1 (hM l) ⟨hcb, hw, hts _ hw2⟩ ⟨mm_blind G M _, mm_enter C hok hS (.ref b :: As)⟩ rfl hn hl.1 hst (mm_cat hcat) hd ⟨by omega, by omega⟩) hS ?_
  intro o M' H1 locs1 hQ hok1 hS1
  exact hQ p l e R s m args below meth c H1 locs1 _ _ ls C hok1 hS1 (by omega) (by omega) hl
end ROWS4
theorem lk_X3_66 : lk_N RX3 66 jX10_accountsBelow 1 "ConsulDesk" := ⟨by decide, wd_X10_accountsBelow, wn_X10, by decide +kernel, by decide⟩
theorem lk_X10_29 : lk_N RX10 29 jX5_init 0 "ConsulDesk" := ⟨by decide, wd_X5_init, wn_X5, by decide +kernel, by decide⟩
theorem lk_X10_36 : lk_N RX10 36 jX9_init 0 "ConsulDesk" := ⟨by decide, wd_X9_init, wn_X9, by decide +kernel, by decide⟩
theorem lk_X10_52 : lk_N RX10 52 jX0_init 0 "ConsulDesk" := ⟨by decide, wd_X0_init, wn_X0, by decide +kernel, by decide⟩
/-! the reference's cells: it lies at y, what it holds behind it -/
def md_tab : List (Nat × Nat × mm_S) := [(4, 1, .inl 11), (5, 2, .inr (1, 300)), (15, 3, .inr (0, 30)), (16, 4, .inr (0, 31)), (17, 5, .inr (0, 372)), (18, 6, .inr (0, 372)), (19, 7, .inr (0, 372)), (20, 8, .inr (0, 1488)), (21, 9, .inr (0, 1488)), (22, 10, .inr (0, 1488)), (23, 11, .inr (0, 1488)), (24, 12, .inr (0, 1488)), (25, 13, .inr (0, 1488)), (28, 14, .inr (0, 8)), (29, 15, .inr (0, 8)), (30, 16, .inr (0, 8)), (31, 17, .inr (0, 8)), (32, 18, .inr (0, 8)), (33, 19, .inr (0, 40)), (34, 20, .inr (0, 240)), (35, 21, .inr (0, 240)), (36, 22, .inr (0, 240)), (37, 23, .inr (2, 240)), (39, 24, .inr (0, 200)), (40, 25, .inr (0, 200)), (41, 26, .inr (0, 200)), (42, 27, .inr (0, 200)), (43, 28, .inr (0, 200)), (44, 29, .inr (0, 200)), (45, 30, .inr (0, 200)), (46, 31, .inr (0, 200)), (47, 32, .inr (0, 1000)), (48, 33, .inr (3, 5001)), (49, 34, .inr (0, 5))]
def mdl_ (M : mm_M) (y : Nat) : Prop := mm_sh M y = some (.inl 12) ∧ ∀ q ∈ md_tab, mm_R M y q.1 = some (y + q.2.1) ∧ mm_sh M (y + q.2.1) = some q.2.2
theorem md_r4 {M : mm_M} {y : Nat} (h : mdl_ M y) : va_rf (mm_R M y 4) = .ref (y + 1) := by rw [(h.2 (4, 1, .inl 11) (List.mem_of_getElem? (i := 0) rfl)).1]; rfl
theorem md_s4 {M : mm_M} {y : Nat} (h : mdl_ M y) : mm_sh M (y + 1) = some (.inl 11) := (h.2 (4, 1, .inl 11) (List.mem_of_getElem? (i := 0) rfl)).2
theorem md_r5 {M : mm_M} {y : Nat} (h : mdl_ M y) : va_rf (mm_R M y 5) = .ref (y + 2) := by rw [(h.2 (5, 2, .inr (1, 300)) (List.mem_of_getElem? (i := 1) rfl)).1]; rfl
theorem md_s5 {M : mm_M} {y : Nat} (h : mdl_ M y) : mm_sh M (y + 2) = some (.inr (1, 300)) := (h.2 (5, 2, .inr (1, 300)) (List.mem_of_getElem? (i := 1) rfl)).2
theorem md_r15 {M : mm_M} {y : Nat} (h : mdl_ M y) : va_rf (mm_R M y 15) = .ref (y + 3) := by rw [(h.2 (15, 3, .inr (0, 30)) (List.mem_of_getElem? (i := 2) rfl)).1]; rfl
theorem md_s15 {M : mm_M} {y : Nat} (h : mdl_ M y) : mm_sh M (y + 3) = some (.inr (0, 30)) := (h.2 (15, 3, .inr (0, 30)) (List.mem_of_getElem? (i := 2) rfl)).2
theorem md_r16 {M : mm_M} {y : Nat} (h : mdl_ M y) : va_rf (mm_R M y 16) = .ref (y + 4) := by rw [(h.2 (16, 4, .inr (0, 31)) (List.mem_of_getElem? (i := 3) rfl)).1]; rfl
theorem md_s16 {M : mm_M} {y : Nat} (h : mdl_ M y) : mm_sh M (y + 4) = some (.inr (0, 31)) := (h.2 (16, 4, .inr (0, 31)) (List.mem_of_getElem? (i := 3) rfl)).2
theorem md_r17 {M : mm_M} {y : Nat} (h : mdl_ M y) : va_rf (mm_R M y 17) = .ref (y + 5) := by rw [(h.2 (17, 5, .inr (0, 372)) (List.mem_of_getElem? (i := 4) rfl)).1]; rfl
theorem md_s17 {M : mm_M} {y : Nat} (h : mdl_ M y) : mm_sh M (y + 5) = some (.inr (0, 372)) := (h.2 (17, 5, .inr (0, 372)) (List.mem_of_getElem? (i := 4) rfl)).2
theorem md_r18 {M : mm_M} {y : Nat} (h : mdl_ M y) : va_rf (mm_R M y 18) = .ref (y + 6) := by rw [(h.2 (18, 6, .inr (0, 372)) (List.mem_of_getElem? (i := 5) rfl)).1]; rfl
theorem md_s18 {M : mm_M} {y : Nat} (h : mdl_ M y) : mm_sh M (y + 6) = some (.inr (0, 372)) := (h.2 (18, 6, .inr (0, 372)) (List.mem_of_getElem? (i := 5) rfl)).2
theorem md_r19 {M : mm_M} {y : Nat} (h : mdl_ M y) : va_rf (mm_R M y 19) = .ref (y + 7) := by rw [(h.2 (19, 7, .inr (0, 372)) (List.mem_of_getElem? (i := 6) rfl)).1]; rfl
theorem md_s19 {M : mm_M} {y : Nat} (h : mdl_ M y) : mm_sh M (y + 7) = some (.inr (0, 372)) := (h.2 (19, 7, .inr (0, 372)) (List.mem_of_getElem? (i := 6) rfl)).2
theorem md_r20 {M : mm_M} {y : Nat} (h : mdl_ M y) : va_rf (mm_R M y 20) = .ref (y + 8) := by rw [(h.2 (20, 8, .inr (0, 1488)) (List.mem_of_getElem? (i := 7) rfl)).1]; rfl
theorem md_s20 {M : mm_M} {y : Nat} (h : mdl_ M y) : mm_sh M (y + 8) = some (.inr (0, 1488)) := (h.2 (20, 8, .inr (0, 1488)) (List.mem_of_getElem? (i := 7) rfl)).2
theorem md_r21 {M : mm_M} {y : Nat} (h : mdl_ M y) : va_rf (mm_R M y 21) = .ref (y + 9) := by rw [(h.2 (21, 9, .inr (0, 1488)) (List.mem_of_getElem? (i := 8) rfl)).1]; rfl
theorem md_s21 {M : mm_M} {y : Nat} (h : mdl_ M y) : mm_sh M (y + 9) = some (.inr (0, 1488)) := (h.2 (21, 9, .inr (0, 1488)) (List.mem_of_getElem? (i := 8) rfl)).2
theorem md_r22 {M : mm_M} {y : Nat} (h : mdl_ M y) : va_rf (mm_R M y 22) = .ref (y + 10) := by rw [(h.2 (22, 10, .inr (0, 1488)) (List.mem_of_getElem? (i := 9) rfl)).1]; rfl
theorem md_s22 {M : mm_M} {y : Nat} (h : mdl_ M y) : mm_sh M (y + 10) = some (.inr (0, 1488)) := (h.2 (22, 10, .inr (0, 1488)) (List.mem_of_getElem? (i := 9) rfl)).2
theorem md_r23 {M : mm_M} {y : Nat} (h : mdl_ M y) : va_rf (mm_R M y 23) = .ref (y + 11) := by rw [(h.2 (23, 11, .inr (0, 1488)) (List.mem_of_getElem? (i := 10) rfl)).1]; rfl
theorem md_s23 {M : mm_M} {y : Nat} (h : mdl_ M y) : mm_sh M (y + 11) = some (.inr (0, 1488)) := (h.2 (23, 11, .inr (0, 1488)) (List.mem_of_getElem? (i := 10) rfl)).2
theorem md_r24 {M : mm_M} {y : Nat} (h : mdl_ M y) : va_rf (mm_R M y 24) = .ref (y + 12) := by rw [(h.2 (24, 12, .inr (0, 1488)) (List.mem_of_getElem? (i := 11) rfl)).1]; rfl
theorem md_s24 {M : mm_M} {y : Nat} (h : mdl_ M y) : mm_sh M (y + 12) = some (.inr (0, 1488)) := (h.2 (24, 12, .inr (0, 1488)) (List.mem_of_getElem? (i := 11) rfl)).2
theorem md_r25 {M : mm_M} {y : Nat} (h : mdl_ M y) : va_rf (mm_R M y 25) = .ref (y + 13) := by rw [(h.2 (25, 13, .inr (0, 1488)) (List.mem_of_getElem? (i := 12) rfl)).1]; rfl
theorem md_s25 {M : mm_M} {y : Nat} (h : mdl_ M y) : mm_sh M (y + 13) = some (.inr (0, 1488)) := (h.2 (25, 13, .inr (0, 1488)) (List.mem_of_getElem? (i := 12) rfl)).2
theorem md_r28 {M : mm_M} {y : Nat} (h : mdl_ M y) : va_rf (mm_R M y 28) = .ref (y + 14) := by rw [(h.2 (28, 14, .inr (0, 8)) (List.mem_of_getElem? (i := 13) rfl)).1]; rfl
theorem md_s28 {M : mm_M} {y : Nat} (h : mdl_ M y) : mm_sh M (y + 14) = some (.inr (0, 8)) := (h.2 (28, 14, .inr (0, 8)) (List.mem_of_getElem? (i := 13) rfl)).2
theorem md_r29 {M : mm_M} {y : Nat} (h : mdl_ M y) : va_rf (mm_R M y 29) = .ref (y + 15) := by rw [(h.2 (29, 15, .inr (0, 8)) (List.mem_of_getElem? (i := 14) rfl)).1]; rfl
theorem md_s29 {M : mm_M} {y : Nat} (h : mdl_ M y) : mm_sh M (y + 15) = some (.inr (0, 8)) := (h.2 (29, 15, .inr (0, 8)) (List.mem_of_getElem? (i := 14) rfl)).2
theorem md_r30 {M : mm_M} {y : Nat} (h : mdl_ M y) : va_rf (mm_R M y 30) = .ref (y + 16) := by rw [(h.2 (30, 16, .inr (0, 8)) (List.mem_of_getElem? (i := 15) rfl)).1]; rfl
theorem md_s30 {M : mm_M} {y : Nat} (h : mdl_ M y) : mm_sh M (y + 16) = some (.inr (0, 8)) := (h.2 (30, 16, .inr (0, 8)) (List.mem_of_getElem? (i := 15) rfl)).2
theorem md_r31 {M : mm_M} {y : Nat} (h : mdl_ M y) : va_rf (mm_R M y 31) = .ref (y + 17) := by rw [(h.2 (31, 17, .inr (0, 8)) (List.mem_of_getElem? (i := 16) rfl)).1]; rfl
theorem md_s31 {M : mm_M} {y : Nat} (h : mdl_ M y) : mm_sh M (y + 17) = some (.inr (0, 8)) := (h.2 (31, 17, .inr (0, 8)) (List.mem_of_getElem? (i := 16) rfl)).2
theorem md_r32 {M : mm_M} {y : Nat} (h : mdl_ M y) : va_rf (mm_R M y 32) = .ref (y + 18) := by rw [(h.2 (32, 18, .inr (0, 8)) (List.mem_of_getElem? (i := 17) rfl)).1]; rfl
theorem md_s32 {M : mm_M} {y : Nat} (h : mdl_ M y) : mm_sh M (y + 18) = some (.inr (0, 8)) := (h.2 (32, 18, .inr (0, 8)) (List.mem_of_getElem? (i := 17) rfl)).2
theorem md_r33 {M : mm_M} {y : Nat} (h : mdl_ M y) : va_rf (mm_R M y 33) = .ref (y + 19) := by rw [(h.2 (33, 19, .inr (0, 40)) (List.mem_of_getElem? (i := 18) rfl)).1]; rfl
theorem md_s33 {M : mm_M} {y : Nat} (h : mdl_ M y) : mm_sh M (y + 19) = some (.inr (0, 40)) := (h.2 (33, 19, .inr (0, 40)) (List.mem_of_getElem? (i := 18) rfl)).2
theorem md_r34 {M : mm_M} {y : Nat} (h : mdl_ M y) : va_rf (mm_R M y 34) = .ref (y + 20) := by rw [(h.2 (34, 20, .inr (0, 240)) (List.mem_of_getElem? (i := 19) rfl)).1]; rfl
theorem md_s34 {M : mm_M} {y : Nat} (h : mdl_ M y) : mm_sh M (y + 20) = some (.inr (0, 240)) := (h.2 (34, 20, .inr (0, 240)) (List.mem_of_getElem? (i := 19) rfl)).2
theorem md_r35 {M : mm_M} {y : Nat} (h : mdl_ M y) : va_rf (mm_R M y 35) = .ref (y + 21) := by rw [(h.2 (35, 21, .inr (0, 240)) (List.mem_of_getElem? (i := 20) rfl)).1]; rfl
theorem md_s35 {M : mm_M} {y : Nat} (h : mdl_ M y) : mm_sh M (y + 21) = some (.inr (0, 240)) := (h.2 (35, 21, .inr (0, 240)) (List.mem_of_getElem? (i := 20) rfl)).2
theorem md_r36 {M : mm_M} {y : Nat} (h : mdl_ M y) : va_rf (mm_R M y 36) = .ref (y + 22) := by rw [(h.2 (36, 22, .inr (0, 240)) (List.mem_of_getElem? (i := 21) rfl)).1]; rfl
theorem md_s36 {M : mm_M} {y : Nat} (h : mdl_ M y) : mm_sh M (y + 22) = some (.inr (0, 240)) := (h.2 (36, 22, .inr (0, 240)) (List.mem_of_getElem? (i := 21) rfl)).2
theorem md_r37 {M : mm_M} {y : Nat} (h : mdl_ M y) : va_rf (mm_R M y 37) = .ref (y + 23) := by rw [(h.2 (37, 23, .inr (2, 240)) (List.mem_of_getElem? (i := 22) rfl)).1]; rfl
theorem md_s37 {M : mm_M} {y : Nat} (h : mdl_ M y) : mm_sh M (y + 23) = some (.inr (2, 240)) := (h.2 (37, 23, .inr (2, 240)) (List.mem_of_getElem? (i := 22) rfl)).2
theorem md_r39 {M : mm_M} {y : Nat} (h : mdl_ M y) : va_rf (mm_R M y 39) = .ref (y + 24) := by rw [(h.2 (39, 24, .inr (0, 200)) (List.mem_of_getElem? (i := 23) rfl)).1]; rfl
theorem md_s39 {M : mm_M} {y : Nat} (h : mdl_ M y) : mm_sh M (y + 24) = some (.inr (0, 200)) := (h.2 (39, 24, .inr (0, 200)) (List.mem_of_getElem? (i := 23) rfl)).2
theorem md_r40 {M : mm_M} {y : Nat} (h : mdl_ M y) : va_rf (mm_R M y 40) = .ref (y + 25) := by rw [(h.2 (40, 25, .inr (0, 200)) (List.mem_of_getElem? (i := 24) rfl)).1]; rfl
theorem md_s40 {M : mm_M} {y : Nat} (h : mdl_ M y) : mm_sh M (y + 25) = some (.inr (0, 200)) := (h.2 (40, 25, .inr (0, 200)) (List.mem_of_getElem? (i := 24) rfl)).2
theorem md_r41 {M : mm_M} {y : Nat} (h : mdl_ M y) : va_rf (mm_R M y 41) = .ref (y + 26) := by rw [(h.2 (41, 26, .inr (0, 200)) (List.mem_of_getElem? (i := 25) rfl)).1]; rfl
theorem md_s41 {M : mm_M} {y : Nat} (h : mdl_ M y) : mm_sh M (y + 26) = some (.inr (0, 200)) := (h.2 (41, 26, .inr (0, 200)) (List.mem_of_getElem? (i := 25) rfl)).2
theorem md_r42 {M : mm_M} {y : Nat} (h : mdl_ M y) : va_rf (mm_R M y 42) = .ref (y + 27) := by rw [(h.2 (42, 27, .inr (0, 200)) (List.mem_of_getElem? (i := 26) rfl)).1]; rfl
theorem md_s42 {M : mm_M} {y : Nat} (h : mdl_ M y) : mm_sh M (y + 27) = some (.inr (0, 200)) := (h.2 (42, 27, .inr (0, 200)) (List.mem_of_getElem? (i := 26) rfl)).2
theorem md_r43 {M : mm_M} {y : Nat} (h : mdl_ M y) : va_rf (mm_R M y 43) = .ref (y + 28) := by rw [(h.2 (43, 28, .inr (0, 200)) (List.mem_of_getElem? (i := 27) rfl)).1]; rfl
theorem md_s43 {M : mm_M} {y : Nat} (h : mdl_ M y) : mm_sh M (y + 28) = some (.inr (0, 200)) := (h.2 (43, 28, .inr (0, 200)) (List.mem_of_getElem? (i := 27) rfl)).2
theorem md_r44 {M : mm_M} {y : Nat} (h : mdl_ M y) : va_rf (mm_R M y 44) = .ref (y + 29) := by rw [(h.2 (44, 29, .inr (0, 200)) (List.mem_of_getElem? (i := 28) rfl)).1]; rfl
theorem md_s44 {M : mm_M} {y : Nat} (h : mdl_ M y) : mm_sh M (y + 29) = some (.inr (0, 200)) := (h.2 (44, 29, .inr (0, 200)) (List.mem_of_getElem? (i := 28) rfl)).2
theorem md_r45 {M : mm_M} {y : Nat} (h : mdl_ M y) : va_rf (mm_R M y 45) = .ref (y + 30) := by rw [(h.2 (45, 30, .inr (0, 200)) (List.mem_of_getElem? (i := 29) rfl)).1]; rfl
theorem md_s45 {M : mm_M} {y : Nat} (h : mdl_ M y) : mm_sh M (y + 30) = some (.inr (0, 200)) := (h.2 (45, 30, .inr (0, 200)) (List.mem_of_getElem? (i := 29) rfl)).2
theorem md_r46 {M : mm_M} {y : Nat} (h : mdl_ M y) : va_rf (mm_R M y 46) = .ref (y + 31) := by rw [(h.2 (46, 31, .inr (0, 200)) (List.mem_of_getElem? (i := 30) rfl)).1]; rfl
theorem md_s46 {M : mm_M} {y : Nat} (h : mdl_ M y) : mm_sh M (y + 31) = some (.inr (0, 200)) := (h.2 (46, 31, .inr (0, 200)) (List.mem_of_getElem? (i := 30) rfl)).2
theorem md_r47 {M : mm_M} {y : Nat} (h : mdl_ M y) : va_rf (mm_R M y 47) = .ref (y + 32) := by rw [(h.2 (47, 32, .inr (0, 1000)) (List.mem_of_getElem? (i := 31) rfl)).1]; rfl
theorem md_s47 {M : mm_M} {y : Nat} (h : mdl_ M y) : mm_sh M (y + 32) = some (.inr (0, 1000)) := (h.2 (47, 32, .inr (0, 1000)) (List.mem_of_getElem? (i := 31) rfl)).2
theorem md_r48 {M : mm_M} {y : Nat} (h : mdl_ M y) : va_rf (mm_R M y 48) = .ref (y + 33) := by rw [(h.2 (48, 33, .inr (3, 5001)) (List.mem_of_getElem? (i := 32) rfl)).1]; rfl
theorem md_s48 {M : mm_M} {y : Nat} (h : mdl_ M y) : mm_sh M (y + 33) = some (.inr (3, 5001)) := (h.2 (48, 33, .inr (3, 5001)) (List.mem_of_getElem? (i := 32) rfl)).2
theorem md_r49 {M : mm_M} {y : Nat} (h : mdl_ M y) : va_rf (mm_R M y 49) = .ref (y + 34) := by rw [(h.2 (49, 34, .inr (0, 5)) (List.mem_of_getElem? (i := 33) rfl)).1]; rfl
theorem md_s49 {M : mm_M} {y : Nat} (h : mdl_ M y) : mm_sh M (y + 34) = some (.inr (0, 5)) := (h.2 (49, 34, .inr (0, 5)) (List.mem_of_getElem? (i := 33) rfl)).2
end
section
theorem k_X12_refused {G : mm_G} {d : Nat} {Q : Option Value → mm_M → Prop} {M : mm_M} {y : Nat} (w : Int32) (hY : mdl_ M y) (hQ : Q (some (.int (-1))) (mm_sI (mm_sI M y 1 w) y 2 (-1))) : ma_ G jX12_refused d 0 0 [.ref y, .int w] M Q := by
  refine ma_of [some (.ref y), some (.int w)] (by decide) rfl (Nat.le_of_ble_eq_true rfl) ?_
  refine wa_aload_n dX12_refused_0 rfl rfl ?_
  refine wa_iload_n dX12_refused_1 rfl ?_
  refine wa_put (q := (RX12, TX12, 50)) (ci := 12) (k := 1) dX12_refused_2 rfl (by decide) wf_X12_126 rfl hY.1 rfl ?_
  refine wa_aload_n dX12_refused_5 rfl rfl ?_
  refine wa_iconst (v := -1) dX12_refused_6 (by decide) ?_
  refine wa_put (q := (RX12, TX12, 50)) (ci := 12) (k := 2) dX12_refused_7 rfl (by decide) wf_X12_9 rfl hY.1 rfl ?_
  refine wa_iconst (v := -1) dX12_refused_10 (by decide) ?_
  exact wa_iret dX12_refused_11 rfl (hQ)

theorem k_X12_done {G : mm_G} {d : Nat} {Q : Option Value → mm_M → Prop} {M : mm_M} {y : Nat} (v : Int32) (hY : mdl_ M y) (hQ : Q (some (.int v)) (mm_sI (mm_sI M y 1 0) y 2 (-1))) : ma_ G jX12_done d 0 0 [.ref y, .int v] M Q := by
  refine ma_of [some (.ref y), some (.int v)] (by decide) rfl (Nat.le_of_ble_eq_true rfl) ?_
  refine wa_aload_n dX12_done_0 rfl rfl ?_
  refine wa_iconst (v := 0) dX12_done_1 (by decide) ?_
  refine wa_put (q := (RX12, TX12, 50)) (ci := 12) (k := 1) dX12_done_2 rfl (by decide) wf_X12_126 rfl hY.1 rfl ?_
  refine wa_aload_n dX12_done_5 rfl rfl ?_
  refine wa_iconst (v := -1) dX12_done_6 (by decide) ?_
  refine wa_put (q := (RX12, TX12, 50)) (ci := 12) (k := 2) dX12_done_7 rfl (by decide) wf_X12_9 rfl hY.1 rfl ?_
  refine wa_iload_n dX12_done_10 rfl ?_
  exact wa_iret dX12_done_11 rfl (hQ)

theorem k_X12_isPort {G : mm_G} {d : Nat} {Q : Option Value → mm_M → Prop} {M : mm_M} {y : Nat} (p : Int32) (hY : mdl_ M y) (h1 : ¬ p < 0 → ¬ mm_I M y 26 ≤ p → Q (some (.int 1)) M) (h0 : p < 0 ∨ mm_I M y 26 ≤ p → Q (some (.int 0)) M) : ma_ G jX12_isPort d 0 0 [.ref y, .int p] M Q := by
  refine ma_of [some (.ref y), some (.int p)] (by decide) rfl (Nat.le_of_ble_eq_true rfl) ?_
  refine wa_iload_n dX12_isPort_0 rfl ?_
  refine wa_if_lt (tgt := 16) dX12_isPort_1 (by decide) (fun hT1 => ?_) (fun hF1 => ?_)
  · refine wa_iconst (v := 0) dX12_isPort_16 (by decide) ?_
    exact wa_zret dX12_isPort_17 rfl rfl (h0 (by first | exact Or.inl (by assumption) | exact Or.inr (by assumption)))
  · refine wa_iload_n dX12_isPort_4 rfl ?_
    refine wa_aload_n dX12_isPort_5 rfl rfl ?_
    refine wa_getI (q := (RX12, TX12, 50)) (ci := 12) (k := 26) dX12_isPort_6 rfl (by decide) wf_X12_236 hY.1 rfl ?_
    refine wa_icmp_ge (tgt := 16) dX12_isPort_9 (by decide) (fun hT9 => ?_) (fun hF9 => ?_)
    · refine wa_iconst (v := 0) dX12_isPort_16 (by decide) ?_
      exact wa_zret dX12_isPort_17 rfl rfl (h0 (by first | exact Or.inl (by assumption) | exact Or.inr (by assumption)))
    · refine wa_iconst (v := 1) dX12_isPort_12 (by decide) ?_
      refine wa_goto (tgt := 17) dX12_isPort_13 (by decide) ?_
      exact wa_zret dX12_isPort_17 rfl rfl (h1 (by assumption) (by assumption))

theorem k_X12_isTariff {G : mm_G} {d : Nat} {Q : Option Value → mm_M → Prop} {M : mm_M} {y : Nat} (p : Int32) (hY : mdl_ M y) (h1 : ¬ p < 0 → ¬ mm_I M y 14 ≤ p → Q (some (.int 1)) M) (h0 : p < 0 ∨ mm_I M y 14 ≤ p → Q (some (.int 0)) M) : ma_ G jX12_isTariff d 0 0 [.ref y, .int p] M Q := by
  refine ma_of [some (.ref y), some (.int p)] (by decide) rfl (Nat.le_of_ble_eq_true rfl) ?_
  refine wa_iload_n dX12_isTariff_0 rfl ?_
  refine wa_if_lt (tgt := 16) dX12_isTariff_1 (by decide) (fun hT1 => ?_) (fun hF1 => ?_)
  · refine wa_iconst (v := 0) dX12_isTariff_16 (by decide) ?_
    exact wa_zret dX12_isTariff_17 rfl rfl (h0 (by first | exact Or.inl (by assumption) | exact Or.inr (by assumption)))
  · refine wa_iload_n dX12_isTariff_4 rfl ?_
    refine wa_aload_n dX12_isTariff_5 rfl rfl ?_
    refine wa_getI (q := (RX12, TX12, 50)) (ci := 12) (k := 14) dX12_isTariff_6 rfl (by decide) wf_X12_201 hY.1 rfl ?_
    refine wa_icmp_ge (tgt := 16) dX12_isTariff_9 (by decide) (fun hT9 => ?_) (fun hF9 => ?_)
    · refine wa_iconst (v := 0) dX12_isTariff_16 (by decide) ?_
      exact wa_zret dX12_isTariff_17 rfl rfl (h0 (by first | exact Or.inl (by assumption) | exact Or.inr (by assumption)))
    · refine wa_iconst (v := 1) dX12_isTariff_12 (by decide) ?_
      refine wa_goto (tgt := 17) dX12_isTariff_13 (by decide) ?_
      exact wa_zret dX12_isTariff_17 rfl rfl (h1 (by assumption) (by assumption))

theorem k_X12_fault {G : mm_G} {d : Nat} {Q : Option Value → mm_M → Prop} {M : mm_M} {y : Nat} (hY : mdl_ M y) (hQ : Q (some (.int (mm_I (mm_sI M y 0 0) y 3))) (mm_sI M y 0 0)) : ma_ G jX12_fault d 0 0 [.ref y] M Q := by
  refine ma_of [some (.ref y)] (by decide) rfl (Nat.le_of_ble_eq_true rfl) ?_
  refine wa_aload_n dX12_fault_0 rfl rfl ?_
  refine wa_iconst (v := 0) dX12_fault_1 (by decide) ?_
  refine wa_put (q := (RX12, TX12, 50)) (ci := 12) (k := 0) dX12_fault_2 rfl (by decide) wf_X12_123 rfl hY.1 rfl ?_
  refine wa_aload_n dX12_fault_5 rfl rfl ?_
  refine wa_getI (q := (RX12, TX12, 50)) (ci := 12) (k := 3) dX12_fault_6 rfl (by decide) wf_X12_253 hY.1 rfl ?_
  exact wa_iret dX12_fault_9 rfl (hQ)

theorem k_X12_where {G : mm_G} {d : Nat} {Q : Option Value → mm_M → Prop} {M : mm_M} {y : Nat} (hY : mdl_ M y) (hQ : Q (some (.int (mm_I (mm_sI M y 0 0) y 2))) (mm_sI M y 0 0)) : ma_ G jX12_where d 0 0 [.ref y] M Q := by
  refine ma_of [some (.ref y)] (by decide) rfl (Nat.le_of_ble_eq_true rfl) ?_
  refine wa_aload_n dX12_where_0 rfl rfl ?_
  refine wa_iconst (v := 0) dX12_where_1 (by decide) ?_
  refine wa_put (q := (RX12, TX12, 50)) (ci := 12) (k := 0) dX12_where_2 rfl (by decide) wf_X12_123 rfl hY.1 rfl ?_
  refine wa_aload_n dX12_where_5 rfl rfl ?_
  refine wa_getI (q := (RX12, TX12, 50)) (ci := 12) (k := 2) dX12_where_6 rfl (by decide) wf_X12_9 hY.1 rfl ?_
  exact wa_iret dX12_where_9 rfl (hQ)

theorem k_X12_trouble {G : mm_G} {d : Nat} {Q : Option Value → mm_M → Prop} {M : mm_M} {y : Nat} (hY : mdl_ M y) (hQ : Q (some (.int (mm_I (mm_sI M y 0 0) y 1))) (mm_sI M y 0 0)) : ma_ G jX12_trouble d 0 0 [.ref y] M Q := by
  refine ma_of [some (.ref y)] (by decide) rfl (Nat.le_of_ble_eq_true rfl) ?_
  refine wa_aload_n dX12_trouble_0 rfl rfl ?_
  refine wa_iconst (v := 0) dX12_trouble_1 (by decide) ?_
  refine wa_put (q := (RX12, TX12, 50)) (ci := 12) (k := 0) dX12_trouble_2 rfl (by decide) wf_X12_123 rfl hY.1 rfl ?_
  refine wa_aload_n dX12_trouble_5 rfl rfl ?_
  refine wa_getI (q := (RX12, TX12, 50)) (ci := 12) (k := 1) dX12_trouble_6 rfl (by decide) wf_X12_126 hY.1 rfl ?_
  exact wa_iret dX12_trouble_9 rfl (hQ)

theorem k_X12_in {G : mm_G} {d : Nat} {Q : Option Value → mm_M → Prop} {M : mm_M} (v : Int32) (lo : Int32) (hi : Int32) (h1 : lo ≤ v → v ≤ hi → Q (some (.int 1)) M) (h0 : ¬ (lo ≤ v ∧ v ≤ hi) → Q (some (.int 0)) M) : ma_ G jX12_in d 0 0 [.int v, .int lo, .int hi] M Q := by
  refine ma_of [some (.int v), some (.int lo), some (.int hi)] (by decide) rfl (Nat.le_of_ble_eq_true rfl) ?_
  refine wa_iload_n dX12_in_0 rfl ?_
  refine wa_iload_n dX12_in_1 rfl ?_
  refine wa_icmp_lt (tgt := 14) dX12_in_2 (by decide) (fun hT2 => ?_) (fun hF2 => ?_)
  · refine wa_iconst (v := 0) dX12_in_14 (by decide) ?_
    exact wa_zret dX12_in_15 rfl rfl (h0 (fun q => by first | exact absurd q.1 (Int32.not_le.mpr (by assumption)) | exact absurd q.2 (Int32.not_le.mpr (by assumption))))
  · refine wa_iload_n dX12_in_5 rfl ?_
    refine wa_iload_n dX12_in_6 rfl ?_
    refine wa_icmp_gt (tgt := 14) dX12_in_7 (by decide) (fun hT7 => ?_) (fun hF7 => ?_)
    · refine wa_iconst (v := 0) dX12_in_14 (by decide) ?_
      exact wa_zret dX12_in_15 rfl rfl (h0 (fun q => by first | exact absurd q.1 (Int32.not_le.mpr (by assumption)) | exact absurd q.2 (Int32.not_le.mpr (by assumption))))
    · refine wa_iconst (v := 1) dX12_in_10 (by decide) ?_
      refine wa_goto (tgt := 15) dX12_in_11 (by decide) ?_
      exact wa_zret dX12_in_15 rfl rfl (h1 (Int32.not_lt.mp (by assumption)) (Int32.not_lt.mp (by assumption)))
end
section
theorem ni_le {a b : Nat} (h : nI a ≤ nI b) (ha : a < 2 ^ 31) (hb : b < 2 ^ 31) : a ≤ b := (nI_leI ha hb).mp h
theorem ni_nle {a b : Nat} (h : ¬ nI a ≤ nI b) (ha : a < 2 ^ 31) (hb : b < 2 ^ 31) : b < a := Nat.not_le.mp fun q => h ((nI_leI ha hb).mpr q)
theorem ni_lt {a b : Nat} (h : nI a < nI b) (ha : a < 2 ^ 31) (hb : b < 2 ^ 31) : a < b := (nI_ltI ha hb).mp h
theorem ni_nlt {a b : Nat} (h : ¬ nI a < nI b) (ha : a < 2 ^ 31) (hb : b < 2 ^ 31) : b ≤ a := Nat.not_lt.mp fun q => h ((nI_ltI ha hb).mpr q)
theorem ni_i1 (t : Nat) : nI t + Int32.ofInt 1 = nI (t + 1) := nI_1 t
theorem ni_lin (c p t : Nat) : nI c * nI p + nI t = nI (c * p + t) := by rw [pk_mul, nI_add]
theorem ix_30 (p t : Nat) : (30 : Int32) * nI p + nI t = nI (30 * p + t) := ni_lin 30 p t
theorem ni_0 {t : Nat} (h : nI t = 0) (ht : t < 2 ^ 31) : t = 0 := (nI_eq ht (by decide)).mp (h.trans nI_0.symm)
/-- the day on which what was sent comes, by the reference -/
def md_com (M : mm_M) (y k : Nat) : Int32 := if mm_I M (y + 23) k = 0 then mm_I M (y + 20) k else mm_I M (y + 21) k
/-- the reference sends a tariff to a port -/
def md_snd (M : mm_M) (y k : Nat) (c : Int32) : mm_M := mm_sI (mm_sI (mm_sI (mm_sI M (y + 20) k c) (y + 21) k 1000000) (y + 22) k 1000000) (y + 23) k 0

theorem k_X12_comes {G : mm_G} {d : Nat} {Q : Option Value → mm_M → Prop} {M : mm_M} {y : Nat} (p : Nat) (t : Nat) (hY : mdl_ M y) (hp : p < 8) (ht : t < 30) (hQ : Q (some (.int (md_com M y (30 * p + t)))) M) : ma_ G jX12_comes d 0 0 [.ref y, .int (nI p), .int (nI t)] M Q := by
  refine ma_of [some (.ref y), some (.int (nI p)), some (.int (nI t)), none] (by decide) rfl (Nat.le_of_ble_eq_true rfl) ?_
  refine wa_bipush (v := 30) dX12_comes_0 (by decide) ?_
  refine wa_iload_n dX12_comes_2 rfl ?_
  refine wa_imul dX12_comes_3 ?_
  refine wa_iload_n dX12_comes_4 rfl ?_
  refine wa_iadd dX12_comes_5 ?_
  rw [ix_30 p t]
  refine wa_istore_n dX12_comes_6 (by decide) rfl rfl ?_
  refine wa_aload_n dX12_comes_7 rfl rfl ?_
  refine wa_getR (q := (RX12, TX12, 50)) (ci := 12) (k := 37) dX12_comes_8 rfl (by decide) wf_X12_85 hY.1 rfl (md_r37 hY) ?_
  refine wa_iload_n dX12_comes_11 rfl ?_
  refine wa_baldN dX12_comes_12 (md_s37 hY) (Or.inr rfl) (by omega) (by decide) ?_
  refine wa_if_eq (tgt := 25) dX12_comes_13 (by decide) (fun hT13 => ?_) (fun hF13 => ?_)
  · refine wa_aload_n dX12_comes_25 rfl rfl ?_
    refine wa_getR (q := (RX12, TX12, 50)) (ci := 12) (k := 34) dX12_comes_26 rfl (by decide) wf_X12_76 hY.1 rfl (md_r34 hY) ?_
    refine wa_iload_n dX12_comes_29 rfl ?_
    refine wa_ialdN dX12_comes_30 (md_s34 hY) (Or.inl rfl) (by omega) (by decide) ?_
    exact wa_iret dX12_comes_31 rfl (by unfold md_com at hQ; first | (rw [if_pos (by assumption)] at hQ; exact hQ) | (rw [if_neg (by assumption)] at hQ; exact hQ))
  · refine wa_aload_n dX12_comes_16 rfl rfl ?_
    refine wa_getR (q := (RX12, TX12, 50)) (ci := 12) (k := 35) dX12_comes_17 rfl (by decide) wf_X12_79 hY.1 rfl (md_r35 hY) ?_
    refine wa_iload_n dX12_comes_20 rfl ?_
    refine wa_ialdN dX12_comes_21 (md_s35 hY) (Or.inl rfl) (by omega) (by decide) ?_
    refine wa_goto (tgt := 31) dX12_comes_22 (by decide) ?_
    exact wa_iret dX12_comes_31 rfl (by unfold md_com at hQ; first | (rw [if_pos (by assumption)] at hQ; exact hQ) | (rw [if_neg (by assumption)] at hQ; exact hQ))

theorem k_X12_hasCome {G : mm_G} {d : Nat} {Q : Option Value → mm_M → Prop} {M : mm_M} {y : Nat} (p : Nat) (t : Nat) (dd : Int32) (hY : mdl_ M y) (hp : p < 8) (ht : t < 30) (h1 : md_com M y (30 * p + t) ≤ dd → Q (some (.int 1)) M) (h0 : dd < md_com M y (30 * p + t) → Q (some (.int 0)) M) : ma_ G jX12_hasCome (d + 1) 0 0 [.ref y, .int (nI p), .int (nI t), .int dd] M Q := by
  refine ma_of [some (.ref y), some (.int (nI p)), some (.int (nI t)), some (.int dd)] (by decide) rfl (Nat.le_of_ble_eq_true rfl) ?_
  refine wa_aload_n dX12_hasCome_0 rfl rfl ?_
  refine wa_iload_n dX12_hasCome_1 rfl ?_
  refine wa_iload_n dX12_hasCome_2 rfl ?_
  refine wa_callV (q := (RX12, TX12, 50)) (As := [.int (nI p), .int (nI t)]) dX12_hasCome_3 lk_X12_259 rfl rfl hY.1 rfl rfl (Nat.le_of_ble_eq_true rfl) (Nat.le_of_eq (Nat.zero_add _)) (Nat.le_of_eq (Nat.zero_add _)) (k_X12_comes p t hY hp ht ?_)
  refine wa_iload_n dX12_hasCome_6 rfl ?_
  refine wa_icmp_gt (tgt := 14) dX12_hasCome_7 (by decide) (fun hT7 => ?_) (fun hF7 => ?_)
  · refine wa_iconst (v := 0) dX12_hasCome_14 (by decide) ?_
    exact wa_zret dX12_hasCome_15 rfl rfl (h0 (by assumption))
  · refine wa_iconst (v := 1) dX12_hasCome_10 (by decide) ?_
    refine wa_goto (tgt := 15) dX12_hasCome_11 (by decide) ?_
    exact wa_zret dX12_hasCome_15 rfl rfl (h1 (Int32.not_lt.mp (by assumption)))

theorem k_X12_sends {G : mm_G} {d : Nat} {Q : Option Value → mm_M → Prop} {M : mm_M} {y : Nat} (p : Nat) (t : Nat) (c : Int32) (hY : mdl_ M y) (hp : p < 8) (ht : t < 30) (hQ : Q none (md_snd M y (30 * p + t) c)) : ma_ G jX12_sends d 0 0 [.ref y, .int (nI p), .int (nI t), .int c] M Q := by
  refine ma_of [some (.ref y), some (.int (nI p)), some (.int (nI t)), some (.int c)] (by decide) rfl (Nat.le_of_ble_eq_true rfl) ?_
  refine wa_aload_n dX12_sends_0 rfl rfl ?_
  refine wa_getR (q := (RX12, TX12, 50)) (ci := 12) (k := 34) dX12_sends_1 rfl (by decide) wf_X12_76 hY.1 rfl (md_r34 hY) ?_
  refine wa_bipush (v := 30) dX12_sends_4 (by decide) ?_
  refine wa_iload_n dX12_sends_6 rfl ?_
  refine wa_imul dX12_sends_7 ?_
  refine wa_iload_n dX12_sends_8 rfl ?_
  refine wa_iadd dX12_sends_9 ?_
  rw [ix_30 p t]
  refine wa_iload_n dX12_sends_10 rfl ?_
  refine wa_iastN dX12_sends_11 (md_s34 hY) (by omega) (by decide) ?_
  refine wa_aload_n dX12_sends_12 rfl rfl ?_
  refine wa_getR (q := (RX12, TX12, 50)) (ci := 12) (k := 35) dX12_sends_13 rfl (by decide) wf_X12_79 hY.1 rfl (md_r35 hY) ?_
  refine wa_bipush (v := 30) dX12_sends_16 (by decide) ?_
  refine wa_iload_n dX12_sends_18 rfl ?_
  refine wa_imul dX12_sends_19 ?_
  refine wa_iload_n dX12_sends_20 rfl ?_
  refine wa_iadd dX12_sends_21 ?_
  rw [ix_30 p t]
  refine wa_ldc dX12_sends_22 wl_X12_249 ?_
  refine wa_iastN dX12_sends_24 (md_s35 hY) (by omega) (by decide) ?_
  refine wa_aload_n dX12_sends_25 rfl rfl ?_
  refine wa_getR (q := (RX12, TX12, 50)) (ci := 12) (k := 36) dX12_sends_26 rfl (by decide) wf_X12_82 hY.1 rfl (md_r36 hY) ?_
  refine wa_bipush (v := 30) dX12_sends_29 (by decide) ?_
  refine wa_iload_n dX12_sends_31 rfl ?_
  refine wa_imul dX12_sends_32 ?_
  refine wa_iload_n dX12_sends_33 rfl ?_
  refine wa_iadd dX12_sends_34 ?_
  rw [ix_30 p t]
  refine wa_ldc dX12_sends_35 wl_X12_249 ?_
  refine wa_iastN dX12_sends_37 (md_s36 hY) (by omega) (by decide) ?_
  refine wa_aload_n dX12_sends_38 rfl rfl ?_
  refine wa_getR (q := (RX12, TX12, 50)) (ci := 12) (k := 37) dX12_sends_39 rfl (by decide) wf_X12_85 hY.1 rfl (md_r37 hY) ?_
  refine wa_bipush (v := 30) dX12_sends_42 (by decide) ?_
  refine wa_iload_n dX12_sends_44 rfl ?_
  refine wa_imul dX12_sends_45 ?_
  refine wa_iload_n dX12_sends_46 rfl ?_
  refine wa_iadd dX12_sends_47 ?_
  rw [ix_30 p t]
  refine wa_iconst (v := 0) dX12_sends_48 (by decide) ?_
  refine wa_zastN dX12_sends_49 (md_s37 hY) (by omega) (by decide) (by decide) ?_
  exact wa_vret dX12_sends_50 rfl (hQ)

theorem k_X12_forceOf {G : mm_G} {d : Nat} {Q : Option Value → mm_M → Prop} {M : mm_M} {y : Nat} (p T : Nat) (hY : mdl_ M y) (hp : p < 8) (hT : mm_I M y 14 = nI T) (hT30 : T ≤ 30) (hQ : ∀ t, t ≤ T → (∀ j, j < t → md_com M y (30 * p + j) ≤ mm_I M y 27) → (t < T → mm_I M y 27 < md_com M y (30 * p + t)) → Q (some (.int (if t = 0 then -2 else nI t - 1))) M) : ma_ G jX12_forceOf (d + 2) 0 0 [.ref y, .int (nI p)] M Q := by
  refine ma_of [some (.ref y), some (.int (nI p)), none] (by decide) rfl (Nat.le_of_ble_eq_true rfl) ?_
  have ex : ∀ t, t ≤ T → Q (some (.int (if t = 0 then -2 else nI t - 1))) M → wa_ false G jX12_forceOf (d + 2) 0 0 Q 0 0 M 29 [some (.ref y), some (.int (nI p)), some (.int (nI t))] [] := by
    intro t ht hq
    refine wa_iload_n dX12_forceOf_29 rfl ?_
    refine wa_if_ne (tgt := 38) dX12_forceOf_30 (by decide) (fun hT30 => ?_) (fun hF30 => ?_)
    · refine wa_iload_n dX12_forceOf_38 rfl ?_
      refine wa_iconst (v := 1) dX12_forceOf_39 (by decide) ?_
      refine wa_isub dX12_forceOf_40 ?_
      exact wa_iret dX12_forceOf_41 rfl (by first | (rw [if_pos (ni_0 (by assumption) (by omega))] at hq; exact hq) | (rw [if_neg (fun h => (by assumption : ¬ nI t = 0) (by rw [h]; rfl))] at hq; exact hq))
    · refine wa_bipush (v := -2) dX12_forceOf_33 (by decide) ?_
      refine wa_goto (tgt := 41) dX12_forceOf_35 (by decide) ?_
      exact wa_iret dX12_forceOf_41 rfl (by first | (rw [if_pos (ni_0 (by assumption) (by omega))] at hq; exact hq) | (rw [if_neg (fun h => (by assumption : ¬ nI t = 0) (by rw [h]; rfl))] at hq; exact hq))
  have loop : ∀ (n t : Nat), T - t = n → t ≤ T → (∀ j, j < t → md_com M y (30 * p + j) ≤ mm_I M y 27) → wa_ false G jX12_forceOf (d + 2) 0 0 Q 0 0 M 2 [some (.ref y), some (.int (nI p)), some (.int (nI t))] [] := by
    intro n
    induction n using Nat.strongRecOn with
    | ind n ih =>
      intro t hn ht hj
      refine wa_iload_n dX12_forceOf_2 rfl ?_
      refine wa_aload_n dX12_forceOf_3 rfl rfl ?_
      refine wa_getI (q := (RX12, TX12, 50)) (ci := 12) (k := 14) dX12_forceOf_4 rfl (by decide) wf_X12_201 hY.1 rfl ?_
      rw [hT]
      refine wa_icmp_ge (tgt := 29) dX12_forceOf_7 (by decide) (fun hT7 => ?_) (fun hF7 => ?_)
      · exact ex t ht (hQ t ht hj (fun h => by first | exact hC | exact absurd (ni_le hT7 (by omega) (by omega)) (by omega)))
      · refine wa_aload_n dX12_forceOf_10 rfl rfl ?_
        refine wa_iload_n dX12_forceOf_11 rfl ?_
        refine wa_iload_n dX12_forceOf_12 rfl ?_
        refine wa_aload_n dX12_forceOf_13 rfl rfl ?_
        refine wa_getI (q := (RX12, TX12, 50)) (ci := 12) (k := 27) dX12_forceOf_14 rfl (by decide) wf_X12_239 hY.1 rfl ?_
        refine wa_callV (q := (RX12, TX12, 50)) (As := [.int (nI p), .int (nI t), .int (mm_I M y 27)]) dX12_forceOf_17 lk_X12_268 rfl rfl hY.1 rfl rfl (Nat.le_of_ble_eq_true rfl) (Nat.le_of_eq (Nat.zero_add _)) (Nat.le_of_eq (Nat.zero_add _)) (k_X12_hasCome p t _ hY hp (have := ni_nle hF7 (by omega) (by omega); by omega) (fun hC => ?_) (fun hC => ?_))
        · refine wa_if_eq (tgt := 29) dX12_forceOf_20 (by decide) (fun h9 => absurd h9 (by decide)) (fun _ => ?_)
          refine wa_iinc (v := nI (t + 1)) dX12_forceOf_23 rfl (ni_i1 t) (by decide) rfl rfl ?_
          refine wa_goto (tgt := 2) dX12_forceOf_26 (by decide) ?_
          exact ih (T - (t + 1)) (have := ni_nle hF7 (by omega) (by omega); by omega) (t + 1) rfl (have := ni_nle hF7 (by omega) (by omega); by omega) (fun j hj2 => by
            rcases Nat.lt_succ_iff_lt_or_eq.mp hj2 with h | h
            · exact hj j h
            · rw [h]; exact hC)
        · refine wa_if_eq (tgt := 29) dX12_forceOf_20 (by decide) (fun _ => ?_) (fun h9 => absurd h9 (by decide))
          exact ex t ht (hQ t ht hj (fun h => by first | exact hC | exact absurd (ni_le hT7 (by omega) (by omega)) (by omega)))
  refine wa_iconst (v := 0) dX12_forceOf_0 (by decide) ?_
  refine wa_istore_n dX12_forceOf_1 (by decide) rfl rfl ?_
  exact loop T 0 (by omega) (by omega) (fun j h => absurd h (by omega))
end
section
theorem ix_of {x : Int32} {n : Nat} (h0 : ¬ x < 0) (h1 : ¬ nI n ≤ x) (hn : n < 2 ^ 31) : ∃ j : Nat, j < n ∧ x = nI j := by
  rcases pk_ix x hn with h | h | h
  · exact absurd h h0
  · exact absurd h h1
  · exact h

theorem k_X12_force {G : mm_G} {d : Nat} {Q : Option Value → mm_M → Prop} {M : mm_M} {y : Nat} (p : Int32) {M0 : mm_M} (hM0 : M0 = mm_sI M y 0 0) (hY : mdl_ M0 y) (P T : Nat) (hP : mm_I M0 y 26 = nI P) (hP8 : P ≤ 8) (hT : mm_I M0 y 14 = nI T) (hT30 : T ≤ 30) (h0 : p < 0 ∨ mm_I M0 y 26 ≤ p → Q (some (.int (-1))) M0) (h1 : ∀ q t : Nat, p = nI q → q < P → t ≤ T → (∀ j, j < t → md_com M0 y (30 * q + j) ≤ mm_I M0 y 27) → (t < T → mm_I M0 y 27 < md_com M0 y (30 * q + t)) → Q (some (.int (if t = 0 then -2 else nI t - 1))) M0) : ma_ G jX12_force (d + 3) 0 0 [.ref y, .int p] M Q := by
  refine ma_of [some (.ref y), some (.int p)] (by decide) rfl (Nat.le_of_ble_eq_true rfl) ?_
  have hY0 : mdl_ M y := by subst hM0; exact hY
  refine wa_aload_n dX12_force_0 rfl rfl ?_
  refine wa_iconst (v := 0) dX12_force_1 (by decide) ?_
  refine wa_put (q := (RX12, TX12, 50)) (ci := 12) (k := 0) dX12_force_2 rfl (by decide) wf_X12_123 rfl hY0.1 rfl ?_
  rw [show mm_put M y 0 (.int 0) = M0 from hM0.symm]
  refine wa_aload_n dX12_force_5 rfl rfl ?_
  refine wa_iload_n dX12_force_6 rfl ?_
  refine wa_callV (q := (RX12, TX12, 50)) (As := [.int p]) dX12_force_7 lk_X12_262 rfl rfl hY.1 rfl rfl (Nat.le_of_ble_eq_true rfl) (Nat.le_of_eq (Nat.zero_add _)) (Nat.le_of_eq (Nat.zero_add _)) (k_X12_isPort p hY (fun hA hB => ?_) (fun hA => ?_))
  · rw [hP] at hB
    obtain ⟨q, hq, rfl⟩ := ix_of hA hB (by omega)
    refine wa_if_eq (tgt := 21) dX12_force_10 (by decide) (fun h9 => absurd h9 (by decide)) (fun _ => ?_)
    refine wa_aload_n dX12_force_13 rfl rfl ?_
    refine wa_iload_n dX12_force_14 rfl ?_
    refine wa_callV (q := (RX12, TX12, 50)) (As := [.int (nI q)]) dX12_force_15 lk_X12_275 rfl rfl hY.1 rfl rfl (Nat.le_of_ble_eq_true rfl) (Nat.le_of_eq (Nat.zero_add _)) (Nat.le_of_eq (Nat.zero_add _)) (k_X12_forceOf q T hY (by omega) hT hT30 (fun t ha hb hc => ?_))
    refine wa_goto (tgt := 22) dX12_force_18 (by decide) ?_
    exact wa_iret dX12_force_22 rfl (h1 q t rfl hq ha hb hc)
  · refine wa_if_eq (tgt := 21) dX12_force_10 (by decide) (fun _ => ?_) (fun h9 => absurd h9 (by decide))
    refine wa_iconst (v := -1) dX12_force_21 (by decide) ?_
    exact wa_iret dX12_force_22 rfl (h0 hA)

theorem k_X12_came {G : mm_G} {d : Nat} {Q : Option Value → mm_M → Prop} {M : mm_M} {y : Nat} (p : Int32) (r : Int32) {M0 : mm_M} (hM0 : M0 = mm_sI M y 0 0) (hY : mdl_ M0 y) (P T : Nat) (hP : mm_I M0 y 26 = nI P) (hP8 : P ≤ 8) (hT : mm_I M0 y 14 = nI T) (hT30 : T ≤ 30) (hA0 : p < 0 ∨ mm_I M0 y 26 ≤ p → Q (some (.int (-1))) M0) (hB0 : r < 0 ∨ mm_I M0 y 14 ≤ r → Q (some (.int (-1))) M0) (h1 : ∀ q t : Nat, p = nI q → r = nI t → q < P → t < T → md_com M0 y (30 * q + t) ≤ mm_I M0 y 27 → Q (some (.int (md_com M0 y (30 * q + t)))) M0) (h2 : ∀ q t : Nat, p = nI q → r = nI t → q < P → t < T → mm_I M0 y 27 < md_com M0 y (30 * q + t) → Q (some (.int (-2))) M0) : ma_ G jX12_came (d + 2) 0 0 [.ref y, .int p, .int r] M Q := by
  refine ma_of [some (.ref y), some (.int p), some (.int r)] (by decide) rfl (Nat.le_of_ble_eq_true rfl) ?_
  have hY0 : mdl_ M y := by subst hM0; exact hY
  refine wa_aload_n dX12_came_0 rfl rfl ?_
  refine wa_iconst (v := 0) dX12_came_1 (by decide) ?_
  refine wa_put (q := (RX12, TX12, 50)) (ci := 12) (k := 0) dX12_came_2 rfl (by decide) wf_X12_123 rfl hY0.1 rfl ?_
  rw [show mm_put M y 0 (.int 0) = M0 from hM0.symm]
  refine wa_aload_n dX12_came_5 rfl rfl ?_
  refine wa_iload_n dX12_came_6 rfl ?_
  refine wa_callV (q := (RX12, TX12, 50)) (As := [.int p]) dX12_came_7 lk_X12_262 rfl rfl hY.1 rfl rfl (Nat.le_of_ble_eq_true rfl) (Nat.le_of_eq (Nat.zero_add _)) (Nat.le_of_eq (Nat.zero_add _)) (k_X12_isPort p hY (fun hA hB => ?_) (fun hA => ?_))
  · rw [hP] at hB
    obtain ⟨q, hq, rfl⟩ := ix_of hA hB (by omega)
    refine wa_if_eq (tgt := 21) dX12_came_10 (by decide) (fun h9 => absurd h9 (by decide)) (fun _ => ?_)
    refine wa_aload_n dX12_came_13 rfl rfl ?_
    refine wa_iload_n dX12_came_14 rfl ?_
    refine wa_callV (q := (RX12, TX12, 50)) (As := [.int r]) dX12_came_15 lk_X12_265 rfl rfl hY.1 rfl rfl (Nat.le_of_ble_eq_true rfl) (Nat.le_of_eq (Nat.zero_add _)) (Nat.le_of_eq (Nat.zero_add _)) (k_X12_isTariff r hY (fun hC hD => ?_) (fun hC => ?_))
    · rw [hT] at hD
      obtain ⟨t, ht, rfl⟩ := ix_of hC hD (by omega)
      refine wa_if_ne (tgt := 23) dX12_came_18 (by decide) (fun _ => ?_) (fun h9 => absurd h9 (by decide))
      refine wa_aload_n dX12_came_23 rfl rfl ?_
      refine wa_iload_n dX12_came_24 rfl ?_
      refine wa_iload_n dX12_came_25 rfl ?_
      refine wa_aload_n dX12_came_26 rfl rfl ?_
      refine wa_getI (q := (RX12, TX12, 50)) (ci := 12) (k := 27) dX12_came_27 rfl (by decide) wf_X12_239 hY.1 rfl ?_
      refine wa_callV (q := (RX12, TX12, 50)) (As := [.int (nI q), .int (nI t), .int (mm_I M0 y 27)]) dX12_came_30 lk_X12_268 rfl rfl hY.1 rfl rfl (Nat.le_of_ble_eq_true rfl) (Nat.le_of_eq (Nat.zero_add _)) (Nat.le_of_eq (Nat.zero_add _)) (k_X12_hasCome q t _ hY (by omega) (by omega) (fun hE => ?_) (fun hE => ?_))
      · refine wa_if_eq (tgt := 45) dX12_came_33 (by decide) (fun h9 => absurd h9 (by decide)) (fun _ => ?_)
        refine wa_aload_n dX12_came_36 rfl rfl ?_
        refine wa_iload_n dX12_came_37 rfl ?_
        refine wa_iload_n dX12_came_38 rfl ?_
        refine wa_callV (q := (RX12, TX12, 50)) (As := [.int (nI q), .int (nI t)]) dX12_came_39 lk_X12_259 rfl rfl hY.1 rfl rfl (Nat.le_of_ble_eq_true rfl) (Nat.le_of_eq (Nat.zero_add _)) (Nat.le_of_eq (Nat.zero_add _)) (k_X12_comes q t hY (by omega) (by omega) ?_)
        refine wa_goto (tgt := 47) dX12_came_42 (by decide) ?_
        exact wa_iret dX12_came_47 rfl (h1 q t rfl rfl hq ht hE)
      · refine wa_if_eq (tgt := 45) dX12_came_33 (by decide) (fun _ => ?_) (fun h9 => absurd h9 (by decide))
        refine wa_bipush (v := -2) dX12_came_45 (by decide) ?_
        exact wa_iret dX12_came_47 rfl (h2 q t rfl rfl hq ht hE)
    · refine wa_if_ne (tgt := 23) dX12_came_18 (by decide) (fun h9 => absurd h9 (by decide)) (fun _ => ?_)
      refine wa_iconst (v := -1) dX12_came_21 (by decide) ?_
      exact wa_iret dX12_came_22 rfl (by first | exact hB0 hC | exact hA0 hA)
  · refine wa_if_eq (tgt := 21) dX12_came_10 (by decide) (fun _ => ?_) (fun h9 => absurd h9 (by decide))
    refine wa_iconst (v := -1) dX12_came_21 (by decide) ?_
    exact wa_iret dX12_came_22 rfl (by first | exact hB0 hC | exact hA0 hA)

theorem k_X12_asked {G : mm_G} {d : Nat} {Q : Option Value → mm_M → Prop} {M : mm_M} {y : Nat} (p : Int32) (r : Int32) {M0 : mm_M} (hM0 : M0 = mm_sI M y 0 0) (hY : mdl_ M0 y) (P T : Nat) (hP : mm_I M0 y 26 = nI P) (hP8 : P ≤ 8) (hT : mm_I M0 y 14 = nI T) (hT30 : T ≤ 30) (hA0 : p < 0 ∨ mm_I M0 y 26 ≤ p → Q (some (.int (-1))) M0) (hB0 : r < 0 ∨ mm_I M0 y 14 ≤ r → Q (some (.int (-1))) M0) (h1 : ∀ q t : Nat, p = nI q → r = nI t → q < P → t < T → ¬ mm_I M0 (y + 22) (30 * q + t) = 1000000 → Q (some (.int 1)) M0) (h2 : ∀ q t : Nat, p = nI q → r = nI t → q < P → t < T → mm_I M0 (y + 22) (30 * q + t) = 1000000 → Q (some (.int 0)) M0) : ma_ G jX12_asked (d + 1) 0 0 [.ref y, .int p, .int r] M Q := by
  refine ma_of [some (.ref y), some (.int p), some (.int r)] (by decide) rfl (Nat.le_of_ble_eq_true rfl) ?_
  have hY0 : mdl_ M y := by subst hM0; exact hY
  refine wa_aload_n dX12_asked_0 rfl rfl ?_
  refine wa_iconst (v := 0) dX12_asked_1 (by decide) ?_
  refine wa_put (q := (RX12, TX12, 50)) (ci := 12) (k := 0) dX12_asked_2 rfl (by decide) wf_X12_123 rfl hY0.1 rfl ?_
  rw [show mm_put M y 0 (.int 0) = M0 from hM0.symm]
  refine wa_aload_n dX12_asked_5 rfl rfl ?_
  refine wa_iload_n dX12_asked_6 rfl ?_
  refine wa_callV (q := (RX12, TX12, 50)) (As := [.int p]) dX12_asked_7 lk_X12_262 rfl rfl hY.1 rfl rfl (Nat.le_of_ble_eq_true rfl) (Nat.le_of_eq (Nat.zero_add _)) (Nat.le_of_eq (Nat.zero_add _)) (k_X12_isPort p hY (fun hA hB => ?_) (fun hA => ?_))
  · rw [hP] at hB
    obtain ⟨q, hq, rfl⟩ := ix_of hA hB (by omega)
    refine wa_if_eq (tgt := 21) dX12_asked_10 (by decide) (fun h9 => absurd h9 (by decide)) (fun _ => ?_)
    refine wa_aload_n dX12_asked_13 rfl rfl ?_
    refine wa_iload_n dX12_asked_14 rfl ?_
    refine wa_callV (q := (RX12, TX12, 50)) (As := [.int r]) dX12_asked_15 lk_X12_265 rfl rfl hY.1 rfl rfl (Nat.le_of_ble_eq_true rfl) (Nat.le_of_eq (Nat.zero_add _)) (Nat.le_of_eq (Nat.zero_add _)) (k_X12_isTariff r hY (fun hC hD => ?_) (fun hC => ?_))
    · rw [hT] at hD
      obtain ⟨t, ht, rfl⟩ := ix_of hC hD (by omega)
      refine wa_if_ne (tgt := 23) dX12_asked_18 (by decide) (fun _ => ?_) (fun h9 => absurd h9 (by decide))
      refine wa_aload_n dX12_asked_23 rfl rfl ?_
      refine wa_getR (q := (RX12, TX12, 50)) (ci := 12) (k := 36) dX12_asked_24 rfl (by decide) wf_X12_82 hY.1 rfl (md_r36 hY) ?_
      refine wa_bipush (v := 30) dX12_asked_27 (by decide) ?_
      refine wa_iload_n dX12_asked_29 rfl ?_
      refine wa_imul dX12_asked_30 ?_
      refine wa_iload_n dX12_asked_31 rfl ?_
      refine wa_iadd dX12_asked_32 ?_
      rw [ix_30 q t]
      refine wa_ialdN dX12_asked_33 (md_s36 hY) (Or.inl rfl) (by omega) (by decide) ?_
      refine wa_ldc dX12_asked_34 wl_X12_249 ?_
      refine wa_icmp_ne (tgt := 43) dX12_asked_36 (by decide) (fun hT36 => ?_) (fun hF36 => ?_)
      · refine wa_iconst (v := 1) dX12_asked_43 (by decide) ?_
        exact wa_iret dX12_asked_44 rfl (h1 q t rfl rfl hq ht (by assumption))
      · refine wa_iconst (v := 0) dX12_asked_39 (by decide) ?_
        refine wa_goto (tgt := 44) dX12_asked_40 (by decide) ?_
        exact wa_iret dX12_asked_44 rfl (h2 q t rfl rfl hq ht (by assumption))
    · refine wa_if_ne (tgt := 23) dX12_asked_18 (by decide) (fun h9 => absurd h9 (by decide)) (fun _ => ?_)
      refine wa_iconst (v := -1) dX12_asked_21 (by decide) ?_
      exact wa_iret dX12_asked_22 rfl (by first | exact hB0 hC | exact hA0 hA)
  · refine wa_if_eq (tgt := 21) dX12_asked_10 (by decide) (fun _ => ?_) (fun h9 => absurd h9 (by decide))
    refine wa_iconst (v := -1) dX12_asked_21 (by decide) ?_
    exact wa_iret dX12_asked_22 rfl (by first | exact hB0 hC | exact hA0 hA)

theorem k_X12_lost {G : mm_G} {d : Nat} {Q : Option Value → mm_M → Prop} {M : mm_M} {y : Nat} (p : Int32) (r : Int32) {M0 : mm_M} (hM0 : M0 = mm_sI M y 0 0) (hY : mdl_ M0 y) (P T : Nat) (hP : mm_I M0 y 26 = nI P) (hP8 : P ≤ 8) (hT : mm_I M0 y 14 = nI T) (hT30 : T ≤ 30) (hA0 : p < 0 ∨ mm_I M0 y 26 ≤ p → Q (some (.int 0)) (mm_sI (mm_sI M0 y 1 1) y 2 (-1))) (hB0 : r < 0 ∨ mm_I M0 y 14 ≤ r → Q (some (.int 0)) (mm_sI (mm_sI M0 y 1 1) y 2 (-1))) (h7 : ∀ q t : Nat, p = nI q → r = nI t → q < P → t < T → (¬ mm_I M0 (y + 23) (30 * q + t) = 0 ∨ md_com M0 y (30 * q + t) ≤ mm_I M0 y 27) → Q (some (.int 0)) (mm_sI (mm_sI M0 y 1 7) y 2 (-1))) (h1 : ∀ q t : Nat, p = nI q → r = nI t → q < P → t < T → mm_I M0 (y + 23) (30 * q + t) = 0 → mm_I M0 y 27 < md_com M0 y (30 * q + t) → Q (some (.int 1)) (mm_sI (mm_sI (mm_sI M0 y 1 0) y 2 (-1)) (y + 23) (30 * q + t) 1)) : ma_ G jX12_lost (d + 2) 0 0 [.ref y, .int p, .int r] M Q := by
  refine ma_of [some (.ref y), some (.int p), some (.int r), none, none] (by decide) rfl (Nat.le_of_ble_eq_true rfl) ?_
  have hY0 : mdl_ M y := by subst hM0; exact hY
  refine wa_aload_n dX12_lost_0 rfl rfl ?_
  refine wa_iconst (v := 0) dX12_lost_1 (by decide) ?_
  refine wa_put (q := (RX12, TX12, 50)) (ci := 12) (k := 0) dX12_lost_2 rfl (by decide) wf_X12_123 rfl hY0.1 rfl ?_
  rw [show mm_put M y 0 (.int 0) = M0 from hM0.symm]
  refine wa_aload_n dX12_lost_5 rfl rfl ?_
  refine wa_iload_n dX12_lost_6 rfl ?_
  refine wa_callV (q := (RX12, TX12, 50)) (As := [.int p]) dX12_lost_7 lk_X12_262 rfl rfl hY.1 rfl rfl (Nat.le_of_ble_eq_true rfl) (Nat.le_of_eq (Nat.zero_add _)) (Nat.le_of_eq (Nat.zero_add _)) (k_X12_isPort p hY (fun hA hB => ?_) (fun hA => ?_))
  · rw [hP] at hB
    obtain ⟨q, hq, rfl⟩ := ix_of hA hB (by omega)
    refine wa_if_eq (tgt := 25) dX12_lost_10 (by decide) (fun h9 => absurd h9 (by decide)) (fun _ => ?_)
    refine wa_aload_n dX12_lost_13 rfl rfl ?_
    refine wa_iload_n dX12_lost_14 rfl ?_
    refine wa_callV (q := (RX12, TX12, 50)) (As := [.int r]) dX12_lost_15 lk_X12_265 rfl rfl hY.1 rfl rfl (Nat.le_of_ble_eq_true rfl) (Nat.le_of_eq (Nat.zero_add _)) (Nat.le_of_eq (Nat.zero_add _)) (k_X12_isTariff r hY (fun hC hD => ?_) (fun hC => ?_))
    · rw [hT] at hD
      obtain ⟨t, ht, rfl⟩ := ix_of hC hD (by omega)
      refine wa_if_eq (tgt := 25) dX12_lost_18 (by decide) (fun h9 => absurd h9 (by decide)) (fun _ => ?_)
      refine wa_iconst (v := 1) dX12_lost_21 (by decide) ?_
      refine wa_goto (tgt := 26) dX12_lost_22 (by decide) ?_
      refine wa_istore_n dX12_lost_26 (by decide) rfl rfl ?_
      refine wa_iload_n dX12_lost_27 rfl ?_
      refine wa_if_eq (tgt := 62) dX12_lost_28 (by decide) (fun h9 => absurd h9 (by decide)) (fun _ => ?_)
      refine wa_aload_n dX12_lost_31 rfl rfl ?_
      refine wa_getR (q := (RX12, TX12, 50)) (ci := 12) (k := 37) dX12_lost_32 rfl (by decide) wf_X12_85 hY.1 rfl (md_r37 hY) ?_
      refine wa_bipush (v := 30) dX12_lost_35 (by decide) ?_
      refine wa_iload_n dX12_lost_37 rfl ?_
      refine wa_imul dX12_lost_38 ?_
      refine wa_iload_n dX12_lost_39 rfl ?_
      refine wa_iadd dX12_lost_40 ?_
      rw [ix_30 q t]
      refine wa_baldN dX12_lost_41 (md_s37 hY) (Or.inr rfl) (by omega) (by decide) ?_
      refine wa_if_ne (tgt := 62) dX12_lost_42 (by decide) (fun hT42 => ?_) (fun hF42 => ?_)
      · refine wa_iconst (v := 0) dX12_lost_62 (by decide) ?_
        refine wa_istore dX12_lost_63 (by decide) rfl rfl ?_
        refine wa_aload_n dX12_lost_65 rfl rfl ?_
        refine wa_iload_n dX12_lost_66 rfl ?_
        refine wa_if_ne (tgt := 74) dX12_lost_67 (by decide) (fun _ => ?_) (fun h9 => absurd h9 (by decide))
        refine wa_iload dX12_lost_74 rfl ?_
        refine wa_if_eq (tgt := 83) dX12_lost_76 (by decide) (fun _ => ?_) (fun h9 => absurd h9 (by decide))
        refine wa_bipush (v := 7) dX12_lost_83 (by decide) ?_
        refine wa_put (q := (RX12, TX12, 50)) (ci := 12) (k := 1) dX12_lost_85 rfl (by decide) wf_X12_126 rfl hY.1 rfl ?_
        refine wa_aload_n dX12_lost_88 rfl rfl ?_
        refine wa_iconst (v := -1) dX12_lost_89 (by decide) ?_
        refine wa_put (q := (RX12, TX12, 50)) (ci := 12) (k := 2) dX12_lost_90 rfl (by decide) wf_X12_9 rfl hY.1 rfl ?_
        refine wa_iload dX12_lost_93 rfl ?_
        refine wa_if_eq (tgt := 110) dX12_lost_95 (by decide) (fun _ => ?_) (fun h9 => absurd h9 (by decide))
        refine wa_iload dX12_lost_110 rfl ?_
        exact wa_zret dX12_lost_112 rfl rfl (by first | exact h7 q t rfl rfl hq ht (Or.inr hE) | exact h7 q t rfl rfl hq ht (Or.inl (by assumption)) | exact hB0 hC | exact hA0 hA)
      · refine wa_aload_n dX12_lost_45 rfl rfl ?_
        refine wa_iload_n dX12_lost_46 rfl ?_
        refine wa_iload_n dX12_lost_47 rfl ?_
        refine wa_aload_n dX12_lost_48 rfl rfl ?_
        refine wa_getI (q := (RX12, TX12, 50)) (ci := 12) (k := 27) dX12_lost_49 rfl (by decide) wf_X12_239 hY.1 rfl ?_
        refine wa_callV (q := (RX12, TX12, 50)) (As := [.int (nI q), .int (nI t), .int (mm_I M0 y 27)]) dX12_lost_52 lk_X12_268 rfl rfl hY.1 rfl rfl (Nat.le_of_ble_eq_true rfl) (Nat.le_of_eq (Nat.zero_add _)) (Nat.le_of_eq (Nat.zero_add _)) (k_X12_hasCome q t _ hY (by omega) (by omega) (fun hE => ?_) (fun hE => ?_))
        · refine wa_if_ne (tgt := 62) dX12_lost_55 (by decide) (fun _ => ?_) (fun h9 => absurd h9 (by decide))
          refine wa_iconst (v := 0) dX12_lost_62 (by decide) ?_
          refine wa_istore dX12_lost_63 (by decide) rfl rfl ?_
          refine wa_aload_n dX12_lost_65 rfl rfl ?_
          refine wa_iload_n dX12_lost_66 rfl ?_
          refine wa_if_ne (tgt := 74) dX12_lost_67 (by decide) (fun _ => ?_) (fun h9 => absurd h9 (by decide))
          refine wa_iload dX12_lost_74 rfl ?_
          refine wa_if_eq (tgt := 83) dX12_lost_76 (by decide) (fun _ => ?_) (fun h9 => absurd h9 (by decide))
          refine wa_bipush (v := 7) dX12_lost_83 (by decide) ?_
          refine wa_put (q := (RX12, TX12, 50)) (ci := 12) (k := 1) dX12_lost_85 rfl (by decide) wf_X12_126 rfl hY.1 rfl ?_
          refine wa_aload_n dX12_lost_88 rfl rfl ?_
          refine wa_iconst (v := -1) dX12_lost_89 (by decide) ?_
          refine wa_put (q := (RX12, TX12, 50)) (ci := 12) (k := 2) dX12_lost_90 rfl (by decide) wf_X12_9 rfl hY.1 rfl ?_
          refine wa_iload dX12_lost_93 rfl ?_
          refine wa_if_eq (tgt := 110) dX12_lost_95 (by decide) (fun _ => ?_) (fun h9 => absurd h9 (by decide))
          refine wa_iload dX12_lost_110 rfl ?_
          exact wa_zret dX12_lost_112 rfl rfl (by first | exact h7 q t rfl rfl hq ht (Or.inr hE) | exact h7 q t rfl rfl hq ht (Or.inl (by assumption)) | exact hB0 hC | exact hA0 hA)
        · refine wa_if_ne (tgt := 62) dX12_lost_55 (by decide) (fun h9 => absurd h9 (by decide)) (fun _ => ?_)
          refine wa_iconst (v := 1) dX12_lost_58 (by decide) ?_
          refine wa_goto (tgt := 63) dX12_lost_59 (by decide) ?_
          refine wa_istore dX12_lost_63 (by decide) rfl rfl ?_
          refine wa_aload_n dX12_lost_65 rfl rfl ?_
          refine wa_iload_n dX12_lost_66 rfl ?_
          refine wa_if_ne (tgt := 74) dX12_lost_67 (by decide) (fun _ => ?_) (fun h9 => absurd h9 (by decide))
          refine wa_iload dX12_lost_74 rfl ?_
          refine wa_if_eq (tgt := 83) dX12_lost_76 (by decide) (fun h9 => absurd h9 (by decide)) (fun _ => ?_)
          refine wa_iconst (v := 0) dX12_lost_79 (by decide) ?_
          refine wa_goto (tgt := 85) dX12_lost_80 (by decide) ?_
          refine wa_put (q := (RX12, TX12, 50)) (ci := 12) (k := 1) dX12_lost_85 rfl (by decide) wf_X12_126 rfl hY.1 rfl ?_
          refine wa_aload_n dX12_lost_88 rfl rfl ?_
          refine wa_iconst (v := -1) dX12_lost_89 (by decide) ?_
          refine wa_put (q := (RX12, TX12, 50)) (ci := 12) (k := 2) dX12_lost_90 rfl (by decide) wf_X12_9 rfl hY.1 rfl ?_
          refine wa_iload dX12_lost_93 rfl ?_
          refine wa_if_eq (tgt := 110) dX12_lost_95 (by decide) (fun h9 => absurd h9 (by decide)) (fun _ => ?_)
          refine wa_aload_n dX12_lost_98 rfl rfl ?_
          refine wa_getR (q := (RX12, TX12, 50)) (ci := 12) (k := 37) dX12_lost_99 rfl (by decide) wf_X12_85 hY.1 rfl (md_r37 hY) ?_
          refine wa_bipush (v := 30) dX12_lost_102 (by decide) ?_
          refine wa_iload_n dX12_lost_104 rfl ?_
          refine wa_imul dX12_lost_105 ?_
          refine wa_iload_n dX12_lost_106 rfl ?_
          refine wa_iadd dX12_lost_107 ?_
          rw [ix_30 q t]
          refine wa_iconst (v := 1) dX12_lost_108 (by decide) ?_
          refine wa_zastN dX12_lost_109 (md_s37 hY) (by omega) (by decide) (by decide) ?_
          refine wa_iload dX12_lost_110 rfl ?_
          exact wa_zret dX12_lost_112 rfl rfl (h1 q t rfl rfl hq ht (by assumption) hE)
    · refine wa_if_eq (tgt := 25) dX12_lost_18 (by decide) (fun _ => ?_) (fun h9 => absurd h9 (by decide))
      refine wa_iconst (v := 0) dX12_lost_25 (by decide) ?_
      refine wa_istore_n dX12_lost_26 (by decide) rfl rfl ?_
      refine wa_iload_n dX12_lost_27 rfl ?_
      refine wa_if_eq (tgt := 62) dX12_lost_28 (by decide) (fun _ => ?_) (fun h9 => absurd h9 (by decide))
      refine wa_iconst (v := 0) dX12_lost_62 (by decide) ?_
      refine wa_istore dX12_lost_63 (by decide) rfl rfl ?_
      refine wa_aload_n dX12_lost_65 rfl rfl ?_
      refine wa_iload_n dX12_lost_66 rfl ?_
      refine wa_if_ne (tgt := 74) dX12_lost_67 (by decide) (fun h9 => absurd h9 (by decide)) (fun _ => ?_)
      refine wa_iconst (v := 1) dX12_lost_70 (by decide) ?_
      refine wa_goto (tgt := 85) dX12_lost_71 (by decide) ?_
      refine wa_put (q := (RX12, TX12, 50)) (ci := 12) (k := 1) dX12_lost_85 rfl (by decide) wf_X12_126 rfl hY.1 rfl ?_
      refine wa_aload_n dX12_lost_88 rfl rfl ?_
      refine wa_iconst (v := -1) dX12_lost_89 (by decide) ?_
      refine wa_put (q := (RX12, TX12, 50)) (ci := 12) (k := 2) dX12_lost_90 rfl (by decide) wf_X12_9 rfl hY.1 rfl ?_
      refine wa_iload dX12_lost_93 rfl ?_
      refine wa_if_eq (tgt := 110) dX12_lost_95 (by decide) (fun _ => ?_) (fun h9 => absurd h9 (by decide))
      refine wa_iload dX12_lost_110 rfl ?_
      exact wa_zret dX12_lost_112 rfl rfl (by first | exact h7 q t rfl rfl hq ht (Or.inr hE) | exact h7 q t rfl rfl hq ht (Or.inl (by assumption)) | exact hB0 hC | exact hA0 hA)
  · refine wa_if_eq (tgt := 25) dX12_lost_10 (by decide) (fun _ => ?_) (fun h9 => absurd h9 (by decide))
    refine wa_iconst (v := 0) dX12_lost_25 (by decide) ?_
    refine wa_istore_n dX12_lost_26 (by decide) rfl rfl ?_
    refine wa_iload_n dX12_lost_27 rfl ?_
    refine wa_if_eq (tgt := 62) dX12_lost_28 (by decide) (fun _ => ?_) (fun h9 => absurd h9 (by decide))
    refine wa_iconst (v := 0) dX12_lost_62 (by decide) ?_
    refine wa_istore dX12_lost_63 (by decide) rfl rfl ?_
    refine wa_aload_n dX12_lost_65 rfl rfl ?_
    refine wa_iload_n dX12_lost_66 rfl ?_
    refine wa_if_ne (tgt := 74) dX12_lost_67 (by decide) (fun h9 => absurd h9 (by decide)) (fun _ => ?_)
    refine wa_iconst (v := 1) dX12_lost_70 (by decide) ?_
    refine wa_goto (tgt := 85) dX12_lost_71 (by decide) ?_
    refine wa_put (q := (RX12, TX12, 50)) (ci := 12) (k := 1) dX12_lost_85 rfl (by decide) wf_X12_126 rfl hY.1 rfl ?_
    refine wa_aload_n dX12_lost_88 rfl rfl ?_
    refine wa_iconst (v := -1) dX12_lost_89 (by decide) ?_
    refine wa_put (q := (RX12, TX12, 50)) (ci := 12) (k := 2) dX12_lost_90 rfl (by decide) wf_X12_9 rfl hY.1 rfl ?_
    refine wa_iload dX12_lost_93 rfl ?_
    refine wa_if_eq (tgt := 110) dX12_lost_95 (by decide) (fun _ => ?_) (fun h9 => absurd h9 (by decide))
    refine wa_iload dX12_lost_110 rfl ?_
    exact wa_zret dX12_lost_112 rfl rfl (by first | exact h7 q t rfl rfl hq ht (Or.inr hE) | exact h7 q t rfl rfl hq ht (Or.inl (by assumption)) | exact hB0 hC | exact hA0 hA)

theorem k_X12_homeOf {G : mm_G} {d : Nat} {Q : Option Value → mm_M → Prop} {M : mm_M} {y : Nat} (i : Nat) (q : Nat) (hY : mdl_ M y) (hi : i < 200) (hpp : mm_I M (y + 24) i = nI q) (hq : q < 8) (hQ : Q (some (.int ((mm_I M (y + 28) i + 29) / 30 * 30 + mm_I M (y + 14) q))) M) : ma_ G jX12_homeOf d 0 0 [.ref y, .int (nI i)] M Q := by
  refine ma_of [some (.ref y), some (.int (nI i))] (by decide) rfl (Nat.le_of_ble_eq_true rfl) ?_
  refine wa_aload_n dX12_homeOf_0 rfl rfl ?_
  refine wa_getR (q := (RX12, TX12, 50)) (ci := 12) (k := 43) dX12_homeOf_1 rfl (by decide) wf_X12_101 hY.1 rfl (md_r43 hY) ?_
  refine wa_iload_n dX12_homeOf_4 rfl ?_
  refine wa_ialdN dX12_homeOf_5 (md_s43 hY) (Or.inl rfl) (by omega) (by decide) ?_
  refine wa_bipush (v := 29) dX12_homeOf_6 (by decide) ?_
  refine wa_iadd dX12_homeOf_8 ?_
  refine wa_bipush (v := 30) dX12_homeOf_9 (by decide) ?_
  refine wa_idiv dX12_homeOf_11 (by decide) ?_
  refine wa_bipush (v := 30) dX12_homeOf_12 (by decide) ?_
  refine wa_imul dX12_homeOf_14 ?_
  refine wa_aload_n dX12_homeOf_15 rfl rfl ?_
  refine wa_getR (q := (RX12, TX12, 50)) (ci := 12) (k := 28) dX12_homeOf_16 rfl (by decide) wf_X12_58 hY.1 rfl (md_r28 hY) ?_
  refine wa_aload_n dX12_homeOf_19 rfl rfl ?_
  refine wa_getR (q := (RX12, TX12, 50)) (ci := 12) (k := 39) dX12_homeOf_20 rfl (by decide) wf_X12_89 hY.1 rfl (md_r39 hY) ?_
  refine wa_iload_n dX12_homeOf_23 rfl ?_
  refine wa_ialdN dX12_homeOf_24 (md_s39 hY) (Or.inl rfl) (by omega) (by decide) ?_
  rw [hpp]
  refine wa_ialdN dX12_homeOf_25 (md_s28 hY) (Or.inl rfl) (by omega) (by decide) ?_
  refine wa_iadd dX12_homeOf_26 ?_
  exact wa_iret dX12_homeOf_27 rfl (hQ)
end
section
theorem sw_of (x : Int32) (n : Nat) (hn : n < 2 ^ 30) : (∃ j : Nat, j ≤ n ∧ x = nI j) ∨ (x.toInt < 0 ∨ (n : Int) < x.toInt) := by
  rcases pk_ix x (n := n + 1) (by omega) with h | h | ⟨j, h, e⟩
  · exact Or.inr (Or.inl (by simpa using Int32.lt_iff_toInt_lt.mp h))
  · refine Or.inr (Or.inr ?_)
    have h1 := Int32.le_iff_toInt_le.mp h
    rw [nI_toInt (by omega)] at h1
    omega
  · exact Or.inl ⟨j, by omega, e⟩
theorem ix_5 (p t : Nat) : (5 : Int32) * nI p + nI t = nI (5 * p + t) := ni_lin 5 p t
theorem ix_in {x M : Int32} {n : Nat} (hM : M.toInt = n) (h0 : 0 ≤ x) (h1 : x ≤ M) : ∃ j : Nat, j ≤ n ∧ x = nI j := nI_of2 hM (Int32.not_lt.mpr h0) h1

theorem k_X12_isPaper {G : mm_G} {d : Nat} {Q : Option Value → mm_M → Prop} {M : mm_M} (k : Int32) (v : Int32) (s : Int32) (h1 : 0 ≤ k → k ≤ 9 → 0 ≤ v → v ≤ 9999 → 1 ≤ s → s ≤ 99 → Q (some (.int 1)) M) (h0 : ¬ (0 ≤ k ∧ k ≤ 9 ∧ 0 ≤ v ∧ v ≤ 9999 ∧ 1 ≤ s ∧ s ≤ 99) → Q (some (.int 0)) M) : ma_ G jX12_isPaper (d + 1) 0 0 [.int k, .int v, .int s] M Q := by
  refine ma_of [some (.int k), some (.int v), some (.int s)] (by decide) rfl (Nat.le_of_ble_eq_true rfl) ?_
  refine wa_iload_n dX12_isPaper_0 rfl ?_
  refine wa_iconst (v := 0) dX12_isPaper_1 (by decide) ?_
  refine wa_bipush (v := 9) dX12_isPaper_2 (by decide) ?_
  refine wa_callS (As := [.int k, .int 0, .int 9]) dX12_isPaper_4 lk_X12_229 rfl rfl (Nat.le_of_ble_eq_true rfl) (Nat.le_of_eq (Nat.zero_add _)) (Nat.le_of_eq (Nat.zero_add _)) (k_X12_in k 0 9 (fun ha hb => ?_) (fun ha => ?_))
  · refine wa_if_eq (tgt := 35) dX12_isPaper_7 (by decide) (fun h9 => absurd h9 (by decide)) (fun _ => ?_)
    refine wa_iload_n dX12_isPaper_10 rfl ?_
    refine wa_iconst (v := 0) dX12_isPaper_11 (by decide) ?_
    refine wa_sipush (v := 9999) dX12_isPaper_12 (by decide) ?_
    refine wa_callS (As := [.int v, .int 0, .int 9999]) dX12_isPaper_15 lk_X12_229 rfl rfl (Nat.le_of_ble_eq_true rfl) (Nat.le_of_eq (Nat.zero_add _)) (Nat.le_of_eq (Nat.zero_add _)) (k_X12_in v 0 9999 (fun hc hd => ?_) (fun hc => ?_))
    · refine wa_if_eq (tgt := 35) dX12_isPaper_18 (by decide) (fun h9 => absurd h9 (by decide)) (fun _ => ?_)
      refine wa_iload_n dX12_isPaper_21 rfl ?_
      refine wa_iconst (v := 1) dX12_isPaper_22 (by decide) ?_
      refine wa_bipush (v := 99) dX12_isPaper_23 (by decide) ?_
      refine wa_callS (As := [.int s, .int 1, .int 99]) dX12_isPaper_25 lk_X12_229 rfl rfl (Nat.le_of_ble_eq_true rfl) (Nat.le_of_eq (Nat.zero_add _)) (Nat.le_of_eq (Nat.zero_add _)) (k_X12_in s 1 99 (fun he hf => ?_) (fun he => ?_))
      · refine wa_if_eq (tgt := 35) dX12_isPaper_28 (by decide) (fun h9 => absurd h9 (by decide)) (fun _ => ?_)
        refine wa_iconst (v := 1) dX12_isPaper_31 (by decide) ?_
        refine wa_goto (tgt := 36) dX12_isPaper_32 (by decide) ?_
        exact wa_zret dX12_isPaper_36 rfl rfl (h1 ha hb hc hd he hf)
      · refine wa_if_eq (tgt := 35) dX12_isPaper_28 (by decide) (fun _ => ?_) (fun h9 => absurd h9 (by decide))
        refine wa_iconst (v := 0) dX12_isPaper_35 (by decide) ?_
        exact wa_zret dX12_isPaper_36 rfl rfl (h0 (fun q => by first | exact he ⟨q.2.2.2.2.1, q.2.2.2.2.2⟩ | exact hc ⟨q.2.2.1, q.2.2.2.1⟩ | exact ha ⟨q.1, q.2.1⟩))
    · refine wa_if_eq (tgt := 35) dX12_isPaper_18 (by decide) (fun _ => ?_) (fun h9 => absurd h9 (by decide))
      refine wa_iconst (v := 0) dX12_isPaper_35 (by decide) ?_
      exact wa_zret dX12_isPaper_36 rfl rfl (h0 (fun q => by first | exact he ⟨q.2.2.2.2.1, q.2.2.2.2.2⟩ | exact hc ⟨q.2.2.1, q.2.2.2.1⟩ | exact ha ⟨q.1, q.2.1⟩))
  · refine wa_if_eq (tgt := 35) dX12_isPaper_7 (by decide) (fun _ => ?_) (fun h9 => absurd h9 (by decide))
    refine wa_iconst (v := 0) dX12_isPaper_35 (by decide) ?_
    exact wa_zret dX12_isPaper_36 rfl rfl (h0 (fun q => by first | exact he ⟨q.2.2.2.2.1, q.2.2.2.2.2⟩ | exact hc ⟨q.2.2.1, q.2.2.2.1⟩ | exact ha ⟨q.1, q.2.1⟩))

theorem k_X12_count {G : mm_G} {d : Nat} {Q : Option Value → mm_M → Prop} {M : mm_M} {y : Nat} (w : Int32) {M0 : mm_M} (hM0 : M0 = mm_sI M y 0 0) (hY : mdl_ M0 y) (h0 : w = 0 → Q (some (.int (mm_I M0 y 26))) M0) (h1 : w = 1 → Q (some (.int (mm_I M0 y 14))) M0) (h2 : w = 2 → Q (some (.int (mm_I M0 y 38))) M0) (h3 : w = 3 → Q (some (.int (mm_I M0 y 27))) M0) (h4 : w = 4 → Q (some (.int (mm_I M0 y 6))) M0) (hN : w.toInt < 0 ∨ (4 : Nat) < w.toInt → Q (some (.int (-1))) M0) : ma_ G jX12_count d 0 0 [.ref y, .int w] M Q := by
  refine ma_of [some (.ref y), some (.int w)] (by decide) rfl (Nat.le_of_ble_eq_true rfl) ?_
  have hY0 : mdl_ M y := by subst hM0; exact hY
  refine wa_aload_n dX12_count_0 rfl rfl ?_
  refine wa_iconst (v := 0) dX12_count_1 (by decide) ?_
  refine wa_put (q := (RX12, TX12, 50)) (ci := 12) (k := 0) dX12_count_2 rfl (by decide) wf_X12_123 rfl hY0.1 rfl ?_
  rw [show mm_put M y 0 (.int 0) = M0 from hM0.symm]
  refine wa_iload_n dX12_count_5 rfl ?_
  rcases sw_of w 4 (by decide) with ⟨j_, hj_, rfl⟩ | hO6
  · rcases (by omega : j_ = 0 ∨ j_ = 1 ∨ j_ = 2 ∨ j_ = 3 ∨ j_ = 4) with rfl | rfl | rfl | rfl | rfl
    · refine wa_tableIn (off := 34) (tgt := 40) dX12_count_6 (by decide) (by decide) (by decide) (by decide) ?_
      refine wa_aload_n dX12_count_40 rfl rfl ?_
      refine wa_getI (q := (RX12, TX12, 50)) (ci := 12) (k := 26) dX12_count_41 rfl (by decide) wf_X12_236 hY.1 rfl ?_
      exact wa_iret dX12_count_44 rfl (h0 rfl)
    · refine wa_tableIn (off := 39) (tgt := 45) dX12_count_6 (by decide) (by decide) (by decide) (by decide) ?_
      refine wa_aload_n dX12_count_45 rfl rfl ?_
      refine wa_getI (q := (RX12, TX12, 50)) (ci := 12) (k := 14) dX12_count_46 rfl (by decide) wf_X12_201 hY.1 rfl ?_
      exact wa_iret dX12_count_49 rfl (h1 rfl)
    · refine wa_tableIn (off := 44) (tgt := 50) dX12_count_6 (by decide) (by decide) (by decide) (by decide) ?_
      refine wa_aload_n dX12_count_50 rfl rfl ?_
      refine wa_getI (q := (RX12, TX12, 50)) (ci := 12) (k := 38) dX12_count_51 rfl (by decide) wf_X12_313 hY.1 rfl ?_
      exact wa_iret dX12_count_54 rfl (h2 rfl)
    · refine wa_tableIn (off := 49) (tgt := 55) dX12_count_6 (by decide) (by decide) (by decide) (by decide) ?_
      refine wa_aload_n dX12_count_55 rfl rfl ?_
      refine wa_getI (q := (RX12, TX12, 50)) (ci := 12) (k := 27) dX12_count_56 rfl (by decide) wf_X12_239 hY.1 rfl ?_
      exact wa_iret dX12_count_59 rfl (h3 rfl)
    · refine wa_tableIn (off := 54) (tgt := 60) dX12_count_6 (by decide) (by decide) (by decide) (by decide) ?_
      refine wa_aload_n dX12_count_60 rfl rfl ?_
      refine wa_getI (q := (RX12, TX12, 50)) (ci := 12) (k := 6) dX12_count_61 rfl (by decide) wf_X12_250 hY.1 rfl ?_
      exact wa_iret dX12_count_64 rfl (h4 rfl)
  · refine wa_tableOut (tgt := 65) dX12_count_6 hO6 (by decide) ?_
    refine wa_iconst (v := -1) dX12_count_65 (by decide) ?_
    exact wa_iret dX12_count_66 rfl (hN hO6)

theorem k_X12_stock {G : mm_G} {d : Nat} {Q : Option Value → mm_M → Prop} {M : mm_M} {y : Nat} (p : Int32) (w : Int32) (n : Int32) {M0 : mm_M} (hM0 : M0 = mm_sI M y 0 0) (hY : mdl_ M0 y) (P : Nat) (hP : mm_I M0 y 26 = nI P) (hP8 : P ≤ 8) (hA0 : p < 0 ∨ mm_I M0 y 26 ≤ p → Q (some (.int (-1))) (mm_sI (mm_sI M0 y 1 1) y 2 (-1))) (hB0 : ¬ (0 ≤ w ∧ w ≤ 4) → Q (some (.int (-1))) (mm_sI (mm_sI M0 y 1 1) y 2 (-1))) (h2 : ∀ q r : Nat, p = nI q → q < P → w = nI r → r ≤ 4 → (n < 0 ∨ 10000 < n ∨ 10000 < mm_I M0 (y + 19) (5 * q + r) + n) → Q (some (.int (-1))) (mm_sI (mm_sI M0 y 1 2) y 2 (-1))) (h1 : ∀ q r : Nat, p = nI q → q < P → w = nI r → r ≤ 4 → ¬ n < 0 → ¬ 10000 < n → mm_I M0 (y + 19) (5 * q + r) + n ≤ 10000 → Q (some (.int (mm_I M0 (y + 19) (5 * q + r) + n))) (mm_sI (mm_sI (mm_sI M0 (y + 19) (5 * q + r) (mm_I M0 (y + 19) (5 * q + r) + n)) y 1 0) y 2 (-1))) : ma_ G jX12_stock (d + 1) 0 0 [.ref y, .int p, .int w, .int n] M Q := by
  refine ma_of [some (.ref y), some (.int p), some (.int w), some (.int n), none] (by decide) rfl (Nat.le_of_ble_eq_true rfl) ?_
  have hY0 : mdl_ M y := by subst hM0; exact hY
  refine wa_aload_n dX12_stock_0 rfl rfl ?_
  refine wa_iconst (v := 0) dX12_stock_1 (by decide) ?_
  refine wa_put (q := (RX12, TX12, 50)) (ci := 12) (k := 0) dX12_stock_2 rfl (by decide) wf_X12_123 rfl hY0.1 rfl ?_
  rw [show mm_put M y 0 (.int 0) = M0 from hM0.symm]
  refine wa_aload_n dX12_stock_5 rfl rfl ?_
  refine wa_iload_n dX12_stock_6 rfl ?_
  refine wa_callV (q := (RX12, TX12, 50)) (As := [.int p]) dX12_stock_7 lk_X12_262 rfl rfl hY.1 rfl rfl (Nat.le_of_ble_eq_true rfl) (Nat.le_of_eq (Nat.zero_add _)) (Nat.le_of_eq (Nat.zero_add _)) (k_X12_isPort p hY (fun hA hB => ?_) (fun hA => ?_))
  · rw [hP] at hB
    obtain ⟨q, hq, rfl⟩ := ix_of hA hB (by omega)
    refine wa_if_eq (tgt := 22) dX12_stock_10 (by decide) (fun h9 => absurd h9 (by decide)) (fun _ => ?_)
    refine wa_iload_n dX12_stock_13 rfl ?_
    refine wa_iconst (v := 0) dX12_stock_14 (by decide) ?_
    refine wa_iconst (v := 4) dX12_stock_15 (by decide) ?_
    refine wa_callS (As := [.int w, .int 0, .int 4]) dX12_stock_16 lk_X12_229 rfl rfl (Nat.le_of_ble_eq_true rfl) (Nat.le_of_eq (Nat.zero_add _)) (Nat.le_of_eq (Nat.zero_add _)) (k_X12_in w 0 4 (fun hC hD => ?_) (fun hC => ?_))
    · obtain ⟨r, hr, rfl⟩ := ix_in (n := 4) rfl hC hD
      refine wa_if_ne (tgt := 28) dX12_stock_19 (by decide) (fun _ => ?_) (fun h9 => absurd h9 (by decide))
      refine wa_iconst (v := 5) dX12_stock_28 (by decide) ?_
      refine wa_iload_n dX12_stock_29 rfl ?_
      refine wa_imul dX12_stock_30 ?_
      refine wa_iload_n dX12_stock_31 rfl ?_
      refine wa_iadd dX12_stock_32 ?_
      rw [ix_5 q r]
      refine wa_istore dX12_stock_33 (by decide) rfl rfl ?_
      refine wa_iload_n dX12_stock_35 rfl ?_
      refine wa_if_lt (tgt := 61) dX12_stock_36 (by decide) (fun hT36 => ?_) (fun hF36 => ?_)
      · refine wa_aload_n dX12_stock_61 rfl rfl ?_
        refine wa_iconst (v := 2) dX12_stock_62 (by decide) ?_
        refine wa_callV (q := (RX12, TX12, 50)) (As := [.int 2]) dX12_stock_63 lk_X12_233 rfl rfl hY.1 rfl rfl (Nat.le_of_ble_eq_true rfl) (Nat.le_of_eq (Nat.zero_add _)) (Nat.le_of_eq (Nat.zero_add _)) (k_X12_refused 2 hY ?_)
        exact wa_iret dX12_stock_66 rfl (h2 q r rfl hq rfl hr (by first | exact Or.inl (by assumption) | exact Or.inr (Or.inl (by assumption)) | exact Or.inr (Or.inr (Int32.not_le.mp (by assumption)))))
      · refine wa_iload_n dX12_stock_39 rfl ?_
        refine wa_sipush (v := 10000) dX12_stock_40 (by decide) ?_
        refine wa_icmp_gt (tgt := 61) dX12_stock_43 (by decide) (fun hT43 => ?_) (fun hF43 => ?_)
        · refine wa_aload_n dX12_stock_61 rfl rfl ?_
          refine wa_iconst (v := 2) dX12_stock_62 (by decide) ?_
          refine wa_callV (q := (RX12, TX12, 50)) (As := [.int 2]) dX12_stock_63 lk_X12_233 rfl rfl hY.1 rfl rfl (Nat.le_of_ble_eq_true rfl) (Nat.le_of_eq (Nat.zero_add _)) (Nat.le_of_eq (Nat.zero_add _)) (k_X12_refused 2 hY ?_)
          exact wa_iret dX12_stock_66 rfl (h2 q r rfl hq rfl hr (by first | exact Or.inl (by assumption) | exact Or.inr (Or.inl (by assumption)) | exact Or.inr (Or.inr (Int32.not_le.mp (by assumption)))))
        · refine wa_aload_n dX12_stock_46 rfl rfl ?_
          refine wa_getR (q := (RX12, TX12, 50)) (ci := 12) (k := 33) dX12_stock_47 rfl (by decide) wf_X12_73 hY.1 rfl (md_r33 hY) ?_
          refine wa_iload dX12_stock_50 rfl ?_
          refine wa_ialdN dX12_stock_52 (md_s33 hY) (Or.inl rfl) (by omega) (by decide) ?_
          refine wa_iload_n dX12_stock_53 rfl ?_
          refine wa_iadd dX12_stock_54 ?_
          refine wa_sipush (v := 10000) dX12_stock_55 (by decide) ?_
          refine wa_icmp_le (tgt := 67) dX12_stock_58 (by decide) (fun hT58 => ?_) (fun hF58 => ?_)
          · refine wa_aload_n dX12_stock_67 rfl rfl ?_
            refine wa_getR (q := (RX12, TX12, 50)) (ci := 12) (k := 33) dX12_stock_68 rfl (by decide) wf_X12_73 hY.1 rfl (md_r33 hY) ?_
            refine wa_iload dX12_stock_71 rfl ?_
            refine wa_dup2 dX12_stock_73 rfl rfl ?_
            refine wa_ialdN dX12_stock_74 (md_s33 hY) (Or.inl rfl) (by omega) (by decide) ?_
            refine wa_iload_n dX12_stock_75 rfl ?_
            refine wa_iadd dX12_stock_76 ?_
            refine wa_iastN dX12_stock_77 (md_s33 hY) (by omega) (by decide) ?_
            refine wa_aload_n dX12_stock_78 rfl rfl ?_
            refine wa_aload_n dX12_stock_79 rfl rfl ?_
            refine wa_getR (q := (RX12, TX12, 50)) (ci := 12) (k := 33) dX12_stock_80 rfl (by decide) wf_X12_73 hY.1 rfl (md_r33 hY) ?_
            refine wa_iload dX12_stock_83 rfl ?_
            refine wa_ialdN dX12_stock_85 (md_s33 hY) (Or.inl rfl) (by omega) (by decide) ?_
            rw [mm_I_sI, if_pos ⟨rfl, rfl⟩]
            refine wa_callV (q := (RX12, TX12, 50)) (As := [.int (mm_I M0 (y + 19) (5 * q + r) + n)]) dX12_stock_86 lk_X12_246 rfl rfl hY.1 rfl rfl (Nat.le_of_ble_eq_true rfl) (Nat.le_of_eq (Nat.zero_add _)) (Nat.le_of_eq (Nat.zero_add _)) (k_X12_done _ hY ?_)
            exact wa_iret dX12_stock_89 rfl (h1 q r rfl hq rfl hr (by assumption) (by assumption) (by assumption))
          · refine wa_aload_n dX12_stock_61 rfl rfl ?_
            refine wa_iconst (v := 2) dX12_stock_62 (by decide) ?_
            refine wa_callV (q := (RX12, TX12, 50)) (As := [.int 2]) dX12_stock_63 lk_X12_233 rfl rfl hY.1 rfl rfl (Nat.le_of_ble_eq_true rfl) (Nat.le_of_eq (Nat.zero_add _)) (Nat.le_of_eq (Nat.zero_add _)) (k_X12_refused 2 hY ?_)
            exact wa_iret dX12_stock_66 rfl (h2 q r rfl hq rfl hr (by first | exact Or.inl (by assumption) | exact Or.inr (Or.inl (by assumption)) | exact Or.inr (Or.inr (Int32.not_le.mp (by assumption)))))
    · refine wa_if_ne (tgt := 28) dX12_stock_19 (by decide) (fun h9 => absurd h9 (by decide)) (fun _ => ?_)
      refine wa_aload_n dX12_stock_22 rfl rfl ?_
      refine wa_iconst (v := 1) dX12_stock_23 (by decide) ?_
      refine wa_callV (q := (RX12, TX12, 50)) (As := [.int 1]) dX12_stock_24 lk_X12_233 rfl rfl hY.1 rfl rfl (Nat.le_of_ble_eq_true rfl) (Nat.le_of_eq (Nat.zero_add _)) (Nat.le_of_eq (Nat.zero_add _)) (k_X12_refused 1 hY ?_)
      exact wa_iret dX12_stock_27 rfl (by first | exact hB0 hC | exact hA0 hA)
  · refine wa_if_eq (tgt := 22) dX12_stock_10 (by decide) (fun _ => ?_) (fun h9 => absurd h9 (by decide))
    refine wa_aload_n dX12_stock_22 rfl rfl ?_
    refine wa_iconst (v := 1) dX12_stock_23 (by decide) ?_
    refine wa_callV (q := (RX12, TX12, 50)) (As := [.int 1]) dX12_stock_24 lk_X12_233 rfl rfl hY.1 rfl rfl (Nat.le_of_ble_eq_true rfl) (Nat.le_of_eq (Nat.zero_add _)) (Nat.le_of_eq (Nat.zero_add _)) (k_X12_refused 1 hY ?_)
    exact wa_iret dX12_stock_27 rfl (by first | exact hB0 hC | exact hA0 hA)

theorem k_X12_stamps {G : mm_G} {d : Nat} {Q : Option Value → mm_M → Prop} {M : mm_M} {y : Nat} (i : Int32) (w : Int32) {M0 : mm_M} (hM0 : M0 = mm_sI M y 0 0) (hY : mdl_ M0 y) (N : Nat) (hN : mm_I M0 y 38 = nI N) (hN2 : N ≤ 200) (h0 : (i < 0 ∨ mm_I M0 y 38 ≤ i ∨ ¬ (0 ≤ w ∧ w ≤ 4)) → Q (some (.int (-1))) M0) (h1 : ∀ q r : Nat, i = nI q → q < N → w = nI r → r ≤ 4 → Q (some (.int (mm_I M0 (y + 32) (5 * q + r)))) M0) : ma_ G jX12_stamps (d + 1) 0 0 [.ref y, .int i, .int w] M Q := by
  refine ma_of [some (.ref y), some (.int i), some (.int w)] (by decide) rfl (Nat.le_of_ble_eq_true rfl) ?_
  have hY0 : mdl_ M y := by subst hM0; exact hY
  refine wa_aload_n dX12_stamps_0 rfl rfl ?_
  refine wa_iconst (v := 0) dX12_stamps_1 (by decide) ?_
  refine wa_put (q := (RX12, TX12, 50)) (ci := 12) (k := 0) dX12_stamps_2 rfl (by decide) wf_X12_123 rfl hY0.1 rfl ?_
  rw [show mm_put M y 0 (.int 0) = M0 from hM0.symm]
  refine wa_iload_n dX12_stamps_5 rfl ?_
  refine wa_if_lt (tgt := 39) dX12_stamps_6 (by decide) (fun hT6 => ?_) (fun hF6 => ?_)
  · refine wa_iconst (v := -1) dX12_stamps_39 (by decide) ?_
    exact wa_iret dX12_stamps_40 rfl (h0 (by first | exact Or.inl (by assumption) | exact Or.inr (Or.inl (by assumption)) | exact Or.inr (Or.inr (by assumption))))
  · refine wa_iload_n dX12_stamps_9 rfl ?_
    refine wa_aload_n dX12_stamps_10 rfl rfl ?_
    refine wa_getI (q := (RX12, TX12, 50)) (ci := 12) (k := 38) dX12_stamps_11 rfl (by decide) wf_X12_313 hY.1 rfl ?_
    refine wa_icmp_ge (tgt := 39) dX12_stamps_14 (by decide) (fun hT14 => ?_) (fun hF14 => ?_)
    · refine wa_iconst (v := -1) dX12_stamps_39 (by decide) ?_
      exact wa_iret dX12_stamps_40 rfl (h0 (by first | exact Or.inl (by assumption) | exact Or.inr (Or.inl (by assumption)) | exact Or.inr (Or.inr (by assumption))))
    · refine wa_iload_n dX12_stamps_17 rfl ?_
      refine wa_iconst (v := 0) dX12_stamps_18 (by decide) ?_
      refine wa_iconst (v := 4) dX12_stamps_19 (by decide) ?_
      refine wa_callS (As := [.int w, .int 0, .int 4]) dX12_stamps_20 lk_X12_229 rfl rfl (Nat.le_of_ble_eq_true rfl) (Nat.le_of_eq (Nat.zero_add _)) (Nat.le_of_eq (Nat.zero_add _)) (k_X12_in w 0 4 (fun hC hD => ?_) (fun hC => ?_))
      · obtain ⟨r, hr, rfl⟩ := ix_in (n := 4) rfl hC hD
        rw [hN] at hF14
        obtain ⟨q, hq, rfl⟩ := ix_of hF6 hF14 (by omega)
        refine wa_if_eq (tgt := 39) dX12_stamps_23 (by decide) (fun h9 => absurd h9 (by decide)) (fun _ => ?_)
        refine wa_aload_n dX12_stamps_26 rfl rfl ?_
        refine wa_getR (q := (RX12, TX12, 50)) (ci := 12) (k := 47) dX12_stamps_27 rfl (by decide) wf_X12_113 hY.1 rfl (md_r47 hY) ?_
        refine wa_iconst (v := 5) dX12_stamps_30 (by decide) ?_
        refine wa_iload_n dX12_stamps_31 rfl ?_
        refine wa_imul dX12_stamps_32 ?_
        refine wa_iload_n dX12_stamps_33 rfl ?_
        refine wa_iadd dX12_stamps_34 ?_
        rw [ix_5 q r]
        refine wa_ialdN dX12_stamps_35 (md_s47 hY) (Or.inl rfl) (by omega) (by decide) ?_
        refine wa_goto (tgt := 40) dX12_stamps_36 (by decide) ?_
        exact wa_iret dX12_stamps_40 rfl (h1 q r rfl hq rfl hr)
      · refine wa_if_eq (tgt := 39) dX12_stamps_23 (by decide) (fun _ => ?_) (fun h9 => absurd h9 (by decide))
        refine wa_iconst (v := -1) dX12_stamps_39 (by decide) ?_
        exact wa_iret dX12_stamps_40 rfl (h0 (by first | exact Or.inl (by assumption) | exact Or.inr (Or.inl (by assumption)) | exact Or.inr (Or.inr (by assumption))))

theorem k_X12_about {G : mm_G} {d : Nat} {Q : Option Value → mm_M → Prop} {M : mm_M} {y : Nat} (p : Int32) (w : Int32) {M0 : mm_M} (hM0 : M0 = mm_sI M y 0 0) (hY : mdl_ M0 y) (P : Nat) (hP : mm_I M0 y 26 = nI P) (hP8 : P ≤ 8) (hA0 : p < 0 ∨ mm_I M0 y 26 ≤ p → Q (some (.int (-1))) M0) (h0 : ∀ q : Nat, p = nI q → q < P → w = 0 → Q (some (.int (mm_I M0 (y + 14) q))) M0) (h1 : ∀ q : Nat, p = nI q → q < P → w = 1 → Q (some (.int (mm_I M0 (y + 16) q))) M0) (h2 : ∀ q : Nat, p = nI q → q < P → w = 2 → Q (some (.int (mm_I M0 (y + 17) q))) M0) (h3 : ∀ q : Nat, p = nI q → q < P → w = 3 → Q (some (.int (mm_I M0 (y + 18) q))) M0) (h4 : ∀ q r : Nat, p = nI q → q < P → r ≤ 4 → w = nI (r + 4) → Q (some (.int (mm_I M0 (y + 19) (5 * q + r)))) M0) (hN : ∀ q : Nat, p = nI q → q < P → (w.toInt < 0 ∨ (8 : Nat) < w.toInt) → Q (some (.int (-1))) M0) : ma_ G jX12_about (d + 1) 0 0 [.ref y, .int p, .int w] M Q := by
  refine ma_of [some (.ref y), some (.int p), some (.int w)] (by decide) rfl (Nat.le_of_ble_eq_true rfl) ?_
  have hY0 : mdl_ M y := by subst hM0; exact hY
  refine wa_aload_n dX12_about_0 rfl rfl ?_
  refine wa_iconst (v := 0) dX12_about_1 (by decide) ?_
  refine wa_put (q := (RX12, TX12, 50)) (ci := 12) (k := 0) dX12_about_2 rfl (by decide) wf_X12_123 rfl hY0.1 rfl ?_
  rw [show mm_put M y 0 (.int 0) = M0 from hM0.symm]
  refine wa_aload_n dX12_about_5 rfl rfl ?_
  refine wa_iload_n dX12_about_6 rfl ?_
  refine wa_callV (q := (RX12, TX12, 50)) (As := [.int p]) dX12_about_7 lk_X12_262 rfl rfl hY.1 rfl rfl (Nat.le_of_ble_eq_true rfl) (Nat.le_of_eq (Nat.zero_add _)) (Nat.le_of_eq (Nat.zero_add _)) (k_X12_isPort p hY (fun hA hB => ?_) (fun hA => ?_))
  · rw [hP] at hB
    obtain ⟨q, hq, rfl⟩ := ix_of hA hB (by omega)
    refine wa_if_ne (tgt := 15) dX12_about_10 (by decide) (fun _ => ?_) (fun h9 => absurd h9 (by decide))
    refine wa_iload_n dX12_about_15 rfl ?_
    rcases sw_of w 8 (by decide) with ⟨j_, hj_, rfl⟩ | hO16
    · rcases (by omega : j_ = 0 ∨ j_ = 1 ∨ j_ = 2 ∨ j_ = 3 ∨ j_ = 4 ∨ j_ = 5 ∨ j_ = 6 ∨ j_ = 7 ∨ j_ = 8) with rfl | rfl | rfl | rfl | rfl | rfl | rfl | rfl | rfl
      · refine wa_tableIn (off := 52) (tgt := 68) dX12_about_16 (by decide) (by decide) (by decide) (by decide) ?_
        refine wa_aload_n dX12_about_68 rfl rfl ?_
        refine wa_getR (q := (RX12, TX12, 50)) (ci := 12) (k := 28) dX12_about_69 rfl (by decide) wf_X12_58 hY.1 rfl (md_r28 hY) ?_
        refine wa_iload_n dX12_about_72 rfl ?_
        refine wa_ialdN dX12_about_73 (md_s28 hY) (Or.inl rfl) (by omega) (by decide) ?_
        exact wa_iret dX12_about_74 rfl (h0 q rfl hq rfl)
      · refine wa_tableIn (off := 59) (tgt := 75) dX12_about_16 (by decide) (by decide) (by decide) (by decide) ?_
        refine wa_aload_n dX12_about_75 rfl rfl ?_
        refine wa_getR (q := (RX12, TX12, 50)) (ci := 12) (k := 30) dX12_about_76 rfl (by decide) wf_X12_64 hY.1 rfl (md_r30 hY) ?_
        refine wa_iload_n dX12_about_79 rfl ?_
        refine wa_ialdN dX12_about_80 (md_s30 hY) (Or.inl rfl) (by omega) (by decide) ?_
        exact wa_iret dX12_about_81 rfl (h1 q rfl hq rfl)
      · refine wa_tableIn (off := 66) (tgt := 82) dX12_about_16 (by decide) (by decide) (by decide) (by decide) ?_
        refine wa_aload_n dX12_about_82 rfl rfl ?_
        refine wa_getR (q := (RX12, TX12, 50)) (ci := 12) (k := 31) dX12_about_83 rfl (by decide) wf_X12_67 hY.1 rfl (md_r31 hY) ?_
        refine wa_iload_n dX12_about_86 rfl ?_
        refine wa_ialdN dX12_about_87 (md_s31 hY) (Or.inl rfl) (by omega) (by decide) ?_
        exact wa_iret dX12_about_88 rfl (h2 q rfl hq rfl)
      · refine wa_tableIn (off := 73) (tgt := 89) dX12_about_16 (by decide) (by decide) (by decide) (by decide) ?_
        refine wa_aload_n dX12_about_89 rfl rfl ?_
        refine wa_getR (q := (RX12, TX12, 50)) (ci := 12) (k := 32) dX12_about_90 rfl (by decide) wf_X12_70 hY.1 rfl (md_r32 hY) ?_
        refine wa_iload_n dX12_about_93 rfl ?_
        refine wa_ialdN dX12_about_94 (md_s32 hY) (Or.inl rfl) (by omega) (by decide) ?_
        exact wa_iret dX12_about_95 rfl (h3 q rfl hq rfl)
      · refine wa_tableIn (off := 80) (tgt := 96) dX12_about_16 (by decide) (by decide) (by decide) (by decide) ?_
        refine wa_aload_n dX12_about_96 rfl rfl ?_
        refine wa_getR (q := (RX12, TX12, 50)) (ci := 12) (k := 33) dX12_about_97 rfl (by decide) wf_X12_73 hY.1 rfl (md_r33 hY) ?_
        refine wa_iconst (v := 5) dX12_about_100 (by decide) ?_
        refine wa_iload_n dX12_about_101 rfl ?_
        refine wa_imul dX12_about_102 ?_
        refine wa_iload_n dX12_about_103 rfl ?_
        refine wa_iadd dX12_about_104 ?_
        refine wa_iconst (v := 4) dX12_about_105 (by decide) ?_
        refine wa_isub dX12_about_106 ?_
        rw [show (5 : Int32) * nI q + nI 4 - 4 = nI (5 * q + (4 - 4)) from by rw [ix_5, show (4 : Int32) = nI 4 from rfl, pk_sub (by omega)]; exact congrArg nI (by omega)]
        refine wa_ialdN dX12_about_107 (md_s33 hY) (Or.inl rfl) (by omega) (by decide) ?_
        exact wa_iret dX12_about_108 rfl (h4 q (4 - 4) rfl hq (by decide) rfl)
      · refine wa_tableIn (off := 80) (tgt := 96) dX12_about_16 (by decide) (by decide) (by decide) (by decide) ?_
        refine wa_aload_n dX12_about_96 rfl rfl ?_
        refine wa_getR (q := (RX12, TX12, 50)) (ci := 12) (k := 33) dX12_about_97 rfl (by decide) wf_X12_73 hY.1 rfl (md_r33 hY) ?_
        refine wa_iconst (v := 5) dX12_about_100 (by decide) ?_
        refine wa_iload_n dX12_about_101 rfl ?_
        refine wa_imul dX12_about_102 ?_
        refine wa_iload_n dX12_about_103 rfl ?_
        refine wa_iadd dX12_about_104 ?_
        refine wa_iconst (v := 4) dX12_about_105 (by decide) ?_
        refine wa_isub dX12_about_106 ?_
        rw [show (5 : Int32) * nI q + nI 5 - 4 = nI (5 * q + (5 - 4)) from by rw [ix_5, show (4 : Int32) = nI 4 from rfl, pk_sub (by omega)]; exact congrArg nI (by omega)]
        refine wa_ialdN dX12_about_107 (md_s33 hY) (Or.inl rfl) (by omega) (by decide) ?_
        exact wa_iret dX12_about_108 rfl (h4 q (5 - 4) rfl hq (by decide) rfl)
      · refine wa_tableIn (off := 80) (tgt := 96) dX12_about_16 (by decide) (by decide) (by decide) (by decide) ?_
        refine wa_aload_n dX12_about_96 rfl rfl ?_
        refine wa_getR (q := (RX12, TX12, 50)) (ci := 12) (k := 33) dX12_about_97 rfl (by decide) wf_X12_73 hY.1 rfl (md_r33 hY) ?_
        refine wa_iconst (v := 5) dX12_about_100 (by decide) ?_
        refine wa_iload_n dX12_about_101 rfl ?_
        refine wa_imul dX12_about_102 ?_
        refine wa_iload_n dX12_about_103 rfl ?_
        refine wa_iadd dX12_about_104 ?_
        refine wa_iconst (v := 4) dX12_about_105 (by decide) ?_
        refine wa_isub dX12_about_106 ?_
        rw [show (5 : Int32) * nI q + nI 6 - 4 = nI (5 * q + (6 - 4)) from by rw [ix_5, show (4 : Int32) = nI 4 from rfl, pk_sub (by omega)]; exact congrArg nI (by omega)]
        refine wa_ialdN dX12_about_107 (md_s33 hY) (Or.inl rfl) (by omega) (by decide) ?_
        exact wa_iret dX12_about_108 rfl (h4 q (6 - 4) rfl hq (by decide) rfl)
      · refine wa_tableIn (off := 80) (tgt := 96) dX12_about_16 (by decide) (by decide) (by decide) (by decide) ?_
        refine wa_aload_n dX12_about_96 rfl rfl ?_
        refine wa_getR (q := (RX12, TX12, 50)) (ci := 12) (k := 33) dX12_about_97 rfl (by decide) wf_X12_73 hY.1 rfl (md_r33 hY) ?_
        refine wa_iconst (v := 5) dX12_about_100 (by decide) ?_
        refine wa_iload_n dX12_about_101 rfl ?_
        refine wa_imul dX12_about_102 ?_
        refine wa_iload_n dX12_about_103 rfl ?_
        refine wa_iadd dX12_about_104 ?_
        refine wa_iconst (v := 4) dX12_about_105 (by decide) ?_
        refine wa_isub dX12_about_106 ?_
        rw [show (5 : Int32) * nI q + nI 7 - 4 = nI (5 * q + (7 - 4)) from by rw [ix_5, show (4 : Int32) = nI 4 from rfl, pk_sub (by omega)]; exact congrArg nI (by omega)]
        refine wa_ialdN dX12_about_107 (md_s33 hY) (Or.inl rfl) (by omega) (by decide) ?_
        exact wa_iret dX12_about_108 rfl (h4 q (7 - 4) rfl hq (by decide) rfl)
      · refine wa_tableIn (off := 80) (tgt := 96) dX12_about_16 (by decide) (by decide) (by decide) (by decide) ?_
        refine wa_aload_n dX12_about_96 rfl rfl ?_
        refine wa_getR (q := (RX12, TX12, 50)) (ci := 12) (k := 33) dX12_about_97 rfl (by decide) wf_X12_73 hY.1 rfl (md_r33 hY) ?_
        refine wa_iconst (v := 5) dX12_about_100 (by decide) ?_
        refine wa_iload_n dX12_about_101 rfl ?_
        refine wa_imul dX12_about_102 ?_
        refine wa_iload_n dX12_about_103 rfl ?_
        refine wa_iadd dX12_about_104 ?_
        refine wa_iconst (v := 4) dX12_about_105 (by decide) ?_
        refine wa_isub dX12_about_106 ?_
        rw [show (5 : Int32) * nI q + nI 8 - 4 = nI (5 * q + (8 - 4)) from by rw [ix_5, show (4 : Int32) = nI 4 from rfl, pk_sub (by omega)]; exact congrArg nI (by omega)]
        refine wa_ialdN dX12_about_107 (md_s33 hY) (Or.inl rfl) (by omega) (by decide) ?_
        exact wa_iret dX12_about_108 rfl (h4 q (8 - 4) rfl hq (by decide) rfl)
    · refine wa_tableOut (tgt := 109) dX12_about_16 hO16 (by decide) ?_
      refine wa_iconst (v := -1) dX12_about_109 (by decide) ?_
      exact wa_iret dX12_about_110 rfl (hN q rfl hq hO16)
  · refine wa_if_ne (tgt := 15) dX12_about_10 (by decide) (fun h9 => absurd h9 (by decide)) (fun _ => ?_)
    refine wa_iconst (v := -1) dX12_about_13 (by decide) ?_
    exact wa_iret dX12_about_14 rfl (hA0 hA)

def vo_ (n a b c e : Int32) : Int32 := if n = -1 then 1 else if n = 0 then a else if n = 1 then b else if n = 2 then c else e
theorem k_X12_valueOf {G : mm_G} {d : Nat} {Q : Option Value → mm_M → Prop} {M : mm_M} (n : Int32) (a : Int32) (b : Int32) (c : Int32) (e : Int32) (hQ : Q (some (.int (vo_ n a b c e))) M) : ma_ G jX12_valueOf d 0 0 [.int n, .int a, .int b, .int c, .int e] M Q := by
  refine ma_of [some (.int n), some (.int a), some (.int b), some (.int c), some (.int e)] (by decide) rfl (Nat.le_of_ble_eq_true rfl) ?_
  refine wa_iload_n dX12_valueOf_0 rfl ?_
  refine wa_iconst (v := -1) dX12_valueOf_1 (by decide) ?_
  refine wa_icmp_ne (tgt := 9) dX12_valueOf_2 (by decide) (fun hT2 => ?_) (fun hF2 => ?_)
  · refine wa_iload_n dX12_valueOf_9 rfl ?_
    refine wa_if_ne (tgt := 17) dX12_valueOf_10 (by decide) (fun hT10 => ?_) (fun hF10 => ?_)
    · refine wa_iload_n dX12_valueOf_17 rfl ?_
      refine wa_iconst (v := 1) dX12_valueOf_18 (by decide) ?_
      refine wa_icmp_ne (tgt := 26) dX12_valueOf_19 (by decide) (fun hT19 => ?_) (fun hF19 => ?_)
      · refine wa_iload_n dX12_valueOf_26 rfl ?_
        refine wa_iconst (v := 2) dX12_valueOf_27 (by decide) ?_
        refine wa_icmp_ne (tgt := 35) dX12_valueOf_28 (by decide) (fun hT28 => ?_) (fun hF28 => ?_)
        · refine wa_iload dX12_valueOf_35 rfl ?_
          exact wa_iret dX12_valueOf_37 rfl (by unfold vo_ at hQ; simp_all)
        · refine wa_iload_n dX12_valueOf_31 rfl ?_
          refine wa_goto (tgt := 37) dX12_valueOf_32 (by decide) ?_
          exact wa_iret dX12_valueOf_37 rfl (by unfold vo_ at hQ; simp_all)
      · refine wa_iload_n dX12_valueOf_22 rfl ?_
        refine wa_goto (tgt := 37) dX12_valueOf_23 (by decide) ?_
        exact wa_iret dX12_valueOf_37 rfl (by unfold vo_ at hQ; simp_all)
    · refine wa_iload_n dX12_valueOf_13 rfl ?_
      refine wa_goto (tgt := 37) dX12_valueOf_14 (by decide) ?_
      exact wa_iret dX12_valueOf_37 rfl (by unfold vo_ at hQ; simp_all)
  · refine wa_iconst (v := 1) dX12_valueOf_5 (by decide) ?_
    refine wa_goto (tgt := 37) dX12_valueOf_6 (by decide) ?_
    exact wa_iret dX12_valueOf_37 rfl (by unfold vo_ at hQ; simp_all)

theorem ma_ofF {G : mm_G} {J : mm_J} {d mc ms : Nat} {av : List Value} {M : mm_M} {Q : Option Value → mm_M → Prop} (lv : List (Option Value)) (hy : plainFor J.1 = true) (hlv : mm_pl lv = lv_args 0 av) (hlen : (lg_sl av).length ≤ J.2.2.1) (h : wa_ false G J d mc ms Q mc ms M 0 lv []) : ma_ G J d mc ms av M Q := by
  intro l
  refine va_MetF (cc := J.2.1) (maxL := J.2.2.1) (ret := J.2.2.2) hy rfl ?_
  intro p e s m args below meth c s₁ B hml hv
  obtain ⟨rfl, hok, hK, hZ, hsz⟩ := hv
  have hts := atoms_spec (ws := mm_ws J) B.pre
  have hl := lv_entry av (n := J.2.2.1) hlen
  rw [← hlv] at hl
  rw [lg_entry_eq]
  exact h p l e _ s m av.toArray below meth c s.heap [] 0 0 _ ⟨⟨B.exec, B.bytes, hml, findClass_of_methodNamed B.named, fun w hw => hts w (List.mem_cons_of_mem _ hw)⟩, B.returns, B.notSynchronized, (name_of_methodNamed B.named B.method).1, hK, hZ, hsz, Nat.le_refl _, Nat.le_refl _, Nat.le_refl _, Nat.le_refl _⟩ hok va_S.rf (Nat.le_of_eq (Nat.zero_add _)) (Nat.le_of_eq (Nat.zero_add _)) hl
theorem pf_len : plainFor yJ0_length_8abf5 = true := by decide +kernel
theorem pf_chr : plainFor yJ0_charAt_5068e = true := by decide +kernel
theorem pf_idx : plainFor yJ0_indexOf_0f7a4 = true := by decide +kernel
section MATHROWS
variable {fl : Bool} {G : mm_G} {J : mm_J} {d mc ms kc ks : Nat} {Q : Option Value → mm_M → Prop} {M : mm_M} {pc : Nat} {lv : List (Option Value)} {st : List Value}
theorem wa_mmin {i : Nat} {x y : Int32} (hd : decode J.2.1 pc = .ok (.invokestatic i, 3)) (hL : lk_S J.1.cls i jJ9_min_7cf53 2) (hcat : (st.map fun v => v.category).sum ≤ 8) (kk : wa_ fl G J (d + 1) mc ms Q kc ks M (pc + 3) lv (.int (if y < x then y else x) :: st)) : wa_ fl G J (d + 1) mc ms Q kc ks M pc lv (.int y :: .int x :: st) := by
  intro p l e R s m args below meth c H locs cells slots ls C hok hS hc hs hl
  have hR := C.2.2.2.2.2.2.2
  have hts := C.1.2.2.2.2
  obtain ⟨⟨w1, w2, w3, -, -⟩, w6⟩ := hL
  exact va_mmin C.1.1 C.1.2.1 (by rw [C.1.2.2.1]; exact hl.1.symm) C.1.2.2.2.1 (hts _ w1) (hts _ w6) (hts _ w3) (hts _ w2) (by omega) (by omega) (by omega) (by omega) hd (kk p l e R s m args below meth c H locs cells slots ls C hok hS hc hs hl)
theorem wa_mmax {i : Nat} {x y : Int32} (hd : decode J.2.1 pc = .ok (.invokestatic i, 3)) (hL : lk_S J.1.cls i jJ9_max_7cf53 2) (hcat : (st.map fun v => v.category).sum ≤ 8) (kk : wa_ fl G J (d + 1) mc ms Q kc ks M (pc + 3) lv (.int (if x < y then y else x) :: st)) : wa_ fl G J (d + 1) mc ms Q kc ks M pc lv (.int y :: .int x :: st) := by
  intro p l e R s m args below meth c H locs cells slots ls C hok hS hc hs hl
  have hR := C.2.2.2.2.2.2.2
  have hts := C.1.2.2.2.2
  obtain ⟨⟨w1, w2, w3, -, -⟩, w6⟩ := hL
  exact va_mmax C.1.1 C.1.2.1 (by rw [C.1.2.2.1]; exact hl.1.symm) C.1.2.2.2.1 (hts _ w1) (hts _ w6) (hts _ w3) (hts _ w2) (by omega) (by omega) (by omega) (by omega) hd (kk p l e R s m args below meth c H locs cells slots ls C hok hS hc hs hl)
theorem wa_mminL {i : Nat} {x y : Int64} (hd : decode J.2.1 pc = .ok (.invokestatic i, 3)) (hL : lk_S J.1.cls i jJ9_min_f86c9 2) (hcat : (st.map fun v => v.category).sum ≤ 8) (kk : wa_ fl G J (d + 1) mc ms Q kc ks M (pc + 3) lv (.long (if y < x then y else x) :: st)) : wa_ fl G J (d + 1) mc ms Q kc ks M pc lv (.long y :: .long x :: st) := by
  intro p l e R s m args below meth c H locs cells slots ls C hok hS hc hs hl
  have hR := C.2.2.2.2.2.2.2
  have hts := C.1.2.2.2.2
  obtain ⟨⟨w1, w2, w3, -, -⟩, w6⟩ := hL
  exact va_mmin_long C.1.1 C.1.2.1 (by rw [C.1.2.2.1]; exact hl.1.symm) C.1.2.2.2.1 (hts _ w1) (hts _ w6) (hts _ w3) (hts _ w2) (by omega) (by omega) (by omega) (by omega) hd (kk p l e R s m args below meth c H locs cells slots ls C hok hS hc hs hl)
end MATHROWS
end
section
section FORGET
variable {fl : Bool} {G : mm_G} {J : mm_J} {d mc ms kc ks : Nat} {Q : Option Value → mm_M → Prop} {M : mm_M} {pc : Nat} {lv : List (Option Value)} {st : List Value}
theorem wa_set0 (i : Nat) (kk : wa_ fl G J d mc ms Q kc ks M pc (lv.set i none) st) : wa_ fl G J d mc ms Q kc ks M pc lv st := by
  refine wa_lv (fun j v h => ?_) kk
  by_cases hij : i = j
  · subst hij
    rw [List.getElem?_set] at h
    simp at h
  · rw [List.getElem?_set_ne hij] at h
    exact h
end FORGET
def mm_b (b : Bool) : Int32 := if b then 1 else 0
/-! pure: what was lost, asked for, sent again -/
def nx_ (l : Nat → Bool) : Nat → Nat → Nat
  | 0, g => g
  | n + 1, g => if l g then nx_ l n (g + 1) else g
theorem nx_spec (l : Nat → Bool) : ∀ n g, g ≤ nx_ l n g ∧ nx_ l n g ≤ g + n ∧ (nx_ l n g < g + n → l (nx_ l n g) = false) ∧ ∀ u, g ≤ u → u < nx_ l n g → l u = true := by
  intro n
  induction n with
  | zero => intro g; exact ⟨Nat.le_refl _, Nat.le_refl _, fun h => absurd h (Nat.lt_irrefl _), fun u h1 h2 => absurd h2 (by simp only [nx_]; omega)⟩
  | succ n ih =>
    intro g
    simp only [nx_]
    by_cases hl : l g = true
    · rw [if_pos hl]
      obtain ⟨h1, h2, h3, h4⟩ := ih (g + 1)
      refine ⟨by omega, by omega, fun h => h3 (by omega), fun u hu1 hu2 => ?_⟩
      by_cases he : u = g
      · rw [he]; exact hl
      · exact h4 u (by omega) hu2
    · rw [if_neg hl]
      refine ⟨Nat.le_refl _, by omega, fun _ => by simpa using hl, fun u h1 h2 => absurd h2 (by omega)⟩
/-- the next number behind t that isn't lost, T if there is none -/
def nxt_ (l : Nat → Bool) (T t : Nat) : Nat := nx_ l (T - (t + 1)) (t + 1)
theorem nxt_spec (l : Nat → Bool) {T t : Nat} (h : t < T) : t < nxt_ l T t ∧ nxt_ l T t ≤ T ∧ (nxt_ l T t < T → l (nxt_ l T t) = false) ∧ ∀ u, t < u → u < nxt_ l T t → l u = true := by
  obtain ⟨h1, h2, h3, h4⟩ := nx_spec l (T - (t + 1)) (t + 1)
  unfold nxt_
  exact ⟨by omega, by omega, fun q => h3 (by omega), fun u hu1 hu2 => h4 u (by omega) hu2⟩
/-- the day on which t was asked for by day td, a million if it wasn't -/
def ak_ (f : Nat → Nat) (l : Nat → Bool) (T td t : Nat) : Nat := if l t = true ∧ nxt_ l T t < T ∧ f (nxt_ l T t) ≤ td then f (nxt_ l T t) else 1000000
def ag_ (f : Nat → Nat) (l : Nat → Bool) (dy T td t : Nat) : Nat := if ak_ f l T td t = 1000000 then 1000000 else ak_ f l T td t + 2 * dy
def cm_ (f : Nat → Nat) (l : Nat → Bool) (dy T td t : Nat) : Nat := if l t = true then ag_ f l dy T td t else f t
def ac_ (ta op : Nat) : Nat := (ta + 29) / 30 - (op + 29) / 30
theorem ak_pos {f : Nat → Nat} {l : Nat → Bool} {T td t : Nat} (h1 : l t = true) (h2 : nxt_ l T t < T) (h3 : f (nxt_ l T t) ≤ td) : ak_ f l T td t = f (nxt_ l T t) := if_pos ⟨h1, h2, h3⟩
theorem ak_neg {f : Nat → Nat} {l : Nat → Bool} {T td t : Nat} (h : ¬ (l t = true ∧ nxt_ l T t < T ∧ f (nxt_ l T t) ≤ td)) : ak_ f l T td t = 1000000 := if_neg h
/-- who is asked for on the next day -/
theorem ak_up {f : Nat → Nat} {l : Nat → Bool} {dy T td t : Nat} (hm : ∀ a b, a ≤ b → b < T → f a ≤ f b) (hf : ∀ a, a < T → f a ≤ 20000) (htd : td ≤ 20000) (ht : t < T) :
    (td + 1 < cm_ f l dy T td t ∧ (∃ u, t < u ∧ u < T ∧ cm_ f l dy T td u ≤ td + 1) ∧ ak_ f l T td t = 1000000) ↔ (l t = true ∧ nxt_ l T t < T ∧ f (nxt_ l T t) = td + 1) := by
  obtain ⟨n1, n2, n3, n4⟩ := nxt_spec l ht
  constructor
  · rintro ⟨h1, ⟨u, hu1, hu2, hu3⟩, h3⟩
    -- a number behind t that isn't lost and has come
    have hv : ∃ v, t < v ∧ v < T ∧ l v = false ∧ f v ≤ td + 1 := by
      by_cases hlu : l u = true
      · obtain ⟨m1, m2, m3, m4⟩ := nxt_spec l hu2
        unfold cm_ at hu3
        rw [if_pos hlu] at hu3
        unfold ag_ at hu3
        by_cases hk : l u = true ∧ nxt_ l T u < T ∧ f (nxt_ l T u) ≤ td
        · exact ⟨nxt_ l T u, by omega, hk.2.1, m3 hk.2.1, by omega⟩
        · rw [ak_neg hk, if_pos rfl] at hu3
          omega
      · unfold cm_ at hu3
        rw [if_neg hlu] at hu3
        exact ⟨u, hu1, hu2, by simpa using hlu, hu3⟩
    obtain ⟨v, hv1, hv2, hv3, hv4⟩ := hv
    by_cases hl : l t = true
    · have hvn : nxt_ l T t ≤ v := by
        apply Nat.not_lt.mp
        intro hlt
        rw [n4 v hv1 hlt] at hv3
        cases hv3
      have hn : nxt_ l T t < T := by omega
      have hfn := hm _ _ hvn hv2
      refine ⟨hl, hn, ?_⟩
      by_cases hle : f (nxt_ l T t) ≤ td
      · rw [ak_pos hl hn hle] at h3
        have := hf _ hn
        omega
      · omega
    · unfold cm_ at h1
      rw [if_neg hl] at h1
      have := hm t v (by omega) hv2
      omega
  · rintro ⟨hl, hn, he⟩
    have hk : ak_ f l T td t = 1000000 := ak_neg (fun q => by omega)
    refine ⟨?_, ⟨nxt_ l T t, n1, hn, ?_⟩, hk⟩
    · unfold cm_ ag_
      rw [if_pos hl, hk, if_pos rfl]
      omega
    · unfold cm_
      rw [if_neg (by rw [n3 hn]; decide)]
      omega
theorem ak_next {f : Nat → Nat} {l : Nat → Bool} {T td t : Nat} (h : ¬ (l t = true ∧ nxt_ l T t < T ∧ f (nxt_ l T t) = td + 1)) : ak_ f l T (td + 1) t = ak_ f l T td t := by
  unfold ak_
  by_cases hk : l t = true ∧ nxt_ l T t < T ∧ f (nxt_ l T t) ≤ td
  · rw [if_pos hk, if_pos ⟨hk.1, hk.2.1, by omega⟩]
  · rw [if_neg hk, if_neg (fun q => by
      rcases Nat.lt_or_ge (f (nxt_ l T t)) (td + 1) with h2 | h2
      · exact hk ⟨q.1, q.2.1, by omega⟩
      · exact h ⟨q.1, q.2.1, by omega⟩)]
theorem ak_le {f : Nat → Nat} {l : Nat → Bool} {T td t : Nat} (htd : td ≤ 20000) : ak_ f l T td t ≤ td ∨ ak_ f l T td t = 1000000 := by
  unfold ak_
  by_cases hk : l t = true ∧ nxt_ l T t < T ∧ f (nxt_ l T t) ≤ td
  · rw [if_pos hk]; exact Or.inl hk.2.2
  · rw [if_neg hk]; exact Or.inr rfl
/-! the reference's arrays of a port, by what was told to them: accounts as of day ta, asked for as of day tk -/
def md_BP (M : mm_M) (y p T ta tk dy op : Nat) (f : Nat → Nat) (l : Nat → Bool) : Prop := mm_I M (y + 14) p = nI dy ∧ mm_I M (y + 15) p = nI op ∧ mm_I M (y + 18) p = nI (ac_ ta op) ∧ ∀ t, t < T → mm_I M (y + 20) (30 * p + t) = nI (f t) ∧ mm_I M (y + 23) (30 * p + t) = mm_b (l t) ∧ mm_I M (y + 22) (30 * p + t) = nI (ak_ f l T tk t) ∧ mm_I M (y + 21) (30 * p + t) = nI (ag_ f l dy T tk t)
theorem mm_b0 {b : Bool} : mm_b b = 0 ↔ b = false := by cases b <;> simp [mm_b]
theorem md_com_B {M : mm_M} {y p T ta tk dy op : Nat} {f : Nat → Nat} {l : Nat → Bool} (h : md_BP M y p T ta tk dy op f l) {t : Nat} (ht : t < T) : md_com M y (30 * p + t) = nI (cm_ f l dy T tk t) := by
  obtain ⟨h1, h2, h3, h4⟩ := h.2.2.2 t ht
  unfold md_com cm_
  rw [h2, h1, h4]
  cases l t <;> simp [mm_b]
/-- same but for ints -/
def md_sk (M M' : mm_M) : Prop := M'.1 = M.1 ∧ M'.2.2 = M.2.2
theorem md_sk_mdl {M M' : mm_M} {y : Nat} (h : md_sk M M') (hY : mdl_ M y) : mdl_ M' y := by
  obtain ⟨M1, MI, M2⟩ := M
  obtain ⟨N1, NI, N2⟩ := M'
  obtain ⟨h1, h2⟩ := h
  cases h1
  cases h2
  exact hY
theorem md_sk_rf (M : mm_M) : md_sk M M := ⟨rfl, rfl⟩
theorem md_sk_tr {A B C : mm_M} (h1 : md_sk A B) (h2 : md_sk B C) : md_sk A C := ⟨h2.1.trans h1.1, h2.2.trans h1.2⟩
theorem md_sk_sI {A B : mm_M} (h : md_sk A B) (a k : Nat) (v : Int32) : md_sk A (mm_sI B a k v) := h
/-- what asks(p, day) does, from number lo on -/
def md_up (M : mm_M) (y p T : Nat) (dd : Int32) (t : Nat) : Prop := dd < md_com M y (30 * p + t) ∧ (∃ u, t < u ∧ u < T ∧ md_com M y (30 * p + u) ≤ dd) ∧ mm_I M (y + 22) (30 * p + t) = 1000000
def md_ad (M M' : mm_M) (y p T : Nat) (dd : Int32) (lo : Nat) : Prop := md_sk M M' ∧ (∀ a j, a ≠ y + 21 → a ≠ y + 22 → mm_I M' a j = mm_I M a j) ∧ (∀ j, (∀ t, lo ≤ t → t < T → j ≠ 30 * p + t) → mm_I M' (y + 21) j = mm_I M (y + 21) j ∧ mm_I M' (y + 22) j = mm_I M (y + 22) j) ∧ ∀ t, lo ≤ t → t < T → (md_up M y p T dd t → mm_I M' (y + 22) (30 * p + t) = dd ∧ mm_I M' (y + 21) (30 * p + t) = dd + 2 * mm_I M (y + 14) p) ∧ (¬ md_up M y p T dd t → mm_I M' (y + 22) (30 * p + t) = mm_I M (y + 22) (30 * p + t) ∧ mm_I M' (y + 21) (30 * p + t) = mm_I M (y + 21) (30 * p + t))
theorem md_ad0 (M : mm_M) (y p T : Nat) (dd : Int32) : md_ad M M y p T dd T := ⟨md_sk_rf M, fun _ _ _ _ => rfl, fun _ _ => ⟨rfl, rfl⟩, fun t h1 h2 => absurd h1 (by omega)⟩
/-- number k stays as it is -/
theorem md_ad_k {M M' : mm_M} {y p T : Nat} {dd : Int32} {k : Nat} (h : md_ad M M' y p T dd (k + 1)) (hk : ¬ md_up M y p T dd k) : md_ad M M' y p T dd k := by
  refine ⟨h.1, h.2.1, fun j hj => h.2.2.1 j (fun t h1 h2 => hj t (by omega) h2), fun t h1 h2 => ?_⟩
  by_cases he : t = k
  · subst he
    have := h.2.2.1 (30 * p + t) (fun u h3 h4 => by omega)
    exact ⟨fun q => absurd q hk, fun _ => ⟨this.2, this.1⟩⟩
  · exact h.2.2.2 t (by omega) h2
/-- number k is asked for -/
theorem md_ad_u {M M' : mm_M} {y p T : Nat} {dd v : Int32} {k : Nat} (h : md_ad M M' y p T dd (k + 1)) (hk : md_up M y p T dd k) (hv : v = dd + 2 * mm_I M (y + 14) p) : md_ad M (mm_sI (mm_sI M' (y + 22) (30 * p + k) dd) (y + 21) (30 * p + k) v) y p T dd k := by
  have r1 : ∀ j, mm_I (mm_sI (mm_sI M' (y + 22) (30 * p + k) dd) (y + 21) (30 * p + k) v) (y + 21) j = if j = 30 * p + k then v else mm_I M' (y + 21) j := by
    intro j
    rw [mm_I_sI, mm_I_sI]
    by_cases hj : j = 30 * p + k <;> simp [hj]
  have r2 : ∀ j, mm_I (mm_sI (mm_sI M' (y + 22) (30 * p + k) dd) (y + 21) (30 * p + k) v) (y + 22) j = if j = 30 * p + k then dd else mm_I M' (y + 22) j := by
    intro j
    rw [mm_I_sI, mm_I_sI]
    by_cases hj : j = 30 * p + k <;> simp [hj]
  refine ⟨h.1, fun a j h1 h2 => ?_, fun j hj => ?_, fun t h1 h2 => ?_⟩
  · rw [mm_I_sI, mm_I_sI, if_neg (fun q => h1 q.1), if_neg (fun q => h2 q.1)]
    exact h.2.1 a j h1 h2
  · have h3 : j ≠ 30 * p + k := fun q => by
      by_cases hkT : k < T
      · exact hj k (Nat.le_refl _) hkT q
      · obtain ⟨-, ⟨u, hu1, hu2, -⟩, -⟩ := hk
        omega
    rw [r1, r2, if_neg h3, if_neg h3]
    exact h.2.2.1 j (fun t h4 h5 => hj t (by omega) h5)
  · rw [r1, r2]
    by_cases he : t = k
    · subst he
      rw [if_pos rfl, if_pos rfl]
      exact ⟨fun _ => ⟨rfl, hv⟩, fun q => absurd hk q⟩
    · rw [if_neg (by omega), if_neg (by omega)]
      exact h.2.2.2 t (by omega) h2
theorem ni_m1 (x : Int32) : x + Int32.ofInt (-1) = x - 1 := by
  have : Int32.ofInt (-1) = -1 := by decide
  rw [this, ← Int32.sub_eq_add_neg]

theorem k_X12_asks {G : mm_G} {d : Nat} {Q : Option Value → mm_M → Prop} {M : mm_M} {y : Nat} (p T : Nat) (dd : Int32) (hY : mdl_ M y) (hp : p < 8) (hT : mm_I M y 14 = nI T) (hT30 : T ≤ 30) (hQ : ∀ M', md_ad M M' y p T dd 0 → Q none M') : ma_ G jX12_asks (d + 2) 0 0 [.ref y, .int (nI p), .int dd] M Q := by
  refine ma_of [some (.ref y), some (.int (nI p)), some (.int dd), none, none, none] (by decide) rfl (Nat.le_of_ble_eq_true rfl) ?_
  have loop : ∀ (n : Nat) (M' : mm_M) (g : Int32), n ≤ T → md_ad M M' y p T dd n → (¬ g = 0 ↔ ∃ u, n ≤ u ∧ u < T ∧ md_com M y (30 * p + u) ≤ dd) → wa_ false G jX12_asks (d + 2) 0 0 Q 0 0 M' 10 [some (.ref y), some (.int (nI p)), some (.int dd), some (.int g), some (.int (nI n - 1)), none] [] := by
    intro n
    induction n with
    | zero =>
      intro M' g hn hA hg
      refine wa_iload dX12_asks_10 rfl ?_
      refine wa_if_lt (tgt := 87) dX12_asks_12 (by decide) (fun _ => ?_) (fun h9 => absurd h9 (by decide))
      exact wa_vret dX12_asks_87 rfl (hQ M' hA)
    | succ k ih =>
      intro M' g hn hA hg
      have hYM : mdl_ M' y := md_sk_mdl hA.1 hY
      have hcom : md_com M' y (30 * p + k) = md_com M y (30 * p + k) := by
        unfold md_com
        rw [hA.2.1 (y + 23) _ (by omega) (by omega), hA.2.1 (y + 20) _ (by omega) (by omega), (hA.2.2.1 (30 * p + k) (fun t h1 h2 => by omega)).1]
      rw [nI_pred k]
      refine wa_iload dX12_asks_10 rfl ?_
      refine wa_if_lt (tgt := 87) dX12_asks_12 (by decide) (fun hT12 => absurd hT12 (nI_pos (by omega))) (fun hF12 => ?_)
      refine wa_bipush (v := 30) dX12_asks_15 (by decide) ?_
      refine wa_iload_n dX12_asks_17 rfl ?_
      refine wa_imul dX12_asks_18 ?_
      refine wa_iload dX12_asks_19 rfl ?_
      refine wa_iadd dX12_asks_21 ?_
      rw [ix_30 p k]
      refine wa_istore dX12_asks_22 (by decide) rfl rfl ?_
      refine wa_aload_n dX12_asks_24 rfl rfl ?_
      refine wa_iload_n dX12_asks_25 rfl ?_
      refine wa_iload dX12_asks_26 rfl ?_
      refine wa_iload_n dX12_asks_28 rfl ?_
      refine wa_callV (q := (RX12, TX12, 50)) (As := [.int (nI p), .int (nI k), .int dd]) dX12_asks_29 lk_X12_268 rfl rfl hYM.1 rfl rfl (Nat.le_of_ble_eq_true rfl) (Nat.le_of_eq (Nat.zero_add _)) (Nat.le_of_eq (Nat.zero_add _)) (k_X12_hasCome p k dd hYM hp (by omega) (fun hC => ?_) (fun hC => ?_))
      · rw [hcom] at hC
        refine wa_if_eq (tgt := 40) dX12_asks_32 (by decide) (fun h9 => absurd h9 (by decide)) (fun _ => ?_)
        refine wa_iconst (v := 1) dX12_asks_35 (by decide) ?_
        refine wa_istore_n dX12_asks_36 (by decide) rfl rfl ?_
        refine wa_goto (tgt := 81) dX12_asks_37 (by decide) ?_
        refine wa_iinc (v := nI k - 1) dX12_asks_81 rfl (ni_m1 _) (by decide) rfl rfl ?_
        refine wa_goto (tgt := 10) dX12_asks_84 (by decide) ?_
        refine wa_set0 5 ?_
        exact ih M' 1 (by omega) (md_ad_k hA (fun q => absurd hC (Int32.not_le.mpr q.1))) ⟨fun _ => ⟨k, Nat.le_refl _, by omega, hC⟩, fun _ => by decide⟩
      · rw [hcom] at hC
        refine wa_if_eq (tgt := 40) dX12_asks_32 (by decide) (fun _ => ?_) (fun h9 => absurd h9 (by decide))
        refine wa_iload_n dX12_asks_40 rfl ?_
        refine wa_if_eq (tgt := 81) dX12_asks_41 (by decide) (fun hT41 => ?_) (fun hF41 => ?_)
        · refine wa_iinc (v := nI k - 1) dX12_asks_81 rfl (ni_m1 _) (by decide) rfl rfl ?_
          refine wa_goto (tgt := 10) dX12_asks_84 (by decide) ?_
          refine wa_set0 5 ?_
          first
            | (exact ih _ g (by omega) (md_ad_u hA ⟨hC, by obtain ⟨u, h1, h2, h3⟩ := hg.mp hF41; exact ⟨u, by omega, h2, h3⟩, by rw [← (hA.2.2.1 (30 * p + k) (fun t h1 h2 => by omega)).2]; exact hF53⟩ (by rw [mm_I_sI, if_neg (by omega), hA.2.1 (y + 14) p (by omega) (by omega)])) ⟨fun q => by obtain ⟨u, h1, h2, h3⟩ := hg.mp q; exact ⟨u, by omega, h2, h3⟩, fun _ => hF41⟩)
            | (exact ih M' g (by omega) (md_ad_k hA (fun q => hT53 (by rw [(hA.2.2.1 (30 * p + k) (fun t h1 h2 => by omega)).2]; exact q.2.2))) ⟨fun q => by obtain ⟨u, h1, h2, h3⟩ := hg.mp q; exact ⟨u, by omega, h2, h3⟩, fun _ => hF41⟩)
            | (exact ih M' g (by omega) (md_ad_k hA (fun q => by obtain ⟨u, h1, h2, h3⟩ := q.2.1; exact (hg.mpr ⟨u, by omega, h2, h3⟩) hT41)) ⟨fun q => absurd hT41 q, fun ⟨u, h1, h2, h3⟩ => by
                rcases Nat.eq_or_lt_of_le h1 with h | h
                · subst h; exact absurd h3 (Int32.not_le.mpr hC)
                · exact hg.mpr ⟨u, by omega, h2, h3⟩⟩)
        · refine wa_aload_n dX12_asks_44 rfl rfl ?_
          refine wa_getR (q := (RX12, TX12, 50)) (ci := 12) (k := 36) dX12_asks_45 rfl (by decide) wf_X12_82 hYM.1 rfl (md_r36 hYM) ?_
          refine wa_iload dX12_asks_48 rfl ?_
          refine wa_ialdN dX12_asks_50 (md_s36 hYM) (Or.inl rfl) (by omega) (by decide) ?_
          refine wa_ldc dX12_asks_51 wl_X12_249 ?_
          refine wa_icmp_ne (tgt := 81) dX12_asks_53 (by decide) (fun hT53 => ?_) (fun hF53 => ?_)
          · refine wa_iinc (v := nI k - 1) dX12_asks_81 rfl (ni_m1 _) (by decide) rfl rfl ?_
            refine wa_goto (tgt := 10) dX12_asks_84 (by decide) ?_
            refine wa_set0 5 ?_
            first
              | (exact ih _ g (by omega) (md_ad_u hA ⟨hC, by obtain ⟨u, h1, h2, h3⟩ := hg.mp hF41; exact ⟨u, by omega, h2, h3⟩, by rw [← (hA.2.2.1 (30 * p + k) (fun t h1 h2 => by omega)).2]; exact hF53⟩ (by rw [mm_I_sI, if_neg (by omega), hA.2.1 (y + 14) p (by omega) (by omega)])) ⟨fun q => by obtain ⟨u, h1, h2, h3⟩ := hg.mp q; exact ⟨u, by omega, h2, h3⟩, fun _ => hF41⟩)
              | (exact ih M' g (by omega) (md_ad_k hA (fun q => hT53 (by rw [(hA.2.2.1 (30 * p + k) (fun t h1 h2 => by omega)).2]; exact q.2.2))) ⟨fun q => by obtain ⟨u, h1, h2, h3⟩ := hg.mp q; exact ⟨u, by omega, h2, h3⟩, fun _ => hF41⟩)
              | (exact ih M' g (by omega) (md_ad_k hA (fun q => by obtain ⟨u, h1, h2, h3⟩ := q.2.1; exact (hg.mpr ⟨u, by omega, h2, h3⟩) hT41)) ⟨fun q => absurd hT41 q, fun ⟨u, h1, h2, h3⟩ => by
                  rcases Nat.eq_or_lt_of_le h1 with h | h
                  · subst h; exact absurd h3 (Int32.not_le.mpr hC)
                  · exact hg.mpr ⟨u, by omega, h2, h3⟩⟩)
          · refine wa_aload_n dX12_asks_56 rfl rfl ?_
            refine wa_getR (q := (RX12, TX12, 50)) (ci := 12) (k := 36) dX12_asks_57 rfl (by decide) wf_X12_82 hYM.1 rfl (md_r36 hYM) ?_
            refine wa_iload dX12_asks_60 rfl ?_
            refine wa_iload_n dX12_asks_62 rfl ?_
            refine wa_iastN dX12_asks_63 (md_s36 hYM) (by omega) (by decide) ?_
            refine wa_aload_n dX12_asks_64 rfl rfl ?_
            refine wa_getR (q := (RX12, TX12, 50)) (ci := 12) (k := 35) dX12_asks_65 rfl (by decide) wf_X12_79 hYM.1 rfl (md_r35 hYM) ?_
            refine wa_iload dX12_asks_68 rfl ?_
            refine wa_iload_n dX12_asks_70 rfl ?_
            refine wa_iconst (v := 2) dX12_asks_71 (by decide) ?_
            refine wa_aload_n dX12_asks_72 rfl rfl ?_
            refine wa_getR (q := (RX12, TX12, 50)) (ci := 12) (k := 28) dX12_asks_73 rfl (by decide) wf_X12_58 hYM.1 rfl (md_r28 hYM) ?_
            refine wa_iload_n dX12_asks_76 rfl ?_
            refine wa_ialdN dX12_asks_77 (md_s28 hYM) (Or.inl rfl) (by omega) (by decide) ?_
            refine wa_imul dX12_asks_78 ?_
            refine wa_iadd dX12_asks_79 ?_
            refine wa_iastN dX12_asks_80 (md_s35 hYM) (by omega) (by decide) ?_
            refine wa_iinc (v := nI k - 1) dX12_asks_81 rfl (ni_m1 _) (by decide) rfl rfl ?_
            refine wa_goto (tgt := 10) dX12_asks_84 (by decide) ?_
            refine wa_set0 5 ?_
            first
              | (exact ih _ g (by omega) (md_ad_u hA ⟨hC, by obtain ⟨u, h1, h2, h3⟩ := hg.mp hF41; exact ⟨u, by omega, h2, h3⟩, by rw [← (hA.2.2.1 (30 * p + k) (fun t h1 h2 => by omega)).2]; exact hF53⟩ (by rw [mm_I_sI, if_neg (by omega), hA.2.1 (y + 14) p (by omega) (by omega)])) ⟨fun q => by obtain ⟨u, h1, h2, h3⟩ := hg.mp q; exact ⟨u, by omega, h2, h3⟩, fun _ => hF41⟩)
              | (exact ih M' g (by omega) (md_ad_k hA (fun q => hT53 (by rw [(hA.2.2.1 (30 * p + k) (fun t h1 h2 => by omega)).2]; exact q.2.2))) ⟨fun q => by obtain ⟨u, h1, h2, h3⟩ := hg.mp q; exact ⟨u, by omega, h2, h3⟩, fun _ => hF41⟩)
              | (exact ih M' g (by omega) (md_ad_k hA (fun q => by obtain ⟨u, h1, h2, h3⟩ := q.2.1; exact (hg.mpr ⟨u, by omega, h2, h3⟩) hT41)) ⟨fun q => absurd hT41 q, fun ⟨u, h1, h2, h3⟩ => by
                  rcases Nat.eq_or_lt_of_le h1 with h | h
                  · subst h; exact absurd h3 (Int32.not_le.mpr hC)
                  · exact hg.mpr ⟨u, by omega, h2, h3⟩⟩)
  refine wa_iconst (v := 0) dX12_asks_0 (by decide) ?_
  refine wa_istore_n dX12_asks_1 (by decide) rfl rfl ?_
  refine wa_aload_n dX12_asks_2 rfl rfl ?_
  refine wa_getI (q := (RX12, TX12, 50)) (ci := 12) (k := 14) dX12_asks_3 rfl (by decide) wf_X12_201 hY.1 rfl ?_
  rw [hT]
  refine wa_iconst (v := 1) dX12_asks_6 (by decide) ?_
  refine wa_isub dX12_asks_7 ?_
  refine wa_istore dX12_asks_8 (by decide) rfl rfl ?_
  exact loop T M 0 (Nat.le_refl _) (md_ad0 M y p T dd) ⟨fun q => absurd rfl q, fun ⟨u, h1, h2, _⟩ => absurd h1 (by omega)⟩
end
section
/-! sends, in a row -/
def md_sds (M : mm_M) (y b : Nat) (c : Int32) : Nat → mm_M
  | 0 => M
  | n + 1 => md_snd (md_sds M y b c n) y (b + n) c
theorem md_snd_I (M : mm_M) (y k : Nat) (c : Int32) (a j : Nat) : mm_I (md_snd M y k c) a j = if j = k ∧ a = y + 23 then 0 else if j = k ∧ a = y + 22 then 1000000 else if j = k ∧ a = y + 21 then 1000000 else if j = k ∧ a = y + 20 then c else mm_I M a j := by
  unfold md_snd
  simp only [mm_I_sI, and_comm]
theorem md_sds_sk (M : mm_M) (y b : Nat) (c : Int32) (n : Nat) : md_sk M (md_sds M y b c n) := by
  induction n with
  | zero => exact md_sk_rf M
  | succ n ih => exact ih
theorem md_sds_I (M : mm_M) (y b : Nat) (c : Int32) (n a j : Nat) : mm_I (md_sds M y b c n) a j = if b ≤ j ∧ j < b + n ∧ a = y + 23 then 0 else if b ≤ j ∧ j < b + n ∧ a = y + 22 then 1000000 else if b ≤ j ∧ j < b + n ∧ a = y + 21 then 1000000 else if b ≤ j ∧ j < b + n ∧ a = y + 20 then c else mm_I M a j := by
  induction n with
  | zero =>
    rw [if_neg (by omega), if_neg (by omega), if_neg (by omega), if_neg (by omega)]
    rfl
  | succ n ih =>
    show mm_I (md_snd (md_sds M y b c n) y (b + n) c) a j = _
    rw [md_snd_I, ih]
    repeat' split
    all_goals first | rfl | (exfalso; omega)
theorem md_sds_y (M : mm_M) (y b : Nat) (c : Int32) (n j : Nat) : mm_I (md_sds M y b c n) y j = mm_I M y j := by
  rw [md_sds_I, if_neg (by omega), if_neg (by omega), if_neg (by omega), if_neg (by omega)]
/-- the reference opens port P -/
def md_opn (M : mm_M) (y P T : Nat) (dd td : Int32) : mm_M := mm_sI (md_sds (mm_sI (mm_sI M (y + 14) P dd) (y + 15) P td) y (30 * P) td T) y 26 (nI (P + 1))

theorem k_X12_port {G : mm_G} {d : Nat} {Q : Option Value → mm_M → Prop} {M : mm_M} {y : Nat} (dd : Int32) {M0 : mm_M} (hM0 : M0 = mm_sI M y 0 0) (hY : mdl_ M0 y) (P T : Nat) (hP : mm_I M0 y 26 = nI P) (hP8 : P ≤ 8) (hT : mm_I M0 y 14 = nI T) (hT30 : T ≤ 30) (h2 : ¬ (1 ≤ dd ∧ dd ≤ 60) → Q (some (.int (-1))) (mm_sI (mm_sI M0 y 1 2) y 2 (-1))) (h3 : P = 8 → 1 ≤ dd → dd ≤ 60 → Q (some (.int (-1))) (mm_sI (mm_sI M0 y 1 3) y 2 (-1))) (h1 : P < 8 → 1 ≤ dd → dd ≤ 60 → Q (some (.int (nI P))) (mm_sI (mm_sI (md_opn M0 y P T dd (mm_I M0 y 27)) y 1 0) y 2 (-1))) : ma_ G jX12_port (d + 1) 0 0 [.ref y, .int dd] M Q := by
  refine ma_of [some (.ref y), some (.int dd), none] (by decide) rfl (Nat.le_of_ble_eq_true rfl) ?_
  have hY0 : mdl_ M y := by subst hM0; exact hY
  refine wa_aload_n dX12_port_0 rfl rfl ?_
  refine wa_iconst (v := 0) dX12_port_1 (by decide) ?_
  refine wa_put (q := (RX12, TX12, 50)) (ci := 12) (k := 0) dX12_port_2 rfl (by decide) wf_X12_123 rfl hY0.1 rfl ?_
  rw [show mm_put M y 0 (.int 0) = M0 from hM0.symm]
  have hA : ∀ k j, mm_I (md_sds (mm_sI (mm_sI M0 (y + 14) P dd) (y + 15) P (mm_I M0 y 27)) y (30 * P) (mm_I M0 y 27) k) y j = mm_I M0 y j := by
    intro k j
    rw [md_sds_y, mm_I_sI, if_neg (by omega), mm_I_sI, if_neg (by omega)]
  have fin : P < 8 → 1 ≤ dd → dd ≤ 60 → wa_ false G jX12_port (d + 1) 0 0 Q 0 0 (md_sds (mm_sI (mm_sI M0 (y + 14) P dd) (y + 15) P (mm_I M0 y 27)) y (30 * P) (mm_I M0 y 27) T) 88 [some (.ref y), some (.int dd), some (.int (nI T))] [] := by
    intro hP9 ha hb
    have hYA : mdl_ (md_sds (mm_sI (mm_sI M0 (y + 14) P dd) (y + 15) P (mm_I M0 y 27)) y (30 * P) (mm_I M0 y 27) T) y := md_sk_mdl (md_sds_sk _ _ _ _ _) hY
    refine wa_aload_n dX12_port_88 rfl rfl ?_
    refine wa_dup dX12_port_89 rfl ?_
    refine wa_getI (q := (RX12, TX12, 50)) (ci := 12) (k := 26) dX12_port_90 rfl (by decide) wf_X12_236 hYA.1 rfl ?_
    rw [hA, hP]
    refine wa_iconst (v := 1) dX12_port_93 (by decide) ?_
    refine wa_iadd dX12_port_94 ?_
    rw [show nI P + 1 = nI (P + 1) from nI_1 P]
    refine wa_put (q := (RX12, TX12, 50)) (ci := 12) (k := 26) dX12_port_95 rfl (by decide) wf_X12_236 rfl hYA.1 rfl ?_
    refine wa_aload_n dX12_port_98 rfl rfl ?_
    refine wa_aload_n dX12_port_99 rfl rfl ?_
    refine wa_getI (q := (RX12, TX12, 50)) (ci := 12) (k := 26) dX12_port_100 rfl (by decide) wf_X12_236 hYA.1 rfl ?_
    rw [show mm_I (mm_put (md_sds (mm_sI (mm_sI M0 (y + 14) P dd) (y + 15) P (mm_I M0 y 27)) y (30 * P) (mm_I M0 y 27) T) y 26 (.int (nI (P + 1)))) y 26 = nI (P + 1) from by show mm_I (mm_sI _ y 26 _) y 26 = _; rw [mm_I_sI, if_pos ⟨rfl, rfl⟩]]
    refine wa_iconst (v := 1) dX12_port_103 (by decide) ?_
    refine wa_isub dX12_port_104 ?_
    rw [nI_pred P]
    refine wa_callV (q := (RX12, TX12, 50)) (As := [.int (nI P)]) dX12_port_105 lk_X12_246 rfl rfl hYA.1 rfl rfl (Nat.le_of_ble_eq_true rfl) (Nat.le_of_eq (Nat.zero_add _)) (Nat.le_of_eq (Nat.zero_add _)) (k_X12_done (nI P) hYA ?_)
    exact wa_iret dX12_port_108 rfl (h1 hP9 ha hb)
  have loop : P < 8 → 1 ≤ dd → dd ≤ 60 → ∀ (n k : Nat), T - k = n → k ≤ T → wa_ false G jX12_port (d + 1) 0 0 Q 0 0 (md_sds (mm_sI (mm_sI M0 (y + 14) P dd) (y + 15) P (mm_I M0 y 27)) y (30 * P) (mm_I M0 y 27) k) 61 [some (.ref y), some (.int dd), some (.int (nI k))] [] := by
    intro hP9 ha hb n
    induction n with
    | zero =>
      intro k hn hk
      have hkT : k = T := by omega
      subst hkT
      have hYA : mdl_ (md_sds (mm_sI (mm_sI M0 (y + 14) P dd) (y + 15) P (mm_I M0 y 27)) y (30 * P) (mm_I M0 y 27) k) y := md_sk_mdl (md_sds_sk _ _ _ _ _) hY
      refine wa_iload_n dX12_port_61 rfl ?_
      refine wa_aload_n dX12_port_62 rfl rfl ?_
      refine wa_getI (q := (RX12, TX12, 50)) (ci := 12) (k := 14) dX12_port_63 rfl (by decide) wf_X12_201 hYA.1 rfl ?_
      rw [hA, hT]
      refine wa_icmp_ge (tgt := 88) dX12_port_66 (by decide) (fun hT66 => ?_) (fun hF66 => absurd (nI_le (Nat.le_refl k) (by omega)) hF66)
      exact fin hP9 ha hb
    | succ n ih =>
      intro k hn hk
      have hYA : mdl_ (md_sds (mm_sI (mm_sI M0 (y + 14) P dd) (y + 15) P (mm_I M0 y 27)) y (30 * P) (mm_I M0 y 27) k) y := md_sk_mdl (md_sds_sk _ _ _ _ _) hY
      refine wa_iload_n dX12_port_61 rfl ?_
      refine wa_aload_n dX12_port_62 rfl rfl ?_
      refine wa_getI (q := (RX12, TX12, 50)) (ci := 12) (k := 14) dX12_port_63 rfl (by decide) wf_X12_201 hYA.1 rfl ?_
      rw [hA, hT]
      refine wa_icmp_ge (tgt := 88) dX12_port_66 (by decide) (fun hT66 => absurd hT66 (nI_ge (by omega) (by omega))) (fun hF66 => ?_)
      refine wa_aload_n dX12_port_69 rfl rfl ?_
      refine wa_aload_n dX12_port_70 rfl rfl ?_
      refine wa_getI (q := (RX12, TX12, 50)) (ci := 12) (k := 26) dX12_port_71 rfl (by decide) wf_X12_236 hYA.1 rfl ?_
      rw [hA, hP]
      refine wa_iload_n dX12_port_74 rfl ?_
      refine wa_aload_n dX12_port_75 rfl rfl ?_
      refine wa_getI (q := (RX12, TX12, 50)) (ci := 12) (k := 27) dX12_port_76 rfl (by decide) wf_X12_239 hYA.1 rfl ?_
      rw [hA]
      refine wa_callV (q := (RX12, TX12, 50)) (As := [.int (nI P), .int (nI k), .int (mm_I M0 y 27)]) dX12_port_79 lk_X12_242 rfl rfl hYA.1 rfl rfl (Nat.le_of_ble_eq_true rfl) (Nat.le_of_eq (Nat.zero_add _)) (Nat.le_of_eq (Nat.zero_add _)) (k_X12_sends P k _ hYA hP9 (by omega) ?_)
      refine wa_iinc (v := nI (k + 1)) dX12_port_82 rfl (ni_i1 k) (by decide) rfl rfl ?_
      refine wa_goto (tgt := 61) dX12_port_85 (by decide) ?_
      exact ih (k + 1) (by omega) (by omega)
  refine wa_iload_n dX12_port_5 rfl ?_
  refine wa_iconst (v := 1) dX12_port_6 (by decide) ?_
  refine wa_bipush (v := 60) dX12_port_7 (by decide) ?_
  refine wa_callS (As := [.int dd, .int 1, .int 60]) dX12_port_9 lk_X12_229 rfl rfl (Nat.le_of_ble_eq_true rfl) (Nat.le_of_eq (Nat.zero_add _)) (Nat.le_of_eq (Nat.zero_add _)) (k_X12_in dd 1 60 (fun ha hb => ?_) (fun ha => ?_))
  · refine wa_if_ne (tgt := 21) dX12_port_12 (by decide) (fun _ => ?_) (fun h9 => absurd h9 (by decide))
    refine wa_aload_n dX12_port_21 rfl rfl ?_
    refine wa_getI (q := (RX12, TX12, 50)) (ci := 12) (k := 26) dX12_port_22 rfl (by decide) wf_X12_236 hY.1 rfl ?_
    rw [hP]
    refine wa_bipush (v := 8) dX12_port_25 (by decide) ?_
    refine wa_icmp_ne (tgt := 36) dX12_port_27 (by decide) (fun hT27 => ?_) (fun hF27 => ?_)
    · refine wa_aload_n dX12_port_36 rfl rfl ?_
      refine wa_getR (q := (RX12, TX12, 50)) (ci := 12) (k := 28) dX12_port_37 rfl (by decide) wf_X12_58 hY.1 rfl (md_r28 hY) ?_
      refine wa_aload_n dX12_port_40 rfl rfl ?_
      refine wa_getI (q := (RX12, TX12, 50)) (ci := 12) (k := 26) dX12_port_41 rfl (by decide) wf_X12_236 hY.1 rfl ?_
      rw [hP]
      refine wa_iload_n dX12_port_44 rfl ?_
      refine wa_iastN dX12_port_45 (md_s28 hY) (have h8 : P ≠ 8 := fun q => hT27 (by rw [q]; rfl); by omega) (by decide) ?_
      refine wa_aload_n dX12_port_46 rfl rfl ?_
      refine wa_getR (q := (RX12, TX12, 50)) (ci := 12) (k := 29) dX12_port_47 rfl (by decide) wf_X12_61 hY.1 rfl (md_r29 hY) ?_
      refine wa_aload_n dX12_port_50 rfl rfl ?_
      refine wa_getI (q := (RX12, TX12, 50)) (ci := 12) (k := 26) dX12_port_51 rfl (by decide) wf_X12_236 hY.1 rfl ?_
      rw [show mm_I (mm_sI M0 (y + 14) P dd) y 26 = nI P from by rw [mm_I_sI, if_neg (by omega)]; exact hP]
      refine wa_aload_n dX12_port_54 rfl rfl ?_
      refine wa_getI (q := (RX12, TX12, 50)) (ci := 12) (k := 27) dX12_port_55 rfl (by decide) wf_X12_239 hY.1 rfl ?_
      rw [show mm_I (mm_sI M0 (y + 14) P dd) y 27 = mm_I M0 y 27 from by rw [mm_I_sI, if_neg (by omega)]]
      refine wa_iastN dX12_port_58 (md_s29 hY) (have h8 : P ≠ 8 := fun q => hT27 (by rw [q]; rfl); by omega) (by decide) ?_
      refine wa_iconst (v := 0) dX12_port_59 (by decide) ?_
      refine wa_istore_n dX12_port_60 (by decide) rfl rfl ?_
      exact loop (have h8 : P ≠ 8 := fun q => hT27 (by rw [q]; rfl); by omega) ha hb T 0 rfl (by omega)
    · refine wa_aload_n dX12_port_30 rfl rfl ?_
      refine wa_iconst (v := 3) dX12_port_31 (by decide) ?_
      refine wa_callV (q := (RX12, TX12, 50)) (As := [.int 3]) dX12_port_32 lk_X12_233 rfl rfl hY.1 rfl rfl (Nat.le_of_ble_eq_true rfl) (Nat.le_of_eq (Nat.zero_add _)) (Nat.le_of_eq (Nat.zero_add _)) (k_X12_refused 3 hY ?_)
      exact wa_iret dX12_port_35 rfl (h3 ((nI_eq (by omega) (by decide)).mp (hF27 : nI P = nI 8)) ha hb)
  · refine wa_if_ne (tgt := 21) dX12_port_12 (by decide) (fun h9 => absurd h9 (by decide)) (fun _ => ?_)
    refine wa_aload_n dX12_port_15 rfl rfl ?_
    refine wa_iconst (v := 2) dX12_port_16 (by decide) ?_
    refine wa_callV (q := (RX12, TX12, 50)) (As := [.int 2]) dX12_port_17 lk_X12_233 rfl rfl hY.1 rfl rfl (Nat.le_of_ble_eq_true rfl) (Nat.le_of_eq (Nat.zero_add _)) (Nat.le_of_eq (Nat.zero_add _)) (k_X12_refused 2 hY ?_)
    exact wa_iret dX12_port_20 rfl (h2 ha)
end
