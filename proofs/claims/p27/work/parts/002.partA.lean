section
-- ===== PART A: goes FIRST, ahead of the names: the tables_p words, and 'selects' of the private methods out of them =====
noncomputable def lw_okq (q : MethodName × Nat) : Prop := (q.1.cls ≠ "java/lang/invoke/MethodHandle" ∧ q.1.cls ≠ "java/lang/invoke/VarHandle") ∧ Cond.instantiable q.1.cls q.2 ∈ tables_1 ∧ Cond.privateMethod q.1 ∈ tables_1 ∧ Cond.instanceMethod q.1 ∈ tables_1
theorem lw_p0 : lw_okq (⟨"DeadUnderstudies", "refuse", "(I)I"⟩, 20) := ⟨⟨by decide +kernel, by decide +kernel⟩, List.mem_of_getElem? (i := 23) (by decide +kernel), List.mem_of_getElem? (i := 576) (by decide +kernel), List.mem_of_getElem? (i := 577) (by decide +kernel)⟩
theorem lw_p1 : lw_okq (⟨"DeadUnderstudies", "accept", "(I)I"⟩, 20) := ⟨⟨by decide +kernel, by decide +kernel⟩, List.mem_of_getElem? (i := 23) (by decide +kernel), List.mem_of_getElem? (i := 585) (by decide +kernel), List.mem_of_getElem? (i := 586) (by decide +kernel)⟩
theorem lw_p2 : lw_okq (⟨"DeadUnderstudies", "putBytes", "(I)V"⟩, 20) := ⟨⟨by decide +kernel, by decide +kernel⟩, List.mem_of_getElem? (i := 23) (by decide +kernel), List.mem_of_getElem? (i := 691) (by decide +kernel), List.mem_of_getElem? (i := 692) (by decide +kernel)⟩
theorem lw_p3 : lw_okq (⟨"DeadUnderstudies", "takeRuleAt", "(ILDeadUnderstudies$Script;)Z"⟩, 20) := ⟨⟨by decide +kernel, by decide +kernel⟩, List.mem_of_getElem? (i := 23) (by decide +kernel), List.mem_of_getElem? (i := 703) (by decide +kernel), List.mem_of_getElem? (i := 704) (by decide +kernel)⟩
theorem lw_p4 : lw_okq (⟨"DeadUnderstudies$Reader", "advance", "()V"⟩, 13) := ⟨⟨by decide +kernel, by decide +kernel⟩, List.mem_of_getElem? (i := 243) (by decide +kernel), List.mem_of_getElem? (i := 726) (by decide +kernel), List.mem_of_getElem? (i := 727) (by decide +kernel)⟩
theorem lw_p5 : lw_okq (⟨"DeadUnderstudies$Reader", "isLetter", "(I)Z"⟩, 13) := ⟨⟨by decide +kernel, by decide +kernel⟩, List.mem_of_getElem? (i := 243) (by decide +kernel), List.mem_of_getElem? (i := 730) (by decide +kernel), List.mem_of_getElem? (i := 731) (by decide +kernel)⟩
theorem lw_p6 : lw_okq (⟨"DeadUnderstudies$Reader", "isDigit", "(I)Z"⟩, 13) := ⟨⟨by decide +kernel, by decide +kernel⟩, List.mem_of_getElem? (i := 243) (by decide +kernel), List.mem_of_getElem? (i := 734) (by decide +kernel), List.mem_of_getElem? (i := 735) (by decide +kernel)⟩
theorem lw_p7 : lw_okq (⟨"DeadUnderstudies$Reader", "readPlayClause", "()Z"⟩, 13) := ⟨⟨by decide +kernel, by decide +kernel⟩, List.mem_of_getElem? (i := 243) (by decide +kernel), List.mem_of_getElem? (i := 738) (by decide +kernel), List.mem_of_getElem? (i := 739) (by decide +kernel)⟩
theorem lw_p8 : lw_okq (⟨"DeadUnderstudies$Reader", "takeWord", "(Ljava/lang/String;)Z"⟩, 13) := ⟨⟨by decide +kernel, by decide +kernel⟩, List.mem_of_getElem? (i := 243) (by decide +kernel), List.mem_of_getElem? (i := 743) (by decide +kernel), List.mem_of_getElem? (i := 744) (by decide +kernel)⟩
theorem lw_p9 : lw_okq (⟨"DeadUnderstudies$Reader", "isWord", "(Ljava/lang/String;)Z"⟩, 13) := ⟨⟨by decide +kernel, by decide +kernel⟩, List.mem_of_getElem? (i := 243) (by decide +kernel), List.mem_of_getElem? (i := 747) (by decide +kernel), List.mem_of_getElem? (i := 748) (by decide +kernel)⟩
theorem lw_p10 : lw_okq (⟨"DeadUnderstudies$Reader", "fail", "()Z"⟩, 13) := ⟨⟨by decide +kernel, by decide +kernel⟩, List.mem_of_getElem? (i := 243) (by decide +kernel), List.mem_of_getElem? (i := 799) (by decide +kernel), List.mem_of_getElem? (i := 800) (by decide +kernel)⟩
theorem lw_p11 : lw_okq (⟨"DeadUnderstudies$Reader", "placeHere", "()I"⟩, 13) := ⟨⟨by decide +kernel, by decide +kernel⟩, List.mem_of_getElem? (i := 243) (by decide +kernel), List.mem_of_getElem? (i := 803) (by decide +kernel), List.mem_of_getElem? (i := 804) (by decide +kernel)⟩
theorem lw_p12 : lw_okq (⟨"DeadUnderstudies$Reader", "numberHere", "()I"⟩, 13) := ⟨⟨by decide +kernel, by decide +kernel⟩, List.mem_of_getElem? (i := 243) (by decide +kernel), List.mem_of_getElem? (i := 808) (by decide +kernel), List.mem_of_getElem? (i := 809) (by decide +kernel)⟩
theorem lw_p13 : lw_okq (⟨"DeadUnderstudies$Reader", "readExpression", "([II)Z"⟩, 13) := ⟨⟨by decide +kernel, by decide +kernel⟩, List.mem_of_getElem? (i := 243) (by decide +kernel), List.mem_of_getElem? (i := 819) (by decide +kernel), List.mem_of_getElem? (i := 820) (by decide +kernel)⟩
theorem lw_p14 : lw_okq (⟨"DeadUnderstudies$Reader", "setStage", "(I)V"⟩, 13) := ⟨⟨by decide +kernel, by decide +kernel⟩, List.mem_of_getElem? (i := 243) (by decide +kernel), List.mem_of_getElem? (i := 827) (by decide +kernel), List.mem_of_getElem? (i := 828) (by decide +kernel)⟩
theorem lw_p15 : lw_okq (⟨"DeadUnderstudies$Reader", "isPart", "()Z"⟩, 13) := ⟨⟨by decide +kernel, by decide +kernel⟩, List.mem_of_getElem? (i := 243) (by decide +kernel), List.mem_of_getElem? (i := 831) (by decide +kernel), List.mem_of_getElem? (i := 832) (by decide +kernel)⟩
noncomputable def lw_privs_1 : List (MethodName × Nat) := [(⟨"DeadUnderstudies", "refuse", "(I)I"⟩, 20), (⟨"DeadUnderstudies", "accept", "(I)I"⟩, 20), (⟨"DeadUnderstudies", "putBytes", "(I)V"⟩, 20), (⟨"DeadUnderstudies", "takeRuleAt", "(ILDeadUnderstudies$Script;)Z"⟩, 20), (⟨"DeadUnderstudies$Reader", "advance", "()V"⟩, 13), (⟨"DeadUnderstudies$Reader", "isLetter", "(I)Z"⟩, 13), (⟨"DeadUnderstudies$Reader", "isDigit", "(I)Z"⟩, 13), (⟨"DeadUnderstudies$Reader", "readPlayClause", "()Z"⟩, 13), (⟨"DeadUnderstudies$Reader", "takeWord", "(Ljava/lang/String;)Z"⟩, 13), (⟨"DeadUnderstudies$Reader", "isWord", "(Ljava/lang/String;)Z"⟩, 13), (⟨"DeadUnderstudies$Reader", "fail", "()Z"⟩, 13), (⟨"DeadUnderstudies$Reader", "placeHere", "()I"⟩, 13), (⟨"DeadUnderstudies$Reader", "numberHere", "()I"⟩, 13), (⟨"DeadUnderstudies$Reader", "readExpression", "([II)Z"⟩, 13), (⟨"DeadUnderstudies$Reader", "setStage", "(I)V"⟩, 13), (⟨"DeadUnderstudies$Reader", "isPart", "()Z"⟩, 13)]
theorem lw_r1 : ∀ q ∈ lw_privs_1, lw_okq q := List.forall_mem_cons.mpr ⟨lw_p0, List.forall_mem_cons.mpr ⟨lw_p1, List.forall_mem_cons.mpr ⟨lw_p2, List.forall_mem_cons.mpr ⟨lw_p3, List.forall_mem_cons.mpr ⟨lw_p4, List.forall_mem_cons.mpr ⟨lw_p5, List.forall_mem_cons.mpr ⟨lw_p6, List.forall_mem_cons.mpr ⟨lw_p7, List.forall_mem_cons.mpr ⟨lw_p8, List.forall_mem_cons.mpr ⟨lw_p9, List.forall_mem_cons.mpr ⟨lw_p10, List.forall_mem_cons.mpr ⟨lw_p11, List.forall_mem_cons.mpr ⟨lw_p12, List.forall_mem_cons.mpr ⟨lw_p13, List.forall_mem_cons.mpr ⟨lw_p14, List.forall_mem_cons.mpr ⟨lw_p15, fun _ h => absurd h List.not_mem_nil⟩⟩⟩⟩⟩⟩⟩⟩⟩⟩⟩⟩⟩⟩⟩⟩
theorem lw_p16 : lw_okq (⟨"DeadUnderstudies$Reader", "nameHere", "()I"⟩, 13) := ⟨⟨by decide +kernel, by decide +kernel⟩, List.mem_of_getElem? (i := 243) (by decide +kernel), List.mem_of_getElem? (i := 835) (by decide +kernel), List.mem_of_getElem? (i := 836) (by decide +kernel)⟩
theorem lw_p17 : lw_okq (⟨"DeadUnderstudies$Reader", "readPart", "()Z"⟩, 13) := ⟨⟨by decide +kernel, by decide +kernel⟩, List.mem_of_getElem? (i := 243) (by decide +kernel), List.mem_of_getElem? (i := 851) (by decide +kernel), List.mem_of_getElem? (i := 852) (by decide +kernel)⟩
theorem lw_p18 : lw_okq (⟨"DeadUnderstudies$Reader", "openSum", "()V"⟩, 13) := ⟨⟨by decide +kernel, by decide +kernel⟩, List.mem_of_getElem? (i := 243) (by decide +kernel), List.mem_of_getElem? (i := 859) (by decide +kernel), List.mem_of_getElem? (i := 860) (by decide +kernel)⟩
theorem lw_p19 : lw_okq (⟨"DeadUnderstudies$Reader", "stageHere", "()I"⟩, 13) := ⟨⟨by decide +kernel, by decide +kernel⟩, List.mem_of_getElem? (i := 243) (by decide +kernel), List.mem_of_getElem? (i := 863) (by decide +kernel), List.mem_of_getElem? (i := 864) (by decide +kernel)⟩
theorem lw_p20 : lw_okq (⟨"DeadUnderstudies$Reader", "readOpening", "()Z"⟩, 13) := ⟨⟨by decide +kernel, by decide +kernel⟩, List.mem_of_getElem? (i := 243) (by decide +kernel), List.mem_of_getElem? (i := 867) (by decide +kernel), List.mem_of_getElem? (i := 868) (by decide +kernel)⟩
theorem lw_p21 : lw_okq (⟨"DeadUnderstudies$Reader", "isSign", "(C)Z"⟩, 13) := ⟨⟨by decide +kernel, by decide +kernel⟩, List.mem_of_getElem? (i := 243) (by decide +kernel), List.mem_of_getElem? (i := 871) (by decide +kernel), List.mem_of_getElem? (i := 872) (by decide +kernel)⟩
theorem lw_p22 : lw_okq (⟨"DeadUnderstudies$Reader", "push", "(II)V"⟩, 13) := ⟨⟨by decide +kernel, by decide +kernel⟩, List.mem_of_getElem? (i := 243) (by decide +kernel), List.mem_of_getElem? (i := 876) (by decide +kernel), List.mem_of_getElem? (i := 877) (by decide +kernel)⟩
theorem lw_p23 : lw_okq (⟨"DeadUnderstudies$Reader", "isClosing", "()Z"⟩, 13) := ⟨⟨by decide +kernel, by decide +kernel⟩, List.mem_of_getElem? (i := 243) (by decide +kernel), List.mem_of_getElem? (i := 880) (by decide +kernel), List.mem_of_getElem? (i := 881) (by decide +kernel)⟩
theorem lw_p24 : lw_okq (⟨"DeadUnderstudies$Reader", "isWholeTest", "()Z"⟩, 13) := ⟨⟨by decide +kernel, by decide +kernel⟩, List.mem_of_getElem? (i := 243) (by decide +kernel), List.mem_of_getElem? (i := 884) (by decide +kernel), List.mem_of_getElem? (i := 885) (by decide +kernel)⟩
theorem lw_p25 : lw_okq (⟨"DeadUnderstudies$Reader", "readClosing", "()V"⟩, 13) := ⟨⟨by decide +kernel, by decide +kernel⟩, List.mem_of_getElem? (i := 243) (by decide +kernel), List.mem_of_getElem? (i := 888) (by decide +kernel), List.mem_of_getElem? (i := 889) (by decide +kernel)⟩
theorem lw_p26 : lw_okq (⟨"DeadUnderstudies$Reader", "reduce", "(I)V"⟩, 13) := ⟨⟨by decide +kernel, by decide +kernel⟩, List.mem_of_getElem? (i := 243) (by decide +kernel), List.mem_of_getElem? (i := 892) (by decide +kernel), List.mem_of_getElem? (i := 893) (by decide +kernel)⟩
theorem lw_p27 : lw_okq (⟨"DeadUnderstudies$Reader", "operatorHere", "()I"⟩, 13) := ⟨⟨by decide +kernel, by decide +kernel⟩, List.mem_of_getElem? (i := 243) (by decide +kernel), List.mem_of_getElem? (i := 903) (by decide +kernel), List.mem_of_getElem? (i := 904) (by decide +kernel)⟩
theorem lw_p28 : lw_okq (⟨"DeadUnderstudies$Reader", "closeExpression", "()Z"⟩, 13) := ⟨⟨by decide +kernel, by decide +kernel⟩, List.mem_of_getElem? (i := 243) (by decide +kernel), List.mem_of_getElem? (i := 909) (by decide +kernel), List.mem_of_getElem? (i := 910) (by decide +kernel)⟩
theorem lw_p29 : lw_okq (⟨"DeadUnderstudies$Reader", "readOperator", "(I)V"⟩, 13) := ⟨⟨by decide +kernel, by decide +kernel⟩, List.mem_of_getElem? (i := 243) (by decide +kernel), List.mem_of_getElem? (i := 913) (by decide +kernel), List.mem_of_getElem? (i := 914) (by decide +kernel)⟩
theorem lw_p30 : lw_okq (⟨"DeadUnderstudies$Reader", "readLawClause", "()Z"⟩, 13) := ⟨⟨by decide +kernel, by decide +kernel⟩, List.mem_of_getElem? (i := 243) (by decide +kernel), List.mem_of_getElem? (i := 918) (by decide +kernel), List.mem_of_getElem? (i := 919) (by decide +kernel)⟩
theorem lw_p31 : lw_okq (⟨"DeadUnderstudies$Reader", "readIf", "()Z"⟩, 13) := ⟨⟨by decide +kernel, by decide +kernel⟩, List.mem_of_getElem? (i := 243) (by decide +kernel), List.mem_of_getElem? (i := 925) (by decide +kernel), List.mem_of_getElem? (i := 926) (by decide +kernel)⟩
noncomputable def lw_privs_2 : List (MethodName × Nat) := [(⟨"DeadUnderstudies$Reader", "nameHere", "()I"⟩, 13), (⟨"DeadUnderstudies$Reader", "readPart", "()Z"⟩, 13), (⟨"DeadUnderstudies$Reader", "openSum", "()V"⟩, 13), (⟨"DeadUnderstudies$Reader", "stageHere", "()I"⟩, 13), (⟨"DeadUnderstudies$Reader", "readOpening", "()Z"⟩, 13), (⟨"DeadUnderstudies$Reader", "isSign", "(C)Z"⟩, 13), (⟨"DeadUnderstudies$Reader", "push", "(II)V"⟩, 13), (⟨"DeadUnderstudies$Reader", "isClosing", "()Z"⟩, 13), (⟨"DeadUnderstudies$Reader", "isWholeTest", "()Z"⟩, 13), (⟨"DeadUnderstudies$Reader", "readClosing", "()V"⟩, 13), (⟨"DeadUnderstudies$Reader", "reduce", "(I)V"⟩, 13), (⟨"DeadUnderstudies$Reader", "operatorHere", "()I"⟩, 13), (⟨"DeadUnderstudies$Reader", "closeExpression", "()Z"⟩, 13), (⟨"DeadUnderstudies$Reader", "readOperator", "(I)V"⟩, 13), (⟨"DeadUnderstudies$Reader", "readLawClause", "()Z"⟩, 13), (⟨"DeadUnderstudies$Reader", "readIf", "()Z"⟩, 13)]
theorem lw_r2 : ∀ q ∈ lw_privs_2, lw_okq q := List.forall_mem_cons.mpr ⟨lw_p16, List.forall_mem_cons.mpr ⟨lw_p17, List.forall_mem_cons.mpr ⟨lw_p18, List.forall_mem_cons.mpr ⟨lw_p19, List.forall_mem_cons.mpr ⟨lw_p20, List.forall_mem_cons.mpr ⟨lw_p21, List.forall_mem_cons.mpr ⟨lw_p22, List.forall_mem_cons.mpr ⟨lw_p23, List.forall_mem_cons.mpr ⟨lw_p24, List.forall_mem_cons.mpr ⟨lw_p25, List.forall_mem_cons.mpr ⟨lw_p26, List.forall_mem_cons.mpr ⟨lw_p27, List.forall_mem_cons.mpr ⟨lw_p28, List.forall_mem_cons.mpr ⟨lw_p29, List.forall_mem_cons.mpr ⟨lw_p30, List.forall_mem_cons.mpr ⟨lw_p31, fun _ h => absurd h List.not_mem_nil⟩⟩⟩⟩⟩⟩⟩⟩⟩⟩⟩⟩⟩⟩⟩⟩
theorem lw_p32 : lw_okq (⟨"DeadUnderstudies$Town", "performAt", "(LDeadUnderstudies$Program;IIII)Z"⟩, 19) := ⟨⟨by decide +kernel, by decide +kernel⟩, List.mem_of_getElem? (i := 31) (by decide +kernel), List.mem_of_getElem? (i := 938) (by decide +kernel), List.mem_of_getElem? (i := 939) (by decide +kernel)⟩
theorem lw_p33 : lw_okq (⟨"DeadUnderstudies$Town", "hearClause", "(LDeadUnderstudies$Program;I)V"⟩, 19) := ⟨⟨by decide +kernel, by decide +kernel⟩, List.mem_of_getElem? (i := 31) (by decide +kernel), List.mem_of_getElem? (i := 1011) (by decide +kernel), List.mem_of_getElem? (i := 1012) (by decide +kernel)⟩
theorem lw_p34 : lw_okq (⟨"DeadUnderstudies$Route", "join", "(III)V"⟩, 7) := ⟨⟨by decide +kernel, by decide +kernel⟩, List.mem_of_getElem? (i := 295) (by decide +kernel), List.mem_of_getElem? (i := 1120) (by decide +kernel), List.mem_of_getElem? (i := 1121) (by decide +kernel)⟩
theorem lw_p35 : lw_okq (⟨"DeadUnderstudies$Route", "trace", "(II)V"⟩, 7) := ⟨⟨by decide +kernel, by decide +kernel⟩, List.mem_of_getElem? (i := 295) (by decide +kernel), List.mem_of_getElem? (i := 1125) (by decide +kernel), List.mem_of_getElem? (i := 1126) (by decide +kernel)⟩
theorem lw_p36 : lw_okq (⟨"DeadUnderstudies", "seatDuet", "(III)Z"⟩, 20) := ⟨⟨by decide +kernel, by decide +kernel⟩, List.mem_of_getElem? (i := 23) (by decide +kernel), List.mem_of_getElem? (i := 1142) (by decide +kernel), List.mem_of_getElem? (i := 1143) (by decide +kernel)⟩
theorem lw_p37 : lw_okq (⟨"DeadUnderstudies$Duet", "start", "(I)V"⟩, 15) := ⟨⟨by decide +kernel, by decide +kernel⟩, List.mem_of_getElem? (i := 323) (by decide +kernel), List.mem_of_getElem? (i := 1155) (by decide +kernel), List.mem_of_getElem? (i := 1156) (by decide +kernel)⟩
theorem lw_p38 : lw_okq (⟨"DeadUnderstudies$Duet", "speak", "()I"⟩, 15) := ⟨⟨by decide +kernel, by decide +kernel⟩, List.mem_of_getElem? (i := 323) (by decide +kernel), List.mem_of_getElem? (i := 1159) (by decide +kernel), List.mem_of_getElem? (i := 1160) (by decide +kernel)⟩
theorem lw_p39 : lw_okq (⟨"DeadUnderstudies$Duet", "speaker", "()LDeadUnderstudies$Script;"⟩, 15) := ⟨⟨by decide +kernel, by decide +kernel⟩, List.mem_of_getElem? (i := 323) (by decide +kernel), List.mem_of_getElem? (i := 1163) (by decide +kernel), List.mem_of_getElem? (i := 1164) (by decide +kernel)⟩
theorem lw_p40 : lw_okq (⟨"DeadUnderstudies$Duet", "speakerState", "()I"⟩, 15) := ⟨⟨by decide +kernel, by decide +kernel⟩, List.mem_of_getElem? (i := 323) (by decide +kernel), List.mem_of_getElem? (i := 1167) (by decide +kernel), List.mem_of_getElem? (i := 1168) (by decide +kernel)⟩
theorem lw_p41 : lw_okq (⟨"DeadUnderstudies$Duet", "place", "()I"⟩, 15) := ⟨⟨by decide +kernel, by decide +kernel⟩, List.mem_of_getElem? (i := 323) (by decide +kernel), List.mem_of_getElem? (i := 1177) (by decide +kernel), List.mem_of_getElem? (i := 1178) (by decide +kernel)⟩
theorem lw_p42 : lw_okq (⟨"DeadUnderstudies$Duet", "addMend", "(II)V"⟩, 15) := ⟨⟨by decide +kernel, by decide +kernel⟩, List.mem_of_getElem? (i := 323) (by decide +kernel), List.mem_of_getElem? (i := 1191) (by decide +kernel), List.mem_of_getElem? (i := 1192) (by decide +kernel)⟩
theorem lw_p43 : lw_okq (⟨"DeadUnderstudies", "mostVotes", "()I"⟩, 20) := ⟨⟨by decide +kernel, by decide +kernel⟩, List.mem_of_getElem? (i := 23) (by decide +kernel), List.mem_of_getElem? (i := 1205) (by decide +kernel), List.mem_of_getElem? (i := 1206) (by decide +kernel)⟩
theorem lw_p44 : lw_okq (⟨"DeadUnderstudies", "firstWordWith", "(I)I"⟩, 20) := ⟨⟨by decide +kernel, by decide +kernel⟩, List.mem_of_getElem? (i := 23) (by decide +kernel), List.mem_of_getElem? (i := 1210) (by decide +kernel), List.mem_of_getElem? (i := 1211) (by decide +kernel)⟩
theorem lw_p45 : lw_okq (⟨"DeadUnderstudies", "wordsWith", "(I)I"⟩, 20) := ⟨⟨by decide +kernel, by decide +kernel⟩, List.mem_of_getElem? (i := 23) (by decide +kernel), List.mem_of_getElem? (i := 1230) (by decide +kernel), List.mem_of_getElem? (i := 1231) (by decide +kernel)⟩
theorem lw_p46 : lw_okq (⟨"DeadUnderstudies", "allVotes", "()I"⟩, 20) := ⟨⟨by decide +kernel, by decide +kernel⟩, List.mem_of_getElem? (i := 23) (by decide +kernel), List.mem_of_getElem? (i := 1238) (by decide +kernel), List.mem_of_getElem? (i := 1239) (by decide +kernel)⟩
theorem lw_p47 : lw_okq (⟨"DeadUnderstudies$Chain", "join", "(II)V"⟩, 9) := ⟨⟨by decide +kernel, by decide +kernel⟩, List.mem_of_getElem? (i := 432) (by decide +kernel), List.mem_of_getElem? (i := 1271) (by decide +kernel), List.mem_of_getElem? (i := 1272) (by decide +kernel)⟩
noncomputable def lw_privs_3 : List (MethodName × Nat) := [(⟨"DeadUnderstudies$Town", "performAt", "(LDeadUnderstudies$Program;IIII)Z"⟩, 19), (⟨"DeadUnderstudies$Town", "hearClause", "(LDeadUnderstudies$Program;I)V"⟩, 19), (⟨"DeadUnderstudies$Route", "join", "(III)V"⟩, 7), (⟨"DeadUnderstudies$Route", "trace", "(II)V"⟩, 7), (⟨"DeadUnderstudies", "seatDuet", "(III)Z"⟩, 20), (⟨"DeadUnderstudies$Duet", "start", "(I)V"⟩, 15), (⟨"DeadUnderstudies$Duet", "speak", "()I"⟩, 15), (⟨"DeadUnderstudies$Duet", "speaker", "()LDeadUnderstudies$Script;"⟩, 15), (⟨"DeadUnderstudies$Duet", "speakerState", "()I"⟩, 15), (⟨"DeadUnderstudies$Duet", "place", "()I"⟩, 15), (⟨"DeadUnderstudies$Duet", "addMend", "(II)V"⟩, 15), (⟨"DeadUnderstudies", "mostVotes", "()I"⟩, 20), (⟨"DeadUnderstudies", "firstWordWith", "(I)I"⟩, 20), (⟨"DeadUnderstudies", "wordsWith", "(I)I"⟩, 20), (⟨"DeadUnderstudies", "allVotes", "()I"⟩, 20), (⟨"DeadUnderstudies$Chain", "join", "(II)V"⟩, 9)]
theorem lw_r3 : ∀ q ∈ lw_privs_3, lw_okq q := List.forall_mem_cons.mpr ⟨lw_p32, List.forall_mem_cons.mpr ⟨lw_p33, List.forall_mem_cons.mpr ⟨lw_p34, List.forall_mem_cons.mpr ⟨lw_p35, List.forall_mem_cons.mpr ⟨lw_p36, List.forall_mem_cons.mpr ⟨lw_p37, List.forall_mem_cons.mpr ⟨lw_p38, List.forall_mem_cons.mpr ⟨lw_p39, List.forall_mem_cons.mpr ⟨lw_p40, List.forall_mem_cons.mpr ⟨lw_p41, List.forall_mem_cons.mpr ⟨lw_p42, List.forall_mem_cons.mpr ⟨lw_p43, List.forall_mem_cons.mpr ⟨lw_p44, List.forall_mem_cons.mpr ⟨lw_p45, List.forall_mem_cons.mpr ⟨lw_p46, List.forall_mem_cons.mpr ⟨lw_p47, fun _ h => absurd h List.not_mem_nil⟩⟩⟩⟩⟩⟩⟩⟩⟩⟩⟩⟩⟩⟩⟩⟩
theorem lw_p48 : lw_okq (⟨"DeadUnderstudies$Chain", "trace", "(I)V"⟩, 9) := ⟨⟨by decide +kernel, by decide +kernel⟩, List.mem_of_getElem? (i := 432) (by decide +kernel), List.mem_of_getElem? (i := 1276) (by decide +kernel), List.mem_of_getElem? (i := 1277) (by decide +kernel)⟩
theorem lw_p49 : lw_okq (⟨"DeadUnderstudies$Cast", "markFits", "()V"⟩, 10) := ⟨⟨by decide +kernel, by decide +kernel⟩, List.mem_of_getElem? (i := 470) (by decide +kernel), List.mem_of_getElem? (i := 1299) (by decide +kernel), List.mem_of_getElem? (i := 1300) (by decide +kernel)⟩
theorem lw_p50 : lw_okq (⟨"DeadUnderstudies$Cast", "countWays", "()V"⟩, 10) := ⟨⟨by decide +kernel, by decide +kernel⟩, List.mem_of_getElem? (i := 470) (by decide +kernel), List.mem_of_getElem? (i := 1303) (by decide +kernel), List.mem_of_getElem? (i := 1304) (by decide +kernel)⟩
theorem lw_p51 : lw_okq (⟨"DeadUnderstudies$Cast", "addWays", "(II)V"⟩, 10) := ⟨⟨by decide +kernel, by decide +kernel⟩, List.mem_of_getElem? (i := 470) (by decide +kernel), List.mem_of_getElem? (i := 1308) (by decide +kernel), List.mem_of_getElem? (i := 1309) (by decide +kernel)⟩
theorem lw_p52 : lw_okq (⟨"DeadUnderstudies$Cast", "findRow", "(II)Z"⟩, 10) := ⟨⟨by decide +kernel, by decide +kernel⟩, List.mem_of_getElem? (i := 470) (by decide +kernel), List.mem_of_getElem? (i := 1312) (by decide +kernel), List.mem_of_getElem? (i := 1313) (by decide +kernel)⟩
theorem lw_p53 : lw_okq (⟨"DeadUnderstudies$Cast", "findRowWith", "(III)Z"⟩, 10) := ⟨⟨by decide +kernel, by decide +kernel⟩, List.mem_of_getElem? (i := 470) (by decide +kernel), List.mem_of_getElem? (i := 1316) (by decide +kernel), List.mem_of_getElem? (i := 1317) (by decide +kernel)⟩
theorem lw_p54 : lw_okq (⟨"DeadUnderstudies$Least", "search", "(IIIZ)V"⟩, 14) := ⟨⟨by decide +kernel, by decide +kernel⟩, List.mem_of_getElem? (i := 383) (by decide +kernel), List.mem_of_getElem? (i := 1359) (by decide +kernel), List.mem_of_getElem? (i := 1360) (by decide +kernel)⟩
theorem lw_p55 : lw_okq (⟨"DeadUnderstudies$Least", "explore", "(III)V"⟩, 14) := ⟨⟨by decide +kernel, by decide +kernel⟩, List.mem_of_getElem? (i := 383) (by decide +kernel), List.mem_of_getElem? (i := 1365) (by decide +kernel), List.mem_of_getElem? (i := 1366) (by decide +kernel)⟩
theorem lw_p56 : lw_okq (⟨"DeadUnderstudies$Least", "wordsHere", "()I"⟩, 14) := ⟨⟨by decide +kernel, by decide +kernel⟩, List.mem_of_getElem? (i := 383) (by decide +kernel), List.mem_of_getElem? (i := 1369) (by decide +kernel), List.mem_of_getElem? (i := 1370) (by decide +kernel)⟩
theorem lw_p57 : lw_okq (⟨"DeadUnderstudies$Least", "stateBehindRow", "()I"⟩, 14) := ⟨⟨by decide +kernel, by decide +kernel⟩, List.mem_of_getElem? (i := 383) (by decide +kernel), List.mem_of_getElem? (i := 1373) (by decide +kernel), List.mem_of_getElem? (i := 1374) (by decide +kernel)⟩
theorem lw_p58 : lw_okq (⟨"DeadUnderstudies$Least", "wordsOf", "(I)I"⟩, 14) := ⟨⟨by decide +kernel, by decide +kernel⟩, List.mem_of_getElem? (i := 383) (by decide +kernel), List.mem_of_getElem? (i := 1380) (by decide +kernel), List.mem_of_getElem? (i := 1381) (by decide +kernel)⟩
theorem lw_p59 : lw_okq (⟨"DeadUnderstudies$Least", "goOn", "(III)V"⟩, 14) := ⟨⟨by decide +kernel, by decide +kernel⟩, List.mem_of_getElem? (i := 383) (by decide +kernel), List.mem_of_getElem? (i := 1384) (by decide +kernel), List.mem_of_getElem? (i := 1385) (by decide +kernel)⟩
theorem lw_p60 : lw_okq (⟨"DeadUnderstudies$Least", "endsRow", "(I)Z"⟩, 14) := ⟨⟨by decide +kernel, by decide +kernel⟩, List.mem_of_getElem? (i := 383) (by decide +kernel), List.mem_of_getElem? (i := 1388) (by decide +kernel), List.mem_of_getElem? (i := 1389) (by decide +kernel)⟩
theorem lw_p61 : lw_okq (⟨"DeadUnderstudies", "runCentury", "(III)V"⟩, 20) := ⟨⟨by decide +kernel, by decide +kernel⟩, List.mem_of_getElem? (i := 23) (by decide +kernel), List.mem_of_getElem? (i := 1410) (by decide +kernel), List.mem_of_getElem? (i := 1411) (by decide +kernel)⟩
theorem lw_p62 : lw_okq (⟨"DeadUnderstudies", "seedBehindLesson", "(II)I"⟩, 20) := ⟨⟨by decide +kernel, by decide +kernel⟩, List.mem_of_getElem? (i := 23) (by decide +kernel), List.mem_of_getElem? (i := 1419) (by decide +kernel), List.mem_of_getElem? (i := 1420) (by decide +kernel)⟩
theorem lw_p63 : lw_okq (⟨"DeadUnderstudies", "pupilTimesOf", "(I)I"⟩, 20) := ⟨⟨by decide +kernel, by decide +kernel⟩, List.mem_of_getElem? (i := 23) (by decide +kernel), List.mem_of_getElem? (i := 1436) (by decide +kernel), List.mem_of_getElem? (i := 1437) (by decide +kernel)⟩
noncomputable def lw_privs_4 : List (MethodName × Nat) := [(⟨"DeadUnderstudies$Chain", "trace", "(I)V"⟩, 9), (⟨"DeadUnderstudies$Cast", "markFits", "()V"⟩, 10), (⟨"DeadUnderstudies$Cast", "countWays", "()V"⟩, 10), (⟨"DeadUnderstudies$Cast", "addWays", "(II)V"⟩, 10), (⟨"DeadUnderstudies$Cast", "findRow", "(II)Z"⟩, 10), (⟨"DeadUnderstudies$Cast", "findRowWith", "(III)Z"⟩, 10), (⟨"DeadUnderstudies$Least", "search", "(IIIZ)V"⟩, 14), (⟨"DeadUnderstudies$Least", "explore", "(III)V"⟩, 14), (⟨"DeadUnderstudies$Least", "wordsHere", "()I"⟩, 14), (⟨"DeadUnderstudies$Least", "stateBehindRow", "()I"⟩, 14), (⟨"DeadUnderstudies$Least", "wordsOf", "(I)I"⟩, 14), (⟨"DeadUnderstudies$Least", "goOn", "(III)V"⟩, 14), (⟨"DeadUnderstudies$Least", "endsRow", "(I)Z"⟩, 14), (⟨"DeadUnderstudies", "runCentury", "(III)V"⟩, 20), (⟨"DeadUnderstudies", "seedBehindLesson", "(II)I"⟩, 20), (⟨"DeadUnderstudies", "pupilTimesOf", "(I)I"⟩, 20)]
theorem lw_r4 : ∀ q ∈ lw_privs_4, lw_okq q := List.forall_mem_cons.mpr ⟨lw_p48, List.forall_mem_cons.mpr ⟨lw_p49, List.forall_mem_cons.mpr ⟨lw_p50, List.forall_mem_cons.mpr ⟨lw_p51, List.forall_mem_cons.mpr ⟨lw_p52, List.forall_mem_cons.mpr ⟨lw_p53, List.forall_mem_cons.mpr ⟨lw_p54, List.forall_mem_cons.mpr ⟨lw_p55, List.forall_mem_cons.mpr ⟨lw_p56, List.forall_mem_cons.mpr ⟨lw_p57, List.forall_mem_cons.mpr ⟨lw_p58, List.forall_mem_cons.mpr ⟨lw_p59, List.forall_mem_cons.mpr ⟨lw_p60, List.forall_mem_cons.mpr ⟨lw_p61, List.forall_mem_cons.mpr ⟨lw_p62, List.forall_mem_cons.mpr ⟨lw_p63, fun _ h => absurd h List.not_mem_nil⟩⟩⟩⟩⟩⟩⟩⟩⟩⟩⟩⟩⟩⟩⟩⟩
theorem lw_p64 : lw_okq (⟨"DeadUnderstudiesModel", "tell", "(I)I"⟩, 76) := ⟨⟨by decide +kernel, by decide +kernel⟩, List.mem_of_getElem? (i := 1472) (by decide +kernel), List.mem_of_getElem? (i := 1726) (by decide +kernel), List.mem_of_getElem? (i := 1727) (by decide +kernel)⟩
theorem lw_p65 : lw_okq (⟨"DeadUnderstudiesModel", "isPart", "(I)Z"⟩, 76) := ⟨⟨by decide +kernel, by decide +kernel⟩, List.mem_of_getElem? (i := 1472) (by decide +kernel), List.mem_of_getElem? (i := 1752) (by decide +kernel), List.mem_of_getElem? (i := 1753) (by decide +kernel)⟩
theorem lw_p66 : lw_okq (⟨"DeadUnderstudiesModel", "changeRule", "(III)I"⟩, 76) := ⟨⟨by decide +kernel, by decide +kernel⟩, List.mem_of_getElem? (i := 1472) (by decide +kernel), List.mem_of_getElem? (i := 1756) (by decide +kernel), List.mem_of_getElem? (i := 1757) (by decide +kernel)⟩
theorem lw_p67 : lw_okq (⟨"DeadUnderstudiesModel", "was", "(I)I"⟩, 76) := ⟨⟨by decide +kernel, by decide +kernel⟩, List.mem_of_getElem? (i := 1472) (by decide +kernel), List.mem_of_getElem? (i := 1763) (by decide +kernel), List.mem_of_getElem? (i := 1764) (by decide +kernel)⟩
theorem lw_p68 : lw_okq (⟨"DeadUnderstudiesModel", "told", "(I)I"⟩, 76) := ⟨⟨by decide +kernel, by decide +kernel⟩, List.mem_of_getElem? (i := 1472) (by decide +kernel), List.mem_of_getElem? (i := 1786) (by decide +kernel), List.mem_of_getElem? (i := 1787) (by decide +kernel)⟩
theorem lw_p69 : lw_okq (⟨"DeadUnderstudiesModel", "isPerson", "(I)Z"⟩, 76) := ⟨⟨by decide +kernel, by decide +kernel⟩, List.mem_of_getElem? (i := 1472) (by decide +kernel), List.mem_of_getElem? (i := 1800) (by decide +kernel), List.mem_of_getElem? (i := 1801) (by decide +kernel)⟩
theorem lw_p70 : lw_okq (⟨"DeadUnderstudiesModel", "born", "(I)I"⟩, 76) := ⟨⟨by decide +kernel, by decide +kernel⟩, List.mem_of_getElem? (i := 1472) (by decide +kernel), List.mem_of_getElem? (i := 1804) (by decide +kernel), List.mem_of_getElem? (i := 1805) (by decide +kernel)⟩
theorem lw_p71 : lw_okq (⟨"DeadUnderstudiesModel", "isAlive", "(I)Z"⟩, 76) := ⟨⟨by decide +kernel, by decide +kernel⟩, List.mem_of_getElem? (i := 1472) (by decide +kernel), List.mem_of_getElem? (i := 1812) (by decide +kernel), List.mem_of_getElem? (i := 1813) (by decide +kernel)⟩
theorem lw_p72 : lw_okq (⟨"DeadUnderstudiesModel", "dead", "(I)I"⟩, 76) := ⟨⟨by decide +kernel, by decide +kernel⟩, List.mem_of_getElem? (i := 1472) (by decide +kernel), List.mem_of_getElem? (i := 1816) (by decide +kernel), List.mem_of_getElem? (i := 1817) (by decide +kernel)⟩
theorem lw_p73 : lw_okq (⟨"DeadUnderstudiesModel", "four", "(I)V"⟩, 76) := ⟨⟨by decide +kernel, by decide +kernel⟩, List.mem_of_getElem? (i := 1472) (by decide +kernel), List.mem_of_getElem? (i := 1837) (by decide +kernel), List.mem_of_getElem? (i := 1838) (by decide +kernel)⟩
theorem lw_p74 : lw_okq (⟨"DeadUnderstudiesModel", "beginText", "(Z)V"⟩, 76) := ⟨⟨by decide +kernel, by decide +kernel⟩, List.mem_of_getElem? (i := 1472) (by decide +kernel), List.mem_of_getElem? (i := 1853) (by decide +kernel), List.mem_of_getElem? (i := 1854) (by decide +kernel)⟩
theorem lw_p75 : lw_okq (⟨"DeadUnderstudiesModel", "begin", "()V"⟩, 76) := ⟨⟨by decide +kernel, by decide +kernel⟩, List.mem_of_getElem? (i := 1472) (by decide +kernel), List.mem_of_getElem? (i := 1857) (by decide +kernel), List.mem_of_getElem? (i := 1858) (by decide +kernel)⟩
theorem lw_p76 : lw_okq (⟨"DeadUnderstudiesModel", "next", "()V"⟩, 76) := ⟨⟨by decide +kernel, by decide +kernel⟩, List.mem_of_getElem? (i := 1472) (by decide +kernel), List.mem_of_getElem? (i := 1861) (by decide +kernel), List.mem_of_getElem? (i := 1862) (by decide +kernel)⟩
theorem lw_p77 : lw_okq (⟨"DeadUnderstudiesModel", "readLaw", "()V"⟩, 76) := ⟨⟨by decide +kernel, by decide +kernel⟩, List.mem_of_getElem? (i := 1472) (by decide +kernel), List.mem_of_getElem? (i := 1877) (by decide +kernel), List.mem_of_getElem? (i := 1878) (by decide +kernel)⟩
theorem lw_p78 : lw_okq (⟨"DeadUnderstudiesModel", "isWord", "(J)Z"⟩, 76) := ⟨⟨by decide +kernel, by decide +kernel⟩, List.mem_of_getElem? (i := 1472) (by decide +kernel), List.mem_of_getElem? (i := 1882) (by decide +kernel), List.mem_of_getElem? (i := 1883) (by decide +kernel)⟩
theorem lw_p79 : lw_okq (⟨"DeadUnderstudiesModel", "must", "(Z)V"⟩, 76) := ⟨⟨by decide +kernel, by decide +kernel⟩, List.mem_of_getElem? (i := 1472) (by decide +kernel), List.mem_of_getElem? (i := 1888) (by decide +kernel), List.mem_of_getElem? (i := 1889) (by decide +kernel)⟩
noncomputable def lw_privs_5 : List (MethodName × Nat) := [(⟨"DeadUnderstudiesModel", "tell", "(I)I"⟩, 76), (⟨"DeadUnderstudiesModel", "isPart", "(I)Z"⟩, 76), (⟨"DeadUnderstudiesModel", "changeRule", "(III)I"⟩, 76), (⟨"DeadUnderstudiesModel", "was", "(I)I"⟩, 76), (⟨"DeadUnderstudiesModel", "told", "(I)I"⟩, 76), (⟨"DeadUnderstudiesModel", "isPerson", "(I)Z"⟩, 76), (⟨"DeadUnderstudiesModel", "born", "(I)I"⟩, 76), (⟨"DeadUnderstudiesModel", "isAlive", "(I)Z"⟩, 76), (⟨"DeadUnderstudiesModel", "dead", "(I)I"⟩, 76), (⟨"DeadUnderstudiesModel", "four", "(I)V"⟩, 76), (⟨"DeadUnderstudiesModel", "beginText", "(Z)V"⟩, 76), (⟨"DeadUnderstudiesModel", "begin", "()V"⟩, 76), (⟨"DeadUnderstudiesModel", "next", "()V"⟩, 76), (⟨"DeadUnderstudiesModel", "readLaw", "()V"⟩, 76), (⟨"DeadUnderstudiesModel", "isWord", "(J)Z"⟩, 76), (⟨"DeadUnderstudiesModel", "must", "(Z)V"⟩, 76)]
theorem lw_r5 : ∀ q ∈ lw_privs_5, lw_okq q := List.forall_mem_cons.mpr ⟨lw_p64, List.forall_mem_cons.mpr ⟨lw_p65, List.forall_mem_cons.mpr ⟨lw_p66, List.forall_mem_cons.mpr ⟨lw_p67, List.forall_mem_cons.mpr ⟨lw_p68, List.forall_mem_cons.mpr ⟨lw_p69, List.forall_mem_cons.mpr ⟨lw_p70, List.forall_mem_cons.mpr ⟨lw_p71, List.forall_mem_cons.mpr ⟨lw_p72, List.forall_mem_cons.mpr ⟨lw_p73, List.forall_mem_cons.mpr ⟨lw_p74, List.forall_mem_cons.mpr ⟨lw_p75, List.forall_mem_cons.mpr ⟨lw_p76, List.forall_mem_cons.mpr ⟨lw_p77, List.forall_mem_cons.mpr ⟨lw_p78, List.forall_mem_cons.mpr ⟨lw_p79, fun _ h => absurd h List.not_mem_nil⟩⟩⟩⟩⟩⟩⟩⟩⟩⟩⟩⟩⟩⟩⟩⟩
theorem lw_p80 : lw_okq (⟨"DeadUnderstudiesModel", "readExpression", "(Z)V"⟩, 76) := ⟨⟨by decide +kernel, by decide +kernel⟩, List.mem_of_getElem? (i := 1472) (by decide +kernel), List.mem_of_getElem? (i := 1892) (by decide +kernel), List.mem_of_getElem? (i := 1893) (by decide +kernel)⟩
theorem lw_p81 : lw_okq (⟨"DeadUnderstudiesModel", "readPlain", "()I"⟩, 76) := ⟨⟨by decide +kernel, by decide +kernel⟩, List.mem_of_getElem? (i := 1472) (by decide +kernel), List.mem_of_getElem? (i := 1896) (by decide +kernel), List.mem_of_getElem? (i := 1897) (by decide +kernel)⟩
theorem lw_p82 : lw_okq (⟨"DeadUnderstudiesModel", "push", "(II)V"⟩, 76) := ⟨⟨by decide +kernel, by decide +kernel⟩, List.mem_of_getElem? (i := 1472) (by decide +kernel), List.mem_of_getElem? (i := 1901) (by decide +kernel), List.mem_of_getElem? (i := 1902) (by decide +kernel)⟩
theorem lw_p83 : lw_okq (⟨"DeadUnderstudiesModel", "isSign", "(I)Z"⟩, 76) := ⟨⟨by decide +kernel, by decide +kernel⟩, List.mem_of_getElem? (i := 1472) (by decide +kernel), List.mem_of_getElem? (i := 1905) (by decide +kernel), List.mem_of_getElem? (i := 1906) (by decide +kernel)⟩
theorem lw_p84 : lw_okq (⟨"DeadUnderstudiesModel", "openBracket", "(I)V"⟩, 76) := ⟨⟨by decide +kernel, by decide +kernel⟩, List.mem_of_getElem? (i := 1472) (by decide +kernel), List.mem_of_getElem? (i := 1909) (by decide +kernel), List.mem_of_getElem? (i := 1910) (by decide +kernel)⟩
theorem lw_p85 : lw_okq (⟨"DeadUnderstudiesModel", "readPart", "()I"⟩, 76) := ⟨⟨by decide +kernel, by decide +kernel⟩, List.mem_of_getElem? (i := 1472) (by decide +kernel), List.mem_of_getElem? (i := 1913) (by decide +kernel), List.mem_of_getElem? (i := 1914) (by decide +kernel)⟩
theorem lw_p86 : lw_okq (⟨"DeadUnderstudiesModel", "playPartAt", "()I"⟩, 76) := ⟨⟨by decide +kernel, by decide +kernel⟩, List.mem_of_getElem? (i := 1472) (by decide +kernel), List.mem_of_getElem? (i := 1917) (by decide +kernel), List.mem_of_getElem? (i := 1918) (by decide +kernel)⟩
theorem lw_p87 : lw_okq (⟨"DeadUnderstudiesModel", "partAt", "()I"⟩, 76) := ⟨⟨by decide +kernel, by decide +kernel⟩, List.mem_of_getElem? (i := 1472) (by decide +kernel), List.mem_of_getElem? (i := 1921) (by decide +kernel), List.mem_of_getElem? (i := 1922) (by decide +kernel)⟩
theorem lw_p88 : lw_okq (⟨"DeadUnderstudiesModel", "leaf", "(ZII)V"⟩, 76) := ⟨⟨by decide +kernel, by decide +kernel⟩, List.mem_of_getElem? (i := 1472) (by decide +kernel), List.mem_of_getElem? (i := 1926) (by decide +kernel), List.mem_of_getElem? (i := 1927) (by decide +kernel)⟩
theorem lw_p89 : lw_okq (⟨"DeadUnderstudiesModel", "emit", "(II)V"⟩, 76) := ⟨⟨by decide +kernel, by decide +kernel⟩, List.mem_of_getElem? (i := 1472) (by decide +kernel), List.mem_of_getElem? (i := 1930) (by decide +kernel), List.mem_of_getElem? (i := 1931) (by decide +kernel)⟩
theorem lw_p90 : lw_okq (⟨"DeadUnderstudiesModel", "behindSum", "(Z)I"⟩, 76) := ⟨⟨by decide +kernel, by decide +kernel⟩, List.mem_of_getElem? (i := 1472) (by decide +kernel), List.mem_of_getElem? (i := 1934) (by decide +kernel), List.mem_of_getElem? (i := 1935) (by decide +kernel)⟩
theorem lw_p91 : lw_okq (⟨"DeadUnderstudiesModel", "settle", "(I)V"⟩, 76) := ⟨⟨by decide +kernel, by decide +kernel⟩, List.mem_of_getElem? (i := 1472) (by decide +kernel), List.mem_of_getElem? (i := 1941) (by decide +kernel), List.mem_of_getElem? (i := 1942) (by decide +kernel)⟩
theorem lw_p92 : lw_okq (⟨"DeadUnderstudiesModel", "inner", "()I"⟩, 76) := ⟨⟨by decide +kernel, by decide +kernel⟩, List.mem_of_getElem? (i := 1472) (by decide +kernel), List.mem_of_getElem? (i := 1945) (by decide +kernel), List.mem_of_getElem? (i := 1946) (by decide +kernel)⟩
theorem lw_p93 : lw_okq (⟨"DeadUnderstudiesModel", "isCompared", "()Z"⟩, 76) := ⟨⟨by decide +kernel, by decide +kernel⟩, List.mem_of_getElem? (i := 1472) (by decide +kernel), List.mem_of_getElem? (i := 1949) (by decide +kernel), List.mem_of_getElem? (i := 1950) (by decide +kernel)⟩
theorem lw_p94 : lw_okq (⟨"DeadUnderstudiesModel", "behindTest", "()I"⟩, 76) := ⟨⟨by decide +kernel, by decide +kernel⟩, List.mem_of_getElem? (i := 1472) (by decide +kernel), List.mem_of_getElem? (i := 1956) (by decide +kernel), List.mem_of_getElem? (i := 1957) (by decide +kernel)⟩
theorem lw_p95 : lw_okq (⟨"DeadUnderstudiesModel", "endText", "()V"⟩, 76) := ⟨⟨by decide +kernel, by decide +kernel⟩, List.mem_of_getElem? (i := 1472) (by decide +kernel), List.mem_of_getElem? (i := 1963) (by decide +kernel), List.mem_of_getElem? (i := 1964) (by decide +kernel)⟩
noncomputable def lw_privs_6 : List (MethodName × Nat) := [(⟨"DeadUnderstudiesModel", "readExpression", "(Z)V"⟩, 76), (⟨"DeadUnderstudiesModel", "readPlain", "()I"⟩, 76), (⟨"DeadUnderstudiesModel", "push", "(II)V"⟩, 76), (⟨"DeadUnderstudiesModel", "isSign", "(I)Z"⟩, 76), (⟨"DeadUnderstudiesModel", "openBracket", "(I)V"⟩, 76), (⟨"DeadUnderstudiesModel", "readPart", "()I"⟩, 76), (⟨"DeadUnderstudiesModel", "playPartAt", "()I"⟩, 76), (⟨"DeadUnderstudiesModel", "partAt", "()I"⟩, 76), (⟨"DeadUnderstudiesModel", "leaf", "(ZII)V"⟩, 76), (⟨"DeadUnderstudiesModel", "emit", "(II)V"⟩, 76), (⟨"DeadUnderstudiesModel", "behindSum", "(Z)I"⟩, 76), (⟨"DeadUnderstudiesModel", "settle", "(I)V"⟩, 76), (⟨"DeadUnderstudiesModel", "inner", "()I"⟩, 76), (⟨"DeadUnderstudiesModel", "isCompared", "()Z"⟩, 76), (⟨"DeadUnderstudiesModel", "behindTest", "()I"⟩, 76), (⟨"DeadUnderstudiesModel", "endText", "()V"⟩, 76)]
theorem lw_r6 : ∀ q ∈ lw_privs_6, lw_okq q := List.forall_mem_cons.mpr ⟨lw_p80, List.forall_mem_cons.mpr ⟨lw_p81, List.forall_mem_cons.mpr ⟨lw_p82, List.forall_mem_cons.mpr ⟨lw_p83, List.forall_mem_cons.mpr ⟨lw_p84, List.forall_mem_cons.mpr ⟨lw_p85, List.forall_mem_cons.mpr ⟨lw_p86, List.forall_mem_cons.mpr ⟨lw_p87, List.forall_mem_cons.mpr ⟨lw_p88, List.forall_mem_cons.mpr ⟨lw_p89, List.forall_mem_cons.mpr ⟨lw_p90, List.forall_mem_cons.mpr ⟨lw_p91, List.forall_mem_cons.mpr ⟨lw_p92, List.forall_mem_cons.mpr ⟨lw_p93, List.forall_mem_cons.mpr ⟨lw_p94, List.forall_mem_cons.mpr ⟨lw_p95, fun _ h => absurd h List.not_mem_nil⟩⟩⟩⟩⟩⟩⟩⟩⟩⟩⟩⟩⟩⟩⟩⟩
theorem lw_p96 : lw_okq (⟨"DeadUnderstudiesModel", "slipOf", "(IIII)I"⟩, 76) := ⟨⟨by decide +kernel, by decide +kernel⟩, List.mem_of_getElem? (i := 1472) (by decide +kernel), List.mem_of_getElem? (i := 1976) (by decide +kernel), List.mem_of_getElem? (i := 1977) (by decide +kernel)⟩
theorem lw_p97 : lw_okq (⟨"DeadUnderstudiesModel", "tells", "(IIIIIJ)J"⟩, 76) := ⟨⟨by decide +kernel, by decide +kernel⟩, List.mem_of_getElem? (i := 1472) (by decide +kernel), List.mem_of_getElem? (i := 1980) (by decide +kernel), List.mem_of_getElem? (i := 1981) (by decide +kernel)⟩
theorem lw_p98 : lw_okq (⟨"DeadUnderstudiesModel", "isSo", "(I)Z"⟩, 76) := ⟨⟨by decide +kernel, by decide +kernel⟩, List.mem_of_getElem? (i := 1472) (by decide +kernel), List.mem_of_getElem? (i := 1984) (by decide +kernel), List.mem_of_getElem? (i := 1985) (by decide +kernel)⟩
theorem lw_p99 : lw_okq (⟨"DeadUnderstudiesModel", "reckonAll", "(II)V"⟩, 76) := ⟨⟨by decide +kernel, by decide +kernel⟩, List.mem_of_getElem? (i := 1472) (by decide +kernel), List.mem_of_getElem? (i := 1988) (by decide +kernel), List.mem_of_getElem? (i := 1989) (by decide +kernel)⟩
theorem lw_p100 : lw_okq (⟨"DeadUnderstudiesModel", "reckon", "(IJJ)J"⟩, 76) := ⟨⟨by decide +kernel, by decide +kernel⟩, List.mem_of_getElem? (i := 1472) (by decide +kernel), List.mem_of_getElem? (i := 1992) (by decide +kernel), List.mem_of_getElem? (i := 1993) (by decide +kernel)⟩
theorem lw_p101 : lw_okq (⟨"DeadUnderstudiesModel", "hoursOf", "(IIII)I"⟩, 76) := ⟨⟨by decide +kernel, by decide +kernel⟩, List.mem_of_getElem? (i := 1472) (by decide +kernel), List.mem_of_getElem? (i := 2001) (by decide +kernel), List.mem_of_getElem? (i := 2002) (by decide +kernel)⟩
theorem lw_p102 : lw_okq (⟨"DeadUnderstudiesModel", "isBarred", "(IIII)Z"⟩, 76) := ⟨⟨by decide +kernel, by decide +kernel⟩, List.mem_of_getElem? (i := 1472) (by decide +kernel), List.mem_of_getElem? (i := 2005) (by decide +kernel), List.mem_of_getElem? (i := 2006) (by decide +kernel)⟩
theorem lw_p103 : lw_okq (⟨"DeadUnderstudiesModel", "readPlay", "()V"⟩, 76) := ⟨⟨by decide +kernel, by decide +kernel⟩, List.mem_of_getElem? (i := 1472) (by decide +kernel), List.mem_of_getElem? (i := 2013) (by decide +kernel), List.mem_of_getElem? (i := 2014) (by decide +kernel)⟩
theorem lw_p104 : lw_okq (⟨"DeadUnderstudiesModel", "readPlace", "()I"⟩, 76) := ⟨⟨by decide +kernel, by decide +kernel⟩, List.mem_of_getElem? (i := 1472) (by decide +kernel), List.mem_of_getElem? (i := 2018) (by decide +kernel), List.mem_of_getElem? (i := 2019) (by decide +kernel)⟩
theorem lw_p105 : lw_okq (⟨"DeadUnderstudiesModel", "number", "(JJ)I"⟩, 76) := ⟨⟨by decide +kernel, by decide +kernel⟩, List.mem_of_getElem? (i := 1472) (by decide +kernel), List.mem_of_getElem? (i := 2023) (by decide +kernel), List.mem_of_getElem? (i := 2024) (by decide +kernel)⟩
theorem lw_p106 : lw_okq (⟨"DeadUnderstudiesModel", "isPlayed", "(IIII)Z"⟩, 76) := ⟨⟨by decide +kernel, by decide +kernel⟩, List.mem_of_getElem? (i := 1472) (by decide +kernel), List.mem_of_getElem? (i := 2031) (by decide +kernel), List.mem_of_getElem? (i := 2032) (by decide +kernel)⟩
theorem lw_p107 : lw_okq (⟨"DeadUnderstudiesModel", "add", "(III)I"⟩, 76) := ⟨⟨by decide +kernel, by decide +kernel⟩, List.mem_of_getElem? (i := 1472) (by decide +kernel), List.mem_of_getElem? (i := 2047) (by decide +kernel), List.mem_of_getElem? (i := 2048) (by decide +kernel)⟩
theorem lw_p108 : lw_okq (⟨"DeadUnderstudiesModel", "isVersion", "(I)Z"⟩, 76) := ⟨⟨by decide +kernel, by decide +kernel⟩, List.mem_of_getElem? (i := 1472) (by decide +kernel), List.mem_of_getElem? (i := 2055) (by decide +kernel), List.mem_of_getElem? (i := 2056) (by decide +kernel)⟩
theorem lw_p109 : lw_okq (⟨"DeadUnderstudiesModel", "together", "(II)I"⟩, 76) := ⟨⟨by decide +kernel, by decide +kernel⟩, List.mem_of_getElem? (i := 1472) (by decide +kernel), List.mem_of_getElem? (i := 2059) (by decide +kernel), List.mem_of_getElem? (i := 2060) (by decide +kernel)⟩
theorem lw_p110 : lw_okq (⟨"DeadUnderstudiesModel", "ruleOf", "(II)I"⟩, 76) := ⟨⟨by decide +kernel, by decide +kernel⟩, List.mem_of_getElem? (i := 1472) (by decide +kernel), List.mem_of_getElem? (i := 2063) (by decide +kernel), List.mem_of_getElem? (i := 2064) (by decide +kernel)⟩
theorem lw_p111 : lw_okq (⟨"DeadUnderstudiesModel", "playCues", "(I)V"⟩, 76) := ⟨⟨by decide +kernel, by decide +kernel⟩, List.mem_of_getElem? (i := 1472) (by decide +kernel), List.mem_of_getElem? (i := 2084) (by decide +kernel), List.mem_of_getElem? (i := 2085) (by decide +kernel)⟩
noncomputable def lw_privs_7 : List (MethodName × Nat) := [(⟨"DeadUnderstudiesModel", "slipOf", "(IIII)I"⟩, 76), (⟨"DeadUnderstudiesModel", "tells", "(IIIIIJ)J"⟩, 76), (⟨"DeadUnderstudiesModel", "isSo", "(I)Z"⟩, 76), (⟨"DeadUnderstudiesModel", "reckonAll", "(II)V"⟩, 76), (⟨"DeadUnderstudiesModel", "reckon", "(IJJ)J"⟩, 76), (⟨"DeadUnderstudiesModel", "hoursOf", "(IIII)I"⟩, 76), (⟨"DeadUnderstudiesModel", "isBarred", "(IIII)Z"⟩, 76), (⟨"DeadUnderstudiesModel", "readPlay", "()V"⟩, 76), (⟨"DeadUnderstudiesModel", "readPlace", "()I"⟩, 76), (⟨"DeadUnderstudiesModel", "number", "(JJ)I"⟩, 76), (⟨"DeadUnderstudiesModel", "isPlayed", "(IIII)Z"⟩, 76), (⟨"DeadUnderstudiesModel", "add", "(III)I"⟩, 76), (⟨"DeadUnderstudiesModel", "isVersion", "(I)Z"⟩, 76), (⟨"DeadUnderstudiesModel", "together", "(II)I"⟩, 76), (⟨"DeadUnderstudiesModel", "ruleOf", "(II)I"⟩, 76), (⟨"DeadUnderstudiesModel", "playCues", "(I)V"⟩, 76)]
theorem lw_r7 : ∀ q ∈ lw_privs_7, lw_okq q := List.forall_mem_cons.mpr ⟨lw_p96, List.forall_mem_cons.mpr ⟨lw_p97, List.forall_mem_cons.mpr ⟨lw_p98, List.forall_mem_cons.mpr ⟨lw_p99, List.forall_mem_cons.mpr ⟨lw_p100, List.forall_mem_cons.mpr ⟨lw_p101, List.forall_mem_cons.mpr ⟨lw_p102, List.forall_mem_cons.mpr ⟨lw_p103, List.forall_mem_cons.mpr ⟨lw_p104, List.forall_mem_cons.mpr ⟨lw_p105, List.forall_mem_cons.mpr ⟨lw_p106, List.forall_mem_cons.mpr ⟨lw_p107, List.forall_mem_cons.mpr ⟨lw_p108, List.forall_mem_cons.mpr ⟨lw_p109, List.forall_mem_cons.mpr ⟨lw_p110, List.forall_mem_cons.mpr ⟨lw_p111, fun _ h => absurd h List.not_mem_nil⟩⟩⟩⟩⟩⟩⟩⟩⟩⟩⟩⟩⟩⟩⟩⟩
theorem lw_p112 : lw_okq (⟨"DeadUnderstudiesModel", "isParted", "(II)Z"⟩, 76) := ⟨⟨by decide +kernel, by decide +kernel⟩, List.mem_of_getElem? (i := 1472) (by decide +kernel), List.mem_of_getElem? (i := 2096) (by decide +kernel), List.mem_of_getElem? (i := 2097) (by decide +kernel)⟩
theorem lw_p113 : lw_okq (⟨"DeadUnderstudiesModel", "findRow", "(II)V"⟩, 76) := ⟨⟨by decide +kernel, by decide +kernel⟩, List.mem_of_getElem? (i := 1472) (by decide +kernel), List.mem_of_getElem? (i := 2100) (by decide +kernel), List.mem_of_getElem? (i := 2101) (by decide +kernel)⟩
theorem lw_p114 : lw_okq (⟨"DeadUnderstudiesModel", "ofRow", "(ZI)I"⟩, 76) := ⟨⟨by decide +kernel, by decide +kernel⟩, List.mem_of_getElem? (i := 1472) (by decide +kernel), List.mem_of_getElem? (i := 2104) (by decide +kernel), List.mem_of_getElem? (i := 2105) (by decide +kernel)⟩
theorem lw_p115 : lw_okq (⟨"DeadUnderstudiesModel", "isTalk", "(III)Z"⟩, 76) := ⟨⟨by decide +kernel, by decide +kernel⟩, List.mem_of_getElem? (i := 1472) (by decide +kernel), List.mem_of_getElem? (i := 2116) (by decide +kernel), List.mem_of_getElem? (i := 2117) (by decide +kernel)⟩
theorem lw_p116 : lw_okq (⟨"DeadUnderstudiesModel", "findTalk", "(III)V"⟩, 76) := ⟨⟨by decide +kernel, by decide +kernel⟩, List.mem_of_getElem? (i := 1472) (by decide +kernel), List.mem_of_getElem? (i := 2121) (by decide +kernel), List.mem_of_getElem? (i := 2122) (by decide +kernel)⟩
theorem lw_p117 : lw_okq (⟨"DeadUnderstudiesModel", "most", "()I"⟩, 76) := ⟨⟨by decide +kernel, by decide +kernel⟩, List.mem_of_getElem? (i := 1472) (by decide +kernel), List.mem_of_getElem? (i := 2133) (by decide +kernel), List.mem_of_getElem? (i := 2134) (by decide +kernel)⟩
theorem lw_p118 : lw_okq (⟨"DeadUnderstudiesModel", "findOrigin", "(II)I"⟩, 76) := ⟨⟨by decide +kernel, by decide +kernel⟩, List.mem_of_getElem? (i := 1472) (by decide +kernel), List.mem_of_getElem? (i := 2146) (by decide +kernel), List.mem_of_getElem? (i := 2147) (by decide +kernel)⟩
theorem lw_p119 : lw_okq (⟨"DeadUnderstudiesModel", "mostBits", "()I"⟩, 76) := ⟨⟨by decide +kernel, by decide +kernel⟩, List.mem_of_getElem? (i := 1472) (by decide +kernel), List.mem_of_getElem? (i := 2150) (by decide +kernel), List.mem_of_getElem? (i := 2151) (by decide +kernel)⟩
theorem lw_p120 : lw_okq (⟨"DeadUnderstudiesModel", "findPupils", "(I)V"⟩, 76) := ⟨⟨by decide +kernel, by decide +kernel⟩, List.mem_of_getElem? (i := 1472) (by decide +kernel), List.mem_of_getElem? (i := 2163) (by decide +kernel), List.mem_of_getElem? (i := 2164) (by decide +kernel)⟩
theorem lw_p121 : lw_okq (⟨"DeadUnderstudiesModel", "findCome", "(II)V"⟩, 76) := ⟨⟨by decide +kernel, by decide +kernel⟩, List.mem_of_getElem? (i := 1472) (by decide +kernel), List.mem_of_getElem? (i := 2167) (by decide +kernel), List.mem_of_getElem? (i := 2168) (by decide +kernel)⟩
theorem lw_p122 : lw_okq (⟨"DeadUnderstudiesModel", "lastOf", "()I"⟩, 76) := ⟨⟨by decide +kernel, by decide +kernel⟩, List.mem_of_getElem? (i := 1472) (by decide +kernel), List.mem_of_getElem? (i := 2174) (by decide +kernel), List.mem_of_getElem? (i := 2175) (by decide +kernel)⟩
theorem lw_p123 : lw_okq (⟨"DeadUnderstudiesModel", "lengthTo", "(I)I"⟩, 76) := ⟨⟨by decide +kernel, by decide +kernel⟩, List.mem_of_getElem? (i := 1472) (by decide +kernel), List.mem_of_getElem? (i := 2178) (by decide +kernel), List.mem_of_getElem? (i := 2179) (by decide +kernel)⟩
theorem lw_p124 : lw_okq (⟨"DeadUnderstudiesModel", "findCast", "()V"⟩, 76) := ⟨⟨by decide +kernel, by decide +kernel⟩, List.mem_of_getElem? (i := 1472) (by decide +kernel), List.mem_of_getElem? (i := 2186) (by decide +kernel), List.mem_of_getElem? (i := 2187) (by decide +kernel)⟩
theorem lw_p125 : lw_okq (⟨"DeadUnderstudiesModel", "keepCast", "(I)V"⟩, 76) := ⟨⟨by decide +kernel, by decide +kernel⟩, List.mem_of_getElem? (i := 1472) (by decide +kernel), List.mem_of_getElem? (i := 2191) (by decide +kernel), List.mem_of_getElem? (i := 2192) (by decide +kernel)⟩
theorem lw_p126 : lw_okq (⟨"DeadUnderstudiesModel", "canPlay", "(I)Z"⟩, 76) := ⟨⟨by decide +kernel, by decide +kernel⟩, List.mem_of_getElem? (i := 1472) (by decide +kernel), List.mem_of_getElem? (i := 2195) (by decide +kernel), List.mem_of_getElem? (i := 2196) (by decide +kernel)⟩
theorem lw_p127 : lw_okq (⟨"DeadUnderstudiesModel", "areTogether", "(II)Z"⟩, 76) := ⟨⟨by decide +kernel, by decide +kernel⟩, List.mem_of_getElem? (i := 1472) (by decide +kernel), List.mem_of_getElem? (i := 2199) (by decide +kernel), List.mem_of_getElem? (i := 2200) (by decide +kernel)⟩
noncomputable def lw_privs_8 : List (MethodName × Nat) := [(⟨"DeadUnderstudiesModel", "isParted", "(II)Z"⟩, 76), (⟨"DeadUnderstudiesModel", "findRow", "(II)V"⟩, 76), (⟨"DeadUnderstudiesModel", "ofRow", "(ZI)I"⟩, 76), (⟨"DeadUnderstudiesModel", "isTalk", "(III)Z"⟩, 76), (⟨"DeadUnderstudiesModel", "findTalk", "(III)V"⟩, 76), (⟨"DeadUnderstudiesModel", "most", "()I"⟩, 76), (⟨"DeadUnderstudiesModel", "findOrigin", "(II)I"⟩, 76), (⟨"DeadUnderstudiesModel", "mostBits", "()I"⟩, 76), (⟨"DeadUnderstudiesModel", "findPupils", "(I)V"⟩, 76), (⟨"DeadUnderstudiesModel", "findCome", "(II)V"⟩, 76), (⟨"DeadUnderstudiesModel", "lastOf", "()I"⟩, 76), (⟨"DeadUnderstudiesModel", "lengthTo", "(I)I"⟩, 76), (⟨"DeadUnderstudiesModel", "findCast", "()V"⟩, 76), (⟨"DeadUnderstudiesModel", "keepCast", "(I)V"⟩, 76), (⟨"DeadUnderstudiesModel", "canPlay", "(I)Z"⟩, 76), (⟨"DeadUnderstudiesModel", "areTogether", "(II)Z"⟩, 76)]
theorem lw_r8 : ∀ q ∈ lw_privs_8, lw_okq q := List.forall_mem_cons.mpr ⟨lw_p112, List.forall_mem_cons.mpr ⟨lw_p113, List.forall_mem_cons.mpr ⟨lw_p114, List.forall_mem_cons.mpr ⟨lw_p115, List.forall_mem_cons.mpr ⟨lw_p116, List.forall_mem_cons.mpr ⟨lw_p117, List.forall_mem_cons.mpr ⟨lw_p118, List.forall_mem_cons.mpr ⟨lw_p119, List.forall_mem_cons.mpr ⟨lw_p120, List.forall_mem_cons.mpr ⟨lw_p121, List.forall_mem_cons.mpr ⟨lw_p122, List.forall_mem_cons.mpr ⟨lw_p123, List.forall_mem_cons.mpr ⟨lw_p124, List.forall_mem_cons.mpr ⟨lw_p125, List.forall_mem_cons.mpr ⟨lw_p126, List.forall_mem_cons.mpr ⟨lw_p127, fun _ h => absurd h List.not_mem_nil⟩⟩⟩⟩⟩⟩⟩⟩⟩⟩⟩⟩⟩⟩⟩⟩
theorem lw_p128 : lw_okq (⟨"DeadUnderstudiesModel", "findLeast", "(II)I"⟩, 76) := ⟨⟨by decide +kernel, by decide +kernel⟩, List.mem_of_getElem? (i := 1472) (by decide +kernel), List.mem_of_getElem? (i := 2219) (by decide +kernel), List.mem_of_getElem? (i := 2220) (by decide +kernel)⟩
theorem lw_p129 : lw_okq (⟨"DeadUnderstudiesModel", "findOrder", "()V"⟩, 76) := ⟨⟨by decide +kernel, by decide +kernel⟩, List.mem_of_getElem? (i := 1472) (by decide +kernel), List.mem_of_getElem? (i := 2223) (by decide +kernel), List.mem_of_getElem? (i := 2224) (by decide +kernel)⟩
theorem lw_p130 : lw_okq (⟨"DeadUnderstudiesModel", "findWays", "(III)V"⟩, 76) := ⟨⟨by decide +kernel, by decide +kernel⟩, List.mem_of_getElem? (i := 1472) (by decide +kernel), List.mem_of_getElem? (i := 2227) (by decide +kernel), List.mem_of_getElem? (i := 2228) (by decide +kernel)⟩
theorem lw_p131 : lw_okq (⟨"DeadUnderstudiesModel", "meet", "(III)V"⟩, 76) := ⟨⟨by decide +kernel, by decide +kernel⟩, List.mem_of_getElem? (i := 1472) (by decide +kernel), List.mem_of_getElem? (i := 2231) (by decide +kernel), List.mem_of_getElem? (i := 2232) (by decide +kernel)⟩
theorem lw_p132 : lw_okq (⟨"DeadUnderstudiesModel", "isLast", "(I)Z"⟩, 76) := ⟨⟨by decide +kernel, by decide +kernel⟩, List.mem_of_getElem? (i := 1472) (by decide +kernel), List.mem_of_getElem? (i := 2235) (by decide +kernel), List.mem_of_getElem? (i := 2236) (by decide +kernel)⟩
theorem lw_p133 : lw_okq (⟨"DeadUnderstudiesModel", "takeBack", "(I)V"⟩, 76) := ⟨⟨by decide +kernel, by decide +kernel⟩, List.mem_of_getElem? (i := 1472) (by decide +kernel), List.mem_of_getElem? (i := 2239) (by decide +kernel), List.mem_of_getElem? (i := 2240) (by decide +kernel)⟩
theorem lw_p134 : lw_okq (⟨"DeadUnderstudiesModel", "goesOn", "(II)Z"⟩, 76) := ⟨⟨by decide +kernel, by decide +kernel⟩, List.mem_of_getElem? (i := 1472) (by decide +kernel), List.mem_of_getElem? (i := 2243) (by decide +kernel), List.mem_of_getElem? (i := 2244) (by decide +kernel)⟩
theorem lw_p135 : lw_okq (⟨"DeadUnderstudiesModel", "draw", "(I)I"⟩, 76) := ⟨⟨by decide +kernel, by decide +kernel⟩, List.mem_of_getElem? (i := 1472) (by decide +kernel), List.mem_of_getElem? (i := 2255) (by decide +kernel), List.mem_of_getElem? (i := 2256) (by decide +kernel)⟩
noncomputable def lw_privs_9 : List (MethodName × Nat) := [(⟨"DeadUnderstudiesModel", "findLeast", "(II)I"⟩, 76), (⟨"DeadUnderstudiesModel", "findOrder", "()V"⟩, 76), (⟨"DeadUnderstudiesModel", "findWays", "(III)V"⟩, 76), (⟨"DeadUnderstudiesModel", "meet", "(III)V"⟩, 76), (⟨"DeadUnderstudiesModel", "isLast", "(I)Z"⟩, 76), (⟨"DeadUnderstudiesModel", "takeBack", "(I)V"⟩, 76), (⟨"DeadUnderstudiesModel", "goesOn", "(II)Z"⟩, 76), (⟨"DeadUnderstudiesModel", "draw", "(I)I"⟩, 76)]
theorem lw_r9 : ∀ q ∈ lw_privs_9, lw_okq q := List.forall_mem_cons.mpr ⟨lw_p128, List.forall_mem_cons.mpr ⟨lw_p129, List.forall_mem_cons.mpr ⟨lw_p130, List.forall_mem_cons.mpr ⟨lw_p131, List.forall_mem_cons.mpr ⟨lw_p132, List.forall_mem_cons.mpr ⟨lw_p133, List.forall_mem_cons.mpr ⟨lw_p134, List.forall_mem_cons.mpr ⟨lw_p135, fun _ h => absurd h List.not_mem_nil⟩⟩⟩⟩⟩⟩⟩⟩
noncomputable def lw_privs : List (MethodName × Nat) := lw_privs_1 ++ (lw_privs_2 ++ (lw_privs_3 ++ (lw_privs_4 ++ (lw_privs_5 ++ (lw_privs_6 ++ (lw_privs_7 ++ (lw_privs_8 ++ (lw_privs_9))))))))
noncomputable def lw_tbl : List Cond := k2_sels lw_privs ++ tables_1
theorem lw_privs_ok : ∀ q ∈ lw_privs, lw_okq q := by
  show ∀ q ∈ lw_privs_1 ++ (lw_privs_2 ++ (lw_privs_3 ++ (lw_privs_4 ++ (lw_privs_5 ++ (lw_privs_6 ++ (lw_privs_7 ++ (lw_privs_8 ++ (lw_privs_9)))))))), lw_okq q
  exact List.forall_mem_append.mpr ⟨lw_r1, List.forall_mem_append.mpr ⟨lw_r2, List.forall_mem_append.mpr ⟨lw_r3, List.forall_mem_append.mpr ⟨lw_r4, List.forall_mem_append.mpr ⟨lw_r5, List.forall_mem_append.mpr ⟨lw_r6, List.forall_mem_append.mpr ⟨lw_r7, List.forall_mem_append.mpr ⟨lw_r8, lw_r9⟩⟩⟩⟩⟩⟩⟩⟩
-- ===== end of PART A =====
end
section
noncomputable abbrev ry_E : Type := Nat × Int
noncomputable abbrev ry_V : Type := Option Nat ⊕ (Nat × ry_E)
noncomputable abbrev ry_X : Type := ry_V ⊕ (Nat × Int × Int)
noncomputable abbrev ry_I : Type := List (Int × Int)
noncomputable abbrev ry_F : Type := List (Nat × ry_E × ry_E)
noncomputable abbrev ry_A : Type := Nat × Nat × ry_X × List (Nat × ry_V)
noncomputable abbrev ry_C : Type := (Nat × List ry_X) ⊕ ry_A
noncomputable def ry_ev (r : Nat → Int) (e : ry_E) : Int := r e.1 + e.2
noncomputable def ry_iv (r : Nat → Int) (ad xa : Nat → Nat) (v : ry_V) : Value := match v with
  | .inl none => .null
  | .inl (some k) => .ref (ad k)
  | .inr (0, e) => .int (Int32.ofInt (ry_ev r e))
  | .inr (1, e) => .long (Int64.ofInt (ry_ev r e))
  | .inr (_ + 2, e) => .ref (xa e.2.toNat)
noncomputable def ry_sc (N M : Nat) (v : ry_V) : Prop := match v with
  | .inl none => True
  | .inl (some k) => k < M
  | .inr (_, e) => e.1 < N
noncomputable def ry_ok (r : Nat → Int) (ad xa : Nat → Nat) (x : ry_X) (w : Value) : Prop := match x with
  | .inl v => w = ry_iv r ad xa v
  | .inr (0, lo, hi) => ∃ i : Int32, w = .int i ∧ lo ≤ i.toInt ∧ i.toInt ≤ hi
  | .inr (_ + 1, lo, hi) => ∃ i : Int64, w = .long i ∧ lo ≤ i.toInt ∧ i.toInt ≤ hi
noncomputable def ry_xsc (N M : Nat) (x : ry_X) : Prop := match x with
  | .inl v => ry_sc N M v
  | .inr _ => True
noncomputable def ry_lk : List (Nat × ry_V) → Nat → Option ry_V
  | [], _ => none
  | q :: l, i => if q.1 = i then some q.2 else ry_lk l i
theorem ry_lk_mem : ∀ {l : List (Nat × ry_V)} {i : Nat} {v : ry_V}, ry_lk l i = some v → (i, v) ∈ l
  | [], _, _, h => by cases h
  | q :: l, i, v, h => by
    rw [ry_lk] at h
    split at h
    · rename_i e
      cases h
      subst e
      exact List.mem_cons_self
    · exact List.mem_cons_of_mem _ (ry_lk_mem h)
noncomputable def ry_gt (ov : List (Nat × ry_V)) (df : ry_X) (j : Nat) : ry_X := match ry_lk ov j with
  | some v => .inl v
  | none => df
noncomputable abbrev ry_cont : Type := (Nat → Int32) ⊕ (Nat → Int64) ⊕ (Nat → UInt32) ⊕ (Nat → UInt64) ⊕ (Nat → Option Nat)
noncomputable def ry_el (c : ry_cont) (j : Nat) : Value := match c with
  | .inl f => .int (f j)
  | .inr (.inl f) => .long (f j)
  | .inr (.inr (.inl f)) => .float (f j)
  | .inr (.inr (.inr (.inl f))) => .double (f j)
  | .inr (.inr (.inr (.inr f))) => va_rf (f j)
noncomputable def ry_sh (tc : Nat) (c : ry_cont) : Prop := match tc with
  | 0 => ∃ f, c = .inl f
  | 1 => ∃ f, c = .inl f
  | 2 => ∃ f, c = .inr (.inl f)
  | 3 => ∃ f, c = .inl f
  | 4 => ∃ f, c = .inl f
  | _ + 5 => ∃ f, c = .inr (.inr (.inr (.inr f)))
noncomputable def ry_ty (cl : List vw_C) (tc : Nat) : FieldType := match tc with
  | 0 => .int
  | 1 => .boolean
  | 2 => .long
  | 3 => .byte
  | 4 => .char
  | n + 5 => .object ((cl[n]?).elim "" (fun q => q.1))
noncomputable def ry_cell (cl : List vw_C) (tys : List (ClassId × FieldType)) (r : Nat → Int) (ad xa : Nat → Nat) (x : ry_C) (e : va_E) : Prop := match x with
  | .inl (ci, fs) => ∃ vs : List Value, e = .inr (ci, vs) ∧ vs.length = fs.length ∧ ∀ (k : Nat) (f : ry_X), fs[k]? = some f → ∃ w : Value, vs[k]? = some w ∧ ry_ok r ad xa f w
  | .inr (tc, n, df, ov) => ∃ (cA : ClassId) (t0 : Nat) (c : ry_cont), e = .inl (cA, n, c) ∧ tys[t0]? = some (cA, ry_ty cl tc) ∧ ry_sh tc c ∧ ∀ j : Nat, j < n → ry_ok r ad xa (ry_gt ov df j) (ry_el c j)
noncomputable def ry_csc (N M : Nat) (x : ry_C) : Prop := match x with
  | .inl (_, fs) => ∀ (k : Nat) (f : ry_X), fs[k]? = some f → ry_xsc N M f
  | .inr (_, n, df, ov) => ∀ j : Nat, j < n → ry_xsc N M (ry_gt ov df j)
noncomputable def ry_sat (I : ry_I) (r : Nat → Int) : Prop := r 0 = 0 ∧ 8 ≤ I.length ∧ ∀ (n : Nat) (lo hi : Int), I[n]? = some (lo, hi) → lo ≤ r n ∧ r n ≤ hi
theorem ry_pos {I : ry_I} {r : Nat → Int} (h : ry_sat I r) : 0 < I.length := Nat.lt_of_lt_of_le (Nat.le_of_ble_eq_true rfl) h.2.1
noncomputable def ry_fact (r : Nat → Int) (f : Nat × ry_E × ry_E) : Prop := match f.1 with
  | 0 => ry_ev r f.2.1 < ry_ev r f.2.2
  | 1 => ry_ev r f.2.1 ≤ ry_ev r f.2.2
  | 2 => ry_ev r f.2.1 = ry_ev r f.2.2
  | _ => ry_ev r f.2.1 ≠ ry_ev r f.2.2
noncomputable def ry_fsc (N : Nat) (F : ry_F) : Prop := ∀ f ∈ F, f.2.1.1 < N ∧ f.2.2.1 < N
noncomputable def ry_facts (F : ry_F) (r : Nat → Int) : Prop := ∀ f ∈ F, ry_fact r f
noncomputable def ry_same (N : Nat) (r r_p : Nat → Int) : Prop := ∀ n, n < N → r_p n = r n
noncomputable def ry_sameA (M : Nat) (a a_p : Nat → Nat) : Prop := ∀ n, n < M → a_p n = a n
noncomputable def ry_W (D : va_G) (cl : List vw_C) (A : Nat → Prop) (s : State) (xa : Nat → Nat) (N : Nat) (ht : List ry_C) (r : Nat → Int) (ad : Nat → Nat) (H0 H : Heap) (locs : List Loc) : Prop :=
  ∃ (ws : va_W) (tys : List (ClassId × FieldType)), va_K D cl tys s ∧ va_P D cl ws H ∧ va_D A ws ∧ va_S A H0 H locs ∧ ws.length = ht.length ∧
    ∀ (k : Nat) (x : ry_C), ht[k]? = some x → ry_csc N ht.length x ∧ ∃ e : va_E, ws[k]? = some (ad k, e) ∧ ry_cell cl tys r ad xa x e
-- what stays when symbols and cells come
theorem ry_same.rf {N : Nat} {r : Nat → Int} : ry_same N r r := fun _ _ => rfl
theorem ry_sameA.rf {N : Nat} {r : Nat → Nat} : ry_sameA N r r := fun _ _ => rfl
theorem ry_same.tr {N N_p : Nat} {r r_p r2 : Nat → Int} (h : ry_same N r r_p) (h2 : ry_same N_p r_p r2) (hN : N ≤ N_p) : ry_same N r r2 := fun n hn => (h2 n (Nat.lt_of_lt_of_le hn hN)).trans (h n hn)
theorem ry_sameA.tr {N N_p : Nat} {r r_p r2 : Nat → Nat} (h : ry_sameA N r r_p) (h2 : ry_sameA N_p r_p r2) (hN : N ≤ N_p) : ry_sameA N r r2 := fun n hn => (h2 n (Nat.lt_of_lt_of_le hn hN)).trans (h n hn)
theorem ry_iv_ext {N M : Nat} {r r_p : Nat → Int} {ad ad_p xa : Nat → Nat} {v : ry_V} (h : ry_sc N M v) (hr : ry_same N r r_p) (ha : ry_sameA M ad ad_p) : ry_iv r_p ad_p xa v = ry_iv r ad xa v := by
  match v, h with
  | .inl none, _ => rfl
  | .inl (some k), h => exact congrArg Value.ref (ha k h)
  | .inr (0, e), h =>
    show Value.int (Int32.ofInt (r_p e.1 + e.2)) = Value.int (Int32.ofInt (r e.1 + e.2))
    rw [hr e.1 h]
  | .inr (1, e), h =>
    show Value.long (Int64.ofInt (r_p e.1 + e.2)) = Value.long (Int64.ofInt (r e.1 + e.2))
    rw [hr e.1 h]
  | .inr (_ + 2, e), _ => rfl
theorem ry_sc.mono {N M N_p M_p : Nat} {v : ry_V} (h : ry_sc N M v) (hN : N ≤ N_p) (hM : M ≤ M_p) : ry_sc N_p M_p v := by
  match v, h with
  | .inl none, _ => exact trivial
  | .inl (some k), h => exact Nat.lt_of_lt_of_le h hM
  | .inr (_, e), h => exact Nat.lt_of_lt_of_le h hN
theorem ry_xsc.mono {N M N_p M_p : Nat} {x : ry_X} (h : ry_xsc N M x) (hN : N ≤ N_p) (hM : M ≤ M_p) : ry_xsc N_p M_p x := by
  match x, h with
  | .inl v, h => exact ry_sc.mono (v := v) h hN hM
  | .inr _, _ => exact trivial
theorem ry_csc.mono {N M N_p M_p : Nat} {x : ry_C} (h : ry_csc N M x) (hN : N ≤ N_p) (hM : M ≤ M_p) : ry_csc N_p M_p x := by
  match x, h with
  | .inl (_, fs), h => exact fun k f hk => ry_xsc.mono (h k f hk) hN hM
  | .inr (_, n, df, ov), h => exact fun j hj => ry_xsc.mono (h j hj) hN hM
theorem ry_ok_ext {N M : Nat} {r r_p : Nat → Int} {ad ad_p xa : Nat → Nat} {x : ry_X} {w : Value} (h : ry_ok r ad xa x w) (hs : ry_xsc N M x) (hr : ry_same N r r_p) (ha : ry_sameA M ad ad_p) : ry_ok r_p ad_p xa x w := by
  match x, h, hs with
  | .inl v, h, hs => exact h.trans (ry_iv_ext (v := v) hs hr ha).symm
  | .inr (0, lo, hi), h, _ => exact h
  | .inr (_ + 1, lo, hi), h, _ => exact h
theorem ry_cell_ext {N M : Nat} {cl : List vw_C} {tys : List (ClassId × FieldType)} {r r_p : Nat → Int} {ad ad_p xa : Nat → Nat} {x : ry_C} {e : va_E} (h : ry_cell cl tys r ad xa x e) (hs : ry_csc N M x) (hr : ry_same N r r_p) (ha : ry_sameA M ad ad_p) : ry_cell cl tys r_p ad_p xa x e := by
  match x, h, hs with
  | .inl (ci, fs), h, hs =>
    obtain ⟨vs, h1, h2, h3⟩ := h
    refine ⟨vs, h1, h2, fun k f hk => ?_⟩
    obtain ⟨w, h4, h5⟩ := h3 k f hk
    exact ⟨w, h4, ry_ok_ext h5 (hs k f hk) hr ha⟩
  | .inr (tc, n, df, ov), h, hs =>
    obtain ⟨cA, t0, c, h1, h2, h3, h4⟩ := h
    exact ⟨cA, t0, c, h1, h2, h3, fun j hj => ry_ok_ext (h4 j hj) (hs j hj) hr ha⟩
theorem ry_cell_tys {cl : List vw_C} {tys t2 : List (ClassId × FieldType)} {r : Nat → Int} {ad xa : Nat → Nat} {x : ry_C} {e : va_E} (h : ry_cell cl tys r ad xa x e) : ry_cell cl (tys ++ t2) r ad xa x e := by
  match x, h with
  | .inl (ci, fs), h => exact h
  | .inr (tc, n, df, ov), h =>
    obtain ⟨cA, t0, c, h1, h2, h3, h4⟩ := h
    exact ⟨cA, t0, c, h1, by rw [List.getElem?_append_left (List.getElem?_eq_some_iff.mp h2).1]; exact h2, h3, h4⟩
theorem ry_fact_ext {N : Nat} {r r_p : Nat → Int} {f : Nat × ry_E × ry_E} (h : ry_fact r f) (h1 : f.2.1.1 < N) (h2 : f.2.2.1 < N) (hr : ry_same N r r_p) : ry_fact r_p f := by
  have e1 : ry_ev r_p f.2.1 = ry_ev r f.2.1 := by unfold ry_ev; rw [hr _ h1]
  have e2 : ry_ev r_p f.2.2 = ry_ev r f.2.2 := by unfold ry_ev; rw [hr _ h2]
  unfold ry_fact at h ⊢
  rw [e1, e2]
  exact h
theorem ry_facts_ext {N : Nat} {r r_p : Nat → Int} {F : ry_F} (h : ry_facts F r) (hs : ry_fsc N F) (hr : ry_same N r r_p) : ry_facts F r_p := fun f hf => ry_fact_ext (h f hf) (hs f hf).1 (hs f hf).2 hr
theorem ry_W.ext {D : va_G} {cl : List vw_C} {A : Nat → Prop} {s : State} {xa : Nat → Nat} {N N_p : Nat} {ht : List ry_C} {r r_p : Nat → Int} {ad ad_p : Nat → Nat} {H0 H : Heap} {locs : List Loc} (h : ry_W D cl A s xa N ht r ad H0 H locs) (hN : N ≤ N_p) (hr : ry_same N r r_p) (ha : ry_sameA ht.length ad ad_p) : ry_W D cl A s xa N_p ht r_p ad_p H0 H locs := by
  obtain ⟨ws, tys, hK, hP, hD, hS, hl, hc⟩ := h
  refine ⟨ws, tys, hK, hP, hD, hS, hl, fun k x hk => ?_⟩
  obtain ⟨h1, e, h2, h3⟩ := hc k x hk
  have hk2 : k < ht.length := (List.getElem?_eq_some_iff.mp hk).1
  exact ⟨ry_csc.mono h1 hN (Nat.le_refl _), e, by rw [ha k hk2]; exact h2, ry_cell_ext h3 h1 hr ha⟩
noncomputable def ry_up (r : Nat → Int) (n : Nat) (z : Int) : Nat → Int := fun j => if j = n then z else r j
theorem ry_up_self {r : Nat → Int} {n : Nat} {z : Int} : ry_up r n z n = z := by simp [ry_up]
theorem ry_up_same {r : Nat → Int} {n : Nat} {z : Int} : ry_same n r (ry_up r n z) := fun j hj => by
  unfold ry_up
  rw [if_neg (Nat.ne_of_lt hj)]
theorem ry_sat_up {I : ry_I} {r : Nat → Int} {z lo hi : Int} (h : ry_sat I r) (h1 : lo ≤ z) (h2 : z ≤ hi) : ry_sat (I ++ [(lo, hi)]) (ry_up r I.length z) := by
  refine ⟨(ry_up_same 0 (ry_pos h)).trans h.1, by rw [List.length_append]; exact Nat.le_trans h.2.1 (Nat.le_add_right _ _), ?_⟩
  intro n a b hn
  by_cases hl : n < I.length
  · rw [List.getElem?_append_left hl] at hn
    rw [ry_up_same n hl]
    exact h.2.2 n a b hn
  · rw [List.getElem?_append_right (Nat.not_lt.mp hl)] at hn
    have hz : n - I.length < 1 := (List.getElem?_eq_some_iff.mp hn).1
    have e : n = I.length := by omega
    subst e
    rw [Nat.sub_self] at hn
    cases hn
    rw [ry_up_self]
    exact ⟨h1, h2⟩
-- numbers
theorem ry_i32 {z : Int} (h1 : -2147483648 ≤ z) (h2 : z ≤ 2147483647) : (Int32.ofInt z).toInt = z := Int32.toInt_ofInt_of_le (by omega) (by omega)
theorem ry_i64 {z : Int} (h1 : -9223372036854775808 ≤ z) (h2 : z ≤ 9223372036854775807) : (Int64.ofInt z).toInt = z := Int64.toInt_ofInt_of_le (by omega) (by omega)
theorem ry_b32 (x : Int32) : -2147483648 ≤ x.toInt ∧ x.toInt ≤ 2147483647 := by
  have h1 := x.toInt_lt
  have h2 := x.le_toInt
  omega
theorem ry_b64 (x : Int64) : -9223372036854775808 ≤ x.toInt ∧ x.toInt ≤ 9223372036854775807 := by
  have h1 := x.toInt_lt
  have h2 := x.le_toInt
  omega
-- bounds of a number
noncomputable def ry_bd (I : ry_I) (e : ry_E) : Option (Int × Int) := match I[e.1]? with
  | some (lo, hi) => some (lo + e.2, hi + e.2)
  | none => none
theorem ry_bd_ok {I : ry_I} {e : ry_E} {lo hi : Int} {r : Nat → Int} (h : ry_sat I r) (hb : ry_bd I e = some (lo, hi)) : lo ≤ ry_ev r e ∧ ry_ev r e ≤ hi ∧ e.1 < I.length := by
  unfold ry_bd at hb
  split at hb
  · rename_i a b he
    cases hb
    have := h.2.2 _ _ _ he
    unfold ry_ev
    refine ⟨by omega, by omega, (List.getElem?_eq_some_iff.mp he).1⟩
  · cases hb
noncomputable def ry_bi (I : ry_I) (e : ry_E) : Option (Int × Int) := match ry_bd I e with
  | some (lo, hi) => if -2147483648 ≤ lo ∧ hi ≤ 2147483647 then some (lo, hi) else none
  | none => none
theorem ry_bi_ok {I : ry_I} {e : ry_E} {lo hi : Int} {r : Nat → Int} (h : ry_sat I r) (hb : ry_bi I e = some (lo, hi)) : lo ≤ ry_ev r e ∧ ry_ev r e ≤ hi ∧ (Int32.ofInt (ry_ev r e)).toInt = ry_ev r e ∧ e.1 < I.length := by
  unfold ry_bi at hb
  split at hb
  · rename_i a b he
    split at hb
    · rename_i hc
      cases hb
      obtain ⟨h1, h2, h3⟩ := ry_bd_ok h he
      exact ⟨h1, h2, ry_i32 (by omega) (by omega), h3⟩
    · cases hb
  · cases hb
noncomputable def ry_bl (I : ry_I) (e : ry_E) : Option (Int × Int) := match ry_bd I e with
  | some (lo, hi) => if -9223372036854775808 ≤ lo ∧ hi ≤ 9223372036854775807 then some (lo, hi) else none
  | none => none
theorem ry_bl_ok {I : ry_I} {e : ry_E} {lo hi : Int} {r : Nat → Int} (h : ry_sat I r) (hb : ry_bl I e = some (lo, hi)) : lo ≤ ry_ev r e ∧ ry_ev r e ≤ hi ∧ (Int64.ofInt (ry_ev r e)).toInt = ry_ev r e ∧ e.1 < I.length := by
  unfold ry_bl at hb
  split at hb
  · rename_i a b he
    split at hb
    · rename_i hc
      cases hb
      obtain ⟨h1, h2, h3⟩ := ry_bd_ok h he
      exact ⟨h1, h2, ry_i64 (by omega) (by omega), h3⟩
    · cases hb
  · cases hb
-- what is learnt of a symbol
noncomputable def ry_cap (I : ry_I) (n : Nat) (a b : Int) : ry_I := match I[n]? with
  | some (lo, hi) => I.set n (if a ≤ lo then lo else a, if hi ≤ b then hi else b)
  | none => I
theorem ry_cap_len {I : ry_I} {n : Nat} {a b : Int} : (ry_cap I n a b).length = I.length := by
  unfold ry_cap
  split <;> simp
theorem ry_cap_ok {I : ry_I} {n : Nat} {a b : Int} {r : Nat → Int} (h : ry_sat I r) (h1 : a ≤ r n) (h2 : r n ≤ b) : ry_sat (ry_cap I n a b) r := by
  unfold ry_cap
  split
  · rename_i lo hi he
    refine ⟨h.1, by rw [List.length_set]; exact h.2.1, ?_⟩
    intro j x y hj
    by_cases hjn : j = n
    · subst hjn
      rw [List.getElem?_set_self (List.getElem?_eq_some_iff.mp he).1] at hj
      cases hj
      have := h.2.2 _ _ _ he
      refine ⟨?_, ?_⟩
      · split <;> omega
      · split <;> omega
    · rw [List.getElem?_set_ne (Ne.symm hjn)] at hj
      exact h.2.2 j x y hj
  · exact h
noncomputable def ry_can (I : ry_I) (n : Nat) : Bool := match I[n]? with
  | some (lo, hi) => decide (lo ≤ hi)
  | none => true
theorem ry_can_ok {I : ry_I} {n : Nat} {r : Nat → Int} (h : ry_sat I r) : ry_can I n = true := by
  unfold ry_can
  split
  · rename_i lo hi he
    have := h.2.2 _ _ _ he
    exact decide_eq_true (by omega)
  · rfl
noncomputable def ry_no (c : Nat) (a b : ry_E) (f : Nat × ry_E × ry_E) : Bool :=
  -- f: x < y or x ≤ y or x = y with x over b's symbol, y over a's: then b - x.2 .. : is a < b (0), a ≤ b (1), a = b (2) out
  if f.2.1.1 == b.1 && f.2.2.1 == a.1 then
    match f.1, c with
    | 0, 0 => decide (b.2 - f.2.1.2 ≤ a.2 - f.2.2.2 + 1)
    | 0, 1 => decide (b.2 - f.2.1.2 ≤ a.2 - f.2.2.2)
    | 0, 2 => decide (b.2 - f.2.1.2 ≤ a.2 - f.2.2.2)
    | 1, 0 => decide (b.2 - f.2.1.2 ≤ a.2 - f.2.2.2)
    | 1, 1 => decide (b.2 - f.2.1.2 < a.2 - f.2.2.2)
    | 1, 2 => decide (b.2 - f.2.1.2 < a.2 - f.2.2.2)
    | 2, 0 => decide (b.2 - f.2.1.2 ≤ a.2 - f.2.2.2)
    | 2, 1 => decide (b.2 - f.2.1.2 < a.2 - f.2.2.2)
    | 2, 2 => decide (¬ b.2 - f.2.1.2 = a.2 - f.2.2.2)
    | 2, 3 => decide (b.2 - f.2.1.2 = a.2 - f.2.2.2)
    | 3, 2 => decide (b.2 - f.2.1.2 = a.2 - f.2.2.2)
    | _, _ => false
  else false
theorem ry_no_ok {c : Nat} {a b : ry_E} {f : Nat × ry_E × ry_E} {r : Nat → Int} (hc : c ≤ 3) (hf : ry_fact r f) (hn : ry_fact r (c, a, b)) : ry_no c a b f = false := by
  obtain ⟨k, ⟨xn, xc⟩, ⟨yn, yc⟩⟩ := f
  obtain ⟨an, ac⟩ := a
  obtain ⟨bn, bc⟩ := b
  unfold ry_no
  split
  · rename_i he
    simp only [Bool.and_eq_true, beq_iff_eq] at he
    obtain ⟨e1, e2⟩ := he
    subst e1; subst e2
    rcases (show c = 0 ∨ c = 1 ∨ c = 2 ∨ c = 3 by omega) with rfl | rfl | rfl | rfl <;> rcases (show k = 0 ∨ k = 1 ∨ k = 2 ∨ k = 3 ∨ 4 ≤ k by omega) with rfl | rfl | rfl | rfl | hk <;> first
      | rfl
      | (obtain ⟨j, rfl⟩ := Nat.exists_eq_add_of_le hk
         rw [Nat.add_comm]
         rfl)
      | (first
          | have g1 : r xn + xc < r yn + yc := hf
          | have g1 : r xn + xc ≤ r yn + yc := hf
          | have g1 : r xn + xc = r yn + yc := hf
          | have g1 : r xn + xc ≠ r yn + yc := hf
         first
          | have g2 : r yn + ac < r xn + bc := hn
          | have g2 : r yn + ac ≤ r xn + bc := hn
          | have g2 : r yn + ac = r xn + bc := hn
          | have g2 : r yn + ac ≠ r xn + bc := hn
         exact decide_eq_false (by dsimp only; omega))
  · rfl
noncomputable def ry_rel (c : Nat) (x y : Int) : Bool := match c with
  | 0 => decide (x < y)
  | 1 => decide (x ≤ y)
  | 2 => decide (x = y)
  | _ => decide (¬ x = y)
noncomputable def ry_asmI (I : ry_I) (c : Nat) (a b : ry_E) (al ah bl bh : Int) : ry_I := match c with
  | 0 => ry_cap (ry_cap I a.1 (al - a.2) (bh - 1 - a.2)) b.1 (al + 1 - b.2) (bh - b.2)
  | 1 => ry_cap (ry_cap I a.1 (al - a.2) (bh - a.2)) b.1 (al - b.2) (bh - b.2)
  | 2 => ry_cap (ry_cap I a.1 (bl - a.2) (bh - a.2)) b.1 (al - b.2) (ah - b.2)
  | _ => if bl = bh then (if al = bl then ry_cap I a.1 (al + 1 - a.2) (ah - a.2) else if ah = bl then ry_cap I a.1 (al - a.2) (ah - 1 - a.2) else I)
    else if al = ah then (if bl = al then ry_cap I b.1 (bl + 1 - b.2) (bh - b.2) else if bh = al then ry_cap I b.1 (bl - b.2) (bh - 1 - b.2) else I) else I
noncomputable def ry_prop (I : ry_I) (f : Nat × ry_E × ry_E) : ry_I := match ry_bd I f.2.1, ry_bd I f.2.2 with
  | some (al, ah), some (bl, bh) => if f.1 ≤ 3 then ry_asmI I f.1 f.2.1 f.2.2 al ah bl bh else I
  | _, _ => I
noncomputable def ry_asm2 (I : ry_I) (F : ry_F) (c : Nat) (a b : ry_E) : Option (ry_I × ry_F) :=
  if ry_can I a.1 && ry_can I b.1 then some (I, if c = 3 ∨ (¬ a.1 = 0 ∧ ¬ b.1 = 0) then (c, a, b) :: F else F) else none
noncomputable def ry_asm (I : ry_I) (F : ry_F) (c : Nat) (a b : ry_E) (al ah bl bh : Int) : Option (ry_I × ry_F) :=
  if a.1 = b.1 then (if ry_rel c a.2 b.2 then some (I, F) else none)
  else if F.any (ry_no c a b) || ((c == 2 || c == 3) && F.any (ry_no c b a)) then none
  else ry_asm2 (F.foldl ry_prop (ry_asmI I c a b al ah bl bh)) F c a b
theorem ry_asmI_ok {I : ry_I} {c : Nat} {a b : ry_E} {al ah bl bh : Int} {r : Nat → Int} (hc : c ≤ 3) (h : ry_sat I r) (h1 : al ≤ ry_ev r a ∧ ry_ev r a ≤ ah) (h2 : bl ≤ ry_ev r b ∧ ry_ev r b ≤ bh) (hf : ry_fact r (c, a, b)) : ry_sat (ry_asmI I c a b al ah bl bh) r ∧ (ry_asmI I c a b al ah bl bh).length = I.length := by
  obtain ⟨an, ac⟩ := a
  obtain ⟨bn, bc⟩ := b
  have e1 : al ≤ r an + ac ∧ r an + ac ≤ ah := h1
  have e2 : bl ≤ r bn + bc ∧ r bn + bc ≤ bh := h2
  rcases (show c = 0 ∨ c = 1 ∨ c = 2 ∨ c = 3 by omega) with rfl | rfl | rfl | rfl
  · have g : r an + ac < r bn + bc := hf
    exact ⟨ry_cap_ok (ry_cap_ok h (by dsimp only; omega) (by dsimp only; omega)) (by dsimp only; omega) (by dsimp only; omega), ry_cap_len.trans ry_cap_len⟩
  · have g : r an + ac ≤ r bn + bc := hf
    exact ⟨ry_cap_ok (ry_cap_ok h (by dsimp only; omega) (by dsimp only; omega)) (by dsimp only; omega) (by dsimp only; omega), ry_cap_len.trans ry_cap_len⟩
  · have g : r an + ac = r bn + bc := hf
    exact ⟨ry_cap_ok (ry_cap_ok h (by dsimp only; omega) (by dsimp only; omega)) (by dsimp only; omega) (by dsimp only; omega), ry_cap_len.trans ry_cap_len⟩
  · have g : r an + ac ≠ r bn + bc := hf
    show ry_sat (if bl = bh then _ else _) r ∧ (if bl = bh then _ else _ : ry_I).length = I.length
    split
    · split
      · exact ⟨ry_cap_ok h (by dsimp only; omega) (by dsimp only; omega), ry_cap_len⟩
      · split
        · exact ⟨ry_cap_ok h (by dsimp only; omega) (by dsimp only; omega), ry_cap_len⟩
        · exact ⟨h, rfl⟩
    · split
      · split
        · exact ⟨ry_cap_ok h (by dsimp only; omega) (by dsimp only; omega), ry_cap_len⟩
        · split
          · exact ⟨ry_cap_ok h (by dsimp only; omega) (by dsimp only; omega), ry_cap_len⟩
          · exact ⟨h, rfl⟩
      · exact ⟨h, rfl⟩
theorem ry_prop_ok {I : ry_I} {f : Nat × ry_E × ry_E} {r : Nat → Int} (h : ry_sat I r) (hf : ry_fact r f) : ry_sat (ry_prop I f) r ∧ (ry_prop I f).length = I.length := by
  unfold ry_prop
  split
  · rename_i al ah bl bh e1 e2
    split
    · rename_i hc
      have q1 := ry_bd_ok h e1
      have q2 := ry_bd_ok h e2
      exact ry_asmI_ok hc h ⟨q1.1, q1.2.1⟩ ⟨q2.1, q2.2.1⟩ hf
    · exact ⟨h, rfl⟩
  · exact ⟨h, rfl⟩
theorem ry_prop_all {r : Nat → Int} : ∀ (F : ry_F) {I : ry_I}, ry_sat I r → ry_facts F r → ry_sat (F.foldl ry_prop I) r ∧ (F.foldl ry_prop I).length = I.length
  | [], _, h, _ => ⟨h, rfl⟩
  | f :: F, I, h, hF => by
    obtain ⟨h1, h2⟩ := ry_prop_ok (f := f) h (hF f List.mem_cons_self)
    obtain ⟨h3, h4⟩ := ry_prop_all F h1 (fun g hg => hF g (List.mem_cons_of_mem _ hg))
    exact ⟨h3, h4.trans h2⟩
noncomputable def ry_nm (I : ry_I) (e : ry_E) : ry_E := match I[e.1]? with
  | some (lo, hi) => if lo = hi then (0, lo + e.2) else e
  | none => e
theorem ry_nm_ok {I : ry_I} {e : ry_E} {r : Nat → Int} (h : ry_sat I r) : ry_ev r (ry_nm I e) = ry_ev r e ∧ (e.1 < I.length → (ry_nm I e).1 < I.length) := by
  unfold ry_nm
  split
  · rename_i lo hi he
    split
    · rename_i hc
      have := h.2.2 _ _ _ he
      refine ⟨?_, fun _ => ry_pos h⟩
      unfold ry_ev
      dsimp only
      rw [h.1]
      omega
    · exact ⟨rfl, id⟩
  · exact ⟨rfl, id⟩
theorem ry_rel_ok {c : Nat} {a b : ry_E} {r : Nat → Int} (hc : c ≤ 3) (hab : a.1 = b.1) (hf : ry_fact r (c, a, b)) : ry_rel c a.2 b.2 = true := by
  obtain ⟨an, ac⟩ := a
  obtain ⟨bn, bc⟩ := b
  have e : an = bn := hab
  subst e
  rcases (show c = 0 ∨ c = 1 ∨ c = 2 ∨ c = 3 by omega) with rfl | rfl | rfl | rfl
  · have g : r an + ac < r an + bc := hf
    exact decide_eq_true (by dsimp only; omega)
  · have g : r an + ac ≤ r an + bc := hf
    exact decide_eq_true (by dsimp only; omega)
  · have g : r an + ac = r an + bc := hf
    exact decide_eq_true (by dsimp only; omega)
  · have g : r an + ac ≠ r an + bc := hf
    exact decide_eq_true (by dsimp only; omega)
theorem ry_fact_sym {c : Nat} {a b : ry_E} {r : Nat → Int} (hc : c = 2 ∨ c = 3) (hf : ry_fact r (c, a, b)) : ry_fact r (c, b, a) := by
  rcases hc with rfl | rfl
  · exact Eq.symm (a := ry_ev r a) (b := ry_ev r b) hf
  · exact Ne.symm (a := ry_ev r a) (b := ry_ev r b) hf
theorem ry_asm_ok {I : ry_I} {F : ry_F} {c : Nat} {a b : ry_E} {al ah bl bh : Int} {r : Nat → Int} {N : Nat} (hc : c ≤ 3) (h : ry_sat I r) (hF : ry_facts F r) (hs : ry_fsc N F) (ha : a.1 < N) (hb : b.1 < N) (h1 : al ≤ ry_ev r a ∧ ry_ev r a ≤ ah) (h2 : bl ≤ ry_ev r b ∧ ry_ev r b ≤ bh) (hf : ry_fact r (c, a, b)) : ∃ (I2 : ry_I) (F2 : ry_F), ry_asm I F c a b al ah bl bh = some (I2, F2) ∧ ry_sat I2 r ∧ ry_facts F2 r ∧ ry_fsc N F2 ∧ I2.length = I.length := by
  unfold ry_asm
  split
  · rename_i hab
    rw [if_pos (ry_rel_ok hc hab hf)]
    exact ⟨I, F, rfl, h, hF, hs, rfl⟩
  · have hn : (F.any (ry_no c a b) || ((c == 2 || c == 3) && F.any (ry_no c b a))) = false := by
      rw [Bool.or_eq_false_iff]
      refine ⟨List.any_eq_false.mpr fun f hf2 => by rw [ry_no_ok hc (hF f hf2) hf]; exact Bool.false_ne_true, ?_⟩
      by_cases hcc : c = 2 ∨ c = 3
      · have : F.any (ry_no c b a) = false := List.any_eq_false.mpr fun f hf2 => by rw [ry_no_ok hc (hF f hf2) (ry_fact_sym hcc hf)]; exact Bool.false_ne_true
        rw [this, Bool.and_false]
      · have : (c == 2 || c == 3) = false := by
          rw [Bool.or_eq_false_iff]
          exact ⟨beq_false_of_ne fun q => hcc (Or.inl q), beq_false_of_ne fun q => hcc (Or.inr q)⟩
        rw [this, Bool.false_and]
    rw [hn]
    obtain ⟨g1, g2⟩ := ry_asmI_ok (I := I) hc h h1 h2 hf
    obtain ⟨k1, k2⟩ := ry_prop_all F g1 hF
    rw [if_neg Bool.false_ne_true]
    unfold ry_asm2
    rw [ry_can_ok k1, ry_can_ok k1]
    refine ⟨_, _, rfl, k1, ?_, ?_, k2.trans g2⟩
    · split
      · intro f hf2
        rcases List.mem_cons.mp hf2 with e | e
        · subst e; exact hf
        · exact hF f e
      · exact hF
    · split
      · intro f hf2
        rcases List.mem_cons.mp hf2 with e | e
        · subst e; exact ⟨ha, hb⟩
        · exact hs f e
      · exact hs
end
section
noncomputable def ry_op (o : Nat) (x y : Int32) : Int32 := match o with
  | 0 => x + y
  | 1 => x - y
  | 2 => x * y
  | 3 => x / y
  | 4 => x - x / y * y
  | 5 => x &&& y
  | 6 => x ||| y
  | 7 => x ^^^ y
  | 8 => x <<< (y &&& 31)
  | 9 => x >>> (y &&& 31)
  | _ => (x.toUInt32 >>> (y.toUInt32 &&& Int32.toUInt32 31)).toInt32
noncomputable def ry_opb (o : Nat) (al ah bl bh : Int) : Int × Int := match o with
  | 0 => if -2147483648 ≤ al + bl ∧ ah + bh ≤ 2147483647 then (al + bl, ah + bh) else (-2147483648, 2147483647)
  | 1 => if -2147483648 ≤ al - bh ∧ ah - bl ≤ 2147483647 then (al - bh, ah - bl) else (-2147483648, 2147483647)
  | 2 => if 0 ≤ al ∧ 0 ≤ bl ∧ ah * bh ≤ 2147483647 then (0, ah * bh) else (-2147483648, 2147483647)
  | 3 => if 0 ≤ al ∧ 0 < bl then (0, ah) else (-2147483648, 2147483647)
  | 4 => if 0 < bl then (if 0 ≤ al then (0, bh - 1) else (1 - bh, bh - 1)) else (-2147483648, 2147483647)
  | _ => (-2147483648, 2147483647)
theorem ry_mulb {a b ah bh : Int} (h0 : 0 ≤ a) (h1 : a ≤ ah) (h2 : 0 ≤ b) (h3 : b ≤ bh) : 0 ≤ a * b ∧ a * b ≤ ah * bh :=
  ⟨Int.mul_nonneg h0 h2, Int.le_trans (Int.mul_le_mul_of_nonneg_right h1 h2) (Int.mul_le_mul_of_nonneg_left h3 (Int.le_trans h0 h1))⟩
theorem ry_bmod {z : Int} (h1 : -2147483648 ≤ z) (h2 : z ≤ 2147483647) : z.bmod (2 ^ 32) = z := by
  simp only [Int.bmod]
  split <;> omega
theorem ry_opb_ok {o : Nat} {x y : Int32} {al ah bl bh : Int} (h1 : al ≤ x.toInt) (h2 : x.toInt ≤ ah) (h3 : bl ≤ y.toInt) (h4 : y.toInt ≤ bh) : (ry_opb o al ah bl bh).1 ≤ (ry_op o x y).toInt ∧ (ry_op o x y).toInt ≤ (ry_opb o al ah bl bh).2 := by
  have full : ∀ w : Int32, ((-2147483648, 2147483647) : Int × Int).1 ≤ w.toInt ∧ w.toInt ≤ ((-2147483648, 2147483647) : Int × Int).2 := fun w => ry_b32 w
  match o with
  | 0 =>
    show (if _ then _ else _ : Int × Int).1 ≤ (x + y).toInt ∧ (x + y).toInt ≤ (if _ then _ else _ : Int × Int).2
    split
    · rename_i h
      have e : (x + y).toInt = x.toInt + y.toInt := by
        rw [Int32.toInt_add]
        exact ry_bmod (by omega) (by omega)
      rw [e]
      exact ⟨by dsimp only; omega, by dsimp only; omega⟩
    · exact full _
  | 1 =>
    show (if _ then _ else _ : Int × Int).1 ≤ (x - y).toInt ∧ (x - y).toInt ≤ (if _ then _ else _ : Int × Int).2
    split
    · rename_i h
      have e : (x - y).toInt = x.toInt - y.toInt := by
        rw [Int32.toInt_sub]
        exact ry_bmod (by omega) (by omega)
      rw [e]
      exact ⟨by dsimp only; omega, by dsimp only; omega⟩
    · exact full _
  | 2 =>
    show (if _ then _ else _ : Int × Int).1 ≤ (x * y).toInt ∧ (x * y).toInt ≤ (if _ then _ else _ : Int × Int).2
    split
    · rename_i h
      obtain ⟨g1, g2⟩ := ry_mulb (a := x.toInt) (b := y.toInt) (by omega) h2 (by omega) h4
      have e : (x * y).toInt = x.toInt * y.toInt := by
        rw [Int32.toInt_mul]
        exact ry_bmod (by omega) (by omega)
      rw [e]
      exact ⟨g1, g2⟩
    · exact full _
  | 3 =>
    show (if _ then _ else _ : Int × Int).1 ≤ (x / y).toInt ∧ (x / y).toInt ≤ (if _ then _ else _ : Int × Int).2
    split
    · rename_i h
      have e : (x / y).toInt = x.toInt.tdiv y.toInt := by
        rw [Int32.toInt_div]
        refine ry_bmod ?_ ?_
        · have := Int.tdiv_nonneg (a := x.toInt) (b := y.toInt) (by omega) (by omega)
          omega
        · have := Int.tdiv_le_self (a := x.toInt) y.toInt (by omega)
          have := ry_b32 x
          omega
      rw [e]
      have g1 := Int.tdiv_nonneg (a := x.toInt) (b := y.toInt) (by omega) (by omega)
      have g2 := Int.tdiv_le_self (a := x.toInt) y.toInt (by omega)
      exact ⟨by dsimp only; omega, by dsimp only; omega⟩
    · exact full _
  | 4 =>
    show (if _ then _ else _ : Int × Int).1 ≤ (x - x / y * y).toInt ∧ (x - x / y * y).toInt ≤ (if _ then _ else _ : Int × Int).2
    rw [rem_toInt]
    split
    · rename_i h
      obtain ⟨g1, g2⟩ := tmod_bounds (a := x.toInt) (M := y.toInt) (by omega)
      split
      · rename_i h5
        have g3 := Int.tmod_nonneg (a := x.toInt) y.toInt (by omega)
        exact ⟨by dsimp only; omega, by dsimp only; omega⟩
      · exact ⟨by dsimp only; omega, by dsimp only; omega⟩
    · have := full (x - x / y * y)
      rw [rem_toInt] at this
      exact this
  | n + 5 => exact full _
noncomputable def ry_lit (e : ry_E) : Bool := e.1 == 0
theorem ry_lit_ok {I : ry_I} {e : ry_E} {r : Nat → Int} (h : ry_lit e = true) (hs : ry_sat I r) : ry_ev r e = e.2 := by
  unfold ry_lit at h
  rw [beq_iff_eq] at h
  unfold ry_ev
  rw [h, hs.1]
  omega
theorem ry_ev0 {I : ry_I} {r : Nat → Int} (hs : ry_sat I r) (z : Int) : ry_ev r (0, z) = z := by
  unfold ry_ev
  rw [hs.1]
  omega
noncomputable def ry_bin1 (o : Nat) (I : ry_I) (a b : ry_E) : Option (ry_I × ry_E) :=
  if ry_lit a && ry_lit b then some (I, 0, (ry_op o (Int32.ofInt a.2) (Int32.ofInt b.2)).toInt)
  else match ry_bi I a, ry_bi I b with
    | some (al, ah), some (bl, bh) =>
      if o = 0 ∧ ry_lit b = true ∧ -2147483648 ≤ al + b.2 ∧ ah + b.2 ≤ 2147483647 then some (I, a.1, a.2 + b.2)
      else if o = 0 ∧ ry_lit a = true ∧ -2147483648 ≤ bl + a.2 ∧ bh + a.2 ≤ 2147483647 then some (I, b.1, b.2 + a.2)
      else if o = 1 ∧ ry_lit b = true ∧ -2147483648 ≤ al - b.2 ∧ ah - b.2 ≤ 2147483647 then some (I, a.1, a.2 - b.2)
      else some (I ++ [ry_opb o al ah bl bh], I.length, 0)
    | _, _ => none
theorem ry_fresh {I : ry_I} {r : Nat → Int} {lo hi : Int} (x : Int32) (h : ry_sat I r) (h1 : lo ≤ x.toInt) (h2 : x.toInt ≤ hi) : ∃ r_p : Nat → Int, ry_same I.length r r_p ∧ ry_sat (I ++ [(lo, hi)]) r_p ∧ Int32.ofInt (ry_ev r_p (I.length, 0)) = x := by
  refine ⟨ry_up r I.length x.toInt, ry_up_same, ry_sat_up h h1 h2, ?_⟩
  unfold ry_ev
  rw [ry_up_self, Int.add_zero, Int32.ofInt_toInt]
theorem ry_freshL {I : ry_I} {r : Nat → Int} {lo hi : Int} (x : Int64) (h : ry_sat I r) (h1 : lo ≤ x.toInt) (h2 : x.toInt ≤ hi) : ∃ r_p : Nat → Int, ry_same I.length r r_p ∧ ry_sat (I ++ [(lo, hi)]) r_p ∧ Int64.ofInt (ry_ev r_p (I.length, 0)) = x := by
  refine ⟨ry_up r I.length x.toInt, ry_up_same, ry_sat_up h h1 h2, ?_⟩
  unfold ry_ev
  rw [ry_up_self, Int.add_zero, Int64.ofInt_toInt]
theorem ry_bin1_ok {o : Nat} {I I2 : ry_I} {a b e : ry_E} {r : Nat → Int} (h : ry_sat I r) (hb : ry_bin1 o I a b = some (I2, e)) : ∃ r_p : Nat → Int, ry_same I.length r r_p ∧ ry_sat I2 r_p ∧ Int32.ofInt (ry_ev r_p e) = ry_op o (Int32.ofInt (ry_ev r a)) (Int32.ofInt (ry_ev r b)) ∧ I.length ≤ I2.length ∧ e.1 < I2.length := by
  unfold ry_bin1 at hb
  split at hb
  · rename_i hc
    rw [Bool.and_eq_true] at hc
    have e1 := ry_lit_ok hc.1 h
    have e3 := ry_lit_ok hc.2 h
    cases hb
    refine ⟨r, ry_same.rf, h, ?_, Nat.le_refl _, ry_pos h⟩
    rw [ry_ev0 h, Int32.ofInt_toInt, e1, e3]
  · split at hb
    · rename_i al ah bl bh ha hbb
      obtain ⟨a1, a2, a3, a4⟩ := ry_bi_ok h ha
      obtain ⟨b1, b2, b3, b4⟩ := ry_bi_ok h hbb
      split at hb
      · rename_i hc
        obtain ⟨rfl, hc2, hc3, hc4⟩ := hc
        have e1 := ry_lit_ok hc2 h
        cases hb
        refine ⟨r, ry_same.rf, h, ?_, Nat.le_refl _, a4⟩
        show Int32.ofInt (ry_ev r (a.1, a.2 + b.2)) = Int32.ofInt (ry_ev r a) + Int32.ofInt (ry_ev r b)
        rw [← Int32.ofInt_add, e1]
        congr 1
        unfold ry_ev
        dsimp only
        omega
      · split at hb
        · rename_i hc
          obtain ⟨rfl, hc2, hc3, hc4⟩ := hc
          have e1 := ry_lit_ok hc2 h
          cases hb
          refine ⟨r, ry_same.rf, h, ?_, Nat.le_refl _, b4⟩
          show Int32.ofInt (ry_ev r (b.1, b.2 + a.2)) = Int32.ofInt (ry_ev r a) + Int32.ofInt (ry_ev r b)
          rw [← Int32.ofInt_add, e1]
          congr 1
          unfold ry_ev
          dsimp only
          omega
        · split at hb
          · rename_i hc
            obtain ⟨rfl, hc2, hc3, hc4⟩ := hc
            have e1 := ry_lit_ok hc2 h
            cases hb
            refine ⟨r, ry_same.rf, h, ?_, Nat.le_refl _, a4⟩
            show Int32.ofInt (ry_ev r (a.1, a.2 - b.2)) = Int32.ofInt (ry_ev r a) - Int32.ofInt (ry_ev r b)
            rw [← Int32.ofInt_sub, e1]
            congr 1
            unfold ry_ev
            dsimp only
            omega
          · cases hb
            obtain ⟨g1, g2⟩ := ry_opb_ok (o := o) (x := Int32.ofInt (ry_ev r a)) (y := Int32.ofInt (ry_ev r b)) (al := al) (ah := ah) (bl := bl) (bh := bh) (by rw [a3]; exact a1) (by rw [a3]; exact a2) (by rw [b3]; exact b1) (by rw [b3]; exact b2)
            obtain ⟨r_p, q1, q2, q3⟩ := ry_fresh (lo := (ry_opb o al ah bl bh).1) (hi := (ry_opb o al ah bl bh).2) (ry_op o (Int32.ofInt (ry_ev r a)) (Int32.ofInt (ry_ev r b))) h g1 g2
            exact ⟨r_p, q1, q2, q3, by simp, by simp⟩
    · cases hb
noncomputable def ry_bin (o : Nat) (I : ry_I) (a b : ry_E) : Option (ry_I × ry_E) := ry_bin1 o I (ry_nm I a) (ry_nm I b)
theorem ry_bin_ok {o : Nat} {I I2 : ry_I} {a b e : ry_E} {r : Nat → Int} (h : ry_sat I r) (hb : ry_bin o I a b = some (I2, e)) : ∃ r_p : Nat → Int, ry_same I.length r r_p ∧ ry_sat I2 r_p ∧ Int32.ofInt (ry_ev r_p e) = ry_op o (Int32.ofInt (ry_ev r a)) (Int32.ofInt (ry_ev r b)) ∧ I.length ≤ I2.length ∧ e.1 < I2.length := by
  have := ry_bin1_ok h hb
  rw [(ry_nm_ok (e := a) h).1, (ry_nm_ok (e := b) h).1] at this
  exact this
noncomputable def ry_opL (o : Nat) (x y : Int64) : Int64 := match o with
  | 0 => x + y
  | 1 => x - y
  | 2 => x * y
  | 3 => x / y
  | 4 => x - x / y * y
  | 5 => x &&& y
  | 6 => x ||| y
  | _ => x ^^^ y
noncomputable def ry_binL1 (o : Nat) (I : ry_I) (a b : ry_E) : ry_I × ry_E :=
  if ry_lit a && ry_lit b then (I, 0, (ry_opL o (Int64.ofInt a.2) (Int64.ofInt b.2)).toInt)
  else if o = 0 ∧ ry_lit b = true ∧ a.1 < I.length then (I, a.1, a.2 + b.2)
  else if o = 0 ∧ ry_lit a = true ∧ b.1 < I.length then (I, b.1, b.2 + a.2)
  else if o = 1 ∧ ry_lit b = true ∧ a.1 < I.length then (I, a.1, a.2 - b.2)
  else (I ++ [(-9223372036854775808, 9223372036854775807)], I.length, 0)
theorem ry_binL1_ok {o : Nat} {I : ry_I} {a b : ry_E} {r : Nat → Int} (h : ry_sat I r) : ∃ r_p : Nat → Int, ry_same I.length r r_p ∧ ry_sat (ry_binL1 o I a b).1 r_p ∧ Int64.ofInt (ry_ev r_p (ry_binL1 o I a b).2) = ry_opL o (Int64.ofInt (ry_ev r a)) (Int64.ofInt (ry_ev r b)) ∧ I.length ≤ (ry_binL1 o I a b).1.length ∧ (ry_binL1 o I a b).2.1 < (ry_binL1 o I a b).1.length := by
  unfold ry_binL1
  split
  · rename_i hc
    rw [Bool.and_eq_true] at hc
    have e1 := ry_lit_ok hc.1 h
    have e3 := ry_lit_ok hc.2 h
    refine ⟨r, ry_same.rf, h, ?_, Nat.le_refl _, ry_pos h⟩
    dsimp only
    rw [ry_ev0 h, Int64.ofInt_toInt, e1, e3]
  · split
    · rename_i hc
      obtain ⟨ho, hl, hs⟩ := hc
      subst ho
      refine ⟨r, ry_same.rf, h, ?_, Nat.le_refl _, hs⟩
      rw [ry_lit_ok hl h]
      show Int64.ofInt (r a.1 + (a.2 + b.2)) = Int64.ofInt (r a.1 + a.2) + Int64.ofInt b.2
      rw [← Int64.ofInt_add, Int.add_assoc]
    · split
      · rename_i hc
        obtain ⟨ho, hl, hs⟩ := hc
        subst ho
        refine ⟨r, ry_same.rf, h, ?_, Nat.le_refl _, hs⟩
        rw [ry_lit_ok hl h]
        show Int64.ofInt (r b.1 + (b.2 + a.2)) = Int64.ofInt a.2 + Int64.ofInt (r b.1 + b.2)
        rw [← Int64.ofInt_add]
        congr 1
        omega
      · split
        · rename_i hc
          obtain ⟨ho, hl, hs⟩ := hc
          subst ho
          refine ⟨r, ry_same.rf, h, ?_, Nat.le_refl _, hs⟩
          rw [ry_lit_ok hl h]
          show Int64.ofInt (r a.1 + (a.2 - b.2)) = Int64.ofInt (r a.1 + a.2) - Int64.ofInt b.2
          rw [← Int64.ofInt_sub]
          congr 1
          omega
        · obtain ⟨r_p, q1, q2, q3⟩ := ry_freshL (lo := -9223372036854775808) (hi := 9223372036854775807) (ry_opL o (Int64.ofInt (ry_ev r a)) (Int64.ofInt (ry_ev r b))) h (ry_b64 _).1 (ry_b64 _).2
          exact ⟨r_p, q1, q2, q3, by simp, by simp⟩
noncomputable def ry_binL (o : Nat) (I : ry_I) (a b : ry_E) : ry_I × ry_E := ry_binL1 o I (ry_nm I a) (ry_nm I b)
theorem ry_binL_ok {o : Nat} {I : ry_I} {a b : ry_E} {r : Nat → Int} (h : ry_sat I r) : ∃ r_p : Nat → Int, ry_same I.length r r_p ∧ ry_sat (ry_binL o I a b).1 r_p ∧ Int64.ofInt (ry_ev r_p (ry_binL o I a b).2) = ry_opL o (Int64.ofInt (ry_ev r a)) (Int64.ofInt (ry_ev r b)) ∧ I.length ≤ (ry_binL o I a b).1.length ∧ (ry_binL o I a b).2.1 < (ry_binL o I a b).1.length := by
  have := ry_binL1_ok (o := o) (a := ry_nm I a) (b := ry_nm I b) h
  rw [(ry_nm_ok (e := a) h).1, (ry_nm_ok (e := b) h).1] at this
  exact this
end
section
noncomputable abbrev ry_Z : Type := ry_I × ry_F × List ry_C × Nat × Nat × Nat × List (Nat × ry_V) × List ry_V
noncomputable def ry_n (z : Int) : ry_V := .inr (0, (0, z))
noncomputable def ry_k2 (v : ry_V) : Bool := match v with
  | .inr (1, _) => true
  | _ => false
noncomputable def ry_lvs (r : Nat → Int) (ad xa : Nat → Nat) (lv : List (Nat × ry_V)) : List (Nat × Value) := lv.map (fun q => (q.1, ry_iv r ad xa q.2))
noncomputable def ry_del (lv : List (Nat × ry_V)) (i : Nat) : List (Nat × ry_V) := lv.filter (fun q => !(q.1 == i) && !(q.1 + 1 == i && ry_k2 q.2))
noncomputable def ry_del2 (lv : List (Nat × ry_V)) (i : Nat) : List (Nat × ry_V) := lv.filter (fun q => !(q.1 == i) && (!(q.1 == i + 1) && !(q.1 + 1 == i && ry_k2 q.2)))
theorem ry_cat {r : Nat → Int} {ad xa : Nat → Nat} {v : ry_V} (h : ry_k2 v = false) : (ry_iv r ad xa v).category = 1 := by
  match v, h with
  | .inl none, _ => rfl
  | .inl (some k), _ => rfl
  | .inr (0, e), _ => rfl
  | .inr (1, e), h => exact absurd (show true = false from h) (fun q => Bool.false_ne_true q.symm)
  | .inr (_ + 2, e), _ => rfl
theorem ry_cat2 {r : Nat → Int} {ad xa : Nat → Nat} {v : ry_V} (h : ry_k2 v = true) : (ry_iv r ad xa v).category = 2 := by
  match v, h with
  | .inl none, h => exact absurd (show false = true from h) Bool.false_ne_true
  | .inl (some k), h => exact absurd (show false = true from h) Bool.false_ne_true
  | .inr (0, e), h => exact absurd (show false = true from h) Bool.false_ne_true
  | .inr (1, e), _ => rfl
  | .inr (_ + 2, e), h => exact absurd (show false = true from h) Bool.false_ne_true
theorem ry_cateq {r : Nat → Int} {ad xa : Nat → Nat} {v : ry_V} : ((ry_iv r ad xa v).category == 2) = ry_k2 v := by
  cases h : ry_k2 v with
  | false => rw [ry_cat h]; rfl
  | true => rw [ry_cat2 h]; rfl
theorem ry_lv_get {r : Nat → Int} {ad xa : Nat → Nat} {lv : List (Nat × ry_V)} {ls : Array Slot} {nL i : Nat} {v : ry_V} (h : lv_has ls nL (ry_lvs r ad xa lv)) (hv : ry_lk lv i = some v) : ls[i]? = some (.val (ry_iv r ad xa v)) :=
  h.2.2 (i, ry_iv r ad xa v) (List.mem_map.mpr ⟨(i, v), ry_lk_mem hv, rfl⟩)
theorem ry_lv_of {r : Nat → Int} {ad xa : Nat → Nat} {lv_p : List (Nat × ry_V)} {ls : Array Slot} {nL i : Nat} {v : ry_V} {L : List (Nat × Value)} (h : lv_has ls nL ((i, ry_iv r ad xa v) :: L)) (hL : ∀ q ∈ lv_p, (q.1, ry_iv r ad xa q.2) ∈ L) : lv_has ls nL (ry_lvs r ad xa ((i, v) :: lv_p)) := by
  refine ⟨h.1, h.2.1, fun q hq => ?_⟩
  obtain ⟨y, hy, rfl⟩ := List.mem_map.mp hq
  rcases List.mem_cons.mp hy with e | e
  · subst e
    exact h.2.2 _ List.mem_cons_self
  · exact h.2.2 _ (List.mem_cons_of_mem _ (hL y e))
theorem ry_lv_st {r : Nat → Int} {ad xa : Nat → Nat} {lv : List (Nat × ry_V)} {ls : Array Slot} {nL i : Nat} {v : ry_V} (h : lv_has ls nL ((i, ry_iv r ad xa v) :: (ry_lvs r ad xa lv).filter (fun q => !(q.1 == i) && !(q.1 + 1 == i && q.2.category == 2)))) : lv_has ls nL (ry_lvs r ad xa ((i, v) :: ry_del lv i)) := by
  refine ry_lv_of h fun q hq => ?_
  obtain ⟨h1, h2⟩ := List.mem_filter.mp hq
  refine List.mem_filter.mpr ⟨List.mem_map.mpr ⟨q, h1, rfl⟩, ?_⟩
  dsimp only
  rw [ry_cateq]
  exact h2
theorem ry_lv_st2 {r : Nat → Int} {ad xa : Nat → Nat} {lv : List (Nat × ry_V)} {ls : Array Slot} {nL i : Nat} {v : ry_V} (h : lv_has ls nL ((i, ry_iv r ad xa v) :: (ry_lvs r ad xa lv).filter (fun q => !(q.1 == i) && (!(q.1 == i + 1) && !(q.1 + 1 == i && q.2.category == 2))))) : lv_has ls nL (ry_lvs r ad xa ((i, v) :: ry_del2 lv i)) := by
  refine ry_lv_of h fun q hq => ?_
  obtain ⟨h1, h2⟩ := List.mem_filter.mp hq
  refine List.mem_filter.mpr ⟨List.mem_map.mpr ⟨q, h1, rfl⟩, ?_⟩
  dsimp only
  rw [ry_cateq]
  exact h2
theorem ry_lvs_ext {N M : Nat} {r r_p : Nat → Int} {ad ad_p xa : Nat → Nat} {lv : List (Nat × ry_V)} (h : ∀ q ∈ lv, ry_sc N M q.2) (hr : ry_same N r r_p) (ha : ry_sameA M ad ad_p) : ry_lvs r_p ad_p xa lv = ry_lvs r ad xa lv :=
  List.map_congr_left fun q hq => by rw [ry_iv_ext (h q hq) hr ha]
theorem ry_st_ext {N M : Nat} {r r_p : Nat → Int} {ad ad_p xa : Nat → Nat} {st : List ry_V} (h : ∀ v ∈ st, ry_sc N M v) (hr : ry_same N r r_p) (ha : ry_sameA M ad ad_p) : st.map (ry_iv r_p ad_p xa) = st.map (ry_iv r ad xa) :=
  List.map_congr_left fun v hv => ry_iv_ext (h v hv) hr ha
noncomputable def ry_R (D : va_G) (cl : List vw_C) (A : Nat → Prop) (s : State) (xa : Nat → Nat) (nL : Nat) (H0 : Heap) (z : ry_Z) (r : Nat → Int) (ad : Nat → Nat) (H : Heap) (locs : List Loc) (ls : Array Slot) : Prop :=
  ry_sat z.1 r ∧ ry_facts z.2.1 r ∧ ry_fsc z.1.length z.2.1 ∧ ry_W D cl A s xa z.1.length z.2.2.1 r ad H0 H locs ∧ lv_has ls nL (ry_lvs r ad xa z.2.2.2.2.2.2.1) ∧ (∀ q ∈ z.2.2.2.2.2.2.1, ry_sc z.1.length z.2.2.1.length q.2) ∧ ∀ v ∈ z.2.2.2.2.2.2.2, ry_sc z.1.length z.2.2.1.length v
noncomputable def ry_G (p : Program) (l : Launch) (e : Env) (R : Room) (s : State) (m : MethodId) (args : Array Value) (below : List Frame) (meth : Method) (c : Code) (Q : State → Prop) (D : va_G) (cl : List vw_C) (A : Nat → Prop) (xa : Nat → Nat) (nL : Nat) (H0 : Heap) (N M : Nat) (r : Nat → Int) (ad : Nat → Nat) (z : ry_Z) : Prop :=
  ∀ (r_p : Nat → Int) (ad_p : Nat → Nat) (H : Heap) (locs : List Loc) (ls : Array Slot), N ≤ z.1.length → M ≤ z.2.2.1.length → ry_same N r r_p → ry_sameA M ad ad_p → ry_R D cl A s xa nL H0 z r_p ad_p H locs ls →
    W p l e R s m args below meth c H locs z.2.2.2.1 z.2.2.2.2.1 Q (F0 m z.2.2.2.2.2.1 ls (z.2.2.2.2.2.2.2.map (ry_iv r_p ad_p xa)))
noncomputable def ry_cnd (c : Jvm.ClassFile.Cond) (a b : ry_E) : (Nat × ry_E × ry_E) × (Nat × ry_E × ry_E) := match c with
  | .eq => ((2, a, b), (3, a, b))
  | .ne => ((3, a, b), (2, a, b))
  | .lt => ((0, a, b), (1, b, a))
  | .ge => ((1, b, a), (0, a, b))
  | .gt => ((0, b, a), (1, a, b))
  | .le => ((1, a, b), (0, b, a))
end
