section
-- ===== PART A: goes FIRST, ahead of the names: the tables' words, and 'selects' of the private methods out of them =====
/-- a private method of a class that the tables say can be made, by its rows of tables_1 -/
def lw_okq (q : MethodName × Nat) : Prop := (q.1.cls ≠ "java/lang/invoke/MethodHandle" ∧ q.1.cls ≠ "java/lang/invoke/VarHandle") ∧ Cond.instantiable q.1.cls q.2 ∈ tables_1 ∧ Cond.privateMethod q.1 ∈ tables_1 ∧ Cond.instanceMethod q.1 ∈ tables_1
theorem lw_p0 : lw_okq (⟨"QueryLoops$Tables", "cellOf", "(III)I"⟩, 4) := ⟨⟨by decide +kernel, by decide +kernel⟩, List.mem_of_getElem? (i := 36) (by decide +kernel), List.mem_of_getElem? (i := 473) (by decide +kernel), List.mem_of_getElem? (i := 474) (by decide +kernel)⟩
theorem lw_p1 : lw_okq (⟨"java/lang/Throwable", "fillInStackTrace", "(I)Ljava/lang/Throwable;"⟩, 6) := ⟨⟨by decide +kernel, by decide +kernel⟩, List.mem_of_getElem? (i := 527) (by decide +kernel), List.mem_of_getElem? (i := 525) (by decide +kernel), List.mem_of_getElem? (i := 526) (by decide +kernel)⟩
theorem lw_p2 : lw_okq (⟨"QueryLoops$Text", "codeAt", "(I)C"⟩, 2) := ⟨⟨by decide +kernel, by decide +kernel⟩, List.mem_of_getElem? (i := 73) (by decide +kernel), List.mem_of_getElem? (i := 588) (by decide +kernel), List.mem_of_getElem? (i := 589) (by decide +kernel)⟩
theorem lw_p3 : lw_okq (⟨"QueryLoops$Text", "readToken", "(ILQueryLoops$Tokens;)I"⟩, 2) := ⟨⟨by decide +kernel, by decide +kernel⟩, List.mem_of_getElem? (i := 73) (by decide +kernel), List.mem_of_getElem? (i := 592) (by decide +kernel), List.mem_of_getElem? (i := 593) (by decide +kernel)⟩
theorem lw_p4 : lw_okq (⟨"QueryLoops$Text", "endOfWord", "(I)I"⟩, 2) := ⟨⟨by decide +kernel, by decide +kernel⟩, List.mem_of_getElem? (i := 73) (by decide +kernel), List.mem_of_getElem? (i := 599) (by decide +kernel), List.mem_of_getElem? (i := 600) (by decide +kernel)⟩
theorem lw_p5 : lw_okq (⟨"QueryLoops$Text", "wordKind", "(II)I"⟩, 2) := ⟨⟨by decide +kernel, by decide +kernel⟩, List.mem_of_getElem? (i := 73) (by decide +kernel), List.mem_of_getElem? (i := 603) (by decide +kernel), List.mem_of_getElem? (i := 604) (by decide +kernel)⟩
theorem lw_p6 : lw_okq (⟨"QueryLoops$Text", "spells", "(IILjava/lang/String;)Z"⟩, 2) := ⟨⟨by decide +kernel, by decide +kernel⟩, List.mem_of_getElem? (i := 73) (by decide +kernel), List.mem_of_getElem? (i := 608) (by decide +kernel), List.mem_of_getElem? (i := 609) (by decide +kernel)⟩
theorem lw_p7 : lw_okq (⟨"QueryLoops$Text", "readNumeral", "(ILQueryLoops$Tokens;)I"⟩, 2) := ⟨⟨by decide +kernel, by decide +kernel⟩, List.mem_of_getElem? (i := 73) (by decide +kernel), List.mem_of_getElem? (i := 682) (by decide +kernel), List.mem_of_getElem? (i := 683) (by decide +kernel)⟩
theorem lw_p8 : lw_okq (⟨"QueryLoops$Parser", "readOuts", "()Z"⟩, 5) := ⟨⟨by decide +kernel, by decide +kernel⟩, List.mem_of_getElem? (i := 226) (by decide +kernel), List.mem_of_getElem? (i := 788) (by decide +kernel), List.mem_of_getElem? (i := 789) (by decide +kernel)⟩
theorem lw_p9 : lw_okq (⟨"QueryLoops$Parser", "readOut", "()Z"⟩, 5) := ⟨⟨by decide +kernel, by decide +kernel⟩, List.mem_of_getElem? (i := 226) (by decide +kernel), List.mem_of_getElem? (i := 792) (by decide +kernel), List.mem_of_getElem? (i := 793) (by decide +kernel)⟩
theorem lw_p10 : lw_okq (⟨"QueryLoops$Parser", "readColumn", "()I"⟩, 5) := ⟨⟨by decide +kernel, by decide +kernel⟩, List.mem_of_getElem? (i := 226) (by decide +kernel), List.mem_of_getElem? (i := 802) (by decide +kernel), List.mem_of_getElem? (i := 803) (by decide +kernel)⟩
theorem lw_p11 : lw_okq (⟨"QueryLoops$Parser", "readItem", "(Z)Z"⟩, 5) := ⟨⟨by decide +kernel, by decide +kernel⟩, List.mem_of_getElem? (i := 226) (by decide +kernel), List.mem_of_getElem? (i := 817) (by decide +kernel), List.mem_of_getElem? (i := 818) (by decide +kernel)⟩
theorem lw_p12 : lw_okq (⟨"QueryLoops$Parser", "readJoined", "()Z"⟩, 5) := ⟨⟨by decide +kernel, by decide +kernel⟩, List.mem_of_getElem? (i := 226) (by decide +kernel), List.mem_of_getElem? (i := 825) (by decide +kernel), List.mem_of_getElem? (i := 826) (by decide +kernel)⟩
theorem lw_p13 : lw_okq (⟨"QueryLoops$Parser", "readCondition", "(I)Z"⟩, 5) := ⟨⟨by decide +kernel, by decide +kernel⟩, List.mem_of_getElem? (i := 226) (by decide +kernel), List.mem_of_getElem? (i := 829) (by decide +kernel), List.mem_of_getElem? (i := 830) (by decide +kernel)⟩
theorem lw_p14 : lw_okq (⟨"QueryLoops$Parser", "readConjunction", "(I)Z"⟩, 5) := ⟨⟨by decide +kernel, by decide +kernel⟩, List.mem_of_getElem? (i := 226) (by decide +kernel), List.mem_of_getElem? (i := 841) (by decide +kernel), List.mem_of_getElem? (i := 842) (by decide +kernel)⟩
theorem lw_p15 : lw_okq (⟨"QueryLoops$Parser", "readPart", "(I)Z"⟩, 5) := ⟨⟨by decide +kernel, by decide +kernel⟩, List.mem_of_getElem? (i := 226) (by decide +kernel), List.mem_of_getElem? (i := 845) (by decide +kernel), List.mem_of_getElem? (i := 846) (by decide +kernel)⟩
def lw_privs_1 : List (MethodName × Nat) := [(⟨"QueryLoops$Tables", "cellOf", "(III)I"⟩, 4), (⟨"java/lang/Throwable", "fillInStackTrace", "(I)Ljava/lang/Throwable;"⟩, 6), (⟨"QueryLoops$Text", "codeAt", "(I)C"⟩, 2), (⟨"QueryLoops$Text", "readToken", "(ILQueryLoops$Tokens;)I"⟩, 2), (⟨"QueryLoops$Text", "endOfWord", "(I)I"⟩, 2), (⟨"QueryLoops$Text", "wordKind", "(II)I"⟩, 2), (⟨"QueryLoops$Text", "spells", "(IILjava/lang/String;)Z"⟩, 2), (⟨"QueryLoops$Text", "readNumeral", "(ILQueryLoops$Tokens;)I"⟩, 2), (⟨"QueryLoops$Parser", "readOuts", "()Z"⟩, 5), (⟨"QueryLoops$Parser", "readOut", "()Z"⟩, 5), (⟨"QueryLoops$Parser", "readColumn", "()I"⟩, 5), (⟨"QueryLoops$Parser", "readItem", "(Z)Z"⟩, 5), (⟨"QueryLoops$Parser", "readJoined", "()Z"⟩, 5), (⟨"QueryLoops$Parser", "readCondition", "(I)Z"⟩, 5), (⟨"QueryLoops$Parser", "readConjunction", "(I)Z"⟩, 5), (⟨"QueryLoops$Parser", "readPart", "(I)Z"⟩, 5)]
theorem lw_r1 : ∀ q ∈ lw_privs_1, lw_okq q := List.forall_mem_cons.mpr ⟨lw_p0, List.forall_mem_cons.mpr ⟨lw_p1, List.forall_mem_cons.mpr ⟨lw_p2, List.forall_mem_cons.mpr ⟨lw_p3, List.forall_mem_cons.mpr ⟨lw_p4, List.forall_mem_cons.mpr ⟨lw_p5, List.forall_mem_cons.mpr ⟨lw_p6, List.forall_mem_cons.mpr ⟨lw_p7, List.forall_mem_cons.mpr ⟨lw_p8, List.forall_mem_cons.mpr ⟨lw_p9, List.forall_mem_cons.mpr ⟨lw_p10, List.forall_mem_cons.mpr ⟨lw_p11, List.forall_mem_cons.mpr ⟨lw_p12, List.forall_mem_cons.mpr ⟨lw_p13, List.forall_mem_cons.mpr ⟨lw_p14, List.forall_mem_cons.mpr ⟨lw_p15, fun _ h => absurd h List.not_mem_nil⟩⟩⟩⟩⟩⟩⟩⟩⟩⟩⟩⟩⟩⟩⟩⟩
theorem lw_p16 : lw_okq (⟨"QueryLoops$Parser", "readTest", "(I)Z"⟩, 5) := ⟨⟨by decide +kernel, by decide +kernel⟩, List.mem_of_getElem? (i := 226) (by decide +kernel), List.mem_of_getElem? (i := 849) (by decide +kernel), List.mem_of_getElem? (i := 850) (by decide +kernel)⟩
theorem lw_p17 : lw_okq (⟨"QueryLoops$Parser", "readComparison", "()Z"⟩, 5) := ⟨⟨by decide +kernel, by decide +kernel⟩, List.mem_of_getElem? (i := 226) (by decide +kernel), List.mem_of_getElem? (i := 853) (by decide +kernel), List.mem_of_getElem? (i := 854) (by decide +kernel)⟩
theorem lw_p18 : lw_okq (⟨"QueryLoops$Parser", "readOperand", "()I"⟩, 5) := ⟨⟨by decide +kernel, by decide +kernel⟩, List.mem_of_getElem? (i := 226) (by decide +kernel), List.mem_of_getElem? (i := 857) (by decide +kernel), List.mem_of_getElem? (i := 858) (by decide +kernel)⟩
theorem lw_p19 : lw_okq (⟨"QueryLoops$Parser", "notePart", "(III)V"⟩, 5) := ⟨⟨by decide +kernel, by decide +kernel⟩, List.mem_of_getElem? (i := 226) (by decide +kernel), List.mem_of_getElem? (i := 874) (by decide +kernel), List.mem_of_getElem? (i := 875) (by decide +kernel)⟩
theorem lw_p20 : lw_okq (⟨"QueryLoops$Parser", "readWhere", "()Z"⟩, 5) := ⟨⟨by decide +kernel, by decide +kernel⟩, List.mem_of_getElem? (i := 226) (by decide +kernel), List.mem_of_getElem? (i := 882) (by decide +kernel), List.mem_of_getElem? (i := 883) (by decide +kernel)⟩
theorem lw_p21 : lw_okq (⟨"QueryLoops$Parser", "readGroup", "()Z"⟩, 5) := ⟨⟨by decide +kernel, by decide +kernel⟩, List.mem_of_getElem? (i := 226) (by decide +kernel), List.mem_of_getElem? (i := 886) (by decide +kernel), List.mem_of_getElem? (i := 887) (by decide +kernel)⟩
theorem lw_p22 : lw_okq (⟨"QueryLoops$Checker", "checkItems", "()V"⟩, 4) := ⟨⟨by decide +kernel, by decide +kernel⟩, List.mem_of_getElem? (i := 256) (by decide +kernel), List.mem_of_getElem? (i := 898) (by decide +kernel), List.mem_of_getElem? (i := 899) (by decide +kernel)⟩
theorem lw_p23 : lw_okq (⟨"QueryLoops$Checker", "noteIll", "(I)V"⟩, 4) := ⟨⟨by decide +kernel, by decide +kernel⟩, List.mem_of_getElem? (i := 256) (by decide +kernel), List.mem_of_getElem? (i := 918) (by decide +kernel), List.mem_of_getElem? (i := 919) (by decide +kernel)⟩
theorem lw_p24 : lw_okq (⟨"QueryLoops$Checker", "checkColumns", "()V"⟩, 4) := ⟨⟨by decide +kernel, by decide +kernel⟩, List.mem_of_getElem? (i := 256) (by decide +kernel), List.mem_of_getElem? (i := 934) (by decide +kernel), List.mem_of_getElem? (i := 935) (by decide +kernel)⟩
theorem lw_p25 : lw_okq (⟨"QueryLoops$Checker", "checkOuts", "()V"⟩, 4) := ⟨⟨by decide +kernel, by decide +kernel⟩, List.mem_of_getElem? (i := 256) (by decide +kernel), List.mem_of_getElem? (i := 967) (by decide +kernel), List.mem_of_getElem? (i := 968) (by decide +kernel)⟩
theorem lw_p26 : lw_okq (⟨"QueryLoops$Steps", "lastItemIn", "(II)I"⟩, 11) := ⟨⟨by decide +kernel, by decide +kernel⟩, List.mem_of_getElem? (i := 146) (by decide +kernel), List.mem_of_getElem? (i := 1007) (by decide +kernel), List.mem_of_getElem? (i := 1008) (by decide +kernel)⟩
theorem lw_p27 : lw_okq (⟨"QueryLoops$Loops", "begin", "(I)V"⟩, 9) := ⟨⟨by decide +kernel, by decide +kernel⟩, List.mem_of_getElem? (i := 296) (by decide +kernel), List.mem_of_getElem? (i := 1041) (by decide +kernel), List.mem_of_getElem? (i := 1042) (by decide +kernel)⟩
theorem lw_p28 : lw_okq (⟨"QueryLoops$Loops", "goThrough", "(I)Z"⟩, 9) := ⟨⟨by decide +kernel, by decide +kernel⟩, List.mem_of_getElem? (i := 296) (by decide +kernel), List.mem_of_getElem? (i := 1066) (by decide +kernel), List.mem_of_getElem? (i := 1067) (by decide +kernel)⟩
theorem lw_p29 : lw_okq (⟨"QueryLoops$Loops", "gather", "()Z"⟩, 9) := ⟨⟨by decide +kernel, by decide +kernel⟩, List.mem_of_getElem? (i := 296) (by decide +kernel), List.mem_of_getElem? (i := 1071) (by decide +kernel), List.mem_of_getElem? (i := 1072) (by decide +kernel)⟩
theorem lw_p30 : lw_okq (⟨"QueryLoops$Loops", "lineOfGroup", "()I"⟩, 9) := ⟨⟨by decide +kernel, by decide +kernel⟩, List.mem_of_getElem? (i := 296) (by decide +kernel), List.mem_of_getElem? (i := 1075) (by decide +kernel), List.mem_of_getElem? (i := 1076) (by decide +kernel)⟩
theorem lw_p31 : lw_okq (⟨"QueryLoops$Loops", "isOfGroup", "(I)Z"⟩, 9) := ⟨⟨by decide +kernel, by decide +kernel⟩, List.mem_of_getElem? (i := 296) (by decide +kernel), List.mem_of_getElem? (i := 1080) (by decide +kernel), List.mem_of_getElem? (i := 1081) (by decide +kernel)⟩
def lw_privs_2 : List (MethodName × Nat) := [(⟨"QueryLoops$Parser", "readTest", "(I)Z"⟩, 5), (⟨"QueryLoops$Parser", "readComparison", "()Z"⟩, 5), (⟨"QueryLoops$Parser", "readOperand", "()I"⟩, 5), (⟨"QueryLoops$Parser", "notePart", "(III)V"⟩, 5), (⟨"QueryLoops$Parser", "readWhere", "()Z"⟩, 5), (⟨"QueryLoops$Parser", "readGroup", "()Z"⟩, 5), (⟨"QueryLoops$Checker", "checkItems", "()V"⟩, 4), (⟨"QueryLoops$Checker", "noteIll", "(I)V"⟩, 4), (⟨"QueryLoops$Checker", "checkColumns", "()V"⟩, 4), (⟨"QueryLoops$Checker", "checkOuts", "()V"⟩, 4), (⟨"QueryLoops$Steps", "lastItemIn", "(II)I"⟩, 11), (⟨"QueryLoops$Loops", "begin", "(I)V"⟩, 9), (⟨"QueryLoops$Loops", "goThrough", "(I)Z"⟩, 9), (⟨"QueryLoops$Loops", "gather", "()Z"⟩, 9), (⟨"QueryLoops$Loops", "lineOfGroup", "()I"⟩, 9), (⟨"QueryLoops$Loops", "isOfGroup", "(I)Z"⟩, 9)]
theorem lw_r2 : ∀ q ∈ lw_privs_2, lw_okq q := List.forall_mem_cons.mpr ⟨lw_p16, List.forall_mem_cons.mpr ⟨lw_p17, List.forall_mem_cons.mpr ⟨lw_p18, List.forall_mem_cons.mpr ⟨lw_p19, List.forall_mem_cons.mpr ⟨lw_p20, List.forall_mem_cons.mpr ⟨lw_p21, List.forall_mem_cons.mpr ⟨lw_p22, List.forall_mem_cons.mpr ⟨lw_p23, List.forall_mem_cons.mpr ⟨lw_p24, List.forall_mem_cons.mpr ⟨lw_p25, List.forall_mem_cons.mpr ⟨lw_p26, List.forall_mem_cons.mpr ⟨lw_p27, List.forall_mem_cons.mpr ⟨lw_p28, List.forall_mem_cons.mpr ⟨lw_p29, List.forall_mem_cons.mpr ⟨lw_p30, List.forall_mem_cons.mpr ⟨lw_p31, fun _ h => absurd h List.not_mem_nil⟩⟩⟩⟩⟩⟩⟩⟩⟩⟩⟩⟩⟩⟩⟩⟩
theorem lw_p32 : lw_okq (⟨"QueryLoops$Loops", "tally", "(IIII)V"⟩, 9) := ⟨⟨by decide +kernel, by decide +kernel⟩, List.mem_of_getElem? (i := 296) (by decide +kernel), List.mem_of_getElem? (i := 1084) (by decide +kernel), List.mem_of_getElem? (i := 1085) (by decide +kernel)⟩
theorem lw_p33 : lw_okq (⟨"QueryLoops$Steps", "truthOf", "(II)I"⟩, 11) := ⟨⟨by decide +kernel, by decide +kernel⟩, List.mem_of_getElem? (i := 146) (by decide +kernel), List.mem_of_getElem? (i := 1117) (by decide +kernel), List.mem_of_getElem? (i := 1118) (by decide +kernel)⟩
theorem lw_p34 : lw_okq (⟨"QueryLoops$Steps", "turnTop", "(I)V"⟩, 11) := ⟨⟨by decide +kernel, by decide +kernel⟩, List.mem_of_getElem? (i := 146) (by decide +kernel), List.mem_of_getElem? (i := 1121) (by decide +kernel), List.mem_of_getElem? (i := 1122) (by decide +kernel)⟩
theorem lw_p35 : lw_okq (⟨"QueryLoops$Steps", "joinTop", "(II)I"⟩, 11) := ⟨⟨by decide +kernel, by decide +kernel⟩, List.mem_of_getElem? (i := 146) (by decide +kernel), List.mem_of_getElem? (i := 1125) (by decide +kernel), List.mem_of_getElem? (i := 1126) (by decide +kernel)⟩
theorem lw_p36 : lw_okq (⟨"QueryLoops$Steps", "testOf", "(III)I"⟩, 11) := ⟨⟨by decide +kernel, by decide +kernel⟩, List.mem_of_getElem? (i := 146) (by decide +kernel), List.mem_of_getElem? (i := 1130) (by decide +kernel), List.mem_of_getElem? (i := 1131) (by decide +kernel)⟩
theorem lw_p37 : lw_okq (⟨"QueryLoops$Loops", "goOn", "(I)Z"⟩, 9) := ⟨⟨by decide +kernel, by decide +kernel⟩, List.mem_of_getElem? (i := 296) (by decide +kernel), List.mem_of_getElem? (i := 1139) (by decide +kernel), List.mem_of_getElem? (i := 1140) (by decide +kernel)⟩
theorem lw_p38 : lw_okq (⟨"QueryLoopsModel", "put", "(IZ)Z"⟩, 55) := ⟨⟨by decide +kernel, by decide +kernel⟩, List.mem_of_getElem? (i := 1163) (by decide +kernel), List.mem_of_getElem? (i := 1355) (by decide +kernel), List.mem_of_getElem? (i := 1356) (by decide +kernel)⟩
theorem lw_p39 : lw_okq (⟨"QueryLoopsModel", "isTable", "(I)Z"⟩, 55) := ⟨⟨by decide +kernel, by decide +kernel⟩, List.mem_of_getElem? (i := 1163) (by decide +kernel), List.mem_of_getElem? (i := 1367) (by decide +kernel), List.mem_of_getElem? (i := 1368) (by decide +kernel)⟩
theorem lw_p40 : lw_okq (⟨"QueryLoopsModel", "fail", "(I)I"⟩, 55) := ⟨⟨by decide +kernel, by decide +kernel⟩, List.mem_of_getElem? (i := 1163) (by decide +kernel), List.mem_of_getElem? (i := 1371) (by decide +kernel), List.mem_of_getElem? (i := 1372) (by decide +kernel)⟩
theorem lw_p41 : lw_okq (⟨"QueryLoopsModel", "readQuery", "()V"⟩, 55) := ⟨⟨by decide +kernel, by decide +kernel⟩, List.mem_of_getElem? (i := 1163) (by decide +kernel), List.mem_of_getElem? (i := 1387) (by decide +kernel), List.mem_of_getElem? (i := 1388) (by decide +kernel)⟩
theorem lw_p42 : lw_okq (⟨"QueryLoopsModel", "readOuts", "()V"⟩, 55) := ⟨⟨by decide +kernel, by decide +kernel⟩, List.mem_of_getElem? (i := 1163) (by decide +kernel), List.mem_of_getElem? (i := 1391) (by decide +kernel), List.mem_of_getElem? (i := 1392) (by decide +kernel)⟩
theorem lw_p43 : lw_okq (⟨"QueryLoopsModel", "want", "(I)V"⟩, 55) := ⟨⟨by decide +kernel, by decide +kernel⟩, List.mem_of_getElem? (i := 1163) (by decide +kernel), List.mem_of_getElem? (i := 1395) (by decide +kernel), List.mem_of_getElem? (i := 1396) (by decide +kernel)⟩
theorem lw_p44 : lw_okq (⟨"QueryLoopsModel", "take", "(I)Z"⟩, 55) := ⟨⟨by decide +kernel, by decide +kernel⟩, List.mem_of_getElem? (i := 1163) (by decide +kernel), List.mem_of_getElem? (i := 1399) (by decide +kernel), List.mem_of_getElem? (i := 1400) (by decide +kernel)⟩
theorem lw_p45 : lw_okq (⟨"QueryLoopsModel", "look", "()I"⟩, 55) := ⟨⟨by decide +kernel, by decide +kernel⟩, List.mem_of_getElem? (i := 1163) (by decide +kernel), List.mem_of_getElem? (i := 1403) (by decide +kernel), List.mem_of_getElem? (i := 1404) (by decide +kernel)⟩
theorem lw_p46 : lw_okq (⟨"QueryLoopsModel", "at", "(I)C"⟩, 55) := ⟨⟨by decide +kernel, by decide +kernel⟩, List.mem_of_getElem? (i := 1163) (by decide +kernel), List.mem_of_getElem? (i := 1407) (by decide +kernel), List.mem_of_getElem? (i := 1408) (by decide +kernel)⟩
theorem lw_p47 : lw_okq (⟨"QueryLoopsModel", "readWord", "()I"⟩, 55) := ⟨⟨by decide +kernel, by decide +kernel⟩, List.mem_of_getElem? (i := 1163) (by decide +kernel), List.mem_of_getElem? (i := 1414) (by decide +kernel), List.mem_of_getElem? (i := 1415) (by decide +kernel)⟩
def lw_privs_3 : List (MethodName × Nat) := [(⟨"QueryLoops$Loops", "tally", "(IIII)V"⟩, 9), (⟨"QueryLoops$Steps", "truthOf", "(II)I"⟩, 11), (⟨"QueryLoops$Steps", "turnTop", "(I)V"⟩, 11), (⟨"QueryLoops$Steps", "joinTop", "(II)I"⟩, 11), (⟨"QueryLoops$Steps", "testOf", "(III)I"⟩, 11), (⟨"QueryLoops$Loops", "goOn", "(I)Z"⟩, 9), (⟨"QueryLoopsModel", "put", "(IZ)Z"⟩, 55), (⟨"QueryLoopsModel", "isTable", "(I)Z"⟩, 55), (⟨"QueryLoopsModel", "fail", "(I)I"⟩, 55), (⟨"QueryLoopsModel", "readQuery", "()V"⟩, 55), (⟨"QueryLoopsModel", "readOuts", "()V"⟩, 55), (⟨"QueryLoopsModel", "want", "(I)V"⟩, 55), (⟨"QueryLoopsModel", "take", "(I)Z"⟩, 55), (⟨"QueryLoopsModel", "look", "()I"⟩, 55), (⟨"QueryLoopsModel", "at", "(I)C"⟩, 55), (⟨"QueryLoopsModel", "readWord", "()I"⟩, 55)]
theorem lw_r3 : ∀ q ∈ lw_privs_3, lw_okq q := List.forall_mem_cons.mpr ⟨lw_p32, List.forall_mem_cons.mpr ⟨lw_p33, List.forall_mem_cons.mpr ⟨lw_p34, List.forall_mem_cons.mpr ⟨lw_p35, List.forall_mem_cons.mpr ⟨lw_p36, List.forall_mem_cons.mpr ⟨lw_p37, List.forall_mem_cons.mpr ⟨lw_p38, List.forall_mem_cons.mpr ⟨lw_p39, List.forall_mem_cons.mpr ⟨lw_p40, List.forall_mem_cons.mpr ⟨lw_p41, List.forall_mem_cons.mpr ⟨lw_p42, List.forall_mem_cons.mpr ⟨lw_p43, List.forall_mem_cons.mpr ⟨lw_p44, List.forall_mem_cons.mpr ⟨lw_p45, List.forall_mem_cons.mpr ⟨lw_p46, List.forall_mem_cons.mpr ⟨lw_p47, fun _ h => absurd h List.not_mem_nil⟩⟩⟩⟩⟩⟩⟩⟩⟩⟩⟩⟩⟩⟩⟩⟩
theorem lw_p48 : lw_okq (⟨"QueryLoopsModel", "readNumeral", "(I)I"⟩, 55) := ⟨⟨by decide +kernel, by decide +kernel⟩, List.mem_of_getElem? (i := 1163) (by decide +kernel), List.mem_of_getElem? (i := 1421) (by decide +kernel), List.mem_of_getElem? (i := 1422) (by decide +kernel)⟩
theorem lw_p49 : lw_okq (⟨"QueryLoopsModel", "stop", "(I)V"⟩, 55) := ⟨⟨by decide +kernel, by decide +kernel⟩, List.mem_of_getElem? (i := 1163) (by decide +kernel), List.mem_of_getElem? (i := 1425) (by decide +kernel), List.mem_of_getElem? (i := 1426) (by decide +kernel)⟩
theorem lw_p50 : lw_okq (⟨"QueryLoopsModel", "wrong", "()V"⟩, 55) := ⟨⟨by decide +kernel, by decide +kernel⟩, List.mem_of_getElem? (i := 1163) (by decide +kernel), List.mem_of_getElem? (i := 1429) (by decide +kernel), List.mem_of_getElem? (i := 1430) (by decide +kernel)⟩
theorem lw_p51 : lw_okq (⟨"QueryLoopsModel", "readOut", "()V"⟩, 55) := ⟨⟨by decide +kernel, by decide +kernel⟩, List.mem_of_getElem? (i := 1163) (by decide +kernel), List.mem_of_getElem? (i := 1433) (by decide +kernel), List.mem_of_getElem? (i := 1434) (by decide +kernel)⟩
theorem lw_p52 : lw_okq (⟨"QueryLoopsModel", "readColumn", "()V"⟩, 55) := ⟨⟨by decide +kernel, by decide +kernel⟩, List.mem_of_getElem? (i := 1163) (by decide +kernel), List.mem_of_getElem? (i := 1440) (by decide +kernel), List.mem_of_getElem? (i := 1441) (by decide +kernel)⟩
theorem lw_p53 : lw_okq (⟨"QueryLoopsModel", "readItem", "(Z)V"⟩, 55) := ⟨⟨by decide +kernel, by decide +kernel⟩, List.mem_of_getElem? (i := 1163) (by decide +kernel), List.mem_of_getElem? (i := 1444) (by decide +kernel), List.mem_of_getElem? (i := 1445) (by decide +kernel)⟩
theorem lw_p54 : lw_okq (⟨"QueryLoopsModel", "readCondition", "()V"⟩, 55) := ⟨⟨by decide +kernel, by decide +kernel⟩, List.mem_of_getElem? (i := 1163) (by decide +kernel), List.mem_of_getElem? (i := 1448) (by decide +kernel), List.mem_of_getElem? (i := 1449) (by decide +kernel)⟩
theorem lw_p55 : lw_okq (⟨"QueryLoopsModel", "readComparison", "()V"⟩, 55) := ⟨⟨by decide +kernel, by decide +kernel⟩, List.mem_of_getElem? (i := 1163) (by decide +kernel), List.mem_of_getElem? (i := 1452) (by decide +kernel), List.mem_of_getElem? (i := 1453) (by decide +kernel)⟩
theorem lw_p56 : lw_okq (⟨"QueryLoopsModel", "readOperand", "()V"⟩, 55) := ⟨⟨by decide +kernel, by decide +kernel⟩, List.mem_of_getElem? (i := 1163) (by decide +kernel), List.mem_of_getElem? (i := 1456) (by decide +kernel), List.mem_of_getElem? (i := 1457) (by decide +kernel)⟩
theorem lw_p57 : lw_okq (⟨"QueryLoopsModel", "closeNots", "()V"⟩, 55) := ⟨⟨by decide +kernel, by decide +kernel⟩, List.mem_of_getElem? (i := 1163) (by decide +kernel), List.mem_of_getElem? (i := 1460) (by decide +kernel), List.mem_of_getElem? (i := 1461) (by decide +kernel)⟩
theorem lw_p58 : lw_okq (⟨"QueryLoopsModel", "readGroup", "()V"⟩, 55) := ⟨⟨by decide +kernel, by decide +kernel⟩, List.mem_of_getElem? (i := 1163) (by decide +kernel), List.mem_of_getElem? (i := 1464) (by decide +kernel), List.mem_of_getElem? (i := 1465) (by decide +kernel)⟩
theorem lw_p59 : lw_okq (⟨"QueryLoopsModel", "checkAll", "()V"⟩, 55) := ⟨⟨by decide +kernel, by decide +kernel⟩, List.mem_of_getElem? (i := 1163) (by decide +kernel), List.mem_of_getElem? (i := 1468) (by decide +kernel), List.mem_of_getElem? (i := 1469) (by decide +kernel)⟩
theorem lw_p60 : lw_okq (⟨"QueryLoopsModel", "checkColumn", "(II)V"⟩, 55) := ⟨⟨by decide +kernel, by decide +kernel⟩, List.mem_of_getElem? (i := 1163) (by decide +kernel), List.mem_of_getElem? (i := 1472) (by decide +kernel), List.mem_of_getElem? (i := 1473) (by decide +kernel)⟩
theorem lw_p61 : lw_okq (⟨"QueryLoopsModel", "itemOf", "(I)I"⟩, 55) := ⟨⟨by decide +kernel, by decide +kernel⟩, List.mem_of_getElem? (i := 1163) (by decide +kernel), List.mem_of_getElem? (i := 1476) (by decide +kernel), List.mem_of_getElem? (i := 1477) (by decide +kernel)⟩
theorem lw_p62 : lw_okq (⟨"QueryLoopsModel", "spot", "(I)V"⟩, 55) := ⟨⟨by decide +kernel, by decide +kernel⟩, List.mem_of_getElem? (i := 1163) (by decide +kernel), List.mem_of_getElem? (i := 1480) (by decide +kernel), List.mem_of_getElem? (i := 1481) (by decide +kernel)⟩
theorem lw_p63 : lw_okq (⟨"QueryLoopsModel", "columnOf", "(I)I"⟩, 55) := ⟨⟨by decide +kernel, by decide +kernel⟩, List.mem_of_getElem? (i := 1163) (by decide +kernel), List.mem_of_getElem? (i := 1484) (by decide +kernel), List.mem_of_getElem? (i := 1485) (by decide +kernel)⟩
def lw_privs_4 : List (MethodName × Nat) := [(⟨"QueryLoopsModel", "readNumeral", "(I)I"⟩, 55), (⟨"QueryLoopsModel", "stop", "(I)V"⟩, 55), (⟨"QueryLoopsModel", "wrong", "()V"⟩, 55), (⟨"QueryLoopsModel", "readOut", "()V"⟩, 55), (⟨"QueryLoopsModel", "readColumn", "()V"⟩, 55), (⟨"QueryLoopsModel", "readItem", "(Z)V"⟩, 55), (⟨"QueryLoopsModel", "readCondition", "()V"⟩, 55), (⟨"QueryLoopsModel", "readComparison", "()V"⟩, 55), (⟨"QueryLoopsModel", "readOperand", "()V"⟩, 55), (⟨"QueryLoopsModel", "closeNots", "()V"⟩, 55), (⟨"QueryLoopsModel", "readGroup", "()V"⟩, 55), (⟨"QueryLoopsModel", "checkAll", "()V"⟩, 55), (⟨"QueryLoopsModel", "checkColumn", "(II)V"⟩, 55), (⟨"QueryLoopsModel", "itemOf", "(I)I"⟩, 55), (⟨"QueryLoopsModel", "spot", "(I)V"⟩, 55), (⟨"QueryLoopsModel", "columnOf", "(I)I"⟩, 55)]
theorem lw_r4 : ∀ q ∈ lw_privs_4, lw_okq q := List.forall_mem_cons.mpr ⟨lw_p48, List.forall_mem_cons.mpr ⟨lw_p49, List.forall_mem_cons.mpr ⟨lw_p50, List.forall_mem_cons.mpr ⟨lw_p51, List.forall_mem_cons.mpr ⟨lw_p52, List.forall_mem_cons.mpr ⟨lw_p53, List.forall_mem_cons.mpr ⟨lw_p54, List.forall_mem_cons.mpr ⟨lw_p55, List.forall_mem_cons.mpr ⟨lw_p56, List.forall_mem_cons.mpr ⟨lw_p57, List.forall_mem_cons.mpr ⟨lw_p58, List.forall_mem_cons.mpr ⟨lw_p59, List.forall_mem_cons.mpr ⟨lw_p60, List.forall_mem_cons.mpr ⟨lw_p61, List.forall_mem_cons.mpr ⟨lw_p62, List.forall_mem_cons.mpr ⟨lw_p63, fun _ h => absurd h List.not_mem_nil⟩⟩⟩⟩⟩⟩⟩⟩⟩⟩⟩⟩⟩⟩⟩⟩
theorem lw_p64 : lw_okq (⟨"QueryLoopsModel", "isGrouped", "(I)Z"⟩, 55) := ⟨⟨by decide +kernel, by decide +kernel⟩, List.mem_of_getElem? (i := 1163) (by decide +kernel), List.mem_of_getElem? (i := 1488) (by decide +kernel), List.mem_of_getElem? (i := 1489) (by decide +kernel)⟩
theorem lw_p65 : lw_okq (⟨"QueryLoopsModel", "checkRange", "(III)V"⟩, 55) := ⟨⟨by decide +kernel, by decide +kernel⟩, List.mem_of_getElem? (i := 1163) (by decide +kernel), List.mem_of_getElem? (i := 1492) (by decide +kernel), List.mem_of_getElem? (i := 1493) (by decide +kernel)⟩
theorem lw_p66 : lw_okq (⟨"QueryLoopsModel", "findParts", "()V"⟩, 55) := ⟨⟨by decide +kernel, by decide +kernel⟩, List.mem_of_getElem? (i := 1163) (by decide +kernel), List.mem_of_getElem? (i := 1496) (by decide +kernel), List.mem_of_getElem? (i := 1497) (by decide +kernel)⟩
theorem lw_p67 : lw_okq (⟨"QueryLoopsModel", "addPart", "(II)V"⟩, 55) := ⟨⟨by decide +kernel, by decide +kernel⟩, List.mem_of_getElem? (i := 1163) (by decide +kernel), List.mem_of_getElem? (i := 1500) (by decide +kernel), List.mem_of_getElem? (i := 1501) (by decide +kernel)⟩
theorem lw_p68 : lw_okq (⟨"QueryLoopsModel", "newRow", "()Z"⟩, 55) := ⟨⟨by decide +kernel, by decide +kernel⟩, List.mem_of_getElem? (i := 1163) (by decide +kernel), List.mem_of_getElem? (i := 1512) (by decide +kernel), List.mem_of_getElem? (i := 1513) (by decide +kernel)⟩
theorem lw_p69 : lw_okq (⟨"QueryLoopsModel", "first", "()V"⟩, 55) := ⟨⟨by decide +kernel, by decide +kernel⟩, List.mem_of_getElem? (i := 1163) (by decide +kernel), List.mem_of_getElem? (i := 1516) (by decide +kernel), List.mem_of_getElem? (i := 1517) (by decide +kernel)⟩
theorem lw_p70 : lw_okq (⟨"QueryLoopsModel", "passes", "(I)Z"⟩, 55) := ⟨⟨by decide +kernel, by decide +kernel⟩, List.mem_of_getElem? (i := 1163) (by decide +kernel), List.mem_of_getElem? (i := 1520) (by decide +kernel), List.mem_of_getElem? (i := 1521) (by decide +kernel)⟩
theorem lw_p71 : lw_okq (⟨"QueryLoopsModel", "truthOf", "(II)I"⟩, 55) := ⟨⟨by decide +kernel, by decide +kernel⟩, List.mem_of_getElem? (i := 1163) (by decide +kernel), List.mem_of_getElem? (i := 1524) (by decide +kernel), List.mem_of_getElem? (i := 1525) (by decide +kernel)⟩
theorem lw_p72 : lw_okq (⟨"QueryLoopsModel", "compare", "(I)I"⟩, 55) := ⟨⟨by decide +kernel, by decide +kernel⟩, List.mem_of_getElem? (i := 1163) (by decide +kernel), List.mem_of_getElem? (i := 1531) (by decide +kernel), List.mem_of_getElem? (i := 1532) (by decide +kernel)⟩
theorem lw_p73 : lw_okq (⟨"QueryLoopsModel", "takeOperand", "(I)I"⟩, 55) := ⟨⟨by decide +kernel, by decide +kernel⟩, List.mem_of_getElem? (i := 1163) (by decide +kernel), List.mem_of_getElem? (i := 1535) (by decide +kernel), List.mem_of_getElem? (i := 1536) (by decide +kernel)⟩
theorem lw_p74 : lw_okq (⟨"QueryLoopsModel", "fetch", "(II)V"⟩, 55) := ⟨⟨by decide +kernel, by decide +kernel⟩, List.mem_of_getElem? (i := 1163) (by decide +kernel), List.mem_of_getElem? (i := 1539) (by decide +kernel), List.mem_of_getElem? (i := 1540) (by decide +kernel)⟩
theorem lw_p75 : lw_okq (⟨"QueryLoopsModel", "found", "()V"⟩, 55) := ⟨⟨by decide +kernel, by decide +kernel⟩, List.mem_of_getElem? (i := 1163) (by decide +kernel), List.mem_of_getElem? (i := 1549) (by decide +kernel), List.mem_of_getElem? (i := 1550) (by decide +kernel)⟩
theorem lw_p76 : lw_okq (⟨"QueryLoopsModel", "groupRow", "()I"⟩, 55) := ⟨⟨by decide +kernel, by decide +kernel⟩, List.mem_of_getElem? (i := 1163) (by decide +kernel), List.mem_of_getElem? (i := 1553) (by decide +kernel), List.mem_of_getElem? (i := 1554) (by decide +kernel)⟩
theorem lw_p77 : lw_okq (⟨"QueryLoopsModel", "sameKey", "(I)Z"⟩, 55) := ⟨⟨by decide +kernel, by decide +kernel⟩, List.mem_of_getElem? (i := 1163) (by decide +kernel), List.mem_of_getElem? (i := 1557) (by decide +kernel), List.mem_of_getElem? (i := 1558) (by decide +kernel)⟩
theorem lw_p78 : lw_okq (⟨"QueryLoopsModel", "gather", "(II)V"⟩, 55) := ⟨⟨by decide +kernel, by decide +kernel⟩, List.mem_of_getElem? (i := 1163) (by decide +kernel), List.mem_of_getElem? (i := 1561) (by decide +kernel), List.mem_of_getElem? (i := 1562) (by decide +kernel)⟩
theorem lw_p79 : lw_okq (⟨"QueryLoopsModel", "second", "()V"⟩, 55) := ⟨⟨by decide +kernel, by decide +kernel⟩, List.mem_of_getElem? (i := 1163) (by decide +kernel), List.mem_of_getElem? (i := 1565) (by decide +kernel), List.mem_of_getElem? (i := 1566) (by decide +kernel)⟩
def lw_privs_5 : List (MethodName × Nat) := [(⟨"QueryLoopsModel", "isGrouped", "(I)Z"⟩, 55), (⟨"QueryLoopsModel", "checkRange", "(III)V"⟩, 55), (⟨"QueryLoopsModel", "findParts", "()V"⟩, 55), (⟨"QueryLoopsModel", "addPart", "(II)V"⟩, 55), (⟨"QueryLoopsModel", "newRow", "()Z"⟩, 55), (⟨"QueryLoopsModel", "first", "()V"⟩, 55), (⟨"QueryLoopsModel", "passes", "(I)Z"⟩, 55), (⟨"QueryLoopsModel", "truthOf", "(II)I"⟩, 55), (⟨"QueryLoopsModel", "compare", "(I)I"⟩, 55), (⟨"QueryLoopsModel", "takeOperand", "(I)I"⟩, 55), (⟨"QueryLoopsModel", "fetch", "(II)V"⟩, 55), (⟨"QueryLoopsModel", "found", "()V"⟩, 55), (⟨"QueryLoopsModel", "groupRow", "()I"⟩, 55), (⟨"QueryLoopsModel", "sameKey", "(I)Z"⟩, 55), (⟨"QueryLoopsModel", "gather", "(II)V"⟩, 55), (⟨"QueryLoopsModel", "second", "()V"⟩, 55)]
theorem lw_r5 : ∀ q ∈ lw_privs_5, lw_okq q := List.forall_mem_cons.mpr ⟨lw_p64, List.forall_mem_cons.mpr ⟨lw_p65, List.forall_mem_cons.mpr ⟨lw_p66, List.forall_mem_cons.mpr ⟨lw_p67, List.forall_mem_cons.mpr ⟨lw_p68, List.forall_mem_cons.mpr ⟨lw_p69, List.forall_mem_cons.mpr ⟨lw_p70, List.forall_mem_cons.mpr ⟨lw_p71, List.forall_mem_cons.mpr ⟨lw_p72, List.forall_mem_cons.mpr ⟨lw_p73, List.forall_mem_cons.mpr ⟨lw_p74, List.forall_mem_cons.mpr ⟨lw_p75, List.forall_mem_cons.mpr ⟨lw_p76, List.forall_mem_cons.mpr ⟨lw_p77, List.forall_mem_cons.mpr ⟨lw_p78, List.forall_mem_cons.mpr ⟨lw_p79, fun _ h => absurd h List.not_mem_nil⟩⟩⟩⟩⟩⟩⟩⟩⟩⟩⟩⟩⟩⟩⟩⟩
theorem lw_p80 : lw_okq (⟨"QueryLoopsModel", "fits", "(I)Z"⟩, 55) := ⟨⟨by decide +kernel, by decide +kernel⟩, List.mem_of_getElem? (i := 1163) (by decide +kernel), List.mem_of_getElem? (i := 1569) (by decide +kernel), List.mem_of_getElem? (i := 1570) (by decide +kernel)⟩
theorem lw_p81 : lw_okq (⟨"QueryLoopsModel", "afterSecond", "()V"⟩, 55) := ⟨⟨by decide +kernel, by decide +kernel⟩, List.mem_of_getElem? (i := 1163) (by decide +kernel), List.mem_of_getElem? (i := 1573) (by decide +kernel), List.mem_of_getElem? (i := 1574) (by decide +kernel)⟩
theorem lw_p82 : lw_okq (⟨"QueryLoopsModel", "third", "()V"⟩, 55) := ⟨⟨by decide +kernel, by decide +kernel⟩, List.mem_of_getElem? (i := 1163) (by decide +kernel), List.mem_of_getElem? (i := 1577) (by decide +kernel), List.mem_of_getElem? (i := 1578) (by decide +kernel)⟩
theorem lw_p83 : lw_okq (⟨"QueryLoopsModel", "isThere", "(II)Z"⟩, 55) := ⟨⟨by decide +kernel, by decide +kernel⟩, List.mem_of_getElem? (i := 1163) (by decide +kernel), List.mem_of_getElem? (i := 1593) (by decide +kernel), List.mem_of_getElem? (i := 1594) (by decide +kernel)⟩
def lw_privs_6 : List (MethodName × Nat) := [(⟨"QueryLoopsModel", "fits", "(I)Z"⟩, 55), (⟨"QueryLoopsModel", "afterSecond", "()V"⟩, 55), (⟨"QueryLoopsModel", "third", "()V"⟩, 55), (⟨"QueryLoopsModel", "isThere", "(II)Z"⟩, 55)]
theorem lw_r6 : ∀ q ∈ lw_privs_6, lw_okq q := List.forall_mem_cons.mpr ⟨lw_p80, List.forall_mem_cons.mpr ⟨lw_p81, List.forall_mem_cons.mpr ⟨lw_p82, List.forall_mem_cons.mpr ⟨lw_p83, fun _ h => absurd h List.not_mem_nil⟩⟩⟩⟩
def lw_privs : List (MethodName × Nat) := lw_privs_1 ++ (lw_privs_2 ++ (lw_privs_3 ++ (lw_privs_4 ++ (lw_privs_5 ++ (lw_privs_6)))))
def lw_tbl : List Cond := k2_sels lw_privs ++ tables_1
theorem lw_privs_ok : ∀ q ∈ lw_privs, lw_okq q := by
  show ∀ q ∈ lw_privs_1 ++ (lw_privs_2 ++ (lw_privs_3 ++ (lw_privs_4 ++ (lw_privs_5 ++ (lw_privs_6))))), lw_okq q
  exact List.forall_mem_append.mpr ⟨lw_r1, List.forall_mem_append.mpr ⟨lw_r2, List.forall_mem_append.mpr ⟨lw_r3, List.forall_mem_append.mpr ⟨lw_r4, List.forall_mem_append.mpr ⟨lw_r5, lw_r6⟩⟩⟩⟩⟩
end
section
/-! ===== BEGIN words of one list among another's, by their places ===== -/
theorem goodIn_r {big : List Cond} (ws : List Cond) (ps : List Nat) (hp : ws = ps.filterMap (fun i => big[i]?)) (h : ws.all goodWord = true) : GoodIn big ws := by
  intro w hw
  have h1 := List.all_eq_true.mp h w hw
  rw [hp] at hw
  obtain ⟨i, -, hi⟩ := List.mem_filterMap.mp hw
  have hm : w ∈ big := by first | exact List.mem_of_getElem? hi | exact List.getElem?_mem hi
  exact ⟨hm, good_of_word h1⟩
theorem goodIn_app {big a b : List Cond} (ha : GoodIn big a) (hb : GoodIn big b) : GoodIn big (a ++ b) := fun w h => (List.mem_append.mp h).elim (ha w) (hb w)
theorem goodIn_ca {big a b : List Cond} {c : Cond} (ha : GoodIn big (c :: a)) (hb : GoodIn big b) : GoodIn big (c :: (a ++ b)) := fun w h => (List.mem_cons.mp h).elim (fun e => ha w (List.mem_cons.mpr (Or.inl e))) (fun h => (List.mem_append.mp h).elim (fun h => ha w (List.mem_cons.mpr (Or.inr h))) (hb w))
theorem goodIn_sub {big ws : List Cond} (hm : ∀ w ∈ ws, w ∈ big) (h : ws.all goodWord = true) : GoodIn big ws := fun w hw => ⟨hm w hw, good_of_word (List.all_eq_true.mp h w hw)⟩
/-! ===== END ===== -/

/-! ===== BEGIN exceptions that leave a method, and their catching by the caller (launches without stack traces) ===== -/
section VXA
/-! The laws vx_back, vx_callV, vx_callS, vx_callSW, vx_throw0, vx_throwS follow proofs of the library, with one case more: JvmDerived/Free/Laws.lean (Back.of_free), Shelf42/LK1.lean (callV, callS), Shelf/KitTraced.lean (throwNew0V, throwNewS). -/
/-- where a method has thrown q: the class by its name, the cell, what was written, the world -/
def vx_T (XC : String → State → State → Prop) (st : State) (q : Addr) (t : State) (mc ms : Nat) (free : Addr → Prop) : Prop :=
  ∃ (E : String) (ce : Cell) (L : List Loc), XC E st t ∧ t.heap[q]? = some ce ∧ ce.vm = .none ∧ st.vm.findClass E = some ce.cls ∧ st.WarmedH t.vm ∧ st.sameButNew ({ t with vm := st.vm } : State) L mc ms ∧ ∀ z ∈ L, free z.base
def vx_Q (Qc : Array Value → State → Outcome → State → Prop) (XC : String → State → State → Prop) (mc ms : Nat) (free : Addr → Prop) : Array Value → State → Outcome → State → Prop := fun a st o t =>
  (Qc a st o t ∧ ∃ L, FrameEnd st o t L mc ms ∧ ∀ q ∈ L, free q.base) ∨ ∃ q, o = .threw q ∧ vx_T XC st q t mc ms free
/-- a callee that returns or throws -/
def vx_Met (l : Launch) (y : MethodName) (ws : List Cond) (rm : Room) (Pc : Array Value → State → Prop) (Qc : Array Value → State → Outcome → State → Prop) (XC : String → State → State → Prop) (mc ms : Nat) (free : Addr → Prop) : Prop :=
  MetFree l y (headSpec ws rm) Pc (fun _ _ _ _ _ => True) (vx_Q Qc XC mc ms free)
def vx_Post (XC : String → State → State → Prop) (mc ms : Nat) (free : Addr → Prop) : Pt → Array Value → Addr → Pt → Prop := fun A a q B =>
  ∃ (g : JFrame) (mk : MethodId) (t : State) (L : List Loc) (E : String) (ce : Cell), B.U.heap = t.heap ∧ B.U.vm = t.vm ∧ XC E (A.U.calling g mk a) t ∧ t.heap[q]? = some ce ∧ ce.vm = .none ∧ A.U.vm.findClass E = some ce.cls ∧ B.locs = A.locs ++ L ∧ (∀ z ∈ L, free z.base) ∧ B.cells = A.cells + mc ∧ B.slots = A.slots + ms
def vx_Back (l : Launch) (R : Room) (p : Program) (e : Env) (below : List Frame) (s : State) (sargs : Array Value) (y : MethodName) (len W9 : Nat)
    (Pre : Pt → Array Value → Prop) (Post : Pt → Array Value → Option Value → Pt → Prop) (PostX : Pt → Array Value → Addr → Pt → Prop) : Prop :=
  ∀ (m : MethodId) (meth : Method) (c : Code) (A : Pt) (g : JFrame) (ig : Instr) (mk : MethodId) (a : Array Value),
    Stand p l e R s m sargs below meth c A.U A.locs A.cells A.slots → g.method = m → g.locals.size = c.maxLocals → decode c.code g.pc = .ok (ig, len) →
    2 * g.monitorRoom + (g.stack.map fun v => v.category).sum ≤ W9 → A.U.methodNamed? y = some mk → Pre A a →
    (∃ (v : Option Value) (B : Pt), Stand p l e R s m sargs below meth c B.U B.locs B.cells B.slots ∧ Post A a v B ∧
      Steps p.tables e below (doInvoke e (A.U.setTop g) [] mk a).1 (B.U.setTop { g with pc := g.pc + len, stack := v.toList ++ g.stack })) ∨
    (∃ (q : Addr) (B : Pt), Stand p l e R s m sargs below meth c B.U B.locs B.cells B.slots ∧ PostX A a q B ∧
      Steps p.tables e below (doInvoke e (A.U.setTop g) [] mk a).1 ((B.U.setTop g).pushFrame (.throwing q)))
section Payer
variable {l : Launch} {R : Room} {p : Program} {e : Env} {below : List Frame} {s : State} {sargs : Array Value} {y : MethodName} {len W9 : Nat}
theorem vx_back {ws : List Cond} {rm : Room} {Pc : Array Value → State → Prop} {Qc : Array Value → State → Outcome → State → Prop} {XC : String → State → State → Prop} {mc ms : Nat} {free : Addr → Prop} {bytes : ByteArray} {maxL : Nat} {ret : Option FieldType}
    (hM : vx_Met l y ws rm Pc Qc XC mc ms free) (hblind : FrameBlind Pc) (hrc : rm.cells = mc) (hrs : rm.slots = ms)
    (hframes : rm.frames + 1 ≤ R.frames) (hlocals : W9 + (maxL + 11) + rm.locals ≤ R.locals)
    (hws : ∀ w ∈ ws, ∀ a' U, s.WarmedH U.vm → w.before a' U = true) (hcode : Cond.code y bytes maxL ret ∈ ws) (hinit : ∀ a' U, s.WarmedH U.vm → (Cond.initialized y.cls).before a' U = true) :
    vx_Back l R p e below s sargs y len W9 (PreOf R mc ms Pc) (PostOf Qc mc ms free) (vx_Post XC mc ms free) := by
  intro m meth c A g ig mk a X hg hsize hdg hW hn hp
  have h1 : (headSpec ws rm).pre.before a A.U = true := atoms_intro fun w hw => hws w hw _ _ X.warmed
  have h2 : (Cond.code y bytes maxL ret).before a A.U = true := hws _ hcode _ _ X.warmed
  have h3 : (Cond.initialized y.cls).before a A.U = true := hinit _ _ X.warmed
  have h4 : A.cells + (headSpec ws rm).room.cells ≤ R.cells := by rw [show (headSpec ws rm).room.cells = mc from hrc]; exact hp.1
  have h5 : A.slots + (headSpec ws rm).room.slots ≤ R.slots := by rw [show (headSpec ws rm).room.slots = ms from hrs]; exact hp.2.1
  have hPc : Pc a (A.U.calling g mk a) := hblind _ _ _ _ hp.2.2
  obtain ⟨U, Ls, c0, s0⟩ := A
  dsimp only [Pt.U, Pt.locs, Pt.cells, Pt.slots] at h1 h2 h3 h4 h5 X hn hPc ⊢
  obtain ⟨methY, cY, hmY, hcY, -, hlY, -, -, -, -⟩ := Cond.code_spec hn h2
  obtain ⟨kY, hkY, -⟩ := className_of_methodNamed hn
  have hinitY : kY.init = .initialized := Cond.initialized_spec (findClass_of_methodNamed hn) hkY h3
  have h : At U g.method c below := by rw [hg]; exact X.here
  have hlocals9 : W9 + (maxL + 11) + (headSpec ws rm).room.locals ≤ R.locals := hlocals
  have happ : (headSpec ws rm).appliesLoose y e.platform (U.calling g mk a) = true :=
    Spec.appliesLoose_calling (g := g) h hdg hn hkY hinitY
      (X.room_calling (g := g) (R' := (headSpec ws rm).room) hsize hmY hcY hframes (by rw [hlY]; omega) h4 h5) h1
  obtain ⟨mid, hmid⟩ := h.above
  have hfr : (U.setTop g).frames = (.java g :: mid) ++ below := by rw [State.frames_setTop' g h.top, hmid]; rfl
  obtain ⟨o, s₂, hsteps, -, hend, hq⟩ := Steps.callFree hM p X.admits X.cas X.clock (acts := []) hfr happ hPc trivial
  have hq' : vx_Q Qc XC mc ms free a (U.calling g mk a) o s₂ := hq
  rw [State.frames_setTop' g h.top] at hend
  obtain ⟨g₀, hg0⟩ := Option.isSome_iff_exists.mp h.top
  obtain ⟨r, hr⟩ := State.topJava?_eq_some.mp hg0
  have hr' : (({ U with heap := s₂.heap, slotsUsed := s₂.slotsUsed } : State).setVm s₂.vm).frames = .java g₀ :: r := hr
  rcases hq' with ⟨hqc, L, hfe, hL⟩ | ⟨q, rfl, E, ce, L, hx, hce, hcv, hcl, hW₂, hsm, hL⟩
  · obtain ⟨⟨v, rfl⟩, hW₂, e2, q2, q3, q4, q5, q6⟩ := id hfe
    have e3 : s₂ = ({ (U.calling g mk a).setFrames s₂.frames with heap := s₂.heap, slotsUsed := s₂.slotsUsed } : State).setVm s₂.vm := by
      have : s₂ = ({ s₂ with vm := (U.calling g mk a).vm } : State).setVm s₂.vm := rfl
      rw [e2] at this
      exact this
    obtain ⟨c₂, i₂, len₂, hc₂, hd₂, hf₂⟩ := hend
    have hW' : U.WarmedH s₂.vm := hW₂
    have hcc : c₂ = c := by
      have h1 : s₂.code? g.method = U.code? g.method := by
        rw [State.code?_eq, State.code?_eq, hW'.alike.method?]
      exact Option.some.inj (hc₂.symm.trans (h1.trans h.code))
    subst hcc
    have hlen : len₂ = len := by rw [hdg] at hd₂; cases hd₂; rfl
    subst hlen
    have hs₂ : s₂ = (({ U with heap := s₂.heap, slotsUsed := s₂.slotsUsed } : State).setVm s₂.vm).setTop { g with pc := g.pc + len₂, stack := v.toList ++ g.stack } := by
      refine e3.trans ?_
      rw [hf₂, State.calling_eq h.top, State.setFrames_setFrames, State.setTop_of_frames _ hr', hr]
      rfl
    have hsame : U.sameButNew ({ U with heap := s₂.heap, slotsUsed := s₂.slotsUsed } : State) L mc ms := by
      refine ⟨?_, q2, q3, q4, q5, q6⟩
      obtain ⟨t, ht, -⟩ := State.frames_cons hr
      show ({ U with heap := s₂.heap, slotsUsed := s₂.slotsUsed } : State) = { U.setFrames U.frames with heap := s₂.heap, slotsUsed := s₂.slotsUsed }
      rw [State.setFrames_self ht]
    subst hg
    refine Or.inl ⟨v, ⟨(({ U with heap := s₂.heap, slotsUsed := s₂.slotsUsed } : State).setVm s₂.vm), Ls ++ L, c0 + mc, s0 + ms⟩,
      ⟨X.admits, X.cas, X.clock, X.frames, X.room, X.hears, X.method, X.code, (X.here.setHeapUsed s₂.heap s₂.slotsUsed).setVm hW'.alike, X.tail, State.WarmedH.trans X.warmed hW', X.limits, X.bytes, X.same.trans (hsame.setVm s.vm)⟩,
      ⟨g, mk, s₂, L, rfl, rfl, hqc, rfl, hL, rfl, rfl⟩, ?_⟩
    show Steps p.tables e below _ ((({ U with heap := s₂.heap, slotsUsed := s₂.slotsUsed } : State).setVm s₂.vm).setTop { g with pc := g.pc + len₂, stack := v.toList ++ g.stack })
    rw [← hs₂]
    exact hsteps
  · obtain ⟨e2, q2, q3, q4, q5, q6⟩ := id hsm
    have e3 : s₂ = ({ (U.calling g mk a).setFrames s₂.frames with heap := s₂.heap, slotsUsed := s₂.slotsUsed } : State).setVm s₂.vm := by
      have : s₂ = ({ s₂ with vm := (U.calling g mk a).vm } : State).setVm s₂.vm := rfl
      rw [e2] at this
      exact this
    have hf₂ : s₂.frames = .throwing q :: .java g :: U.frames.tail := hend
    have hW' : U.WarmedH s₂.vm := hW₂
    have hs₂ : s₂ = ((({ U with heap := s₂.heap, slotsUsed := s₂.slotsUsed } : State).setVm s₂.vm).setTop g).pushFrame (.throwing q) := by
      refine e3.trans ?_
      rw [hf₂, State.calling_eq h.top, State.setFrames_setFrames, State.pushFrame, State.frames_setTop _ hr', State.setTop_of_frames _ hr', State.setFrames_setFrames, hr]
      rfl
    have hsame : U.sameButNew ({ U with heap := s₂.heap, slotsUsed := s₂.slotsUsed } : State) L mc ms := by
      refine ⟨?_, q2, q3, q4, q5, q6⟩
      obtain ⟨t, ht, -⟩ := State.frames_cons hr
      show ({ U with heap := s₂.heap, slotsUsed := s₂.slotsUsed } : State) = { U.setFrames U.frames with heap := s₂.heap, slotsUsed := s₂.slotsUsed }
      rw [State.setFrames_self ht]
    subst hg
    refine Or.inr ⟨q, ⟨(({ U with heap := s₂.heap, slotsUsed := s₂.slotsUsed } : State).setVm s₂.vm), Ls ++ L, c0 + mc, s0 + ms⟩,
      ⟨X.admits, X.cas, X.clock, X.frames, X.room, X.hears, X.method, X.code, (X.here.setHeapUsed s₂.heap s₂.slotsUsed).setVm hW'.alike, X.tail, State.WarmedH.trans X.warmed hW', X.limits, X.bytes, X.same.trans (hsame.setVm s.vm)⟩,
      ⟨g, mk, s₂, L, E, ce, rfl, rfl, hx, hce, hcv, hcl, rfl, hL, rfl, rfl⟩, ?_⟩
    show Steps p.tables e below _ (((({ U with heap := s₂.heap, slotsUsed := s₂.slotsUsed } : State).setVm s₂.vm).setTop g).pushFrame (.throwing q))
    rw [← hs₂]
    exact hsteps
end Payer
section Calls
variable {p : Program} {l : Launch} {e : Env} {R : Room} {s : State} {m : MethodId} {args : Array Value} {below : List Frame} {meth : Method} {c : Code} {T : State} {locs : List Loc} {cells slots : Nat}
theorem vx_callV (X : Stand p l e R s m args below meth c T locs cells slots) (hexec : p.tables.exec = Jvm.exec) {own C : String} {index : Nat} {y : MethodName} {bytes : ByteArray} {maxL : Nat} {ret : Option FieldType}
    (hown : s.vm.findClass own = some m.cls) (hlink : (Cond.methodLink own index y).before args s = true) (hinst : (Cond.instanceMethod y).before args s = true) (hsel : (Cond.selects C y y).before args s = true)
    (hcode : (Cond.code y bytes maxL ret).before args s = true) (hy : y.cls ≠ "java/lang/invoke/MethodHandle" ∧ y.cls ≠ "java/lang/invoke/VarHandle")
    {W9 : Nat} {Pre : Pt → Array Value → Prop} {Post : Pt → Array Value → Option Value → Pt → Prop} {PostX : Pt → Array Value → Addr → Pt → Prop} (hK : vx_Back l R p e below s args y 3 W9 Pre Post PostX)
    {b : Addr} {cellB : Cell} (hcell : T.heap[b]? = some cellB) (hobj : cellB.vm.isStatics = false) (hcls : s.vm.findClass C = some cellB.cls)
    {g : JFrame} (hg : g.method = m) (hsize : g.locals.size = c.maxLocals) {argsL rest : List Value} (hlen : ∀ sig, parseMethodDescriptor y.desc = some sig → argsL.length = sig.parameters.length)
    (hstack : g.stack = argsL.reverse ++ .ref b :: rest) (hW : 2 * g.monitorRoom + (rest.map fun v => v.category).sum ≤ W9) (hdg : decode c.code g.pc = .ok (.invokevirtual index, 3))
    (hpre : ∀ vm₁, s.WarmedH vm₁ → Pre ⟨T.setVm vm₁, locs, cells, slots⟩ (Value.ref b :: argsL).toArray) :
    (∃ (v : Option Value) (vm₁ : Vm) (B : Pt), s.WarmedH vm₁ ∧ Stand p l e R s m args below meth c B.U B.locs B.cells B.slots ∧ Post ⟨T.setVm vm₁, locs, cells, slots⟩ (Value.ref b :: argsL).toArray v B ∧
      ∀ target, Steps p.tables e below (B.U.setTop { g with pc := g.pc + 3, stack := v.toList ++ rest }) target → Steps p.tables e below (T.setTop g) target) ∨
    (∃ (q : Addr) (vm₁ : Vm) (B : Pt), s.WarmedH vm₁ ∧ Stand p l e R s m args below meth c B.U B.locs B.cells B.slots ∧ PostX ⟨T.setVm vm₁, locs, cells, slots⟩ (Value.ref b :: argsL).toArray q B ∧
      Steps p.tables e below (T.setTop g) ((B.U.setTop { g with stack := rest }).pushFrame (.throwing q))) := by
  obtain ⟨mk, methM, hnamed, hmethM, hstM, habM⟩ := Cond.instanceMethod_spec hinst
  obtain ⟨methM', cM, hmethM', -, -, -, -, -, -, hsigM⟩ := Cond.code_spec hnamed hcode
  cases hmethM.symm.trans hmethM'
  obtain ⟨c2, r2, m2, q1, q2, q3, q4, kP, hkP, hkPi⟩ := Cond.selects_spec hsel
  cases hcls.symm.trans q1
  cases (State.methodFound?_of_named hnamed hy).symm.trans q2
  cases hnamed.symm.trans q3
  have hselP : selectMethod e.platform s.vm cellB.cls mk = .method mk := by rw [Launch.admits_selectMethod X.admits]; exact q4
  obtain ⟨vm₁, X₁, hstep₁⟩ := X.invokevirtual hexec hown hlink hnamed hmethM hstM hkP hkPi hy (a := b) (cell := cellB) hcell
    (fun z h => by rw [h] at hobj; cases hobj) hselP hmethM habM hkP hkPi (g := g) hg (argsL := argsL) (rest := rest) (hlen _ hsigM) hstack hdg
  rcases hK m meth c ⟨T.setVm vm₁, locs, cells, slots⟩ { g with stack := rest } (.invokevirtual index) mk (Value.ref b :: argsL).toArray X₁ hg hsize hdg hW (X₁.named hnamed) (hpre vm₁ X₁.warmed) with ⟨v, B, X', hpost, hsteps⟩ | ⟨q, B, X', hpost, hsteps⟩
  · exact Or.inl ⟨v, vm₁, B, X₁.warmed, X', hpost, fun target h => hstep₁ _ fun acts => by rw [doInvoke_state]; exact hsteps.trans h⟩
  · exact Or.inr ⟨q, vm₁, B, X₁.warmed, X', hpost, hstep₁ _ fun acts => by rw [doInvoke_state]; exact hsteps⟩
theorem vx_callS (X : Stand p l e R s m args below meth c T locs cells slots) (hexec : p.tables.exec = Jvm.exec) {own : String} {index : Nat} {y : MethodName} {bytes : ByteArray} {maxL : Nat} {ret : Option FieldType}
    (hown : s.vm.findClass own = some m.cls) (hlink : (Cond.methodLink own index y).before args s = true) (hstat : (Cond.static y).before args s = true) (hinit : (Cond.initialized y.cls).before args s = true)
    (hcode : (Cond.code y bytes maxL ret).before args s = true) (hy : y.cls ≠ "java/lang/invoke/MethodHandle" ∧ y.cls ≠ "java/lang/invoke/VarHandle")
    {W9 : Nat} {Pre : Pt → Array Value → Prop} {Post : Pt → Array Value → Option Value → Pt → Prop} {PostX : Pt → Array Value → Addr → Pt → Prop} (hK : vx_Back l R p e below s args y 3 W9 Pre Post PostX)
    {g : JFrame} (hg : g.method = m) (hsize : g.locals.size = c.maxLocals) {argsL rest : List Value} (hlen : ∀ sig, parseMethodDescriptor y.desc = some sig → argsL.length = sig.parameters.length)
    (hstack : g.stack = argsL.reverse ++ rest) (hW : 2 * g.monitorRoom + (rest.map fun v => v.category).sum ≤ W9) (hdg : decode c.code g.pc = .ok (.invokestatic index, 3))
    (hpre : ∀ vm₁, s.WarmedH vm₁ → Pre ⟨T.setVm vm₁, locs, cells, slots⟩ argsL.toArray) :
    (∃ (v : Option Value) (vm₁ : Vm) (B : Pt), s.WarmedH vm₁ ∧ Stand p l e R s m args below meth c B.U B.locs B.cells B.slots ∧ Post ⟨T.setVm vm₁, locs, cells, slots⟩ argsL.toArray v B ∧
      ∀ target, Steps p.tables e below (B.U.setTop { g with pc := g.pc + 3, stack := v.toList ++ rest }) target → Steps p.tables e below (T.setTop g) target) ∨
    (∃ (q : Addr) (vm₁ : Vm) (B : Pt), s.WarmedH vm₁ ∧ Stand p l e R s m args below meth c B.U B.locs B.cells B.slots ∧ PostX ⟨T.setVm vm₁, locs, cells, slots⟩ argsL.toArray q B ∧
      Steps p.tables e below (T.setTop g) ((B.U.setTop { g with stack := rest }).pushFrame (.throwing q))) := by
  obtain ⟨mk, hnamed⟩ := Cond.code_named hcode
  obtain ⟨methM, cM, hmethM, -, -, -, -, -, -, hsigM⟩ := Cond.code_spec hnamed hcode
  have hstatic : methM.isStatic = true := Cond.static_spec hnamed hmethM hstat
  obtain ⟨kP, hkP, -⟩ := className_of_methodNamed hnamed
  have hinitP : kP.init = .initialized := Cond.initialized_spec (findClass_of_methodNamed hnamed) hkP hinit
  obtain ⟨vm₁, X₁, hstep₁⟩ := X.invokestatic hexec hown hlink hnamed hmethM hstatic hkP hinitP hy (g := g) hg (argsL := argsL) (rest := rest) (hlen _ hsigM) hstack hdg
  rcases hK m meth c ⟨T.setVm vm₁, locs, cells, slots⟩ { g with stack := rest } (.invokestatic index) mk argsL.toArray X₁ hg hsize hdg hW (X₁.named hnamed) (hpre vm₁ X₁.warmed) with ⟨v, B, X', hpost, hsteps⟩ | ⟨q, B, X', hpost, hsteps⟩
  · exact Or.inl ⟨v, vm₁, B, X₁.warmed, X', hpost, fun target h => hstep₁ _ fun acts => by rw [doInvoke_state]; exact hsteps.trans h⟩
  · exact Or.inr ⟨q, vm₁, B, X₁.warmed, X', hpost, hstep₁ _ fun acts => by rw [doInvoke_state]; exact hsteps⟩
end Calls
theorem vx_cls {s : State} {T : State} {vm₁ : Vm} {E : String} {k : ClassId} (hW : s.WarmedH vm₁) (h : (T.setVm vm₁).vm.findClass E = some k) : s.vm.findClass E = some k := by
  have h1 : vm₁.findClass E = some k := h
  rw [hW.alike.findClass] at h1
  exact h1
/-- the method's frame g, with q thrown over it -/
def vx_W (p : Program) (l : Launch) (e : Env) (R : Room) (s : State) (m : MethodId) (args : Array Value) (below : List Frame) (meth : Method) (c : Code) (H : Heap) (locs : List Loc) (cells slots : Nat) (Q : State → Prop) (g : JFrame) (q : Addr) : Prop :=
  ∀ T : State, T.heap = H → Stand p l e R s m args below meth c T locs cells slots → ∃ t, Steps p.tables e below ((T.setTop g).pushFrame (.throwing q)) t ∧ Q t
def vx_Run (p : Program) (l : Launch) (e : Env) (R : Room) (s : State) (m : MethodId) (args : Array Value) (below : List Frame) (meth : Method) (c : Code) (H : Heap) (locs : List Loc) (cells slots mc ms : Nat) (g : JFrame) (rest : List Value) (Qa : State → Outcome → State → Prop) (XC : String → State → State → Prop) (free : Addr → Prop) : Prop :=
  ∀ T : State, T.heap = H → Stand p l e R s m args below meth c T locs cells slots →
    (∃ (v : Option Value) (st₀ t T' : State) (L : List Loc), st₀.heap = H ∧ Stand p l e R s m args below meth c T' (locs ++ L) (cells + mc) (slots + ms) ∧ (∀ q ∈ L, free q.base) ∧ T'.heap = t.heap ∧ T'.vm = t.vm ∧ Qa st₀ (.returned v) t ∧
      Goes p e below T g T' { g with pc := g.pc + 3, stack := v.toList ++ rest }) ∨
    (∃ (q : Addr) (st₀ t T' : State) (L : List Loc) (E : String) (ce : Cell), st₀.heap = H ∧ Stand p l e R s m args below meth c T' (locs ++ L) (cells + mc) (slots + ms) ∧ (∀ z ∈ L, free z.base) ∧ T'.heap = t.heap ∧ T'.vm = t.vm ∧ XC E st₀ t ∧ t.heap[q]? = some ce ∧ ce.vm = .none ∧ s.vm.findClass E = some ce.cls ∧
      Steps p.tables e below (T.setTop g) ((T'.setTop { g with stack := rest }).pushFrame (.throwing q)))
def vx_X {S : Type} (px : S → Prop) (B : String → S → State → Prop) (A : Nat → Prop) : String → State → State → Prop := fun E st t => ∃ u : S, px u ∧ B E u t ∧ va_F A st t
section Runs
variable {p : Program} {l : Launch} {e : Env} {R : Room} {s : State} {m : MethodId} {args : Array Value} {below : List Frame} {meth : Method} {c : Code} {H : Heap} {locs : List Loc} {cells slots : Nat}
variable {y : MethodName} {bytes cc : ByteArray} {maxL nL mc ms n index : Nat} {ret : Option FieldType} {ws : List Cond} {rm : Room} {Pc : Array Value → State → Prop} {Qc : Array Value → State → Outcome → State → Prop} {XC : String → State → State → Prop} {free : Addr → Prop} {Ts : List Cond} {own C : String} {b : Addr} {As rest : List Value} {g : JFrame}
theorem vx_callBack (cb : CallB R s args own index y bytes maxL ret ws rm mc ms n) (hM : vx_Met l y ws rm Pc Qc XC mc ms free) (hbl : FrameBlind Pc) : vx_Back l R p e below s args y 3 8 (PreOf R mc ms Pc) (PostOf Qc mc ms free) (vx_Post XC mc ms free) := by
  obtain ⟨hrc, hrs, hfr, hlo, hws, hcw, -, hini, -⟩ := cb
  exact vx_back (bytes := bytes) (maxL := maxL) (ret := ret) hM hbl hrc hrs hfr hlo hws hcw (fun a' U hW => word_at hW (Or.inl (by first | rfl | simp [Cond.onTables, Cond.keeps, Cond.steady])) hini)
theorem vx_runV (S : CallFix p m c cc nL s args Ts own) (hM : vx_Met l y ws rm Pc Qc XC mc ms free) (cw : CallW R s args own C index y bytes maxL ret ws rm mc ms n) (hp : PreV s H C b Pc As)
    (hg : g.method = m) (hn : As.length = n) (hsize : g.locals.size = nL) (hstack : g.stack = As.reverse ++ .ref b :: rest) (hW : 2 * g.monitorRoom + (rest.map fun v => v.category).sum ≤ 8) (hdg : decode cc g.pc = .ok (.invokevirtual index, 3)) (hf : cells + mc ≤ R.cells ∧ slots + ms ≤ R.slots) :
    vx_Run p l e R s m args below meth c H locs cells slots mc ms g rest (Qc (Value.ref b :: As).toArray) XC free := by
  have hK : vx_Back l R p e below s args y 3 8 (PreOf R mc ms Pc) (PostOf Qc mc ms free) (vx_Post XC mc ms free) := vx_callBack cw.1 hM hp.1
  obtain ⟨⟨-, -, -, -, -, -, hcode, -, hy, hlen, hl⟩, hin, hse⟩ := cw
  obtain ⟨hx, hb, hml, ho, -⟩ := S
  obtain ⟨-, ⟨cellB, hcB, hoB, hclB⟩, hPc⟩ := hp
  intro T hT X
  rcases vx_callV X hx (C := C) (bytes := bytes) (maxL := maxL) (ret := ret) ho hl hin hse hcode hy hK (by rw [hT]; exact hcB) hoB hclB hg (hsize.trans hml.symm) (argsL := As) (rest := rest) (fun sig h => hn.trans (hlen sig h)) hstack hW (by rw [hb]; exact hdg)
    (fun vm₁ hW₁ => ⟨hf.1, hf.2, hPc (T.setVm vm₁) hT hW₁⟩) with ⟨v, vm₁, ⟨U', l2, c2, s2⟩, hW₁, X', ⟨g', mk, t, L, e1, e2, hq, h1, hL, h2, h3⟩, st⟩ | ⟨q, vm₁, ⟨U', l2, c2, s2⟩, hW₁, X', ⟨g', mk, t, L, E, ce, e1, e2, hq, hce, hcv, hcl, h1, hL, h2, h3⟩, st⟩
  · dsimp only [Pt.U, Pt.locs, Pt.cells, Pt.slots] at X' e1 e2 h1 h2 h3 st
    subst h1; subst h2; subst h3
    exact Or.inl ⟨v, (T.setVm vm₁).calling g' mk (Value.ref b :: As).toArray, t, U', L, hT, X', hL, e1, e2, hq, st⟩
  · dsimp only [Pt.U, Pt.locs, Pt.cells, Pt.slots] at X' e1 e2 h1 h2 h3 st hcl
    subst h1; subst h2; subst h3
    exact Or.inr ⟨q, (T.setVm vm₁).calling g' mk (Value.ref b :: As).toArray, t, U', L, E, ce, hT, X', hL, e1, e2, hq, hce, hcv, vx_cls hW₁ hcl, st⟩
theorem vx_runS (S : CallFix p m c cc nL s args Ts own) (hM : vx_Met l y ws rm Pc Qc XC mc ms free) (cw : CallB R s args own index y bytes maxL ret ws rm mc ms n ∧ (Cond.static y).before args s = true) (hp : PreS s H Pc As)
    (hg : g.method = m) (hn : As.length = n) (hsize : g.locals.size = nL) (hstack : g.stack = As.reverse ++ rest) (hW : 2 * g.monitorRoom + (rest.map fun v => v.category).sum ≤ 8) (hdg : decode cc g.pc = .ok (.invokestatic index, 3)) (hf : cells + mc ≤ R.cells ∧ slots + ms ≤ R.slots) :
    vx_Run p l e R s m args below meth c H locs cells slots mc ms g rest (Qc As.toArray) XC free := by
  have hK : vx_Back l R p e below s args y 3 8 (PreOf R mc ms Pc) (PostOf Qc mc ms free) (vx_Post XC mc ms free) := vx_callBack cw.1 hM hp.1
  obtain ⟨⟨-, -, -, -, -, -, hcode, hini, hy, hlen, hl⟩, hstt⟩ := cw
  obtain ⟨hx, hb, hml, ho, -⟩ := S
  intro T hT X
  rcases vx_callS X hx (bytes := bytes) (maxL := maxL) (ret := ret) ho hl hstt hini hcode hy hK hg (hsize.trans hml.symm) (argsL := As) (rest := rest) (fun sig h => hn.trans (hlen sig h)) hstack hW (by rw [hb]; exact hdg)
    (fun vm₁ hW₁ => ⟨hf.1, hf.2, hp.2 (T.setVm vm₁) hT hW₁⟩) with ⟨v, vm₁, ⟨U', l2, c2, s2⟩, hW₁, X', ⟨g', mk, t, L, e1, e2, hq, h1, hL, h2, h3⟩, st⟩ | ⟨q, vm₁, ⟨U', l2, c2, s2⟩, hW₁, X', ⟨g', mk, t, L, E, ce, e1, e2, hq, hce, hcv, hcl, h1, hL, h2, h3⟩, st⟩
  · dsimp only [Pt.U, Pt.locs, Pt.cells, Pt.slots] at X' e1 e2 h1 h2 h3 st
    subst h1; subst h2; subst h3
    exact Or.inl ⟨v, (T.setVm vm₁).calling g' mk As.toArray, t, U', L, hT, X', hL, e1, e2, hq, st⟩
  · dsimp only [Pt.U, Pt.locs, Pt.cells, Pt.slots] at X' e1 e2 h1 h2 h3 st hcl
    subst h1; subst h2; subst h3
    exact Or.inr ⟨q, (T.setVm vm₁).calling g' mk As.toArray, t, U', L, E, ce, hT, X', hL, e1, e2, hq, hce, hcv, vx_cls hW₁ hcl, st⟩
end Runs
section Rows
variable {p : Program} {l : Launch} {e : Env} {R : Room} {s : State} {m : MethodId} {args : Array Value} {below : List Frame} {meth : Method} {c : Code} {H : Heap} {locs : List Loc} {cells slots : Nat} {Q : State → Prop}
variable {mc ms : Nat} {free : Addr → Prop} {A0 A1 : Nat → Prop} {H0 : Heap} {a : Array Value} {pc : Nat} {ls : Array Slot} {st0 rest : List Value}
theorem vx_keep {st₀ t T' : State} {L : List Loc} (h0 : st₀.heap = H) (e1 : T'.heap = t.heap) (hS : va_S A0 H0 H locs) (hA : ∀ q, q < H.size → A1 q → A0 q) (hf : ∀ q, free q → A0 q) (hL : ∀ q ∈ L, free q.base) (hF : va_F A1 st₀ t) :
    H.size ≤ T'.heap.size ∧ (∀ q : Nat, q < H.size → ¬ A1 q → T'.heap[q]? = H[q]?) ∧ va_S A0 H0 T'.heap (locs ++ L) := by
  obtain ⟨hz, hk⟩ := hF
  rw [h0] at hz hk
  exact ⟨by rw [e1]; exact hz, fun q h1 h2 => by rw [e1]; exact hk q h1 h2,
    ⟨Nat.le_trans hS.1 (by rw [e1]; exact hz), fun q h1 h2 => by rw [e1, hk q (Nat.lt_of_lt_of_le h1 hS.1) (fun z => h2 (hA q (Nat.lt_of_lt_of_le h1 hS.1) z))]; exact hS.2.1 q h1 h2, fun q hq => by
      rcases List.mem_append.mp hq with h | h
      · exact hS.2.2 q h
      · exact hf _ (hL q h)⟩⟩
theorem vx_calli {S SX : Type} {post : Int32 → S → Prop} {px : SX → Prop} {B : S → State → Prop} {BX : String → SX → State → Prop} {AX : Nat → Prop} (hr : vx_Run p l e R s m args below meth c H locs cells slots mc ms (F0 m pc ls st0) rest (va_Qi post B A1 a) (vx_X px BX AX) free) (hS : va_S A0 H0 H locs) (hA : ∀ q, q < H.size → A1 q → A0 q) (hf : ∀ q, free q → A0 q) (hAX : ∀ q, q < H.size → AX q → A0 q)
    (kx : ∀ (E : String) (ce : Cell) (q9 : Addr) (u : SX) (t : State) (H1 : Heap) (locs1 : List Loc), t.heap = H1 → s.vm.Alike t.vm → px u → BX E u t → H.size ≤ H1.size → (∀ q : Nat, q < H.size → ¬ AX q → H1[q]? = H[q]?) → va_S A0 H0 H1 locs1 → H1[q9]? = some ce → ce.vm = .none → s.vm.findClass E = some ce.cls → vx_W p l e R s m args below meth c H1 locs1 (cells + mc) (slots + ms) Q (F0 m pc ls rest) q9)
    (kk : ∀ (r : Int32) (u : S) (t : State) (H1 : Heap) (locs1 : List Loc), t.heap = H1 → s.vm.Alike t.vm → post r u → B u t → H.size ≤ H1.size → (∀ q : Nat, q < H.size → ¬ A1 q → H1[q]? = H[q]?) → va_S A0 H0 H1 locs1 → W p l e R s m args below meth c H1 locs1 (cells + mc) (slots + ms) Q (F0 m (pc + 3) ls (.int r :: rest))) : W p l e R s m args below meth c H locs cells slots Q (F0 m pc ls st0) := by
  intro T hT X
  rcases hr T hT X with ⟨v, st₀, t, T', L, h0, X', hL, e1, e2, ⟨⟨r, u, hv, hp, hb⟩, hF⟩, st⟩ | ⟨q, st₀, t, T', L, E, ce, h0, X', hL, e1, e2, ⟨u, hp, hb, hF⟩, hce, hcv, hcl, st⟩
  · cases hv
    obtain ⟨k1, k2, k3⟩ := vx_keep h0 e1 hS hA hf hL hF
    obtain ⟨t2, a1, b1⟩ := kk r u t T'.heap (locs ++ L) e1.symm (by rw [← e2]; exact X'.warmed.alike) hp hb k1 k2 k3 T' rfl X'
    exact ⟨t2, st t2 a1, b1⟩
  · obtain ⟨k1, k2, k3⟩ := vx_keep h0 e1 hS hAX hf hL hF
    obtain ⟨t2, a1, b1⟩ := kx E ce q u t T'.heap (locs ++ L) e1.symm (by rw [← e2]; exact X'.warmed.alike) hp hb k1 k2 k3 (by rw [e1]; exact hce) hcv hcl T' rfl X'
    exact ⟨t2, st.trans a1, b1⟩
theorem vx_calll {S SX : Type} {post : Int64 → S → Prop} {px : SX → Prop} {B : S → State → Prop} {BX : String → SX → State → Prop} {AX : Nat → Prop} (hr : vx_Run p l e R s m args below meth c H locs cells slots mc ms (F0 m pc ls st0) rest (va_Ql post B A1 a) (vx_X px BX AX) free) (hS : va_S A0 H0 H locs) (hA : ∀ q, q < H.size → A1 q → A0 q) (hf : ∀ q, free q → A0 q) (hAX : ∀ q, q < H.size → AX q → A0 q)
    (kx : ∀ (E : String) (ce : Cell) (q9 : Addr) (u : SX) (t : State) (H1 : Heap) (locs1 : List Loc), t.heap = H1 → s.vm.Alike t.vm → px u → BX E u t → H.size ≤ H1.size → (∀ q : Nat, q < H.size → ¬ AX q → H1[q]? = H[q]?) → va_S A0 H0 H1 locs1 → H1[q9]? = some ce → ce.vm = .none → s.vm.findClass E = some ce.cls → vx_W p l e R s m args below meth c H1 locs1 (cells + mc) (slots + ms) Q (F0 m pc ls rest) q9)
    (kk : ∀ (r : Int64) (u : S) (t : State) (H1 : Heap) (locs1 : List Loc), t.heap = H1 → s.vm.Alike t.vm → post r u → B u t → H.size ≤ H1.size → (∀ q : Nat, q < H.size → ¬ A1 q → H1[q]? = H[q]?) → va_S A0 H0 H1 locs1 → W p l e R s m args below meth c H1 locs1 (cells + mc) (slots + ms) Q (F0 m (pc + 3) ls (.long r :: rest))) : W p l e R s m args below meth c H locs cells slots Q (F0 m pc ls st0) := by
  intro T hT X
  rcases hr T hT X with ⟨v, st₀, t, T', L, h0, X', hL, e1, e2, ⟨⟨r, u, hv, hp, hb⟩, hF⟩, st⟩ | ⟨q, st₀, t, T', L, E, ce, h0, X', hL, e1, e2, ⟨u, hp, hb, hF⟩, hce, hcv, hcl, st⟩
  · cases hv
    obtain ⟨k1, k2, k3⟩ := vx_keep h0 e1 hS hA hf hL hF
    obtain ⟨t2, a1, b1⟩ := kk r u t T'.heap (locs ++ L) e1.symm (by rw [← e2]; exact X'.warmed.alike) hp hb k1 k2 k3 T' rfl X'
    exact ⟨t2, st t2 a1, b1⟩
  · obtain ⟨k1, k2, k3⟩ := vx_keep h0 e1 hS hAX hf hL hF
    obtain ⟨t2, a1, b1⟩ := kx E ce q u t T'.heap (locs ++ L) e1.symm (by rw [← e2]; exact X'.warmed.alike) hp hb k1 k2 k3 (by rw [e1]; exact hce) hcv hcl T' rfl X'
    exact ⟨t2, st.trans a1, b1⟩
theorem vx_callf {S SX : Type} {post : UInt32 → S → Prop} {px : SX → Prop} {B : S → State → Prop} {BX : String → SX → State → Prop} {AX : Nat → Prop} (hr : vx_Run p l e R s m args below meth c H locs cells slots mc ms (F0 m pc ls st0) rest (va_Qf post B A1 a) (vx_X px BX AX) free) (hS : va_S A0 H0 H locs) (hA : ∀ q, q < H.size → A1 q → A0 q) (hf : ∀ q, free q → A0 q) (hAX : ∀ q, q < H.size → AX q → A0 q)
    (kx : ∀ (E : String) (ce : Cell) (q9 : Addr) (u : SX) (t : State) (H1 : Heap) (locs1 : List Loc), t.heap = H1 → s.vm.Alike t.vm → px u → BX E u t → H.size ≤ H1.size → (∀ q : Nat, q < H.size → ¬ AX q → H1[q]? = H[q]?) → va_S A0 H0 H1 locs1 → H1[q9]? = some ce → ce.vm = .none → s.vm.findClass E = some ce.cls → vx_W p l e R s m args below meth c H1 locs1 (cells + mc) (slots + ms) Q (F0 m pc ls rest) q9)
    (kk : ∀ (r : UInt32) (u : S) (t : State) (H1 : Heap) (locs1 : List Loc), t.heap = H1 → s.vm.Alike t.vm → post r u → B u t → H.size ≤ H1.size → (∀ q : Nat, q < H.size → ¬ A1 q → H1[q]? = H[q]?) → va_S A0 H0 H1 locs1 → W p l e R s m args below meth c H1 locs1 (cells + mc) (slots + ms) Q (F0 m (pc + 3) ls (.float r :: rest))) : W p l e R s m args below meth c H locs cells slots Q (F0 m pc ls st0) := by
  intro T hT X
  rcases hr T hT X with ⟨v, st₀, t, T', L, h0, X', hL, e1, e2, ⟨⟨r, u, hv, hp, hb⟩, hF⟩, st⟩ | ⟨q, st₀, t, T', L, E, ce, h0, X', hL, e1, e2, ⟨u, hp, hb, hF⟩, hce, hcv, hcl, st⟩
  · cases hv
    obtain ⟨k1, k2, k3⟩ := vx_keep h0 e1 hS hA hf hL hF
    obtain ⟨t2, a1, b1⟩ := kk r u t T'.heap (locs ++ L) e1.symm (by rw [← e2]; exact X'.warmed.alike) hp hb k1 k2 k3 T' rfl X'
    exact ⟨t2, st t2 a1, b1⟩
  · obtain ⟨k1, k2, k3⟩ := vx_keep h0 e1 hS hAX hf hL hF
    obtain ⟨t2, a1, b1⟩ := kx E ce q u t T'.heap (locs ++ L) e1.symm (by rw [← e2]; exact X'.warmed.alike) hp hb k1 k2 k3 (by rw [e1]; exact hce) hcv hcl T' rfl X'
    exact ⟨t2, st.trans a1, b1⟩
theorem vx_calld {S SX : Type} {post : UInt64 → S → Prop} {px : SX → Prop} {B : S → State → Prop} {BX : String → SX → State → Prop} {AX : Nat → Prop} (hr : vx_Run p l e R s m args below meth c H locs cells slots mc ms (F0 m pc ls st0) rest (va_Qd post B A1 a) (vx_X px BX AX) free) (hS : va_S A0 H0 H locs) (hA : ∀ q, q < H.size → A1 q → A0 q) (hf : ∀ q, free q → A0 q) (hAX : ∀ q, q < H.size → AX q → A0 q)
    (kx : ∀ (E : String) (ce : Cell) (q9 : Addr) (u : SX) (t : State) (H1 : Heap) (locs1 : List Loc), t.heap = H1 → s.vm.Alike t.vm → px u → BX E u t → H.size ≤ H1.size → (∀ q : Nat, q < H.size → ¬ AX q → H1[q]? = H[q]?) → va_S A0 H0 H1 locs1 → H1[q9]? = some ce → ce.vm = .none → s.vm.findClass E = some ce.cls → vx_W p l e R s m args below meth c H1 locs1 (cells + mc) (slots + ms) Q (F0 m pc ls rest) q9)
    (kk : ∀ (r : UInt64) (u : S) (t : State) (H1 : Heap) (locs1 : List Loc), t.heap = H1 → s.vm.Alike t.vm → post r u → B u t → H.size ≤ H1.size → (∀ q : Nat, q < H.size → ¬ A1 q → H1[q]? = H[q]?) → va_S A0 H0 H1 locs1 → W p l e R s m args below meth c H1 locs1 (cells + mc) (slots + ms) Q (F0 m (pc + 3) ls (.double r :: rest))) : W p l e R s m args below meth c H locs cells slots Q (F0 m pc ls st0) := by
  intro T hT X
  rcases hr T hT X with ⟨v, st₀, t, T', L, h0, X', hL, e1, e2, ⟨⟨r, u, hv, hp, hb⟩, hF⟩, st⟩ | ⟨q, st₀, t, T', L, E, ce, h0, X', hL, e1, e2, ⟨u, hp, hb, hF⟩, hce, hcv, hcl, st⟩
  · cases hv
    obtain ⟨k1, k2, k3⟩ := vx_keep h0 e1 hS hA hf hL hF
    obtain ⟨t2, a1, b1⟩ := kk r u t T'.heap (locs ++ L) e1.symm (by rw [← e2]; exact X'.warmed.alike) hp hb k1 k2 k3 T' rfl X'
    exact ⟨t2, st t2 a1, b1⟩
  · obtain ⟨k1, k2, k3⟩ := vx_keep h0 e1 hS hAX hf hL hF
    obtain ⟨t2, a1, b1⟩ := kx E ce q u t T'.heap (locs ++ L) e1.symm (by rw [← e2]; exact X'.warmed.alike) hp hb k1 k2 k3 (by rw [e1]; exact hce) hcv hcl T' rfl X'
    exact ⟨t2, st.trans a1, b1⟩
theorem vx_callv {S SX : Type} {post : S → Prop} {px : SX → Prop} {B : S → State → Prop} {BX : String → SX → State → Prop} {AX : Nat → Prop} (hr : vx_Run p l e R s m args below meth c H locs cells slots mc ms (F0 m pc ls st0) rest (va_Qv post B A1 a) (vx_X px BX AX) free) (hS : va_S A0 H0 H locs) (hA : ∀ q, q < H.size → A1 q → A0 q) (hf : ∀ q, free q → A0 q) (hAX : ∀ q, q < H.size → AX q → A0 q)
    (kx : ∀ (E : String) (ce : Cell) (q9 : Addr) (u : SX) (t : State) (H1 : Heap) (locs1 : List Loc), t.heap = H1 → s.vm.Alike t.vm → px u → BX E u t → H.size ≤ H1.size → (∀ q : Nat, q < H.size → ¬ AX q → H1[q]? = H[q]?) → va_S A0 H0 H1 locs1 → H1[q9]? = some ce → ce.vm = .none → s.vm.findClass E = some ce.cls → vx_W p l e R s m args below meth c H1 locs1 (cells + mc) (slots + ms) Q (F0 m pc ls rest) q9)
    (kk : ∀ (u : S) (t : State) (H1 : Heap) (locs1 : List Loc), t.heap = H1 → s.vm.Alike t.vm → post u → B u t → H.size ≤ H1.size → (∀ q : Nat, q < H.size → ¬ A1 q → H1[q]? = H[q]?) → va_S A0 H0 H1 locs1 → W p l e R s m args below meth c H1 locs1 (cells + mc) (slots + ms) Q (F0 m (pc + 3) ls (rest))) : W p l e R s m args below meth c H locs cells slots Q (F0 m pc ls st0) := by
  intro T hT X
  rcases hr T hT X with ⟨v, st₀, t, T', L, h0, X', hL, e1, e2, ⟨⟨u, hv, hp, hb⟩, hF⟩, st⟩ | ⟨q, st₀, t, T', L, E, ce, h0, X', hL, e1, e2, ⟨u, hp, hb, hF⟩, hce, hcv, hcl, st⟩
  · cases hv
    obtain ⟨k1, k2, k3⟩ := vx_keep h0 e1 hS hA hf hL hF
    obtain ⟨t2, a1, b1⟩ := kk u t T'.heap (locs ++ L) e1.symm (by rw [← e2]; exact X'.warmed.alike) hp hb k1 k2 k3 T' rfl X'
    exact ⟨t2, st t2 a1, b1⟩
  · obtain ⟨k1, k2, k3⟩ := vx_keep h0 e1 hS hAX hf hL hF
    obtain ⟨t2, a1, b1⟩ := kx E ce q u t T'.heap (locs ++ L) e1.symm (by rw [← e2]; exact X'.warmed.alike) hp hb k1 k2 k3 (by rw [e1]; exact hce) hcv hcl T' rfl X'
    exact ⟨t2, st.trans a1, b1⟩
/-- caught by the row x of this method's table; the rows ahead don't take it -/
theorem vx_catch {own name : String} {E : String} {ce : Cell} {q : Addr} (hown : s.vm.findClass own = some m.cls) (pre : List ExceptionTableEntry) (x : ExceptionTableEntry) (suf : List ExceptionTableEntry) (hsplit : c.exceptionTable.toList = pre ++ x :: suf)
    (hpass : ∀ z ∈ pre, covers z pc = false ∨ (z.catchType ≠ 0 ∧ ∃ nm : String, (Cond.classLink own z.catchType nm).before args s = true ∧ va_Nc E nm s)) (hx : covers x pc = true) (h0 : x.catchType ≠ 0)
    (hlink : (Cond.classLink own x.catchType name).before args s = true) (hcast : (Cond.castable E name).before args s = true) (hcell : H[q]? = some ce) (hv : ce.vm = .none) (hcl : s.vm.findClass E = some ce.cls)
    (kk : W p l e R s m args below meth c H locs cells slots Q (F0 m x.handlerPc ls [.ref q])) : vx_W p l e R s m args below meth c H locs cells slots Q (F0 m pc ls rest) q := by
  intro T hT X
  have hpl : e.platform.magicAccessors = ({} : Platform).magicAccessors := by rw [X.admits.platform]
  obtain ⟨c3, c4, hc3, hc4, hasg⟩ := Cond.castable_spec hcast
  cases Option.some.inj (hc3.symm.trans hcl)
  obtain ⟨c5, hc5, hcl5⟩ := Cond.classLink_spec hown hlink e.platform hpl
  cases Option.some.inj (hc4.symm.trans hc5)
  obtain ⟨vm', X', st⟩ := Jvm.Stand.thenCaughtThrough X q (g := F0 m pc ls rest) rfl (Steps.refl _) (by rw [hT]; exact hcell) (by rw [hv]; rfl) (by obtain ⟨k9, h9, -⟩ := Vm.findClass_spec hcl; exact ⟨k9, h9⟩) pre x suf hsplit
    (fun z hz => by
      rcases hpass z hz with h | ⟨hz0, nm, hl1, hn1⟩
      · exact Or.inl h
      · obtain ⟨c6, hc6, hcl6⟩ := Cond.classLink_spec hown hl1 e.platform hpl
        obtain ⟨a8, b8, h1, h2, h3⟩ := hn1
        cases Option.some.inj (h1.symm.trans hcl)
        cases Option.some.inj (h2.symm.trans hc6)
        exact Or.inr ⟨hz0, _, hcl6, h3⟩) hx (Or.inr ⟨h0, c4, hcl5, hasg⟩)
  obtain ⟨t, a1, b1⟩ := kk (T.setVm vm') hT X'
  exact ⟨t, st.trans a1, b1⟩
end Rows
section Ends
variable {p : Program} {l : Launch} {e : Env} {R : Room} {s : State} {m : MethodId} {args : Array Value} {below : List Frame} {meth : Method} {c : Code} {H : Heap} {locs : List Loc} {cells slots : Nat} {Q : State → Prop}
variable {mc ms : Nat} {free : Addr → Prop} {A0 A1 : Nat → Prop} {H0 : Heap} {a : Array Value} {ls : Array Slot} {st0 rest : List Value}
variable {Qc : Array Value → State → Outcome → State → Prop} {XC : String → State → State → Prop}
/-- what a body that may throw owes at its end -/
def vx_MQ (below : List Frame) (Qc : Array Value → State → Outcome → State → Prop) (XC : String → State → State → Prop) (a : Array Value) (s : State) (mc ms : Nat) (free : Addr → Prop) : State → Prop := fun t =>
  ∃ o, t.status = .running ∧ Ended t below o ∧ vx_Q Qc XC mc ms free a s o t
theorem vx_ret {g : JFrame} {mc ms : Nat} (k : W p l e R s m args below meth c H locs cells slots (MQ below Qc args s mc ms free) g) : W p l e R s m args below meth c H locs cells slots (vx_MQ below Qc XC args s mc ms free) g := by
  intro T hT X
  obtain ⟨t, a1, o, b1, b2, b3, b4⟩ := k T hT X
  exact ⟨t, a1, o, b1, b2, Or.inl ⟨b3, b4⟩⟩
/-- not caught here: it goes on to the caller -/
theorem vx_widen {g : JFrame} {q : Addr} {k n : Nat} (h1 : cells ≤ k) (h2 : slots ≤ n) (kk : vx_W p l e R s m args below meth c H locs k n Q g q) : vx_W p l e R s m args below meth c H locs cells slots Q g q := fun T hT X => kk T hT (stand_widen X h1 h2)
theorem vx_out {pc : Nat} {E : String} {ce : Cell} {q : Addr} {mc ms : Nat} (hout : ∀ x ∈ c.exceptionTable.toList, covers x pc = false) (hlocks : meth.locks = false) (hcell : H[q]? = some ce) (hv : ce.vm = .none) (hcl : s.vm.findClass E = some ce.cls)
    (hx : ∀ t : State, t.heap = H → s.vm.Alike t.vm → XC E s t) (hf : ∀ z ∈ locs, free z.base) (hc : cells ≤ mc) (hs : slots ≤ ms) :
    vx_W p l e R s m args below meth c H locs cells slots (vx_MQ below Qc XC args s mc ms free) (F0 m pc ls rest) q := by
  intro T hT X
  obtain ⟨st1, hrun, hend, hW, hsm⟩ := X.leaveThrown q (g := F0 m pc ls rest) rfl rfl rfl hout hlocks
  have hcell9 : (T.setFrames (.throwing q :: below)).heap[q]? = some ce := by
    show T.heap[q]? = some ce
    rw [hT]; exact hcell
  exact ⟨_, st1, .threw q, hrun, hend, Or.inr ⟨q, rfl, E, ce, locs, hx _ hT hW.alike, hcell9, hv, hcl, hW, hsm.mono hc hs, hf⟩⟩
theorem vx_frame {U : State} {k n : Nat} (h : s.sameButNew ({ U with vm := s.vm } : State) locs k n) : s.heap.size ≤ U.heap.size ∧ ∀ q : Nat, q < s.heap.size → (∀ z ∈ locs, z.base ≠ q) → U.heap[q]? = s.heap[q]? := by
  obtain ⟨-, h2, -, -, -, h6⟩ := h
  refine ⟨h2, fun q hq hz => ?_⟩
  obtain ⟨c9, e1, e2, e3, e4⟩ := h6 q _ (Array.getElem?_eq_getElem hq)
  have hs : c9.slots = (s.heap[q]).slots := Array.ext_getElem? fun i => e4 i fun hm => hz _ hm rfl
  have h9 : c9 = s.heap[q] := by
    rw [hs] at e2
    exact e2
  have e5 : U.heap[q]? = some c9 := e1
  rw [e5, h9, Array.getElem?_eq_getElem hq]
/-- the words of a throw but the four that speak of the heap -/
def vx_no (w : Cond) : Bool := decide (w ≠ .isRef (.static Bundle.tN "UNASSIGNED_STACK" Bundle.steD)) && decide (w ≠ .isRef (.static Bundle.tN "SUPPRESSED_SENTINEL" Bundle.listD)) && decide (w ≠ .laysStatic Bundle.tN "UNASSIGNED_STACK" Bundle.steD) && decide (w ≠ .laysStatic Bundle.tN "SUPPRESSED_SENTINEL" Bundle.listD)
def vx_at0 (own : String) (ic : Nat) (X : String) (names : List String) : List Cond := (Bundle.ownAtoms0 own ic X names).filter vx_no
def vx_atS (own : String) (ic : Nat) (X : String) (names : List String) : List Cond := (Bundle.ownAtoms own ic X names).filter vx_no
/-- a word that the tables alone decide, or a good one -/
def vx_ot (w : Cond) : Bool := w.onTables || goodWord w
theorem vx_ot_at {args a' : Array Value} {s U : State} {w : Cond} (hW : s.WarmedH U.vm) (hvm : s.vm = U.vm) (hg : vx_ot w = true) (h : w.before args s = true) : w.before a' U = true := by
  simp only [vx_ot, Bool.or_eq_true] at hg
  rcases hg with hg | hg
  · exact va_tabs hg hvm h
  · exact word_at hW (good_of_word hg) h
/-- a list's words: the good ones out of the method's own list, the others by premises of their own -/
theorem vx_hat {args : Array Value} {s : State} {L B : List Cond} (h1 : ∀ w ∈ L.filter goodWord, w.before args s = true) (h2 : ∀ w ∈ L.filter (fun w => !goodWord w), w ∈ B) (h3 : ∀ w ∈ B, w.before args s = true) : ∀ w ∈ L, w.before args s = true := by
  intro w hw
  by_cases g : goodWord w = true
  · exact h1 w (List.mem_filter.mpr ⟨hw, g⟩)
  · refine h3 w (h2 w (List.mem_filter.mpr ⟨hw, ?_⟩))
    show (!goodWord w) = true
    cases hgw : goodWord w
    · rfl
    · exact absurd hgw g
theorem vx_c {args : Array Value} {s : State} {w : Cond} {B : List Cond} (h : w.before args s = true) (t : ∀ w ∈ B, w.before args s = true) : ∀ w' ∈ w :: B, w'.before args s = true := fun w' h' => (List.mem_cons.mp h').elim (fun e => by rw [e]; exact h) (t w')
theorem vx_n {args : Array Value} {s : State} : ∀ w ∈ ([] : List Cond), w.before args s = true := fun _ h => nomatch h
theorem vx_own {args : Array Value} {s : State} {L : List Cond} (h1 : ∀ w ∈ L.filter vx_no, w.before args s = true)
    (hU : (Cond.isRef (.static Bundle.tN "UNASSIGNED_STACK" Bundle.steD)).before args s = true) (hN : (Cond.isRef (.static Bundle.tN "SUPPRESSED_SENTINEL" Bundle.listD)).before args s = true)
    (lU : (Cond.laysStatic Bundle.tN "UNASSIGNED_STACK" Bundle.steD).before args s = true) (lN : (Cond.laysStatic Bundle.tN "SUPPRESSED_SENTINEL" Bundle.listD).before args s = true) : ∀ w ∈ L, w.before args s = true := by
  intro w hw
  by_cases e1 : w = .isRef (.static Bundle.tN "UNASSIGNED_STACK" Bundle.steD)
  · rw [e1]; exact hU
  · by_cases e2 : w = .isRef (.static Bundle.tN "SUPPRESSED_SENTINEL" Bundle.listD)
    · rw [e2]; exact hN
    · by_cases e3 : w = .laysStatic Bundle.tN "UNASSIGNED_STACK" Bundle.steD
      · rw [e3]; exact lU
      · by_cases e4 : w = .laysStatic Bundle.tN "SUPPRESSED_SENTINEL" Bundle.listD
        · rw [e4]; exact lN
        · exact h1 w (List.mem_filter.mpr ⟨hw, by unfold vx_no; rw [decide_eq_true e1, decide_eq_true e2, decide_eq_true e3, decide_eq_true e4]; rfl⟩)
/-- where a static field lies, its class's statics cell in H -/
def vx_L (C n d : String) (A : Nat → Prop) (U : State) (H : Heap) : Prop := ∃ (c : ClassId) (k : Class) (i : Nat) (f : Field) (a : Nat) (cell : Cell), U.vm.findClass C = some c ∧ U.fieldFound? C n d = some (c, k, i, f) ∧ f.isStatic = true ∧ k.statics = some a ∧ H[a]? = some cell ∧ cell.vm.isStatics = true ∧ cell.cls = c ∧ f.slot < cell.slots.size ∧ k.staticTypes[f.slot]? = some f.type ∧ ¬ A a
theorem vx_L.moved {C n d : String} {A : Nat → Prop} {u U : State} {H : Heap} (hvm : u.vm.Alike U.vm) (h : vx_L C n d A u H) : vx_L C n d A U H := by
  obtain ⟨c, k, i, f, a, cell, h1, h2, h3, h4, h5, h6, h7, h8, h9, h10⟩ := h
  obtain ⟨k', hi', he⟩ := State.fieldFound?_setVm hvm h2
  exact ⟨c, k', i, f, a, cell, by rw [hvm.findClass]; exact h1, hi', h3, by rw [he]; exact h4, h5, h6, h7, h8, by rw [he]; exact h9, h10⟩
theorem vx_L.kept {C n d : String} {A : Nat → Prop} {U : State} {H H1 : Heap} (h : vx_L C n d A U H) (hq : ∀ a : Nat, a < H.size → ¬ A a → H1[a]? = H[a]?) : vx_L C n d A U H1 := by
  obtain ⟨c, k, i, f, a, cell, h1, h2, h3, h4, h5, h6, h7, h8, h9, h10⟩ := h
  exact ⟨c, k, i, f, a, cell, h1, h2, h3, h4, by rw [hq a (Array.getElem?_eq_some_iff.mp h5).1 h10]; exact h5, h6, h7, h8, h9, h10⟩
theorem vx_L.narrow {C n d : String} {A B : Nat → Prop} {U : State} {H : Heap} (h : vx_L C n d A U H) (hAB : ∀ q, B q → A q) : vx_L C n d B U H := by
  obtain ⟨c, k, i, f, a, cell, h1, h2, h3, h4, h5, h6, h7, h8, h9, h10⟩ := h
  exact ⟨c, k, i, f, a, cell, h1, h2, h3, h4, h5, h6, h7, h8, h9, fun z => h10 (hAB _ z)⟩
theorem vx_L.word {C n d : String} {A : Nat → Prop} {s : State} {args : Array Value} (h : vx_L C n d A s s.heap) : (Cond.laysStatic C n d).before args s = true := by
  obtain ⟨c, k, i, f, a, cell, h1, h2, h3, h4, h5, h6, h7, h8, h9, -⟩ := h
  show (Cond.laysStatic C n d).holds args s none s [] = true
  exact Cond.laysStatic_of h1 h2 h3 h4 h5 h6 h7 h8 h9
/-- .. and what it holds: null or some reference -/
def vx_Zq (C n d : String) (A : Nat → Prop) (U : State) (H : Heap) : Prop := va_Zq C n d A U H ∧ vx_L C n d A U H
theorem vx_Zq.moved {C n d : String} {A : Nat → Prop} {u U : State} {H : Heap} (hvm : u.vm.Alike U.vm) (h : vx_Zq C n d A u H) : vx_Zq C n d A U H := ⟨va_Zq.moved hvm h.1, vx_L.moved hvm h.2⟩
theorem vx_Zq.kept {C n d : String} {A : Nat → Prop} {U : State} {H H1 : Heap} (h : vx_Zq C n d A U H) (hq : ∀ a : Nat, a < H.size → ¬ A a → H1[a]? = H[a]?) : vx_Zq C n d A U H1 := ⟨va_Zq.kept h.1 hq, vx_L.kept h.2 hq⟩
theorem vx_Zq.narrow {C n d : String} {A B : Nat → Prop} {U : State} {H : Heap} (h : vx_Zq C n d A U H) (hAB : ∀ q, B q → A q) : vx_Zq C n d B U H := ⟨va_Zq.narrow h.1 hAB, vx_L.narrow h.2 hAB⟩
theorem vx_Zqof {args : Array Value} {s : State} {C n d : String} {A : Nat → Prop} (hl : (Cond.laysStatic C n d).before args s = true) (hini : (Cond.initialized C).before args s = true) (h : (Cond.isRef (.static C n d)).before args s = true) (hA : ∀ a : Nat, a < s.heap.size → ¬ A a) : vx_Zq C n d A s s.heap := by
  refine ⟨va_Zqof hl hini h hA, ?_⟩
  obtain ⟨c, k, i, f, a, cell, h1, h2, h3, h4, h5, h6, h7, h8, h9⟩ := Cond.laysStatic_spec hl
  exact ⟨c, k, i, f, a, cell, h1, h2, h3, h4, h5, h6, h7, h8, h9, hA a (Array.getElem?_eq_some_iff.mp h5).1⟩
theorem vx_isRef {C n d : String} {v : Value} {A : Nat → Prop} {s : State} {args : Array Value} (h : va_Z C n d v A s s.heap) (hv : v.isRef = true) : (Cond.isRef (.static C n d)).before args s = true := by
  obtain ⟨cf, kf, fi, f, a, cell, h1, h2, h3, h4, h5, h6, h7, -⟩ := h
  have he : (Term.static C n d).eval args s none [] s = some v := by
    simp [Term.eval, State.fieldNamed?, h1, h2, h4, h5, h6, h7]
  simp only [Cond.before, Cond.holds, Cond.value, he]
  cases v <;> simp_all [Value.isRef]
theorem vx_isRefq {C n d : String} {A : Nat → Prop} {s : State} {args : Array Value} (h : va_Zq C n d A s s.heap) : (Cond.isRef (.static C n d)).before args s = true := by
  rcases h with h | ⟨t, h⟩
  · exact vx_isRef h rfl
  · exact vx_isRef h rfl
/-- the same frame, seen from here: as if the method were called anew in this heap -/
theorem vx_rebase {T : State} (X : Stand p l e R s m args below meth c T locs cells slots) {R' : Room} (hf : R'.frames ≤ R.frames) (hl : R'.locals ≤ R.locals) (hc : cells + R'.cells ≤ R.cells) (hs : slots + R'.slots ≤ R.slots) :
    Stand p l e R' ((T.setVm s.vm).setFrames (.invoking m args :: below)) m args below meth c T [] 0 0 := by
  have htop : (T.setVm s.vm).topJava?.isSome := X.here.top
  have hF : ((T.setVm s.vm).setFrames (.invoking m args :: below)).frames = .invoking m args :: below := State.frames_setFrames _ (State.cur_lt_of_top htop)
  obtain ⟨g₀, hg0⟩ := Option.isSome_iff_exists.mp htop
  obtain ⟨r, hr⟩ := State.topJava?_eq_some.mp hg0
  have hl9 : e.platform.stackLimits (T.setVm s.vm).me = e.platform.stackLimits s.me := X.limits
  have hb9 : (T.setVm s.vm).me.stackBytes = s.me.stackBytes := X.bytes
  refine ⟨X.admits, X.cas, X.clock, hF, ?_, X.hears, X.method, X.code, X.here, X.tail, X.warmed, ?_, ?_, ?_⟩
  · have h := X.room
    have hU : ((T.setVm s.vm).setFrames (.invoking m args :: below)).localsInUse = s.localsInUse := by
      rw [State.localsInUse_invoking hF (meth := meth) (c := c) X.method X.code, State.localsInUse_invoking X.frames X.method X.code]
    simp only [State.hasRoom, Bool.and_eq_true, decide_eq_true_eq] at h ⊢
    obtain ⟨⟨⟨⟨h1, h2, h3, h4, h5, h6⟩, h7⟩, h8⟩, h9⟩ := h
    rw [X.frames, List.length_cons] at h2 h3
    have q1 := X.heapSize
    have q2 := X.used
    simp only [hF, hU, List.length_cons, State.stackLimits_setFrames, State.stackBytes_setFrames, hl9, hb9]
    refine ⟨⟨⟨⟨by omega, by omega, by omega, by omega, by omega, h6⟩, ?_⟩, ?_⟩, X.book⟩
    · show T.heap.size + R'.cells ≤ e.platform.maxCells
      omega
    · show T.slotsUsed + R'.slots ≤ e.platform.maxSlots
      omega
  · rw [State.stackLimits_setFrames]; rfl
  · rw [State.stackBytes_setFrames]; rfl
  · refine ⟨?_, Nat.le_refl _, Nat.le_refl _, ?_, ?_, fun a c9 h9 => ⟨c9, h9, rfl, rfl, fun _ _ => rfl⟩⟩
    · obtain ⟨t, ht, -⟩ := State.frames_cons hr
      show T.setVm s.vm = { ((T.setVm s.vm).setFrames (.invoking m args :: below)).setFrames (T.setVm s.vm).frames with heap := T.heap, slotsUsed := T.slotsUsed }
      rw [State.setFrames_setFrames, State.setFrames_self ht]
      rfl
    · show T.slotsUsed = T.slotsUsed + ((T.heap.toList.drop T.heap.size).map (·.slots.size)).sum
      rw [List.drop_eq_nil_of_le (Nat.le_of_eq Array.length_toList)]
      rfl
    · show ((T.heap.toList.drop T.heap.size).map (·.slots.size)).sum ≤ 0
      rw [List.drop_eq_nil_of_le (Nat.le_of_eq Array.length_toList)]
      exact Nat.le_refl _
/-- 'throw new E()': new; dup; invokespecial; athrow -/
theorem vx_throw0 {cc : ByteArray} {pc : Nat} (hexec : p.tables.exec = Jvm.exec) (hb : c.code = cc) (hl : l.stackTraces = false) {own cls : String} {names : List String} {ik ic mc ms : Nat} {A : Nat → Prop}
    (hown : s.vm.findClass own = some m.cls) (hcls : Bundle.fit cls = true) (hnames : ∀ n ∈ names, Bundle.fit n = true)
    (hk : (Cond.classLink own ik cls).before args s = true) (hini : (Cond.initialized cls).before args s = true) (hat : ∀ w ∈ vx_at0 own ic cls names, w.before args s = true)
    (hgood : ∀ w ∈ Cond.classLink own ik cls :: Cond.initialized cls :: vx_at0 own ic cls names, vx_ot w = true)
    (hU : vx_Zq Bundle.tN "UNASSIGNED_STACK" Bundle.steD A s s.heap) (hN : vx_Zq Bundle.tN "SUPPRESSED_SENTINEL" Bundle.listD A s s.heap) (hS : va_S A s.heap H locs) (hsize : ls.size = c.maxLocals)
    (d0 : decode cc pc = .ok (.new ik, 3)) (d3 : decode cc (pc + 3) = .ok (.dup, 1)) (d4 : decode cc (pc + 4) = .ok (.invokespecial ic, 3)) (d7 : decode cc (pc + 7) = .ok (.athrow, 1))
    (hout : ∀ x ∈ c.exceptionTable.toList, covers x (pc + 7) = false)
    (hRframes : names.length + 3 < R.frames) (hRlocals : (rest.map fun v => v.category).sum + (13 * (names.length + 1) + 42) ≤ R.locals) (hRcells : cells + 1 ≤ R.cells) (hRslots : slots + 6 ≤ R.slots) (hlocks : meth.locks = false)
    (hx : ∀ t : State, s.vm.Alike t.vm → H.size ≤ t.heap.size → (∀ q : Nat, q < H.size → t.heap[q]? = H[q]?) → XC cls s t)
    (hf : ∀ z ∈ locs, free z.base) (hc : cells + 1 ≤ mc) (hs : slots + 6 ≤ ms) :
    W p l e R s m args below meth c H locs cells slots (vx_MQ below Qc XC args s mc ms free) (F0 m pc ls rest) := by
  intro T hT X
  have htr : e.platform.stackTraces = false := (show e.platform.stackTraces = l.stackTraces by rw [X.admits.platform]).trans hl
  have Y := vx_rebase X (R' := { frames := R.frames, locals := R.locals, cells := 1, slots := 6 }) (Nat.le_refl _) (Nat.le_refl _) hRcells hRslots
  obtain ⟨s', hA⟩ : ∃ z, z = (T.setVm s.vm).setFrames (.invoking m args :: below) := ⟨_, rfl⟩
  rw [← hA] at Y
  have hvm : s'.vm = s.vm := by rw [hA]; rfl
  have hhp : s'.heap = H := by rw [hA]; exact hT
  have hW0 : s.WarmedH s'.vm := by rw [hvm]; exact State.WarmedH.refl s
  have hat' : ∀ w ∈ vx_at0 own ic cls names, w.before args s' = true := fun w hw => vx_ot_at hW0 hvm.symm (hgood w (List.mem_cons_of_mem _ (List.mem_cons_of_mem _ hw))) (hat w hw)
  have hk' : (Cond.classLink own ik cls).before args s' = true := vx_ot_at hW0 hvm.symm (hgood _ List.mem_cons_self) hk
  have hini' : (Cond.initialized cls).before args s' = true := vx_ot_at hW0 hvm.symm (hgood _ (List.mem_cons_of_mem _ List.mem_cons_self)) hini
  have hU' : vx_Zq Bundle.tN "UNASSIGNED_STACK" Bundle.steD A s' s'.heap := by rw [hhp]; exact vx_Zq.moved hW0.alike (hU.kept hS.2.1)
  have hN' : vx_Zq Bundle.tN "SUPPRESSED_SENTINEL" Bundle.listD A s' s'.heap := by rw [hhp]; exact vx_Zq.moved hW0.alike (hN.kept hS.2.1)
  have h : ∀ w ∈ Bundle.ownAtoms0 own ic cls names, w.before args s' = true := vx_own hat' (vx_isRefq hU'.1) (vx_isRefq hN'.1) hU'.2.word hN'.2.word
  have hown' : s'.vm.findClass own = some m.cls := by rw [hvm]; exact hown
  have hins : (Cond.instantiable cls 6).before args s' = true := h _ (by simp [Bundle.ownAtoms0])
  obtain ⟨vm₁, cX, kX, hfX, hkX, -, -, X₁, st1⟩ := Y.newCold hexec (own := own) (C := cls) (index := ik) (n := 6) hown' hk' hins hini'
    (g := F0 m pc ls rest) rfl (by rw [hb]; exact d0) (Nat.le_refl _) (Nat.le_refl _)
  generalize hT1 : (T.setVm vm₁).pushCell { cls := cX, slots := kX.instanceTypes.map defaultValue, vm := .none } = T1 at X₁ st1
  have hcat : (Value.ref T.heap.size).category = 1 := rfl
  have hcellA : T1.heap[T.heap.size]? = some (freshCell cX kX) := by rw [← hT1]; exact State.heap_pushCell_size _ _
  have d3' : decode c.code (pc + 3) = .ok (.dup, 1) := by rw [hb]; exact d3
  obtain ⟨U, hsteps, hrun, hend, hW, hsame, ce, hce, hO⟩ := X₁.ctorThrow0 hexec htr (own := own) (cls := cls) (names := names) (ic := ic) hown' hcls hnames h (fun x hx => nomatch hx) hfX hkX hcellA (by rw [hhp, hT]; exact Nat.le_refl _)
    (g := { method := m, pc := pc + 4, locals := ls, stack := .ref T.heap.size :: .ref T.heap.size :: rest, locked := none }) rfl hsize rfl rfl (rest := rest) rfl
    (by rw [hb]; exact d4) (by rw [hb]; exact d7) hout hRframes (by simp only [List.map_cons, List.sum_cons, hcat]; omega) hlocks
  obtain ⟨f1, f2⟩ := vx_frame hsame
  rw [hhp] at f1 f2
  have hWs : s.WarmedH U.vm := State.WarmedH.trans hW0 hW
  have hcl : s.vm.findClass cls = some ce.cls := by
    have h9 := hO.cls
    rw [hvm] at h9
    exact h9
  have hall : s.sameButNew ({ U with vm := s.vm } : State) locs mc ms := by
    subst hA
    obtain ⟨e1, e2⟩ := hsame
    rw [State.setFrames_setFrames] at e1
    have h2 : (T.setVm s.vm).sameButNew ({ U with vm := s.vm } : State) [] (0 + 1) (0 + 6) := ⟨e1, e2⟩
    have h3 := X.same.trans h2
    rw [List.append_nil] at h3
    exact h3.mono hc hs
  refine ⟨U, ?_, .threw T.heap.size, hrun, hend, Or.inr ⟨T.heap.size, rfl, cls, ce, locs, hx U hWs.alike f1 (fun q hq => f2 q hq (fun z hz => nomatch hz)), hce, hO.vm, hcl, hWs, hall, hf⟩⟩
  refine st1 _ ?_
  show Steps p.tables e below (T1.setTop { method := m, pc := pc + 3, locals := ls, stack := .ref T.heap.size :: rest, locked := none }) _
  jvm_step X₁.here [X₁.here.top, hexec, d3', Value.category]
  exact hsteps
/-- 'throw new E("text")': new; dup; ldc; invokespecial; athrow -/
theorem vx_throwS {cc : ByteArray} {pc : Nat} (hexec : p.tables.exec = Jvm.exec) (hb : c.code = cc) (hl : l.stackTraces = false) {own cls text : String} {names : List String} {ik is ic mc ms sa : Nat} {A : Nat → Prop}
    (hown : s.vm.findClass own = some m.cls) (hcls : Bundle.fit cls = true) (hnames : ∀ n ∈ names, Bundle.fit n = true)
    (hk : (Cond.classLink own ik cls).before args s = true) (hini : (Cond.initialized cls).before args s = true) (hstr : vk_R own is text sa s) (hat : ∀ w ∈ vx_atS own ic cls names, w.before args s = true)
    (hgood : ∀ w ∈ Cond.classLink own ik cls :: Cond.initialized cls :: vx_atS own ic cls names, vx_ot w = true)
    (hU : vx_Zq Bundle.tN "UNASSIGNED_STACK" Bundle.steD A s s.heap) (hN : vx_Zq Bundle.tN "SUPPRESSED_SENTINEL" Bundle.listD A s s.heap) (hS : va_S A s.heap H locs) (hsize : ls.size = c.maxLocals)
    (d0 : decode cc pc = .ok (.new ik, 3)) (d3 : decode cc (pc + 3) = .ok (.dup, 1)) (d4 : decode cc (pc + 4) = .ok (.ldc is, 2)) (d6 : decode cc (pc + 6) = .ok (.invokespecial ic, 3)) (d9 : decode cc (pc + 9) = .ok (.athrow, 1))
    (hout : ∀ x ∈ c.exceptionTable.toList, covers x (pc + 9) = false)
    (hRframes : names.length + 3 < R.frames) (hRlocals : (rest.map fun v => v.category).sum + (13 * (names.length + 1) + 43) ≤ R.locals) (hRcells : cells + 1 ≤ R.cells) (hRslots : slots + 6 ≤ R.slots) (hlocks : meth.locks = false)
    (hx : ∀ t : State, s.vm.Alike t.vm → H.size ≤ t.heap.size → (∀ q : Nat, q < H.size → t.heap[q]? = H[q]?) → XC cls s t)
    (hf : ∀ z ∈ locs, free z.base) (hc : cells + 1 ≤ mc) (hs : slots + 6 ≤ ms) :
    W p l e R s m args below meth c H locs cells slots (vx_MQ below Qc XC args s mc ms free) (F0 m pc ls rest) := by
  intro T hT X
  have htr : e.platform.stackTraces = false := (show e.platform.stackTraces = l.stackTraces by rw [X.admits.platform]).trans hl
  have Y := vx_rebase X (R' := { frames := R.frames, locals := R.locals, cells := 1, slots := 6 }) (Nat.le_refl _) (Nat.le_refl _) hRcells hRslots
  obtain ⟨s', hA⟩ : ∃ z, z = (T.setVm s.vm).setFrames (.invoking m args :: below) := ⟨_, rfl⟩
  rw [← hA] at Y
  have hvm : s'.vm = s.vm := by rw [hA]; rfl
  have hhp : s'.heap = H := by rw [hA]; exact hT
  have hW0 : s.WarmedH s'.vm := by rw [hvm]; exact State.WarmedH.refl s
  have hat' : ∀ w ∈ vx_atS own ic cls names, w.before args s' = true := fun w hw => vx_ot_at hW0 hvm.symm (hgood w (List.mem_cons_of_mem _ (List.mem_cons_of_mem _ hw))) (hat w hw)
  have hk' : (Cond.classLink own ik cls).before args s' = true := vx_ot_at hW0 hvm.symm (hgood _ List.mem_cons_self) hk
  have hini' : (Cond.initialized cls).before args s' = true := vx_ot_at hW0 hvm.symm (hgood _ (List.mem_cons_of_mem _ List.mem_cons_self)) hini
  have hU' : vx_Zq Bundle.tN "UNASSIGNED_STACK" Bundle.steD A s' s'.heap := by rw [hhp]; exact vx_Zq.moved hW0.alike (hU.kept hS.2.1)
  have hN' : vx_Zq Bundle.tN "SUPPRESSED_SENTINEL" Bundle.listD A s' s'.heap := by rw [hhp]; exact vx_Zq.moved hW0.alike (hN.kept hS.2.1)
  have h : ∀ w ∈ Bundle.ownAtoms own ic cls names, w.before args s' = true := vx_own hat' (vx_isRefq hU'.1) (vx_isRefq hN'.1) hU'.2.word hN'.2.word
  have hown' : s'.vm.findClass own = some m.cls := by rw [hvm]; exact hown
  have hins : (Cond.instantiable cls 6).before args s' = true := h _ (by simp [Bundle.ownAtoms])
  obtain ⟨vm₁, cX, kX, hfX, hkX, -, -, X₁, st1⟩ := Y.newCold hexec (own := own) (C := cls) (index := ik) (n := 6) hown' hk' hins hini'
    (g := F0 m pc ls rest) rfl (by rw [hb]; exact d0) (Nat.le_refl _) (Nat.le_refl _)
  generalize hT1 : (T.setVm vm₁).pushCell { cls := cX, slots := kX.instanceTypes.map defaultValue, vm := .none } = T1 at X₁ st1
  have hcat : (Value.ref T.heap.size).category = 1 := rfl
  have hcellA : T1.heap[T.heap.size]? = some (freshCell cX kX) := by rw [← hT1]; exact State.heap_pushCell_size _ _
  have d3' : decode c.code (pc + 3) = .ok (.dup, 1) := by rw [hb]; exact d3
  have d4' : decode c.code (pc + 4) = .ok (.ldc is, 2) := by rw [hb]; exact d4
  have hstr' : vk_R own is text sa s' := vk_R.warm hW0 hstr
  obtain ⟨U, hsteps, hrun, hend, hW, hsame, ce, hce, hO⟩ := X₁.ctorThrowS hexec htr (own := own) (cls := cls) (names := names) (ic := ic) hown' hcls hnames h (fun x hx => nomatch hx) hfX hkX hcellA (by rw [hhp, hT]; exact Nat.le_refl _) (msg := .ref sa) rfl
    (g := { method := m, pc := pc + 6, locals := ls, stack := .ref sa :: .ref T.heap.size :: .ref T.heap.size :: rest, locked := none }) rfl hsize rfl rfl (rest := rest) rfl
    (by rw [hb]; exact d6) (by rw [hb]; exact d9) hout hRframes (by simp only [List.map_cons, List.sum_cons, hcat]; omega) hlocks
  obtain ⟨f1, f2⟩ := vx_frame hsame
  rw [hhp] at f1 f2
  have hWs : s.WarmedH U.vm := State.WarmedH.trans hW0 hW
  have hcl : s.vm.findClass cls = some ce.cls := by
    have h9 := hO.cls
    rw [hvm] at h9
    exact h9
  have hall : s.sameButNew ({ U with vm := s.vm } : State) locs mc ms := by
    subst hA
    obtain ⟨e1, e2⟩ := hsame
    rw [State.setFrames_setFrames] at e1
    have h2 : (T.setVm s.vm).sameButNew ({ U with vm := s.vm } : State) [] (0 + 1) (0 + 6) := ⟨e1, e2⟩
    have h3 := X.same.trans h2
    rw [List.append_nil] at h3
    exact h3.mono hc hs
  refine ⟨U, ?_, .threw T.heap.size, hrun, hend, Or.inr ⟨T.heap.size, rfl, cls, ce, locs, hx U hWs.alike f1 (fun q hq => f2 q hq (fun z hz => nomatch hz)), hce, hO.vm, hcl, hWs, hall, hf⟩⟩
  refine st1 _ ?_
  show Steps p.tables e below (T1.setTop { method := m, pc := pc + 3, locals := ls, stack := .ref T.heap.size :: rest, locked := none }) _
  jvm_step X₁.here [X₁.here.top, hexec, d3', Value.category]
  exact X₁.ldcString hexec (own := own) (text := text) (index := is) (a := sa) hown' hstr'.1 hstr'.2
    (g := { method := m, pc := pc + 4, locals := ls, stack := .ref T.heap.size :: .ref T.heap.size :: rest, locked := none }) rfl d4' _ hsteps
/-- 'throw new E("text")', the text by a wide index -/
theorem vx_throwSW {cc : ByteArray} {pc : Nat} (hexec : p.tables.exec = Jvm.exec) (hb : c.code = cc) (hl : l.stackTraces = false) {own cls text : String} {names : List String} {ik is ic mc ms sa : Nat} {A : Nat → Prop}
    (hown : s.vm.findClass own = some m.cls) (hcls : Bundle.fit cls = true) (hnames : ∀ n ∈ names, Bundle.fit n = true)
    (hk : (Cond.classLink own ik cls).before args s = true) (hini : (Cond.initialized cls).before args s = true) (hstr : vk_R own is text sa s) (hat : ∀ w ∈ vx_atS own ic cls names, w.before args s = true)
    (hgood : ∀ w ∈ Cond.classLink own ik cls :: Cond.initialized cls :: vx_atS own ic cls names, vx_ot w = true)
    (hU : vx_Zq Bundle.tN "UNASSIGNED_STACK" Bundle.steD A s s.heap) (hN : vx_Zq Bundle.tN "SUPPRESSED_SENTINEL" Bundle.listD A s s.heap) (hS : va_S A s.heap H locs) (hsize : ls.size = c.maxLocals)
    (d0 : decode cc pc = .ok (.new ik, 3)) (d3 : decode cc (pc + 3) = .ok (.dup, 1)) (d4 : decode cc (pc + 4) = .ok (.ldc_w is, 3)) (d7 : decode cc (pc + 7) = .ok (.invokespecial ic, 3)) (d10 : decode cc (pc + 10) = .ok (.athrow, 1))
    (hout : ∀ x ∈ c.exceptionTable.toList, covers x (pc + 10) = false)
    (hRframes : names.length + 3 < R.frames) (hRlocals : (rest.map fun v => v.category).sum + (13 * (names.length + 1) + 43) ≤ R.locals) (hRcells : cells + 1 ≤ R.cells) (hRslots : slots + 6 ≤ R.slots) (hlocks : meth.locks = false)
    (hx : ∀ t : State, s.vm.Alike t.vm → H.size ≤ t.heap.size → (∀ q : Nat, q < H.size → t.heap[q]? = H[q]?) → XC cls s t)
    (hf : ∀ z ∈ locs, free z.base) (hc : cells + 1 ≤ mc) (hs : slots + 6 ≤ ms) :
    W p l e R s m args below meth c H locs cells slots (vx_MQ below Qc XC args s mc ms free) (F0 m pc ls rest) := by
  intro T hT X
  have htr : e.platform.stackTraces = false := (show e.platform.stackTraces = l.stackTraces by rw [X.admits.platform]).trans hl
  have Y := vx_rebase X (R' := { frames := R.frames, locals := R.locals, cells := 1, slots := 6 }) (Nat.le_refl _) (Nat.le_refl _) hRcells hRslots
  obtain ⟨s', hA⟩ : ∃ z, z = (T.setVm s.vm).setFrames (.invoking m args :: below) := ⟨_, rfl⟩
  rw [← hA] at Y
  have hvm : s'.vm = s.vm := by rw [hA]; rfl
  have hhp : s'.heap = H := by rw [hA]; exact hT
  have hW0 : s.WarmedH s'.vm := by rw [hvm]; exact State.WarmedH.refl s
  have hat' : ∀ w ∈ vx_atS own ic cls names, w.before args s' = true := fun w hw => vx_ot_at hW0 hvm.symm (hgood w (List.mem_cons_of_mem _ (List.mem_cons_of_mem _ hw))) (hat w hw)
  have hk' : (Cond.classLink own ik cls).before args s' = true := vx_ot_at hW0 hvm.symm (hgood _ List.mem_cons_self) hk
  have hini' : (Cond.initialized cls).before args s' = true := vx_ot_at hW0 hvm.symm (hgood _ (List.mem_cons_of_mem _ List.mem_cons_self)) hini
  have hU' : vx_Zq Bundle.tN "UNASSIGNED_STACK" Bundle.steD A s' s'.heap := by rw [hhp]; exact vx_Zq.moved hW0.alike (hU.kept hS.2.1)
  have hN' : vx_Zq Bundle.tN "SUPPRESSED_SENTINEL" Bundle.listD A s' s'.heap := by rw [hhp]; exact vx_Zq.moved hW0.alike (hN.kept hS.2.1)
  have h : ∀ w ∈ Bundle.ownAtoms own ic cls names, w.before args s' = true := vx_own hat' (vx_isRefq hU'.1) (vx_isRefq hN'.1) hU'.2.word hN'.2.word
  have hown' : s'.vm.findClass own = some m.cls := by rw [hvm]; exact hown
  have hins : (Cond.instantiable cls 6).before args s' = true := h _ (by simp [Bundle.ownAtoms])
  obtain ⟨vm₁, cX, kX, hfX, hkX, -, -, X₁, st1⟩ := Y.newCold hexec (own := own) (C := cls) (index := ik) (n := 6) hown' hk' hins hini'
    (g := F0 m pc ls rest) rfl (by rw [hb]; exact d0) (Nat.le_refl _) (Nat.le_refl _)
  generalize hT1 : (T.setVm vm₁).pushCell { cls := cX, slots := kX.instanceTypes.map defaultValue, vm := .none } = T1 at X₁ st1
  have hcat : (Value.ref T.heap.size).category = 1 := rfl
  have hcellA : T1.heap[T.heap.size]? = some (freshCell cX kX) := by rw [← hT1]; exact State.heap_pushCell_size _ _
  have d3' : decode c.code (pc + 3) = .ok (.dup, 1) := by rw [hb]; exact d3
  have d4' : decode c.code (pc + 4) = .ok (.ldc_w is, 3) := by rw [hb]; exact d4
  have hstr' : vk_R own is text sa s' := vk_R.warm hW0 hstr
  obtain ⟨U, hsteps, hrun, hend, hW, hsame, ce, hce, hO⟩ := X₁.ctorThrowS hexec htr (own := own) (cls := cls) (names := names) (ic := ic) hown' hcls hnames h (fun x hx => nomatch hx) hfX hkX hcellA (by rw [hhp, hT]; exact Nat.le_refl _) (msg := .ref sa) rfl
    (g := { method := m, pc := pc + 7, locals := ls, stack := .ref sa :: .ref T.heap.size :: .ref T.heap.size :: rest, locked := none }) rfl hsize rfl rfl (rest := rest) rfl
    (by rw [hb]; exact d7) (by rw [hb]; exact d10) hout hRframes (by simp only [List.map_cons, List.sum_cons, hcat]; omega) hlocks
  obtain ⟨f1, f2⟩ := vx_frame hsame
  rw [hhp] at f1 f2
  have hWs : s.WarmedH U.vm := State.WarmedH.trans hW0 hW
  have hcl : s.vm.findClass cls = some ce.cls := by
    have h9 := hO.cls
    rw [hvm] at h9
    exact h9
  have hall : s.sameButNew ({ U with vm := s.vm } : State) locs mc ms := by
    subst hA
    obtain ⟨e1, e2⟩ := hsame
    rw [State.setFrames_setFrames] at e1
    have h2 : (T.setVm s.vm).sameButNew ({ U with vm := s.vm } : State) [] (0 + 1) (0 + 6) := ⟨e1, e2⟩
    have h3 := X.same.trans h2
    rw [List.append_nil] at h3
    exact h3.mono hc hs
  refine ⟨U, ?_, .threw T.heap.size, hrun, hend, Or.inr ⟨T.heap.size, rfl, cls, ce, locs, hx U hWs.alike f1 (fun q hq => f2 q hq (fun z hz => nomatch hz)), hce, hO.vm, hcl, hWs, hall, hf⟩⟩
  refine st1 _ ?_
  show Steps p.tables e below (T1.setTop { method := m, pc := pc + 3, locals := ls, stack := .ref T.heap.size :: rest, locked := none }) _
  jvm_step X₁.here [X₁.here.top, hexec, d3', Value.category]
  exact X₁.ldcStringW hexec (own := own) (text := text) (index := is) (a := sa) hown' hstr'.1 hstr'.2
    (g := { method := m, pc := pc + 4, locals := ls, stack := .ref T.heap.size :: .ref T.heap.size :: rest, locked := none }) rfl d4' _ hsteps
end Ends
section Bodies
variable {l : Launch}
theorem vx_ofW {y : MethodName} {ws ws' : List Cond} {rm : Room} {Pc : Array Value → State → Prop} {Qc : Array Value → State → Outcome → State → Prop} {XC : String → State → State → Prop} {mc ms : Nat} {free : Addr → Prop} {cc : ByteArray} {maxL : Nat} {ret : Option FieldType}
    (hy : plainName y.cls = true) (hw : ws = Cond.code y cc maxL ret :: ws')
    (body : ∀ p e s m args below meth c s₁, BodyLoose p l y (headSpec ws rm) cc maxL ret e s m args below meth c s₁ → c.maxLocals = maxL → (∀ x ∈ c.exceptionTable.toList, False) → Pc args s →
      W p l e (headSpec ws rm).room s m args below meth c s.heap [] 0 0 (vx_MQ below Qc XC args s mc ms free) (entryFrame m args maxL)) : vx_Met l y ws rm Pc Qc XC mc ms free := by
  refine MetFree.of_bodyS (code := cc) (maxLocals := maxL) (ret := ret) hy ?_ ?_
  · intro args s m h hn
    obtain ⟨meth, c, h1, h2, h3, h4, h5, h6, -, -⟩ := Cond.code_spec hn (atoms_spec (ws := ws) h _ (by rw [hw]; exact List.mem_cons_self))
    exact ⟨meth, c, h1, h2, h3, h4, h5, h6⟩
  · intro p e s m args below meth c s₁ B hml hP _
    have hh0 : s₁.heap = s.heap := by rw [B.state]; rfl
    have ht : ∀ x ∈ c.exceptionTable.toList, False := by
      obtain ⟨meth9, c9, h1, h2, -, -, -, -, h7, -⟩ := Cond.code_spec B.named (atoms_spec (ws := ws) B.pre _ (by rw [hw]; exact List.mem_cons_self))
      cases Option.some.inj (h1.symm.trans B.method)
      cases Option.some.inj (h2.symm.trans (Stand.of_body B).code)
      intro x hx
      rw [Array.isEmpty_iff.mp h7] at hx
      cases hx
    obtain ⟨t, a1, o, b1, b2, b3⟩ := body p e s m args below meth c s₁ B hml ht hP s₁ hh0 (Stand.of_body B)
    exact ⟨t, o, a1, b1, b2, b3⟩
/-- the table of a body with handlers -/
theorem vx_table {p : Program} {x y : MethodName} {S : Spec} {cc bytes : ByteArray} {maxL maxL' : Nat} {ret ret' : Option FieldType} {e : Env} {s s₁ : State} {m : MethodId} {args : Array Value} {below : List Frame} {meth : Method} {c : Code} {hh : List (Nat × Nat × Nat × Nat)}
    (B : BodyLoose p l y S cc maxL ret e s m args below meth c s₁) (h : (Cond.codeWith y bytes maxL' ret' hh).before args s = true) : c.exceptionTable.toList = tableOf hh := by
  obtain ⟨m9, meth9, c9, hn9, h1, h2, -, -, h6, -⟩ := Cond.codeWith_spec h
  cases Option.some.inj (hn9.symm.trans B.named)
  cases Option.some.inj (h1.symm.trans B.method)
  cases Option.some.inj (h2.symm.trans (Stand.of_body B).code)
  rw [← h6, table_eq]
end Bodies
end VXA
/-! ===== END ===== -/
/-! ===== BEGIN a static call of a method with an exception table ===== -/
section VXS
variable {p : Program} {l : Launch} {e : Env} {R : Room} {s : State} {m : MethodId} {args : Array Value} {below : List Frame} {meth : Method} {c : Code} {T : State} {H : Heap} {locs : List Loc} {cells slots : Nat}
abbrev vx_CSW (R : Room) (s : State) (args : Array Value) (own : String) (index : Nat) (y : MethodName) (bytes : ByteArray) (maxL : Nat) (ret : Option FieldType) (hh : List (Nat × Nat × Nat × Nat)) (ws : List Cond) (rm : Room) (mc ms n : Nat) : Prop :=
  (rm.cells = mc ∧ rm.slots = ms ∧ rm.frames + 1 ≤ R.frames ∧ 8 + (maxL + 11) + rm.locals ≤ R.locals ∧ (∀ w ∈ ws, ∀ (a' : Array Value) (U : State), s.WarmedH U.vm → w.before a' U = true) ∧ Cond.codeWith y bytes maxL ret hh ∈ ws) ∧
  (Cond.codeWith y bytes maxL ret hh).before args s = true ∧ (Cond.initialized y.cls).before args s = true ∧ (y.cls ≠ "java/lang/invoke/MethodHandle" ∧ y.cls ≠ "java/lang/invoke/VarHandle") ∧
  (∀ sig, parseMethodDescriptor y.desc = some sig → n = sig.parameters.length) ∧ (Cond.methodLink own index y).before args s = true ∧ (Cond.static y).before args s = true
theorem vx_cwSW {own : String} {index maxL mc ms : Nat} {y : MethodName} {bytes : ByteArray} {ret : Option FieldType} {hh : List (Nat × Nat × Nat × Nat)} {Ts ws ws' : List Cond} {rm : Room} (n : Nat) (ht : ∀ w ∈ Ts, w.before args s = true) (hT : GoodIn Ts (va_wsS own index y ws)) (hw : ws = Cond.codeWith y bytes maxL ret hh :: ws') (hrc : rm.cells = mc) (hrs : rm.slots = ms)
    (hd : y.cls ≠ "java/lang/invoke/MethodHandle" ∧ y.cls ≠ "java/lang/invoke/VarHandle" ∧ (parseMethodDescriptor y.desc).map (fun d => d.parameters.length) = some n) (hR : rm.frames + 1 ≤ R.frames ∧ 8 + (maxL + 11) + rm.locals ≤ R.locals) :
    vx_CSW R s args own index y bytes maxL ret hh ws rm mc ms n := by
  have ok : ∀ w ∈ va_wsS own index y ws, w.before args s = true := fun w h => ht w (hT w h).1
  have hG : GoodIn Ts ws := fun w h => hT w (by unfold va_wsS; exact List.mem_append_right _ h)
  have hc : Cond.codeWith y bytes maxL ret hh ∈ ws := by rw [hw]; exact List.mem_cons_self
  refine ⟨⟨hrc, hrs, hR.1, hR.2, pay_in ht hG, hc⟩, ht _ (hG _ hc).1, ok _ (by simp [va_wsS]), ⟨hd.1, hd.2.1⟩, fun sig h => ?_, ok _ (by simp [va_wsS]), ok _ (by simp [va_wsS])⟩
  have h2 := hd.2.2
  rw [h] at h2
  exact (Option.some.inj h2).symm
theorem vx_callSW (X : Stand p l e R s m args below meth c T locs cells slots) (hexec : p.tables.exec = Jvm.exec) {own : String} {index : Nat} {y : MethodName} {bytes : ByteArray} {maxL : Nat} {ret : Option FieldType} {hh : List (Nat × Nat × Nat × Nat)}
    (hown : s.vm.findClass own = some m.cls) (hlink : (Cond.methodLink own index y).before args s = true) (hstat : (Cond.static y).before args s = true) (hinit : (Cond.initialized y.cls).before args s = true)
    (hcode : (Cond.codeWith y bytes maxL ret hh).before args s = true) (hy : y.cls ≠ "java/lang/invoke/MethodHandle" ∧ y.cls ≠ "java/lang/invoke/VarHandle")
    {W9 : Nat} {Pre : Pt → Array Value → Prop} {Post : Pt → Array Value → Option Value → Pt → Prop} (hK : Back l R p e below s args y 3 W9 Pre Post)
    {g : JFrame} (hg : g.method = m) (hsize : g.locals.size = c.maxLocals) {argsL rest : List Value} (hlen : ∀ sig, parseMethodDescriptor y.desc = some sig → argsL.length = sig.parameters.length)
    (hstack : g.stack = argsL.reverse ++ rest) (hW : 2 * g.monitorRoom + (rest.map fun v => v.category).sum ≤ W9) (hdg : decode c.code g.pc = .ok (.invokestatic index, 3))
    (hpre : ∀ vm₁, s.WarmedH vm₁ → Pre ⟨T.setVm vm₁, locs, cells, slots⟩ argsL.toArray) :
    ∃ (v : Option Value) (vm₁ : Vm) (B : Pt), s.WarmedH vm₁ ∧ Stand p l e R s m args below meth c B.U B.locs B.cells B.slots ∧ Post ⟨T.setVm vm₁, locs, cells, slots⟩ argsL.toArray v B ∧
      ∀ target, Steps p.tables e below (B.U.setTop { g with pc := g.pc + 3, stack := v.toList ++ rest }) target → Steps p.tables e below (T.setTop g) target := by
  obtain ⟨mk, methM, cM, hnamed, hmethM, -, -, -, -, -, -, hsigM⟩ := Cond.codeWith_spec hcode
  have hstatic : methM.isStatic = true := Cond.static_spec hnamed hmethM hstat
  obtain ⟨kP, hkP, -⟩ := className_of_methodNamed hnamed
  have hinitP : kP.init = .initialized := Cond.initialized_spec (findClass_of_methodNamed hnamed) hkP hinit
  obtain ⟨vm₁, X₁, hstep₁⟩ := X.invokestatic hexec hown hlink hnamed hmethM hstatic hkP hinitP hy (g := g) hg (argsL := argsL) (rest := rest) (hlen _ hsigM) hstack hdg
  obtain ⟨v, B, X', hpost, hsteps⟩ := hK m meth c ⟨T.setVm vm₁, locs, cells, slots⟩ { g with stack := rest } (.invokestatic index) mk argsL.toArray X₁ hg hsize hdg hW (X₁.named hnamed) (hpre vm₁ X₁.warmed)
  exact ⟨v, vm₁, B, X₁.warmed, X', hpost, fun target h => hstep₁ _ fun acts => by rw [doInvoke_state]; exact hsteps.trans h⟩
theorem vx_runSW {y : MethodName} {bytes cc : ByteArray} {maxL nL mc ms n index : Nat} {ret : Option FieldType} {hh : List (Nat × Nat × Nat × Nat)} {ws : List Cond} {rm : Room} {Pc : Array Value → State → Prop} {Qc : Array Value → State → Outcome → State → Prop} {free : Addr → Prop} {Ts : List Cond} {own : String} {As rest : List Value} {g : JFrame}
    (S : CallFix p m c cc nL s args Ts own) (hM : Met l y ws rm Pc Qc mc ms free) (cw : vx_CSW R s args own index y bytes maxL ret hh ws rm mc ms n) (hp : PreS s H Pc As)
    (hg : g.method = m) (hn : As.length = n) (hsize : g.locals.size = nL) (hstack : g.stack = As.reverse ++ rest) (hW : 2 * g.monitorRoom + (rest.map fun v => v.category).sum ≤ 8) (hdg : decode cc g.pc = .ok (.invokestatic index, 3)) (hf : cells + mc ≤ R.cells ∧ slots + ms ≤ R.slots) :
    va_Run p l e R s m args below meth c H locs cells slots mc ms g rest (Qc As.toArray) (free) := by
  obtain ⟨⟨hrc, hrs, hfr, hlo, hws, hcw⟩, hcode, hini, hy, hlen, hl, hstt⟩ := cw
  have hK : Back l R p e below s args y 3 8 (PreOf R mc ms Pc) (PostOf Qc mc ms free) := va_backW (hh := hh) (bytes := bytes) (maxL := maxL) (ret := ret) hM hp.1 hrc hrs hfr hlo hws hcw (fun a' U hW => word_at hW (Or.inl (by first | rfl | simp [Cond.onTables, Cond.keeps, Cond.steady])) hini)
  obtain ⟨hx, hb, hml, ho, -⟩ := S
  intro T hT X
  obtain ⟨v, vm₁, ⟨U', l2, c2, s2⟩, hW₁, X', ⟨g', mk, t, L, e1, e2, hq, h1, hL, h2, h3⟩, st⟩ := vx_callSW X hx (hh := hh) (bytes := bytes) (maxL := maxL) (ret := ret) ho hl hstt hini hcode hy hK hg (hsize.trans hml.symm) (argsL := As) (rest := rest) (fun sig h => hn.trans (hlen sig h)) hstack hW (by rw [hb]; exact hdg)
    (fun vm₁ hW₁ => ⟨hf.1, hf.2, hp.2 (T.setVm vm₁) hT hW₁⟩)
  dsimp only [Pt.U, Pt.locs, Pt.cells, Pt.slots] at X' e1 e2 h1 h2 h3 st
  subst h1; subst h2; subst h3
  exact ⟨v, (T.setVm vm₁).calling g' mk As.toArray, t, U', L, hT, X', hL, e1, e2, hq, st⟩
/-- not caught here, past rows that name other classes: it goes on to the caller -/
theorem vx_outP {p : Program} {l : Launch} {e : Env} {R : Room} {s : State} {m : MethodId} {args : Array Value} {below : List Frame} {meth : Method} {c : Code} {H : Heap} {locs : List Loc} {cells slots : Nat} {free : Addr → Prop} {ls : Array Slot} {rest : List Value} {Qc : Array Value → State → Outcome → State → Prop} {XC : String → State → State → Prop}
    {pc : Nat} {own E : String} {ce : Cell} {q : Addr} {mc ms : Nat} (hown : s.vm.findClass own = some m.cls) (hlocks : meth.locks = false)
    (hpass : ∀ z ∈ c.exceptionTable.toList, covers z pc = false ∨ (z.catchType ≠ 0 ∧ ∃ nm : String, (Cond.classLink own z.catchType nm).before args s = true ∧ va_Nc E nm s)) (hcell : H[q]? = some ce) (hv : ce.vm = .none) (hcl : s.vm.findClass E = some ce.cls)
    (hx : ∀ t : State, t.heap = H → s.vm.Alike t.vm → XC E s t) (hf : ∀ z ∈ locs, free z.base) (hc : cells ≤ mc) (hs : slots ≤ ms) :
    vx_W p l e R s m args below meth c H locs cells slots (vx_MQ below Qc XC args s mc ms free) (F0 m pc ls rest) q := by
  intro T hT X
  have hpl : e.platform.magicAccessors = ({} : Platform).magicAccessors := by rw [X.admits.platform]
  obtain ⟨vm', hW', X', st⟩ := Jvm.Stand.outThrough X hlocks q (g := F0 m pc ls rest) rfl rfl rfl (cell := ce) (by rw [hT]; exact hcell) (by rw [hv]; rfl)
    (by obtain ⟨k9, h9, -⟩ := Vm.findClass_spec hcl; exact ⟨k9, h9⟩) (fun z hz => by
      rcases hpass z hz with h | ⟨hz0, nm, hl1, hn1⟩
      · exact Or.inl h
      · obtain ⟨c6, hc6, hcl6⟩ := Cond.classLink_spec hown hl1 e.platform hpl
        obtain ⟨a8, b8, h1, h2, h3⟩ := hn1
        cases Option.some.inj (h1.symm.trans hcl)
        cases Option.some.inj (h2.symm.trans hc6)
        exact Or.inr ⟨hz0, _, hcl6, h3⟩)
  obtain ⟨g₀, hfr⟩ := X'.frames_eq
  have hcell9 : ((T.setVm vm').setFrames (.throwing q :: below)).heap[q]? = some ce := by
    show T.heap[q]? = some ce
    rw [hT]; exact hcell
  have hend : Ended ((T.setVm vm').setFrames (.throwing q :: below)) below (.threw q) := State.frames_setFrames _ (State.cur_lt_of_frames hfr)
  refine ⟨(T.setVm vm').setFrames (.throwing q :: below), ?_, .threw q, X'.here.running, hend, Or.inr ⟨q, rfl, E, ce, locs, hx _ hT (X'.ends _).1.alike, hcell9, hv, hcl, (X'.ends _).1, (X'.ends _).2.mono hc hs, hf⟩⟩
  rw [X.pushThrowing_eq]
  exact st
/-- a thing of a world lies in the heap -/
theorem vx_lt {D : va_G} {cl : List vw_C} {ws : va_W} {H1 : Heap} (h : va_P D cl ws H1) {k : Nat} {q : Nat × va_E} (hk : ws[k]? = some q) : q.1 < H1.size := (h k q hk).lt
end VXS
/-! ===== END ===== -/
/-! ===== BEGIN methods with a table of their own: called by a name, returning or throwing ===== -/
section VXH
/-! vx_backW, vx_callVX, vx_callSX, vx_callVW, vx_runVW, vx_runVX, vx_runSX, vx_ofWH follow the same proofs as their sisters above (Free/Laws.lean, Shelf42/LK1.lean); vx_outP calls Shelf42/NT130.lean (outThrough). -/
section
variable {l : Launch} {R : Room} {p : Program} {e : Env} {below : List Frame} {s : State} {sargs : Array Value} {y : MethodName} {len W9 : Nat}
theorem vx_backW {ws : List Cond} {rm : Room} {Pc : Array Value → State → Prop} {Qc : Array Value → State → Outcome → State → Prop} {XC : String → State → State → Prop} {mc ms : Nat} {free : Addr → Prop} {bytes : ByteArray} {maxL : Nat} {ret : Option FieldType} {hh : List (Nat × Nat × Nat × Nat)}
    (hM : vx_Met l y ws rm Pc Qc XC mc ms free) (hblind : FrameBlind Pc) (hrc : rm.cells = mc) (hrs : rm.slots = ms)
    (hframes : rm.frames + 1 ≤ R.frames) (hlocals : W9 + (maxL + 11) + rm.locals ≤ R.locals)
    (hws : ∀ w ∈ ws, ∀ a' U, s.WarmedH U.vm → w.before a' U = true) (hcode : Cond.codeWith y bytes maxL ret hh ∈ ws) (hinit : ∀ a' U, s.WarmedH U.vm → (Cond.initialized y.cls).before a' U = true) :
    vx_Back l R p e below s sargs y len W9 (PreOf R mc ms Pc) (PostOf Qc mc ms free) (vx_Post XC mc ms free) := by
  intro m meth c A g ig mk a X hg hsize hdg hW hn hp
  have h1 : (headSpec ws rm).pre.before a A.U = true := atoms_intro fun w hw => hws w hw _ _ X.warmed
  have h2 : (Cond.codeWith y bytes maxL ret hh).before a A.U = true := hws _ hcode _ _ X.warmed
  have h3 : (Cond.initialized y.cls).before a A.U = true := hinit _ _ X.warmed
  have h4 : A.cells + (headSpec ws rm).room.cells ≤ R.cells := by rw [show (headSpec ws rm).room.cells = mc from hrc]; exact hp.1
  have h5 : A.slots + (headSpec ws rm).room.slots ≤ R.slots := by rw [show (headSpec ws rm).room.slots = ms from hrs]; exact hp.2.1
  have hPc : Pc a (A.U.calling g mk a) := hblind _ _ _ _ hp.2.2
  obtain ⟨U, Ls, c0, s0⟩ := A
  dsimp only [Pt.U, Pt.locs, Pt.cells, Pt.slots] at h1 h2 h3 h4 h5 X hn hPc ⊢
  obtain ⟨m9, methY, cY, hn9, hmY, hcY, -, hlY, -⟩ := Cond.codeWith_spec h2
  cases Option.some.inj (hn9.symm.trans hn)
  obtain ⟨kY, hkY, -⟩ := className_of_methodNamed hn
  have hinitY : kY.init = .initialized := Cond.initialized_spec (findClass_of_methodNamed hn) hkY h3
  have h : At U g.method c below := by rw [hg]; exact X.here
  have hlocals9 : W9 + (maxL + 11) + (headSpec ws rm).room.locals ≤ R.locals := hlocals
  have happ : (headSpec ws rm).appliesLoose y e.platform (U.calling g mk a) = true :=
    Spec.appliesLoose_calling (g := g) h hdg hn hkY hinitY
      (X.room_calling (g := g) (R' := (headSpec ws rm).room) hsize hmY hcY hframes (by rw [hlY]; omega) h4 h5) h1
  obtain ⟨mid, hmid⟩ := h.above
  have hfr : (U.setTop g).frames = (.java g :: mid) ++ below := by rw [State.frames_setTop' g h.top, hmid]; rfl
  obtain ⟨o, s₂, hsteps, -, hend, hq⟩ := Steps.callFree hM p X.admits X.cas X.clock (acts := []) hfr happ hPc trivial
  have hq' : vx_Q Qc XC mc ms free a (U.calling g mk a) o s₂ := hq
  rw [State.frames_setTop' g h.top] at hend
  obtain ⟨g₀, hg0⟩ := Option.isSome_iff_exists.mp h.top
  obtain ⟨r, hr⟩ := State.topJava?_eq_some.mp hg0
  have hr' : (({ U with heap := s₂.heap, slotsUsed := s₂.slotsUsed } : State).setVm s₂.vm).frames = .java g₀ :: r := hr
  rcases hq' with ⟨hqc, L, hfe, hL⟩ | ⟨q, rfl, E, ce, L, hx, hce, hcv, hcl, hW₂, hsm, hL⟩
  · obtain ⟨⟨v, rfl⟩, hW₂, e2, q2, q3, q4, q5, q6⟩ := id hfe
    have e3 : s₂ = ({ (U.calling g mk a).setFrames s₂.frames with heap := s₂.heap, slotsUsed := s₂.slotsUsed } : State).setVm s₂.vm := by
      have : s₂ = ({ s₂ with vm := (U.calling g mk a).vm } : State).setVm s₂.vm := rfl
      rw [e2] at this
      exact this
    obtain ⟨c₂, i₂, len₂, hc₂, hd₂, hf₂⟩ := hend
    have hW' : U.WarmedH s₂.vm := hW₂
    have hcc : c₂ = c := by
      have h1 : s₂.code? g.method = U.code? g.method := by
        rw [State.code?_eq, State.code?_eq, hW'.alike.method?]
      exact Option.some.inj (hc₂.symm.trans (h1.trans h.code))
    subst hcc
    have hlen : len₂ = len := by rw [hdg] at hd₂; cases hd₂; rfl
    subst hlen
    have hs₂ : s₂ = (({ U with heap := s₂.heap, slotsUsed := s₂.slotsUsed } : State).setVm s₂.vm).setTop { g with pc := g.pc + len₂, stack := v.toList ++ g.stack } := by
      refine e3.trans ?_
      rw [hf₂, State.calling_eq h.top, State.setFrames_setFrames, State.setTop_of_frames _ hr', hr]
      rfl
    have hsame : U.sameButNew ({ U with heap := s₂.heap, slotsUsed := s₂.slotsUsed } : State) L mc ms := by
      refine ⟨?_, q2, q3, q4, q5, q6⟩
      obtain ⟨t, ht, -⟩ := State.frames_cons hr
      show ({ U with heap := s₂.heap, slotsUsed := s₂.slotsUsed } : State) = { U.setFrames U.frames with heap := s₂.heap, slotsUsed := s₂.slotsUsed }
      rw [State.setFrames_self ht]
    subst hg
    refine Or.inl ⟨v, ⟨(({ U with heap := s₂.heap, slotsUsed := s₂.slotsUsed } : State).setVm s₂.vm), Ls ++ L, c0 + mc, s0 + ms⟩,
      ⟨X.admits, X.cas, X.clock, X.frames, X.room, X.hears, X.method, X.code, (X.here.setHeapUsed s₂.heap s₂.slotsUsed).setVm hW'.alike, X.tail, State.WarmedH.trans X.warmed hW', X.limits, X.bytes, X.same.trans (hsame.setVm s.vm)⟩,
      ⟨g, mk, s₂, L, rfl, rfl, hqc, rfl, hL, rfl, rfl⟩, ?_⟩
    show Steps p.tables e below _ ((({ U with heap := s₂.heap, slotsUsed := s₂.slotsUsed } : State).setVm s₂.vm).setTop { g with pc := g.pc + len₂, stack := v.toList ++ g.stack })
    rw [← hs₂]
    exact hsteps
  · obtain ⟨e2, q2, q3, q4, q5, q6⟩ := id hsm
    have e3 : s₂ = ({ (U.calling g mk a).setFrames s₂.frames with heap := s₂.heap, slotsUsed := s₂.slotsUsed } : State).setVm s₂.vm := by
      have : s₂ = ({ s₂ with vm := (U.calling g mk a).vm } : State).setVm s₂.vm := rfl
      rw [e2] at this
      exact this
    have hf₂ : s₂.frames = .throwing q :: .java g :: U.frames.tail := hend
    have hW' : U.WarmedH s₂.vm := hW₂
    have hs₂ : s₂ = ((({ U with heap := s₂.heap, slotsUsed := s₂.slotsUsed } : State).setVm s₂.vm).setTop g).pushFrame (.throwing q) := by
      refine e3.trans ?_
      rw [hf₂, State.calling_eq h.top, State.setFrames_setFrames, State.pushFrame, State.frames_setTop _ hr', State.setTop_of_frames _ hr', State.setFrames_setFrames, hr]
      rfl
    have hsame : U.sameButNew ({ U with heap := s₂.heap, slotsUsed := s₂.slotsUsed } : State) L mc ms := by
      refine ⟨?_, q2, q3, q4, q5, q6⟩
      obtain ⟨t, ht, -⟩ := State.frames_cons hr
      show ({ U with heap := s₂.heap, slotsUsed := s₂.slotsUsed } : State) = { U.setFrames U.frames with heap := s₂.heap, slotsUsed := s₂.slotsUsed }
      rw [State.setFrames_self ht]
    subst hg
    refine Or.inr ⟨q, ⟨(({ U with heap := s₂.heap, slotsUsed := s₂.slotsUsed } : State).setVm s₂.vm), Ls ++ L, c0 + mc, s0 + ms⟩,
      ⟨X.admits, X.cas, X.clock, X.frames, X.room, X.hears, X.method, X.code, (X.here.setHeapUsed s₂.heap s₂.slotsUsed).setVm hW'.alike, X.tail, State.WarmedH.trans X.warmed hW', X.limits, X.bytes, X.same.trans (hsame.setVm s.vm)⟩,
      ⟨g, mk, s₂, L, E, ce, rfl, rfl, hx, hce, hcv, hcl, rfl, hL, rfl, rfl⟩, ?_⟩
    show Steps p.tables e below _ (((({ U with heap := s₂.heap, slotsUsed := s₂.slotsUsed } : State).setVm s₂.vm).setTop g).pushFrame (.throwing q))
    rw [← hs₂]
    exact hsteps
end
variable {p : Program} {l : Launch} {e : Env} {R : Room} {s : State} {m : MethodId} {args : Array Value} {below : List Frame} {meth : Method} {c : Code} {T : State} {H : Heap} {locs : List Loc} {cells slots : Nat}
theorem vx_callVX (X : Stand p l e R s m args below meth c T locs cells slots) (hexec : p.tables.exec = Jvm.exec) {own C : String} {index : Nat} {y : MethodName} {bytes : ByteArray} {maxL : Nat} {ret : Option FieldType} {hh : List (Nat × Nat × Nat × Nat)}
    (hown : s.vm.findClass own = some m.cls) (hlink : (Cond.methodLink own index y).before args s = true) (hinst : (Cond.instanceMethod y).before args s = true) (hsel : (Cond.selects C y y).before args s = true)
    (hcode : (Cond.codeWith y bytes maxL ret hh).before args s = true) (hy : y.cls ≠ "java/lang/invoke/MethodHandle" ∧ y.cls ≠ "java/lang/invoke/VarHandle")
    {W9 : Nat} {Pre : Pt → Array Value → Prop} {Post : Pt → Array Value → Option Value → Pt → Prop} {PostX : Pt → Array Value → Addr → Pt → Prop} (hK : vx_Back l R p e below s args y 3 W9 Pre Post PostX)
    {b : Addr} {cellB : Cell} (hcell : T.heap[b]? = some cellB) (hobj : cellB.vm.isStatics = false) (hcls : s.vm.findClass C = some cellB.cls)
    {g : JFrame} (hg : g.method = m) (hsize : g.locals.size = c.maxLocals) {argsL rest : List Value} (hlen : ∀ sig, parseMethodDescriptor y.desc = some sig → argsL.length = sig.parameters.length)
    (hstack : g.stack = argsL.reverse ++ .ref b :: rest) (hW : 2 * g.monitorRoom + (rest.map fun v => v.category).sum ≤ W9) (hdg : decode c.code g.pc = .ok (.invokevirtual index, 3))
    (hpre : ∀ vm₁, s.WarmedH vm₁ → Pre ⟨T.setVm vm₁, locs, cells, slots⟩ (Value.ref b :: argsL).toArray) :
    (∃ (v : Option Value) (vm₁ : Vm) (B : Pt), s.WarmedH vm₁ ∧ Stand p l e R s m args below meth c B.U B.locs B.cells B.slots ∧ Post ⟨T.setVm vm₁, locs, cells, slots⟩ (Value.ref b :: argsL).toArray v B ∧
      ∀ target, Steps p.tables e below (B.U.setTop { g with pc := g.pc + 3, stack := v.toList ++ rest }) target → Steps p.tables e below (T.setTop g) target) ∨
    (∃ (q : Addr) (vm₁ : Vm) (B : Pt), s.WarmedH vm₁ ∧ Stand p l e R s m args below meth c B.U B.locs B.cells B.slots ∧ PostX ⟨T.setVm vm₁, locs, cells, slots⟩ (Value.ref b :: argsL).toArray q B ∧
      Steps p.tables e below (T.setTop g) ((B.U.setTop { g with stack := rest }).pushFrame (.throwing q))) := by
  obtain ⟨mk, methM, hnamed, hmethM, hstM, habM⟩ := Cond.instanceMethod_spec hinst
  obtain ⟨m8, methM', cM, hn8, hmethM', -, -, -, -, -, -, hsigM⟩ := Cond.codeWith_spec hcode
  cases Option.some.inj (hn8.symm.trans hnamed)
  cases hmethM.symm.trans hmethM'
  obtain ⟨c2, r2, m2, q1, q2, q3, q4, kP, hkP, hkPi⟩ := Cond.selects_spec hsel
  cases hcls.symm.trans q1
  cases (State.methodFound?_of_named hnamed hy).symm.trans q2
  cases hnamed.symm.trans q3
  have hselP : selectMethod e.platform s.vm cellB.cls mk = .method mk := by rw [Launch.admits_selectMethod X.admits]; exact q4
  obtain ⟨vm₁, X₁, hstep₁⟩ := X.invokevirtual hexec hown hlink hnamed hmethM hstM hkP hkPi hy (a := b) (cell := cellB) hcell
    (fun z h => by rw [h] at hobj; cases hobj) hselP hmethM habM hkP hkPi (g := g) hg (argsL := argsL) (rest := rest) (hlen _ hsigM) hstack hdg
  rcases hK m meth c ⟨T.setVm vm₁, locs, cells, slots⟩ { g with stack := rest } (.invokevirtual index) mk (Value.ref b :: argsL).toArray X₁ hg hsize hdg hW (X₁.named hnamed) (hpre vm₁ X₁.warmed) with ⟨v, B, X', hpost, hsteps⟩ | ⟨q, B, X', hpost, hsteps⟩
  · exact Or.inl ⟨v, vm₁, B, X₁.warmed, X', hpost, fun target h => hstep₁ _ fun acts => by rw [doInvoke_state]; exact hsteps.trans h⟩
  · exact Or.inr ⟨q, vm₁, B, X₁.warmed, X', hpost, hstep₁ _ fun acts => by rw [doInvoke_state]; exact hsteps⟩
theorem vx_callSX (X : Stand p l e R s m args below meth c T locs cells slots) (hexec : p.tables.exec = Jvm.exec) {own : String} {index : Nat} {y : MethodName} {bytes : ByteArray} {maxL : Nat} {ret : Option FieldType} {hh : List (Nat × Nat × Nat × Nat)}
    (hown : s.vm.findClass own = some m.cls) (hlink : (Cond.methodLink own index y).before args s = true) (hstat : (Cond.static y).before args s = true) (hinit : (Cond.initialized y.cls).before args s = true)
    (hcode : (Cond.codeWith y bytes maxL ret hh).before args s = true) (hy : y.cls ≠ "java/lang/invoke/MethodHandle" ∧ y.cls ≠ "java/lang/invoke/VarHandle")
    {W9 : Nat} {Pre : Pt → Array Value → Prop} {Post : Pt → Array Value → Option Value → Pt → Prop} {PostX : Pt → Array Value → Addr → Pt → Prop} (hK : vx_Back l R p e below s args y 3 W9 Pre Post PostX)
    {g : JFrame} (hg : g.method = m) (hsize : g.locals.size = c.maxLocals) {argsL rest : List Value} (hlen : ∀ sig, parseMethodDescriptor y.desc = some sig → argsL.length = sig.parameters.length)
    (hstack : g.stack = argsL.reverse ++ rest) (hW : 2 * g.monitorRoom + (rest.map fun v => v.category).sum ≤ W9) (hdg : decode c.code g.pc = .ok (.invokestatic index, 3))
    (hpre : ∀ vm₁, s.WarmedH vm₁ → Pre ⟨T.setVm vm₁, locs, cells, slots⟩ argsL.toArray) :
    (∃ (v : Option Value) (vm₁ : Vm) (B : Pt), s.WarmedH vm₁ ∧ Stand p l e R s m args below meth c B.U B.locs B.cells B.slots ∧ Post ⟨T.setVm vm₁, locs, cells, slots⟩ argsL.toArray v B ∧
      ∀ target, Steps p.tables e below (B.U.setTop { g with pc := g.pc + 3, stack := v.toList ++ rest }) target → Steps p.tables e below (T.setTop g) target) ∨
    (∃ (q : Addr) (vm₁ : Vm) (B : Pt), s.WarmedH vm₁ ∧ Stand p l e R s m args below meth c B.U B.locs B.cells B.slots ∧ PostX ⟨T.setVm vm₁, locs, cells, slots⟩ argsL.toArray q B ∧
      Steps p.tables e below (T.setTop g) ((B.U.setTop { g with stack := rest }).pushFrame (.throwing q))) := by
  obtain ⟨mk, methM, cM, hnamed, hmethM, -, -, -, -, -, -, hsigM⟩ := Cond.codeWith_spec hcode
  have hstatic : methM.isStatic = true := Cond.static_spec hnamed hmethM hstat
  obtain ⟨kP, hkP, -⟩ := className_of_methodNamed hnamed
  have hinitP : kP.init = .initialized := Cond.initialized_spec (findClass_of_methodNamed hnamed) hkP hinit
  obtain ⟨vm₁, X₁, hstep₁⟩ := X.invokestatic hexec hown hlink hnamed hmethM hstatic hkP hinitP hy (g := g) hg (argsL := argsL) (rest := rest) (hlen _ hsigM) hstack hdg
  rcases hK m meth c ⟨T.setVm vm₁, locs, cells, slots⟩ { g with stack := rest } (.invokestatic index) mk argsL.toArray X₁ hg hsize hdg hW (X₁.named hnamed) (hpre vm₁ X₁.warmed) with ⟨v, B, X', hpost, hsteps⟩ | ⟨q, B, X', hpost, hsteps⟩
  · exact Or.inl ⟨v, vm₁, B, X₁.warmed, X', hpost, fun target h => hstep₁ _ fun acts => by rw [doInvoke_state]; exact hsteps.trans h⟩
  · exact Or.inr ⟨q, vm₁, B, X₁.warmed, X', hpost, hstep₁ _ fun acts => by rw [doInvoke_state]; exact hsteps⟩
theorem vx_callVW (X : Stand p l e R s m args below meth c T locs cells slots) (hexec : p.tables.exec = Jvm.exec) {own C : String} {index : Nat} {y : MethodName} {bytes : ByteArray} {maxL : Nat} {ret : Option FieldType} {hh : List (Nat × Nat × Nat × Nat)}
    (hown : s.vm.findClass own = some m.cls) (hlink : (Cond.methodLink own index y).before args s = true) (hinst : (Cond.instanceMethod y).before args s = true) (hsel : (Cond.selects C y y).before args s = true)
    (hcode : (Cond.codeWith y bytes maxL ret hh).before args s = true) (hy : y.cls ≠ "java/lang/invoke/MethodHandle" ∧ y.cls ≠ "java/lang/invoke/VarHandle")
    {W9 : Nat} {Pre : Pt → Array Value → Prop} {Post : Pt → Array Value → Option Value → Pt → Prop} (hK : Back l R p e below s args y 3 W9 Pre Post)
    {b : Addr} {cellB : Cell} (hcell : T.heap[b]? = some cellB) (hobj : cellB.vm.isStatics = false) (hcls : s.vm.findClass C = some cellB.cls)
    {g : JFrame} (hg : g.method = m) (hsize : g.locals.size = c.maxLocals) {argsL rest : List Value} (hlen : ∀ sig, parseMethodDescriptor y.desc = some sig → argsL.length = sig.parameters.length)
    (hstack : g.stack = argsL.reverse ++ .ref b :: rest) (hW : 2 * g.monitorRoom + (rest.map fun v => v.category).sum ≤ W9) (hdg : decode c.code g.pc = .ok (.invokevirtual index, 3))
    (hpre : ∀ vm₁, s.WarmedH vm₁ → Pre ⟨T.setVm vm₁, locs, cells, slots⟩ (Value.ref b :: argsL).toArray) :
    ∃ (v : Option Value) (vm₁ : Vm) (B : Pt), s.WarmedH vm₁ ∧ Stand p l e R s m args below meth c B.U B.locs B.cells B.slots ∧ Post ⟨T.setVm vm₁, locs, cells, slots⟩ (Value.ref b :: argsL).toArray v B ∧
      ∀ target, Steps p.tables e below (B.U.setTop { g with pc := g.pc + 3, stack := v.toList ++ rest }) target → Steps p.tables e below (T.setTop g) target := by
  obtain ⟨mk, methM, hnamed, hmethM, hstM, habM⟩ := Cond.instanceMethod_spec hinst
  obtain ⟨m8, methM', cM, hn8, hmethM', -, -, -, -, -, -, hsigM⟩ := Cond.codeWith_spec hcode
  cases Option.some.inj (hn8.symm.trans hnamed)
  cases hmethM.symm.trans hmethM'
  obtain ⟨c2, r2, m2, q1, q2, q3, q4, kP, hkP, hkPi⟩ := Cond.selects_spec hsel
  cases hcls.symm.trans q1
  cases (State.methodFound?_of_named hnamed hy).symm.trans q2
  cases hnamed.symm.trans q3
  have hselP : selectMethod e.platform s.vm cellB.cls mk = .method mk := by rw [Launch.admits_selectMethod X.admits]; exact q4
  obtain ⟨vm₁, X₁, hstep₁⟩ := X.invokevirtual hexec hown hlink hnamed hmethM hstM hkP hkPi hy (a := b) (cell := cellB) hcell
    (fun z h => by rw [h] at hobj; cases hobj) hselP hmethM habM hkP hkPi (g := g) hg (argsL := argsL) (rest := rest) (hlen _ hsigM) hstack hdg
  obtain ⟨v, B, X', hpost, hsteps⟩ := hK m meth c ⟨T.setVm vm₁, locs, cells, slots⟩ { g with stack := rest } (.invokevirtual index) mk (Value.ref b :: argsL).toArray X₁ hg hsize hdg hW (X₁.named hnamed) (hpre vm₁ X₁.warmed)
  exact ⟨v, vm₁, B, X₁.warmed, X', hpost, fun target h => hstep₁ _ fun acts => by rw [doInvoke_state]; exact hsteps.trans h⟩
abbrev vx_CVW (R : Room) (s : State) (args : Array Value) (own C : String) (index : Nat) (y : MethodName) (bytes : ByteArray) (maxL : Nat) (ret : Option FieldType) (hh : List (Nat × Nat × Nat × Nat)) (ws : List Cond) (rm : Room) (mc ms n : Nat) : Prop :=
  (rm.cells = mc ∧ rm.slots = ms ∧ rm.frames + 1 ≤ R.frames ∧ 8 + (maxL + 11) + rm.locals ≤ R.locals ∧ (∀ w ∈ ws, ∀ (a' : Array Value) (U : State), s.WarmedH U.vm → w.before a' U = true) ∧ Cond.codeWith y bytes maxL ret hh ∈ ws) ∧
  (Cond.codeWith y bytes maxL ret hh).before args s = true ∧ (Cond.initialized y.cls).before args s = true ∧ (y.cls ≠ "java/lang/invoke/MethodHandle" ∧ y.cls ≠ "java/lang/invoke/VarHandle") ∧
  (∀ sig, parseMethodDescriptor y.desc = some sig → n = sig.parameters.length) ∧ (Cond.methodLink own index y).before args s = true ∧ (Cond.instanceMethod y).before args s = true ∧ (Cond.selects C y y).before args s = true
theorem vx_cwVW {own C : String} {index maxL mc ms : Nat} {y : MethodName} {bytes : ByteArray} {ret : Option FieldType} {hh : List (Nat × Nat × Nat × Nat)} {Ts ws ws' : List Cond} {rm : Room} (n : Nat) (ht : ∀ w ∈ Ts, w.before args s = true) (hT : GoodIn Ts (wsV own index C y ws)) (hw : ws = Cond.codeWith y bytes maxL ret hh :: ws') (hrc : rm.cells = mc) (hrs : rm.slots = ms)
    (hd : y.cls = C ∧ y.cls ≠ "java/lang/invoke/MethodHandle" ∧ y.cls ≠ "java/lang/invoke/VarHandle" ∧ (parseMethodDescriptor y.desc).map (fun d => d.parameters.length) = some n) (hR : rm.frames + 1 ≤ R.frames ∧ 8 + (maxL + 11) + rm.locals ≤ R.locals) :
    vx_CVW R s args own C index y bytes maxL ret hh ws rm mc ms n := by
  obtain ⟨hC, hd⟩ := hd
  subst hC
  have ok : ∀ w ∈ wsV own index y.cls y ws, w.before args s = true := fun w h => ht w (hT w h).1
  have hG : GoodIn Ts ws := fun w h => hT w (by unfold wsV; exact List.mem_append_right _ h)
  have hc : Cond.codeWith y bytes maxL ret hh ∈ ws := by rw [hw]; exact List.mem_cons_self
  refine ⟨⟨hrc, hrs, hR.1, hR.2, pay_in ht hG, hc⟩, ht _ (hG _ hc).1, ok _ (by simp [wsV]), ⟨hd.1, hd.2.1⟩, fun sig h => ?_, ok _ (by simp [wsV]), ok _ (by simp [wsV]), ok _ (by simp [wsV])⟩
  have h2 := hd.2.2
  rw [h] at h2
  exact (Option.some.inj h2).symm
theorem vx_runVW {y : MethodName} {bytes cc : ByteArray} {maxL nL mc ms n index : Nat} {ret : Option FieldType} {hh : List (Nat × Nat × Nat × Nat)} {ws : List Cond} {rm : Room} {Pc : Array Value → State → Prop} {Qc : Array Value → State → Outcome → State → Prop} {free : Addr → Prop} {Ts : List Cond} {own C : String} {b : Addr} {As rest : List Value} {g : JFrame}
    (S : CallFix p m c cc nL s args Ts own) (hM : Met l y ws rm Pc Qc mc ms free) (cw : vx_CVW R s args own C index y bytes maxL ret hh ws rm mc ms n) (hp : PreV s H C b Pc As)
    (hg : g.method = m) (hn : As.length = n) (hsize : g.locals.size = nL) (hstack : g.stack = As.reverse ++ .ref b :: rest) (hW : 2 * g.monitorRoom + (rest.map fun v => v.category).sum ≤ 8) (hdg : decode cc g.pc = .ok (.invokevirtual index, 3)) (hf : cells + mc ≤ R.cells ∧ slots + ms ≤ R.slots) :
    va_Run p l e R s m args below meth c H locs cells slots mc ms g rest (Qc (Value.ref b :: As).toArray) free := by
  obtain ⟨⟨hrc, hrs, hfr, hlo, hws, hcw⟩, hcode, hini, hy, hlen, hl, hin, hse⟩ := cw
  have hK : Back l R p e below s args y 3 8 (PreOf R mc ms Pc) (PostOf Qc mc ms free) := va_backW (hh := hh) (bytes := bytes) (maxL := maxL) (ret := ret) hM hp.1 hrc hrs hfr hlo hws hcw (fun a' U hW => word_at hW (Or.inl (by first | rfl | simp [Cond.onTables, Cond.keeps, Cond.steady])) hini)
  obtain ⟨hx, hb, hml, ho, -⟩ := S
  obtain ⟨-, ⟨cellB, hcB, hoB, hclB⟩, hPc⟩ := hp
  intro T hT X
  obtain ⟨v, vm₁, ⟨U', l2, c2, s2⟩, hW₁, X', ⟨g', mk, t, L, e1, e2, hq, h1, hL, h2, h3⟩, st⟩ := vx_callVW X hx (C := C) (hh := hh) (bytes := bytes) (maxL := maxL) (ret := ret) ho hl hin hse hcode hy hK (by rw [hT]; exact hcB) hoB hclB hg (hsize.trans hml.symm) (argsL := As) (rest := rest) (fun sig h => hn.trans (hlen sig h)) hstack hW (by rw [hb]; exact hdg)
    (fun vm₁ hW₁ => ⟨hf.1, hf.2, hPc (T.setVm vm₁) hT hW₁⟩)
  dsimp only [Pt.U, Pt.locs, Pt.cells, Pt.slots] at X' e1 e2 h1 h2 h3 st
  subst h1; subst h2; subst h3
  exact ⟨v, (T.setVm vm₁).calling g' mk (Value.ref b :: As).toArray, t, U', L, hT, X', hL, e1, e2, hq, st⟩
section
variable {y : MethodName} {bytes cc : ByteArray} {maxL nL mc ms n index : Nat} {ret : Option FieldType} {ws : List Cond} {rm : Room} {Pc : Array Value → State → Prop} {Qc : Array Value → State → Outcome → State → Prop} {XC : String → State → State → Prop} {free : Addr → Prop} {Ts : List Cond} {own C : String} {b : Addr} {As rest : List Value} {g : JFrame}
theorem vx_runVX {hh : List (Nat × Nat × Nat × Nat)} (S : CallFix p m c cc nL s args Ts own) (hM : vx_Met l y ws rm Pc Qc XC mc ms free) (cw : vx_CVW R s args own C index y bytes maxL ret hh ws rm mc ms n) (hp : PreV s H C b Pc As)
    (hg : g.method = m) (hn : As.length = n) (hsize : g.locals.size = nL) (hstack : g.stack = As.reverse ++ .ref b :: rest) (hW : 2 * g.monitorRoom + (rest.map fun v => v.category).sum ≤ 8) (hdg : decode cc g.pc = .ok (.invokevirtual index, 3)) (hf : cells + mc ≤ R.cells ∧ slots + ms ≤ R.slots) :
    vx_Run p l e R s m args below meth c H locs cells slots mc ms g rest (Qc (Value.ref b :: As).toArray) XC free := by
  obtain ⟨⟨hrc, hrs, hfr, hlo, hws, hcw⟩, hcode, hini, hy, hlen, hl, hin, hse⟩ := cw
  have hK : vx_Back l R p e below s args y 3 8 (PreOf R mc ms Pc) (PostOf Qc mc ms free) (vx_Post XC mc ms free) := vx_backW (hh := hh) (bytes := bytes) (maxL := maxL) (ret := ret) hM hp.1 hrc hrs hfr hlo hws hcw (fun a' U hW => word_at hW (Or.inl (by first | rfl | simp [Cond.onTables, Cond.keeps, Cond.steady])) hini)
  obtain ⟨hx, hb, hml, ho, -⟩ := S
  obtain ⟨-, ⟨cellB, hcB, hoB, hclB⟩, hPc⟩ := hp
  intro T hT X
  rcases vx_callVX X hx (C := C) (hh := hh) (bytes := bytes) (maxL := maxL) (ret := ret) ho hl hin hse hcode hy hK (by rw [hT]; exact hcB) hoB hclB hg (hsize.trans hml.symm) (argsL := As) (rest := rest) (fun sig h => hn.trans (hlen sig h)) hstack hW (by rw [hb]; exact hdg)
    (fun vm₁ hW₁ => ⟨hf.1, hf.2, hPc (T.setVm vm₁) hT hW₁⟩) with ⟨v, vm₁, ⟨U', l2, c2, s2⟩, hW₁, X', ⟨g', mk, t, L, e1, e2, hq, h1, hL, h2, h3⟩, st⟩ | ⟨q, vm₁, ⟨U', l2, c2, s2⟩, hW₁, X', ⟨g', mk, t, L, E, ce, e1, e2, hq, hce, hcv, hcl, h1, hL, h2, h3⟩, st⟩
  · dsimp only [Pt.U, Pt.locs, Pt.cells, Pt.slots] at X' e1 e2 h1 h2 h3 st
    subst h1; subst h2; subst h3
    exact Or.inl ⟨v, (T.setVm vm₁).calling g' mk (Value.ref b :: As).toArray, t, U', L, hT, X', hL, e1, e2, hq, st⟩
  · dsimp only [Pt.U, Pt.locs, Pt.cells, Pt.slots] at X' e1 e2 h1 h2 h3 st hcl
    subst h1; subst h2; subst h3
    exact Or.inr ⟨q, (T.setVm vm₁).calling g' mk (Value.ref b :: As).toArray, t, U', L, E, ce, hT, X', hL, e1, e2, hq, hce, hcv, vx_cls hW₁ hcl, st⟩
theorem vx_runSX {hh : List (Nat × Nat × Nat × Nat)} (S : CallFix p m c cc nL s args Ts own) (hM : vx_Met l y ws rm Pc Qc XC mc ms free) (cw : vx_CSW R s args own index y bytes maxL ret hh ws rm mc ms n) (hp : PreS s H Pc As)
    (hg : g.method = m) (hn : As.length = n) (hsize : g.locals.size = nL) (hstack : g.stack = As.reverse ++ rest) (hW : 2 * g.monitorRoom + (rest.map fun v => v.category).sum ≤ 8) (hdg : decode cc g.pc = .ok (.invokestatic index, 3)) (hf : cells + mc ≤ R.cells ∧ slots + ms ≤ R.slots) :
    vx_Run p l e R s m args below meth c H locs cells slots mc ms g rest (Qc As.toArray) XC free := by
  obtain ⟨⟨hrc, hrs, hfr, hlo, hws, hcw⟩, hcode, hini, hy, hlen, hl, hstt⟩ := cw
  have hK : vx_Back l R p e below s args y 3 8 (PreOf R mc ms Pc) (PostOf Qc mc ms free) (vx_Post XC mc ms free) := vx_backW (hh := hh) (bytes := bytes) (maxL := maxL) (ret := ret) hM hp.1 hrc hrs hfr hlo hws hcw (fun a' U hW => word_at hW (Or.inl (by first | rfl | simp [Cond.onTables, Cond.keeps, Cond.steady])) hini)
  obtain ⟨hx, hb, hml, ho, -⟩ := S
  intro T hT X
  rcases vx_callSX X hx (hh := hh) (bytes := bytes) (maxL := maxL) (ret := ret) ho hl hstt hini hcode hy hK hg (hsize.trans hml.symm) (argsL := As) (rest := rest) (fun sig h => hn.trans (hlen sig h)) hstack hW (by rw [hb]; exact hdg)
    (fun vm₁ hW₁ => ⟨hf.1, hf.2, hp.2 (T.setVm vm₁) hT hW₁⟩) with ⟨v, vm₁, ⟨U', l2, c2, s2⟩, hW₁, X', ⟨g', mk, t, L, e1, e2, hq, h1, hL, h2, h3⟩, st⟩ | ⟨q, vm₁, ⟨U', l2, c2, s2⟩, hW₁, X', ⟨g', mk, t, L, E, ce, e1, e2, hq, hce, hcv, hcl, h1, hL, h2, h3⟩, st⟩
  · dsimp only [Pt.U, Pt.locs, Pt.cells, Pt.slots] at X' e1 e2 h1 h2 h3 st
    subst h1; subst h2; subst h3
    exact Or.inl ⟨v, (T.setVm vm₁).calling g' mk As.toArray, t, U', L, hT, X', hL, e1, e2, hq, st⟩
  · dsimp only [Pt.U, Pt.locs, Pt.cells, Pt.slots] at X' e1 e2 h1 h2 h3 st hcl
    subst h1; subst h2; subst h3
    exact Or.inr ⟨q, (T.setVm vm₁).calling g' mk As.toArray, t, U', L, E, ce, hT, X', hL, e1, e2, hq, hce, hcv, vx_cls hW₁ hcl, st⟩
end
end VXH
theorem vx_ofWH {l : Launch} {y : MethodName} {ws ws' : List Cond} {rm : Room} {Pc : Array Value → State → Prop} {Qc : Array Value → State → Outcome → State → Prop} {XC : String → State → State → Prop} {mc ms : Nat} {free : Addr → Prop} {cc : ByteArray} {maxL : Nat} {ret : Option FieldType} {hh : List (Nat × Nat × Nat × Nat)}
    (hy : plainName y.cls = true) (hw : ws = Cond.codeWith y cc maxL ret hh :: ws')
    (body : ∀ p e s m args below meth c s₁, BodyLoose p l y (headSpec ws rm) cc maxL ret e s m args below meth c s₁ → c.maxLocals = maxL → Pc args s →
      W p l e (headSpec ws rm).room s m args below meth c s.heap [] 0 0 (vx_MQ below Qc XC args s mc ms free) (entryFrame m args maxL)) : vx_Met l y ws rm Pc Qc XC mc ms free := by
  refine MetFree.of_bodyS (code := cc) (maxLocals := maxL) (ret := ret) hy ?_ ?_
  · intro args s m h hn
    obtain ⟨m9, meth, c, hn9, h1, h2, h3, h4, -, h5, h6, -⟩ := Cond.codeWith_spec (atoms_spec (ws := ws) h _ (by rw [hw]; exact List.mem_cons_self))
    cases hn.symm.trans hn9
    exact ⟨meth, c, h1, h2, h3, h4, h5, h6⟩
  · intro p e s m args below meth c s₁ B hml hP _
    have hh0 : s₁.heap = s.heap := by rw [B.state]; rfl
    obtain ⟨t, a1, o, b1, b2, b3⟩ := body p e s m args below meth c s₁ B hml hP s₁ hh0 (Stand.of_body B)
    exact ⟨t, o, a1, b1, b2, b3⟩
/-! ===== END ===== -/
end
section
/-! ===== BEGIN printed: names, fields, word lists, decode rows ===== -/
def RX0 : String := "QueryLoops$Answer"
def TX0 : u_T := fun k => match k with
  | 0 => ("QueryLoops$Answer", "numbers", "[J", true)
  | 1 => ("QueryLoops$Answer", "unknowns", "[Z", true)
  | 2 => ("QueryLoops$Answer", "width", "I", false)
  | _ => ("QueryLoops$Answer", "height", "I", false)
def tyX0 : Nat → FieldType := fun k => match k with
  | 0 => .array .long
  | 1 => .array .boolean
  | 2 => .int
  | _ => .int
abbrev wsX00 : List Cond := u_ws RX0 TX0 4
theorem nmX0 : ∀ a, a < 4 → ∀ b, b < 4 → a ≠ b → (TX0 a).2.1 ≠ (TX0 b).2.1 := by decide +kernel
theorem tyX0_ok : ∀ k, k < 4 → parseFieldDescriptor (TX0 k).2.2.1 = some (tyX0 k) := by decide +kernel
abbrev cX0_init : ByteArray := prog_2_method_1_code
def yX0_init : MethodName := ⟨RX0, "<init>", "()V"⟩
abbrev cX0_clear : ByteArray := prog_2_method_2_code
def yX0_clear : MethodName := ⟨RX0, "clear", "(I)V"⟩
abbrev cX0_height : ByteArray := prog_2_method_3_code
def yX0_height : MethodName := ⟨RX0, "height", "()I"⟩
abbrev cX0_append : ByteArray := prog_2_method_4_code
def yX0_append : MethodName := ⟨RX0, "append", "()I"⟩
abbrev cX0_has : ByteArray := prog_2_method_5_code
def yX0_has : MethodName := ⟨RX0, "has", "(II)Z"⟩
abbrev cX0_unknownAt : ByteArray := prog_2_method_6_code
def yX0_unknownAt : MethodName := ⟨RX0, "unknownAt", "(II)Z"⟩
abbrev cX0_numberAt : ByteArray := prog_2_method_7_code
def yX0_numberAt : MethodName := ⟨RX0, "numberAt", "(II)J"⟩
abbrev cX0_set : ByteArray := prog_2_method_8_code
def yX0_set : MethodName := ⟨RX0, "set", "(IIJZ)V"⟩
def RX1 : String := "QueryLoops$Checker"
def TX1 : u_T := fun k => match k with
  | 0 => ("QueryLoops$Checker", "query", "LQueryLoops$Query;", true)
  | 1 => ("QueryLoops$Checker", "operands", "LQueryLoops$Operands;", true)
  | 2 => ("QueryLoops$Checker", "tables", "LQueryLoops$Tables;", true)
  | _ => ("QueryLoops$Checker", "ill", "I", false)
def tyX1 : Nat → FieldType := fun k => match k with
  | 0 => .object "QueryLoops$Query"
  | 1 => .object "QueryLoops$Operands"
  | 2 => .object "QueryLoops$Tables"
  | _ => .int
abbrev wsX10 : List Cond := u_ws RX1 TX1 4
theorem nmX1 : ∀ a, a < 4 → ∀ b, b < 4 → a ≠ b → (TX1 a).2.1 ≠ (TX1 b).2.1 := by decide +kernel
theorem tyX1_ok : ∀ k, k < 4 → parseFieldDescriptor (TX1 k).2.2.1 = some (tyX1 k) := by decide +kernel
abbrev cX1_init : ByteArray := prog_3_method_1_code
def yX1_init : MethodName := ⟨RX1, "<init>", "(LQueryLoops$Query;LQueryLoops$Tables;)V"⟩
abbrev cX1_firstIll : ByteArray := prog_3_method_2_code
def yX1_firstIll : MethodName := ⟨RX1, "firstIll", "()I"⟩
abbrev cX1_noteIll : ByteArray := prog_3_method_3_code
def yX1_noteIll : MethodName := ⟨RX1, "noteIll", "(I)V"⟩
abbrev cX1_checkItems : ByteArray := prog_3_method_4_code
def yX1_checkItems : MethodName := ⟨RX1, "checkItems", "()V"⟩
abbrev cX1_checkColumns : ByteArray := prog_3_method_5_code
def yX1_checkColumns : MethodName := ⟨RX1, "checkColumns", "()V"⟩
abbrev cX1_checkOuts : ByteArray := prog_3_method_6_code
def yX1_checkOuts : MethodName := ⟨RX1, "checkOuts", "()V"⟩
def RX2 : String := "QueryLoops$Loops"
def TX2 : u_T := fun k => match k with
  | 0 => ("QueryLoops$Loops", "query", "LQueryLoops$Query;", true)
  | 1 => ("QueryLoops$Loops", "operands", "LQueryLoops$Operands;", true)
  | 2 => ("QueryLoops$Loops", "steps", "LQueryLoops$Steps;", true)
  | 3 => ("QueryLoops$Loops", "tables", "LQueryLoops$Tables;", true)
  | 4 => ("QueryLoops$Loops", "answer", "LQueryLoops$Answer;", true)
  | 5 => ("QueryLoops$Loops", "keyNumbers", "[I", true)
  | 6 => ("QueryLoops$Loops", "keyUnknowns", "[Z", true)
  | 7 => ("QueryLoops$Loops", "gathers", "Z", false)
  | _ => ("QueryLoops$Loops", "seen", "I", false)
def tyX2 : Nat → FieldType := fun k => match k with
  | 0 => .object "QueryLoops$Query"
  | 1 => .object "QueryLoops$Operands"
  | 2 => .object "QueryLoops$Steps"
  | 3 => .object "QueryLoops$Tables"
  | 4 => .object "QueryLoops$Answer"
  | 5 => .array .int
  | 6 => .array .boolean
  | 7 => .boolean
  | _ => .int
abbrev wsX20 : List Cond := u_ws RX2 TX2 9
theorem nmX2 : ∀ a, a < 9 → ∀ b, b < 9 → a ≠ b → (TX2 a).2.1 ≠ (TX2 b).2.1 := by decide +kernel
theorem tyX2_ok : ∀ k, k < 9 → parseFieldDescriptor (TX2 k).2.2.1 = some (tyX2 k) := by decide +kernel
abbrev cX2_init : ByteArray := prog_4_method_1_code
def yX2_init : MethodName := ⟨RX2, "<init>", "(LQueryLoops$Query;LQueryLoops$Tables;LQueryLoops$Answer;)V"⟩
abbrev cX2_seen : ByteArray := prog_4_method_2_code
def yX2_seen : MethodName := ⟨RX2, "seen", "()I"⟩
abbrev cX2_goThroughAll : ByteArray := prog_4_method_3_code
def yX2_goThroughAll : MethodName := ⟨RX2, "goThroughAll", "()Z"⟩
abbrev cX2_goThrough : ByteArray := prog_4_method_4_code
def yX2_goThrough : MethodName := ⟨RX2, "goThrough", "(I)Z"⟩
abbrev cX2_goOn : ByteArray := prog_4_method_5_code
def yX2_goOn : MethodName := ⟨RX2, "goOn", "(I)Z"⟩
abbrev cX2_gather : ByteArray := prog_4_method_6_code
def yX2_gather : MethodName := ⟨RX2, "gather", "()Z"⟩
abbrev cX2_lineOfGroup : ByteArray := prog_4_method_7_code
def yX2_lineOfGroup : MethodName := ⟨RX2, "lineOfGroup", "()I"⟩
abbrev cX2_isOfGroup : ByteArray := prog_4_method_8_code
def yX2_isOfGroup : MethodName := ⟨RX2, "isOfGroup", "(I)Z"⟩
abbrev cX2_keyOf : ByteArray := prog_4_method_9_code
def yX2_keyOf : MethodName := ⟨RX2, "keyOf", "(II)I"⟩
abbrev cX2_begin : ByteArray := prog_4_method_10_code
def yX2_begin : MethodName := ⟨RX2, "begin", "(I)V"⟩
abbrev cX2_tally : ByteArray := prog_4_method_11_code
def yX2_tally : MethodName := ⟨RX2, "tally", "(IIII)V"⟩
abbrev cX2_joined : ByteArray := prog_4_method_12_code
def yX2_joined : MethodName := ⟨RX2, "joined", "(IJJ)J"⟩
def RX3 : String := "QueryLoops$Operands"
def TX3 : u_T := fun k => match k with
  | 0 => ("QueryLoops$Operands", "places", "[I", true)
  | 1 => ("QueryLoops$Operands", "aliases", "[I", true)
  | 2 => ("QueryLoops$Operands", "letters", "[I", true)
  | 3 => ("QueryLoops$Operands", "lastItems", "[I", true)
  | 4 => ("QueryLoops$Operands", "items", "[I", true)
  | 5 => ("QueryLoops$Operands", "numbers", "[I", true)
  | 6 => ("QueryLoops$Operands", "unknowns", "[Z", true)
  | _ => ("QueryLoops$Operands", "count", "I", false)
def tyX3 : Nat → FieldType := fun k => match k with
  | 0 => .array .int
  | 1 => .array .int
  | 2 => .array .int
  | 3 => .array .int
  | 4 => .array .int
  | 5 => .array .int
  | 6 => .array .boolean
  | _ => .int
abbrev wsX30 : List Cond := u_ws RX3 TX3 8
theorem nmX3 : ∀ a, a < 8 → ∀ b, b < 8 → a ≠ b → (TX3 a).2.1 ≠ (TX3 b).2.1 := by decide +kernel
theorem tyX3_ok : ∀ k, k < 8 → parseFieldDescriptor (TX3 k).2.2.1 = some (tyX3 k) := by decide +kernel
abbrev cX3_init : ByteArray := prog_5_method_1_code
def yX3_init : MethodName := ⟨RX3, "<init>", "()V"⟩
abbrev cX3_clear : ByteArray := prog_5_method_2_code
def yX3_clear : MethodName := ⟨RX3, "clear", "()V"⟩
abbrev cX3_count : ByteArray := prog_5_method_3_code
def yX3_count : MethodName := ⟨RX3, "count", "()I"⟩
abbrev cX3_addColumn : ByteArray := prog_5_method_4_code
def yX3_addColumn : MethodName := ⟨RX3, "addColumn", "(IIII)I"⟩
abbrev cX3_addConstant : ByteArray := prog_5_method_5_code
def yX3_addConstant : MethodName := ⟨RX3, "addConstant", "(IZ)I"⟩
abbrev cX3_isColumn : ByteArray := prog_5_method_6_code
def yX3_isColumn : MethodName := ⟨RX3, "isColumn", "(I)Z"⟩
abbrev cX3_placeOf : ByteArray := prog_5_method_7_code
def yX3_placeOf : MethodName := ⟨RX3, "placeOf", "(I)I"⟩
abbrev cX3_aliasOf : ByteArray := prog_5_method_8_code
def yX3_aliasOf : MethodName := ⟨RX3, "aliasOf", "(I)I"⟩
abbrev cX3_letterOf : ByteArray := prog_5_method_9_code
def yX3_letterOf : MethodName := ⟨RX3, "letterOf", "(I)I"⟩
abbrev cX3_lastItemOf : ByteArray := prog_5_method_10_code
def yX3_lastItemOf : MethodName := ⟨RX3, "lastItemOf", "(I)I"⟩
abbrev cX3_itemOf : ByteArray := prog_5_method_11_code
def yX3_itemOf : MethodName := ⟨RX3, "itemOf", "(I)I"⟩
abbrev cX3_setItem : ByteArray := prog_5_method_12_code
def yX3_setItem : MethodName := ⟨RX3, "setItem", "(II)V"⟩
abbrev cX3_sameColumn : ByteArray := prog_5_method_13_code
def yX3_sameColumn : MethodName := ⟨RX3, "sameColumn", "(II)Z"⟩
abbrev cX3_numberOf : ByteArray := prog_5_method_14_code
def yX3_numberOf : MethodName := ⟨RX3, "numberOf", "(I)I"⟩
abbrev cX3_unknownOf : ByteArray := prog_5_method_15_code
def yX3_unknownOf : MethodName := ⟨RX3, "unknownOf", "(I)Z"⟩
abbrev cX3_load : ByteArray := prog_5_method_16_code
def yX3_load : MethodName := ⟨RX3, "load", "(ILQueryLoops$Tables;II)V"⟩
def RX4 : String := "QueryLoops$Parser"
def TX4 : u_T := fun k => match k with
  | 0 => ("QueryLoops$Parser", "tokens", "LQueryLoops$Tokens;", true)
  | 1 => ("QueryLoops$Parser", "query", "LQueryLoops$Query;", true)
  | 2 => ("QueryLoops$Parser", "operands", "LQueryLoops$Operands;", true)
  | 3 => ("QueryLoops$Parser", "steps", "LQueryLoops$Steps;", true)
  | _ => ("QueryLoops$Parser", "lastItem", "I", false)
def tyX4 : Nat → FieldType := fun k => match k with
  | 0 => .object "QueryLoops$Tokens"
  | 1 => .object "QueryLoops$Query"
  | 2 => .object "QueryLoops$Operands"
  | 3 => .object "QueryLoops$Steps"
  | _ => .int
abbrev wsX40 : List Cond := u_ws RX4 TX4 5
theorem nmX4 : ∀ a, a < 5 → ∀ b, b < 5 → a ≠ b → (TX4 a).2.1 ≠ (TX4 b).2.1 := by decide +kernel
theorem tyX4_ok : ∀ k, k < 5 → parseFieldDescriptor (TX4 k).2.2.1 = some (tyX4 k) := by decide +kernel
abbrev cX4_init : ByteArray := prog_6_method_1_code
def yX4_init : MethodName := ⟨RX4, "<init>", "(LQueryLoops$Tokens;LQueryLoops$Query;)V"⟩
abbrev cX4_readQuery : ByteArray := prog_6_method_2_code
def yX4_readQuery : MethodName := ⟨RX4, "readQuery", "()Z"⟩
abbrev cX4_readOuts : ByteArray := prog_6_method_3_code
def yX4_readOuts : MethodName := ⟨RX4, "readOuts", "()Z"⟩
abbrev cX4_readOut : ByteArray := prog_6_method_4_code
def yX4_readOut : MethodName := ⟨RX4, "readOut", "()Z"⟩
abbrev cX4_readItem : ByteArray := prog_6_method_5_code
def yX4_readItem : MethodName := ⟨RX4, "readItem", "(Z)Z"⟩
abbrev cX4_readJoined : ByteArray := prog_6_method_6_code
def yX4_readJoined : MethodName := ⟨RX4, "readJoined", "()Z"⟩
abbrev cX4_readWhere : ByteArray := prog_6_method_7_code
def yX4_readWhere : MethodName := ⟨RX4, "readWhere", "()Z"⟩
abbrev cX4_readGroup : ByteArray := prog_6_method_8_code
def yX4_readGroup : MethodName := ⟨RX4, "readGroup", "()Z"⟩
abbrev cX4_readCondition : ByteArray := prog_6_method_9_code
def yX4_readCondition : MethodName := ⟨RX4, "readCondition", "(I)Z"⟩
abbrev cX4_readConjunction : ByteArray := prog_6_method_10_code
def yX4_readConjunction : MethodName := ⟨RX4, "readConjunction", "(I)Z"⟩
abbrev cX4_readPart : ByteArray := prog_6_method_11_code
def yX4_readPart : MethodName := ⟨RX4, "readPart", "(I)Z"⟩
abbrev cX4_notePart : ByteArray := prog_6_method_12_code
def yX4_notePart : MethodName := ⟨RX4, "notePart", "(III)V"⟩
abbrev cX4_readTest : ByteArray := prog_6_method_13_code
def yX4_readTest : MethodName := ⟨RX4, "readTest", "(I)Z"⟩
abbrev cX4_readComparison : ByteArray := prog_6_method_14_code
def yX4_readComparison : MethodName := ⟨RX4, "readComparison", "()Z"⟩
abbrev cX4_readOperand : ByteArray := prog_6_method_15_code
def yX4_readOperand : MethodName := ⟨RX4, "readOperand", "()I"⟩
abbrev cX4_readColumn : ByteArray := prog_6_method_16_code
def yX4_readColumn : MethodName := ⟨RX4, "readColumn", "()I"⟩
abbrev cX4_isAlias : ByteArray := prog_6_method_17_code
def yX4_isAlias : MethodName := ⟨RX4, "isAlias", "(I)Z"⟩
def RX5 : String := "QueryLoops$Query"
def TX5 : u_T := fun k => match k with
  | 0 => ("QueryLoops$Query", "operands", "LQueryLoops$Operands;", true)
  | 1 => ("QueryLoops$Query", "steps", "LQueryLoops$Steps;", true)
  | 2 => ("QueryLoops$Query", "itemTables", "[I", true)
  | 3 => ("QueryLoops$Query", "tablePlaces", "[I", true)
  | 4 => ("QueryLoops$Query", "aliases", "[I", true)
  | 5 => ("QueryLoops$Query", "aliasPlaces", "[I", true)
  | 6 => ("QueryLoops$Query", "lefts", "[Z", true)
  | 7 => ("QueryLoops$Query", "items", "I", false)
  | 8 => ("QueryLoops$Query", "outKinds", "[I", true)
  | 9 => ("QueryLoops$Query", "outColumns", "[I", true)
  | 10 => ("QueryLoops$Query", "outs", "I", false)
  | 11 => ("QueryLoops$Query", "groupColumns", "[I", true)
  | _ => ("QueryLoops$Query", "grouped", "I", false)
def tyX5 : Nat → FieldType := fun k => match k with
  | 0 => .object "QueryLoops$Operands"
  | 1 => .object "QueryLoops$Steps"
  | 2 => .array .int
  | 3 => .array .int
  | 4 => .array .int
  | 5 => .array .int
  | 6 => .array .boolean
  | 7 => .int
  | 8 => .array .int
  | 9 => .array .int
  | 10 => .int
  | 11 => .array .int
  | _ => .int
abbrev wsX50 : List Cond := u_ws RX5 TX5 13
theorem nmX5 : ∀ a, a < 13 → ∀ b, b < 13 → a ≠ b → (TX5 a).2.1 ≠ (TX5 b).2.1 := by decide +kernel
theorem tyX5_ok : ∀ k, k < 13 → parseFieldDescriptor (TX5 k).2.2.1 = some (tyX5 k) := by decide +kernel
abbrev cX5_init : ByteArray := prog_7_method_1_code
def yX5_init : MethodName := ⟨RX5, "<init>", "()V"⟩
abbrev cX5_clear : ByteArray := prog_7_method_2_code
def yX5_clear : MethodName := ⟨RX5, "clear", "()V"⟩
abbrev cX5_settle : ByteArray := prog_7_method_3_code
def yX5_settle : MethodName := ⟨RX5, "settle", "()V"⟩
abbrev cX5_operands : ByteArray := prog_7_method_4_code
def yX5_operands : MethodName := ⟨RX5, "operands", "()LQueryLoops$Operands;"⟩
abbrev cX5_steps : ByteArray := prog_7_method_5_code
def yX5_steps : MethodName := ⟨RX5, "steps", "()LQueryLoops$Steps;"⟩
abbrev cX5_addItem : ByteArray := prog_7_method_6_code
def yX5_addItem : MethodName := ⟨RX5, "addItem", "(IIIIZ)V"⟩
abbrev cX5_addOut : ByteArray := prog_7_method_7_code
def yX5_addOut : MethodName := ⟨RX5, "addOut", "(II)V"⟩
abbrev cX5_addGrouped : ByteArray := prog_7_method_8_code
def yX5_addGrouped : MethodName := ⟨RX5, "addGrouped", "(I)V"⟩
abbrev cX5_itemCount : ByteArray := prog_7_method_9_code
def yX5_itemCount : MethodName := ⟨RX5, "itemCount", "()I"⟩
abbrev cX5_tableOf : ByteArray := prog_7_method_10_code
def yX5_tableOf : MethodName := ⟨RX5, "tableOf", "(I)I"⟩
abbrev cX5_tablePlaceOf : ByteArray := prog_7_method_11_code
def yX5_tablePlaceOf : MethodName := ⟨RX5, "tablePlaceOf", "(I)I"⟩
abbrev cX5_aliasOf : ByteArray := prog_7_method_12_code
def yX5_aliasOf : MethodName := ⟨RX5, "aliasOf", "(I)I"⟩
abbrev cX5_aliasPlaceOf : ByteArray := prog_7_method_13_code
def yX5_aliasPlaceOf : MethodName := ⟨RX5, "aliasPlaceOf", "(I)I"⟩
abbrev cX5_isLeft : ByteArray := prog_7_method_14_code
def yX5_isLeft : MethodName := ⟨RX5, "isLeft", "(I)Z"⟩
abbrev cX5_itemWith : ByteArray := prog_7_method_15_code
def yX5_itemWith : MethodName := ⟨RX5, "itemWith", "(I)I"⟩
abbrev cX5_uses : ByteArray := prog_7_method_16_code
def yX5_uses : MethodName := ⟨RX5, "uses", "(I)Z"⟩
abbrev cX5_outCount : ByteArray := prog_7_method_17_code
def yX5_outCount : MethodName := ⟨RX5, "outCount", "()I"⟩
abbrev cX5_outKind : ByteArray := prog_7_method_18_code
def yX5_outKind : MethodName := ⟨RX5, "outKind", "(I)I"⟩
abbrev cX5_outColumn : ByteArray := prog_7_method_19_code
def yX5_outColumn : MethodName := ⟨RX5, "outColumn", "(I)I"⟩
abbrev cX5_groupedCount : ByteArray := prog_7_method_20_code
def yX5_groupedCount : MethodName := ⟨RX5, "groupedCount", "()I"⟩
abbrev cX5_groupColumn : ByteArray := prog_7_method_21_code
def yX5_groupColumn : MethodName := ⟨RX5, "groupColumn", "(I)I"⟩
abbrev cX5_groupsBy : ByteArray := prog_7_method_22_code
def yX5_groupsBy : MethodName := ⟨RX5, "groupsBy", "(I)Z"⟩
abbrev cX5_gathers : ByteArray := prog_7_method_23_code
def yX5_gathers : MethodName := ⟨RX5, "gathers", "()Z"⟩
def RX6 : String := "QueryLoops$Steps"
def TX6 : u_T := fun k => match k with
  | 0 => ("QueryLoops$Steps", "operands", "LQueryLoops$Operands;", true)
  | 1 => ("QueryLoops$Steps", "kinds", "[I", true)
  | 2 => ("QueryLoops$Steps", "lefts", "[I", true)
  | 3 => ("QueryLoops$Steps", "rights", "[I", true)
  | 4 => ("QueryLoops$Steps", "count", "I", false)
  | 5 => ("QueryLoops$Steps", "partBegins", "[I", true)
  | 6 => ("QueryLoops$Steps", "partEnds", "[I", true)
  | 7 => ("QueryLoops$Steps", "partItems", "[I", true)
  | 8 => ("QueryLoops$Steps", "partWheres", "[Z", true)
  | 9 => ("QueryLoops$Steps", "parts", "I", false)
  | _ => ("QueryLoops$Steps", "truths", "[I", true)
def tyX6 : Nat → FieldType := fun k => match k with
  | 0 => .object "QueryLoops$Operands"
  | 1 => .array .int
  | 2 => .array .int
  | 3 => .array .int
  | 4 => .int
  | 5 => .array .int
  | 6 => .array .int
  | 7 => .array .int
  | 8 => .array .boolean
  | 9 => .int
  | _ => .array .int
abbrev wsX60 : List Cond := u_ws RX6 TX6 11
theorem nmX6 : ∀ a, a < 11 → ∀ b, b < 11 → a ≠ b → (TX6 a).2.1 ≠ (TX6 b).2.1 := by decide +kernel
theorem tyX6_ok : ∀ k, k < 11 → parseFieldDescriptor (TX6 k).2.2.1 = some (tyX6 k) := by decide +kernel
abbrev cX6_init : ByteArray := prog_8_method_1_code
def yX6_init : MethodName := ⟨RX6, "<init>", "(LQueryLoops$Operands;)V"⟩
abbrev cX6_clear : ByteArray := prog_8_method_2_code
def yX6_clear : MethodName := ⟨RX6, "clear", "()V"⟩
abbrev cX6_count : ByteArray := prog_8_method_3_code
def yX6_count : MethodName := ⟨RX6, "count", "()I"⟩
abbrev cX6_partCount : ByteArray := prog_8_method_4_code
def yX6_partCount : MethodName := ⟨RX6, "partCount", "()I"⟩
abbrev cX6_add : ByteArray := prog_8_method_5_code
def yX6_add : MethodName := ⟨RX6, "add", "(III)V"⟩
abbrev cX6_addPart : ByteArray := prog_8_method_6_code
def yX6_addPart : MethodName := ⟨RX6, "addPart", "(IIIZ)V"⟩
abbrev cX6_settle : ByteArray := prog_8_method_7_code
def yX6_settle : MethodName := ⟨RX6, "settle", "()V"⟩
abbrev cX6_lastItemIn : ByteArray := prog_8_method_8_code
def yX6_lastItemIn : MethodName := ⟨RX6, "lastItemIn", "(II)I"⟩
abbrev cX6_allTrue : ByteArray := prog_8_method_9_code
def yX6_allTrue : MethodName := ⟨RX6, "allTrue", "(IZ)Z"⟩
abbrev cX6_truthOf : ByteArray := prog_8_method_10_code
def yX6_truthOf : MethodName := ⟨RX6, "truthOf", "(II)I"⟩
abbrev cX6_turnTop : ByteArray := prog_8_method_11_code
def yX6_turnTop : MethodName := ⟨RX6, "turnTop", "(I)V"⟩
abbrev cX6_joinTop : ByteArray := prog_8_method_12_code
def yX6_joinTop : MethodName := ⟨RX6, "joinTop", "(II)I"⟩
abbrev cX6_testOf : ByteArray := prog_8_method_13_code
def yX6_testOf : MethodName := ⟨RX6, "testOf", "(III)I"⟩
def RX7 : String := "QueryLoops$Tables"
def TX7 : u_T := fun k => match k with
  | 0 => ("QueryLoops$Tables", "widths", "[I", true)
  | 1 => ("QueryLoops$Tables", "heights", "[I", true)
  | 2 => ("QueryLoops$Tables", "numbers", "[I", true)
  | _ => ("QueryLoops$Tables", "unknowns", "[Z", true)
def tyX7 : Nat → FieldType := fun k => match k with
  | 0 => .array .int
  | 1 => .array .int
  | 2 => .array .int
  | _ => .array .boolean
abbrev wsX70 : List Cond := u_ws RX7 TX7 4
theorem nmX7 : ∀ a, a < 4 → ∀ b, b < 4 → a ≠ b → (TX7 a).2.1 ≠ (TX7 b).2.1 := by decide +kernel
theorem tyX7_ok : ∀ k, k < 4 → parseFieldDescriptor (TX7 k).2.2.1 = some (tyX7 k) := by decide +kernel
abbrev cX7_init : ByteArray := prog_9_method_1_code
def yX7_init : MethodName := ⟨RX7, "<init>", "()V"⟩
abbrev cX7_width : ByteArray := prog_9_method_2_code
def yX7_width : MethodName := ⟨RX7, "width", "(I)I"⟩
abbrev cX7_height : ByteArray := prog_9_method_3_code
def yX7_height : MethodName := ⟨RX7, "height", "(I)I"⟩
abbrev cX7_make : ByteArray := prog_9_method_4_code
def yX7_make : MethodName := ⟨RX7, "make", "(II)Z"⟩
abbrev cX7_append : ByteArray := prog_9_method_5_code
def yX7_append : MethodName := ⟨RX7, "append", "(ILQueryLoops$Values;)V"⟩
abbrev cX7_dropFirst : ByteArray := prog_9_method_6_code
def yX7_dropFirst : MethodName := ⟨RX7, "dropFirst", "(I)I"⟩
abbrev cX7_numberAt : ByteArray := prog_9_method_7_code
def yX7_numberAt : MethodName := ⟨RX7, "numberAt", "(III)I"⟩
abbrev cX7_unknownAt : ByteArray := prog_9_method_8_code
def yX7_unknownAt : MethodName := ⟨RX7, "unknownAt", "(III)Z"⟩
abbrev cX7_cellOf : ByteArray := prog_9_method_9_code
def yX7_cellOf : MethodName := ⟨RX7, "cellOf", "(III)I"⟩
def RX8 : String := "QueryLoops$Text"
def TX8 : u_T := fun k => match k with
  | 0 => ("QueryLoops$Text", "codes", "[C", true)
  | _ => ("QueryLoops$Text", "length", "I", false)
def tyX8 : Nat → FieldType := fun k => match k with
  | 0 => .array .char
  | _ => .int
abbrev wsX80 : List Cond := u_ws RX8 TX8 2
theorem nmX8 : ∀ a, a < 2 → ∀ b, b < 2 → a ≠ b → (TX8 a).2.1 ≠ (TX8 b).2.1 := by decide +kernel
theorem tyX8_ok : ∀ k, k < 2 → parseFieldDescriptor (TX8 k).2.2.1 = some (tyX8 k) := by decide +kernel
abbrev cX8_init : ByteArray := prog_10_method_1_code
def yX8_init : MethodName := ⟨RX8, "<init>", "()V"⟩
abbrev cX8_append : ByteArray := prog_10_method_2_code
def yX8_append : MethodName := ⟨RX8, "append", "(C)Z"⟩
abbrev cX8_clear : ByteArray := prog_10_method_3_code
def yX8_clear : MethodName := ⟨RX8, "clear", "()V"⟩
abbrev cX8_splitInto : ByteArray := prog_10_method_4_code
def yX8_splitInto : MethodName := ⟨RX8, "splitInto", "(LQueryLoops$Tokens;)V"⟩
abbrev cX8_codeAt : ByteArray := prog_10_method_5_code
def yX8_codeAt : MethodName := ⟨RX8, "codeAt", "(I)C"⟩
abbrev cX8_readToken : ByteArray := prog_10_method_6_code
def yX8_readToken : MethodName := ⟨RX8, "readToken", "(ILQueryLoops$Tokens;)I"⟩
abbrev cX8_endOfWord : ByteArray := prog_10_method_7_code
def yX8_endOfWord : MethodName := ⟨RX8, "endOfWord", "(I)I"⟩
abbrev cX8_readNumeral : ByteArray := prog_10_method_8_code
def yX8_readNumeral : MethodName := ⟨RX8, "readNumeral", "(ILQueryLoops$Tokens;)I"⟩
abbrev cX8_wordKind : ByteArray := prog_10_method_9_code
def yX8_wordKind : MethodName := ⟨RX8, "wordKind", "(II)I"⟩
abbrev cX8_spells : ByteArray := prog_10_method_10_code
def yX8_spells : MethodName := ⟨RX8, "spells", "(IILjava/lang/String;)Z"⟩
abbrev cX8_isSmall : ByteArray := prog_10_method_11_code
def yX8_isSmall : MethodName := ⟨RX8, "isSmall", "(C)Z"⟩
abbrev cX8_isCapital : ByteArray := prog_10_method_12_code
def yX8_isCapital : MethodName := ⟨RX8, "isCapital", "(C)Z"⟩
abbrev cX8_isDigit : ByteArray := prog_10_method_13_code
def yX8_isDigit : MethodName := ⟨RX8, "isDigit", "(C)Z"⟩
abbrev cX8_isSign : ByteArray := prog_10_method_14_code
def yX8_isSign : MethodName := ⟨RX8, "isSign", "(C)Z"⟩
def RX9 : String := "QueryLoops$Tokens"
def TX9 : u_T := fun k => match k with
  | 0 => ("QueryLoops$Tokens", "kinds", "[I", true)
  | 1 => ("QueryLoops$Tokens", "places", "[I", true)
  | 2 => ("QueryLoops$Tokens", "numbers", "[I", true)
  | 3 => ("QueryLoops$Tokens", "count", "I", false)
  | _ => ("QueryLoops$Tokens", "next", "I", false)
def tyX9 : Nat → FieldType := fun k => match k with
  | 0 => .array .int
  | 1 => .array .int
  | 2 => .array .int
  | 3 => .int
  | _ => .int
abbrev wsX90 : List Cond := u_ws RX9 TX9 5
theorem nmX9 : ∀ a, a < 5 → ∀ b, b < 5 → a ≠ b → (TX9 a).2.1 ≠ (TX9 b).2.1 := by decide +kernel
theorem tyX9_ok : ∀ k, k < 5 → parseFieldDescriptor (TX9 k).2.2.1 = some (tyX9 k) := by decide +kernel
abbrev cX9_init : ByteArray := prog_11_method_1_code
def yX9_init : MethodName := ⟨RX9, "<init>", "()V"⟩
abbrev cX9_clear : ByteArray := prog_11_method_2_code
def yX9_clear : MethodName := ⟨RX9, "clear", "()V"⟩
abbrev cX9_add : ByteArray := prog_11_method_3_code
def yX9_add : MethodName := ⟨RX9, "add", "(III)V"⟩
abbrev cX9_nextKind : ByteArray := prog_11_method_4_code
def yX9_nextKind : MethodName := ⟨RX9, "nextKind", "()I"⟩
abbrev cX9_nextPlace : ByteArray := prog_11_method_5_code
def yX9_nextPlace : MethodName := ⟨RX9, "nextPlace", "()I"⟩
abbrev cX9_nextNumber : ByteArray := prog_11_method_6_code
def yX9_nextNumber : MethodName := ⟨RX9, "nextNumber", "()I"⟩
abbrev cX9_advance : ByteArray := prog_11_method_7_code
def yX9_advance : MethodName := ⟨RX9, "advance", "()V"⟩
abbrev cX9_take : ByteArray := prog_11_method_8_code
def yX9_take : MethodName := ⟨RX9, "take", "(I)Z"⟩
def RX10 : String := "QueryLoops$Values"
def TX10 : u_T := fun k => match k with
  | 0 => ("QueryLoops$Values", "numbers", "[I", true)
  | 1 => ("QueryLoops$Values", "unknowns", "[Z", true)
  | _ => ("QueryLoops$Values", "size", "I", false)
def tyX10 : Nat → FieldType := fun k => match k with
  | 0 => .array .int
  | 1 => .array .boolean
  | _ => .int
abbrev wsX100 : List Cond := u_ws RX10 TX10 3
theorem nmX10 : ∀ a, a < 3 → ∀ b, b < 3 → a ≠ b → (TX10 a).2.1 ≠ (TX10 b).2.1 := by decide +kernel
theorem tyX10_ok : ∀ k, k < 3 → parseFieldDescriptor (TX10 k).2.2.1 = some (tyX10 k) := by decide +kernel
abbrev cX10_init : ByteArray := prog_12_method_1_code
def yX10_init : MethodName := ⟨RX10, "<init>", "()V"⟩
abbrev cX10_size : ByteArray := prog_12_method_2_code
def yX10_size : MethodName := ⟨RX10, "size", "()I"⟩
abbrev cX10_clear : ByteArray := prog_12_method_3_code
def yX10_clear : MethodName := ⟨RX10, "clear", "()V"⟩
abbrev cX10_put : ByteArray := prog_12_method_4_code
def yX10_put : MethodName := ⟨RX10, "put", "(IZ)Z"⟩
abbrev cX10_numberAt : ByteArray := prog_12_method_5_code
def yX10_numberAt : MethodName := ⟨RX10, "numberAt", "(I)I"⟩
abbrev cX10_unknownAt : ByteArray := prog_12_method_6_code
def yX10_unknownAt : MethodName := ⟨RX10, "unknownAt", "(I)Z"⟩
def RX11 : String := "QueryLoops"
def TX11 : u_T := fun k => match k with
  | 0 => ("QueryLoops", "tables", "LQueryLoops$Tables;", true)
  | 1 => ("QueryLoops", "values", "LQueryLoops$Values;", true)
  | 2 => ("QueryLoops", "text", "LQueryLoops$Text;", true)
  | 3 => ("QueryLoops", "tokens", "LQueryLoops$Tokens;", true)
  | 4 => ("QueryLoops", "query", "LQueryLoops$Query;", true)
  | 5 => ("QueryLoops", "parser", "LQueryLoops$Parser;", true)
  | 6 => ("QueryLoops", "checker", "LQueryLoops$Checker;", true)
  | 7 => ("QueryLoops", "answer", "LQueryLoops$Answer;", true)
  | 8 => ("QueryLoops", "loops", "LQueryLoops$Loops;", true)
  | 9 => ("QueryLoops", "hasQuery", "Z", false)
  | _ => ("QueryLoops", "illPlace", "I", false)
def tyX11 : Nat → FieldType := fun k => match k with
  | 0 => .object "QueryLoops$Tables"
  | 1 => .object "QueryLoops$Values"
  | 2 => .object "QueryLoops$Text"
  | 3 => .object "QueryLoops$Tokens"
  | 4 => .object "QueryLoops$Query"
  | 5 => .object "QueryLoops$Parser"
  | 6 => .object "QueryLoops$Checker"
  | 7 => .object "QueryLoops$Answer"
  | 8 => .object "QueryLoops$Loops"
  | 9 => .boolean
  | _ => .int
abbrev wsX110 : List Cond := u_ws RX11 TX11 11
theorem nmX11 : ∀ a, a < 11 → ∀ b, b < 11 → a ≠ b → (TX11 a).2.1 ≠ (TX11 b).2.1 := by decide +kernel
theorem tyX11_ok : ∀ k, k < 11 → parseFieldDescriptor (TX11 k).2.2.1 = some (tyX11 k) := by decide +kernel
abbrev cX11_init : ByteArray := prog_1_method_1_code
def yX11_init : MethodName := ⟨RX11, "<init>", "()V"⟩
abbrev cX11_declare : ByteArray := prog_1_method_2_code
def yX11_declare : MethodName := ⟨RX11, "declare", "(II)Z"⟩
abbrev cX11_value : ByteArray := prog_1_method_3_code
def yX11_value : MethodName := ⟨RX11, "value", "(I)Z"⟩
abbrev cX11_nothing : ByteArray := prog_1_method_4_code
def yX11_nothing : MethodName := ⟨RX11, "nothing", "()Z"⟩
abbrev cX11_row : ByteArray := prog_1_method_5_code
def yX11_row : MethodName := ⟨RX11, "row", "(I)I"⟩
abbrev cX11_drop : ByteArray := prog_1_method_6_code
def yX11_drop : MethodName := ⟨RX11, "drop", "(I)I"⟩
abbrev cX11_ask : ByteArray := prog_1_method_7_code
def yX11_ask : MethodName := ⟨RX11, "ask", "(C)Z"⟩
abbrev cX11_compile : ByteArray := prog_1_method_8_code
def yX11_compile : MethodName := ⟨RX11, "compile", "()I"⟩
abbrev cX11_place : ByteArray := prog_1_method_9_code
def yX11_place : MethodName := ⟨RX11, "place", "()I"⟩
abbrev cX11_run : ByteArray := prog_1_method_10_code
def yX11_run : MethodName := ⟨RX11, "run", "()I"⟩
abbrev cX11_looked : ByteArray := prog_1_method_11_code
def yX11_looked : MethodName := ⟨RX11, "looked", "()I"⟩
abbrev cX11_rows : ByteArray := prog_1_method_12_code
def yX11_rows : MethodName := ⟨RX11, "rows", "()I"⟩
abbrev cX11_isNull : ByteArray := prog_1_method_13_code
def yX11_isNull : MethodName := ⟨RX11, "isNull", "(II)Z"⟩
abbrev cX11_result : ByteArray := prog_1_method_14_code
def yX11_result : MethodName := ⟨RX11, "result", "(II)J"⟩
abbrev cX11_get : ByteArray := prog_1_method_15_code
def yX11_get : MethodName := ⟨RX11, "get", "([II)I"⟩
def RX12 : String := "QueryLoopsModel"
def TX12 : u_T := fun k => match k with
  | 0 => ("QueryLoopsModel", "words", "[I", true)
  | 1 => ("QueryLoopsModel", "code", "I", false)
  | 2 => ("QueryLoopsModel", "width", "[I", true)
  | 3 => ("QueryLoopsModel", "height", "[I", true)
  | 4 => ("QueryLoopsModel", "cell", "[I", true)
  | 5 => ("QueryLoopsModel", "blank", "[Z", true)
  | 6 => ("QueryLoopsModel", "values", "I", false)
  | 7 => ("QueryLoopsModel", "given", "[I", true)
  | 8 => ("QueryLoopsModel", "givenBlank", "[Z", true)
  | 9 => ("QueryLoopsModel", "size", "I", false)
  | 10 => ("QueryLoopsModel", "text", "[C", true)
  | 11 => ("QueryLoopsModel", "illAt", "I", false)
  | 12 => ("QueryLoopsModel", "ill", "Z", false)
  | 13 => ("QueryLoopsModel", "badAt", "I", false)
  | 14 => ("QueryLoopsModel", "pos", "I", false)
  | 15 => ("QueryLoopsModel", "tokens", "I", false)
  | 16 => ("QueryLoopsModel", "next", "I", false)
  | 17 => ("QueryLoopsModel", "kind", "[I", true)
  | 18 => ("QueryLoopsModel", "place", "[I", true)
  | 19 => ("QueryLoopsModel", "number", "[I", true)
  | 20 => ("QueryLoopsModel", "open", "I", false)
  | 21 => ("QueryLoopsModel", "opened", "[I", true)
  | 22 => ("QueryLoopsModel", "there", "Z", false)
  | 23 => ("QueryLoopsModel", "outs", "I", false)
  | 24 => ("QueryLoopsModel", "outKind", "[I", true)
  | 25 => ("QueryLoopsModel", "outAt", "[I", true)
  | 26 => ("QueryLoopsModel", "items", "I", false)
  | 27 => ("QueryLoopsModel", "table", "[I", true)
  | 28 => ("QueryLoopsModel", "itemAt", "[I", true)
  | 29 => ("QueryLoopsModel", "left", "[Z", true)
  | 30 => ("QueryLoopsModel", "from", "[I", true)
  | 31 => ("QueryLoopsModel", "to", "[I", true)
  | 32 => ("QueryLoopsModel", "whereFrom", "I", false)
  | 33 => ("QueryLoopsModel", "whereTo", "I", false)
  | 34 => ("QueryLoopsModel", "groups", "I", false)
  | 35 => ("QueryLoopsModel", "groupAt", "[I", true)
  | 36 => ("QueryLoopsModel", "parts", "I", false)
  | 37 => ("QueryLoopsModel", "partFrom", "[I", true)
  | 38 => ("QueryLoopsModel", "partTo", "[I", true)
  | 39 => ("QueryLoopsModel", "partItem", "[I", true)
  | 40 => ("QueryLoopsModel", "gathers", "Z", false)
  | 41 => ("QueryLoopsModel", "some", "[I", true)
  | 42 => ("QueryLoopsModel", "all", "[I", true)
  | 43 => ("QueryLoopsModel", "turns", "[I", true)
  | 44 => ("QueryLoopsModel", "operandBlank", "Z", false)
  | 45 => ("QueryLoopsModel", "operand", "I", false)
  | 46 => ("QueryLoopsModel", "now", "[I", true)
  | 47 => ("QueryLoopsModel", "looked", "I", false)
  | 48 => ("QueryLoopsModel", "stopped", "Z", false)
  | 49 => ("QueryLoopsModel", "rows", "I", false)
  | 50 => ("QueryLoopsModel", "isBlank", "[Z", true)
  | 51 => ("QueryLoopsModel", "result", "[J", true)
  | 52 => ("QueryLoopsModel", "keyBlank", "[Z", true)
  | 53 => ("QueryLoopsModel", "key", "[I", true)
  | _ => ("QueryLoopsModel", "truth", "I", false)
def tyX12 : Nat → FieldType := fun k => match k with
  | 0 => .array .int
  | 1 => .int
  | 2 => .array .int
  | 3 => .array .int
  | 4 => .array .int
  | 5 => .array .boolean
  | 6 => .int
  | 7 => .array .int
  | 8 => .array .boolean
  | 9 => .int
  | 10 => .array .char
  | 11 => .int
  | 12 => .boolean
  | 13 => .int
  | 14 => .int
  | 15 => .int
  | 16 => .int
  | 17 => .array .int
  | 18 => .array .int
  | 19 => .array .int
  | 20 => .int
  | 21 => .array .int
  | 22 => .boolean
  | 23 => .int
  | 24 => .array .int
  | 25 => .array .int
  | 26 => .int
  | 27 => .array .int
  | 28 => .array .int
  | 29 => .array .boolean
  | 30 => .array .int
  | 31 => .array .int
  | 32 => .int
  | 33 => .int
  | 34 => .int
  | 35 => .array .int
  | 36 => .int
  | 37 => .array .int
  | 38 => .array .int
  | 39 => .array .int
  | 40 => .boolean
  | 41 => .array .int
  | 42 => .array .int
  | 43 => .array .int
  | 44 => .boolean
  | 45 => .int
  | 46 => .array .int
  | 47 => .int
  | 48 => .boolean
  | 49 => .int
  | 50 => .array .boolean
  | 51 => .array .long
  | 52 => .array .boolean
  | 53 => .array .int
  | _ => .int
abbrev wsX120 : List Cond := u_ws RX12 TX12 55
theorem nmX12 : ∀ a, a < 55 → ∀ b, b < 55 → a ≠ b → (TX12 a).2.1 ≠ (TX12 b).2.1 := by decide +kernel
theorem tyX12_ok : ∀ k, k < 55 → parseFieldDescriptor (TX12 k).2.2.1 = some (tyX12 k) := by decide +kernel
abbrev cX12_init : ByteArray := prog_14_method_1_code
def yX12_init : MethodName := ⟨RX12, "<init>", "()V"⟩
abbrev cX12_thrown : ByteArray := prog_14_method_2_code
def yX12_thrown : MethodName := ⟨RX12, "thrown", "()I"⟩
abbrev cX12_fail : ByteArray := prog_14_method_3_code
def yX12_fail : MethodName := ⟨RX12, "fail", "(I)I"⟩
abbrev cX12_isTable : ByteArray := prog_14_method_4_code
def yX12_isTable : MethodName := ⟨RX12, "isTable", "(I)Z"⟩
abbrev cX12_declare : ByteArray := prog_14_method_5_code
def yX12_declare : MethodName := ⟨RX12, "declare", "(II)Z"⟩
abbrev cX12_put : ByteArray := prog_14_method_6_code
def yX12_put : MethodName := ⟨RX12, "put", "(IZ)Z"⟩
abbrev cX12_value : ByteArray := prog_14_method_7_code
def yX12_value : MethodName := ⟨RX12, "value", "(I)Z"⟩
abbrev cX12_nothing : ByteArray := prog_14_method_8_code
def yX12_nothing : MethodName := ⟨RX12, "nothing", "()Z"⟩
abbrev cX12_row : ByteArray := prog_14_method_9_code
def yX12_row : MethodName := ⟨RX12, "row", "(I)I"⟩
abbrev cX12_drop : ByteArray := prog_14_method_10_code
def yX12_drop : MethodName := ⟨RX12, "drop", "(I)I"⟩
abbrev cX12_ask : ByteArray := prog_14_method_11_code
def yX12_ask : MethodName := ⟨RX12, "ask", "(C)Z"⟩
abbrev cX12_at : ByteArray := prog_14_method_12_code
def yX12_at : MethodName := ⟨RX12, "at", "(I)C"⟩
abbrev cX12_isSmall : ByteArray := prog_14_method_13_code
def yX12_isSmall : MethodName := ⟨RX12, "isSmall", "(C)Z"⟩
abbrev cX12_isDigit : ByteArray := prog_14_method_14_code
def yX12_isDigit : MethodName := ⟨RX12, "isDigit", "(C)Z"⟩
abbrev cX12_stop : ByteArray := prog_14_method_15_code
def yX12_stop : MethodName := ⟨RX12, "stop", "(I)V"⟩
abbrev cX12_readWord : ByteArray := prog_14_method_16_code
def yX12_readWord : MethodName := ⟨RX12, "readWord", "()I"⟩
abbrev cX12_readNumeral : ByteArray := prog_14_method_17_code
def yX12_readNumeral : MethodName := ⟨RX12, "readNumeral", "(I)I"⟩
abbrev cX12_look : ByteArray := prog_14_method_18_code
def yX12_look : MethodName := ⟨RX12, "look", "()I"⟩
abbrev cX12_wrong : ByteArray := prog_14_method_19_code
def yX12_wrong : MethodName := ⟨RX12, "wrong", "()V"⟩
abbrev cX12_take : ByteArray := prog_14_method_20_code
def yX12_take : MethodName := ⟨RX12, "take", "(I)Z"⟩
abbrev cX12_want : ByteArray := prog_14_method_21_code
def yX12_want : MethodName := ⟨RX12, "want", "(I)V"⟩
abbrev cX12_isIn : ByteArray := prog_14_method_22_code
def yX12_isIn : MethodName := ⟨RX12, "isIn", "(III)Z"⟩
abbrev cX12_readColumn : ByteArray := prog_14_method_23_code
def yX12_readColumn : MethodName := ⟨RX12, "readColumn", "()V"⟩
abbrev cX12_readOut : ByteArray := prog_14_method_24_code
def yX12_readOut : MethodName := ⟨RX12, "readOut", "()V"⟩
abbrev cX12_readOuts : ByteArray := prog_14_method_25_code
def yX12_readOuts : MethodName := ⟨RX12, "readOuts", "()V"⟩
abbrev cX12_readOperand : ByteArray := prog_14_method_26_code
def yX12_readOperand : MethodName := ⟨RX12, "readOperand", "()V"⟩
abbrev cX12_readComparison : ByteArray := prog_14_method_27_code
def yX12_readComparison : MethodName := ⟨RX12, "readComparison", "()V"⟩
abbrev cX12_closeNots : ByteArray := prog_14_method_28_code
def yX12_closeNots : MethodName := ⟨RX12, "closeNots", "()V"⟩
abbrev cX12_readCondition : ByteArray := prog_14_method_29_code
def yX12_readCondition : MethodName := ⟨RX12, "readCondition", "()V"⟩
abbrev cX12_readItem : ByteArray := prog_14_method_30_code
def yX12_readItem : MethodName := ⟨RX12, "readItem", "(Z)V"⟩
abbrev cX12_readGroup : ByteArray := prog_14_method_31_code
def yX12_readGroup : MethodName := ⟨RX12, "readGroup", "()V"⟩
abbrev cX12_readQuery : ByteArray := prog_14_method_32_code
def yX12_readQuery : MethodName := ⟨RX12, "readQuery", "()V"⟩
abbrev cX12_spot : ByteArray := prog_14_method_33_code
def yX12_spot : MethodName := ⟨RX12, "spot", "(I)V"⟩
abbrev cX12_itemOf : ByteArray := prog_14_method_34_code
def yX12_itemOf : MethodName := ⟨RX12, "itemOf", "(I)I"⟩
abbrev cX12_columnOf : ByteArray := prog_14_method_35_code
def yX12_columnOf : MethodName := ⟨RX12, "columnOf", "(I)I"⟩
abbrev cX12_checkColumn : ByteArray := prog_14_method_36_code
def yX12_checkColumn : MethodName := ⟨RX12, "checkColumn", "(II)V"⟩
abbrev cX12_checkRange : ByteArray := prog_14_method_37_code
def yX12_checkRange : MethodName := ⟨RX12, "checkRange", "(III)V"⟩
abbrev cX12_isGrouped : ByteArray := prog_14_method_38_code
def yX12_isGrouped : MethodName := ⟨RX12, "isGrouped", "(I)Z"⟩
abbrev cX12_checkAll : ByteArray := prog_14_method_39_code
def yX12_checkAll : MethodName := ⟨RX12, "checkAll", "()V"⟩
abbrev cX12_addPart : ByteArray := prog_14_method_40_code
def yX12_addPart : MethodName := ⟨RX12, "addPart", "(II)V"⟩
abbrev cX12_findParts : ByteArray := prog_14_method_41_code
def yX12_findParts : MethodName := ⟨RX12, "findParts", "()V"⟩
abbrev cX12_compile : ByteArray := prog_14_method_42_code
def yX12_compile : MethodName := ⟨RX12, "compile", "()I"⟩
abbrev cX12_place : ByteArray := prog_14_method_43_code
def yX12_place : MethodName := ⟨RX12, "place", "()I"⟩
abbrev cX12_takeOperand : ByteArray := prog_14_method_44_code
def yX12_takeOperand : MethodName := ⟨RX12, "takeOperand", "(I)I"⟩
abbrev cX12_fetch : ByteArray := prog_14_method_45_code
def yX12_fetch : MethodName := ⟨RX12, "fetch", "(II)V"⟩
abbrev cX12_not : ByteArray := prog_14_method_46_code
def yX12_not : MethodName := ⟨RX12, "not", "(I)I"⟩
abbrev cX12_both : ByteArray := prog_14_method_47_code
def yX12_both : MethodName := ⟨RX12, "both", "(II)I"⟩
abbrev cX12_either : ByteArray := prog_14_method_48_code
def yX12_either : MethodName := ⟨RX12, "either", "(II)I"⟩
abbrev cX12_compare : ByteArray := prog_14_method_49_code
def yX12_compare : MethodName := ⟨RX12, "compare", "(I)I"⟩
abbrev cX12_truthOf : ByteArray := prog_14_method_50_code
def yX12_truthOf : MethodName := ⟨RX12, "truthOf", "(II)I"⟩
abbrev cX12_passes : ByteArray := prog_14_method_51_code
def yX12_passes : MethodName := ⟨RX12, "passes", "(I)Z"⟩
abbrev cX12_sameKey : ByteArray := prog_14_method_52_code
def yX12_sameKey : MethodName := ⟨RX12, "sameKey", "(I)Z"⟩
abbrev cX12_newRow : ByteArray := prog_14_method_53_code
def yX12_newRow : MethodName := ⟨RX12, "newRow", "()Z"⟩
abbrev cX12_groupRow : ByteArray := prog_14_method_54_code
def yX12_groupRow : MethodName := ⟨RX12, "groupRow", "()I"⟩
abbrev cX12_gather : ByteArray := prog_14_method_55_code
def yX12_gather : MethodName := ⟨RX12, "gather", "(II)V"⟩
abbrev cX12_found : ByteArray := prog_14_method_56_code
def yX12_found : MethodName := ⟨RX12, "found", "()V"⟩
abbrev cX12_fits : ByteArray := prog_14_method_57_code
def yX12_fits : MethodName := ⟨RX12, "fits", "(I)Z"⟩
abbrev cX12_third : ByteArray := prog_14_method_58_code
def yX12_third : MethodName := ⟨RX12, "third", "()V"⟩
abbrev cX12_afterSecond : ByteArray := prog_14_method_59_code
def yX12_afterSecond : MethodName := ⟨RX12, "afterSecond", "()V"⟩
abbrev cX12_second : ByteArray := prog_14_method_60_code
def yX12_second : MethodName := ⟨RX12, "second", "()V"⟩
abbrev cX12_first : ByteArray := prog_14_method_61_code
def yX12_first : MethodName := ⟨RX12, "first", "()V"⟩
abbrev cX12_run : ByteArray := prog_14_method_62_code
def yX12_run : MethodName := ⟨RX12, "run", "()I"⟩
abbrev cX12_looked : ByteArray := prog_14_method_63_code
def yX12_looked : MethodName := ⟨RX12, "looked", "()I"⟩
abbrev cX12_rows : ByteArray := prog_14_method_64_code
def yX12_rows : MethodName := ⟨RX12, "rows", "()I"⟩
abbrev cX12_isThere : ByteArray := prog_14_method_65_code
def yX12_isThere : MethodName := ⟨RX12, "isThere", "(II)Z"⟩
abbrev cX12_isNull : ByteArray := prog_14_method_66_code
def yX12_isNull : MethodName := ⟨RX12, "isNull", "(II)Z"⟩
abbrev cX12_result : ByteArray := prog_14_method_67_code
def yX12_result : MethodName := ⟨RX12, "result", "(II)J"⟩
def RJ11 : String := "java/lang/Character"
def TJ11 : u_T := fun k => match k with
  | _ => ("", "", "", false)
def tyJ11 : Nat → FieldType := fun k => match k with
  | _ => .int
abbrev wsJ110 : List Cond := u_ws RJ11 TJ11 0
theorem nmJ11 : ∀ a, a < 0 → ∀ b, b < 0 → a ≠ b → (TJ11 a).2.1 ≠ (TJ11 b).2.1 := by decide +kernel
theorem tyJ11_ok : ∀ k, k < 0 → parseFieldDescriptor (TJ11 k).2.2.1 = some (tyJ11 k) := by decide +kernel
abbrev cJ11_isValidCodePoint_9a6ad : ByteArray := prog_15_method_11_code
def yJ11_isValidCodePoint_9a6ad : MethodName := ⟨RJ11, "isValidCodePoint", "(I)Z"⟩
abbrev cJ11_highSurrogate_5068e : ByteArray := prog_15_method_28_code
def yJ11_highSurrogate_5068e : MethodName := ⟨RJ11, "highSurrogate", "(I)C"⟩
abbrev cJ11_lowSurrogate_5068e : ByteArray := prog_15_method_29_code
def yJ11_lowSurrogate_5068e : MethodName := ⟨RJ11, "lowSurrogate", "(I)C"⟩
def RJ6 : String := "java/lang/Integer"
def TJ6 : u_T := fun k => match k with
  | _ => ("", "", "", false)
def tyJ6 : Nat → FieldType := fun k => match k with
  | _ => .int
abbrev wsJ60 : List Cond := u_ws RJ6 TJ6 0
theorem nmJ6 : ∀ a, a < 0 → ∀ b, b < 0 → a ≠ b → (TJ6 a).2.1 ≠ (TJ6 b).2.1 := by decide +kernel
theorem tyJ6_ok : ∀ k, k < 0 → parseFieldDescriptor (TJ6 k).2.2.1 = some (tyJ6 k) := by decide +kernel
abbrev cJ6_compare_7cf53 : ByteArray := prog_19_method_40_code
def yJ6_compare_7cf53 : MethodName := ⟨RJ6, "compare", "(II)I"⟩
def RJ9 : String := "java/lang/Math"
def TJ9 : u_T := fun k => match k with
  | _ => ("", "", "", false)
def tyJ9 : Nat → FieldType := fun k => match k with
  | _ => .int
abbrev wsJ90 : List Cond := u_ws RJ9 TJ9 0
theorem nmJ9 : ∀ a, a < 0 → ∀ b, b < 0 → a ≠ b → (TJ9 a).2.1 ≠ (TJ9 b).2.1 := by decide +kernel
theorem tyJ9_ok : ∀ k, k < 0 → parseFieldDescriptor (TJ9 k).2.2.1 = some (tyJ9 k) := by decide +kernel
abbrev cJ9_max_7cf53 : ByteArray := prog_20_method_65_code
def yJ9_max_7cf53 : MethodName := ⟨RJ9, "max", "(II)I"⟩
abbrev cJ9_max_f86c9 : ByteArray := prog_20_method_66_code
def yJ9_max_f86c9 : MethodName := ⟨RJ9, "max", "(JJ)J"⟩
abbrev cJ9_min_7cf53 : ByteArray := prog_20_method_69_code
def yJ9_min_7cf53 : MethodName := ⟨RJ9, "min", "(II)I"⟩
abbrev cJ9_min_f86c9 : ByteArray := prog_20_method_70_code
def yJ9_min_f86c9 : MethodName := ⟨RJ9, "min", "(JJ)J"⟩
def RJ0 : String := "java/lang/String"
def TJ0 : u_T := fun k => match k with
  | _ => ("", "", "", false)
def tyJ0 : Nat → FieldType := fun k => match k with
  | _ => .int
abbrev wsJ00 : List Cond := u_ws RJ0 TJ0 0
theorem nmJ0 : ∀ a, a < 0 → ∀ b, b < 0 → a ≠ b → (TJ0 a).2.1 ≠ (TJ0 b).2.1 := by decide +kernel
theorem tyJ0_ok : ∀ k, k < 0 → parseFieldDescriptor (TJ0 k).2.2.1 = some (tyJ0 k) := by decide +kernel
abbrev cJ0_length_8abf5 : ByteArray := prog_22_method_54_code
def yJ0_length_8abf5 : MethodName := ⟨RJ0, "length", "()I"⟩
abbrev cJ0_charAt_5068e : ByteArray := prog_22_method_56_code
def yJ0_charAt_5068e : MethodName := ⟨RJ0, "charAt", "(I)C"⟩
abbrev cJ0_indexOf_0f7a4 : ByteArray := prog_22_method_79_code
def yJ0_indexOf_0f7a4 : MethodName := ⟨RJ0, "indexOf", "(I)I"⟩
abbrev cJ0_indexOf_7cf53 : ByteArray := prog_22_method_80_code
def yJ0_indexOf_7cf53 : MethodName := ⟨RJ0, "indexOf", "(II)I"⟩
abbrev cJ0_coder_7d493 : ByteArray := prog_22_method_152_code
def yJ0_coder_7d493 : MethodName := ⟨RJ0, "coder", "()B"⟩
abbrev cJ0_isLatin1_aae02 : ByteArray := prog_22_method_154_code
def yJ0_isLatin1_aae02 : MethodName := ⟨RJ0, "isLatin1", "()Z"⟩
abbrev cJ0_checkIndex_df160 : ByteArray := prog_22_method_155_code
def yJ0_checkIndex_df160 : MethodName := ⟨RJ0, "checkIndex", "(II)V"⟩
abbrev cJ0_checkBoundsBeginEnd_23922 : ByteArray := prog_22_method_158_code
def yJ0_checkBoundsBeginEnd_23922 : MethodName := ⟨RJ0, "checkBoundsBeginEnd", "(III)V"⟩
def RJ1 : String := "java/lang/StringLatin1"
def TJ1 : u_T := fun k => match k with
  | _ => ("", "", "", false)
def tyJ1 : Nat → FieldType := fun k => match k with
  | _ => .int
abbrev wsJ10 : List Cond := u_ws RJ1 TJ1 0
theorem nmJ1 : ∀ a, a < 0 → ∀ b, b < 0 → a ≠ b → (TJ1 a).2.1 ≠ (TJ1 b).2.1 := by decide +kernel
theorem tyJ1_ok : ∀ k, k < 0 → parseFieldDescriptor (TJ1 k).2.2.1 = some (tyJ1 k) := by decide +kernel
abbrev cJ1_charAt_3b067 : ByteArray := prog_23_method_2_code
def yJ1_charAt_3b067 : MethodName := ⟨RJ1, "charAt", "([BI)C"⟩
abbrev cJ1_canEncode_9a6ad : ByteArray := prog_23_method_4_code
def yJ1_canEncode_9a6ad : MethodName := ⟨RJ1, "canEncode", "(I)Z"⟩
abbrev cJ1_indexOf_4cfef : ByteArray := prog_23_method_22_code
def yJ1_indexOf_4cfef : MethodName := ⟨RJ1, "indexOf", "([BIII)I"⟩
abbrev cJ1_indexOfChar_4cfef : ByteArray := prog_23_method_23_code
def yJ1_indexOfChar_4cfef : MethodName := ⟨RJ1, "indexOfChar", "([BIII)I"⟩
def RJ2 : String := "java/lang/StringUTF16"
def TJ2 : u_T := fun k => match k with
  | _ => ("", "", "", false)
def tyJ2 : Nat → FieldType := fun k => match k with
  | _ => .int
abbrev wsJ20 : List Cond := u_ws RJ2 TJ2 0
theorem nmJ2 : ∀ a, a < 0 → ∀ b, b < 0 → a ≠ b → (TJ2 a).2.1 ≠ (TJ2 b).2.1 := by decide +kernel
theorem tyJ2_ok : ∀ k, k < 0 → parseFieldDescriptor (TJ2 k).2.2.1 = some (tyJ2 k) := by decide +kernel
abbrev cJ2_getChar_3b067 : ByteArray := prog_24_method_5_code
def yJ2_getChar_3b067 : MethodName := ⟨RJ2, "getChar", "([BI)C"⟩
abbrev cJ2_length_9d52b : ByteArray := prog_24_method_6_code
def yJ2_length_9d52b : MethodName := ⟨RJ2, "length", "([B)I"⟩
abbrev cJ2_indexOf_4cfef : ByteArray := prog_24_method_40_code
def yJ2_indexOf_4cfef : MethodName := ⟨RJ2, "indexOf", "([BIII)I"⟩
abbrev cJ2_indexOfChar_4cfef : ByteArray := prog_24_method_47_code
def yJ2_indexOfChar_4cfef : MethodName := ⟨RJ2, "indexOfChar", "([BIII)I"⟩
abbrev cJ2_indexOfCharUnsafe_4cfef : ByteArray := prog_24_method_48_code
def yJ2_indexOfCharUnsafe_4cfef : MethodName := ⟨RJ2, "indexOfCharUnsafe", "([BIII)I"⟩
abbrev cJ2_indexOfSupplementary_4cfef : ByteArray := prog_24_method_49_code
def yJ2_indexOfSupplementary_4cfef : MethodName := ⟨RJ2, "indexOfSupplementary", "([BIII)I"⟩
abbrev cJ2_charAt_3b067 : ByteArray := prog_24_method_83_code
def yJ2_charAt_3b067 : MethodName := ⟨RJ2, "charAt", "([BI)C"⟩
abbrev cJ2_checkIndex_2214a : ByteArray := prog_24_method_91_code
def yJ2_checkIndex_2214a : MethodName := ⟨RJ2, "checkIndex", "(I[B)V"⟩
abbrev cJ2_checkBoundsBeginEnd_d044e : ByteArray := prog_24_method_93_code
def yJ2_checkBoundsBeginEnd_d044e : MethodName := ⟨RJ2, "checkBoundsBeginEnd", "(II[B)V"⟩
def RJ3 : String := "jdk/internal/util/Preconditions"
def TJ3 : u_T := fun k => match k with
  | _ => ("", "", "", false)
def tyJ3 : Nat → FieldType := fun k => match k with
  | _ => .int
abbrev wsJ30 : List Cond := u_ws RJ3 TJ3 0
theorem nmJ3 : ∀ a, a < 0 → ∀ b, b < 0 → a ≠ b → (TJ3 a).2.1 ≠ (TJ3 b).2.1 := by decide +kernel
theorem tyJ3_ok : ∀ k, k < 0 → parseFieldDescriptor (TJ3 k).2.2.1 = some (tyJ3 k) := by decide +kernel
abbrev cJ3_checkIndex_8e157 : ByteArray := prog_27_method_11_code
def yJ3_checkIndex_8e157 : MethodName := ⟨RJ3, "checkIndex", "(IILjava/util/function/BiFunction;)I"⟩
abbrev cJ3_checkFromToIndex_8c36e : ByteArray := prog_27_method_12_code
def yJ3_checkFromToIndex_8c36e : MethodName := ⟨RJ3, "checkFromToIndex", "(IIILjava/util/function/BiFunction;)I"⟩
def RL : String := "QueryLoopsLaw"
abbrev cL_row : ByteArray := method_3_code
def yL_row : MethodName := ⟨RL, "row", "(LQueryLoops;I[J)I"⟩
abbrev cL_compile : ByteArray := method_4_code
def yL_compile : MethodName := ⟨RL, "compile", "(LQueryLoops;[J)I"⟩
abbrev cL_run : ByteArray := method_5_code
def yL_run : MethodName := ⟨RL, "run", "(LQueryLoops;[J)I"⟩
abbrev cL_law : ByteArray := code
def yL_law : MethodName := ⟨RL, "law", "([I)Z"⟩
abbrev vwCl : List vw_C := [(RX0, TX0, 4), (RX1, TX1, 4), (RX2, TX2, 9), (RX3, TX3, 8), (RX4, TX4, 5), (RX5, TX5, 13), (RX6, TX6, 11), (RX7, TX7, 4), (RX8, TX8, 2), (RX9, TX9, 5), (RX10, TX10, 3), (RX11, TX11, 11), (RX12, TX12, 55)]
end
section
/-! a small machine over whole numbers: what a method's bytecode does to a world of known shape -/
/-- an int, a long, a reference (the number of a thing) -/
abbrev q_V : Type := Int ⊕ Int ⊕ Nat
/-- an array (its type, its length), or an object (its kind, its references: number + 1) -/
abbrev q_S : Type := (Nat × Nat) ⊕ (Nat × List Nat)
abbrev q_G : Type := List q_S
abbrev q_M : Type := Nat → Nat → Int
abbrev q_L : Type := List (Option q_V)
abbrev q_I : Type := List (Nat × Instr × Nat)
abbrev q_O : Type := Nat → List q_V → q_G → q_M → Option (Option q_V × q_G × q_M)
abbrev q_T : Type := q_L × List q_V × q_G × q_M × Nat × Nat
abbrev q_vI (x : Int) : q_V := Sum.inl x
abbrev q_vL (x : Int) : q_V := Sum.inr (Sum.inl x)
abbrev q_vR (k : Nat) : q_V := Sum.inr (Sum.inr k)
def q_w (x : Int) : Int := Int.bmod x 4294967296
def q_w6 (x : Int) : Int := Int.bmod x 18446744073709551616
def q_r (x : Int) : Prop := -2147483648 ≤ x ∧ x < 2147483648
def q_r6 (x : Int) : Prop := -9223372036854775808 ≤ x ∧ x < 9223372036854775808
def q_up (M : q_M) (k j : Nat) (v : Int) : q_M := fun a b => if a = k then (if b = j then v else M a b) else M a b
def q_zr (M : q_M) (k : Nat) : q_M := fun a b => if a = k then 0 else M a b
/-- the tables of the program: by class (its constant pool) and index -/
abbrev q_P : Type := (Nat → Nat → Option (Nat × Nat)) × (Nat → Nat → Option (Nat × Nat × Nat)) × (Nat → Nat → Option Nat) × (Nat → Nat → Option q_V) × (Nat → Nat → Nat) × (Nat → Nat × Nat × Nat) × (Nat → Nat) × List (List Int) × (Nat → Nat) × List Int
/-- a field: kind and slot -/
abbrev q_fl (P : q_P) : Nat → Nat → Option (Nat × Nat) := P.1
/-- a call: how, how many arguments (this among them), which method -/
abbrev q_mk (P : q_P) : Nat → Nat → Option (Nat × Nat × Nat) := P.2.1
/-- the kind that 'new' makes -/
abbrev q_cn (P : q_P) : Nat → Nat → Option Nat := P.2.2.1
/-- a constant -/
abbrev q_ld (P : q_P) : Nat → Nat → Option q_V := P.2.2.2.1
/-- a field's type: 0 int, 1 boolean, 4 reference -/
abbrev q_ft (P : q_P) : Nat → Nat → Nat := P.2.2.2.2.1
/-- a method's kind of receiver, what cells and slots it may make -/
abbrev q_mm (P : q_P) : Nat → Nat × Nat × Nat := P.2.2.2.2.2.1
/-- how many fields a kind has -/
abbrev q_nf (P : q_P) : Nat → Nat := P.2.2.2.2.2.2.1
/-- the bytes of the String constants -/
abbrev q_sb (P : q_P) : List (List Int) := P.2.2.2.2.2.2.2.1
/-- what a method answers: 0 nothing, 1 an int, 2 a long, 3 a reference -/
abbrev q_rk (P : q_P) : Nat → Nat := P.2.2.2.2.2.2.2.2.1
/-- the script, thing 3000 -/
abbrev q_sc (P : q_P) : List Int := P.2.2.2.2.2.2.2.2.2
def q_cat (v : q_V) : Nat := match v with
  | .inr (.inl _) => 2
  | _ => 1
def q_nl (l : q_L) (k : Nat) : Bool := match k with
  | 0 => true
  | k + 1 => match l.getD k none with
    | some (.inr (.inl _)) => false
    | _ => true
def q_sto (l : q_L) (k : Nat) (v : q_V) : Option q_L := if k < l.length ∧ q_nl l k = true then some (l.set k (some v)) else none
def q_sto2 (l : q_L) (k : Nat) (v : q_V) : Option q_L := if k + 1 < l.length ∧ q_nl l k = true then some ((l.set k (some v)).set (k + 1) none) else none
def q_at (a : ArrayType) : Nat := match a with
  | .int => 0
  | .boolean => 1
  | .char => 2
  | .long => 3
  | _ => 9
/-- one instruction that goes on to the next one -/
def q_ldI (l : q_L) (k : Nat) (st : List q_V) (G : q_G) (M : q_M) (ca sa : Nat) : Option q_T := match l.getD k none with
  | some (.inl x) => some (l, .inl x :: st, G, M, ca, sa)
  | _ => none
def q_ldL (l : q_L) (k : Nat) (st : List q_V) (G : q_G) (M : q_M) (ca sa : Nat) : Option q_T := match l.getD k none with
  | some (.inr (.inl x)) => some (l, .inr (.inl x) :: st, G, M, ca, sa)
  | _ => none
def q_ldR (l : q_L) (k : Nat) (st : List q_V) (G : q_G) (M : q_M) (ca sa : Nat) : Option q_T := match l.getD k none with
  | some (.inr (.inr x)) => some (l, .inr (.inr x) :: st, G, M, ca, sa)
  | _ => none
def q_stI (l : q_L) (k : Nat) (st : List q_V) (G : q_G) (M : q_M) (ca sa : Nat) : Option q_T := match st with
  | .inl x :: r => match q_sto l k (.inl x) with
    | some l' => some (l', r, G, M, ca, sa)
    | none => none
  | _ => none
def q_stL (l : q_L) (k : Nat) (st : List q_V) (G : q_G) (M : q_M) (ca sa : Nat) : Option q_T := match st with
  | .inr (.inl x) :: r => match q_sto2 l k (.inr (.inl x)) with
    | some l' => some (l', r, G, M, ca, sa)
    | none => none
  | _ => none
def q_stR (l : q_L) (k : Nat) (st : List q_V) (G : q_G) (M : q_M) (ca sa : Nat) : Option q_T := match st with
  | .inr (.inr x) :: r => match q_sto l k (.inr (.inr x)) with
    | some l' => some (l', r, G, M, ca, sa)
    | none => none
  | _ => none
def q_get (P : q_P) (co idx : Nat) (l : q_L) (st : List q_V) (G : q_G) (M : q_M) (ca sa : Nat) : Option q_T := match q_fl P co idx, st with
  | some (ci, j), .inr (.inr a) :: r =>
    if ci = 100 then (if 1000 ≤ a ∧ a < 1000 + (q_sb P).length then (if j = 0 then some (l, .inr (.inr (a + 1000)) :: r, G, M, ca, sa) else some (l, .inl 0 :: r, G, M, ca, sa)) else none)
    else match G[a]? with
      | some (.inr (cj, rs)) => if cj = ci then (if q_ft P ci j = 4 then (match rs[j]? with
          | some (k + 1) => some (l, .inr (.inr k) :: r, G, M, ca, sa)
          | _ => none) else some (l, .inl (M a j) :: r, G, M, ca, sa)) else none
      | _ => none
  | _, _ => none
def q_put (P : q_P) (ini : Bool) (co idx : Nat) (l : q_L) (st : List q_V) (G : q_G) (M : q_M) (ca sa : Nat) : Option q_T := match q_fl P co idx, st with
  | some (ci, j), .inl x :: .inr (.inr a) :: r => match G[a]? with
      | some (.inr (cj, _)) => if cj = ci then (if q_ft P ci j = 0 then some (l, r, G, q_up M a j x, ca, sa) else if q_ft P ci j = 1 then (if x = 0 ∨ x = 1 then some (l, r, G, q_up M a j x, ca, sa) else none) else none) else none
      | _ => none
  | some (ci, j), .inr (.inr k) :: .inr (.inr a) :: r => match G[a]? with
      | some (.inr (cj, rs)) => if cj = ci ∧ ini = true ∧ ci = co ∧ q_ft P ci j = 4 ∧ k < G.length then some (l, r, G.set a (.inr (ci, rs.set j (k + 1))), M, ca, sa) else none
      | _ => none
  | _, _ => none
def q_ald (t : Nat) (l : q_L) (st : List q_V) (G : q_G) (M : q_M) (ca sa : Nat) : Option q_T := match st with
  | .inl i :: .inr (.inr a) :: r => match G[a]? with
    | some (.inl (t', n)) => if t' = t then (if 0 ≤ i ∧ i < (n : Int) then some (l, .inl (M a i.toNat) :: r, G, M, ca, sa) else none) else none
    | _ => none
  | _ => none
def q_bald (P : q_P) (l : q_L) (st : List q_V) (G : q_G) (M : q_M) (ca sa : Nat) : Option q_T := match st with
  | .inl i :: .inr (.inr a) :: r => if 2000 ≤ a then (match (q_sb P)[a - 2000]? with
      | some bs => if 0 ≤ i ∧ i < (bs.length : Int) then some (l, .inl (bs.getD i.toNat 0) :: r, G, M, ca, sa) else none
      | none => none) else q_ald 1 l st G M ca sa
  | _ => none
def q_iald (P : q_P) (l : q_L) (st : List q_V) (G : q_G) (M : q_M) (ca sa : Nat) : Option q_T := match st with
  | .inl i :: .inr (.inr a) :: r => if a = 3000 then (if 0 ≤ i ∧ i < ((q_sc P).length : Int) then some (l, .inl ((q_sc P).getD i.toNat 0) :: r, G, M, ca, sa) else none) else q_ald 0 l st G M ca sa
  | _ => none
def q_lald (l : q_L) (st : List q_V) (G : q_G) (M : q_M) (ca sa : Nat) : Option q_T := match st with
  | .inl i :: .inr (.inr a) :: r => match G[a]? with
    | some (.inl (t', n)) => if t' = 3 then (if 0 ≤ i ∧ i < (n : Int) then some (l, .inr (.inl (M a i.toNat)) :: r, G, M, ca, sa) else none) else none
    | _ => none
  | _ => none
def q_ast (t : Nat) (l : q_L) (st : List q_V) (G : q_G) (M : q_M) (ca sa : Nat) : Option q_T := match st with
  | .inl x :: .inl i :: .inr (.inr a) :: r => match G[a]? with
    | some (.inl (t', n)) => if t' = t then (if 0 ≤ i ∧ i < (n : Int) then (if t = 0 ∨ (t = 1 ∧ (x = 0 ∨ x = 1)) ∨ (t = 2 ∧ 0 ≤ x ∧ x < 65536) then some (l, r, G, q_up M a i.toNat x, ca, sa) else none) else none) else none
    | _ => none
  | _ => none
def q_last (l : q_L) (st : List q_V) (G : q_G) (M : q_M) (ca sa : Nat) : Option q_T := match st with
  | .inr (.inl x) :: .inl i :: .inr (.inr a) :: r => match G[a]? with
    | some (.inl (t', n)) => if t' = 3 then (if 0 ≤ i ∧ i < (n : Int) then some (l, r, G, q_up M a i.toNat x, ca, sa) else none) else none
    | _ => none
  | _ => none
def q_len (P : q_P) (l : q_L) (st : List q_V) (G : q_G) (M : q_M) (ca sa : Nat) : Option q_T := match st with
  | .inr (.inr a) :: r => if a = 3000 then some (l, .inl ((q_sc P).length : Int) :: r, G, M, ca, sa) else if 2000 ≤ a then (match (q_sb P)[a - 2000]? with
      | some bs => some (l, .inl (bs.length : Int) :: r, G, M, ca, sa)
      | none => none) else match G[a]? with
      | some (.inl (_, n)) => some (l, .inl (n : Int) :: r, G, M, ca, sa)
      | _ => none
  | _ => none
def q_newa (kc ks : Nat) (at' : ArrayType) (l : q_L) (st : List q_V) (G : q_G) (M : q_M) (ca sa : Nat) : Option q_T := match st with
  | .inl x :: r => if 0 ≤ x ∧ x ≤ 1000 ∧ q_at at' ≤ 3 ∧ ca + 1 ≤ kc ∧ sa + x.toNat ≤ ks ∧ G.length < 900 then some (l, .inr (.inr G.length) :: r, G ++ [.inl (q_at at', x.toNat)], q_zr M G.length, ca + 1, sa + x.toNat) else none
  | _ => none
def q_new (P : q_P) (kc ks co idx : Nat) (l : q_L) (st : List q_V) (G : q_G) (M : q_M) (ca sa : Nat) : Option q_T := match q_cn P co idx with
  | some ci => if ca + 1 ≤ kc ∧ sa + q_nf P ci ≤ ks ∧ G.length < 900 then some (l, .inr (.inr G.length) :: st, G ++ [.inr (ci, List.replicate (q_nf P ci) 0)], q_zr M G.length, ca + 1, sa + q_nf P ci) else none
  | none => none
/-- the receiver is of the kind that the method wants -/
def q_rc (P : q_P) (G : q_G) (c : Nat) (as : List q_V) : Bool := match as with
  | .inr (.inr a) :: _ => if c = 100 then decide (1000 ≤ a ∧ a < 1000 + (q_sb P).length) else match G[a]? with
    | some (.inr (cj, _)) => decide (cj = c)
    | _ => false
  | _ => false
/-- ways of a call: 0 virtual, 1 static, 2 a constructor, 3 static in the nest, 4 a constructor in the nest, 5 static with a table of its own, 9 Object's constructor -/
def q_call (orc : q_O) (P : q_P) (kc ks : Nat) (ws : List Nat) (co idx : Nat) (l : q_L) (st : List q_V) (G : q_G) (M : q_M) (ca sa : Nat) : Option q_T := match q_mk P co idx with
  | some (w, na, mid) =>
    if w ∈ ws ∧ na ≤ st.length ∧ ((st.drop na).map q_cat).sum ≤ 8 then
      (if w = 9 then (match st with
        | .inr (.inr _) :: r => some (l, r, G, M, ca, sa)
        | _ => none)
      else if (w = 1 ∨ w = 3 ∨ w = 5 ∨ q_rc P G (q_mm P mid).1 (st.take na).reverse = true) ∧ ca + (q_mm P mid).2.1 ≤ kc ∧ sa + (q_mm P mid).2.2 ≤ ks then (match orc mid (st.take na).reverse G M with
        | some (r, G', M') => some (l, r.toList ++ st.drop na, G', M', ca + (q_mm P mid).2.1, sa + (q_mm P mid).2.2)
        | none => none) else none)
    else none
  | none => none
def q_push (b : Bool) (v : q_V) (l : q_L) (st : List q_V) (G : q_G) (M : q_M) (ca sa : Nat) : Option q_T := if b = true then some (l, v :: st, G, M, ca, sa) else none
def q_ii (f : Int → Int → Option Int) (l : q_L) (st : List q_V) (G : q_G) (M : q_M) (ca sa : Nat) : Option q_T := match st with
  | .inl y :: .inl x :: r => match f x y with
    | some z => some (l, .inl z :: r, G, M, ca, sa)
    | none => none
  | _ => none
def q_stp (orc : q_O) (P : q_P) (ini : Bool) (kc ks co : Nat) (ins : Instr) (l : q_L) (st : List q_V) (G : q_G) (M : q_M) (ca sa : Nat) : Option q_T :=
  match ins with
  | .iload_n k => q_ldI l k.val st G M ca sa
  | .iload k => q_ldI l k st G M ca sa
  | .lload_n k => q_ldL l k.val st G M ca sa
  | .lload k => q_ldL l k st G M ca sa
  | .aload_n k => q_ldR l k.val st G M ca sa
  | .aload k => q_ldR l k st G M ca sa
  | .istore_n k => q_stI l k.val st G M ca sa
  | .istore k => q_stI l k st G M ca sa
  | .lstore_n k => q_stL l k.val st G M ca sa
  | .lstore k => q_stL l k st G M ca sa
  | .astore_n k => q_stR l k.val st G M ca sa
  | .astore k => q_stR l k st G M ca sa
  | .iinc k c => match l.getD k none with
    | some (.inl x) => match q_sto l k (.inl (q_w (x + c))) with
      | some l' => some (l', st, G, M, ca, sa)
      | none => none
    | _ => none
  | .iconst n => q_push (decide (-1 ≤ n ∧ n ≤ 5)) (.inl n) l st G M ca sa
  | .bipush n => q_push (decide (-128 ≤ n ∧ n < 128)) (.inl n) l st G M ca sa
  | .sipush n => q_push (decide (-32768 ≤ n ∧ n < 32768)) (.inl n) l st G M ca sa
  | .lconst n => q_push true (.inr (.inl (n.val : Int))) l st G M ca sa
  | .ldc idx => match q_ld P co idx with
    | some v => some (l, v :: st, G, M, ca, sa)
    | none => none
  | .getstatic idx => match q_fl P co idx with
    | some (101, _) => some (l, .inl 1 :: st, G, M, ca, sa)
    | _ => none
  | .iadd => q_ii (fun x y => some (q_w (x + y))) l st G M ca sa
  | .isub => q_ii (fun x y => some (q_w (x - y))) l st G M ca sa
  | .imul => q_ii (fun x y => some (q_w (x * y))) l st G M ca sa
  | .irem => q_ii (fun x y => if y = 2 ∧ 0 ≤ x then some (x % 2) else none) l st G M ca sa
  | .iand => q_ii (fun x y => if y = 15 then some (x % 16) else if y = 255 then some (x % 256) else none) l st G M ca sa
  | .ishr => q_ii (fun x y => if y = 0 then some x else none) l st G M ca sa
  | .ineg => match st with
    | .inl x :: r => some (l, .inl (q_w (-x)) :: r, G, M, ca, sa)
    | _ => none
  | .i2c => match st with
    | .inl x :: r => some (l, .inl (x % 65536) :: r, G, M, ca, sa)
    | _ => none
  | .i2b => match st with
    | .inl x :: r => if -128 ≤ x ∧ x < 128 then some (l, .inl x :: r, G, M, ca, sa) else none
    | _ => none
  | .i2l => match st with
    | .inl x :: r => some (l, .inr (.inl x) :: r, G, M, ca, sa)
    | _ => none
  | .ladd => match st with
    | .inr (.inl y) :: .inr (.inl x) :: r => some (l, .inr (.inl (q_w6 (x + y))) :: r, G, M, ca, sa)
    | _ => none
  | .lcmp => match st with
    | .inr (.inl y) :: .inr (.inl x) :: r => some (l, .inl (if x < y then -1 else if y < x then 1 else 0) :: r, G, M, ca, sa)
    | _ => none
  | .dup => match st with
    | v :: r => if q_cat v = 1 then some (l, v :: v :: r, G, M, ca, sa) else none
    | _ => none
  | .pop => match st with
    | v :: r => if q_cat v = 1 then some (l, r, G, M, ca, sa) else none
    | _ => none
  | .dup2 => match st with
    | v :: w :: r => if q_cat v = 1 ∧ q_cat w = 1 then some (l, v :: w :: v :: w :: r, G, M, ca, sa) else none
    | _ => none
  | .getfield idx => q_get P co idx l st G M ca sa
  | .putfield idx => q_put P ini co idx l st G M ca sa
  | .iaload => q_iald P l st G M ca sa
  | .baload => q_bald P l st G M ca sa
  | .caload => q_ald 2 l st G M ca sa
  | .laload => q_lald l st G M ca sa
  | .iastore => q_ast 0 l st G M ca sa
  | .bastore => q_ast 1 l st G M ca sa
  | .castore => q_ast 2 l st G M ca sa
  | .lastore => q_last l st G M ca sa
  | .arraylength => q_len P l st G M ca sa
  | .newarray a => q_newa kc ks a l st G M ca sa
  | .new idx => q_new P kc ks co idx l st G M ca sa
  | .invokespecial idx => q_call orc P kc ks [2, 4, 9] co idx l st G M ca sa
  | _ => none
/-- a road forks -/
def q_br {α : Type} (c : ClassFile.Cond) (x y : Int) (a b : α) : α := match c with
  | .eq => if x = y then a else b
  | .ne => if x = y then b else a
  | .lt => if x < y then a else b
  | .ge => if x < y then b else a
  | .gt => if y < x then a else b
  | .le => if y < x then b else a
def q_seek (t : Int) : q_I → q_I
  | [] => []
  | q :: l => if (q.1 : Int) = t then q :: l else q_seek t l
/-- what a callee answered, the shapes being the same -/
def q_c0 {α : Type} (r : Option (Option q_V × q_G × q_M)) (G : q_G) (k : q_M → Option α) : Option α := match r with
  | some (none, G', M') => if G' = G then k M' else none
  | _ => none
def q_cI {α : Type} (r : Option (Option q_V × q_G × q_M)) (G : q_G) (k : Int → q_M → Option α) : Option α := match r with
  | some (some (.inl x), G', M') => if G' = G then k x M' else none
  | _ => none
def q_cL {α : Type} (r : Option (Option q_V × q_G × q_M)) (G : q_G) (k : Int → q_M → Option α) : Option α := match r with
  | some (some (.inr (.inl x)), G', M') => if G' = G then k x M' else none
  | _ => none
def q_cR {α : Type} (r : Option (Option q_V × q_G × q_M)) (G : q_G) (k : Nat → q_M → Option α) : Option α := match r with
  | some (some (.inr (.inr x)), G', M') => if G' = G then k x M' else none
  | _ => none
def q_ck {α : Type} (rk : Nat) (r : Option (Option q_V × q_G × q_M)) (G : q_G) (k : List q_V → q_M → Option α) : Option α := match rk with
  | 0 => q_c0 r G (k [])
  | 1 => q_cI r G (fun x => k [.inl x])
  | 2 => q_cL r G (fun x => k [.inr (.inl x)])
  | _ => q_cR r G (fun x => k [.inr (.inr x)])
def q_iv {α : Type} (orc : q_O) (P : q_P) (kc ks : Nat) (ws : List Nat) (co idx : Nat) (st : List q_V) (G : q_G) (M : q_M) (ca sa : Nat) (k : List q_V → q_M → Nat → Nat → Option α) : Option α := match q_mk P co idx with
  | some (w, na, mid) => if w ∈ ws ∧ w ≠ 9 ∧ na ≤ st.length ∧ ((st.drop na).map q_cat).sum ≤ 8 ∧ (w = 1 ∨ w = 3 ∨ w = 5 ∨ q_rc P G (q_mm P mid).1 (st.take na).reverse = true) then
      if ca + (q_mm P mid).2.1 ≤ kc ∧ sa + (q_mm P mid).2.2 ≤ ks then q_ck (q_rk P mid) (orc mid (st.take na).reverse G M) G (fun r M' => k (r ++ st.drop na) M' (ca + (q_mm P mid).2.1) (sa + (q_mm P mid).2.2)) else none
    else none
  | none => none
/-- from one stop to the next: pc, locals, stack, shapes, numbers, cells and slots made -/
def q_den (orc : q_O) (P : q_P) (ini : Bool) (kc ks co : Nat) (I : q_I) (sp : List Nat) : Nat → Bool → q_I → q_L → List q_V → q_G → q_M → Nat → Nat → Option (Nat × q_T)
  | 0, _, _, _, _, _, _, _, _ => none
  | n + 1, b, rm, l, st, G, M, ca, sa => match rm with
    | [] => none
    | (pc, ins, _) :: tl => if b = true ∧ pc ∈ sp then some (pc, l, st, G, M, ca, sa) else match ins with
      | .goto off => q_den orc P ini kc ks co I sp n true (q_seek ((pc : Int) + off) I) l st G M ca sa
      | .if_icmp c off => match st with
        | .inl y :: .inl x :: r => q_br c x y (q_den orc P ini kc ks co I sp n true (q_seek ((pc : Int) + off) I) l r G M ca sa) (q_den orc P ini kc ks co I sp n true tl l r G M ca sa)
        | _ => none
      | .ifCond c off => match st with
        | .inl x :: r => q_br c x 0 (q_den orc P ini kc ks co I sp n true (q_seek ((pc : Int) + off) I) l r G M ca sa) (q_den orc P ini kc ks co I sp n true tl l r G M ca sa)
        | _ => none
      | .invokevirtual idx => q_iv orc P kc ks [0] co idx st G M ca sa (fun st' M' ca' sa' => q_den orc P ini kc ks co I sp n true tl l st' G M' ca' sa')
      | .invokestatic idx => q_iv orc P kc ks [1, 3, 5] co idx st G M ca sa (fun st' M' ca' sa' => q_den orc P ini kc ks co I sp n true tl l st' G M' ca' sa')
      | ins => match q_stp orc P ini kc ks co ins l st G M ca sa with
        | some (l', st', G', M', ca', sa') => q_den orc P ini kc ks co I sp n true tl l' st' G' M' ca' sa'
        | none => none
end
section
/-! the small machine's values, locals and worlds as the big one's -/
def q_cv (ad : Nat → Nat) (v : q_V) : Value := match v with
  | .inl x => .int (Int32.ofInt x)
  | .inr (.inl x) => .long (Int64.ofInt x)
  | .inr (.inr k) => .ref (ad k)
def q_ov (n : Nat) (v : q_V) : Prop := match v with
  | .inl x => q_r x
  | .inr (.inl x) => q_r6 x
  | .inr (.inr k) => k < n ∨ 1000 ≤ k
def q_sv (P : q_P) (ad : Nat → Nat) (ci : Nat) (rs : List Nat) (f : Nat → Int) (j : Nat) : Value := if q_ft P ci j = 4 then (match rs[j]? with
  | some (k + 1) => .ref (ad k)
  | _ => .null) else .int (Int32.ofInt (f j))
def q_ca (t : Nat) (f : Nat → Int) : (Nat → Int32) ⊕ (Nat → Int64) ⊕ (Nat → UInt32) ⊕ (Nat → UInt64) ⊕ (Nat → Option Nat) := if t = 3 then .inr (.inl (fun j => Int64.ofInt (f j))) else .inl (fun j => Int32.ofInt (f j))
def q_c (P : q_P) (cT : Nat → ClassId) (ad : Nat → Nat) (sh : q_S) (f : Nat → Int) : va_E := match sh with
  | .inl (t, n) => .inl (cT t, n, q_ca t f)
  | .inr (ci, rs) => .inr (ci, (List.range (q_nf P ci)).map (q_sv P ad ci rs f))
def q_ws (P : q_P) (cT : Nat → ClassId) (ad : Nat → Nat) (G : q_G) (M : q_M) : va_W := G.mapIdx (fun k sh => (ad k, q_c P cT ad sh (M k)))
def q_oM (G : q_G) (M : q_M) : Prop := ∀ k j : Nat, q_r6 (M k j) ∧ ((∀ n : Nat, G[k]? ≠ some (Sum.inl (3, n))) → q_r (M k j))
def q_oG (P : q_P) (G : q_G) : Prop := G.length ≤ 900 ∧ (∀ (k ci : Nat) (rs : List Nat), G[k]? = some (Sum.inr (ci, rs)) → rs.length = q_nf P ci ∧ ci < 13 ∧ ∀ j r : Nat, rs[j]? = some (r + 1) → r < G.length) ∧ ∀ k t n : Nat, G[k]? = some (Sum.inl (t, n)) → t ≤ 3 ∧ n ≤ 1000
def q_adx (n : Nat) (ad ad' : Nat → Nat) : Prop := ∀ k, (k < n ∨ 1000 ≤ k) → ad' k = ad k
def q_lc (ad : Nat → Nat) (ls : Array Slot) (l : q_L) : Prop := ls.size = l.length ∧ lv_wf ls ∧ ∀ (i : Nat) (v : q_V), l[i]? = some (some v) → ls[i]? = some (Slot.val (q_cv ad v))
def q_tys (cT : Nat → ClassId) : List (ClassId × FieldType) := [(cT 0, .int), (cT 1, .boolean), (cT 2, .char), (cT 3, .long)]
theorem q_ws_get {P : q_P} {cT : Nat → ClassId} {ad : Nat → Nat} {G : q_G} {M : q_M} {k : Nat} {sh : q_S} (h : G[k]? = some sh) : (q_ws P cT ad G M)[k]? = some (ad k, q_c P cT ad sh (M k)) := by
  simp [q_ws, List.getElem?_mapIdx, h]
theorem q_ws_inv {P : q_P} {cT : Nat → ClassId} {ad : Nat → Nat} {G : q_G} {M : q_M} {k : Nat} {q : Nat × va_E} (h : (q_ws P cT ad G M)[k]? = some q) : ∃ sh, G[k]? = some sh ∧ q = (ad k, q_c P cT ad sh (M k)) := by
  simp only [q_ws, List.getElem?_mapIdx, Option.map_eq_some_iff] at h
  obtain ⟨sh, h1, h2⟩ := h
  exact ⟨sh, h1, h2.symm⟩
theorem q_ws_len {P : q_P} {cT : Nat → ClassId} {ad : Nat → Nat} {G : q_G} {M : q_M} : (q_ws P cT ad G M).length = G.length := by simp [q_ws]
theorem q_c_ext {P : q_P} {cT : Nat → ClassId} {ad ad' : Nat → Nat} {sh : q_S} {f : Nat → Int} (h : ∀ (ci : Nat) (rs : List Nat), sh = .inr (ci, rs) → ∀ j r : Nat, rs[j]? = some (r + 1) → ad' r = ad r) : q_c P cT ad' sh f = q_c P cT ad sh f := by
  match sh, h with
  | .inl (t, n), _ => rfl
  | .inr (ci, rs), h =>
    have : q_sv P ad' ci rs f = q_sv P ad ci rs f := by
      funext j
      unfold q_sv
      split
      · rcases hj : rs[j]? with _ | (_ | r)
        · rfl
        · rfl
        · show Value.ref (ad' r) = Value.ref (ad r)
          rw [h ci rs rfl j r hj]
      · rfl
    simp only [q_c, this]
/-- the same world under addresses that agree -/
theorem q_ws_ext {P : q_P} {cT : Nat → ClassId} {ad ad' : Nat → Nat} {G : q_G} {M : q_M} (hG : q_oG P G) (h : q_adx G.length ad ad') : q_ws P cT ad' G M = q_ws P cT ad G M := by
  apply List.ext_getElem?
  intro k
  simp only [q_ws, List.getElem?_mapIdx]
  rcases hk : G[k]? with _ | sh
  · rfl
  · simp only [Option.map_some, Option.some.injEq, Prod.mk.injEq]
    have hl : k < G.length := (List.getElem?_eq_some_iff.mp hk).1
    exact ⟨h k (Or.inl hl), q_c_ext (fun ci rs e j r hr => h r (Or.inl ((hG.2.1 k ci rs (e ▸ hk)).2.2 j r hr)))⟩
theorem q_adx.rf {n : Nat} {ad : Nat → Nat} : q_adx n ad ad := fun _ _ => rfl
theorem q_adx.tr {n n' : Nat} {ad ad' ad'' : Nat → Nat} (h : q_adx n ad ad') (hn : n ≤ n') (h' : q_adx n' ad' ad'') : q_adx n ad ad'' := fun k hk => (h' k (by omega)).trans (h k hk)
theorem q_cv_ext {n : Nat} {ad ad' : Nat → Nat} {v : q_V} (h : q_adx n ad ad') (hv : q_ov n v) : q_cv ad' v = q_cv ad v := by
  match v, hv with
  | .inl x, _ => rfl
  | .inr (.inl x), _ => rfl
  | .inr (.inr k), hv => show Value.ref (ad' k) = Value.ref (ad k); rw [h k hv]
theorem q_map_ext {n : Nat} {ad ad' : Nat → Nat} {st : List q_V} (h : q_adx n ad ad') (hv : ∀ v ∈ st, q_ov n v) : st.map (q_cv ad') = st.map (q_cv ad) := List.map_congr_left fun v hm => q_cv_ext h (hv v hm)
theorem q_ov_mono {n n' : Nat} {v : q_V} (h : q_ov n v) (hn : n ≤ n') : q_ov n' v := by
  match v, h with
  | .inl x, h => exact h
  | .inr (.inl x), h => exact h
  | .inr (.inr k), h => exact h.elim (fun h => Or.inl (Nat.lt_of_lt_of_le h hn)) Or.inr
/-! locals -/
def q_as (ad : Nat → Nat) (l : q_L) : List (Nat × Value) := (List.range l.length).filterMap (fun i => (l.getD i none).map (fun v => (i, q_cv ad v)))
theorem q_as_mem {ad : Nat → Nat} {l : q_L} {q : Nat × Value} : q ∈ q_as ad l ↔ ∃ (i : Nat) (v : q_V), l[i]? = some (some v) ∧ q = (i, q_cv ad v) := by
  simp only [q_as, List.mem_filterMap, List.mem_range, Option.map_eq_some_iff]
  constructor
  · rintro ⟨i, hi, v, hv, rfl⟩
    refine ⟨i, v, ?_, rfl⟩
    rw [List.getD_eq_getElem?_getD] at hv
    rw [List.getElem?_eq_getElem hi] at hv ⊢
    simp only [Option.getD_some] at hv
    rw [hv]
  · rintro ⟨i, v, hv, rfl⟩
    refine ⟨i, (List.getElem?_eq_some_iff.mp hv).1, v, ?_, rfl⟩
    rw [List.getD_eq_getElem?_getD, hv]
    rfl
theorem q_lc.has {ad : Nat → Nat} {ls : Array Slot} {l : q_L} (h : q_lc ad ls l) : lv_has ls l.length (q_as ad l) := by
  refine ⟨h.1, h.2.1, fun q hq => ?_⟩
  obtain ⟨i, v, hv, rfl⟩ := q_as_mem.mp hq
  exact h.2.2 i v hv
theorem q_lc.ext {n : Nat} {ad ad' : Nat → Nat} {ls : Array Slot} {l : q_L} (h : q_lc ad ls l) (ha : q_adx n ad ad') (ho : ∀ v, some v ∈ l → q_ov n v) : q_lc ad' ls l :=
  ⟨h.1, h.2.1, fun i v hv => by rw [q_cv_ext ha (ho v (List.mem_of_getElem? hv))]; exact h.2.2 i v hv⟩
theorem q_cvcat (ad : Nat → Nat) (v : q_V) : (q_cv ad v).category = q_cat v := by
  match v with
  | .inl x => rfl
  | .inr (.inl x) => rfl
  | .inr (.inr k) => rfl
theorem q_nl_use {l : q_L} {k i : Nat} {v : q_V} (h : q_nl l k = true) (hv : l[i]? = some (some v)) (hi : i + 1 = k) : ¬ q_cat v = 2 := by
  subst hi
  simp only [q_nl, List.getD_eq_getElem?_getD, hv, Option.getD_some] at h
  match v, h with
  | .inl x, _ => simp [q_cat]
  | .inr (.inl x), h => simp at h
  | .inr (.inr k), _ => simp [q_cat]
theorem q_sto_lc {ad : Nat → Nat} {ls' : Array Slot} {l l' : q_L} {k : Nat} {v : q_V} (hs : q_sto l k v = some l') (hc : lv_has ls' l.length ((k, q_cv ad v) :: (q_as ad l).filter (fun q => !(q.1 == k) && !(q.1 + 1 == k && q.2.category == 2)))) : q_lc ad ls' l' := by
  unfold q_sto at hs
  split at hs
  · next h =>
    cases hs
    refine ⟨by rw [hc.1]; simp, hc.2.1, fun i v' hv => ?_⟩
    by_cases hik : i = k
    · subst hik
      rw [List.getElem?_set_self h.1] at hv
      cases hv
      exact hc.2.2 _ List.mem_cons_self
    · rw [List.getElem?_set_ne (Ne.symm hik)] at hv
      refine hc.2.2 (i, q_cv ad v') (List.mem_cons_of_mem _ (List.mem_filter.mpr ⟨q_as_mem.mpr ⟨i, v', hv, rfl⟩, ?_⟩))
      have h2 := fun e => q_nl_use h.2 hv e
      simp only [Bool.and_eq_true, Bool.not_eq_true', beq_eq_false_iff_ne, ne_eq, Bool.and_eq_false_iff, q_cvcat]
      refine ⟨hik, ?_⟩
      by_cases e : i + 1 = k
      · exact Or.inr (h2 e)
      · exact Or.inl e
  · cases hs
theorem q_sto2_lc {ad : Nat → Nat} {ls' : Array Slot} {l l' : q_L} {k : Nat} {v : q_V} (hs : q_sto2 l k v = some l') (hc : lv_has ls' l.length ((k, q_cv ad v) :: (q_as ad l).filter (fun q => !(q.1 == k) && (!(q.1 == k + 1) && !(q.1 + 1 == k && q.2.category == 2))))) : q_lc ad ls' l' := by
  unfold q_sto2 at hs
  split at hs
  · next h =>
    cases hs
    refine ⟨by rw [hc.1]; simp, hc.2.1, fun i v' hv => ?_⟩
    by_cases hi1 : i = k + 1
    · subst hi1
      rw [List.getElem?_set_self (by simp; exact h.1)] at hv
      cases hv
    · rw [List.getElem?_set_ne (Ne.symm hi1)] at hv
      by_cases hik : i = k
      · subst hik
        rw [List.getElem?_set_self (by omega)] at hv
        cases hv
        exact hc.2.2 _ List.mem_cons_self
      · rw [List.getElem?_set_ne (Ne.symm hik)] at hv
        refine hc.2.2 (i, q_cv ad v') (List.mem_cons_of_mem _ (List.mem_filter.mpr ⟨q_as_mem.mpr ⟨i, v', hv, rfl⟩, ?_⟩))
        have h2 := fun e => q_nl_use h.2 hv e
        simp only [Bool.and_eq_true, Bool.not_eq_true', beq_eq_false_iff_ne, ne_eq, Bool.and_eq_false_iff, q_cvcat]
        refine ⟨hik, hi1, ?_⟩
        by_cases e : i + 1 = k
        · exact Or.inr (h2 e)
        · exact Or.inl e
  · cases hs
theorem q_sto_len {l l' : q_L} {k : Nat} {v : q_V} (hs : q_sto l k v = some l') : k < l.length ∧ l'.length = l.length ∧ ∀ w, some w ∈ l' → some w ∈ l ∨ w = v := by
  unfold q_sto at hs
  split at hs
  · next h =>
    cases hs
    refine ⟨h.1, by simp, fun w hw => ?_⟩
    rcases List.mem_or_eq_of_mem_set hw with h | h
    · exact Or.inl h
    · exact Or.inr (Option.some.inj h)
  · cases hs
theorem q_sto2_len {l l' : q_L} {k : Nat} {v : q_V} (hs : q_sto2 l k v = some l') : k + 1 < l.length ∧ l'.length = l.length ∧ ∀ w, some w ∈ l' → some w ∈ l ∨ w = v := by
  unfold q_sto2 at hs
  split at hs
  · next h =>
    cases hs
    refine ⟨h.1, by simp, fun w hw => ?_⟩
    rcases List.mem_or_eq_of_mem_set hw with h | h
    · rcases List.mem_or_eq_of_mem_set h with h | h
      · exact Or.inl h
      · exact Or.inr (Option.some.inj h)
    · cases h
  · cases hs
/-! numbers -/
theorem q_toI {x : Int} (h : q_r x) : (Int32.ofInt x).toInt = x := by
  rw [Int32.toInt_ofInt]
  show Int.bmod x 4294967296 = x
  exact Int.bmod_eq_of_le (by have := h.1; omega) (by have := h.2; omega)
theorem q_toL {x : Int} (h : q_r6 x) : (Int64.ofInt x).toInt = x := by
  rw [Int64.toInt_ofInt]
  show Int.bmod x 18446744073709551616 = x
  exact Int.bmod_eq_of_le (by have := h.1; omega) (by have := h.2; omega)
theorem q_w_r (x : Int) : q_r (q_w x) := by
  unfold q_w q_r
  constructor
  · have := Int.le_bmod (x := x) (m := 4294967296) (by decide); omega
  · have := Int.bmod_lt (x := x) (m := 4294967296) (by decide); omega
theorem q_w6_r (x : Int) : q_r6 (q_w6 x) := by
  unfold q_w6 q_r6
  constructor
  · have := Int.le_bmod (x := x) (m := 18446744073709551616) (by decide); omega
  · have := Int.bmod_lt (x := x) (m := 18446744073709551616) (by decide); omega
theorem q_w_id {x : Int} (h : q_r x) : q_w x = x := Int.bmod_eq_of_le (by have := h.1; omega) (by have := h.2; omega)
theorem q_w6_id {x : Int} (h : q_r6 x) : q_w6 x = x := Int.bmod_eq_of_le (by have := h.1; omega) (by have := h.2; omega)
theorem q_ofw (x : Int) : Int32.ofInt (q_w x) = Int32.ofInt x := by
  apply Int32.toInt_inj.mp
  rw [Int32.toInt_ofInt, Int32.toInt_ofInt]
  show (Int.bmod (Int.bmod x 4294967296) 4294967296) = Int.bmod x 4294967296
  exact Int.bmod_bmod
theorem q_ofw6 (x : Int) : Int64.ofInt (q_w6 x) = Int64.ofInt x := by
  apply Int64.toInt_inj.mp
  rw [Int64.toInt_ofInt, Int64.toInt_ofInt]
  show (Int.bmod (Int.bmod x 18446744073709551616) 18446744073709551616) = Int.bmod x 18446744073709551616
  exact Int.bmod_bmod
theorem q_lt {x y : Int} (hx : q_r x) (hy : q_r y) : Int32.ofInt x < Int32.ofInt y ↔ x < y := by rw [Int32.lt_iff_toInt_lt, q_toI hx, q_toI hy]
theorem q_le {x y : Int} (hx : q_r x) (hy : q_r y) : Int32.ofInt x ≤ Int32.ofInt y ↔ x ≤ y := by rw [Int32.le_iff_toInt_le, q_toI hx, q_toI hy]
theorem q_eq {x y : Int} (hx : q_r x) (hy : q_r y) : Int32.ofInt x = Int32.ofInt y ↔ x = y := by rw [← Int32.toInt_inj, q_toI hx, q_toI hy]
theorem q_0r : q_r 0 := ⟨by decide, by decide⟩
theorem q_in {i : Int} {n : Nat} (hr : q_r i) (h : 0 ≤ i ∧ i < (n : Int)) : vp_in (Int32.ofInt i) n ∧ (Int32.ofInt i).toNatClampNeg = i.toNat := by
  refine ⟨vp_in_iff.mpr (by rw [q_toI hr]; exact h), ?_⟩
  show (Int32.ofInt i).toInt.toNat = i.toNat
  rw [q_toI hr]
end
section
/-! what a method's body stands on -/
def q_WT : List Cond := lw_tbl.filter goodWord
abbrev q_SRt : Type := List (String × Nat × String × Nat)
/-- statics that hold a reference or null -/
def q_ZS : List (String × String × String) := [("jdk/internal/util/Preconditions", "SIOOBE_FORMATTER", "Ljava/util/function/BiFunction;"), ("java/lang/Throwable", "UNASSIGNED_STACK", "[Ljava/lang/StackTraceElement;"), ("java/lang/Throwable", "SUPPRESSED_SENTINEL", "Ljava/util/List;")]
/-- words of a throw that the good ones don't tell -/
def q_DL : List MethodName := [⟨"java/lang/RuntimeException", "<init>", "()V"⟩, ⟨"java/lang/RuntimeException", "<init>", "(Ljava/lang/String;)V"⟩, ⟨"java/lang/Exception", "<init>", "()V"⟩, ⟨"java/lang/Exception", "<init>", "(Ljava/lang/String;)V"⟩, ⟨"java/lang/Throwable", "<init>", "()V"⟩, ⟨"java/lang/Throwable", "<init>", "(Ljava/lang/String;)V"⟩]
def q_CL : List String := ["java/lang/IllegalArgumentException", "java/lang/IllegalStateException", "java/lang/UnsupportedOperationException"]
/-- an exception that another's handler doesn't take -/
def q_NC : List (String × String) := [("java/lang/IllegalStateException", "java/lang/IllegalArgumentException"), ("java/lang/UnsupportedOperationException", "java/lang/IllegalStateException")]
def q_E9 (P : q_P) (a : Nat) (A : Nat → Prop) (U : State) (H : Heap) : Prop := va_T .int a (q_sc P).length (fun j => .int (Int32.ofInt ((q_sc P).getD j 0))) A U H ∧ (∀ z ∈ q_ZS, vx_Zq z.1 z.2.1 z.2.2 A U H) ∧ (∀ x ∈ q_DL, va_Nw (.declares x) U) ∧ (∀ x ∈ q_CL, va_Nw (.castable x x) U) ∧ ∀ x ∈ q_NC, va_Nc x.1 x.2 U
/-- what isn't in the world: links in the nest, the String constants, String's static -/
def q_E (P : q_P) (NW : List (String × Nat × MethodName × String)) (SR : q_SRt) (ad : Nat → Nat) (A : Nat → Prop) (U : State) (H : Heap) : Prop :=
  (∀ w ∈ NW, va_Nw (.methodLinkNest w.1 w.2.1 w.2.2.1 w.2.2.2) U) ∧ (∀ r ∈ SR, vk_R r.1 r.2.1 r.2.2.1 (ad (1000 + r.2.2.2)) U) ∧
  vk_S (q_sb P).length ((q_sb P).map List.length) ((q_sb P).map (List.map Int32.ofInt)) (fun i => ad (1000 + i)) (fun i => ad (2000 + i)) A U H ∧ va_Z "java/lang/String" "COMPACT_STRINGS" "Z" (.int 1) A U H ∧ q_E9 P (ad 3000) A U H
theorem q_E.go {P : q_P} {NW : List (String × Nat × MethodName × String)} {SR : q_SRt} {ad ad' : Nat → Nat} {A B : Nat → Prop} {s U : State} {H : Heap} {locs : List Loc} {n : Nat} (h : q_E P NW SR ad A s s.heap) (hS : va_S A s.heap H locs) (hW : s.WarmedH U.vm) (hU : U.heap = H) (hB : ∀ q, B q → A q) (ha : q_adx n ad ad') : q_E P NW SR ad' B U U.heap := by
  obtain ⟨h1, h2, h3, h4, h9⟩ := h
  have e1 : ∀ i, ad' (1000 + i) = ad (1000 + i) := fun i => ha _ (Or.inr (by omega))
  have e2 : ∀ i, ad' (2000 + i) = ad (2000 + i) := fun i => ha _ (Or.inr (by omega))
  refine ⟨fun w hw => va_Nw.warmM hW (h1 w hw), fun r hr => by rw [e1]; exact vk_R.warm hW (h2 r hr), ?_, ?_, ?_, fun z hz => ?_, fun x hx => va_Nw.warmD hW (h9.2.2.1 x hx), fun x hx => va_Nw.warmC hW (h9.2.2.2.1 x hx), fun x hx => va_Nc.moved hW.alike (h9.2.2.2.2 x hx)⟩
  · rw [hU]
    simp only [e1, e2]
    exact ((h3.kept (fun a h5 h6 => hS.2.1 a h5 h6)).narrow hB).moved hW.alike
  · rw [hU]
    exact ((h4.kept (fun a h5 h6 => hS.2.1 a h5 h6)).narrow hB).moved hW.alike
  · rw [hU, ha 3000 (Or.inr (by decide))]
    exact ((h9.1.kept (fun a h5 h6 => hS.2.1 a h5 h6)).narrow hB).moved hW.alike
  · rw [hU]
    exact (((h9.2.1 z hz).kept (fun a h5 h6 => hS.2.1 a h5 h6)).narrow hB).moved hW.alike
/-- the tables of fields, kinds, constants are right -/
def q_Fok (P : q_P) (Rn : Nat → String) : Prop := ∀ co idx ci j : Nat, q_fl P co idx = some (ci, j) →
  (ci = 100 ∧ ((j = 0 ∧ Cond.fieldLink (Rn co) idx "java/lang/String" "value" "[B" ∈ q_WT) ∨ (j ≠ 0 ∧ Cond.fieldLink (Rn co) idx "java/lang/String" "coder" "B" ∈ q_WT))) ∨
  (ci = 101 ∧ Cond.fieldLink (Rn co) idx "java/lang/String" "COMPACT_STRINGS" "Z" ∈ q_WT) ∨
  (ci < 13 ∧ ∀ (C : String) (T : u_T) (N : Nat), vwCl[ci]? = some (C, T, N) → j < N ∧ Cond.fieldLink (Rn co) idx (T j).1 (T j).2.1 (T j).2.2.1 ∈ q_WT)
def q_Cok (P : q_P) (Rn : Nat → String) : Prop := ∀ (ci : Nat) (C : String) (T : u_T) (N : Nat), vwCl[ci]? = some (C, T, N) → q_nf P ci = N ∧ N ≤ 100 ∧ Rn ci = C ∧ (∀ w ∈ u_ws C T N, w ∈ q_WT) ∧ (∀ a, a < N → ∀ b, b < N → a ≠ b → (T a).2.1 ≠ (T b).2.1) ∧
  ∃ ty : Nat → FieldType, (∀ k, k < N → parseFieldDescriptor (T k).2.2.1 = some (ty k)) ∧ ∀ j, j < N → (q_ft P ci j = 0 ∧ ty j = .int ∧ (T j).2.2.2 = false) ∨ (q_ft P ci j = 1 ∧ ty j = .boolean ∧ (T j).2.2.2 = false) ∨ (q_ft P ci j = 4 ∧ (T j).2.2.2 = true ∧ (T j).1 = C ∧ ((∃ n, ty j = .object n) ∨ ∃ t, ty j = .array t))
def q_Nok (P : q_P) (Rn : Nat → String) : Prop := ∀ co idx ci : Nat, q_cn P co idx = some ci → ∃ (C : String) (T : u_T) (N : Nat), vwCl[ci]? = some (C, T, N) ∧ Cond.classLink (Rn co) idx C ∈ q_WT ∧ Cond.instantiable C N ∈ q_WT ∧ Cond.initialized C ∈ q_WT
def q_Lok (P : q_P) (SR : q_SRt) (Rn : Nat → String) : Prop := ∀ (co idx : Nat) (v : q_V), q_ld P co idx = some v → (∃ x : Int, v = .inl x ∧ q_r x ∧ Cond.constant (Rn co) idx (Int32.ofInt x) ∈ q_WT) ∨ ∃ (i : Nat) (tx : String), v = .inr (.inr (1000 + i)) ∧ (Rn co, idx, tx, i) ∈ SR
def q_Aok : Prop := Cond.arrayClass .int ∈ q_WT ∧ Cond.arrayClass .boolean ∈ q_WT ∧ Cond.arrayClass .char ∈ q_WT ∧ Cond.arrayClass .long ∈ q_WT
def q_X (p : Program) (s : State) (m : MethodId) (args : Array Value) (meth : Method) (c : Code) (Rn : Nat → String) (co : Nat) (cc : ByteArray) (nL : Nat) (ini : Bool) (D : va_G) (cT : Nat → ClassId) (A : Nat → Prop) : Prop :=
  p.tables.exec = Jvm.exec ∧ c.code = cc ∧ c.maxLocals = nL ∧ s.vm.findClass (Rn co) = some m.cls ∧ (∀ w ∈ q_WT, w.before args s = true) ∧ va_K D vwCl (q_tys cT) s ∧ (∀ q, s.heap.size ≤ q → A q) ∧ (ini = true → meth.name = "<init>")
def q_Y (P : q_P) (NW : List (String × Nat × MethodName × String)) (SR : q_SRt) (s : State) (nL : Nat) (D : va_G) (cT : Nat → ClassId) (A : Nat → Prop) (ad : Nat → Nat) (l : q_L) (st : List q_V) (G : q_G) (M : q_M) (H : Heap) (locs : List Loc) (ls : Array Slot) : Prop :=
  va_P D vwCl (q_ws P cT ad G M) H ∧ va_D A (q_ws P cT ad G M) ∧ va_S A s.heap H locs ∧ q_oG P G ∧ q_oM G M ∧ q_lc ad ls l ∧ (∀ v, some v ∈ l → q_ov G.length v) ∧ (∀ v ∈ st, q_ov G.length v) ∧ l.length = nL ∧ q_E P NW SR ad A s s.heap
theorem q_Y.st {P : q_P} {NW : List (String × Nat × MethodName × String)} {SR : q_SRt} {s : State} {nL : Nat} {D : va_G} {cT : Nat → ClassId} {A : Nat → Prop} {ad : Nat → Nat} {l : q_L} {st st' : List q_V} {G : q_G} {M : q_M} {H : Heap} {locs : List Loc} {ls : Array Slot} (h : q_Y P NW SR s nL D cT A ad l st G M H locs ls) (hs : ∀ v ∈ st', q_ov G.length v) : q_Y P NW SR s nL D cT A ad l st' G M H locs ls := by
  obtain ⟨a, b, c, d, e, f, g, -, i, j⟩ := h
  exact ⟨a, b, c, d, e, f, g, hs, i, j⟩
theorem q_Y.lc {P : q_P} {NW : List (String × Nat × MethodName × String)} {SR : q_SRt} {s : State} {nL : Nat} {D : va_G} {cT : Nat → ClassId} {A : Nat → Prop} {ad : Nat → Nat} {l l' : q_L} {st st' : List q_V} {G : q_G} {M : q_M} {H : Heap} {locs : List Loc} {ls ls' : Array Slot} (h : q_Y P NW SR s nL D cT A ad l st G M H locs ls) (hs : ∀ v ∈ st', q_ov G.length v) (hl : q_lc ad ls' l') (ho : ∀ v, some v ∈ l' → q_ov G.length v) (hn : l'.length = nL) : q_Y P NW SR s nL D cT A ad l' st' G M H locs ls' := by
  obtain ⟨a, b, c, d, e, -, -, -, -, j⟩ := h
  exact ⟨a, b, c, d, e, hl, ho, hs, hn, j⟩
/-- one row of numbers has changed -/
theorem q_ws_set {P : q_P} {cT : Nat → ClassId} {ad : Nat → Nat} {G : q_G} {M M' : q_M} {k : Nat} {sh : q_S} (h : G[k]? = some sh) (ho : ∀ a, a ≠ k → M' a = M a) : (q_ws P cT ad G M).set k (ad k, q_c P cT ad sh (M' k)) = q_ws P cT ad G M' := by
  apply List.ext_getElem?
  intro i
  have hl : k < G.length := (List.getElem?_eq_some_iff.mp h).1
  by_cases e : i = k
  · subst e
    rw [List.getElem?_set_self (by rw [q_ws_len]; exact hl), q_ws_get h]
  · rw [List.getElem?_set_ne (Ne.symm e)]
    simp only [q_ws, List.getElem?_mapIdx, ho i e]
theorem q_up_o {M : q_M} {k j : Nat} {v : Int} : ∀ a, a ≠ k → q_up M k j v a = M a := fun a h => by funext b; simp [q_up, h]
theorem q_up_k {M : q_M} {k j : Nat} {v : Int} : q_up M k j v k = fun b => if b = j then v else M k b := by funext b; simp [q_up]
theorem q_oM_up {G : q_G} {M : q_M} {k j : Nat} {v : Int} (h : q_oM G M) (h6 : q_r6 v) (h3 : (∀ n : Nat, G[k]? ≠ some (Sum.inl (3, n))) → q_r v) : q_oM G (q_up M k j v) := by
  intro a b
  unfold q_up
  by_cases e : a = k
  · subst e
    rw [if_pos rfl]
    split
    · exact ⟨h6, h3⟩
    · exact h a b
  · rw [if_neg e]; exact h a b
theorem q_r_6 {x : Int} (h : q_r x) : q_r6 x := ⟨by have := h.1; omega, by have := h.2; omega⟩
end
section
def q_KK (p : Program) (l0 : Launch) (e : Env) (R : Room) (s : State) (m : MethodId) (args : Array Value) (below : List Frame) (meth : Method) (c : Code) (Q : State → Prop) (P : q_P) (NW : List (String × Nat × MethodName × String)) (SR : q_SRt) (nL : Nat) (D : va_G) (cT : Nat → ClassId) (A : Nat → Prop) (ad : Nat → Nat) (G : q_G) (pc' : Nat) (T : q_T) : Prop :=
  ∀ (ad' : Nat → Nat) (H' : Heap) (locs' : List Loc) (ls' : Array Slot), q_adx G.length ad ad' → G.length ≤ T.2.2.1.length → q_Y P NW SR s nL D cT A ad' T.1 T.2.1 T.2.2.1 T.2.2.2.1 H' locs' ls' → W p l0 e R s m args below meth c H' locs' T.2.2.2.2.1 T.2.2.2.2.2 Q (F0 m pc' ls' (T.2.1.map (q_cv ad')))
section QS
variable {p : Program} {l0 : Launch} {e : Env} {R : Room} {s : State} {m : MethodId} {args : Array Value} {below : List Frame} {meth : Method} {c : Code} {Q : State → Prop}
variable {P : q_P} {NW : List (String × Nat × MethodName × String)} {SR : q_SRt} {Rn : Nat → String} {co : Nat} {cc : ByteArray} {nL : Nat} {ini : Bool} {D : va_G} {cT : Nat → ClassId} {A : Nat → Prop} {ad : Nat → Nat} {l : q_L} {st : List q_V} {G : q_G} {M : q_M} {H : Heap} {locs : List Loc} {ls : Array Slot} {ca sa pc len : Nat} {T : q_T}
theorem q_go (Y : q_Y P NW SR s nL D cT A ad l st G M H locs ls) {st' : List q_V} (kk : q_KK p l0 e R s m args below meth c Q P NW SR nL D cT A ad G pc (l, st', G, M, ca, sa)) (hs : ∀ v ∈ st', q_ov G.length v) : W p l0 e R s m args below meth c H locs ca sa Q (F0 m pc ls (st'.map (q_cv ad))) :=
  kk ad H locs ls q_adx.rf (Nat.le_refl _) (Y.st hs)
theorem q_getD {l : q_L} {k : Nat} {v : q_V} (h : l.getD k none = some v) : l[k]? = some (some v) := by
  rw [List.getD_eq_getElem?_getD] at h
  rcases hk : l[k]? with _ | x
  · rw [hk] at h; cases h
  · rw [hk] at h
    simp only [Option.getD_some] at h
    rw [h]
theorem q_ldI_s {k : Nat} (Y : q_Y P NW SR s nL D cT A ad l st G M H locs ls) (hs : q_ldI l k st G M ca sa = some T) (kk : q_KK p l0 e R s m args below meth c Q P NW SR nL D cT A ad G (pc + len) T)
    (hw : ∀ x : Int32, ls[k]? = some (.val (.int x)) → W p l0 e R s m args below meth c H locs ca sa Q (F0 m (pc + len) ls (.int x :: st.map (q_cv ad))) → W p l0 e R s m args below meth c H locs ca sa Q (F0 m pc ls (st.map (q_cv ad)))) : W p l0 e R s m args below meth c H locs ca sa Q (F0 m pc ls (st.map (q_cv ad))) := by
  unfold q_ldI at hs
  split at hs
  · next x h =>
    cases hs
    have hv := q_getD h
    refine hw _ (Y.2.2.2.2.2.1.2.2 k _ hv) ?_
    exact q_go Y kk (fun v hm => by
      rcases List.mem_cons.mp hm with rfl | hm
      · exact Y.2.2.2.2.2.2.1 _ (List.mem_of_getElem? hv)
      · exact Y.2.2.2.2.2.2.2.1 v hm)
  · cases hs
theorem q_ldL_s {k : Nat} (Y : q_Y P NW SR s nL D cT A ad l st G M H locs ls) (hs : q_ldL l k st G M ca sa = some T) (kk : q_KK p l0 e R s m args below meth c Q P NW SR nL D cT A ad G (pc + len) T)
    (hw : ∀ x : Int64, ls[k]? = some (.val (.long x)) → W p l0 e R s m args below meth c H locs ca sa Q (F0 m (pc + len) ls (.long x :: st.map (q_cv ad))) → W p l0 e R s m args below meth c H locs ca sa Q (F0 m pc ls (st.map (q_cv ad)))) : W p l0 e R s m args below meth c H locs ca sa Q (F0 m pc ls (st.map (q_cv ad))) := by
  unfold q_ldL at hs
  split at hs
  · next x h =>
    cases hs
    have hv := q_getD h
    refine hw _ (Y.2.2.2.2.2.1.2.2 k _ hv) ?_
    exact q_go Y kk (fun v hm => by
      rcases List.mem_cons.mp hm with rfl | hm
      · exact Y.2.2.2.2.2.2.1 _ (List.mem_of_getElem? hv)
      · exact Y.2.2.2.2.2.2.2.1 v hm)
  · cases hs
theorem q_ldR_s {k : Nat} (Y : q_Y P NW SR s nL D cT A ad l st G M H locs ls) (hs : q_ldR l k st G M ca sa = some T) (kk : q_KK p l0 e R s m args below meth c Q P NW SR nL D cT A ad G (pc + len) T)
    (hw : ∀ x : Nat, ls[k]? = some (.val (.ref x)) → W p l0 e R s m args below meth c H locs ca sa Q (F0 m (pc + len) ls (.ref x :: st.map (q_cv ad))) → W p l0 e R s m args below meth c H locs ca sa Q (F0 m pc ls (st.map (q_cv ad)))) : W p l0 e R s m args below meth c H locs ca sa Q (F0 m pc ls (st.map (q_cv ad))) := by
  unfold q_ldR at hs
  split at hs
  · next x h =>
    cases hs
    have hv := q_getD h
    refine hw _ (Y.2.2.2.2.2.1.2.2 k _ hv) ?_
    exact q_go Y kk (fun v hm => by
      rcases List.mem_cons.mp hm with rfl | hm
      · exact Y.2.2.2.2.2.2.1 _ (List.mem_of_getElem? hv)
      · exact Y.2.2.2.2.2.2.2.1 v hm)
  · cases hs
theorem q_sto_s {k : Nat} {v : q_V} {l' : q_L} {r : List q_V} (Y : q_Y P NW SR s nL D cT A ad l st G M H locs ls) (hv : q_ov G.length v) (hr : ∀ v ∈ r, q_ov G.length v) (hs : q_sto l k v = some l') (kk : q_KK p l0 e R s m args below meth c Q P NW SR nL D cT A ad G (pc + len) (l', r, G, M, ca, sa))
    (hw : ∀ (lv lv' : List (Nat × Value)), lv_has ls nL lv → k < nL → (k, q_cv ad v) :: lv.filter (fun q => !(q.1 == k) && !(q.1 + 1 == k && q.2.category == 2)) = lv' → (∀ ls' : Array Slot, lv_has ls' nL lv' → W p l0 e R s m args below meth c H locs ca sa Q (F0 m (pc + len) ls' (r.map (q_cv ad)))) → W p l0 e R s m args below meth c H locs ca sa Q (F0 m pc ls (st.map (q_cv ad)))) : W p l0 e R s m args below meth c H locs ca sa Q (F0 m pc ls (st.map (q_cv ad))) := by
  have hn := Y.2.2.2.2.2.2.2.2.1
  obtain ⟨h1, h2, h3⟩ := q_sto_len hs
  refine hw (q_as ad l) _ (hn ▸ Y.2.2.2.2.2.1.has) (hn ▸ h1) rfl (fun ls' hl => ?_)
  exact kk ad H locs ls' q_adx.rf (Nat.le_refl _) (Y.lc hr (q_sto_lc hs (by rw [hn]; exact hl)) (fun w hw => (h3 w hw).elim (Y.2.2.2.2.2.2.1 w) (fun e => e ▸ hv)) (h2.trans hn))
theorem q_sto2_s {k : Nat} {v : q_V} {l' : q_L} {r : List q_V} (Y : q_Y P NW SR s nL D cT A ad l st G M H locs ls) (hv : q_ov G.length v) (hr : ∀ v ∈ r, q_ov G.length v) (hs : q_sto2 l k v = some l') (kk : q_KK p l0 e R s m args below meth c Q P NW SR nL D cT A ad G (pc + len) (l', r, G, M, ca, sa))
    (hw : ∀ (lv lv' : List (Nat × Value)), lv_has ls nL lv → k + 1 < nL → (k, q_cv ad v) :: lv.filter (fun q => !(q.1 == k) && (!(q.1 == k + 1) && !(q.1 + 1 == k && q.2.category == 2))) = lv' → (∀ ls' : Array Slot, lv_has ls' nL lv' → W p l0 e R s m args below meth c H locs ca sa Q (F0 m (pc + len) ls' (r.map (q_cv ad)))) → W p l0 e R s m args below meth c H locs ca sa Q (F0 m pc ls (st.map (q_cv ad)))) : W p l0 e R s m args below meth c H locs ca sa Q (F0 m pc ls (st.map (q_cv ad))) := by
  have hn := Y.2.2.2.2.2.2.2.2.1
  obtain ⟨h1, h2, h3⟩ := q_sto2_len hs
  refine hw (q_as ad l) _ (hn ▸ Y.2.2.2.2.2.1.has) (hn ▸ h1) rfl (fun ls' hl => ?_)
  exact kk ad H locs ls' q_adx.rf (Nat.le_refl _) (Y.lc hr (q_sto2_lc hs (by rw [hn]; exact hl)) (fun w hw => (h3 w hw).elim (Y.2.2.2.2.2.2.1 w) (fun e => e ▸ hv)) (h2.trans hn))
theorem q_tl {v : q_V} {r st : List q_V} {n : Nat} (h : ∀ v ∈ st, q_ov n v) (e : st = v :: r) : q_ov n v ∧ ∀ w ∈ r, q_ov n w := by
  subst e
  exact ⟨h v List.mem_cons_self, fun w hw => h w (List.mem_cons_of_mem _ hw)⟩
theorem q_cons {v : q_V} {r : List q_V} {n : Nat} (h : q_ov n v) (hr : ∀ v ∈ r, q_ov n v) : ∀ w ∈ v :: r, q_ov n w := fun w hw => (List.mem_cons.mp hw).elim (fun e => e ▸ h) (hr w)
/-- two ints give one -/
theorem q_ii_s {f : Int → Int → Option Int} (Y : q_Y P NW SR s nL D cT A ad l st G M H locs ls) (hs : q_ii f l st G M ca sa = some T) (kk : q_KK p l0 e R s m args below meth c Q P NW SR nL D cT A ad G (pc + 1) T)
    (hw : ∀ (x y z : Int) (rest : List Value), q_r x → q_r y → f x y = some z → q_r z ∧ (W p l0 e R s m args below meth c H locs ca sa Q (F0 m (pc + 1) ls (.int (Int32.ofInt z) :: rest)) → W p l0 e R s m args below meth c H locs ca sa Q (F0 m pc ls (.int (Int32.ofInt y) :: .int (Int32.ofInt x) :: rest)))) : W p l0 e R s m args below meth c H locs ca sa Q (F0 m pc ls (st.map (q_cv ad))) := by
  unfold q_ii at hs
  split at hs
  · next y x r =>
    obtain ⟨hy, h1⟩ := q_tl Y.2.2.2.2.2.2.2.1 rfl
    obtain ⟨hx, hr⟩ := q_tl h1 rfl
    split at hs
    · next z hz =>
      cases hs
      obtain ⟨h2, h3⟩ := hw x y z (r.map (q_cv ad)) hx hy hz
      exact h3 (q_go Y kk (q_cons (show q_ov G.length (.inl z) from h2) hr))
    · cases hs
  · cases hs
end QS
end
section
section QM
variable {p : Program} {l0 : Launch} {e : Env} {R : Room} {s : State} {m : MethodId} {args : Array Value} {below : List Frame} {meth : Method} {c : Code} {Q : State → Prop}
variable {P : q_P} {NW : List (String × Nat × MethodName × String)} {SR : q_SRt} {Rn : Nat → String} {co : Nat} {cc : ByteArray} {nL : Nat} {ini : Bool} {D : va_G} {cT : Nat → ClassId} {A : Nat → Prop} {ad : Nat → Nat} {l : q_L} {st : List q_V} {G : q_G} {M : q_M} {H : Heap} {locs : List Loc} {ls : Array Slot} {ca sa pc len idx : Nat} {T : q_T}
theorem q_cl13 {ci : Nat} (h : ci < 13) : ∃ (C : String) (T : u_T) (N : Nat), vwCl[ci]? = some (C, T, N) := by
  have hl : ci < vwCl.length := h
  exact ⟨vwCl[ci].1, vwCl[ci].2.1, vwCl[ci].2.2, by rw [List.getElem?_eq_getElem hl]⟩
theorem q_get_s (X : q_X p s m args meth c Rn co cc nL ini D cT A) (hF : q_Fok P Rn) (hC : q_Cok P Rn) (Y : q_Y P NW SR s nL D cT A ad l st G M H locs ls) (hs : q_get P co idx l st G M ca sa = some T) (kk : q_KK p l0 e R s m args below meth c Q P NW SR nL D cT A ad G (pc + 3) T) (hd : decode cc pc = .ok (.getfield idx, 3)) : W p l0 e R s m args below meth c H locs ca sa Q (F0 m pc ls (st.map (q_cv ad))) := by
  obtain ⟨hx, hb, hml, hown, hts, hK, hA, hin⟩ := X
  unfold q_get at hs
  split at hs
  · next ci j a r hfl =>
    obtain ⟨ha, hr⟩ := q_tl Y.2.2.2.2.2.2.2.1 rfl
    split at hs
    · next h100 =>
      subst h100
      have hf := hF _ _ _ _ hfl
      split at hs
      · next hrg =>
        obtain ⟨i, rfl⟩ : ∃ i, a = 1000 + i := ⟨a - 1000, by omega⟩
        have hi : i < (q_sb P).length := by omega
        have hK9 := (Y.2.2.2.2.2.2.2.2.2.2.2.1).1 i hi
        rcases hf with ⟨-, hf⟩ | ⟨h, -⟩ | ⟨h, -⟩
        · rcases hf with ⟨hj, hf⟩ | ⟨hj, hf⟩
          · rw [if_pos hj] at hs
            cases hs
            refine vk_getf hx hb hK9.2.2.1 Y.2.2.1 hown (hts _ hf) (fun _ h => h) hd ?_
            have e0 : 1000 + i + 1000 = 2000 + i := by omega
            have := q_go Y kk (q_cons (show q_ov G.length (.inr (.inr (1000 + i + 1000))) from Or.inr (by omega)) hr)
            rw [e0] at this
            exact this
          · rw [if_neg hj] at hs
            cases hs
            exact vk_getf hx hb hK9.2.1 Y.2.2.1 hown (hts _ hf) (fun _ h => h) hd (q_go Y kk (q_cons (show q_ov G.length (.inl 0) from q_0r) hr))
        · omega
        · omega
      · cases hs
    · next h100 =>
      split at hs
      · next cj rs hG =>
        split at hs
        · next hcj =>
          subst hcj
          obtain ⟨hl, hc13, hrs⟩ := Y.2.2.2.1.2.1 a cj rs hG
          obtain ⟨C, T0, N, hcl⟩ := q_cl13 hc13
          obtain ⟨hN, -, hRn, hws, hnm, ty, hty, hft⟩ := hC cj C T0 N hcl
          rcases hF _ _ _ _ hfl with ⟨h, -⟩ | ⟨h, -⟩ | ⟨-, hf⟩
          · exact absurd h h100
          · omega
          · obtain ⟨hj, hlk⟩ := hf C T0 N hcl
            have hv : ((List.range (q_nf P cj)).map (q_sv P ad cj rs (M a)))[j]? = some (q_sv P ad cj rs (M a) j) := by
              rw [List.getElem?_map, List.getElem?_range (by omega)]; rfl
            refine va_get hx hb hts hws hown hK Y.1 a (q_ws_get hG) hcl j hj (hts _ hlk) (fun _ h => h) hv hd ?_
            split at hs
            · next h4 =>
              split at hs
              · next k hk =>
                cases hs
                have e1 : q_sv P ad cj rs (M a) j = .ref (ad k) := by unfold q_sv; rw [if_pos h4, hk]
                rw [e1]
                exact q_go Y kk (q_cons (show q_ov G.length (.inr (.inr k)) from Or.inl (hrs j k hk)) hr)
              · cases hs
            · next h4 =>
              cases hs
              have e1 : q_sv P ad cj rs (M a) j = .int (Int32.ofInt (M a j)) := by unfold q_sv; rw [if_neg h4]
              rw [e1]
              exact q_go Y kk (q_cons (show q_ov G.length (.inl (M a j)) from (Y.2.2.2.2.1 a j).2 (fun n h => by rw [hG] at h; cases h)) hr)
        · cases hs
      · cases hs
  · cases hs
theorem q_fit_int (x : Int) : narrow .int (.int (Int32.ofInt x)) = .int (Int32.ofInt x) ∧ fits .int (.int (Int32.ofInt x)) = true := ⟨rfl, rfl⟩
theorem q_fit_bool {x : Int} (h : x = 0 ∨ x = 1) : narrow .boolean (.int (Int32.ofInt x)) = .int (Int32.ofInt x) ∧ fits .boolean (.int (Int32.ofInt x)) = true := by
  rcases h with rfl | rfl <;> exact ⟨by decide +kernel, by decide +kernel⟩
theorem q_fit_ref {ty : FieldType} {a : Nat} (h : (∃ n, ty = .object n) ∨ ∃ t, ty = .array t) : narrow ty (.ref a) = .ref a ∧ fits ty (.ref a) = true := by
  rcases h with ⟨n, rfl⟩ | ⟨t, rfl⟩ <;> exact ⟨rfl, rfl⟩
/-- an object's fields after a store -/
theorem q_fs_set {ci j a : Nat} {rs : List Nat} {x : Int} (hj : q_ft P ci j ≠ 4) : ((List.range (q_nf P ci)).map (q_sv P ad ci rs (M a))).set j (.int (Int32.ofInt x)) = (List.range (q_nf P ci)).map (q_sv P ad ci rs (q_up M a j x a)) := by
  apply List.ext_getElem?
  intro i
  by_cases hi : i < q_nf P ci
  · by_cases e0 : i = j
    · subst e0
      rw [List.getElem?_set_self (by simp; exact hi), List.getElem?_map, List.getElem?_range hi]
      simp [q_sv, hj, q_up]
    · rw [List.getElem?_set_ne (Ne.symm e0), List.getElem?_map, List.getElem?_map, List.getElem?_range hi]
      simp [q_sv, q_up, e0]
  · rw [List.getElem?_eq_none (by simp; omega), List.getElem?_eq_none (by simp; omega)]
theorem q_fs_setR {ci j a k : Nat} {rs : List Nat} (hj : q_ft P ci j = 4) (hl : rs.length = q_nf P ci) : ((List.range (q_nf P ci)).map (q_sv P ad ci rs (M a))).set j (.ref (ad k)) = (List.range (q_nf P ci)).map (q_sv P ad ci (rs.set j (k + 1)) (M a)) := by
  apply List.ext_getElem?
  intro i
  by_cases hi : i < q_nf P ci
  · by_cases e0 : i = j
    · subst e0
      rw [List.getElem?_set_self (by simp; exact hi), List.getElem?_map, List.getElem?_range hi]
      simp [q_sv, hj, List.getElem?_set_self (show i < rs.length by omega)]
    · rw [List.getElem?_set_ne (Ne.symm e0), List.getElem?_map, List.getElem?_map, List.getElem?_range hi]
      simp [q_sv, List.getElem?_set_ne (Ne.symm e0)]
  · rw [List.getElem?_eq_none (by simp; omega), List.getElem?_eq_none (by simp; omega)]
theorem q_ws_setG {k : Nat} {sh sh' : q_S} (h : G[k]? = some sh) : (q_ws P cT ad G M).set k (ad k, q_c P cT ad sh' (M k)) = q_ws P cT ad (G.set k sh') M := by
  apply List.ext_getElem?
  intro i
  have hl : k < G.length := (List.getElem?_eq_some_iff.mp h).1
  by_cases e0 : i = k
  · subst e0
    rw [List.getElem?_set_self (by rw [q_ws_len]; exact hl), q_ws_get (List.getElem?_set_self hl)]
  · rw [List.getElem?_set_ne (Ne.symm e0)]
    simp only [q_ws, List.getElem?_mapIdx, List.getElem?_set_ne (Ne.symm e0)]
theorem q_put_s (X : q_X p s m args meth c Rn co cc nL ini D cT A) (hF : q_Fok P Rn) (hC : q_Cok P Rn) (Y : q_Y P NW SR s nL D cT A ad l st G M H locs ls) (hs : q_put P ini co idx l st G M ca sa = some T) (kk : q_KK p l0 e R s m args below meth c Q P NW SR nL D cT A ad G (pc + 3) T) (hd : decode cc pc = .ok (.putfield idx, 3)) : W p l0 e R s m args below meth c H locs ca sa Q (F0 m pc ls (st.map (q_cv ad))) := by
  obtain ⟨hx, hb, hml, hown, hts, hK, hA, hin⟩ := X
  unfold q_put at hs
  split at hs
  · next ci j x a r hfl =>
    obtain ⟨hxr, h1⟩ := q_tl Y.2.2.2.2.2.2.2.1 rfl
    obtain ⟨ha, hr⟩ := q_tl h1 rfl
    split at hs
    · next cj rs hG =>
      split at hs
      · next hcj =>
        subst hcj
        obtain ⟨hl, hc13, hrs⟩ := Y.2.2.2.1.2.1 a cj rs hG
        obtain ⟨C, T0, N, hcl⟩ := q_cl13 hc13
        obtain ⟨hN, -, hRn, hws, hnm, ty, hty, hft⟩ := hC cj C T0 N hcl
        rcases hF _ _ _ _ hfl with ⟨h, -⟩ | ⟨h, -⟩ | ⟨-, hf⟩
        · omega
        · omega
        · obtain ⟨hj, hlk⟩ := hf C T0 N hcl
          have key : q_ft P cj j ≠ 4 → (T0 j).2.2.2 = false → ∀ t : FieldType, parseFieldDescriptor (T0 j).2.2.1 = some t → (narrow t (.int (Int32.ofInt x)) = .int (Int32.ofInt x) ∧ fits t (.int (Int32.ofInt x)) = true) → T = (l, r, G, q_up M a j x, ca, sa) → W p l0 e R s m args below meth c H locs ca sa Q (F0 m pc ls (.int (Int32.ofInt x) :: .ref (ad a) :: r.map (q_cv ad))) := by
            intro h4 hfin t ht hnf hT
            subst hT
            refine va_put hx hb hts hws ty hty hnm hown hK Y.1 Y.2.1 Y.2.2.1 a (q_ws_get hG) hcl j hj (hts _ hlk) (fun _ h => h) hfin ht hnf.1 hnf.2 (by simp; omega) hd (fun H1 locs1 hP1 hD1 hS1 => ?_)
            rw [q_fs_set h4] at hP1 hD1
            have e1 := q_ws_set (P := P) (cT := cT) (ad := ad) (M := M) (M' := q_up M a j x) hG q_up_o
            simp only [q_c] at e1
            rw [e1] at hP1 hD1
            refine kk ad H1 locs1 ls q_adx.rf (Nat.le_refl _) ⟨hP1, hD1, hS1, Y.2.2.2.1, q_oM_up Y.2.2.2.2.1 (q_r_6 hxr) (fun _ => hxr), Y.2.2.2.2.2.1, Y.2.2.2.2.2.2.1, hr, Y.2.2.2.2.2.2.2.2.1, Y.2.2.2.2.2.2.2.2.2⟩
          split at hs
          · next h0 =>
            rcases hft j hj with ⟨-, h2, h3⟩ | ⟨h, -⟩ | ⟨h, -⟩
            · exact key (by omega) h3 _ (by rw [hty j hj, h2]) (q_fit_int x) (Option.some.inj hs).symm
            · omega
            · omega
          · split at hs
            · next h0 =>
              split at hs
              · next hb01 =>
                rcases hft j hj with ⟨h, -⟩ | ⟨-, h2, h3⟩ | ⟨h, -⟩
                · omega
                · exact key (by omega) h3 _ (by rw [hty j hj, h2]) (q_fit_bool hb01) (Option.some.inj hs).symm
                · omega
              · cases hs
            · cases hs
      · cases hs
    · cases hs
  · next ci j k a r hfl =>
    obtain ⟨hkr, h1⟩ := q_tl Y.2.2.2.2.2.2.2.1 rfl
    obtain ⟨ha, hr⟩ := q_tl h1 rfl
    split at hs
    · next cj rs hG =>
      split at hs
      · next hcj =>
        obtain ⟨hcj, hini, hco, h4, hkl⟩ := hcj
        subst hcj
        cases hs
        obtain ⟨hl, hc13, hrs⟩ := Y.2.2.2.1.2.1 a cj rs hG
        obtain ⟨C, T0, N, hcl⟩ := q_cl13 hc13
        obtain ⟨hN, -, hRn, hws, hnm, ty, hty, hft⟩ := hC cj C T0 N hcl
        rcases hF _ _ _ _ hfl with ⟨h, -⟩ | ⟨h, -⟩ | ⟨-, hf⟩
        · omega
        · omega
        · obtain ⟨hj, hlk⟩ := hf C T0 N hcl
          rcases hft j hj with ⟨h, -⟩ | ⟨h, -⟩ | ⟨-, h2, h3, h5⟩
          · omega
          · omega
          · have hnf := q_fit_ref (a := ad k) h5
            refine va_putF hx hb hts hws ty hty hnm hown hK Y.1 Y.2.1 Y.2.2.1 a (q_ws_get hG) hcl j hj (hts _ hlk) (fun _ h => h) h2 (hin hini) (by rw [h3, ← hco, hRn]) (hty j hj) hnf.1 hnf.2 (by simp; omega) hd (fun H1 locs1 hP1 hD1 hS1 => ?_)
            have e9 : q_cv ad (.inr (.inr k)) = .ref (ad k) := rfl
            rw [e9, q_fs_setR h4 hl] at hP1 hD1
            have e1 := q_ws_setG (P := P) (cT := cT) (ad := ad) (M := M) (sh' := .inr (cj, rs.set j (k + 1))) hG
            simp only [q_c] at e1
            rw [e1] at hP1 hD1
            have hlen : (G.set a (.inr (cj, rs.set j (k + 1)))).length = G.length := by simp
            have hal : a < G.length := (List.getElem?_eq_some_iff.mp hG).1
            have hcs : ∀ (i : Nat) (z : q_S), (G.set a (.inr (cj, rs.set j (k + 1))))[i]? = some z → (i = a ∧ z = .inr (cj, rs.set j (k + 1))) ∨ (i ≠ a ∧ G[i]? = some z) := by
              intro i z hz
              by_cases e0 : i = a
              · subst e0
                rw [List.getElem?_set_self hal] at hz
                exact Or.inl ⟨rfl, (Option.some.inj hz).symm⟩
              · rw [List.getElem?_set_ne (Ne.symm e0)] at hz
                exact Or.inr ⟨e0, hz⟩
            refine kk ad H1 locs1 ls q_adx.rf (by simp) ⟨hP1, hD1, hS1, ⟨by show (G.set a _).length ≤ 900; rw [hlen]; exact Y.2.2.2.1.1, fun i ci rs' hz => ?_, fun i t n hz => ?_⟩, fun i b => ?_, Y.2.2.2.2.2.1, by show ∀ v, some v ∈ l → q_ov (G.set a _).length v; rw [hlen]; exact Y.2.2.2.2.2.2.1, by show ∀ v ∈ r, q_ov (G.set a _).length v; rw [hlen]; exact hr, Y.2.2.2.2.2.2.2.2.1, Y.2.2.2.2.2.2.2.2.2⟩
            · show rs'.length = _ ∧ _ ∧ ∀ j r : Nat, rs'[j]? = some (r + 1) → r < (G.set a _).length
              rw [hlen]
              rcases hcs i _ hz with ⟨-, h⟩ | ⟨-, h⟩
              · cases h
                refine ⟨by simp; exact hl, hc13, fun j' r' hr' => ?_⟩
                by_cases e0 : j' = j
                · subst e0
                  rw [List.getElem?_set_self (by omega)] at hr'
                  cases hr'
                  exact hkl
                · rw [List.getElem?_set_ne (Ne.symm e0)] at hr'
                  exact hrs j' r' hr'
              · exact Y.2.2.2.1.2.1 i ci rs' h
            · rcases hcs i _ hz with ⟨-, h⟩ | ⟨-, h⟩
              · cases h
              · exact Y.2.2.2.1.2.2 i t n h
            · refine ⟨(Y.2.2.2.2.1 i b).1, fun hn => (Y.2.2.2.2.1 i b).2 (fun n hz => ?_)⟩
              by_cases e0 : i = a
              · subst e0; rw [hG] at hz; cases hz
              · exact hn n (by show (G.set a _)[i]? = _; rw [List.getElem?_set_ne (Ne.symm e0)]; exact hz)
      · cases hs
    · cases hs
  · cases hs
end QM
end
section
section QA
variable {p : Program} {l0 : Launch} {e : Env} {R : Room} {s : State} {m : MethodId} {args : Array Value} {below : List Frame} {meth : Method} {c : Code} {Q : State → Prop}
variable {P : q_P} {NW : List (String × Nat × MethodName × String)} {SR : q_SRt} {Rn : Nat → String} {co : Nat} {cc : ByteArray} {nL : Nat} {ini : Bool} {D : va_G} {cT : Nat → ClassId} {A : Nat → Prop} {ad : Nat → Nat} {l : q_L} {st : List q_V} {G : q_G} {M : q_M} {H : Heap} {locs : List Loc} {ls : Array Slot} {ca sa pc len idx : Nat} {T : q_T}
/-- reading an int, a boolean, a char out of an array -/
theorem q_ald_s {t : Nat} (Y : q_Y P NW SR s nL D cT A ad l st G M H locs ls) (ht3 : t ≠ 3) (hs : q_ald t l st G M ca sa = some T) (kk : q_KK p l0 e R s m args below meth c Q P NW SR nL D cT A ad G (pc + 1) T)
    (hw : ∀ (a n : Nat) (f : Nat → Int32) (i : Int32) (rest : List Value), (q_ws P cT ad G M)[a]? = some (ad a, .inl (cT t, n, .inl f)) → vp_in i n → W p l0 e R s m args below meth c H locs ca sa Q (F0 m (pc + 1) ls (.int (f i.toNatClampNeg) :: rest)) → W p l0 e R s m args below meth c H locs ca sa Q (F0 m pc ls (.int i :: .ref (ad a) :: rest))) : W p l0 e R s m args below meth c H locs ca sa Q (F0 m pc ls (st.map (q_cv ad))) := by
  unfold q_ald at hs
  split at hs
  · next i a r =>
    obtain ⟨hir, h1⟩ := q_tl Y.2.2.2.2.2.2.2.1 rfl
    obtain ⟨ha, hr⟩ := q_tl h1 rfl
    split at hs
    · next t' n hG =>
      split at hs
      · next ht =>
        subst ht
        split at hs
        · next hi =>
          cases hs
          obtain ⟨h2, h3⟩ := q_in hir hi
          have hg := q_ws_get (P := P) (cT := cT) (ad := ad) (M := M) hG
          simp only [q_c, q_ca, if_neg ht3] at hg
          refine hw a n _ (Int32.ofInt i) (r.map (q_cv ad)) hg h2 ?_
          rw [h3]
          exact q_go Y kk (q_cons (show q_ov G.length (.inl (M a i.toNat)) from (Y.2.2.2.2.1 a _).2 (fun n' h => by rw [hG] at h; cases h; exact ht3 rfl)) hr)
        · cases hs
      · cases hs
    · cases hs
  · cases hs
theorem q_sb_get {i : Nat} {bs : List Int} (h : (q_sb P)[i]? = some bs) : i < (q_sb P).length ∧ ((q_sb P).map List.length).getD i 0 = bs.length ∧ ((q_sb P).map (List.map Int32.ofInt)).getD i [] = bs.map Int32.ofInt := by
  refine ⟨(List.getElem?_eq_some_iff.mp h).1, ?_, ?_⟩
  · rw [List.getD_eq_getElem?_getD, List.getElem?_map, h]; rfl
  · rw [List.getD_eq_getElem?_getD, List.getElem?_map, h]; rfl
def q_Sok (P : q_P) : Prop := (∀ bs ∈ q_sb P, bs.length < 1000 ∧ ∀ b ∈ bs, 0 ≤ b ∧ b < 128) ∧ (q_sc P).length < 1000 ∧ ∀ x ∈ q_sc P, q_r x
theorem q_bald_s (X : q_X p s m args meth c Rn co cc nL ini D cT A) (hSo : q_Sok P) (Y : q_Y P NW SR s nL D cT A ad l st G M H locs ls) (hs : q_bald P l st G M ca sa = some T) (kk : q_KK p l0 e R s m args below meth c Q P NW SR nL D cT A ad G (pc + 1) T) (hd : decode cc pc = .ok (.baload, 1)) : W p l0 e R s m args below meth c H locs ca sa Q (F0 m pc ls (st.map (q_cv ad))) := by
  obtain ⟨hx, hb, hml, hown, hts, hK, hA, hin⟩ := X
  unfold q_bald at hs
  split at hs
  · next i a r =>
    obtain ⟨hir, h1⟩ := q_tl Y.2.2.2.2.2.2.2.1 rfl
    obtain ⟨ha, hr⟩ := q_tl h1 rfl
    split at hs
    · next h2000 =>
      split at hs
      · next bs hbs =>
        split at hs
        · next hi =>
          cases hs
          obtain ⟨k, rfl⟩ : ∃ k, a = 2000 + k := ⟨a - 2000, by omega⟩
          rw [show 2000 + k - 2000 = k by omega] at hbs
          obtain ⟨h2, h3, h4⟩ := q_sb_get hbs
          obtain ⟨h5, h6⟩ := q_in hir hi
          have hK9 := ((Y.2.2.2.2.2.2.2.2.2.2.2.1).1 k h2).2.2.2
          rw [h3, h4] at hK9
          have hlt : i.toNat < bs.length := by omega
          have hbm := hSo.1 bs (List.mem_of_getElem? hbs)
          have hv : bs.getD i.toNat 0 = bs[i.toNat] := by rw [List.getD_eq_getElem?_getD, List.getElem?_eq_getElem hlt]; rfl
          have hbb := hbm.2 _ (List.getElem_mem hlt)
          refine va_tb hx hb hK9 Y.2.2.1 (v := .int (Int32.ofInt (bs.getD i.toNat 0))) h5 ?_ hd ?_
          · rw [h6]
            show Value.int ((bs.map Int32.ofInt).getD i.toNat 0) = _
            rw [List.getD_eq_getElem?_getD, List.getElem?_map, List.getElem?_eq_getElem hlt, hv]; rfl
          · exact q_go Y kk (q_cons (show q_r (bs.getD i.toNat 0) by rw [hv]; exact ⟨by omega, by omega⟩) hr)
        · cases hs
      · cases hs
    · exact q_ald_s Y (by decide) hs kk (fun a n f i rest hg hi hk => va_zald hx hb hK Y.1 a 1 hg rfl hi hd hk)
  · cases hs
theorem q_iald_s (X : q_X p s m args meth c Rn co cc nL ini D cT A) (hSo : q_Sok P) (Y : q_Y P NW SR s nL D cT A ad l st G M H locs ls) (hs : q_iald P l st G M ca sa = some T) (kk : q_KK p l0 e R s m args below meth c Q P NW SR nL D cT A ad G (pc + 1) T) (hd : decode cc pc = .ok (.iaload, 1)) : W p l0 e R s m args below meth c H locs ca sa Q (F0 m pc ls (st.map (q_cv ad))) := by
  obtain ⟨hx, hb, hml, hown, hts, hK, hA, hin⟩ := X
  unfold q_iald at hs
  split at hs
  · next i a r =>
    obtain ⟨hir, h1⟩ := q_tl Y.2.2.2.2.2.2.2.1 rfl
    obtain ⟨ha, hr⟩ := q_tl h1 rfl
    split at hs
    · next h3000 =>
      subst h3000
      split at hs
      · next hi =>
        cases hs
        obtain ⟨h5, h6⟩ := q_in hir hi
        have hK9 := Y.2.2.2.2.2.2.2.2.2.2.2.2.2.1
        have hlt : i.toNat < (q_sc P).length := by omega
        have hv : (q_sc P).getD i.toNat 0 = (q_sc P)[i.toNat] := by rw [List.getD_eq_getElem?_getD, List.getElem?_eq_getElem hlt]; rfl
        refine va_ti hx hb hK9 Y.2.2.1 (v := .int (Int32.ofInt ((q_sc P).getD i.toNat 0))) h5 (by rw [h6]) hd ?_
        exact q_go Y kk (q_cons (show q_r ((q_sc P).getD i.toNat 0) by rw [hv]; exact hSo.2.2 _ (List.getElem_mem hlt)) hr)
      · cases hs
    · exact q_ald_s Y (by decide) hs kk (fun a n f i rest hg hi hk => va_iald hx hb hK Y.1 a 0 hg rfl hi hd hk)
  · cases hs
theorem q_lald_s (X : q_X p s m args meth c Rn co cc nL ini D cT A) (Y : q_Y P NW SR s nL D cT A ad l st G M H locs ls) (hs : q_lald l st G M ca sa = some T) (kk : q_KK p l0 e R s m args below meth c Q P NW SR nL D cT A ad G (pc + 1) T) (hd : decode cc pc = .ok (.laload, 1)) : W p l0 e R s m args below meth c H locs ca sa Q (F0 m pc ls (st.map (q_cv ad))) := by
  obtain ⟨hx, hb, hml, hown, hts, hK, hA, hin⟩ := X
  unfold q_lald at hs
  split at hs
  · next i a r =>
    obtain ⟨hir, h1⟩ := q_tl Y.2.2.2.2.2.2.2.1 rfl
    obtain ⟨ha, hr⟩ := q_tl h1 rfl
    split at hs
    · next t' n hG =>
      split at hs
      · next ht =>
        subst ht
        split at hs
        · next hi =>
          cases hs
          obtain ⟨h2, h3⟩ := q_in hir hi
          have hg := q_ws_get (P := P) (cT := cT) (ad := ad) (M := M) hG
          simp only [q_c, q_ca, if_true] at hg
          refine va_lald hx hb hK Y.1 a 3 hg rfl h2 hd ?_
          rw [h3]
          exact q_go Y kk (q_cons (show q_ov G.length (.inr (.inl (M a i.toNat))) from (Y.2.2.2.2.1 a _).1) hr)
        · cases hs
      · cases hs
    · cases hs
  · cases hs
theorem q_nar_b {x : Int} (h : x = 0 ∨ x = 1) : vp_nar .boolean (Int32.ofInt x) = Int32.ofInt x := by rcases h with rfl | rfl <;> decide +kernel
theorem q_nar_c {x : Int} (h : 0 ≤ x ∧ x < 65536) : vp_nar .char (Int32.ofInt x) = Int32.ofInt x := by
  obtain ⟨n, rfl⟩ : ∃ n : Nat, x = (n : Int) := ⟨x.toNat, by omega⟩
  have e0 : Int32.ofInt (n : Int) = nI n := rfl
  have h2 := (pk_charN (q := n) (by omega)).1
  unfold vp_nar
  rw [e0, h2]
theorem q_upd {f : Nat → Int} {j : Nat} {x : Int} : upd (fun k => Int32.ofInt (f k)) j (Int32.ofInt x) = fun k => Int32.ofInt (if k = j then x else f k) := by
  funext k
  unfold upd
  split <;> rfl
theorem q_updL {f : Nat → Int} {j : Nat} {x : Int} : vp_updL (fun k => Int64.ofInt (f k)) j (Int64.ofInt x) = fun k => Int64.ofInt (if k = j then x else f k) := by
  funext k
  unfold vp_updL
  split <;> rfl
theorem q_ast_s {t : Nat} (Y : q_Y P NW SR s nL D cT A ad l st G M H locs ls) (ht3 : t ≠ 3) (hs : q_ast t l st G M ca sa = some T) (kk : q_KK p l0 e R s m args below meth c Q P NW SR nL D cT A ad G (pc + 1) T)
    (hw : ∀ (a n : Nat) (f : Nat → Int32) (i : Int32) (x : Int) (rest : List Value), (q_ws P cT ad G M)[a]? = some (ad a, .inl (cT t, n, .inl f)) → vp_in i n → (t = 0 ∨ (t = 1 ∧ (x = 0 ∨ x = 1)) ∨ (t = 2 ∧ 0 ≤ x ∧ x < 65536)) → (∀ (H1 : Heap) (locs1 : List Loc), va_P D vwCl ((q_ws P cT ad G M).set a (ad a, .inl (cT t, n, .inl (upd f i.toNatClampNeg (Int32.ofInt x))))) H1 → va_D A ((q_ws P cT ad G M).set a (ad a, .inl (cT t, n, .inl (upd f i.toNatClampNeg (Int32.ofInt x))))) → va_S A s.heap H1 locs1 → W p l0 e R s m args below meth c H1 locs1 ca sa Q (F0 m (pc + 1) ls rest)) → W p l0 e R s m args below meth c H locs ca sa Q (F0 m pc ls (.int (Int32.ofInt x) :: .int i :: .ref (ad a) :: rest))) : W p l0 e R s m args below meth c H locs ca sa Q (F0 m pc ls (st.map (q_cv ad))) := by
  unfold q_ast at hs
  split at hs
  · next x i a r =>
    obtain ⟨hxr, h0⟩ := q_tl Y.2.2.2.2.2.2.2.1 rfl
    obtain ⟨hir, h1⟩ := q_tl h0 rfl
    obtain ⟨ha, hr⟩ := q_tl h1 rfl
    split at hs
    · next t' n hG =>
      split at hs
      · next ht =>
        subst ht
        split at hs
        · next hi =>
          split at hs
          · next hfit =>
            cases hs
            obtain ⟨h2, h3⟩ := q_in hir hi
            have hg := q_ws_get (P := P) (cT := cT) (ad := ad) (M := M) hG
            simp only [q_c, q_ca, if_neg ht3] at hg
            refine hw a n _ (Int32.ofInt i) x (r.map (q_cv ad)) hg h2 hfit (fun H1 locs1 hP1 hD1 hS1 => ?_)
            rw [h3, q_upd] at hP1 hD1
            have e1 := q_ws_set (P := P) (cT := cT) (ad := ad) (M := M) (M' := q_up M a i.toNat x) hG q_up_o
            rw [q_up_k] at e1
            simp only [q_c, q_ca, if_neg ht3] at e1
            rw [e1] at hP1 hD1
            exact kk ad H1 locs1 ls q_adx.rf (Nat.le_refl _) ⟨hP1, hD1, hS1, Y.2.2.2.1, q_oM_up Y.2.2.2.2.1 (q_r_6 hxr) (fun _ => hxr), Y.2.2.2.2.2.1, Y.2.2.2.2.2.2.1, hr, Y.2.2.2.2.2.2.2.2.1, Y.2.2.2.2.2.2.2.2.2⟩
          · cases hs
        · cases hs
      · cases hs
    · cases hs
  · cases hs
theorem q_last_s (X : q_X p s m args meth c Rn co cc nL ini D cT A) (Y : q_Y P NW SR s nL D cT A ad l st G M H locs ls) (hs : q_last l st G M ca sa = some T) (kk : q_KK p l0 e R s m args below meth c Q P NW SR nL D cT A ad G (pc + 1) T) (hd : decode cc pc = .ok (.lastore, 1)) : W p l0 e R s m args below meth c H locs ca sa Q (F0 m pc ls (st.map (q_cv ad))) := by
  obtain ⟨hx, hb, hml, hown, hts, hK, hA, hin⟩ := X
  unfold q_last at hs
  split at hs
  · next x i a r =>
    obtain ⟨hxr, h0⟩ := q_tl Y.2.2.2.2.2.2.2.1 rfl
    obtain ⟨hir, h1⟩ := q_tl h0 rfl
    obtain ⟨ha, hr⟩ := q_tl h1 rfl
    split at hs
    · next t' n hG =>
      split at hs
      · next ht =>
        subst ht
        split at hs
        · next hi =>
          cases hs
          obtain ⟨h2, h3⟩ := q_in hir hi
          have hg := q_ws_get (P := P) (cT := cT) (ad := ad) (M := M) hG
          simp only [q_c, q_ca, if_true] at hg
          refine va_last hx hb hK Y.1 Y.2.1 Y.2.2.1 a 3 hg rfl h2 hd (fun H1 locs1 hP1 hD1 hS1 => ?_)
          rw [h3, q_updL] at hP1 hD1
          have e1 := q_ws_set (P := P) (cT := cT) (ad := ad) (M := M) (M' := q_up M a i.toNat x) hG q_up_o
          rw [q_up_k] at e1
          simp only [q_c, q_ca, if_true] at e1
          rw [e1] at hP1 hD1
          exact kk ad H1 locs1 ls q_adx.rf (Nat.le_refl _) ⟨hP1, hD1, hS1, Y.2.2.2.1, q_oM_up Y.2.2.2.2.1 hxr (fun h => absurd hG (h n)), Y.2.2.2.2.2.1, Y.2.2.2.2.2.2.1, hr, Y.2.2.2.2.2.2.2.2.1, Y.2.2.2.2.2.2.2.2.2⟩
        · cases hs
      · cases hs
    · cases hs
  · cases hs
theorem q_tys_get {t : Nat} (h : t ≤ 3) : ∃ ty, (q_tys cT)[t]? = some (cT t, ty) := by
  match t, h with
  | 0, _ => exact ⟨_, rfl⟩
  | 1, _ => exact ⟨_, rfl⟩
  | 2, _ => exact ⟨_, rfl⟩
  | 3, _ => exact ⟨_, rfl⟩
theorem q_len_s (X : q_X p s m args meth c Rn co cc nL ini D cT A) (hSo : q_Sok P) (Y : q_Y P NW SR s nL D cT A ad l st G M H locs ls) (hs : q_len P l st G M ca sa = some T) (kk : q_KK p l0 e R s m args below meth c Q P NW SR nL D cT A ad G (pc + 1) T) (hd : decode cc pc = .ok (.arraylength, 1)) : W p l0 e R s m args below meth c H locs ca sa Q (F0 m pc ls (st.map (q_cv ad))) := by
  obtain ⟨hx, hb, hml, hown, hts, hK, hA, hin⟩ := X
  unfold q_len at hs
  split at hs
  · next a r =>
    obtain ⟨ha, hr⟩ := q_tl Y.2.2.2.2.2.2.2.1 rfl
    split at hs
    · next h3000 =>
      subst h3000
      cases hs
      have := hSo.2.1
      exact va_tlen hx hb (Y.2.2.2.2.2.2.2.2.2.2.2.2.2.1) Y.2.2.1 (v := Int32.ofInt ((q_sc P).length : Int)) rfl hd (q_go Y kk (q_cons (show q_r ((q_sc P).length : Int) from ⟨by omega, by omega⟩) hr))
    split at hs
    · next h2000 =>
      split at hs
      · next bs hbs =>
        cases hs
        obtain ⟨k, rfl⟩ : ∃ k, a = 2000 + k := ⟨a - 2000, by omega⟩
        rw [show 2000 + k - 2000 = k by omega] at hbs
        obtain ⟨h2, h3, h4⟩ := q_sb_get hbs
        have hK9 := ((Y.2.2.2.2.2.2.2.2.2.2.2.1).1 k h2).2.2.2
        rw [h3, h4] at hK9
        have hbm := hSo.1 bs (List.mem_of_getElem? hbs)
        exact va_tlen hx hb hK9 Y.2.2.1 (v := Int32.ofInt (bs.length : Int)) rfl hd (q_go Y kk (q_cons (show q_r (bs.length : Int) from ⟨by omega, by omega⟩) hr))
      · cases hs
    · split at hs
      · next t n hG =>
        cases hs
        obtain ⟨h2, h3⟩ := Y.2.2.2.1.2.2 a t n hG
        obtain ⟨ty, hty⟩ := q_tys_get (cT := cT) h2
        exact va_alen hx hb hK Y.1 a t (q_ws_get hG) hty (v := Int32.ofInt (n : Int)) rfl hd (q_go Y kk (q_cons (show q_r (n : Int) from ⟨by omega, by omega⟩) hr))
      · cases hs
  · cases hs
end QA
end
section
section QN
variable {p : Program} {l0 : Launch} {e : Env} {R : Room} {s : State} {m : MethodId} {args : Array Value} {below : List Frame} {meth : Method} {c : Code} {Q : State → Prop}
variable {P : q_P} {NW : List (String × Nat × MethodName × String)} {SR : q_SRt} {Rn : Nat → String} {co : Nat} {cc : ByteArray} {nL : Nat} {ini : Bool} {D : va_G} {cT : Nat → ClassId} {A : Nat → Prop} {ad : Nat → Nat} {l : q_L} {st : List q_V} {G : q_G} {M : q_M} {H : Heap} {locs : List Loc} {ls : Array Slot} {ca sa pc len idx kc ks : Nat} {T : q_T}
/-- a thing more in the world -/
theorem q_ws_app {M' : q_M} {ad' : Nat → Nat} {sh : q_S} (hG : q_oG P G) (ha : q_adx G.length ad ad') (hM : ∀ a, a ≠ G.length → M' a = M a) : q_ws P cT ad' (G ++ [sh]) M' = q_ws P cT ad G M ++ [(ad' G.length, q_c P cT ad' sh (M' G.length))] := by
  have e1 : q_ws P cT ad' G M' = q_ws P cT ad G M := by
    rw [← q_ws_ext hG ha]
    apply List.ext_getElem?
    intro k
    simp only [q_ws, List.getElem?_mapIdx]
    rcases hk : G[k]? with _ | sh
    · rfl
    · have hl : k < G.length := (List.getElem?_eq_some_iff.mp hk).1
      simp only [Option.map_some, hM k (by omega)]
  rw [← e1]
  simp [q_ws, List.mapIdx_append]
theorem q_adn (q : Nat) (hl : G.length < 900) : q_adx G.length ad (fun k => if k = G.length then q else ad k) := fun k hk => by
  show (if k = G.length then q else ad k) = ad k
  rw [if_neg (by omega)]
theorem q_oG_app {sh : q_S} (hG : q_oG P G) (hl : G.length < 900) (h1 : ∀ (ci : Nat) (rs : List Nat), sh = .inr (ci, rs) → rs.length = q_nf P ci ∧ ci < 13 ∧ ∀ j r : Nat, rs[j]? = some (r + 1) → r < G.length) (h2 : ∀ t n : Nat, sh = .inl (t, n) → t ≤ 3 ∧ n ≤ 1000) : q_oG P (G ++ [sh]) := by
  have hcs : ∀ (i : Nat) (z : q_S), (G ++ [sh])[i]? = some z → G[i]? = some z ∨ z = sh := by
    intro i z hz
    by_cases e0 : i < G.length
    · rw [List.getElem?_append_left e0] at hz; exact Or.inl hz
    · rw [List.getElem?_append_right (by omega)] at hz
      have := List.mem_of_getElem? hz
      exact Or.inr (List.mem_singleton.mp this)
  refine ⟨by simp; omega, fun k ci rs hz => ?_, fun k t n hz => ?_⟩
  · rcases hcs k _ hz with h | h
    · obtain ⟨a, b, c⟩ := hG.2.1 k ci rs h
      exact ⟨a, b, fun j r hr => by have := c j r hr; simp; omega⟩
    · obtain ⟨a, b, c⟩ := h1 ci rs h.symm
      exact ⟨a, b, fun j r hr => by have := c j r hr; simp; omega⟩
  · rcases hcs k _ hz with h | h
    · exact hG.2.2 k t n h
    · exact h2 t n h.symm
theorem q_oM_app {sh : q_S} (h : q_oM G M) : q_oM (G ++ [sh]) (q_zr M G.length) := by
  intro a b
  unfold q_zr
  by_cases e0 : a = G.length
  · rw [if_pos e0]; exact ⟨⟨by decide, by decide⟩, fun _ => q_0r⟩
  · rw [if_neg e0]
    refine ⟨(h a b).1, fun hn => (h a b).2 (fun n hz => hn n ?_)⟩
    have := (List.getElem?_eq_some_iff.mp hz).1
    rw [List.getElem?_append_left this]; exact hz
theorem q_Y_app {sh : q_S} {q : Nat} {H1 : Heap} (Y : q_Y P NW SR s nL D cT A ad l st G M H locs ls) {r : List q_V} (hr : ∀ v ∈ r, q_ov G.length v) (hl : G.length < 900) (hG' : q_oG P (G ++ [sh]))
    (hP1 : va_P D vwCl (q_ws P cT ad G M ++ [(q, q_c P cT (fun k => if k = G.length then q else ad k) sh (fun _ => 0))]) H1) (hD1 : va_D A (q_ws P cT ad G M ++ [(q, q_c P cT (fun k => if k = G.length then q else ad k) sh (fun _ => 0))])) (hS1 : va_S A s.heap H1 locs) :
    q_Y P NW SR s nL D cT A (fun k => if k = G.length then q else ad k) l (.inr (.inr G.length) :: r) (G ++ [sh]) (q_zr M G.length) H1 locs ls := by
  have ha := q_adn (ad := ad) q hl
  have e1 := q_ws_app (P := P) (cT := cT) (M := M) (M' := q_zr M G.length) (sh := sh) Y.2.2.2.1 ha (fun a h => by funext b; simp [q_zr, h])
  have e2 : q_zr M G.length G.length = fun _ => 0 := by funext b; simp [q_zr]
  rw [e2] at e1
  have e3 : (if G.length = G.length then q else ad G.length) = q := if_pos rfl
  rw [e3] at e1
  refine ⟨by rw [e1]; exact hP1, by rw [e1]; exact hD1, hS1, hG', q_oM_app Y.2.2.2.2.1, Y.2.2.2.2.2.1.ext ha Y.2.2.2.2.2.2.1, fun v hv => q_ov_mono (Y.2.2.2.2.2.2.1 v hv) (by simp), q_cons (Or.inl (by simp)) (fun v hv => q_ov_mono (hr v hv) (by simp)), Y.2.2.2.2.2.2.2.2.1, ?_⟩
  obtain ⟨a1, a2, a3, a4⟩ := Y.2.2.2.2.2.2.2.2.2
  have f1 : ∀ i, (fun k => if k = G.length then q else ad k) (1000 + i) = ad (1000 + i) := fun i => ha _ (Or.inr (by omega))
  have f2 : ∀ i, (fun k => if k = G.length then q else ad k) (2000 + i) = ad (2000 + i) := fun i => ha _ (Or.inr (by omega))
  have f3 : (fun k => if k = G.length then q else ad k) 3000 = ad 3000 := ha _ (Or.inr (by decide))
  refine ⟨a1, fun r hr => by rw [f1]; exact a2 r hr, ?_, a4.1, by rw [f3]; exact a4.2⟩
  simp only [f1, f2]
  exact a3
theorem q_newa_s {at' : ArrayType} (X : q_X p s m args meth c Rn co cc nL ini D cT A) (hAo : q_Aok) (hkc : kc ≤ R.cells) (hks : ks ≤ R.slots) (Y : q_Y P NW SR s nL D cT A ad l st G M H locs ls) (hs : q_newa kc ks at' l st G M ca sa = some T) (kk : q_KK p l0 e R s m args below meth c Q P NW SR nL D cT A ad G (pc + 2) T) (hd : decode cc pc = .ok (.newarray at', 2)) : W p l0 e R s m args below meth c H locs ca sa Q (F0 m pc ls (st.map (q_cv ad))) := by
  obtain ⟨hx, hb, hml, hown, hts, hK, hA, hin⟩ := X
  unfold q_newa at hs
  split at hs
  · next x r =>
    obtain ⟨hxr, hr⟩ := q_tl Y.2.2.2.2.2.2.2.1 rfl
    split at hs
    · next h =>
      obtain ⟨h0, h1, h2, h3, h4, h5⟩ := h
      cases hs
      have hn0 : ¬ Int32.ofInt x < 0 := fun h => by
        have := (q_lt hxr q_0r).mp h; omega
      have hN : (Int32.ofInt x).toNatClampNeg = x.toNat := by show (Int32.ofInt x).toInt.toNat = x.toNat; rw [q_toI hxr]
      have main : ∀ (t : Nat) (ty : FieldType), newarray.typeOf at' = ty → q_at at' = t → (q_tys cT)[t]? = some (cT t, ty) → Cond.arrayClass ty ∈ q_WT → (∀ cA : ClassId, vp_cell cA (x.toNat, q_ca t (fun _ => 0)) = arrV cA x.toNat (fun _ => defaultValue ty)) → x.toNat * componentBytes ty ≤ 536870912 → (∀ cA cB : ClassId, va_RA s cA ty → va_RA s cB ty → cA = cB) → W p l0 e R s m args below meth c H locs ca sa Q (F0 m pc ls (.int (Int32.ofInt x) :: r.map (q_cv ad))) := by
        intro t ty hty hqt htys hw hcell hby hinj
        refine va_newa hx hb (by rw [hty]; exact hts _ hw) hty hK Y.1 Y.2.1 Y.2.2.1 hA hcell hn0 hN hby (by omega) (by omega) hd (fun q cA H1 hK1 hP1 hD1 hS1 => ?_)
        have hcA : cA = cT t := hinj _ _ (hK1.2 4 (cA, ty) rfl).2 (hK.2 t _ htys).2
        subst hcA
        have ha := q_adn (ad := ad) q h5
        have hG' : q_oG P (G ++ [.inl (q_at at', x.toNat)]) := q_oG_app Y.2.2.2.1 h5 (fun ci rs h => by cases h) (fun t n h => by cases h; exact ⟨h2, by omega⟩)
        have Y' := q_Y_app (sh := .inl (q_at at', x.toNat)) (q := q) (H1 := H1) Y hr h5 hG' (by rw [hqt]; exact hP1) (by rw [hqt]; exact hD1) hS1
        have := kk _ H1 locs ls ha (by simp) Y'
        simp only [List.map_cons, q_cv, if_true] at this
        rw [q_map_ext ha hr] at this
        exact this
      cases at' with
      | int => exact main 0 .int rfl rfl rfl hAo.1 (fun _ => rfl) (by simp [componentBytes]; omega) (fun a b h1 h2 => Option.some.inj (Eq.trans (Eq.symm h1) h2))
      | boolean => exact main 1 .boolean rfl rfl rfl hAo.2.1 (fun _ => rfl) (by simp [componentBytes]; omega) (fun a b h1 h2 => Option.some.inj (Eq.trans (Eq.symm h1) h2))
      | char => exact main 2 .char rfl rfl rfl hAo.2.2.1 (fun _ => rfl) (by simp [componentBytes]; omega) (fun a b h1 h2 => Option.some.inj (Eq.trans (Eq.symm h1) h2))
      | long => exact main 3 .long rfl rfl rfl hAo.2.2.2 (fun _ => rfl) (by simp [componentBytes]; omega) (fun a b h1 h2 => Option.some.inj (Eq.trans (Eq.symm h1) h2))
      | _ => exact absurd h2 (by decide)
    · cases hs
  · cases hs
theorem q_new_s (X : q_X p s m args meth c Rn co cc nL ini D cT A) (hC : q_Cok P Rn) (hNo : q_Nok P Rn) (hkc : kc ≤ R.cells) (hks : ks ≤ R.slots) (Y : q_Y P NW SR s nL D cT A ad l st G M H locs ls) (hs : q_new P kc ks co idx l st G M ca sa = some T) (kk : q_KK p l0 e R s m args below meth c Q P NW SR nL D cT A ad G (pc + 3) T) (hd : decode cc pc = .ok (.new idx, 3)) : W p l0 e R s m args below meth c H locs ca sa Q (F0 m pc ls (st.map (q_cv ad))) := by
  obtain ⟨hx, hb, hml, hown, hts, hK, hA, hin⟩ := X
  unfold q_new at hs
  split at hs
  · next ci hcn =>
    split at hs
    · next h =>
      obtain ⟨h3, h4, h5⟩ := h
      cases hs
      obtain ⟨C, T0, N, hcl, hw1, hw2, hw3⟩ := hNo _ _ _ hcn
      obtain ⟨hN, -, hRn, hws, hnm, ty, hty, hft⟩ := hC ci C T0 N hcl
      have hc13 : ci < 13 := (List.getElem?_eq_some_iff.mp hcl).1
      have hr := Y.2.2.2.2.2.2.2.1
      have hfs : ∀ (ad' : Nat → Nat) (j : Nat), j < N → defaultValue (ty j) = vp_V ((List.range (q_nf P ci)).map (q_sv P ad' ci (List.replicate (q_nf P ci) 0) (fun _ => 0))) j := by
        intro ad' j hj
        have : ((List.range (q_nf P ci)).map (q_sv P ad' ci (List.replicate (q_nf P ci) 0) (fun _ => 0))).getD j .null = q_sv P ad' ci (List.replicate (q_nf P ci) 0) (fun _ => 0) j := by
          rw [List.getD_eq_getElem?_getD, List.getElem?_map, List.getElem?_range (by omega)]; rfl
        unfold vp_V
        rw [this]
        unfold q_sv
        rcases hft j hj with ⟨a, b, -⟩ | ⟨a, b, -⟩ | ⟨a, -, -, b⟩
        · rw [b, a]; rfl
        · rw [b, a]; rfl
        · rw [if_pos a]
          have e9 : (List.replicate (q_nf P ci) (0 : Nat))[j]? = some 0 := by rw [List.getElem?_replicate, if_pos (by omega)]
          rw [e9]
          rcases b with ⟨n, b⟩ | ⟨t, b⟩ <;> rw [b] <;> rfl
      have key : ∀ ad1 ad2 : Nat → Nat, q_sv P ad1 ci (List.replicate (q_nf P ci) 0) (fun _ => 0) = q_sv P ad2 ci (List.replicate (q_nf P ci) 0) (fun _ => 0) := by
        intro ad1 ad2
        funext j
        unfold q_sv
        split
        · rcases hj : (List.replicate (q_nf P ci) 0)[j]? with _ | (_ | r)
          · rfl
          · rfl
          · simp [List.getElem?_replicate] at hj
        · rfl
      refine va_new hx hb hts hws ty hty hown (hts _ hw1) (hts _ hw2) (hts _ hw3) hK Y.1 Y.2.1 Y.2.2.1 hA hcl (fun j hj => hfs ad j hj) (by omega) (by omega) hd (fun q H1 hP1 hD1 hS1 => ?_)
      have ha := q_adn (ad := ad) q h5
      have hG' : q_oG P (G ++ [.inr (ci, List.replicate (q_nf P ci) 0)]) := q_oG_app Y.2.2.2.1 h5 (fun ci' rs h => by cases h; exact ⟨by simp, hc13, fun j r hr => by simp [List.getElem?_replicate] at hr⟩) (fun t n h => by cases h)
      have hq : q_c P cT (fun k => if k = G.length then q else ad k) (.inr (ci, List.replicate (q_nf P ci) 0)) (fun _ => 0) = .inr (ci, (List.range (q_nf P ci)).map (q_sv P ad ci (List.replicate (q_nf P ci) 0) (fun _ => 0))) := by
        simp only [q_c]
        rw [key (fun k => if k = G.length then q else ad k) ad]
      have Y' := q_Y_app (sh := .inr (ci, List.replicate (q_nf P ci) 0)) (q := q) (H1 := H1) Y hr h5 hG' (by rw [hq]; exact hP1) (by rw [hq]; exact hD1) hS1
      have := kk _ H1 locs ls ha (by simp) Y'
      simp only [List.map_cons, q_cv, if_true] at this
      rw [q_map_ext ha hr, hN] at this
      exact this
    · cases hs
  · cases hs
end QN
end
section
/-! calls: a callee's contract over the small machine's answer -/
abbrev q_ym : Type := Nat → MethodName × ByteArray × Nat × Option FieldType
/-- a method's table of exceptions, where it has one -/
def q_hh (y : MethodName) : Option (List (Nat × Nat × Nat × Nat)) := if y.cls = "QueryLoopsLaw" then (if y.name = "row" then some [(0, 9, 12, 13), (0, 9, 15, 15)] else if y.name = "compile" then some [(0, 8, 11, 13)] else if y.name = "run" then some [(0, 8, 11, 15), (0, 8, 14, 24)] else none) else none
def q_cw (Y : MethodName × ByteArray × Nat × Option FieldType) : Cond := match q_hh Y.1 with
  | some hh => .codeWith Y.1 Y.2.1 Y.2.2.1 Y.2.2.2 hh
  | none => .code Y.1 Y.2.1 Y.2.2.1 Y.2.2.2
def q_mW (Y : MethodName × ByteArray × Nat × Option FieldType) : List Cond := q_cw Y :: q_WT
def q_rm (d mc ms : Nat) : Room := { frames := d, cells := mc, slots := ms, locals := 64 * d }
def q_Pre (P : q_P) (NW : List (String × Nat × MethodName × String)) (SR : q_SRt) (D : va_G) (cT : Nat → ClassId) (ad : Nat → Nat) (as : List q_V) (G : q_G) (M : q_M) (sz : Nat) : Array Value → State → Prop := va_Pc (as.map (q_cv ad)) (fun U => U.heap.size = sz ∧ va_P D vwCl (q_ws P cT ad G M) U.heap ∧ va_K D vwCl (q_tys cT) U ∧ va_D (fun _ => True) (q_ws P cT ad G M) ∧ q_E P NW SR ad (va_A (q_ws P cT ad G M) sz) U U.heap)
def q_Pst (P : q_P) (D : va_G) (cT : Nat → ClassId) (ad : Nat → Nat) (G : q_G) (M : q_M) (sz : Nat) (r : Option q_V) (G' : q_G) (M' : q_M) (oc : Outcome) (t : State) : Prop := ∃ ad' : Nat → Nat, q_adx G.length ad ad' ∧ oc = .returned (r.map (q_cv ad')) ∧ va_P D vwCl (q_ws P cT ad' G' M') t.heap ∧ va_D (va_A (q_ws P cT ad G M) sz) (q_ws P cT ad' G' M') ∧ q_oG P G' ∧ q_oM G' M' ∧ G.length ≤ G'.length ∧ (∀ v, r = some v → q_ov G'.length v)
def q_Post (P : q_P) (D : va_G) (cT : Nat → ClassId) (ad : Nat → Nat) (G : q_G) (M : q_M) (sz : Nat) (r : Option q_V) (G' : q_G) (M' : q_M) : Array Value → State → Outcome → State → Prop := fun _ st oc t => q_Pst P D cT ad G M sz r G' M' oc t ∧ va_F (va_A (q_ws P cT ad G M) sz) st t
/-- what the small machine says of a method is so, with d frames left -/
def q_Sd (l0 : Launch) (P : q_P) (NW : List (String × Nat × MethodName × String)) (SR : q_SRt) (d mc ms : Nat) (Y : MethodName × ByteArray × Nat × Option FieldType) (f : List q_V → q_G → q_M → Option (Option q_V × q_G × q_M)) : Prop :=
  ∀ (D : va_G) (cT : Nat → ClassId) (ad : Nat → Nat) (as : List q_V) (G : q_G) (M : q_M) (r : Option q_V) (G' : q_G) (M' : q_M), f as G M = some (r, G', M') → q_oG P G → q_oM G M → (∀ v ∈ as, q_ov G.length v) →
    ∀ sz, Met l0 Y.1 (q_mW Y) (q_rm d mc ms) (q_Pre P NW SR D cT ad as G M sz) (q_Post P D cT ad G M sz r G' M') mc ms (va_A (q_ws P cT ad G M) sz)
theorem q_Pre_blind {P : q_P} {NW : List (String × Nat × MethodName × String)} {SR : q_SRt} {D : va_G} {cT : Nat → ClassId} {ad : Nat → Nat} {as : List q_V} {G : q_G} {M : q_M} {sz : Nat} : FrameBlind (q_Pre P NW SR D cT ad as G M sz) := by
  intro a U g mk h
  obtain ⟨h0, h1, h2, h3, h4, e1, e2, e3, e4, e5⟩ := h
  exact ⟨h0, h1, h2, va_K.moved (u := U) (U := U.calling g mk a) (Vm.Alike.refl U.vm) h3, h4, fun w hw => va_Nw.same rfl (show U.vm = (U.calling g mk a).vm from rfl) (e1 w hw), fun r hr => vk_R.same (show (U.calling g mk a).vm = U.vm from rfl) (e2 r hr), vk_S.moved (u := U) (U := U.calling g mk a) (Vm.Alike.refl U.vm) e3, va_Z.moved (u := U) (U := U.calling g mk a) (Vm.Alike.refl U.vm) e4, va_T.moved (u := U) (U := U.calling g mk a) (Vm.Alike.refl U.vm) e5.1, fun z hz => vx_Zq.moved (u := U) (U := U.calling g mk a) (Vm.Alike.refl U.vm) (e5.2.1 z hz), fun x hx => va_Nw.same rfl (show U.vm = (U.calling g mk a).vm from rfl) (e5.2.2.1 x hx), fun x hx => va_Nw.same rfl (show U.vm = (U.calling g mk a).vm from rfl) (e5.2.2.2.1 x hx), fun x hx => va_Nc.moved (u := U) (U := U.calling g mk a) (Vm.Alike.refl U.vm) (e5.2.2.2.2 x hx)⟩
/-- the table of calls is right -/
def q_Mok (P : q_P) (ym : q_ym) (NW : List (String × Nat × MethodName × String)) (Rn : Nat → String) : Prop := ∀ co idx w na mid : Nat, q_mk P co idx = some (w, na, mid) →
  (w = 9 ∧ na = 1 ∧ Cond.methodLink (Rn co) idx Lib.objectInit ∈ q_WT ∧ Cond.instanceMethod Lib.objectInit ∈ q_WT ∧ Cond.code Lib.objectInit ⟨#[0xb1]⟩ 1 none ∈ q_WT) ∨
  (w ≠ 9 ∧ q_cw (ym mid) ∈ q_WT ∧ (q_hh (ym mid).1 = none ∨ w = 5) ∧ Cond.initialized (ym mid).1.cls ∈ q_WT ∧ (ym mid).1.cls ≠ "java/lang/invoke/MethodHandle" ∧ (ym mid).1.cls ≠ "java/lang/invoke/VarHandle" ∧ (ym mid).2.2.1 ≤ 40 ∧
    ((w = 0 ∧ 1 ≤ na ∧ Cond.methodLink (Rn co) idx (ym mid).1 ∈ q_WT ∧ Cond.instanceMethod (ym mid).1 ∈ q_WT ∧ Cond.selects (ym mid).1.cls (ym mid).1 (ym mid).1 ∈ q_WT ∧ (parseMethodDescriptor (ym mid).1.desc).map (fun d => d.parameters.length) = some (na - 1) ∧ (((q_mm P mid).1 = 100 ∧ (ym mid).1.cls = "java/lang/String") ∨ ((q_mm P mid).1 ≠ 100 ∧ ∀ q, vwCl[(q_mm P mid).1]? = some q → q.1 = (ym mid).1.cls))) ∨
     (w = 1 ∧ Cond.methodLink (Rn co) idx (ym mid).1 ∈ q_WT ∧ Cond.static (ym mid).1 ∈ q_WT ∧ (parseMethodDescriptor (ym mid).1.desc).map (fun d => d.parameters.length) = some na) ∨
     (w = 2 ∧ 1 ≤ na ∧ Cond.methodLink (Rn co) idx (ym mid).1 ∈ q_WT ∧ Cond.instanceMethod (ym mid).1 ∈ q_WT ∧ (ym mid).1.name = "<init>" ∧ (ym mid).2.2.2 = none ∧ (parseMethodDescriptor (ym mid).1.desc).map (fun d => d.parameters.length) = some (na - 1)) ∨
     (w = 5 ∧ (∃ hh, q_hh (ym mid).1 = some hh) ∧ Cond.methodLink (Rn co) idx (ym mid).1 ∈ q_WT ∧ Cond.static (ym mid).1 ∈ q_WT ∧ (parseMethodDescriptor (ym mid).1.desc).map (fun d => d.parameters.length) = some na) ∨
     (w = 3 ∧ (∃ h, (Rn co, idx, (ym mid).1, h) ∈ NW) ∧ Cond.static (ym mid).1 ∈ q_WT ∧ (parseMethodDescriptor (ym mid).1.desc).map (fun d => d.parameters.length) = some na) ∨
     (w = 4 ∧ 1 ≤ na ∧ (∃ h, (Rn co, idx, (ym mid).1, h) ∈ NW) ∧ Cond.instanceMethod (ym mid).1 ∈ q_WT ∧ (ym mid).1.name = "<init>" ∧ (ym mid).2.2.2 = none ∧ (parseMethodDescriptor (ym mid).1.desc).map (fun d => d.parameters.length) = some (na - 1))))
theorem q_WT_good : GoodIn q_WT q_WT := fun w hw => ⟨hw, good_of_word (List.mem_filter.mp hw).2⟩
theorem q_mW_good {Y : MethodName × ByteArray × Nat × Option FieldType} (h : q_cw Y ∈ q_WT) : GoodIn q_WT (q_mW Y) := fun w hw => (List.mem_cons.mp hw).elim (fun e => e ▸ q_WT_good _ h) (fun h => q_WT_good w h)
section QI
variable {p : Program} {l0 : Launch} {e : Env} {R : Room} {s : State} {m : MethodId} {args : Array Value} {below : List Frame} {meth : Method} {c : Code} {Q : State → Prop}
variable {P : q_P} {NW : List (String × Nat × MethodName × String)} {SR : q_SRt} {Rn : Nat → String} {co : Nat} {cc : ByteArray} {nL : Nat} {ini : Bool} {D : va_G} {cT : Nat → ClassId} {A : Nat → Prop} {ad : Nat → Nat} {l : q_L} {st : List q_V} {G : q_G} {M : q_M} {H : Heap} {locs : List Loc} {ls : Array Slot} {ca sa pc len idx kc ks : Nat} {T : q_T}
/-- behind a call -/
theorem q_fin {mc ms : Nat} {as rest : List q_V} {rr : Option q_V} {G' : q_G} {M' : q_M} {av : Array Value} (Y : q_Y P NW SR s nL D cT A ad l st G M H locs ls) (hr : va_Run p l0 e R s m args below meth c H locs ca sa mc ms (F0 m pc ls (st.map (q_cv ad))) (rest.map (q_cv ad)) (q_Post P D cT ad G M H.size rr G' M' av) (va_A (q_ws P cT ad G M) H.size))
    (hA : ∀ q, s.heap.size ≤ q → A q) (hrest : ∀ v ∈ rest, q_ov G.length v)
    (kk : q_KK p l0 e R s m args below meth c Q P NW SR nL D cT A ad G (pc + 3) (l, rr.toList ++ rest, G', M', ca + mc, sa + ms)) : W p l0 e R s m args below meth c H locs ca sa Q (F0 m pc ls (st.map (q_cv ad))) := by
  have hAA : ∀ q, va_A (q_ws P cT ad G M) H.size q → A q := by
    rintro q (⟨k, e0, h⟩ | h)
    · exact Y.2.1.2 k _ h
    · exact hA q (Nat.le_trans Y.2.2.1.1 h)
  intro T hT X
  obtain ⟨v, st₀, t, T', L, h0, X', hL, e1, e2, ⟨⟨ad', ha, hv, hP', hD', hG', hM', hle, hrv⟩, hz, hk⟩, stp⟩ := hr T hT X
  cases hv
  rw [h0] at hz hk
  have hS' : va_S A s.heap T'.heap (locs ++ L) := ⟨Nat.le_trans Y.2.2.1.1 (by rw [e1]; exact hz), fun q h1 h2 => by rw [e1, hk q (Nat.lt_of_lt_of_le h1 Y.2.2.1.1) (fun z => h2 (hAA q z))]; exact Y.2.2.1.2.1 q h1 h2, fun q hq => by
      rcases List.mem_append.mp hq with h | h
      · exact Y.2.2.1.2.2 q h
      · exact hAA _ (hL q h)⟩
  have hrest' : rest.map (q_cv ad') = rest.map (q_cv ad) := q_map_ext ha hrest
  have Yn : q_Y P NW SR s nL D cT A ad' l (rr.toList ++ rest) G' M' T'.heap (locs ++ L) ls := by
    refine ⟨by rw [e1]; exact hP', hD'.weaken (fun k q _ h => hAA _ h), hS', hG', hM', Y.2.2.2.2.2.1.ext ha Y.2.2.2.2.2.2.1, fun v hv => q_ov_mono (Y.2.2.2.2.2.2.1 v hv) hle, fun v hv => ?_, Y.2.2.2.2.2.2.2.2.1, ?_⟩
    · rcases List.mem_append.mp hv with h | h
      · exact hrv v (by cases rr with
          | none => simp at h
          | some w => simp at h; rw [h])
      · exact q_ov_mono (hrest v h) hle
    · obtain ⟨a1, a2, a3, a4⟩ := Y.2.2.2.2.2.2.2.2.2
      have f1 : ∀ i, ad' (1000 + i) = ad (1000 + i) := fun i => ha _ (Or.inr (by omega))
      have f2 : ∀ i, ad' (2000 + i) = ad (2000 + i) := fun i => ha _ (Or.inr (by omega))
      refine ⟨a1, fun r hr => by rw [f1]; exact a2 r hr, ?_, a4.1, by rw [ha 3000 (Or.inr (by decide))]; exact a4.2⟩
      simp only [f1, f2]
      exact a3
  have hW := kk ad' T'.heap (locs ++ L) ls ha hle Yn
  obtain ⟨t2, a1, b1⟩ := hW T' rfl X'
  refine ⟨t2, stp t2 ?_, b1⟩
  have e9 : (rr.toList ++ rest).map (q_cv ad') = (rr.map (q_cv ad')).toList ++ rest.map (q_cv ad) := by
    rw [List.map_append, hrest']
    cases rr <;> rfl
  simp only [e9] at a1
  exact a1
theorem q_take {na : Nat} (h : na ≤ st.length) : st.map (q_cv ad) = (((st.take na).reverse).map (q_cv ad)).reverse ++ (st.drop na).map (q_cv ad) := by
  rw [← List.map_reverse, List.reverse_reverse, ← List.map_append, List.take_append_drop]
theorem q_cats : ∀ (r : List q_V), (r.map (q_cv ad)).map (fun v => v.category) = r.map q_cat := fun r => by
  rw [List.map_map]
  exact List.map_congr_left (fun v _ => q_cvcat ad v)
end QI
end
section
section QJ
variable {p : Program} {l0 : Launch} {e : Env} {R : Room} {s : State} {m : MethodId} {args : Array Value} {below : List Frame} {meth : Method} {c : Code} {Q : State → Prop}
variable {P : q_P} {NW : List (String × Nat × MethodName × String)} {SR : q_SRt} {Rn : Nat → String} {co : Nat} {cc : ByteArray} {nL : Nat} {ini : Bool} {D : va_G} {cT : Nat → ClassId} {A : Nat → Prop} {ad : Nat → Nat} {l : q_L} {st : List q_V} {G : q_G} {M : q_M} {H : Heap} {locs : List Loc} {ls : Array Slot} {ca sa pc len idx kc ks d : Nat} {T : q_T} {orc : q_O} {ym : q_ym}
theorem q_PcU {as : List q_V} (hK : va_K D vwCl (q_tys cT) s) (hA : ∀ q, s.heap.size ≤ q → A q) (Y : q_Y P NW SR s nL D cT A ad l st G M H locs ls) : ∀ U : State, U.heap = H → s.WarmedH U.vm → q_Pre P NW SR D cT ad as G M H.size (as.map (q_cv ad)).toArray U := by
  intro U hU hW
  have hAA : ∀ q, va_A (q_ws P cT ad G M) H.size q → A q := by
    rintro q (⟨k, e0, h⟩ | h)
    · exact Y.2.1.2 k _ h
    · exact hA q (Nat.le_trans Y.2.2.1.1 h)
  exact ⟨rfl, by rw [hU], by rw [hU]; exact Y.1, va_K.moved hW.alike hK, Y.2.1.weaken (fun _ _ _ _ => trivial), Y.2.2.2.2.2.2.2.2.2.go (n := 0) Y.2.2.1 hW hU hAA q_adx.rf⟩
theorem q_call_s {ws : List Nat} {ins : Instr} (X : q_X p s m args meth c Rn co cc nL ini D cT A) (hMo : q_Mok P ym NW Rn) (hO : ∀ mid, q_Sd l0 P NW SR d (q_mm P mid).2.1 (q_mm P mid).2.2 (ym mid) (orc mid)) (hRf : d + 1 ≤ R.frames) (hRl : 64 * (d + 1) ≤ R.locals) (hkc : kc ≤ R.cells) (hks : ks ≤ R.slots) (Y : q_Y P NW SR s nL D cT A ad l st G M H locs ls) (hs : q_call orc P kc ks ws co idx l st G M ca sa = some T) (kk : q_KK p l0 e R s m args below meth c Q P NW SR nL D cT A ad G (pc + 3) T)
    (hd : decode cc pc = .ok (ins, 3)) (hins : (ins = .invokevirtual idx ∧ ws = [0]) ∨ (ins = .invokestatic idx ∧ ws = [1, 3, 5]) ∨ (ins = .invokespecial idx ∧ ws = [2, 4, 9])) : W p l0 e R s m args below meth c H locs ca sa Q (F0 m pc ls (st.map (q_cv ad))) := by
  obtain ⟨hx, hb, hml, hown, hts, hK, hA, hin⟩ := X
  have hsz : ls.size = nL := by rw [Y.2.2.2.2.2.1.1]; exact Y.2.2.2.2.2.2.2.2.1
  unfold q_call at hs
  split at hs
  · next w na mid hmk =>
    split at hs
    · next h =>
      obtain ⟨hw, hna, hcat⟩ := h
      have hrest : ∀ v ∈ st.drop na, q_ov G.length v := fun v hv => Y.2.2.2.2.2.2.2.1 v (List.mem_of_mem_drop hv)
      have hcat' : (((st.drop na).map (q_cv ad)).map (fun v => v.category)).sum ≤ 8 := by rw [q_cats]; exact hcat
      rcases hMo _ _ _ _ _ hmk with ⟨hw9, hna1, hl1, hl2, hl3⟩ | ⟨hw9, hcode, hhn, hini, hmh, hvh, hml40, hcase⟩
      · rw [if_pos hw9] at hs
        subst hw9; subst hna1
        split at hs
        · next a r =>
          cases hs
          rcases hins with ⟨-, h⟩ | ⟨-, h⟩ | ⟨h, -⟩
          · rw [h] at hw; exact absurd hw (by decide)
          · rw [h] at hw; exact absurd hw (by decide)
          · subst h
            obtain ⟨-, hr⟩ := q_tl Y.2.2.2.2.2.2.2.1 rfl
            have hcat2 : ((r.map (q_cv ad)).map (fun v => v.category)).sum ≤ 8 := hcat'
            refine W.objInit hx hb hown (hts _ hl1) (hts _ hl2) (hts _ hl3) (a := ad a) (rest := r.map (q_cv ad)) rfl (by rw [hml]; exact hsz) rfl hd (by omega) ?_ (q_go Y kk hr)
            have := lv_room (m := m) (pc := pc) (ls := ls) (rest := r.map (q_cv ad)) hcat2
            have e9 : (F0 m pc ls ((Sum.inr (Sum.inr a) :: r).map (q_cv ad))).monitorRoom = (F0 m pc ls (r.map (q_cv ad))).monitorRoom := rfl
            omega
        · cases hs
      · rw [if_neg hw9] at hs
        split at hs
        · next h2 =>
          obtain ⟨hrc, hc1, hc2⟩ := h2
          split at hs
          · next rr G' M' horc =>
            cases hs
            have has : ∀ v ∈ (st.take na).reverse, q_ov G.length v := fun v hv => Y.2.2.2.2.2.2.2.1 v (List.mem_of_mem_take (List.mem_reverse.mp hv))
            have g5 := hO mid D cT ad _ G M rr G' M' horc Y.2.2.2.1 Y.2.2.2.2.1 has
            have hMet := g5 H.size
            have hU := q_PcU (as := (st.take na).reverse) hK hA Y
            have hstk := q_take (ad := ad) hna
            have hgood := q_mW_good hcode
            have hR9 : (q_rm d (q_mm P mid).2.1 (q_mm P mid).2.2).frames + 1 ≤ R.frames ∧ 8 + ((ym mid).2.2.1 + 11) + (q_rm d (q_mm P mid).2.1 (q_mm P mid).2.2).locals ≤ R.locals := ⟨hRf, by show 8 + ((ym mid).2.2.1 + 11) + 64 * d ≤ R.locals; omega⟩
            have hroom : 2 * (F0 m pc ls (st.map (q_cv ad))).monitorRoom + (((st.drop na).map (q_cv ad)).map fun v => v.category).sum ≤ 8 := lv_room hcat'
            have hcs : ca + (q_mm P mid).2.1 ≤ R.cells ∧ sa + (q_mm P mid).2.2 ≤ R.slots := ⟨by omega, by omega⟩
            have fin := fun (av : Array Value) (hr : va_Run p l0 e R s m args below meth c H locs ca sa (q_mm P mid).2.1 (q_mm P mid).2.2 (F0 m pc ls (st.map (q_cv ad))) ((st.drop na).map (q_cv ad)) (q_Post P D cT ad G M H.size rr G' M' av) (va_A (q_ws P cT ad G M) H.size)) => q_fin (as := []) Y hr hA hrest kk
            have hlen : (st.take na).reverse.length = na := by simp; omega
            have hcd : w ≠ 5 → q_mW (ym mid) = Cond.code (ym mid).1 (ym mid).2.1 (ym mid).2.2.1 (ym mid).2.2.2 :: q_WT := fun h5 => by
              unfold q_mW q_cw
              rw [hhn.resolve_right h5]
            rcases hcase with ⟨rfl, hn1, k1, k2, k3, k4, k5⟩ | ⟨rfl, k1, k2, k3⟩ | ⟨rfl, hn1, k1, k2, k3, k4, k5⟩ | ⟨rfl, ⟨hh, k0⟩, k1, k2, k3⟩ | ⟨rfl, ⟨hh, k1⟩, k2, k3⟩ | ⟨rfl, hn1, ⟨hh, k1⟩, k2, k3, k4, k5⟩
            · rcases hins with ⟨hi, -⟩ | ⟨-, h⟩ | ⟨-, h⟩
              · subst hi
                have hrc : q_rc P G (q_mm P mid).1 (st.take na).reverse = true := ((hrc.resolve_left (by decide)).resolve_left (by decide)).resolve_left (by decide)
                rcases hta : (st.take na).reverse with _ | ⟨v0, as'⟩
                · rw [hta] at hrc; exact absurd hrc (by simp [q_rc])
                · rw [hta] at hrc hU hMet hstk hlen
                  rcases v0 with x | x | a
                  · exact absurd hrc (by simp [q_rc])
                  · exact absurd hrc (by simp [q_rc])
                  · have hrecv : ∃ cellB : Cell, H[ad a]? = some cellB ∧ cellB.vm.isStatics = false ∧ s.vm.findClass (ym mid).1.cls = some cellB.cls := by
                      rcases k5 with ⟨k5, k6⟩ | ⟨k5, k6⟩
                      · simp only [q_rc, k5, if_true, decide_eq_true_eq] at hrc
                        obtain ⟨i, rfl⟩ : ∃ i, a = 1000 + i := ⟨a - 1000, by omega⟩
                        rw [k6]
                        exact vk_recv (i := i) (Y.2.2.2.2.2.2.2.2.2.2.2.1) (by omega) Y.2.2.1
                      · simp only [q_rc, if_neg k5] at hrc
                        rcases hGa : G[a]? with _ | (x | ⟨cj, rs⟩)
                        · rw [hGa] at hrc; simp at hrc
                        · rw [hGa] at hrc; simp at hrc
                        · rw [hGa] at hrc
                          simp only [decide_eq_true_eq] at hrc
                          obtain ⟨-, hc13, -⟩ := Y.2.2.2.1.2.1 a cj rs hGa
                          obtain ⟨C, T0, N, hcl⟩ := q_cl13 hc13
                          have := va_recv hK Y.1 hcl (q_ws_get hGa)
                          rw [← k6 (C, T0, N) (by rw [← hrc]; exact hcl)]
                          exact this
                    have hstk2 : (F0 m pc ls (st.map (q_cv ad))).stack = (as'.map (q_cv ad)).reverse ++ .ref (ad a) :: (st.drop na).map (q_cv ad) := by
                      show st.map (q_cv ad) = _
                      rw [hstk]
                      simp [q_cv]
                    refine fin _ (va_runV (As := as'.map (q_cv ad)) (rest := (st.drop na).map (q_cv ad)) ⟨hx, hb, hml, hown, hts⟩ hMet (cwV (na - 1) hts ?_ (hcd (by decide)) rfl rfl ⟨rfl, hmh, hvh, k4⟩ hR9) ⟨q_Pre_blind, hrecv, hU⟩ rfl (by simp at hlen ⊢; omega) hsz hstk2 hroom hd hcs)
                    intro w hw
                    rcases List.mem_append.mp hw with h | h
                    · simp only [List.mem_cons, List.not_mem_nil, or_false] at h
                      rcases h with rfl | rfl | rfl | rfl
                      · exact q_WT_good _ k1
                      · exact q_WT_good _ k2
                      · exact q_WT_good _ k3
                      · exact q_WT_good _ hini
                    · exact hgood w h
              · rw [h] at hw; exact absurd hw (by decide)
              · rw [h] at hw; exact absurd hw (by decide)
            · rcases hins with ⟨-, h⟩ | ⟨hi, -⟩ | ⟨-, h⟩
              · rw [h] at hw; exact absurd hw (by decide)
              · subst hi
                exact fin _ (va_runS (As := (st.take na).reverse.map (q_cv ad)) (rest := (st.drop na).map (q_cv ad)) ⟨hx, hb, hml, hown, hts⟩ hMet ⟨callB_of na hts hgood (hcd (by decide)) rfl rfl (hts _ hini) (hts _ k1) ⟨hmh, hvh, k3⟩ hR9, hts _ k2⟩ ⟨q_Pre_blind, hU⟩ rfl (by simp only [List.length_map]; exact hlen) hsz hstk hroom hd hcs)
              · rw [h] at hw; exact absurd hw (by decide)
            · rcases hins with ⟨-, h⟩ | ⟨-, h⟩ | ⟨hi, -⟩
              · rw [h] at hw; exact absurd hw (by decide)
              · rw [h] at hw; exact absurd hw (by decide)
              · subst hi
                have hrc : q_rc P G (q_mm P mid).1 (st.take na).reverse = true := ((hrc.resolve_left (by decide)).resolve_left (by decide)).resolve_left (by decide)
                rcases hta : (st.take na).reverse with _ | ⟨v0, as'⟩
                · rw [hta] at hrc; exact absurd hrc (by simp [q_rc])
                · rw [hta] at hrc hU hMet hstk hlen
                  rcases v0 with x | x | a
                  · exact absurd hrc (by simp [q_rc])
                  · exact absurd hrc (by simp [q_rc])
                  · have hstk2 : (F0 m pc ls (st.map (q_cv ad))).stack = (as'.map (q_cv ad)).reverse ++ .ref (ad a) :: (st.drop na).map (q_cv ad) := by
                      show st.map (q_cv ad) = _
                      rw [hstk]
                      simp [q_cv]
                    exact fin _ (va_runI (As := as'.map (q_cv ad)) (rest := (st.drop na).map (q_cv ad)) ⟨hx, hb, hml, hown, hts⟩ hMet ⟨k4 ▸ callB_of (na - 1) hts hgood (hcd (by decide)) rfl rfl (hts _ hini) (hts _ k1) ⟨hmh, hvh, k5⟩ hR9, k3, hts _ k2⟩ ⟨q_Pre_blind, hU⟩ rfl (by simp at hlen ⊢; omega) hsz hstk2 hroom hd hcs)
            · rcases hins with ⟨-, h⟩ | ⟨hi, -⟩ | ⟨-, h⟩
              · rw [h] at hw; exact absurd hw (by decide)
              · subst hi
                have hcw : q_mW (ym mid) = Cond.codeWith (ym mid).1 (ym mid).2.1 (ym mid).2.2.1 (ym mid).2.2.2 hh :: q_WT := by
                  unfold q_mW q_cw
                  rw [k0]
                refine fin _ (vx_runSW (As := (st.take na).reverse.map (q_cv ad)) (rest := (st.drop na).map (q_cv ad)) ⟨hx, hb, hml, hown, hts⟩ hMet (vx_cwSW na hts ?_ hcw rfl rfl ⟨hmh, hvh, k3⟩ hR9) ⟨q_Pre_blind, hU⟩ rfl (by simp only [List.length_map]; exact hlen) hsz hstk hroom hd hcs)
                intro w hw
                rcases List.mem_append.mp hw with h | h
                · simp only [List.mem_cons, List.not_mem_nil, or_false] at h
                  rcases h with rfl | rfl | rfl
                  · exact q_WT_good _ k1
                  · exact q_WT_good _ k2
                  · exact q_WT_good _ hini
                · exact hgood w h
              · rw [h] at hw; exact absurd hw (by decide)
            · rcases hins with ⟨-, h⟩ | ⟨hi, -⟩ | ⟨-, h⟩
              · rw [h] at hw; exact absurd hw (by decide)
              · subst hi
                exact fin _ (va_runSN (host := hh) (As := (st.take na).reverse.map (q_cv ad)) (rest := (st.drop na).map (q_cv ad)) ⟨hx, hb, hml, hown, hts⟩ hMet ⟨va_cnB na hts hgood (hcd (by decide)) rfl rfl (Y.2.2.2.2.2.2.2.2.2.1 _ k1) (hts _ hini) ⟨hmh, hvh, k3⟩ hR9, hts _ k2, trivial⟩ ⟨q_Pre_blind, hU⟩ rfl (by simp only [List.length_map]; exact hlen) hsz hstk hroom hd hcs)
              · rw [h] at hw; exact absurd hw (by decide)
            · rcases hins with ⟨-, h⟩ | ⟨-, h⟩ | ⟨hi, -⟩
              · rw [h] at hw; exact absurd hw (by decide)
              · rw [h] at hw; exact absurd hw (by decide)
              · subst hi
                have hrc : q_rc P G (q_mm P mid).1 (st.take na).reverse = true := ((hrc.resolve_left (by decide)).resolve_left (by decide)).resolve_left (by decide)
                rcases hta : (st.take na).reverse with _ | ⟨v0, as'⟩
                · rw [hta] at hrc; exact absurd hrc (by simp [q_rc])
                · rw [hta] at hrc hU hMet hstk hlen
                  rcases v0 with x | x | a
                  · exact absurd hrc (by simp [q_rc])
                  · exact absurd hrc (by simp [q_rc])
                  · have hstk2 : (F0 m pc ls (st.map (q_cv ad))).stack = (as'.map (q_cv ad)).reverse ++ .ref (ad a) :: (st.drop na).map (q_cv ad) := by
                      show st.map (q_cv ad) = _
                      rw [hstk]
                      simp [q_cv]
                    exact fin _ (va_runIN (host := hh) (As := as'.map (q_cv ad)) (rest := (st.drop na).map (q_cv ad)) ⟨hx, hb, hml, hown, hts⟩ hMet ⟨k4 ▸ va_cnB (na - 1) hts hgood (hcd (by decide)) rfl rfl (Y.2.2.2.2.2.2.2.2.2.1 _ k1) (hts _ hini) ⟨hmh, hvh, k5⟩ hR9, k3, hts _ k2⟩ ⟨q_Pre_blind, hU⟩ rfl (by simp at hlen ⊢; omega) hsz hstk2 hroom hd hcs)
          · cases hs
        · cases hs
    · cases hs
  · cases hs
end QJ
end
section
/-! one instruction of the small machine is one of the big machine's -/
theorem q_bv (x : Int) : (Int32.ofInt x).toBitVec.toNat = (x % 4294967296).toNat := by
  show (BitVec.ofInt 32 x).toNat = _
  rw [BitVec.toNat_ofInt]
  rfl
theorem q_modI (x : Int) (k : Nat) (m : Nat) (hm : m = 2 ^ k) (hk : k ≤ 16) : nI ((Int32.ofInt x).toBitVec.toNat % 2 ^ k) = Int32.ofInt (x % (m : Int)) := by
  rw [q_bv, ← hm]
  have h1 : (4294967296 : Int) = (m : Int) * (2 ^ (32 - k) : Nat) := by
    rw [hm]
    have : (2 : Nat) ^ k * 2 ^ (32 - k) = 2 ^ 32 := by rw [← Nat.pow_add]; congr 1; omega
    have h2 : (((2 : Nat) ^ k * 2 ^ (32 - k) : Nat) : Int) = ((2 ^ 32 : Nat) : Int) := by rw [this]
    rw [Int.natCast_mul] at h2
    exact h2.symm
  have hmp : 0 < m := by rw [hm]; exact Nat.two_pow_pos k
  have h2 : (x % 4294967296) % (m : Int) = x % (m : Int) := by
    rw [h1]; exact Int.emod_emod_of_dvd x ⟨_, rfl⟩
  have h3 : 0 ≤ x % 4294967296 := Int.emod_nonneg x (by decide)
  have h4 : (((x % 4294967296).toNat % m : Nat) : Int) = x % (m : Int) := by
    rw [Int.natCast_emod, Int.toNat_of_nonneg h3, h2]
  show Int32.ofInt (((x % 4294967296).toNat % m : Nat) : Int) = _
  rw [h4]
theorem q_emr (x : Int) (m : Nat) (h : 0 < m) (h2 : m ≤ 65536) : q_r (x % (m : Int)) := by
  have h3 := Int.emod_nonneg x (show (m : Int) ≠ 0 by omega)
  have h4 := Int.emod_lt_of_pos x (show (0 : Int) < m by omega)
  exact ⟨by omega, by omega⟩
theorem q_i2l {x : Int} (h : q_r x) : (Int32.ofInt x).toInt64 = Int64.ofInt x := by
  apply Int64.toInt_inj.mp
  rw [Int32.toInt_toInt64, q_toI h, q_toL (q_r_6 h)]
theorem q_b8 {n : Int} (h : -128 ≤ n ∧ n < 128) : (Int8.ofInt n).toInt32 = Int32.ofInt n := by
  apply Int32.toInt_inj.mp
  rw [Int8.toInt_toInt32, q_toI ⟨by omega, by omega⟩, Int8.toInt_ofInt]
  show Int.bmod n 256 = n
  exact Int.bmod_eq_of_le (by omega) (by omega)
theorem q_s16 {n : Int} (h : -32768 ≤ n ∧ n < 32768) : (Int16.ofInt n).toInt32 = Int32.ofInt n := by
  apply Int32.toInt_inj.mp
  rw [Int16.toInt_toInt32, q_toI ⟨by omega, by omega⟩, Int16.toInt_ofInt]
  show Int.bmod n 65536 = n
  exact Int.bmod_eq_of_le (by omega) (by omega)
theorem q_l6 {x y : Int} (hx : q_r6 x) (hy : q_r6 y) : Int64.ofInt x < Int64.ofInt y ↔ x < y := by rw [Int64.lt_iff_toInt_lt, q_toL hx, q_toL hy]
theorem q_rem2 {x : Int} (hx : q_r x) (h : 0 ≤ x) : Int32.ofInt x - Int32.ofInt x / Int32.ofInt 2 * Int32.ofInt 2 = Int32.ofInt (x % 2) := by
  obtain ⟨n, rfl⟩ : ∃ n : Nat, x = (n : Int) := ⟨x.toNat, by omega⟩
  have := pk_rem (a := n) (d := 2) (by have := hx.2; omega) (by decide) (by decide)
  exact this
theorem q_i2b {x : Int} (h : -128 ≤ x ∧ x < 128) : (Int32.ofInt x).toInt8.toInt32 = Int32.ofInt x := by
  apply Int32.toInt_inj.mp
  rw [Int8.toInt_toInt32, Int32.toInt_toInt8, q_toI ⟨by omega, by omega⟩]
  exact Int.bmod_eq_of_le (by omega) (by omega)
end
section
def q_ln (ins : Instr) : Nat := match ins with
  | .iload _ => 2
  | .lload _ => 2
  | .aload _ => 2
  | .istore _ => 2
  | .lstore _ => 2
  | .astore _ => 2
  | .iinc _ _ => 3
  | .bipush _ => 2
  | .sipush _ => 3
  | .ldc _ => 2
  | .getstatic _ => 3
  | .getfield _ => 3
  | .putfield _ => 3
  | .newarray _ => 2
  | .new _ => 3
  | .invokevirtual _ => 3
  | .invokestatic _ => 3
  | .invokespecial _ => 3
  | .goto _ => 3
  | .if_icmp _ _ => 3
  | .ifCond _ _ => 3
  | .tableswitch _ _ _ _ => 65
  | _ => 1
def q_Tb (P : q_P) (ym : q_ym) (NW : List (String × Nat × MethodName × String)) (SR : q_SRt) (Rn : Nat → String) : Prop := q_Fok P Rn ∧ q_Cok P Rn ∧ q_Nok P Rn ∧ q_Lok P SR Rn ∧ q_Aok ∧ q_Sok P ∧ q_Mok P ym NW Rn
section QT
variable {p : Program} {l0 : Launch} {e : Env} {R : Room} {s : State} {m : MethodId} {args : Array Value} {below : List Frame} {meth : Method} {c : Code} {Q : State → Prop}
variable {P : q_P} {NW : List (String × Nat × MethodName × String)} {SR : q_SRt} {Rn : Nat → String} {co : Nat} {cc : ByteArray} {nL : Nat} {ini : Bool} {D : va_G} {cT : Nat → ClassId} {A : Nat → Prop} {ad : Nat → Nat} {l : q_L} {st : List q_V} {G : q_G} {M : q_M} {H : Heap} {locs : List Loc} {ls : Array Slot} {ca sa pc len idx kc ks d : Nat} {T : q_T} {orc : q_O} {ym : q_ym}
theorem q_push_s {b : Bool} {v : q_V} (Y : q_Y P NW SR s nL D cT A ad l st G M H locs ls) (hs : q_push b v l st G M ca sa = some T) (kk : q_KK p l0 e R s m args below meth c Q P NW SR nL D cT A ad G (pc + len) T)
    (hw : b = true → q_ov G.length v ∧ (W p l0 e R s m args below meth c H locs ca sa Q (F0 m (pc + len) ls (q_cv ad v :: st.map (q_cv ad))) → W p l0 e R s m args below meth c H locs ca sa Q (F0 m pc ls (st.map (q_cv ad))))) : W p l0 e R s m args below meth c H locs ca sa Q (F0 m pc ls (st.map (q_cv ad))) := by
  unfold q_push at hs
  split at hs
  · next h =>
    cases hs
    exact (hw h).2 (q_go Y kk (q_cons (hw h).1 Y.2.2.2.2.2.2.2.1))
  · cases hs
set_option maxHeartbeats 4000000 in
theorem q_stp_s {ins : Instr} (X : q_X p s m args meth c Rn co cc nL ini D cT A) (hTb : q_Tb P ym NW SR Rn) (hO : ∀ mid, q_Sd l0 P NW SR d (q_mm P mid).2.1 (q_mm P mid).2.2 (ym mid) (orc mid)) (hRf : d + 1 ≤ R.frames) (hRl : 64 * (d + 1) ≤ R.locals) (hkc : kc ≤ R.cells) (hks : ks ≤ R.slots) (Y : q_Y P NW SR s nL D cT A ad l st G M H locs ls) (hs : q_stp orc P ini kc ks co ins l st G M ca sa = some T)
    (hd : decode cc pc = .ok (ins, len)) (hl : len = q_ln ins) (kk : q_KK p l0 e R s m args below meth c Q P NW SR nL D cT A ad G (pc + len) T) : W p l0 e R s m args below meth c H locs ca sa Q (F0 m pc ls (st.map (q_cv ad))) := by
  obtain ⟨hF, hC, hNo, hLo, hAo, hSo, hMo⟩ := hTb
  have hX := X
  obtain ⟨hx, hb, hml, hown, hts, hK, hA, hin⟩ := X
  subst hl
  have hst := Y.2.2.2.2.2.2.2.1
  cases ins with
  | iload_n k => exact q_ldI_s Y hs kk (fun x h => lv_iload_n hx hb hd rfl h)
  | iload k => exact q_ldI_s Y hs kk (fun x h => lv_iload hx hb hd h)
  | lload_n k => exact q_ldL_s Y hs kk (fun x h => lv_lload_n hx hb hd rfl h)
  | lload k => exact q_ldL_s Y hs kk (fun x h => lv_lload hx hb hd h)
  | aload_n k => exact q_ldR_s Y hs kk (fun x h => lv_aload_n hx hb hd rfl h)
  | aload k => exact q_ldR_s Y hs kk (fun x h => lv_aload hx hb hd h)
  | istore_n k =>
    simp only [q_stp, q_stI] at hs
    split at hs
    · next x r =>
      split at hs
      · next l' hl' =>
        cases hs
        obtain ⟨h1, h2⟩ := q_tl hst rfl
        exact q_sto_s Y h1 h2 hl' kk (fun lv lv' a b c' k' => lv_istore_n hx hb hd rfl a b c' k')
      · cases hs
    · cases hs
  | istore k =>
    simp only [q_stp, q_stI] at hs
    split at hs
    · next x r =>
      split at hs
      · next l' hl' =>
        cases hs
        obtain ⟨h1, h2⟩ := q_tl hst rfl
        exact q_sto_s Y h1 h2 hl' kk (fun lv lv' a b c' k' => lv_istore hx hb hd a b c' k')
      · cases hs
    · cases hs
  | lstore_n k =>
    simp only [q_stp, q_stL] at hs
    split at hs
    · next x r =>
      split at hs
      · next l' hl' =>
        cases hs
        obtain ⟨h1, h2⟩ := q_tl hst rfl
        exact q_sto2_s Y h1 h2 hl' kk (fun lv lv' a b c' k' => lv_lstore_n hx hb hd rfl a b c' k')
      · cases hs
    · cases hs
  | lstore k =>
    simp only [q_stp, q_stL] at hs
    split at hs
    · next x r =>
      split at hs
      · next l' hl' =>
        cases hs
        obtain ⟨h1, h2⟩ := q_tl hst rfl
        exact q_sto2_s Y h1 h2 hl' kk (fun lv lv' a b c' k' => lv_lstore hx hb hd a b c' k')
      · cases hs
    · cases hs
  | astore_n k =>
    simp only [q_stp, q_stR] at hs
    split at hs
    · next x r =>
      split at hs
      · next l' hl' =>
        cases hs
        obtain ⟨h1, h2⟩ := q_tl hst rfl
        exact q_sto_s Y h1 h2 hl' kk (fun lv lv' a b c' k' => lv_astore_n hx hb hd rfl a b c' k')
      · cases hs
    · cases hs
  | astore k =>
    simp only [q_stp, q_stR] at hs
    split at hs
    · next x r =>
      split at hs
      · next l' hl' =>
        cases hs
        obtain ⟨h1, h2⟩ := q_tl hst rfl
        exact q_sto_s Y h1 h2 hl' kk (fun lv lv' a b c' k' => lv_astore hx hb hd a b c' k')
      · cases hs
    · cases hs
  | iinc k cn =>
    simp only [q_stp] at hs
    split at hs
    · next x hx0 =>
      split at hs
      · next l' hl' =>
        cases hs
        have hk := q_getD hx0
        have hxr : q_r x := Y.2.2.2.2.2.2.1 _ (List.mem_of_getElem? hk)
        obtain ⟨h1, h2, h3⟩ := q_sto_len hl'
        have hn := Y.2.2.2.2.2.2.2.2.1
        obtain ⟨j, hj⟩ := List.getElem?_of_mem (q_as_mem (ad := ad).mpr ⟨k, .inl x, hk, rfl⟩)
        refine lv_iinc hx hb hd (hn ▸ Y.2.2.2.2.2.1.has) hj (v := Int32.ofInt (q_w (x + cn))) (by rw [q_ofw, Int32.ofInt_add]) (hn ▸ h1) rfl (fun ls' hl9 => ?_)
        exact kk ad H locs ls' q_adx.rf (Nat.le_refl _) (Y.lc hst (q_sto_lc (v := .inl (q_w (x + cn))) hl' (by rw [hn]; exact hl9)) (fun w hw => (h3 w hw).elim (Y.2.2.2.2.2.2.1 w) (fun e => e ▸ (show q_r _ from q_w_r _))) (h2.trans hn))
      · cases hs
    · cases hs
  | iconst n => exact q_push_s Y hs kk (fun h => ⟨by have := of_decide_eq_true h; exact ⟨by omega, by omega⟩, lv_iconst hx hb hd rfl⟩)
  | bipush n => exact q_push_s Y hs kk (fun h => ⟨by have := of_decide_eq_true h; exact ⟨by omega, by omega⟩, lv_bipush hx hb hd (q_b8 (of_decide_eq_true h))⟩)
  | sipush n => exact q_push_s Y hs kk (fun h => ⟨by have := of_decide_eq_true h; exact ⟨by omega, by omega⟩, lv_sipush hx hb hd (q_s16 (of_decide_eq_true h))⟩)
  | lconst n => exact q_push_s Y hs kk (fun h => ⟨by show q_r6 _; have := n.isLt; exact ⟨by omega, by omega⟩, lv_lconst hx hb hd rfl⟩)
  | ldc i =>
    simp only [q_stp] at hs
    split at hs
    · next v hv =>
      cases hs
      rcases hLo _ _ _ hv with ⟨x, rfl, hr, hw⟩ | ⟨j, tx, rfl, hm⟩
      · exact lv_ldc hx hb hown (hts _ hw) hd (q_go Y kk (q_cons (show q_ov G.length (.inl x) from hr) hst))
      · exact va_ldcS hx hb hown (Y.2.2.2.2.2.2.2.2.2.2.1 _ hm) hd (q_go Y kk (q_cons (show q_ov G.length (.inr (.inr (1000 + j))) from Or.inr (by omega)) hst))
    · cases hs
  | getstatic i =>
    simp only [q_stp] at hs
    split at hs
    · next j hv =>
      cases hs
      rcases hF _ _ _ _ hv with ⟨h, -⟩ | ⟨-, hw⟩ | ⟨h, -⟩
      · exact absurd h (by decide)
      · exact va_gets hx hb (Y.2.2.2.2.2.2.2.2.2.2.2.2.1) Y.2.2.1 hown (hts _ hw) (fun _ h => h) hd (q_go Y kk (q_cons (show q_ov G.length (.inl 1) from ⟨by decide, by decide⟩) hst))
      · exact absurd h (by decide)
    · cases hs
  | iadd => exact q_ii_s (f := fun x y => some (q_w (x + y))) Y hs kk (fun x y z rest hx1 hy1 hz => by cases hz; exact ⟨q_w_r _, fun k => lv_iadd hx hb hd (by rw [← Int32.ofInt_add, ← q_ofw]; exact k)⟩)
  | isub => exact q_ii_s (f := fun x y => some (q_w (x - y))) Y hs kk (fun x y z rest hx1 hy1 hz => by cases hz; exact ⟨q_w_r _, fun k => lv_isub hx hb hd (by rw [← Int32.ofInt_sub, ← q_ofw]; exact k)⟩)
  | imul => exact q_ii_s (f := fun x y => some (q_w (x * y))) Y hs kk (fun x y z rest hx1 hy1 hz => by cases hz; exact ⟨q_w_r _, fun k => lv_imul hx hb hd (by rw [← Int32.ofInt_mul, ← q_ofw]; exact k)⟩)
  | irem => exact q_ii_s Y hs kk (fun x y z rest hx1 hy1 hz => by
      split at hz
      · next h => cases hz; obtain ⟨rfl, h0⟩ := h; exact ⟨q_emr x 2 (by decide) (by decide), fun k => lv_irem hx hb hd (by decide +kernel) (by rw [q_rem2 hx1 h0]; exact k)⟩
      · cases hz)
  | iand => exact q_ii_s Y hs kk (fun x y z rest hx1 hy1 hz => by
      split at hz
      · next h => cases hz; subst h; exact ⟨q_emr x 16 (by decide) (by decide), fun k => lv_iand hx hb hd (by rw [pk_and _ 4 (by decide +kernel), q_modI x 4 16 rfl (by decide)]; exact k)⟩
      · split at hz
        · next h => cases hz; subst h; exact ⟨q_emr x 256 (by decide) (by decide), fun k => lv_iand hx hb hd (by rw [pk_and _ 8 (by decide +kernel), q_modI x 8 256 rfl (by decide)]; exact k)⟩
        · cases hz)
  | ishr => exact q_ii_s Y hs kk (fun x y z rest hx1 hy1 hz => by
      split at hz
      · next h => cases hz; subst h; exact ⟨hx1, fun k => lv_ishr hx hb hd (by rw [show Int32.ofInt 0 = (0 : Int32) from rfl, sb_shr0]; exact k)⟩
      · cases hz)
  | ineg =>
    simp only [q_stp] at hs
    split at hs
    · next x r =>
      cases hs
      obtain ⟨h1, h2⟩ := q_tl hst rfl
      exact lv_ineg hx hb hd (by
        have := q_go Y kk (q_cons (show q_ov G.length (.inl (q_w (-x))) from q_w_r _) h2)
        simp only [List.map_cons, q_cv, q_ofw, Int32.ofInt_neg] at this
        exact this)
    · cases hs
  | i2c =>
    simp only [q_stp] at hs
    split at hs
    · next x r =>
      cases hs
      obtain ⟨h1, h2⟩ := q_tl hst rfl
      exact lv_i2c hx hb hd (v := Int32.ofInt (x % 65536)) (by rw [pk_char]; exact q_modI x 16 65536 rfl (by decide)) (q_go Y kk (q_cons (show q_ov G.length (.inl (x % 65536)) from q_emr x 65536 (by decide) (by decide)) h2))
    · cases hs
  | i2b =>
    simp only [q_stp] at hs
    split at hs
    · next x r =>
      split at hs
      · next hb8 =>
        cases hs
        obtain ⟨h1, h2⟩ := q_tl hst rfl
        exact lv_i2b hx hb hd (q_i2b hb8) (q_go Y kk (q_cons (show q_ov G.length (.inl x) from h1) h2))
      · cases hs
    · cases hs
  | i2l =>
    simp only [q_stp] at hs
    split at hs
    · next x r =>
      cases hs
      obtain ⟨h1, h2⟩ := q_tl hst rfl
      exact lv_i2l hx hb hd (q_i2l h1) (q_go Y kk (q_cons (show q_ov G.length (.inr (.inl x)) from q_r_6 h1) h2))
    · cases hs
  | ladd =>
    simp only [q_stp] at hs
    split at hs
    · next y x r =>
      cases hs
      obtain ⟨h1, h2⟩ := q_tl hst rfl
      obtain ⟨h3, h4⟩ := q_tl h2 rfl
      exact lv_ladd hx hb hd (by
        have := q_go Y kk (q_cons (show q_ov G.length (.inr (.inl (q_w6 (x + y)))) from q_w6_r _) h4)
        simp only [List.map_cons, q_cv, q_ofw6, Int64.ofInt_add] at this
        exact this)
    · cases hs
  | lcmp =>
    simp only [q_stp] at hs
    split at hs
    · next y x r =>
      cases hs
      obtain ⟨h1, h2⟩ := q_tl hst rfl
      obtain ⟨h3, h4⟩ := q_tl h2 rfl
      refine W.lcmp hx hb hd ?_
      have e1 : lg_cmp (Int64.ofInt x) (Int64.ofInt y) = Int32.ofInt (if x < y then -1 else if y < x then 1 else 0) := by
        unfold lg_cmp
        have a1 : Int64.ofInt x > Int64.ofInt y ↔ y < x := q_l6 h1 h3
        have a2 : Int64.ofInt x = Int64.ofInt y ↔ x = y := by rw [← Int64.toInt_inj, q_toL h3, q_toL h1]
        by_cases c1 : x < y
        · rw [if_neg (by rw [a1]; omega), if_neg (by rw [a2]; omega), if_pos c1]; rfl
        · rw [if_neg c1]
          by_cases c2 : y < x
          · rw [if_pos (a1.mpr c2), if_pos c2]; rfl
          · rw [if_neg (by rw [a1]; exact c2), if_pos (a2.mpr (by omega)), if_neg c2]; rfl
      rw [e1]
      exact q_go Y kk (q_cons (show q_ov G.length (.inl _) from by
        show q_r _
        split
        · exact ⟨by decide, by decide⟩
        · split <;> exact ⟨by decide, by decide⟩) h4)
    · cases hs
  | dup =>
    simp only [q_stp] at hs
    split at hs
    · next v r =>
      split at hs
      · next hc =>
        cases hs
        obtain ⟨h1, h2⟩ := q_tl hst rfl
        exact lv_dup hx hb hd (by rw [q_cvcat]; exact hc) (q_go Y kk (q_cons h1 (q_cons h1 h2)))
      · cases hs
    · cases hs
  | pop =>
    simp only [q_stp] at hs
    split at hs
    · next v r =>
      split at hs
      · next hc =>
        cases hs
        obtain ⟨h1, h2⟩ := q_tl hst rfl
        exact lv_pop hx hb hd (by rw [q_cvcat]; exact hc) (q_go Y kk h2)
      · cases hs
    · cases hs
  | dup2 =>
    simp only [q_stp] at hs
    split at hs
    · next v w r =>
      split at hs
      · next hc =>
        cases hs
        obtain ⟨h1, h2⟩ := q_tl hst rfl
        obtain ⟨h3, h4⟩ := q_tl h2 rfl
        exact lv_dup2_11 hx hb hd (by rw [q_cvcat]; exact hc.1) (by rw [q_cvcat]; exact hc.2) (q_go Y kk (q_cons h1 (q_cons h3 (q_cons h1 (q_cons h3 h4)))))
      · cases hs
    · cases hs
  | getfield i => exact q_get_s hX hF hC Y hs kk hd
  | putfield i => exact q_put_s hX hF hC Y hs kk hd
  | iaload => exact q_iald_s hX hSo Y hs kk hd
  | baload => exact q_bald_s hX hSo Y hs kk hd
  | caload => exact q_ald_s Y (by decide) hs kk (fun a n f i rest hg hi hk => va_cald hx hb hK Y.1 a 2 hg rfl hi hd hk)
  | laload => exact q_lald_s hX Y hs kk hd
  | iastore => exact q_ast_s Y (by decide) hs kk (fun a n f i x rest hg hi _ hk => va_iast hx hb hK Y.1 Y.2.1 Y.2.2.1 a 0 hg rfl hi hd hk)
  | bastore => exact q_ast_s Y (by decide) hs kk (fun a n f i x rest hg hi hf hk => va_zast hx hb hK Y.1 Y.2.1 Y.2.2.1 a 1 hg rfl hi hd (by
      have : x = 0 ∨ x = 1 := by rcases hf with h | h | h <;> first | exact absurd h (by decide) | exact h.2 | exact absurd h.1 (by decide)
      rw [q_nar_b this]; exact hk))
  | castore => exact q_ast_s Y (by decide) hs kk (fun a n f i x rest hg hi hf hk => va_cast hx hb hK Y.1 Y.2.1 Y.2.2.1 a 2 hg rfl hi hd (by
      have : 0 ≤ x ∧ x < 65536 := by rcases hf with h | h | h <;> first | exact absurd h (by decide) | exact absurd h.1 (by decide) | exact h.2
      rw [q_nar_c this]; exact hk))
  | lastore => exact q_last_s hX Y hs kk hd
  | arraylength => exact q_len_s hX hSo Y hs kk hd
  | newarray a => exact q_newa_s hX hAo hkc hks Y hs kk hd
  | new i => exact q_new_s hX hC hNo hkc hks Y hs kk hd
  | invokespecial i => exact q_call_s hX hMo hO hRf hRl hkc hks Y hs kk hd (Or.inr (Or.inr ⟨rfl, rfl⟩))
  | _ => exact absurd hs (by simp [q_stp])
end QT
end
section
/-! from stop to stop -/
def q_ctg : q_I → Bool
  | [] => true
  | [_] => true
  | q :: r :: l => decide (r.1 = q.1 + q.2.2) && q_ctg (r :: l)
def q_off (ins : Instr) : Int := match ins with
  | .if_icmp _ off => off
  | .ifCond _ off => off
  | _ => 0
/-- the list of instructions is the code's -/
def q_Iok (cc : ByteArray) (I : q_I) : Prop := q_ctg I = true ∧ ∀ q ∈ I, decode cc q.1 = .ok (q.2.1, q.2.2) ∧ q.2.2 = q_ln q.2.1 ∧ 0 ≤ (q.1 : Int) + q_off q.2.1
theorem q_ctg_tl {q : Nat × Instr × Nat} {l : q_I} (h : q_ctg (q :: l) = true) : q_ctg l = true := by
  cases l with
  | nil => rfl
  | cons r l => simp only [q_ctg, Bool.and_eq_true] at h; exact h.2
theorem q_ctg_nx {q r : Nat × Instr × Nat} {l : q_I} (h : q_ctg (q :: r :: l) = true) : r.1 = q.1 + q.2.2 := by
  simp only [q_ctg, Bool.and_eq_true, decide_eq_true_eq] at h; exact h.1
theorem q_seek_ok {t : Int} : ∀ {I : q_I}, q_ctg I = true → q_ctg (q_seek t I) = true ∧ (∀ q ∈ q_seek t I, q ∈ I) ∧ ∀ q l, q_seek t I = q :: l → (q.1 : Int) = t
  | [], _ => ⟨rfl, fun _ h => h, fun _ _ h => by cases h⟩
  | q :: l, h => by
    unfold q_seek
    split
    · next he => exact ⟨h, fun _ h => h, fun r l' e => by cases e; exact he⟩
    · obtain ⟨a, b, c⟩ := q_seek_ok (t := t) (q_ctg_tl h)
      exact ⟨a, fun r hr => List.mem_cons_of_mem _ (b r hr), c⟩
def q_cP (c : ClassFile.Cond) (x y : Int) : Prop := match c with
  | .eq => x = y
  | .ne => ¬ x = y
  | .lt => x < y
  | .ge => ¬ x < y
  | .gt => y < x
  | .le => ¬ y < x
theorem q_br_or {α : Type} {c : ClassFile.Cond} {x y : Int} {a b r : α} (h : q_br c x y a b = r) : (q_cP c x y ∧ a = r) ∨ (¬ q_cP c x y ∧ b = r) := by
  cases c <;> simp only [q_br, q_cP] at h ⊢ <;> split at h <;> rename_i hc <;> first | exact Or.inl ⟨hc, h⟩ | exact Or.inr ⟨hc, h⟩ | exact Or.inr ⟨fun z => z hc, h⟩
theorem q_ck_or {α : Type} {rk : Nat} {r : Option (Option q_V × q_G × q_M)} {G : q_G} {k : List q_V → q_M → Option α} {z : α} (h : q_ck rk r G k = some z) : ∃ (v : Option q_V) (M' : q_M), r = some (v, G, M') ∧ k v.toList M' = some z := by
  unfold q_ck at h
  split at h
  · unfold q_c0 at h
    split at h
    · split at h
      · next e => subst e; exact ⟨_, _, rfl, h⟩
      · cases h
    · cases h
  · unfold q_cI at h
    split at h
    · split at h
      · next e => subst e; exact ⟨_, _, rfl, h⟩
      · cases h
    · cases h
  · unfold q_cL at h
    split at h
    · split at h
      · next e => subst e; exact ⟨_, _, rfl, h⟩
      · cases h
    · cases h
  · unfold q_cR at h
    split at h
    · split at h
      · next e => subst e; exact ⟨_, _, rfl, h⟩
      · cases h
    · cases h
theorem q_iv_or {α : Type} {orc : q_O} {P : q_P} {kc ks : Nat} {ws : List Nat} {co idx : Nat} {l : q_L} {st : List q_V} {G : q_G} {M : q_M} {ca sa : Nat} {k : List q_V → q_M → Nat → Nat → Option α} {z : α} (h : q_iv orc P kc ks ws co idx st G M ca sa k = some z) : ∃ (st' : List q_V) (M' : q_M) (ca' sa' : Nat), q_call orc P kc ks ws co idx l st G M ca sa = some (l, st', G, M', ca', sa') ∧ k st' M' ca' sa' = some z := by
  unfold q_iv at h
  split at h
  · next w na mid hmk =>
    split at h
    · next hc =>
      obtain ⟨h1, h2, h3, h4, h5⟩ := hc
      split at h
      · next hc2 =>
        obtain ⟨h6, h7⟩ := hc2
        obtain ⟨v, M', e1, e2⟩ := q_ck_or h
        refine ⟨_, M', _, _, ?_, e2⟩
        unfold q_call
        rw [hmk]
        dsimp only
        rw [if_pos ⟨h1, h3, h4⟩, if_neg h2, if_pos ⟨h5, h6, h7⟩, e1]
      · cases h
    · cases h
  · cases h
section QD
variable {p : Program} {l0 : Launch} {e : Env} {R : Room} {s : State} {m : MethodId} {args : Array Value} {below : List Frame} {meth : Method} {c : Code} {Q : State → Prop}
variable {P : q_P} {NW : List (String × Nat × MethodName × String)} {SR : q_SRt} {Rn : Nat → String} {co : Nat} {cc : ByteArray} {nL : Nat} {ini : Bool} {D : va_G} {cT : Nat → ClassId} {A : Nat → Prop} {kc ks d : Nat} {orc : q_O} {ym : q_ym}
theorem q_icmp_s {H : Heap} {locs : List Loc} {ls : Array Slot} {ca sa pc tgt : Nat} {rest : List Value} {cd : ClassFile.Cond} {off : Int} {x y : Int} (hx : p.tables.exec = Jvm.exec) (hb : c.code = cc) (hxr : q_r x) (hyr : q_r y) (hd : decode cc pc = .ok (.if_icmp cd off, 3)) (ht : (pc : Int) + off = (tgt : Int))
    (kt : q_cP cd x y → W p l0 e R s m args below meth c H locs ca sa Q (F0 m tgt ls rest)) (kf : ¬ q_cP cd x y → W p l0 e R s m args below meth c H locs ca sa Q (F0 m (pc + 3) ls rest)) : W p l0 e R s m args below meth c H locs ca sa Q (F0 m pc ls (.int (Int32.ofInt y) :: .int (Int32.ofInt x) :: rest)) := by
  cases cd with
  | eq => exact lv_icmp_eq hx hb hd ht (fun h => kt ((q_eq hxr hyr).mp h)) (fun h => kf (fun z => h ((q_eq hxr hyr).mpr z)))
  | ne => exact lv_icmp_ne hx hb hd ht (fun h => kt (fun z => h ((q_eq hxr hyr).mpr z))) (fun h => kf (fun z => z ((q_eq hxr hyr).mp h)))
  | lt => exact lv_icmp_lt hx hb hd ht (fun h => kt ((q_lt hxr hyr).mp h)) (fun h => kf (fun z => h ((q_lt hxr hyr).mpr z)))
  | ge => exact lv_icmp_ge hx hb hd ht (fun h => kt (by have := (q_le hyr hxr).mp h; show ¬ x < y; omega)) (fun h => kf (fun z => h ((q_le hyr hxr).mpr (by have z : ¬ x < y := z; omega))))
  | gt => exact lv_icmp_gt hx hb hd ht (fun h => kt ((q_lt hyr hxr).mp h)) (fun h => kf (fun z => h ((q_lt hyr hxr).mpr z)))
  | le => exact lv_icmp_le hx hb hd ht (fun h => kt (by have := (q_le hxr hyr).mp h; show ¬ y < x; omega)) (fun h => kf (fun z => h ((q_le hxr hyr).mpr (by have z : ¬ y < x := z; omega))))
theorem q_if_s {H : Heap} {locs : List Loc} {ls : Array Slot} {ca sa pc tgt : Nat} {rest : List Value} {cd : ClassFile.Cond} {off : Int} {x : Int} (hx : p.tables.exec = Jvm.exec) (hb : c.code = cc) (hxr : q_r x) (hd : decode cc pc = .ok (.ifCond cd off, 3)) (ht : (pc : Int) + off = (tgt : Int))
    (kt : q_cP cd x 0 → W p l0 e R s m args below meth c H locs ca sa Q (F0 m tgt ls rest)) (kf : ¬ q_cP cd x 0 → W p l0 e R s m args below meth c H locs ca sa Q (F0 m (pc + 3) ls rest)) : W p l0 e R s m args below meth c H locs ca sa Q (F0 m pc ls (.int (Int32.ofInt x) :: rest)) := by
  have hyr : q_r 0 := q_0r
  have e0 : Int32.ofInt 0 = (0 : Int32) := rfl
  have h1 := q_eq hxr hyr
  have h2 := q_lt hxr hyr
  have h3 := q_le hyr hxr
  have h4 := q_lt hyr hxr
  have h5 := q_le hxr hyr
  rw [e0] at h1 h2 h3 h4 h5
  cases cd with
  | eq => exact lv_if_eq hx hb hd ht (fun h => kt (h1.mp h)) (fun h => kf (fun z => h (h1.mpr z)))
  | ne => exact lv_if_ne hx hb hd ht (fun h => kt (fun z => h (h1.mpr z))) (fun h => kf (fun z => z (h1.mp h)))
  | lt => exact lv_if_lt hx hb hd ht (fun h => kt (h2.mp h)) (fun h => kf (fun z => h (h2.mpr z)))
  | ge => exact lv_if_ge hx hb hd ht (fun h => kt (by have := h3.mp h; show ¬ x < 0; omega)) (fun h => kf (fun z => h (h3.mpr (by have z : ¬ x < 0 := z; omega))))
  | gt => exact lv_if_gt hx hb hd ht (fun h => kt (h4.mp h)) (fun h => kf (fun z => h (h4.mpr z)))
  | le => exact lv_if_le hx hb hd ht (fun h => kt (by have := h5.mp h; show ¬ 0 < x; omega)) (fun h => kf (fun z => h (h5.mpr (by have z : ¬ 0 < x := z; omega))))
set_option maxHeartbeats 4000000 in
theorem q_den_s {I : q_I} {sp : List Nat} (X : q_X p s m args meth c Rn co cc nL ini D cT A) (hTb : q_Tb P ym NW SR Rn) (hO : ∀ mid, q_Sd l0 P NW SR d (q_mm P mid).2.1 (q_mm P mid).2.2 (ym mid) (orc mid)) (hRf : d + 1 ≤ R.frames) (hRl : 64 * (d + 1) ≤ R.locals) (hkc : kc ≤ R.cells) (hks : ks ≤ R.slots) (hI : q_Iok cc I) :
    ∀ (n : Nat) (b : Bool) (rm : q_I) (l : q_L) (st : List q_V) (G : q_G) (M : q_M) (ca sa : Nat) (ad : Nat → Nat) (H : Heap) (locs : List Loc) (ls : Array Slot) (pc pc' : Nat) (T : q_T), q_ctg rm = true → (∀ q ∈ rm, q ∈ I) → (∀ q l', rm = q :: l' → q.1 = pc) → q_Y P NW SR s nL D cT A ad l st G M H locs ls → q_den orc P ini kc ks co I sp n b rm l st G M ca sa = some (pc', T) →
      q_KK p l0 e R s m args below meth c Q P NW SR nL D cT A ad G pc' T → W p l0 e R s m args below meth c H locs ca sa Q (F0 m pc ls (st.map (q_cv ad))) := by
  intro n
  induction n with
  | zero => intro b rm l st G M ca sa ad H locs ls pc pc' T _ _ _ _ h; cases h
  | succ n ih =>
    intro b rm l st G M ca sa ad H locs ls pc pc' T hct hin hpc Y h kk
    have hx := X.1
    have hb := X.2.1
    unfold q_den at h
    split at h
    · cases h
    · next pc0 ins len tl =>
      have e0 : pc0 = pc := hpc _ _ rfl
      subst e0
      obtain ⟨hd, hln, htg⟩ := hI.2 _ (hin _ List.mem_cons_self)
      dsimp only at hd hln htg
      have hctl := q_ctg_tl hct
      have hintl : ∀ q ∈ tl, q ∈ I := fun q hq => hin q (List.mem_cons_of_mem _ hq)
      have hnx : ∀ q l', tl = q :: l' → q.1 = pc0 + len := fun q l' hq => by subst hq; exact q_ctg_nx hct
      split at h
      · cases h
        exact q_go Y kk Y.2.2.2.2.2.2.2.1
      · have jump : ∀ (off : Int) (r : List q_V) (b' : Bool) (tgt : Nat), (∀ v ∈ r, q_ov G.length v) → q_den orc P ini kc ks co I sp n b' (q_seek ((pc0 : Int) + off) I) l r G M ca sa = some (pc', T) → (pc0 : Int) + off = (tgt : Int) → W p l0 e R s m args below meth c H locs ca sa Q (F0 m tgt ls (r.map (q_cv ad))) := by
          intro off r b' tgt hr hj ht
          obtain ⟨a1, a2, a3⟩ := q_seek_ok (t := (pc0 : Int) + off) hI.1
          exact ih b' _ l r G M ca sa ad H locs ls tgt pc' T a1 a2 (fun q l' hq => by have := a3 q l' hq; omega) (Y.st hr) hj kk
        have tgtof : ∀ (off : Int) (r : List q_V) (b' : Bool), q_den orc P ini kc ks co I sp n b' (q_seek ((pc0 : Int) + off) I) l r G M ca sa = some (pc', T) → ∃ tgt : Nat, (pc0 : Int) + off = (tgt : Int) := by
          intro off r b' hj
          rcases hsk : q_seek ((pc0 : Int) + off) I with _ | ⟨q, l'⟩
          · rw [hsk] at hj
            cases n with
            | zero => cases hj
            | succ n => cases hj
          · exact ⟨q.1, ((q_seek_ok (t := (pc0 : Int) + off) hI.1).2.2 q l' hsk).symm⟩
        split at h
        · next off =>
          obtain ⟨tgt, ht⟩ := tgtof off st true h
          subst hln
          exact lv_goto hx hb hd ht (jump off st true tgt Y.2.2.2.2.2.2.2.1 h ht)
        · next cd off =>
          subst hln
          split at h
          · next y x r =>
            obtain ⟨hy, h1⟩ := q_tl Y.2.2.2.2.2.2.2.1 rfl
            obtain ⟨hxr, hr⟩ := q_tl h1 rfl
            obtain ⟨tgt, ht⟩ : ∃ tgt : Nat, (pc0 : Int) + off = (tgt : Int) := ⟨((pc0 : Int) + off).toNat, (Int.toNat_of_nonneg htg).symm⟩
            rcases q_br_or h with ⟨hc, hj⟩ | ⟨hc, hj⟩
            · exact q_icmp_s hx hb hxr hy hd ht (fun _ => jump off r true tgt hr hj ht) (fun z => absurd hc z)
            · exact q_icmp_s hx hb hxr hy hd ht (fun z => absurd z hc) (fun _ => ih true tl l r G M ca sa ad H locs ls _ pc' T hctl hintl hnx (Y.st hr) hj kk)
          · cases h
        · next cd off =>
          subst hln
          split at h
          · next x r =>
            obtain ⟨hxr, hr⟩ := q_tl Y.2.2.2.2.2.2.2.1 rfl
            obtain ⟨tgt, ht⟩ : ∃ tgt : Nat, (pc0 : Int) + off = (tgt : Int) := ⟨((pc0 : Int) + off).toNat, (Int.toNat_of_nonneg htg).symm⟩
            rcases q_br_or h with ⟨hc, hj⟩ | ⟨hc, hj⟩
            · exact q_if_s hx hb hxr hd ht (fun _ => jump off r true tgt hr hj ht) (fun z => absurd hc z)
            · exact q_if_s hx hb hxr hd ht (fun z => absurd z hc) (fun _ => ih true tl l r G M ca sa ad H locs ls _ pc' T hctl hintl hnx (Y.st hr) hj kk)
          · cases h
        · next i =>
          subst hln
          obtain ⟨st', M', ca', sa', hcall, hk⟩ := q_iv_or (l := l) h
          exact q_call_s X hTb.2.2.2.2.2.2 hO hRf hRl hkc hks Y hcall (fun ad1 H1 locs1 ls1 ha hle Y1 => ih true tl l st' G M' ca' sa' ad1 H1 locs1 ls1 _ pc' T hctl hintl hnx Y1 hk (fun ad2 H2 locs2 ls2 ha2 hle2 Y2 => kk ad2 H2 locs2 ls2 (ha.tr hle ha2) (Nat.le_trans hle hle2) Y2)) hd (Or.inl ⟨rfl, rfl⟩)
        · next i =>
          subst hln
          obtain ⟨st', M', ca', sa', hcall, hk⟩ := q_iv_or (l := l) h
          exact q_call_s X hTb.2.2.2.2.2.2 hO hRf hRl hkc hks Y hcall (fun ad1 H1 locs1 ls1 ha hle Y1 => ih true tl l st' G M' ca' sa' ad1 H1 locs1 ls1 _ pc' T hctl hintl hnx Y1 hk (fun ad2 H2 locs2 ls2 ha2 hle2 Y2 => kk ad2 H2 locs2 ls2 (ha.tr hle ha2) (Nat.le_trans hle hle2) Y2)) hd (Or.inr (Or.inl ⟨rfl, rfl⟩))
        · split at h
          · next l' st' G' M' ca' sa' hstp =>
            refine q_stp_s X hTb hO hRf hRl hkc hks Y hstp hd hln (fun ad1 H1 locs1 ls1 ha hle Y1 => ?_)
            exact ih true tl l' st' G' M' ca' sa' ad1 H1 locs1 ls1 _ pc' T hctl hintl hnx Y1 h (fun ad2 H2 locs2 ls2 ha2 hle2 Y2 => kk ad2 H2 locs2 ls2 (ha.tr hle ha2) (Nat.le_trans hle hle2) Y2)
          · cases h
end QD
end
section
/-! a method: its segments from its entry to a return -/
/-- class, whether a constructor, locals, instructions, stops with what is alive there -/
abbrev q_R : Type := Nat × Bool × Nat × q_I × List (Nat × List Nat)
def q_isr (ins : Instr) : Bool := match ins with
  | .ireturn => true
  | .lreturn => true
  | .areturn => true
  | .return_ => true
  | _ => false
def q_end (rt : Option FieldType) (ins : Instr) (st : List q_V) : Option (Option q_V) := match ins, rt, st with
  | .ireturn, some .int, [.inl x] => some (some (.inl x))
  | .ireturn, some .boolean, [.inl x] => if x = 0 ∨ x = 1 then some (some (.inl x)) else none
  | .ireturn, some .char, [.inl x] => if 0 ≤ x ∧ x < 65536 then some (some (.inl x)) else none
  | .ireturn, some .byte, [.inl x] => if x = 0 ∨ x = 1 then some (some (.inl x)) else none
  | .lreturn, some .long, [.inr (.inl x)] => some (some (.inr (.inl x)))
  | .areturn, some (.object _), [.inr (.inr k)] => some (some (.inr (.inr k)))
  | .return_, none, [] => some none
  | _, _, _ => none
def q_mask (lv : List Nat) (l : q_L) : q_L := l.mapIdx (fun i v => if i ∈ lv then v else none)
def q_ent : List q_V → q_L
  | [] => []
  | .inr (.inl x) :: r => some (.inr (.inl x)) :: none :: q_ent r
  | v :: r => some v :: q_ent r
def q_entry (nL : Nat) (as : List q_V) : q_L := q_ent as ++ List.replicate (nL - (q_ent as).length) none
def q_drv (orc : q_O) (P : q_P) (kc ks : Nat) (rt : Option FieldType) (mr : q_R) : Nat → Nat → q_L → List q_V → q_G → q_M → Nat → Nat → Option (Option q_V × q_G × q_M)
  | 0, _, _, _, _, _, _, _ => none
  | F + 1, pc, l, st, G, M, ca, sa => match q_den orc P mr.2.1 kc ks mr.1 mr.2.2.2.1 (mr.2.2.2.2.map (·.1)) 1000 false (q_seek (pc : Int) mr.2.2.2.1) l st G M ca sa with
    | none => none
    | some (pc', l', st', G', M', ca', sa') => match q_seek (pc' : Int) mr.2.2.2.1 with
      | [] => none
      | (_, ins, _) :: _ => if q_isr ins = true then (if ca' ≤ kc ∧ sa' ≤ ks then (match q_end rt ins st' with
          | some r => some (r, G', M')
          | none => none) else none)
        else q_drv orc P kc ks rt mr F pc' (q_mask (((mr.2.2.2.2.find? (fun q => q.1 == pc')).map (·.2)).getD []) l') st' G' M' ca' sa'
theorem q_drv_mono {orc : q_O} {P : q_P} {kc ks : Nat} {rt : Option FieldType} {mr : q_R} {r : Option q_V × q_G × q_M} : ∀ (F F' : Nat) (pc : Nat) (l : q_L) (st : List q_V) (G : q_G) (M : q_M) (ca sa : Nat), F ≤ F' → q_drv orc P kc ks rt mr F pc l st G M ca sa = some r → q_drv orc P kc ks rt mr F' pc l st G M ca sa = some r := by
  intro F
  induction F with
  | zero => intro F' pc l st G M ca sa _ h; cases h
  | succ F ih =>
    intro F' pc l st G M ca sa hF h
    obtain ⟨F', rfl⟩ : ∃ k, F' = k + 1 := ⟨F' - 1, by omega⟩
    unfold q_drv at h ⊢
    split at h
    · cases h
    · next pc' l' st' G' M' ca' sa' hden =>
      try rw [hden]
      try dsimp only
      split at h
      · cases h
      · next p0 ins ln tl hsk =>
        try rw [hsk]
        try dsimp only
        split at h
        · next hr => rw [if_pos hr]; exact h
        · next hr => rw [if_neg hr]; exact ih F' _ _ _ _ _ _ _ (by omega) h
/-- methods whose answer is told otherwise -/
abbrev q_X9 : Type := Nat → Option (List q_V → q_G → q_M → Option (Option q_V × q_G × q_M))
/-- the answer that a method comes to, with d frames left -/
noncomputable def q_f (P : q_P) (ym : q_ym) (MT : Nat → q_R) (ex : q_X9) : Nat → q_O
  | 0 => fun _ _ _ _ => none
  | d + 1 => fun mid as G M => match ex mid with
    | some g => if 3 ≤ d + 1 then g as G M else none
    | none => @dite _ (∃ r F, (q_ent as).length ≤ (ym mid).2.2.1 ∧ q_drv (q_f P ym MT ex d) P (q_mm P mid).2.1 (q_mm P mid).2.2 (ym mid).2.2.2 (MT mid) F 0 (q_entry (ym mid).2.2.1 as) [] G M 0 0 = some r) (Classical.propDecidable _) (fun h => some (Classical.choose h)) (fun _ => none)
theorem q_f_iff {P : q_P} {ym : q_ym} {MT : Nat → q_R} {ex : q_X9} {d mid : Nat} {as : List q_V} {G : q_G} {M : q_M} {r : Option q_V × q_G × q_M} (hex : ex mid = none) : q_f P ym MT ex (d + 1) mid as G M = some r ↔ (q_ent as).length ≤ (ym mid).2.2.1 ∧ ∃ F, q_drv (q_f P ym MT ex d) P (q_mm P mid).2.1 (q_mm P mid).2.2 (ym mid).2.2.2 (MT mid) F 0 (q_entry (ym mid).2.2.1 as) [] G M 0 0 = some r := by
  have key : ∀ r r' F F', q_drv (q_f P ym MT ex d) P (q_mm P mid).2.1 (q_mm P mid).2.2 (ym mid).2.2.2 (MT mid) F 0 (q_entry (ym mid).2.2.1 as) [] G M 0 0 = some r → q_drv (q_f P ym MT ex d) P (q_mm P mid).2.1 (q_mm P mid).2.2 (ym mid).2.2.2 (MT mid) F' 0 (q_entry (ym mid).2.2.1 as) [] G M 0 0 = some r' → r = r' := by
    intro r r' F F' h h'
    have h1 := q_drv_mono F (F + F') _ _ _ _ _ _ _ (by omega) h
    have h2 := q_drv_mono F' (F + F') _ _ _ _ _ _ _ (by omega) h'
    rw [h1] at h2
    exact Option.some.inj h2
  constructor
  · intro h
    simp only [q_f, hex] at h
    by_cases hx : ∃ r F, (q_ent as).length ≤ (ym mid).2.2.1 ∧ q_drv (q_f P ym MT ex d) P (q_mm P mid).2.1 (q_mm P mid).2.2 (ym mid).2.2.2 (MT mid) F 0 (q_entry (ym mid).2.2.1 as) [] G M 0 0 = some r
    · rw [dif_pos hx] at h
      cases h
      obtain ⟨F, h1, h2⟩ := Classical.choose_spec hx
      exact ⟨h1, F, h2⟩
    · rw [dif_neg hx] at h; cases h
  · rintro ⟨h0, F, h⟩
    have hx : ∃ r F, (q_ent as).length ≤ (ym mid).2.2.1 ∧ q_drv (q_f P ym MT ex d) P (q_mm P mid).2.1 (q_mm P mid).2.2 (ym mid).2.2.2 (MT mid) F 0 (q_entry (ym mid).2.2.1 as) [] G M 0 0 = some r := ⟨r, F, h0, h⟩
    simp only [q_f, hex]
    rw [dif_pos hx]
    obtain ⟨F', -, h'⟩ := Classical.choose_spec hx
    rw [key _ _ _ _ h h']
theorem q_mask_get {lv : List Nat} {l : q_L} {i : Nat} {v : q_V} (h : (q_mask lv l)[i]? = some (some v)) : l[i]? = some (some v) := by
  simp only [q_mask, List.getElem?_mapIdx, Option.map_eq_some_iff] at h
  obtain ⟨w, h1, h2⟩ := h
  split at h2
  · rw [h1, h2]
  · cases h2
theorem q_mask_len {lv : List Nat} {l : q_L} : (q_mask lv l).length = l.length := by simp [q_mask]
theorem q_ent_get {ad : Nat → Nat} : ∀ (as : List q_V) (k i : Nat) (v : q_V), (q_ent as)[i]? = some (some v) → (k + i, q_cv ad v) ∈ lv_args k (as.map (q_cv ad)) ∧ v ∈ as
  | [], k, i, v, h => by simp [q_ent] at h
  | .inr (.inl x) :: r, k, i, v, h => by
    simp only [q_ent] at h
    rcases i with _ | _ | i
    · simp at h; subst h; exact ⟨List.mem_cons_self, List.mem_cons_self⟩
    · simp at h
    · simp only [List.getElem?_cons_succ] at h
      obtain ⟨a, b⟩ := q_ent_get (ad := ad) r (k + 2) i v h
      refine ⟨?_, List.mem_cons_of_mem _ b⟩
      rw [show k + (i + 1 + 1) = k + 2 + i by omega]
      exact List.mem_cons_of_mem _ a
  | .inl x :: r, k, i, v, h => by
    simp only [q_ent] at h
    rcases i with _ | i
    · simp at h; subst h; exact ⟨List.mem_cons_self, List.mem_cons_self⟩
    · simp only [List.getElem?_cons_succ] at h
      obtain ⟨a, b⟩ := q_ent_get (ad := ad) r (k + 1) i v h
      refine ⟨?_, List.mem_cons_of_mem _ b⟩
      rw [show k + (i + 1) = k + 1 + i by omega]
      exact List.mem_cons_of_mem _ a
  | .inr (.inr x) :: r, k, i, v, h => by
    simp only [q_ent] at h
    rcases i with _ | i
    · simp at h; subst h; exact ⟨List.mem_cons_self, List.mem_cons_self⟩
    · simp only [List.getElem?_cons_succ] at h
      obtain ⟨a, b⟩ := q_ent_get (ad := ad) r (k + 1) i v h
      refine ⟨?_, List.mem_cons_of_mem _ b⟩
      rw [show k + (i + 1) = k + 1 + i by omega]
      exact List.mem_cons_of_mem _ a
theorem q_ent_len {ad : Nat → Nat} : ∀ (as : List q_V), (lg_sl (as.map (q_cv ad))).length = (q_ent as).length
  | [] => rfl
  | .inr (.inl x) :: r => by have := q_ent_len (ad := ad) r; simp [lg_sl, q_ent, q_cv, Value.category] at this ⊢; omega
  | .inl x :: r => by have := q_ent_len (ad := ad) r; simp [lg_sl, q_ent, q_cv, Value.category] at this ⊢; omega
  | .inr (.inr x) :: r => by have := q_ent_len (ad := ad) r; simp [lg_sl, q_ent, q_cv, Value.category] at this ⊢; omega
end
section
section QE
variable {p : Program} {l0 : Launch} {e : Env} {R : Room} {s : State} {m : MethodId} {args : Array Value} {below : List Frame} {meth : Method} {c : Code}
variable {P : q_P} {NW : List (String × Nat × MethodName × String)} {SR : q_SRt} {Rn : Nat → String} {cc : ByteArray} {nL : Nat} {D : va_G} {cT : Nat → ClassId} {A : Nat → Prop} {kc ks d : Nat} {orc : q_O} {ym : q_ym} {mr : q_R} {rt : Option FieldType}
/-- a return -/
theorem q_end_s {Qc : Array Value → State → Outcome → State → Prop} {ins : Instr} {ad : Nat → Nat} {l : q_L} {st : List q_V} {G : q_G} {M : q_M} {H : Heap} {locs : List Loc} {ls : Array Slot} {pc : Nat} {r : Option q_V} (hx : p.tables.exec = Jvm.exec) (hb : c.code = cc) (hrt : meth.sig.returnType = rt) (hlocks : meth.locks = false) (hd : decode cc pc = .ok (ins, 1)) (he : q_end rt ins st = some r) (Y : q_Y P NW SR s nL D cT A ad l st G M H locs ls)
    (hq : ∀ t : State, t.heap = H → (∀ v, r = some v → q_ov G.length v) → Qc args s (.returned (r.map (q_cv ad))) t) : W p l0 e R s m args below meth c H locs kc ks (MQ below Qc args s kc ks A) (F0 m pc ls (st.map (q_cv ad))) := by
  have hf : ∀ q ∈ locs, A q.base := Y.2.2.1.2.2
  have hst := Y.2.2.2.2.2.2.2.1
  unfold q_end at he
  split at he
  · next x => cases he; exact W.iret hx hb hrt (fun t ht _ => hq t ht (fun v hv => by cases hv; exact hst _ List.mem_cons_self)) hf hd
  · next x =>
    split at he
    · next h => cases he; exact W.zret hx hb hrt (q_fit_bool h).1 (fun t ht _ => hq t ht (fun v hv => by cases hv; exact hst _ List.mem_cons_self)) hf hd
    · cases he
  · next x =>
    split at he
    · next h =>
      cases he
      refine W.zret hx hb hrt ?_ (fun t ht _ => hq t ht (fun v hv => by cases hv; exact hst _ List.mem_cons_self)) hf hd
      obtain ⟨n, rfl⟩ : ∃ n : Nat, x = (n : Int) := ⟨x.toNat, by omega⟩
      exact (pk_charN (q := n) (by omega)).1
    · cases he
  · next x =>
    split at he
    · next h =>
      cases he
      refine W.zret hx hb hrt ?_ (fun t ht _ => hq t ht (fun v hv => by cases hv; exact hst _ List.mem_cons_self)) hf hd
      rcases h with rfl | rfl <;> decide +kernel
    · cases he
  · next x => cases he; exact W.lret hx hb hrt (fun t ht _ => hq t ht (fun v hv => by cases hv; exact hst _ List.mem_cons_self)) hf hd
  · next n k => cases he; exact W.aret hx hb hrt (Or.inl ⟨n, rfl⟩) (Or.inr ⟨_, rfl⟩) (fun t ht _ => hq t ht (fun v hv => by cases hv; exact hst _ List.mem_cons_self)) hf hd
  · cases he; exact W.vret hx hb hrt (fun t ht _ => hq t ht (fun v hv => by cases hv)) hf hd
  · cases he
theorem q_isr_ln {ins : Instr} (h : q_isr ins = true) : q_ln ins = 1 := by
  cases ins <;> simp [q_isr] at h <;> rfl
set_option maxHeartbeats 4000000 in
theorem q_drv_s {ad0 : Nat → Nat} {G0 : q_G} {M0 : q_M} {r : Option q_V} {G' : q_G} {M' : q_M} {Qc : Array Value → State → Outcome → State → Prop} (X : q_X p s m args meth c Rn mr.1 cc nL mr.2.1 D cT A) (hTb : q_Tb P ym NW SR Rn) (hO : ∀ mid, q_Sd l0 P NW SR d (q_mm P mid).2.1 (q_mm P mid).2.2 (ym mid) (orc mid)) (hRf : d + 1 ≤ R.frames) (hRl : 64 * (d + 1) ≤ R.locals) (hkc : kc ≤ R.cells) (hks : ks ≤ R.slots) (hI : q_Iok cc mr.2.2.2.1) (hrt : meth.sig.returnType = rt) (hlocks : meth.locks = false)
    (hQ : ∀ (t : State) (ad : Nat → Nat) (locs : List Loc), va_P D vwCl (q_ws P cT ad G' M') t.heap → va_D A (q_ws P cT ad G' M') → va_S A s.heap t.heap locs → q_oG P G' → q_oM G' M' → q_adx G0.length ad0 ad → G0.length ≤ G'.length → (∀ v, r = some v → q_ov G'.length v) → Qc args s (.returned (r.map (q_cv ad))) t) :
    ∀ (F pc : Nat) (l : q_L) (st : List q_V) (G : q_G) (M : q_M) (ca sa : Nat) (ad : Nat → Nat) (H : Heap) (locs : List Loc) (ls : Array Slot), q_Y P NW SR s nL D cT A ad l st G M H locs ls → q_adx G0.length ad0 ad → G0.length ≤ G.length → q_drv orc P kc ks rt mr F pc l st G M ca sa = some (r, G', M') → W p l0 e R s m args below meth c H locs ca sa (MQ below Qc args s kc ks A) (F0 m pc ls (st.map (q_cv ad))) := by
  intro F
  induction F with
  | zero => intro pc l st G M ca sa ad H locs ls _ _ _ h; cases h
  | succ F ih =>
    intro pc l st G M ca sa ad H locs ls Y ha hle h
    unfold q_drv at h
    split at h
    · cases h
    · next pc' l' st' G1 M1 ca' sa' hden =>
      obtain ⟨a1, a2, a3⟩ := q_seek_ok (t := (pc : Int)) hI.1
      refine q_den_s X hTb hO hRf hRl hkc hks hI 1000 false _ l st G M ca sa ad H locs ls pc pc' _ a1 a2 (fun q l' hq => by have := a3 q l' hq; omega) Y hden (fun ad1 H1 locs1 ls1 ha1 hle1 Y1 => ?_)
      dsimp only at hle1 Y1 ⊢
      split at h
      · cases h
      · next p0 ins ln tl hsk =>
        obtain ⟨b1, b2, b3⟩ := q_seek_ok (t := (pc' : Int)) hI.1
        have hp0 : p0 = pc' := by have := b3 _ _ hsk; dsimp only at this; omega
        subst hp0
        obtain ⟨hd, hln, -⟩ := hI.2 _ (b2 _ (by rw [hsk]; exact List.mem_cons_self))
        dsimp only at hd hln
        split at h
        · next hr =>
          split at h
          · next hc =>
            split at h
            · next r' he =>
              cases h
              refine W.widen hc.1 hc.2 ?_
              rw [q_isr_ln hr] at hln
              subst hln
              exact q_end_s X.1 X.2.1 hrt hlocks hd he Y1 (fun t ht hv => hQ t ad1 locs1 (by rw [ht]; exact Y1.1) Y1.2.1 (by rw [ht]; exact Y1.2.2.1) Y1.2.2.2.1 Y1.2.2.2.2.1 (ha.tr hle ha1) (Nat.le_trans hle hle1) hv)
            · cases h
          · cases h
        · refine ih _ _ _ _ _ _ _ ad1 H1 locs1 ls1 ?_ (ha.tr hle ha1) (Nat.le_trans hle hle1) h
          exact Y1.lc Y1.2.2.2.2.2.2.2.1 ⟨by rw [q_mask_len]; exact Y1.2.2.2.2.2.1.1, Y1.2.2.2.2.2.1.2.1, fun i v hv => Y1.2.2.2.2.2.1.2.2 i v (q_mask_get hv)⟩ (fun v hv => by
            obtain ⟨i, hi⟩ := List.getElem?_of_mem hv
            exact Y1.2.2.2.2.2.2.1 v (List.mem_of_getElem? (q_mask_get hi))) (by rw [q_mask_len]; exact Y1.2.2.2.2.2.2.2.2.1)
/-- the table of methods is right -/
def q_MTok (ym : q_ym) (MT : Nat → q_R) (Rn : Nat → String) : Prop := ∀ mid, (MT mid).2.2.2.1 = [] ∨ (plainFor (ym mid).1 = true ∧ q_hh (ym mid).1 = none ∧ q_Iok (ym mid).2.1 (MT mid).2.2.2.1 ∧ Rn (MT mid).1 = (ym mid).1.cls ∧ ((MT mid).2.1 = true → (ym mid).1.name = "<init>"))
theorem q_lc_entry {ad : Nat → Nat} {as : List q_V} {n : Nat} (h : (q_ent as).length ≤ n) : q_lc ad (lg_sl (as.map (q_cv ad)) ++ List.replicate (n - (lg_sl (as.map (q_cv ad))).length) Slot.unset).toArray (q_entry n as) ∧ (q_entry n as).length = n ∧ ∀ v, some v ∈ q_entry n as → v ∈ as := by
  have h1 := lv_entry (as.map (q_cv ad)) (n := n) (by rw [q_ent_len]; exact h)
  have hlen : (q_entry n as).length = n := by simp [q_entry]; omega
  have key : ∀ (i : Nat) (v : q_V), (q_entry n as)[i]? = some (some v) → (q_ent as)[i]? = some (some v) := by
    intro i v hv
    unfold q_entry at hv
    by_cases hi : i < (q_ent as).length
    · rw [List.getElem?_append_left hi] at hv; exact hv
    · rw [List.getElem?_append_right (by omega)] at hv
      have := List.eq_of_mem_replicate (List.mem_of_getElem? hv)
      cases this
  refine ⟨⟨by rw [h1.1, hlen], h1.2.1, fun i v hv => ?_⟩, hlen, fun v hv => ?_⟩
  · have := (q_ent_get (ad := ad) as 0 i v (key i v hv)).1
    rw [Nat.zero_add] at this
    exact h1.2.2 _ this
  · obtain ⟨i, hi⟩ := List.getElem?_of_mem hv
    exact (q_ent_get (ad := ad) as 0 i v (key i v hi)).2
set_option maxHeartbeats 4000000 in
theorem q_met {MT : Nat → q_R} {ex : q_X9} (hEx : ∀ mid g, ex mid = some g → ∀ d, 3 ≤ d → q_Sd l0 P NW SR d (q_mm P mid).2.1 (q_mm P mid).2.2 (ym mid) g) (hTb : q_Tb P ym NW SR Rn) (hMT : q_MTok ym MT Rn) (hO : ∀ mid, q_Sd l0 P NW SR d (q_mm P mid).2.1 (q_mm P mid).2.2 (ym mid) (q_f P ym MT ex d mid)) (mid : Nat) : q_Sd l0 P NW SR (d + 1) (q_mm P mid).2.1 (q_mm P mid).2.2 (ym mid) (q_f P ym MT ex (d + 1) mid) := by
  intro D cT ad as G M r G' M' hf hG hM has sz
  rcases hex : ex mid with _ | g
  case some =>
    simp only [q_f, hex] at hf
    split at hf
    · next h3 => exact hEx mid g hex (d + 1) h3 D cT ad as G M r G' M' hf hG hM has sz
    · cases hf
  obtain ⟨hlen, F, hF⟩ := (q_f_iff hex).mp hf
  rcases hMT mid with hnil | ⟨hpl, hhn, hI, hRn, hini⟩
  · exfalso
    cases F with
    | zero => cases hF
    | succ F =>
      unfold q_drv at hF
      rw [hnil] at hF
      cases hF
  · refine va_MetF (cc := (ym mid).2.1) (maxL := (ym mid).2.2.1) (ret := (ym mid).2.2.2) (ws' := q_WT) hpl (by unfold q_mW q_cw; rw [hhn]) ?_
    intro p e s m args below meth c s₁ B hml hv
    obtain ⟨rfl, hsz, hP, hK, hD0, hE⟩ := hv
    subst hsz
    have hts := atoms_spec (ws := q_mW (ym mid)) B.pre
    have hown : s.vm.findClass (Rn (MT mid).1) = some m.cls := by rw [hRn]; exact findClass_of_methodNamed B.named
    have hnm := (name_of_methodNamed B.named B.method).1
    have hA : ∀ q : Nat, s.heap.size ≤ q → va_A (q_ws P cT ad G M) s.heap.size q := fun q h => Or.inr h
    have X : q_X p s m (as.map (q_cv ad)).toArray meth c Rn (MT mid).1 (ym mid).2.1 (ym mid).2.2.1 (MT mid).2.1 D cT (va_A (q_ws P cT ad G M) s.heap.size) := ⟨B.exec, B.bytes, hml, hown, fun w hw => hts w (List.mem_cons_of_mem _ hw), hK, hA, fun h => by rw [hnm]; exact hini h⟩
    rw [lg_entry_eq]
    obtain ⟨hl1, hl2, hl3⟩ := q_lc_entry (ad := ad) hlen
    generalize (lg_sl (as.map (q_cv ad)) ++ List.replicate ((ym mid).2.2.1 - (lg_sl (as.map (q_cv ad))).length) Slot.unset).toArray = ls at hl1 ⊢
    have Y : q_Y P NW SR s (ym mid).2.2.1 D cT (va_A (q_ws P cT ad G M) s.heap.size) ad (q_entry (ym mid).2.2.1 as) [] G M s.heap [] ls := ⟨hP, hD0.self, va_S.rf, hG, hM, hl1, fun v hv => has v (hl3 v hv), fun v hv => by simp at hv, hl2, hE⟩
    exact q_drv_s (ad0 := ad) (G0 := G) (M0 := M) X hTb hO (Nat.le_refl _) (Nat.le_refl _) (Nat.le_refl _) (Nat.le_refl _) hI B.returns B.notSynchronized (fun t ad' locs a1 a2 a3 a4 a5 a6 a7 a8 => ⟨⟨ad', a6, rfl, a1, a2, a4, a5, a7, a8⟩, a3.F rfl⟩) F 0 _ [] G M 0 0 ad s.heap [] ls Y q_adx.rf (Nat.le_refl _) hF
theorem q_all {MT : Nat → q_R} {ex : q_X9} (hEx : ∀ mid g, ex mid = some g → ∀ d, 3 ≤ d → q_Sd l0 P NW SR d (q_mm P mid).2.1 (q_mm P mid).2.2 (ym mid) g) (hTb : q_Tb P ym NW SR Rn) (hMT : q_MTok ym MT Rn) : ∀ d mid, q_Sd l0 P NW SR d (q_mm P mid).2.1 (q_mm P mid).2.2 (ym mid) (q_f P ym MT ex d mid)
  | 0 => fun mid D cT ad as G M r G' M' h => by cases h
  | d + 1 => q_met hEx hTb hMT (q_all hEx hTb hMT d)
end QE
end
section
def q_en {α : Type} (rt : Option FieldType) (ins : Instr) (st : List q_V) (k : Option q_V → Option α) : Option α := match ins, rt, st with
  | .ireturn, some .int, [.inl x] => k (some (.inl x))
  | .ireturn, some .boolean, [.inl x] => if x = 0 ∨ x = 1 then k (some (.inl x)) else none
  | .ireturn, some .char, [.inl x] => if 0 ≤ x ∧ x < 65536 then k (some (.inl x)) else none
  | .ireturn, some .byte, [.inl x] => if x = 0 ∨ x = 1 then k (some (.inl x)) else none
  | .lreturn, some .long, [.inr (.inl x)] => k (some (.inr (.inl x)))
  | .areturn, some (.object _), [.inr (.inr z)] => k (some (.inr (.inr z)))
  | .return_, none, [] => k none
  | _, _, _ => none
theorem q_end_k {rt : Option FieldType} {ins : Instr} {st : List q_V} : q_end rt ins st = q_en rt ins st some := rfl
theorem q_en_b {α : Type} {rt : Option FieldType} {ins : Instr} {st : List q_V} {k : Option q_V → Option α} : q_en rt ins st k = (q_en rt ins st some).bind k := by
  unfold q_en
  split
  · rfl
  · split <;> rfl
  · split <;> rfl
  · split <;> rfl
  · rfl
  · rfl
  · rfl
  · rfl
/-- one instruction, what comes behind it told by k -/
def q_aldk {α : Type} (t : Nat) (st : List q_V) (G : q_G) (M : q_M) (k : Int → List q_V → Option α) : Option α := match st with
  | .inl i :: .inr (.inr a) :: r => match G[a]? with
    | some (.inl (t', n)) => if t' = t then (if 0 ≤ i ∧ i < (n : Int) then k (M a i.toNat) r else none) else none
    | _ => none
  | _ => none
def q_baldk {α : Type} (P : q_P) (st : List q_V) (G : q_G) (M : q_M) (k : Int → List q_V → Option α) : Option α := match st with
  | .inl i :: .inr (.inr a) :: r => if 2000 ≤ a then (match (q_sb P)[a - 2000]? with
      | some bs => if 0 ≤ i ∧ i < (bs.length : Int) then k (bs.getD i.toNat 0) r else none
      | none => none) else q_aldk 1 st G M k
  | _ => none
def q_ialdk {α : Type} (P : q_P) (st : List q_V) (G : q_G) (M : q_M) (k : Int → List q_V → Option α) : Option α := match st with
  | .inl i :: .inr (.inr a) :: r => if a = 3000 then (if 0 ≤ i ∧ i < ((q_sc P).length : Int) then k ((q_sc P).getD i.toNat 0) r else none) else q_aldk 0 st G M k
  | _ => none
def q_astk {α : Type} (t : Nat) (st : List q_V) (G : q_G) (M : q_M) (k : q_M → List q_V → Option α) : Option α := match st with
  | .inl x :: .inl i :: .inr (.inr a) :: r => match G[a]? with
    | some (.inl (t', n)) => if t' = t then (if 0 ≤ i ∧ i < (n : Int) then (if t = 0 ∨ (t = 1 ∧ (x = 0 ∨ x = 1)) ∨ (t = 2 ∧ 0 ≤ x ∧ x < 65536) then k (q_up M a i.toNat x) r else none) else none) else none
    | _ => none
  | _ => none
def q_lastk {α : Type} (st : List q_V) (G : q_G) (M : q_M) (k : q_M → List q_V → Option α) : Option α := match st with
  | .inr (.inl x) :: .inl i :: .inr (.inr a) :: r => match G[a]? with
    | some (.inl (t', n)) => if t' = 3 then (if 0 ≤ i ∧ i < (n : Int) then k (q_up M a i.toNat x) r else none) else none
    | _ => none
  | _ => none
def q_putk {α : Type} (P : q_P) (ini : Bool) (co idx : Nat) (st : List q_V) (G : q_G) (M : q_M) (k : q_G → q_M → List q_V → Option α) : Option α := match q_fl P co idx, st with
  | some (ci, j), .inl x :: .inr (.inr a) :: r => match G[a]? with
      | some (.inr (cj, _)) => if cj = ci then (if q_ft P ci j = 0 then k G (q_up M a j x) r else if q_ft P ci j = 1 then (if x = 0 ∨ x = 1 then k G (q_up M a j x) r else none) else none) else none
      | _ => none
  | some (ci, j), .inr (.inr z) :: .inr (.inr a) :: r => match G[a]? with
      | some (.inr (cj, rs)) => if cj = ci ∧ ini = true ∧ ci = co ∧ q_ft P ci j = 4 ∧ z < G.length then k (G.set a (.inr (ci, rs.set j (z + 1)))) M r else none
      | _ => none
  | _, _ => none
def q_iik {α : Type} (st : List q_V) (k : Int → Int → List q_V → Option α) : Option α := match st with
  | .inl y :: .inl x :: r => k x y r
  | _ => none
def q_sk {α : Type} (orc : q_O) (P : q_P) (ini : Bool) (kc ks co : Nat) (ins : Instr) (l : q_L) (st : List q_V) (G : q_G) (M : q_M) (ca sa : Nat) (k : q_L → List q_V → q_G → q_M → Nat → Nat → Option α) : Option α := match ins with
  | .iaload => q_ialdk P st G M (fun x r => k l (.inl x :: r) G M ca sa)
  | .baload => q_baldk P st G M (fun x r => k l (.inl x :: r) G M ca sa)
  | .caload => q_aldk 2 st G M (fun x r => k l (.inl x :: r) G M ca sa)
  | .laload => q_aldk 3 st G M (fun x r => k l (.inr (.inl x) :: r) G M ca sa)
  | .iastore => q_astk 0 st G M (fun M' r => k l r G M' ca sa)
  | .bastore => q_astk 1 st G M (fun M' r => k l r G M' ca sa)
  | .castore => q_astk 2 st G M (fun M' r => k l r G M' ca sa)
  | .lastore => q_lastk st G M (fun M' r => k l r G M' ca sa)
  | .putfield idx => q_putk P ini co idx st G M (fun G' M' r => k l r G' M' ca sa)
  | .irem => q_iik st (fun x y r => if y = 2 ∧ 0 ≤ x then k l (.inl (x % 2) :: r) G M ca sa else none)
  | .ishr => q_iik st (fun x y r => if y = 0 then k l (.inl x :: r) G M ca sa else none)
  | .i2b => match st with
    | .inl x :: r => if -128 ≤ x ∧ x < 128 then k l (.inl x :: r) G M ca sa else none
    | _ => none
  | ins => match q_stp orc P ini kc ks co ins l st G M ca sa with
    | some (l', st', G', M', ca', sa') => k l' st' G' M' ca' sa'
    | none => none
theorem q_ald_k {t : Nat} {l : q_L} {st : List q_V} {G : q_G} {M : q_M} {ca sa : Nat} : q_ald t l st G M ca sa = q_aldk t st G M (fun x r => some (l, .inl x :: r, G, M, ca, sa)) := rfl
theorem q_lald_k {l : q_L} {st : List q_V} {G : q_G} {M : q_M} {ca sa : Nat} : q_lald l st G M ca sa = q_aldk 3 st G M (fun x r => some (l, .inr (.inl x) :: r, G, M, ca, sa)) := rfl
theorem q_bald_k {P : q_P} {l : q_L} {st : List q_V} {G : q_G} {M : q_M} {ca sa : Nat} : q_bald P l st G M ca sa = q_baldk P st G M (fun x r => some (l, .inl x :: r, G, M, ca, sa)) := rfl
theorem q_iald_k {P : q_P} {l : q_L} {st : List q_V} {G : q_G} {M : q_M} {ca sa : Nat} : q_iald P l st G M ca sa = q_ialdk P st G M (fun x r => some (l, .inl x :: r, G, M, ca, sa)) := rfl
theorem q_ast_k {t : Nat} {l : q_L} {st : List q_V} {G : q_G} {M : q_M} {ca sa : Nat} : q_ast t l st G M ca sa = q_astk t st G M (fun M' r => some (l, r, G, M', ca, sa)) := rfl
theorem q_last_k {l : q_L} {st : List q_V} {G : q_G} {M : q_M} {ca sa : Nat} : q_last l st G M ca sa = q_lastk st G M (fun M' r => some (l, r, G, M', ca, sa)) := rfl
theorem q_put_k {P : q_P} {ini : Bool} {co idx : Nat} {l : q_L} {st : List q_V} {G : q_G} {M : q_M} {ca sa : Nat} : q_put P ini co idx l st G M ca sa = q_putk P ini co idx st G M (fun G' M' r => some (l, r, G', M', ca, sa)) := rfl
theorem q_aldk_b {α β : Type} {t : Nat} {st : List q_V} {G : q_G} {M : q_M} {g : Int → List q_V → Option β} {k : β → Option α} : (q_aldk t st G M g).bind k = q_aldk t st G M (fun x r => (g x r).bind k) := by
  unfold q_aldk
  repeat' split
  all_goals rfl
theorem q_baldk_b {α β : Type} {P : q_P} {st : List q_V} {G : q_G} {M : q_M} {g : Int → List q_V → Option β} {k : β → Option α} : (q_baldk P st G M g).bind k = q_baldk P st G M (fun x r => (g x r).bind k) := by
  unfold q_baldk
  split
  · split
    · repeat' split
      all_goals rfl
    · exact q_aldk_b
  · rfl
theorem q_ialdk_b {α β : Type} {P : q_P} {st : List q_V} {G : q_G} {M : q_M} {g : Int → List q_V → Option β} {k : β → Option α} : (q_ialdk P st G M g).bind k = q_ialdk P st G M (fun x r => (g x r).bind k) := by
  unfold q_ialdk
  split
  · split
    · split <;> rfl
    · exact q_aldk_b
  · rfl
theorem q_astk_b {α β : Type} {t : Nat} {st : List q_V} {G : q_G} {M : q_M} {g : q_M → List q_V → Option β} {k : β → Option α} : (q_astk t st G M g).bind k = q_astk t st G M (fun x r => (g x r).bind k) := by
  unfold q_astk
  repeat' split
  all_goals rfl
theorem q_lastk_b {α β : Type} {st : List q_V} {G : q_G} {M : q_M} {g : q_M → List q_V → Option β} {k : β → Option α} : (q_lastk st G M g).bind k = q_lastk st G M (fun x r => (g x r).bind k) := by
  unfold q_lastk
  repeat' split
  all_goals rfl
theorem q_putk_b {α β : Type} {P : q_P} {ini : Bool} {co idx : Nat} {st : List q_V} {G : q_G} {M : q_M} {g : q_G → q_M → List q_V → Option β} {k : β → Option α} : (q_putk P ini co idx st G M g).bind k = q_putk P ini co idx st G M (fun x y r => (g x y r).bind k) := by
  unfold q_putk
  repeat' split
  all_goals rfl
def q_k6 {α : Type} (k : q_L → List q_V → q_G → q_M → Nat → Nat → Option α) (T : q_T) : Option α := k T.1 T.2.1 T.2.2.1 T.2.2.2.1 T.2.2.2.2.1 T.2.2.2.2.2
theorem q_sk_eq {α : Type} {orc : q_O} {P : q_P} {ini : Bool} {kc ks co : Nat} {ins : Instr} {l : q_L} {st : List q_V} {G : q_G} {M : q_M} {ca sa : Nat} {k : q_L → List q_V → q_G → q_M → Nat → Nat → Option α} : q_sk orc P ini kc ks co ins l st G M ca sa k = (q_stp orc P ini kc ks co ins l st G M ca sa).bind (q_k6 k) := by
  have dflt : ∀ x : Option q_T, (match x with
    | some (l', st', G', M', ca', sa') => k l' st' G' M' ca' sa'
    | none => none) = x.bind (q_k6 k) := fun x => by rcases x with _ | ⟨a, b, c, d, e, f⟩ <;> rfl
  cases ins
  case iaload => simp only [q_sk, q_stp, q_iald_k, q_ialdk_b]; rfl
  case baload => simp only [q_sk, q_stp, q_bald_k, q_baldk_b]; rfl
  case caload => simp only [q_sk, q_stp, q_ald_k, q_aldk_b]; rfl
  case laload => simp only [q_sk, q_stp, q_lald_k, q_aldk_b]; rfl
  case iastore => simp only [q_sk, q_stp, q_ast_k, q_astk_b]; rfl
  case bastore => simp only [q_sk, q_stp, q_ast_k, q_astk_b]; rfl
  case castore => simp only [q_sk, q_stp, q_ast_k, q_astk_b]; rfl
  case lastore => simp only [q_sk, q_stp, q_last_k, q_lastk_b]; rfl
  case putfield => simp only [q_sk, q_stp, q_put_k, q_putk_b]; rfl
  case irem =>
    simp only [q_sk, q_stp, q_iik, q_ii]
    rcases st with _ | ⟨y | y | y, st⟩ <;> try rfl
    rcases st with _ | ⟨x | x | x, st⟩ <;> try rfl
    dsimp only
    split <;> rfl
  case ishr =>
    simp only [q_sk, q_stp, q_iik, q_ii]
    rcases st with _ | ⟨y | y | y, st⟩ <;> try rfl
    rcases st with _ | ⟨x | x | x, st⟩ <;> try rfl
    dsimp only
    split <;> rfl
  case i2b =>
    simp only [q_sk, q_stp]
    rcases st with _ | ⟨y | y | y, st⟩ <;> try rfl
    dsimp only
    split <;> rfl
  all_goals (simp only [q_sk]; generalize q_stp orc P ini kc ks co _ l st G M ca sa = x; exact dflt x)
/-- the small machine's run, what comes behind a stop told by k -/
def q_dk {α : Type} (orc : q_O) (P : q_P) (ini : Bool) (kc ks co : Nat) (I : q_I) (sp : List Nat) (k : Nat → q_T → Option α) : Nat → Bool → q_I → q_L → List q_V → q_G → q_M → Nat → Nat → Option α
  | 0, _, _, _, _, _, _, _, _ => none
  | n + 1, b, rm, l, st, G, M, ca, sa => match rm with
    | [] => none
    | (pc, ins, _) :: tl => if b = true ∧ pc ∈ sp then k pc (l, st, G, M, ca, sa) else match ins with
      | .goto off => q_dk orc P ini kc ks co I sp k n true (q_seek ((pc : Int) + off) I) l st G M ca sa
      | .if_icmp c off => match st with
        | .inl y :: .inl x :: r => q_br c x y (q_dk orc P ini kc ks co I sp k n true (q_seek ((pc : Int) + off) I) l r G M ca sa) (q_dk orc P ini kc ks co I sp k n true tl l r G M ca sa)
        | _ => none
      | .ifCond c off => match st with
        | .inl x :: r => q_br c x 0 (q_dk orc P ini kc ks co I sp k n true (q_seek ((pc : Int) + off) I) l r G M ca sa) (q_dk orc P ini kc ks co I sp k n true tl l r G M ca sa)
        | _ => none
      | .invokevirtual idx => q_iv orc P kc ks [0] co idx st G M ca sa (fun st' M' ca' sa' => q_dk orc P ini kc ks co I sp k n true tl l st' G M' ca' sa')
      | .invokestatic idx => q_iv orc P kc ks [1, 3, 5] co idx st G M ca sa (fun st' M' ca' sa' => q_dk orc P ini kc ks co I sp k n true tl l st' G M' ca' sa')
      | ins => q_sk orc P ini kc ks co ins l st G M ca sa (fun l' st' G' M' ca' sa' => q_dk orc P ini kc ks co I sp k n true tl l' st' G' M' ca' sa')
def q_bd {α β : Type} (x : Option (Nat × β)) (k : Nat → β → Option α) : Option α := match x with
  | some (a, b) => k a b
  | none => none
theorem q_br_bd {α β : Type} {c : ClassFile.Cond} {x y : Int} {a b : Option (Nat × β)} {k : Nat → β → Option α} : q_bd (q_br c x y a b) k = q_br c x y (q_bd a k) (q_bd b k) := by
  cases c <;> simp only [q_br] <;> split <;> rfl
theorem q_iv_bd {α β : Type} {orc : q_O} {P : q_P} {kc ks : Nat} {ws : List Nat} {co idx : Nat} {st : List q_V} {G : q_G} {M : q_M} {ca sa : Nat} {f : List q_V → q_M → Nat → Nat → Option (Nat × β)} {k : Nat → β → Option α} : q_bd (q_iv orc P kc ks ws co idx st G M ca sa f) k = q_iv orc P kc ks ws co idx st G M ca sa (fun a b c d => q_bd (f a b c d) k) := by
  unfold q_iv
  split
  · split
    · split
      · unfold q_ck
        split
        · unfold q_c0; repeat' split
          all_goals rfl
        · unfold q_cI; repeat' split
          all_goals rfl
        · unfold q_cL; repeat' split
          all_goals rfl
        · unfold q_cR; repeat' split
          all_goals rfl
      · rfl
    · rfl
  · rfl
theorem q_dk_eq {α : Type} {orc : q_O} {P : q_P} {ini : Bool} {kc ks co : Nat} {I : q_I} {sp : List Nat} {k : Nat → q_T → Option α} : ∀ (n : Nat) (b : Bool) (rm : q_I) (l : q_L) (st : List q_V) (G : q_G) (M : q_M) (ca sa : Nat), q_dk orc P ini kc ks co I sp k n b rm l st G M ca sa = q_bd (q_den orc P ini kc ks co I sp n b rm l st G M ca sa) k := by
  intro n
  induction n with
  | zero => intro b rm l st G M ca sa; rfl
  | succ n ih =>
    intro b rm l st G M ca sa
    have dflt : ∀ (x : Option q_T) (tl : q_I), x.bind (q_k6 (fun l' st' G' M' ca' sa' => q_dk orc P ini kc ks co I sp k n true tl l' st' G' M' ca' sa')) = q_bd (match x with
      | some (l', st', G', M', ca', sa') => q_den orc P ini kc ks co I sp n true tl l' st' G' M' ca' sa'
      | none => none) k := by
      intro x tl
      rcases x with _ | ⟨a, b, c, d, e, f⟩
      · rfl
      · exact ih _ _ _ _ _ _ _ _
    rcases rm with _ | ⟨⟨pc, ins, ln⟩, tl⟩
    · rfl
    · simp only [q_dk, q_den]
      by_cases hb : b = true ∧ pc ∈ sp
      · rw [if_pos hb, if_pos hb]; rfl
      · rw [if_neg hb, if_neg hb]
        cases ins
        case goto off => exact ih _ _ _ _ _ _ _ _
        case if_icmp c off =>
          rcases st with _ | ⟨y | y | y, st⟩ <;> try rfl
          rcases st with _ | ⟨x | x | x, st⟩ <;> try rfl
          dsimp only
          rw [q_br_bd]; simp only [ih]
        case ifCond c off =>
          rcases st with _ | ⟨y | y | y, st⟩ <;> try rfl
          dsimp only
          rw [q_br_bd]; simp only [ih]
        case invokevirtual idx => dsimp only; rw [q_iv_bd]; simp only [ih]
        case invokestatic idx => dsimp only; rw [q_iv_bd]; simp only [ih]
        all_goals (dsimp only; rw [q_sk_eq]; generalize q_stp orc P ini kc ks co _ l st G M ca sa = x; exact dflt x tl)
end
