section
-- ===== PART A: goes FIRST, ahead of the names: the tables' words, and 'selects' of the private methods out of them =====
/-- a private method of a class that the tables say can be made, by its rows of tables_1 -/
def lw_okq (q : MethodName × Nat) : Prop := (q.1.cls ≠ "java/lang/invoke/MethodHandle" ∧ q.1.cls ≠ "java/lang/invoke/VarHandle") ∧ Cond.instantiable q.1.cls q.2 ∈ tables_1 ∧ Cond.privateMethod q.1 ∈ tables_1 ∧ Cond.instanceMethod q.1 ∈ tables_1
theorem lw_p0 : lw_okq (⟨"QueryLoops$Tables", "cellOf", "(III)I"⟩, 4) := ⟨⟨by decide +kernel, by decide +kernel⟩, List.mem_of_getElem? (i := 36) (by decide +kernel), List.mem_of_getElem? (i := 473) (by decide +kernel), List.mem_of_getElem? (i := 474) (by decide +kernel)⟩
theorem lw_p1 : lw_okq (⟨"java/lang/Throwable", "fillInStackTrace", "(I)Ljava/lang/Throwable;"⟩, 6) := ⟨⟨by decide +kernel, by decide +kernel⟩, List.mem_of_getElem? (i := 527) (by decide +kernel), List.mem_of_getElem? (i := 525) (by decide +kernel), List.mem_of_getElem? (i := 526) (by decide +kernel)⟩
theorem lw_p2 : lw_okq (⟨"QueryLoops$Text", "codeAt", "(I)C"⟩, 2) := ⟨⟨by decide +kernel, by decide +kernel⟩, List.mem_of_getElem? (i := 73) (by decide +kernel), List.mem_of_getElem? (i := 588) (by decide +kernel), List.mem_of_getElem? (i := 589) (by decide +kernel)⟩
theorem lw_p3 : lw_okq (⟨"QueryLoops$Text", "readToken", "(ILQueryLoops$Tokens;)I"⟩, 2) := ⟨⟨by decide +kernel, by decide +kernel⟩, List.mem_of_getElem? (i := 73) (by decide +kernel), List.mem_of_getElem? (i := 592) (by decide +kernel), List.mem_of_getElem? (i := 593) (by decide +kernel)⟩
theorem lw_p4 : lw_okq (⟨"QueryLoops$Text", "endOfWord", "(I)I"⟩, 2) := ⟨⟨by decide +kernel, by decide +kernel⟩, List.mem_of_getElem? (i := 73) (by decide +kernel), List.mem_of_getElem? (i := 599) (by decide +kernel), List.mem_of_getElem? (i := 600) (by decide +kernel)⟩
theorem lw_p5 : lw_okq (⟨"QueryLoops$Text", "wordKind", "(II)I"⟩, 2) := ⟨⟨by decide +kernel, by decide +kernel⟩, List.mem_of_getElem? (i := 73) (by decide +kernel), List.mem_of_getElem? (i := 603) (by decide +kernel), List.mem_of_getElem? (i := 604) (by decide +kernel)⟩
theorem lw_p6 : lw_okq (⟨"QueryLoops$Text", "spells", "(IILjava/lang/String;)Z"⟩, 2) := ⟨⟨by decide +kernel, by decide +kernel⟩, List.mem_of_getElem? (i := 73) (by decide +kernel), List.mem_of_getElem? (i := 608) (by decide +kernel), List.mem_of_getElem? (i := 609) (by decide +kernel)⟩
theorem lw_p7 : lw_okq (⟨"QueryLoops$Text", "readNumeral", "(ILQueryLoops$Tokens;)I"⟩, 2) := ⟨⟨by decide +kernel, by decide +kernel⟩, List.mem_of_getElem? (i := 73) (by decide +kernel), List.mem_of_getElem? (i := 682) (by decide +kernel), List.mem_of_getElem? (i := 683) (by decide +kernel)⟩
theorem lw_p8 : lw_okq (⟨"QueryLoops$Parser", "readOuts", "()Z"⟩, 5) := ⟨⟨by decide +kernel, by decide +kernel⟩, List.mem_of_getElem? (i := 226) (by decide +kernel), List.mem_of_getElem? (i := 788) (by decide +kernel), List.mem_of_getElem? (i := 789) (by decide +kernel)⟩
theorem lw_p9 : lw_okq (⟨"QueryLoops$Parser", "readOut", "()Z"⟩, 5) := ⟨⟨by decide +kernel, by decide +kernel⟩, List.mem_of_getElem? (i := 226) (by decide +kernel), List.mem_of_getElem? (i := 792) (by decide +kernel), List.mem_of_getElem? (i := 793) (by decide +kernel)⟩
theorem lw_p10 : lw_okq (⟨"QueryLoops$Parser", "readColumn", "()I"⟩, 5) := ⟨⟨by decide +kernel, by decide +kernel⟩, List.mem_of_getElem? (i := 226) (by decide +kernel), List.mem_of_getElem? (i := 802) (by decide +kernel), List.mem_of_getElem? (i := 803) (by decide +kernel)⟩
theorem lw_p11 : lw_okq (⟨"QueryLoops$Parser", "readItem", "(Z)Z"⟩, 5) := ⟨⟨by decide +kernel, by decide +kernel⟩, List.mem_of_getElem? (i := 226) (by decide +kernel), List.mem_of_getElem? (i := 817) (by decide +kernel), List.mem_of_getElem? (i := 818) (by decide +kernel)⟩
theorem lw_p12 : lw_okq (⟨"QueryLoops$Parser", "readJoined", "()Z"⟩, 5) := ⟨⟨by decide +kernel, by decide +kernel⟩, List.mem_of_getElem? (i := 226) (by decide +kernel), List.mem_of_getElem? (i := 825) (by decide +kernel), List.mem_of_getElem? (i := 826) (by decide +kernel)⟩
theorem lw_p13 : lw_okq (⟨"QueryLoops$Parser", "readCondition", "(I)Z"⟩, 5) := ⟨⟨by decide +kernel, by decide +kernel⟩, List.mem_of_getElem? (i := 226) (by decide +kernel), List.mem_of_getElem? (i := 829) (by decide +kernel), List.mem_of_getElem? (i := 830) (by decide +kernel)⟩
theorem lw_p14 : lw_okq (⟨"QueryLoops$Parser", "readConjunction", "(I)Z"⟩, 5) := ⟨⟨by decide +kernel, by decide +kernel⟩, List.mem_of_getElem? (i := 226) (by decide +kernel), List.mem_of_getElem? (i := 841) (by decide +kernel), List.mem_of_getElem? (i := 842) (by decide +kernel)⟩
theorem lw_p15 : lw_okq (⟨"QueryLoops$Parser", "readPart", "(I)Z"⟩, 5) := ⟨⟨by decide +kernel, by decide +kernel⟩, List.mem_of_getElem? (i := 226) (by decide +kernel), List.mem_of_getElem? (i := 845) (by decide +kernel), List.mem_of_getElem? (i := 846) (by decide +kernel)⟩
def lw_privs_1 : List (MethodName × Nat) := [(⟨"QueryLoops$Tables", "cellOf", "(III)I"⟩, 4), (⟨"java/lang/Throwable", "fillInStackTrace", "(I)Ljava/lang/Throwable;"⟩, 6), (⟨"QueryLoops$Text", "codeAt", "(I)C"⟩, 2), (⟨"QueryLoops$Text", "readToken", "(ILQueryLoops$Tokens;)I"⟩, 2), (⟨"QueryLoops$Text", "endOfWord", "(I)I"⟩, 2), (⟨"QueryLoops$Text", "wordKind", "(II)I"⟩, 2), (⟨"QueryLoops$Text", "spells", "(IILjava/lang/String;)Z"⟩, 2), (⟨"QueryLoops$Text", "readNumeral", "(ILQueryLoops$Tokens;)I"⟩, 2), (⟨"QueryLoops$Parser", "readOuts", "()Z"⟩, 5), (⟨"QueryLoops$Parser", "readOut", "()Z"⟩, 5), (⟨"QueryLoops$Parser", "readColumn", "()I"⟩, 5), (⟨"QueryLoops$Parser", "readItem", "(Z)Z"⟩, 5), (⟨"QueryLoops$Parser", "readJoined", "()Z"⟩, 5), (⟨"QueryLoops$Parser", "readCondition", "(I)Z"⟩, 5), (⟨"QueryLoops$Parser", "readConjunction", "(I)Z"⟩, 5), (⟨"QueryLoops$Parser", "readPart", "(I)Z"⟩, 5)]
theorem lw_r1 : ∀ q ∈ lw_privs_1, lw_okq q := List.forall_mem_cons.mpr ⟨lw_p0, List.forall_mem_cons.mpr ⟨lw_p1, List.forall_mem_cons.mpr ⟨lw_p2, List.forall_mem_cons.mpr ⟨lw_p3, List.forall_mem_cons.mpr ⟨lw_p4, List.forall_mem_cons.mpr ⟨lw_p5, List.forall_mem_cons.mpr ⟨lw_p6, List.forall_mem_cons.mpr ⟨lw_p7, List.forall_mem_cons.mpr ⟨lw_p8, List.forall_mem_cons.mpr ⟨lw_p9, List.forall_mem_cons.mpr ⟨lw_p10, List.forall_mem_cons.mpr ⟨lw_p11, List.forall_mem_cons.mpr ⟨lw_p12, List.forall_mem_cons.mpr ⟨lw_p13, List.forall_mem_cons.mpr ⟨lw_p14, List.forall_mem_cons.mpr ⟨lw_p15, fun _ h => absurd h List.not_mem_nil⟩⟩⟩⟩⟩⟩⟩⟩⟩⟩⟩⟩⟩⟩⟩⟩
theorem lw_p16 : lw_okq (⟨"QueryLoops$Parser", "readTest", "(I)Z"⟩, 5) := ⟨⟨by decide +kernel, by decide +kernel⟩, List.mem_of_getElem? (i := 226) (by decide +kernel), List.mem_of_getElem? (i := 849) (by decide +kernel), List.mem_of_getElem? (i := 850) (by decide +kernel)⟩
theorem lw_p17 : lw_okq (⟨"QueryLoops$Parser", "readComparison", "()Z"⟩, 5) := ⟨⟨by decide +kernel, by decide +kernel⟩, List.mem_of_getElem? (i := 226) (by decide +kernel), List.mem_of_getElem? (i := 853) (by decide +kernel), List.mem_of_getElem? (i := 854) (by decide +kernel)⟩
theorem lw_p18 : lw_okq (⟨"QueryLoops$Parser", "readOperand", "()I"⟩, 5) := ⟨⟨by decide +kernel, by decide +kernel⟩, List.mem_of_getElem? (i := 226) (by decide +kernel), List.mem_of_getElem? (i := 857) (by decide +kernel), List.mem_of_getElem? (i := 858) (by decide +kernel)⟩
theorem lw_p19 : lw_okq (⟨"QueryLoops$Parser", "notePart", "(III)V"⟩, 5) := ⟨⟨by decide +kernel, by decide +kernel⟩, List.mem_of_getElem? (i := 226) (by decide +kernel), List.mem_of_getElem? (i := 874) (by decide +kernel), List.mem_of_getElem? (i := 875) (by decide +kernel)⟩
theorem lw_p20 : lw_okq (⟨"QueryLoops$Parser", "readWhere", "()Z"⟩, 5) := ⟨⟨by decide +kernel, by decide +kernel⟩, List.mem_of_getElem? (i := 226) (by decide +kernel), List.mem_of_getElem? (i := 882) (by decide +kernel), List.mem_of_getElem? (i := 883) (by decide +kernel)⟩
theorem lw_p21 : lw_okq (⟨"QueryLoops$Parser", "readGroup", "()Z"⟩, 5) := ⟨⟨by decide +kernel, by decide +kernel⟩, List.mem_of_getElem? (i := 226) (by decide +kernel), List.mem_of_getElem? (i := 886) (by decide +kernel), List.mem_of_getElem? (i := 887) (by decide +kernel)⟩
theorem lw_p22 : lw_okq (⟨"QueryLoops$Checker", "checkItems", "()V"⟩, 4) := ⟨⟨by decide +kernel, by decide +kernel⟩, List.mem_of_getElem? (i := 256) (by decide +kernel), List.mem_of_getElem? (i := 898) (by decide +kernel), List.mem_of_getElem? (i := 899) (by decide +kernel)⟩
theorem lw_p23 : lw_okq (⟨"QueryLoops$Checker", "noteIll", "(I)V"⟩, 4) := ⟨⟨by decide +kernel, by decide +kernel⟩, List.mem_of_getElem? (i := 256) (by decide +kernel), List.mem_of_getElem? (i := 918) (by decide +kernel), List.mem_of_getElem? (i := 919) (by decide +kernel)⟩
theorem lw_p24 : lw_okq (⟨"QueryLoops$Checker", "checkColumns", "()V"⟩, 4) := ⟨⟨by decide +kernel, by decide +kernel⟩, List.mem_of_getElem? (i := 256) (by decide +kernel), List.mem_of_getElem? (i := 934) (by decide +kernel), List.mem_of_getElem? (i := 935) (by decide +kernel)⟩
theorem lw_p25 : lw_okq (⟨"QueryLoops$Checker", "checkOuts", "()V"⟩, 4) := ⟨⟨by decide +kernel, by decide +kernel⟩, List.mem_of_getElem? (i := 256) (by decide +kernel), List.mem_of_getElem? (i := 967) (by decide +kernel), List.mem_of_getElem? (i := 968) (by decide +kernel)⟩
theorem lw_p26 : lw_okq (⟨"QueryLoops$Steps", "lastItemIn", "(II)I"⟩, 11) := ⟨⟨by decide +kernel, by decide +kernel⟩, List.mem_of_getElem? (i := 146) (by decide +kernel), List.mem_of_getElem? (i := 1007) (by decide +kernel), List.mem_of_getElem? (i := 1008) (by decide +kernel)⟩
theorem lw_p27 : lw_okq (⟨"QueryLoops$Loops", "begin", "(I)V"⟩, 9) := ⟨⟨by decide +kernel, by decide +kernel⟩, List.mem_of_getElem? (i := 296) (by decide +kernel), List.mem_of_getElem? (i := 1041) (by decide +kernel), List.mem_of_getElem? (i := 1042) (by decide +kernel)⟩
theorem lw_p28 : lw_okq (⟨"QueryLoops$Loops", "goThrough", "(I)Z"⟩, 9) := ⟨⟨by decide +kernel, by decide +kernel⟩, List.mem_of_getElem? (i := 296) (by decide +kernel), List.mem_of_getElem? (i := 1066) (by decide +kernel), List.mem_of_getElem? (i := 1067) (by decide +kernel)⟩
theorem lw_p29 : lw_okq (⟨"QueryLoops$Loops", "gather", "()Z"⟩, 9) := ⟨⟨by decide +kernel, by decide +kernel⟩, List.mem_of_getElem? (i := 296) (by decide +kernel), List.mem_of_getElem? (i := 1071) (by decide +kernel), List.mem_of_getElem? (i := 1072) (by decide +kernel)⟩
theorem lw_p30 : lw_okq (⟨"QueryLoops$Loops", "lineOfGroup", "()I"⟩, 9) := ⟨⟨by decide +kernel, by decide +kernel⟩, List.mem_of_getElem? (i := 296) (by decide +kernel), List.mem_of_getElem? (i := 1075) (by decide +kernel), List.mem_of_getElem? (i := 1076) (by decide +kernel)⟩
theorem lw_p31 : lw_okq (⟨"QueryLoops$Loops", "isOfGroup", "(I)Z"⟩, 9) := ⟨⟨by decide +kernel, by decide +kernel⟩, List.mem_of_getElem? (i := 296) (by decide +kernel), List.mem_of_getElem? (i := 1080) (by decide +kernel), List.mem_of_getElem? (i := 1081) (by decide +kernel)⟩
def lw_privs_2 : List (MethodName × Nat) := [(⟨"QueryLoops$Parser", "readTest", "(I)Z"⟩, 5), (⟨"QueryLoops$Parser", "readComparison", "()Z"⟩, 5), (⟨"QueryLoops$Parser", "readOperand", "()I"⟩, 5), (⟨"QueryLoops$Parser", "notePart", "(III)V"⟩, 5), (⟨"QueryLoops$Parser", "readWhere", "()Z"⟩, 5), (⟨"QueryLoops$Parser", "readGroup", "()Z"⟩, 5), (⟨"QueryLoops$Checker", "checkItems", "()V"⟩, 4), (⟨"QueryLoops$Checker", "noteIll", "(I)V"⟩, 4), (⟨"QueryLoops$Checker", "checkColumns", "()V"⟩, 4), (⟨"QueryLoops$Checker", "checkOuts", "()V"⟩, 4), (⟨"QueryLoops$Steps", "lastItemIn", "(II)I"⟩, 11), (⟨"QueryLoops$Loops", "begin", "(I)V"⟩, 9), (⟨"QueryLoops$Loops", "goThrough", "(I)Z"⟩, 9), (⟨"QueryLoops$Loops", "gather", "()Z"⟩, 9), (⟨"QueryLoops$Loops", "lineOfGroup", "()I"⟩, 9), (⟨"QueryLoops$Loops", "isOfGroup", "(I)Z"⟩, 9)]
theorem lw_r2 : ∀ q ∈ lw_privs_2, lw_okq q := List.forall_mem_cons.mpr ⟨lw_p16, List.forall_mem_cons.mpr ⟨lw_p17, List.forall_mem_cons.mpr ⟨lw_p18, List.forall_mem_cons.mpr ⟨lw_p19, List.forall_mem_cons.mpr ⟨lw_p20, List.forall_mem_cons.mpr ⟨lw_p21, List.forall_mem_cons.mpr ⟨lw_p22, List.forall_mem_cons.mpr ⟨lw_p23, List.forall_mem_cons.mpr ⟨lw_p24, List.forall_mem_cons.mpr ⟨lw_p25, List.forall_mem_cons.mpr ⟨lw_p26, List.forall_mem_cons.mpr ⟨lw_p27, List.forall_mem_cons.mpr ⟨lw_p28, List.forall_mem_cons.mpr ⟨lw_p29, List.forall_mem_cons.mpr ⟨lw_p30, List.forall_mem_cons.mpr ⟨lw_p31, fun _ h => absurd h List.not_mem_nil⟩⟩⟩⟩⟩⟩⟩⟩⟩⟩⟩⟩⟩⟩⟩⟩
theorem lw_p32 : lw_okq (⟨"QueryLoops$Loops", "tally", "(IIII)V"⟩, 9) := ⟨⟨by decide +kernel, by decide +kernel⟩, List.mem_of_getElem? (i := 296) (by decide +kernel), List.mem_of_getElem? (i := 1084) (by decide +kernel), List.mem_of_getElem? (i := 1085) (by decide +kernel)⟩
theorem lw_p33 : lw_okq (⟨"QueryLoops$Steps", "truthOf", "(II)I"⟩, 11) := ⟨⟨by decide +kernel, by decide +kernel⟩, List.mem_of_getElem? (i := 146) (by decide +kernel), List.mem_of_getElem? (i := 1117) (by decide +kernel), List.mem_of_getElem? (i := 1118) (by decide +kernel)⟩
theorem lw_p34 : lw_okq (⟨"QueryLoops$Steps", "turnTop", "(I)V"⟩, 11) := ⟨⟨by decide +kernel, by decide +kernel⟩, List.mem_of_getElem? (i := 146) (by decide +kernel), List.mem_of_getElem? (i := 1121) (by decide +kernel), List.mem_of_getElem? (i := 1122) (by decide +kernel)⟩
theorem lw_p35 : lw_okq (⟨"QueryLoops$Steps", "joinTop", "(II)I"⟩, 11) := ⟨⟨by decide +kernel, by decide +kernel⟩, List.mem_of_getElem? (i := 146) (by decide +kernel), List.mem_of_getElem? (i := 1125) (by decide +kernel), List.mem_of_getElem? (i := 1126) (by decide +kernel)⟩
theorem lw_p36 : lw_okq (⟨"QueryLoops$Steps", "testOf", "(III)I"⟩, 11) := ⟨⟨by decide +kernel, by decide +kernel⟩, List.mem_of_getElem? (i := 146) (by decide +kernel), List.mem_of_getElem? (i := 1130) (by decide +kernel), List.mem_of_getElem? (i := 1131) (by decide +kernel)⟩
theorem lw_p37 : lw_okq (⟨"QueryLoops$Loops", "goOn", "(I)Z"⟩, 9) := ⟨⟨by decide +kernel, by decide +kernel⟩, List.mem_of_getElem? (i := 296) (by decide +kernel), List.mem_of_getElem? (i := 1139) (by decide +kernel), List.mem_of_getElem? (i := 1140) (by decide +kernel)⟩
theorem lw_p38 : lw_okq (⟨"QueryLoopsModel", "put", "(IZ)Z"⟩, 55) := ⟨⟨by decide +kernel, by decide +kernel⟩, List.mem_of_getElem? (i := 1163) (by decide +kernel), List.mem_of_getElem? (i := 1355) (by decide +kernel), List.mem_of_getElem? (i := 1356) (by decide +kernel)⟩
theorem lw_p39 : lw_okq (⟨"QueryLoopsModel", "isTable", "(I)Z"⟩, 55) := ⟨⟨by decide +kernel, by decide +kernel⟩, List.mem_of_getElem? (i := 1163) (by decide +kernel), List.mem_of_getElem? (i := 1367) (by decide +kernel), List.mem_of_getElem? (i := 1368) (by decide +kernel)⟩
theorem lw_p40 : lw_okq (⟨"QueryLoopsModel", "fail", "(I)I"⟩, 55) := ⟨⟨by decide +kernel, by decide +kernel⟩, List.mem_of_getElem? (i := 1163) (by decide +kernel), List.mem_of_getElem? (i := 1371) (by decide +kernel), List.mem_of_getElem? (i := 1372) (by decide +kernel)⟩
theorem lw_p41 : lw_okq (⟨"QueryLoopsModel", "readQuery", "()V"⟩, 55) := ⟨⟨by decide +kernel, by decide +kernel⟩, List.mem_of_getElem? (i := 1163) (by decide +kernel), List.mem_of_getElem? (i := 1387) (by decide +kernel), List.mem_of_getElem? (i := 1388) (by decide +kernel)⟩
theorem lw_p42 : lw_okq (⟨"QueryLoopsModel", "readOuts", "()V"⟩, 55) := ⟨⟨by decide +kernel, by decide +kernel⟩, List.mem_of_getElem? (i := 1163) (by decide +kernel), List.mem_of_getElem? (i := 1391) (by decide +kernel), List.mem_of_getElem? (i := 1392) (by decide +kernel)⟩
theorem lw_p43 : lw_okq (⟨"QueryLoopsModel", "want", "(I)V"⟩, 55) := ⟨⟨by decide +kernel, by decide +kernel⟩, List.mem_of_getElem? (i := 1163) (by decide +kernel), List.mem_of_getElem? (i := 1395) (by decide +kernel), List.mem_of_getElem? (i := 1396) (by decide +kernel)⟩
theorem lw_p44 : lw_okq (⟨"QueryLoopsModel", "take", "(I)Z"⟩, 55) := ⟨⟨by decide +kernel, by decide +kernel⟩, List.mem_of_getElem? (i := 1163) (by decide +kernel), List.mem_of_getElem? (i := 1399) (by decide +kernel), List.mem_of_getElem? (i := 1400) (by decide +kernel)⟩
theorem lw_p45 : lw_okq (⟨"QueryLoopsModel", "look", "()I"⟩, 55) := ⟨⟨by decide +kernel, by decide +kernel⟩, List.mem_of_getElem? (i := 1163) (by decide +kernel), List.mem_of_getElem? (i := 1403) (by decide +kernel), List.mem_of_getElem? (i := 1404) (by decide +kernel)⟩
theorem lw_p46 : lw_okq (⟨"QueryLoopsModel", "at", "(I)C"⟩, 55) := ⟨⟨by decide +kernel, by decide +kernel⟩, List.mem_of_getElem? (i := 1163) (by decide +kernel), List.mem_of_getElem? (i := 1407) (by decide +kernel), List.mem_of_getElem? (i := 1408) (by decide +kernel)⟩
theorem lw_p47 : lw_okq (⟨"QueryLoopsModel", "readWord", "()I"⟩, 55) := ⟨⟨by decide +kernel, by decide +kernel⟩, List.mem_of_getElem? (i := 1163) (by decide +kernel), List.mem_of_getElem? (i := 1414) (by decide +kernel), List.mem_of_getElem? (i := 1415) (by decide +kernel)⟩
def lw_privs_3 : List (MethodName × Nat) := [(⟨"QueryLoops$Loops", "tally", "(IIII)V"⟩, 9), (⟨"QueryLoops$Steps", "truthOf", "(II)I"⟩, 11), (⟨"QueryLoops$Steps", "turnTop", "(I)V"⟩, 11), (⟨"QueryLoops$Steps", "joinTop", "(II)I"⟩, 11), (⟨"QueryLoops$Steps", "testOf", "(III)I"⟩, 11), (⟨"QueryLoops$Loops", "goOn", "(I)Z"⟩, 9), (⟨"QueryLoopsModel", "put", "(IZ)Z"⟩, 55), (⟨"QueryLoopsModel", "isTable", "(I)Z"⟩, 55), (⟨"QueryLoopsModel", "fail", "(I)I"⟩, 55), (⟨"QueryLoopsModel", "readQuery", "()V"⟩, 55), (⟨"QueryLoopsModel", "readOuts", "()V"⟩, 55), (⟨"QueryLoopsModel", "want", "(I)V"⟩, 55), (⟨"QueryLoopsModel", "take", "(I)Z"⟩, 55), (⟨"QueryLoopsModel", "look", "()I"⟩, 55), (⟨"QueryLoopsModel", "at", "(I)C"⟩, 55), (⟨"QueryLoopsModel", "readWord", "()I"⟩, 55)]
theorem lw_r3 : ∀ q ∈ lw_privs_3, lw_okq q := List.forall_mem_cons.mpr ⟨lw_p32, List.forall_mem_cons.mpr ⟨lw_p33, List.forall_mem_cons.mpr ⟨lw_p34, List.forall_mem_cons.mpr ⟨lw_p35, List.forall_mem_cons.mpr ⟨lw_p36, List.forall_mem_cons.mpr ⟨lw_p37, List.forall_mem_cons.mpr ⟨lw_p38, List.forall_mem_cons.mpr ⟨lw_p39, List.forall_mem_cons.mpr ⟨lw_p40, List.forall_mem_cons.mpr ⟨lw_p41, List.forall_mem_cons.mpr ⟨lw_p42, List.forall_mem_cons.mpr ⟨lw_p43, List.forall_mem_cons.mpr ⟨lw_p44, List.forall_mem_cons.mpr ⟨lw_p45, List.forall_mem_cons.mpr ⟨lw_p46, List.forall_mem_cons.mpr ⟨lw_p47, fun _ h => absurd h List.not_mem_nil⟩⟩⟩⟩⟩⟩⟩⟩⟩⟩⟩⟩⟩⟩⟩⟩
theorem lw_p48 : lw_okq (⟨"QueryLoopsModel", "readNumeral", "(I)I"⟩, 55) := ⟨⟨by decide +kernel, by decide +kernel⟩, List.mem_of_getElem? (i := 1163) (by decide +kernel), List.mem_of_getElem? (i := 1421) (by decide +kernel), List.mem_of_getElem? (i := 1422) (by decide +kernel)⟩
theorem lw_p49 : lw_okq (⟨"QueryLoopsModel", "stop", "(I)V"⟩, 55) := ⟨⟨by decide +kernel, by decide +kernel⟩, List.mem_of_getElem? (i := 1163) (by decide +kernel), List.mem_of_getElem? (i := 1425) (by decide +kernel), List.mem_of_getElem? (i := 1426) (by decide +kernel)⟩
theorem lw_p50 : lw_okq (⟨"QueryLoopsModel", "wrong", "()V"⟩, 55) := ⟨⟨by decide +kernel, by decide +kernel⟩, List.mem_of_getElem? (i := 1163) (by decide +kernel), List.mem_of_getElem? (i := 1429) (by decide +kernel), List.mem_of_getElem? (i := 1430) (by decide +kernel)⟩
theorem lw_p51 : lw_okq (⟨"QueryLoopsModel", "readOut", "()V"⟩, 55) := ⟨⟨by decide +kernel, by decide +kernel⟩, List.mem_of_getElem? (i := 1163) (by decide +kernel), List.mem_of_getElem? (i := 1433) (by decide +kernel), List.mem_of_getElem? (i := 1434) (by decide +kernel)⟩
theorem lw_p52 : lw_okq (⟨"QueryLoopsModel", "readColumn", "()V"⟩, 55) := ⟨⟨by decide +kernel, by decide +kernel⟩, List.mem_of_getElem? (i := 1163) (by decide +kernel), List.mem_of_getElem? (i := 1440) (by decide +kernel), List.mem_of_getElem? (i := 1441) (by decide +kernel)⟩
theorem lw_p53 : lw_okq (⟨"QueryLoopsModel", "readItem", "(Z)V"⟩, 55) := ⟨⟨by decide +kernel, by decide +kernel⟩, List.mem_of_getElem? (i := 1163) (by decide +kernel), List.mem_of_getElem? (i := 1444) (by decide +kernel), List.mem_of_getElem? (i := 1445) (by decide +kernel)⟩
theorem lw_p54 : lw_okq (⟨"QueryLoopsModel", "readCondition", "()V"⟩, 55) := ⟨⟨by decide +kernel, by decide +kernel⟩, List.mem_of_getElem? (i := 1163) (by decide +kernel), List.mem_of_getElem? (i := 1448) (by decide +kernel), List.mem_of_getElem? (i := 1449) (by decide +kernel)⟩
theorem lw_p55 : lw_okq (⟨"QueryLoopsModel", "readComparison", "()V"⟩, 55) := ⟨⟨by decide +kernel, by decide +kernel⟩, List.mem_of_getElem? (i := 1163) (by decide +kernel), List.mem_of_getElem? (i := 1452) (by decide +kernel), List.mem_of_getElem? (i := 1453) (by decide +kernel)⟩
theorem lw_p56 : lw_okq (⟨"QueryLoopsModel", "readOperand", "()V"⟩, 55) := ⟨⟨by decide +kernel, by decide +kernel⟩, List.mem_of_getElem? (i := 1163) (by decide +kernel), List.mem_of_getElem? (i := 1456) (by decide +kernel), List.mem_of_getElem? (i := 1457) (by decide +kernel)⟩
theorem lw_p57 : lw_okq (⟨"QueryLoopsModel", "closeNots", "()V"⟩, 55) := ⟨⟨by decide +kernel, by decide +kernel⟩, List.mem_of_getElem? (i := 1163) (by decide +kernel), List.mem_of_getElem? (i := 1460) (by decide +kernel), List.mem_of_getElem? (i := 1461) (by decide +kernel)⟩
theorem lw_p58 : lw_okq (⟨"QueryLoopsModel", "readGroup", "()V"⟩, 55) := ⟨⟨by decide +kernel, by decide +kernel⟩, List.mem_of_getElem? (i := 1163) (by decide +kernel), List.mem_of_getElem? (i := 1464) (by decide +kernel), List.mem_of_getElem? (i := 1465) (by decide +kernel)⟩
theorem lw_p59 : lw_okq (⟨"QueryLoopsModel", "checkAll", "()V"⟩, 55) := ⟨⟨by decide +kernel, by decide +kernel⟩, List.mem_of_getElem? (i := 1163) (by decide +kernel), List.mem_of_getElem? (i := 1468) (by decide +kernel), List.mem_of_getElem? (i := 1469) (by decide +kernel)⟩
theorem lw_p60 : lw_okq (⟨"QueryLoopsModel", "checkColumn", "(II)V"⟩, 55) := ⟨⟨by decide +kernel, by decide +kernel⟩, List.mem_of_getElem? (i := 1163) (by decide +kernel), List.mem_of_getElem? (i := 1472) (by decide +kernel), List.mem_of_getElem? (i := 1473) (by decide +kernel)⟩
theorem lw_p61 : lw_okq (⟨"QueryLoopsModel", "itemOf", "(I)I"⟩, 55) := ⟨⟨by decide +kernel, by decide +kernel⟩, List.mem_of_getElem? (i := 1163) (by decide +kernel), List.mem_of_getElem? (i := 1476) (by decide +kernel), List.mem_of_getElem? (i := 1477) (by decide +kernel)⟩
theorem lw_p62 : lw_okq (⟨"QueryLoopsModel", "spot", "(I)V"⟩, 55) := ⟨⟨by decide +kernel, by decide +kernel⟩, List.mem_of_getElem? (i := 1163) (by decide +kernel), List.mem_of_getElem? (i := 1480) (by decide +kernel), List.mem_of_getElem? (i := 1481) (by decide +kernel)⟩
theorem lw_p63 : lw_okq (⟨"QueryLoopsModel", "columnOf", "(I)I"⟩, 55) := ⟨⟨by decide +kernel, by decide +kernel⟩, List.mem_of_getElem? (i := 1163) (by decide +kernel), List.mem_of_getElem? (i := 1484) (by decide +kernel), List.mem_of_getElem? (i := 1485) (by decide +kernel)⟩
def lw_privs_4 : List (MethodName × Nat) := [(⟨"QueryLoopsModel", "readNumeral", "(I)I"⟩, 55), (⟨"QueryLoopsModel", "stop", "(I)V"⟩, 55), (⟨"QueryLoopsModel", "wrong", "()V"⟩, 55), (⟨"QueryLoopsModel", "readOut", "()V"⟩, 55), (⟨"QueryLoopsModel", "readColumn", "()V"⟩, 55), (⟨"QueryLoopsModel", "readItem", "(Z)V"⟩, 55), (⟨"QueryLoopsModel", "readCondition", "()V"⟩, 55), (⟨"QueryLoopsModel", "readComparison", "()V"⟩, 55), (⟨"QueryLoopsModel", "readOperand", "()V"⟩, 55), (⟨"QueryLoopsModel", "closeNots", "()V"⟩, 55), (⟨"QueryLoopsModel", "readGroup", "()V"⟩, 55), (⟨"QueryLoopsModel", "checkAll", "()V"⟩, 55), (⟨"QueryLoopsModel", "checkColumn", "(II)V"⟩, 55), (⟨"QueryLoopsModel", "itemOf", "(I)I"⟩, 55), (⟨"QueryLoopsModel", "spot", "(I)V"⟩, 55), (⟨"QueryLoopsModel", "columnOf", "(I)I"⟩, 55)]
theorem lw_r4 : ∀ q ∈ lw_privs_4, lw_okq q := List.forall_mem_cons.mpr ⟨lw_p48, List.forall_mem_cons.mpr ⟨lw_p49, List.forall_mem_cons.mpr ⟨lw_p50, List.forall_mem_cons.mpr ⟨lw_p51, List.forall_mem_cons.mpr ⟨lw_p52, List.forall_mem_cons.mpr ⟨lw_p53, List.forall_mem_cons.mpr ⟨lw_p54, List.forall_mem_cons.mpr ⟨lw_p55, List.forall_mem_cons.mpr ⟨lw_p56, List.forall_mem_cons.mpr ⟨lw_p57, List.forall_mem_cons.mpr ⟨lw_p58, List.forall_mem_cons.mpr ⟨lw_p59, List.forall_mem_cons.mpr ⟨lw_p60, List.forall_mem_cons.mpr ⟨lw_p61, List.forall_mem_cons.mpr ⟨lw_p62, List.forall_mem_cons.mpr ⟨lw_p63, fun _ h => absurd h List.not_mem_nil⟩⟩⟩⟩⟩⟩⟩⟩⟩⟩⟩⟩⟩⟩⟩⟩
theorem lw_p64 : lw_okq (⟨"QueryLoopsModel", "isGrouped", "(I)Z"⟩, 55) := ⟨⟨by decide +kernel, by decide +kernel⟩, List.mem_of_getElem? (i := 1163) (by decide +kernel), List.mem_of_getElem? (i := 1488) (by decide +kernel), List.mem_of_getElem? (i := 1489) (by decide +kernel)⟩
theorem lw_p65 : lw_okq (⟨"QueryLoopsModel", "checkRange", "(III)V"⟩, 55) := ⟨⟨by decide +kernel, by decide +kernel⟩, List.mem_of_getElem? (i := 1163) (by decide +kernel), List.mem_of_getElem? (i := 1492) (by decide +kernel), List.mem_of_getElem? (i := 1493) (by decide +kernel)⟩
theorem lw_p66 : lw_okq (⟨"QueryLoopsModel", "findParts", "()V"⟩, 55) := ⟨⟨by decide +kernel, by decide +kernel⟩, List.mem_of_getElem? (i := 1163) (by decide +kernel), List.mem_of_getElem? (i := 1496) (by decide +kernel), List.mem_of_getElem? (i := 1497) (by decide +kernel)⟩
theorem lw_p67 : lw_okq (⟨"QueryLoopsModel", "addPart", "(II)V"⟩, 55) := ⟨⟨by decide +kernel, by decide +kernel⟩, List.mem_of_getElem? (i := 1163) (by decide +kernel), List.mem_of_getElem? (i := 1500) (by decide +kernel), List.mem_of_getElem? (i := 1501) (by decide +kernel)⟩
theorem lw_p68 : lw_okq (⟨"QueryLoopsModel", "newRow", "()Z"⟩, 55) := ⟨⟨by decide +kernel, by decide +kernel⟩, List.mem_of_getElem? (i := 1163) (by decide +kernel), List.mem_of_getElem? (i := 1512) (by decide +kernel), List.mem_of_getElem? (i := 1513) (by decide +kernel)⟩
theorem lw_p69 : lw_okq (⟨"QueryLoopsModel", "first", "()V"⟩, 55) := ⟨⟨by decide +kernel, by decide +kernel⟩, List.mem_of_getElem? (i := 1163) (by decide +kernel), List.mem_of_getElem? (i := 1516) (by decide +kernel), List.mem_of_getElem? (i := 1517) (by decide +kernel)⟩
theorem lw_p70 : lw_okq (⟨"QueryLoopsModel", "passes", "(I)Z"⟩, 55) := ⟨⟨by decide +kernel, by decide +kernel⟩, List.mem_of_getElem? (i := 1163) (by decide +kernel), List.mem_of_getElem? (i := 1520) (by decide +kernel), List.mem_of_getElem? (i := 1521) (by decide +kernel)⟩
theorem lw_p71 : lw_okq (⟨"QueryLoopsModel", "truthOf", "(II)I"⟩, 55) := ⟨⟨by decide +kernel, by decide +kernel⟩, List.mem_of_getElem? (i := 1163) (by decide +kernel), List.mem_of_getElem? (i := 1524) (by decide +kernel), List.mem_of_getElem? (i := 1525) (by decide +kernel)⟩
theorem lw_p72 : lw_okq (⟨"QueryLoopsModel", "compare", "(I)I"⟩, 55) := ⟨⟨by decide +kernel, by decide +kernel⟩, List.mem_of_getElem? (i := 1163) (by decide +kernel), List.mem_of_getElem? (i := 1531) (by decide +kernel), List.mem_of_getElem? (i := 1532) (by decide +kernel)⟩
theorem lw_p73 : lw_okq (⟨"QueryLoopsModel", "takeOperand", "(I)I"⟩, 55) := ⟨⟨by decide +kernel, by decide +kernel⟩, List.mem_of_getElem? (i := 1163) (by decide +kernel), List.mem_of_getElem? (i := 1535) (by decide +kernel), List.mem_of_getElem? (i := 1536) (by decide +kernel)⟩
theorem lw_p74 : lw_okq (⟨"QueryLoopsModel", "fetch", "(II)V"⟩, 55) := ⟨⟨by decide +kernel, by decide +kernel⟩, List.mem_of_getElem? (i := 1163) (by decide +kernel), List.mem_of_getElem? (i := 1539) (by decide +kernel), List.mem_of_getElem? (i := 1540) (by decide +kernel)⟩
theorem lw_p75 : lw_okq (⟨"QueryLoopsModel", "found", "()V"⟩, 55) := ⟨⟨by decide +kernel, by decide +kernel⟩, List.mem_of_getElem? (i := 1163) (by decide +kernel), List.mem_of_getElem? (i := 1549) (by decide +kernel), List.mem_of_getElem? (i := 1550) (by decide +kernel)⟩
theorem lw_p76 : lw_okq (⟨"QueryLoopsModel", "groupRow", "()I"⟩, 55) := ⟨⟨by decide +kernel, by decide +kernel⟩, List.mem_of_getElem? (i := 1163) (by decide +kernel), List.mem_of_getElem? (i := 1553) (by decide +kernel), List.mem_of_getElem? (i := 1554) (by decide +kernel)⟩
theorem lw_p77 : lw_okq (⟨"QueryLoopsModel", "sameKey", "(I)Z"⟩, 55) := ⟨⟨by decide +kernel, by decide +kernel⟩, List.mem_of_getElem? (i := 1163) (by decide +kernel), List.mem_of_getElem? (i := 1557) (by decide +kernel), List.mem_of_getElem? (i := 1558) (by decide +kernel)⟩
theorem lw_p78 : lw_okq (⟨"QueryLoopsModel", "gather", "(II)V"⟩, 55) := ⟨⟨by decide +kernel, by decide +kernel⟩, List.mem_of_getElem? (i := 1163) (by decide +kernel), List.mem_of_getElem? (i := 1561) (by decide +kernel), List.mem_of_getElem? (i := 1562) (by decide +kernel)⟩
theorem lw_p79 : lw_okq (⟨"QueryLoopsModel", "second", "()V"⟩, 55) := ⟨⟨by decide +kernel, by decide +kernel⟩, List.mem_of_getElem? (i := 1163) (by decide +kernel), List.mem_of_getElem? (i := 1565) (by decide +kernel), List.mem_of_getElem? (i := 1566) (by decide +kernel)⟩
def lw_privs_5 : List (MethodName × Nat) := [(⟨"QueryLoopsModel", "isGrouped", "(I)Z"⟩, 55), (⟨"QueryLoopsModel", "checkRange", "(III)V"⟩, 55), (⟨"QueryLoopsModel", "findParts", "()V"⟩, 55), (⟨"QueryLoopsModel", "addPart", "(II)V"⟩, 55), (⟨"QueryLoopsModel", "newRow", "()Z"⟩, 55), (⟨"QueryLoopsModel", "first", "()V"⟩, 55), (⟨"QueryLoopsModel", "passes", "(I)Z"⟩, 55), (⟨"QueryLoopsModel", "truthOf", "(II)I"⟩, 55), (⟨"QueryLoopsModel", "compare", "(I)I"⟩, 55), (⟨"QueryLoopsModel", "takeOperand", "(I)I"⟩, 55), (⟨"QueryLoopsModel", "fetch", "(II)V"⟩, 55), (⟨"QueryLoopsModel", "found", "()V"⟩, 55), (⟨"QueryLoopsModel", "groupRow", "()I"⟩, 55), (⟨"QueryLoopsModel", "sameKey", "(I)Z"⟩, 55), (⟨"QueryLoopsModel", "gather", "(II)V"⟩, 55), (⟨"QueryLoopsModel", "second", "()V"⟩, 55)]
theorem lw_r5 : ∀ q ∈ lw_privs_5, lw_okq q := List.forall_mem_cons.mpr ⟨lw_p64, List.forall_mem_cons.mpr ⟨lw_p65, List.forall_mem_cons.mpr ⟨lw_p66, List.forall_mem_cons.mpr ⟨lw_p67, List.forall_mem_cons.mpr ⟨lw_p68, List.forall_mem_cons.mpr ⟨lw_p69, List.forall_mem_cons.mpr ⟨lw_p70, List.forall_mem_cons.mpr ⟨lw_p71, List.forall_mem_cons.mpr ⟨lw_p72, List.forall_mem_cons.mpr ⟨lw_p73, List.forall_mem_cons.mpr ⟨lw_p74, List.forall_mem_cons.mpr ⟨lw_p75, List.forall_mem_cons.mpr ⟨lw_p76, List.forall_mem_cons.mpr ⟨lw_p77, List.forall_mem_cons.mpr ⟨lw_p78, List.forall_mem_cons.mpr ⟨lw_p79, fun _ h => absurd h List.not_mem_nil⟩⟩⟩⟩⟩⟩⟩⟩⟩⟩⟩⟩⟩⟩⟩⟩
theorem lw_p80 : lw_okq (⟨"QueryLoopsModel", "fits", "(I)Z"⟩, 55) := ⟨⟨by decide +kernel, by decide +kernel⟩, List.mem_of_getElem? (i := 1163) (by decide +kernel), List.mem_of_getElem? (i := 1569) (by decide +kernel), List.mem_of_getElem? (i := 1570) (by decide +kernel)⟩
theorem lw_p81 : lw_okq (⟨"QueryLoopsModel", "afterSecond", "()V"⟩, 55) := ⟨⟨by decide +kernel, by decide +kernel⟩, List.mem_of_getElem? (i := 1163) (by decide +kernel), List.mem_of_getElem? (i := 1573) (by decide +kernel), List.mem_of_getElem? (i := 1574) (by decide +kernel)⟩
theorem lw_p82 : lw_okq (⟨"QueryLoopsModel", "third", "()V"⟩, 55) := ⟨⟨by decide +kernel, by decide +kernel⟩, List.mem_of_getElem? (i := 1163) (by decide +kernel), List.mem_of_getElem? (i := 1577) (by decide +kernel), List.mem_of_getElem? (i := 1578) (by decide +kernel)⟩
theorem lw_p83 : lw_okq (⟨"QueryLoopsModel", "isThere", "(II)Z"⟩, 55) := ⟨⟨by decide +kernel, by decide +kernel⟩, List.mem_of_getElem? (i := 1163) (by decide +kernel), List.mem_of_getElem? (i := 1593) (by decide +kernel), List.mem_of_getElem? (i := 1594) (by decide +kernel)⟩
def lw_privs_6 : List (MethodName × Nat) := [(⟨"QueryLoopsModel", "fits", "(I)Z"⟩, 55), (⟨"QueryLoopsModel", "afterSecond", "()V"⟩, 55), (⟨"QueryLoopsModel", "third", "()V"⟩, 55), (⟨"QueryLoopsModel", "isThere", "(II)Z"⟩, 55)]
theorem lw_r6 : ∀ q ∈ lw_privs_6, lw_okq q := List.forall_mem_cons.mpr ⟨lw_p80, List.forall_mem_cons.mpr ⟨lw_p81, List.forall_mem_cons.mpr ⟨lw_p82, List.forall_mem_cons.mpr ⟨lw_p83, fun _ h => absurd h List.not_mem_nil⟩⟩⟩⟩
def lw_privs : List (MethodName × Nat) := lw_privs_1 ++ (lw_privs_2 ++ (lw_privs_3 ++ (lw_privs_4 ++ (lw_privs_5 ++ (lw_privs_6)))))
def lw_tbl : List Cond := k2_sels lw_privs ++ tables_1
theorem lw_privs_ok : ∀ q ∈ lw_privs, lw_okq q := by
  show ∀ q ∈ lw_privs_1 ++ (lw_privs_2 ++ (lw_privs_3 ++ (lw_privs_4 ++ (lw_privs_5 ++ (lw_privs_6))))), lw_okq q
  exact List.forall_mem_append.mpr ⟨lw_r1, List.forall_mem_append.mpr ⟨lw_r2, List.forall_mem_append.mpr ⟨lw_r3, List.forall_mem_append.mpr ⟨lw_r4, List.forall_mem_append.mpr ⟨lw_r5, lw_r6⟩⟩⟩⟩⟩
end
section
/-! ===== BEGIN words of one list among another's, by their places ===== -/
theorem goodIn_r {big : List Cond} (ws : List Cond) (ps : List Nat) (hp : ws = ps.filterMap (fun i => big[i]?)) (h : ws.all goodWord = true) : GoodIn big ws := by
  intro w hw
  have h1 := List.all_eq_true.mp h w hw
  rw [hp] at hw
  obtain ⟨i, -, hi⟩ := List.mem_filterMap.mp hw
  have hm : w ∈ big := by first | exact List.mem_of_getElem? hi | exact List.getElem?_mem hi
  exact ⟨hm, good_of_word h1⟩
theorem goodIn_app {big a b : List Cond} (ha : GoodIn big a) (hb : GoodIn big b) : GoodIn big (a ++ b) := fun w h => (List.mem_append.mp h).elim (ha w) (hb w)
theorem goodIn_ca {big a b : List Cond} {c : Cond} (ha : GoodIn big (c :: a)) (hb : GoodIn big b) : GoodIn big (c :: (a ++ b)) := fun w h => (List.mem_cons.mp h).elim (fun e => ha w (List.mem_cons.mpr (Or.inl e))) (fun h => (List.mem_append.mp h).elim (fun h => ha w (List.mem_cons.mpr (Or.inr h))) (hb w))
theorem goodIn_sub {big ws : List Cond} (hm : ∀ w ∈ ws, w ∈ big) (h : ws.all goodWord = true) : GoodIn big ws := fun w hw => ⟨hm w hw, good_of_word (List.all_eq_true.mp h w hw)⟩
/-! ===== END ===== -/

/-! ===== BEGIN exceptions that leave a method, and their catching by the caller (launches without stack traces) ===== -/
section VXA
/-! The laws vx_back, vx_callV, vx_callS, vx_callSW, vx_throw0, vx_throwS follow proofs of the library, with one case more: JvmDerived/Free/Laws.lean (Back.of_free), Shelf42/LK1.lean (callV, callS), Shelf/KitTraced.lean (throwNew0V, throwNewS). -/
/-- where a method has thrown q: the class by its name, the cell, what was written, the world -/
def vx_T (XC : String → State → State → Prop) (st : State) (q : Addr) (t : State) (mc ms : Nat) (free : Addr → Prop) : Prop :=
  ∃ (E : String) (ce : Cell) (L : List Loc), XC E st t ∧ t.heap[q]? = some ce ∧ ce.vm = .none ∧ st.vm.findClass E = some ce.cls ∧ st.WarmedH t.vm ∧ st.sameButNew ({ t with vm := st.vm } : State) L mc ms ∧ ∀ z ∈ L, free z.base
def vx_Q (Qc : Array Value → State → Outcome → State → Prop) (XC : String → State → State → Prop) (mc ms : Nat) (free : Addr → Prop) : Array Value → State → Outcome → State → Prop := fun a st o t =>
  (Qc a st o t ∧ ∃ L, FrameEnd st o t L mc ms ∧ ∀ q ∈ L, free q.base) ∨ ∃ q, o = .threw q ∧ vx_T XC st q t mc ms free
/-- a callee that returns or throws -/
def vx_Met (l : Launch) (y : MethodName) (ws : List Cond) (rm : Room) (Pc : Array Value → State → Prop) (Qc : Array Value → State → Outcome → State → Prop) (XC : String → State → State → Prop) (mc ms : Nat) (free : Addr → Prop) : Prop :=
  MetFree l y (headSpec ws rm) Pc (fun _ _ _ _ _ => True) (vx_Q Qc XC mc ms free)
def vx_Post (XC : String → State → State → Prop) (mc ms : Nat) (free : Addr → Prop) : Pt → Array Value → Addr → Pt → Prop := fun A a q B =>
  ∃ (g : JFrame) (mk : MethodId) (t : State) (L : List Loc) (E : String) (ce : Cell), B.U.heap = t.heap ∧ B.U.vm = t.vm ∧ XC E (A.U.calling g mk a) t ∧ t.heap[q]? = some ce ∧ ce.vm = .none ∧ A.U.vm.findClass E = some ce.cls ∧ B.locs = A.locs ++ L ∧ (∀ z ∈ L, free z.base) ∧ B.cells = A.cells + mc ∧ B.slots = A.slots + ms
def vx_Back (l : Launch) (R : Room) (p : Program) (e : Env) (below : List Frame) (s : State) (sargs : Array Value) (y : MethodName) (len W9 : Nat)
    (Pre : Pt → Array Value → Prop) (Post : Pt → Array Value → Option Value → Pt → Prop) (PostX : Pt → Array Value → Addr → Pt → Prop) : Prop :=
  ∀ (m : MethodId) (meth : Method) (c : Code) (A : Pt) (g : JFrame) (ig : Instr) (mk : MethodId) (a : Array Value),
    Stand p l e R s m sargs below meth c A.U A.locs A.cells A.slots → g.method = m → g.locals.size = c.maxLocals → decode c.code g.pc = .ok (ig, len) →
    2 * g.monitorRoom + (g.stack.map fun v => v.category).sum ≤ W9 → A.U.methodNamed? y = some mk → Pre A a →
    (∃ (v : Option Value) (B : Pt), Stand p l e R s m sargs below meth c B.U B.locs B.cells B.slots ∧ Post A a v B ∧
      Steps p.tables e below (doInvoke e (A.U.setTop g) [] mk a).1 (B.U.setTop { g with pc := g.pc + len, stack := v.toList ++ g.stack })) ∨
    (∃ (q : Addr) (B : Pt), Stand p l e R s m sargs below meth c B.U B.locs B.cells B.slots ∧ PostX A a q B ∧
      Steps p.tables e below (doInvoke e (A.U.setTop g) [] mk a).1 ((B.U.setTop g).pushFrame (.throwing q)))
section Payer
variable {l : Launch} {R : Room} {p : Program} {e : Env} {below : List Frame} {s : State} {sargs : Array Value} {y : MethodName} {len W9 : Nat}
theorem vx_back {ws : List Cond} {rm : Room} {Pc : Array Value → State → Prop} {Qc : Array Value → State → Outcome → State → Prop} {XC : String → State → State → Prop} {mc ms : Nat} {free : Addr → Prop} {bytes : ByteArray} {maxL : Nat} {ret : Option FieldType}
    (hM : vx_Met l y ws rm Pc Qc XC mc ms free) (hblind : FrameBlind Pc) (hrc : rm.cells = mc) (hrs : rm.slots = ms)
    (hframes : rm.frames + 1 ≤ R.frames) (hlocals : W9 + (maxL + 11) + rm.locals ≤ R.locals)
    (hws : ∀ w ∈ ws, ∀ a' U, s.WarmedH U.vm → w.before a' U = true) (hcode : Cond.code y bytes maxL ret ∈ ws) (hinit : ∀ a' U, s.WarmedH U.vm → (Cond.initialized y.cls).before a' U = true) :
    vx_Back l R p e below s sargs y len W9 (PreOf R mc ms Pc) (PostOf Qc mc ms free) (vx_Post XC mc ms free) := by
  intro m meth c A g ig mk a X hg hsize hdg hW hn hp
  have h1 : (headSpec ws rm).pre.before a A.U = true := atoms_intro fun w hw => hws w hw _ _ X.warmed
  have h2 : (Cond.code y bytes maxL ret).before a A.U = true := hws _ hcode _ _ X.warmed
  have h3 : (Cond.initialized y.cls).before a A.U = true := hinit _ _ X.warmed
  have h4 : A.cells + (headSpec ws rm).room.cells ≤ R.cells := by rw [show (headSpec ws rm).room.cells = mc from hrc]; exact hp.1
  have h5 : A.slots + (headSpec ws rm).room.slots ≤ R.slots := by rw [show (headSpec ws rm).room.slots = ms from hrs]; exact hp.2.1
  have hPc : Pc a (A.U.calling g mk a) := hblind _ _ _ _ hp.2.2
  obtain ⟨U, Ls, c0, s0⟩ := A
  dsimp only [Pt.U, Pt.locs, Pt.cells, Pt.slots] at h1 h2 h3 h4 h5 X hn hPc ⊢
  obtain ⟨methY, cY, hmY, hcY, -, hlY, -, -, -, -⟩ := Cond.code_spec hn h2
  obtain ⟨kY, hkY, -⟩ := className_of_methodNamed hn
  have hinitY : kY.init = .initialized := Cond.initialized_spec (findClass_of_methodNamed hn) hkY h3
  have h : At U g.method c below := by rw [hg]; exact X.here
  have hlocals9 : W9 + (maxL + 11) + (headSpec ws rm).room.locals ≤ R.locals := hlocals
  have happ : (headSpec ws rm).appliesLoose y e.platform (U.calling g mk a) = true :=
    Spec.appliesLoose_calling (g := g) h hdg hn hkY hinitY
      (X.room_calling (g := g) (R' := (headSpec ws rm).room) hsize hmY hcY hframes (by rw [hlY]; omega) h4 h5) h1
  obtain ⟨mid, hmid⟩ := h.above
  have hfr : (U.setTop g).frames = (.java g :: mid) ++ below := by rw [State.frames_setTop' g h.top, hmid]; rfl
  obtain ⟨o, s₂, hsteps, -, hend, hq⟩ := Steps.callFree hM p X.admits X.cas X.clock (acts := []) hfr happ hPc trivial
  have hq' : vx_Q Qc XC mc ms free a (U.calling g mk a) o s₂ := hq
  rw [State.frames_setTop' g h.top] at hend
  obtain ⟨g₀, hg0⟩ := Option.isSome_iff_exists.mp h.top
  obtain ⟨r, hr⟩ := State.topJava?_eq_some.mp hg0
  have hr' : (({ U with heap := s₂.heap, slotsUsed := s₂.slotsUsed } : State).setVm s₂.vm).frames = .java g₀ :: r := hr
  rcases hq' with ⟨hqc, L, hfe, hL⟩ | ⟨q, rfl, E, ce, L, hx, hce, hcv, hcl, hW₂, hsm, hL⟩
  · obtain ⟨⟨v, rfl⟩, hW₂, e2, q2, q3, q4, q5, q6⟩ := id hfe
    have e3 : s₂ = ({ (U.calling g mk a).setFrames s₂.frames with heap := s₂.heap, slotsUsed := s₂.slotsUsed } : State).setVm s₂.vm := by
      have : s₂ = ({ s₂ with vm := (U.calling g mk a).vm } : State).setVm s₂.vm := rfl
      rw [e2] at this
      exact this
    obtain ⟨c₂, i₂, len₂, hc₂, hd₂, hf₂⟩ := hend
    have hW' : U.WarmedH s₂.vm := hW₂
    have hcc : c₂ = c := by
      have h1 : s₂.code? g.method = U.code? g.method := by
        rw [State.code?_eq, State.code?_eq, hW'.alike.method?]
      exact Option.some.inj (hc₂.symm.trans (h1.trans h.code))
    subst hcc
    have hlen : len₂ = len := by rw [hdg] at hd₂; cases hd₂; rfl
    subst hlen
    have hs₂ : s₂ = (({ U with heap := s₂.heap, slotsUsed := s₂.slotsUsed } : State).setVm s₂.vm).setTop { g with pc := g.pc + len₂, stack := v.toList ++ g.stack } := by
      refine e3.trans ?_
      rw [hf₂, State.calling_eq h.top, State.setFrames_setFrames, State.setTop_of_frames _ hr', hr]
      rfl
    have hsame : U.sameButNew ({ U with heap := s₂.heap, slotsUsed := s₂.slotsUsed } : State) L mc ms := by
      refine ⟨?_, q2, q3, q4, q5, q6⟩
      obtain ⟨t, ht, -⟩ := State.frames_cons hr
      show ({ U with heap := s₂.heap, slotsUsed := s₂.slotsUsed } : State) = { U.setFrames U.frames with heap := s₂.heap, slotsUsed := s₂.slotsUsed }
      rw [State.setFrames_self ht]
    subst hg
    refine Or.inl ⟨v, ⟨(({ U with heap := s₂.heap, slotsUsed := s₂.slotsUsed } : State).setVm s₂.vm), Ls ++ L, c0 + mc, s0 + ms⟩,
      ⟨X.admits, X.cas, X.clock, X.frames, X.room, X.hears, X.method, X.code, (X.here.setHeapUsed s₂.heap s₂.slotsUsed).setVm hW'.alike, X.tail, State.WarmedH.trans X.warmed hW', X.limits, X.bytes, X.same.trans (hsame.setVm s.vm)⟩,
      ⟨g, mk, s₂, L, rfl, rfl, hqc, rfl, hL, rfl, rfl⟩, ?_⟩
    show Steps p.tables e below _ ((({ U with heap := s₂.heap, slotsUsed := s₂.slotsUsed } : State).setVm s₂.vm).setTop { g with pc := g.pc + len₂, stack := v.toList ++ g.stack })
    rw [← hs₂]
    exact hsteps
  · obtain ⟨e2, q2, q3, q4, q5, q6⟩ := id hsm
    have e3 : s₂ = ({ (U.calling g mk a).setFrames s₂.frames with heap := s₂.heap, slotsUsed := s₂.slotsUsed } : State).setVm s₂.vm := by
      have : s₂ = ({ s₂ with vm := (U.calling g mk a).vm } : State).setVm s₂.vm := rfl
      rw [e2] at this
      exact this
    have hf₂ : s₂.frames = .throwing q :: .java g :: U.frames.tail := hend
    have hW' : U.WarmedH s₂.vm := hW₂
    have hs₂ : s₂ = ((({ U with heap := s₂.heap, slotsUsed := s₂.slotsUsed } : State).setVm s₂.vm).setTop g).pushFrame (.throwing q) := by
      refine e3.trans ?_
      rw [hf₂, State.calling_eq h.top, State.setFrames_setFrames, State.pushFrame, State.frames_setTop _ hr', State.setTop_of_frames _ hr', State.setFrames_setFrames, hr]
      rfl
    have hsame : U.sameButNew ({ U with heap := s₂.heap, slotsUsed := s₂.slotsUsed } : State) L mc ms := by
      refine ⟨?_, q2, q3, q4, q5, q6⟩
      obtain ⟨t, ht, -⟩ := State.frames_cons hr
      show ({ U with heap := s₂.heap, slotsUsed := s₂.slotsUsed } : State) = { U.setFrames U.frames with heap := s₂.heap, slotsUsed := s₂.slotsUsed }
      rw [State.setFrames_self ht]
    subst hg
    refine Or.inr ⟨q, ⟨(({ U with heap := s₂.heap, slotsUsed := s₂.slotsUsed } : State).setVm s₂.vm), Ls ++ L, c0 + mc, s0 + ms⟩,
      ⟨X.admits, X.cas, X.clock, X.frames, X.room, X.hears, X.method, X.code, (X.here.setHeapUsed s₂.heap s₂.slotsUsed).setVm hW'.alike, X.tail, State.WarmedH.trans X.warmed hW', X.limits, X.bytes, X.same.trans (hsame.setVm s.vm)⟩,
      ⟨g, mk, s₂, L, E, ce, rfl, rfl, hx, hce, hcv, hcl, rfl, hL, rfl, rfl⟩, ?_⟩
    show Steps p.tables e below _ (((({ U with heap := s₂.heap, slotsUsed := s₂.slotsUsed } : State).setVm s₂.vm).setTop g).pushFrame (.throwing q))
    rw [← hs₂]
    exact hsteps
end Payer
section Calls
variable {p : Program} {l : Launch} {e : Env} {R : Room} {s : State} {m : MethodId} {args : Array Value} {below : List Frame} {meth : Method} {c : Code} {T : State} {locs : List Loc} {cells slots : Nat}
theorem vx_callV (X : Stand p l e R s m args below meth c T locs cells slots) (hexec : p.tables.exec = Jvm.exec) {own C : String} {index : Nat} {y : MethodName} {bytes : ByteArray} {maxL : Nat} {ret : Option FieldType}
    (hown : s.vm.findClass own = some m.cls) (hlink : (Cond.methodLink own index y).before args s = true) (hinst : (Cond.instanceMethod y).before args s = true) (hsel : (Cond.selects C y y).before args s = true)
    (hcode : (Cond.code y bytes maxL ret).before args s = true) (hy : y.cls ≠ "java/lang/invoke/MethodHandle" ∧ y.cls ≠ "java/lang/invoke/VarHandle")
    {W9 : Nat} {Pre : Pt → Array Value → Prop} {Post : Pt → Array Value → Option Value → Pt → Prop} {PostX : Pt → Array Value → Addr → Pt → Prop} (hK : vx_Back l R p e below s args y 3 W9 Pre Post PostX)
    {b : Addr} {cellB : Cell} (hcell : T.heap[b]? = some cellB) (hobj : cellB.vm.isStatics = false) (hcls : s.vm.findClass C = some cellB.cls)
    {g : JFrame} (hg : g.method = m) (hsize : g.locals.size = c.maxLocals) {argsL rest : List Value} (hlen : ∀ sig, parseMethodDescriptor y.desc = some sig → argsL.length = sig.parameters.length)
    (hstack : g.stack = argsL.reverse ++ .ref b :: rest) (hW : 2 * g.monitorRoom + (rest.map fun v => v.category).sum ≤ W9) (hdg : decode c.code g.pc = .ok (.invokevirtual index, 3))
    (hpre : ∀ vm₁, s.WarmedH vm₁ → Pre ⟨T.setVm vm₁, locs, cells, slots⟩ (Value.ref b :: argsL).toArray) :
    (∃ (v : Option Value) (vm₁ : Vm) (B : Pt), s.WarmedH vm₁ ∧ Stand p l e R s m args below meth c B.U B.locs B.cells B.slots ∧ Post ⟨T.setVm vm₁, locs, cells, slots⟩ (Value.ref b :: argsL).toArray v B ∧
      ∀ target, Steps p.tables e below (B.U.setTop { g with pc := g.pc + 3, stack := v.toList ++ rest }) target → Steps p.tables e below (T.setTop g) target) ∨
    (∃ (q : Addr) (vm₁ : Vm) (B : Pt), s.WarmedH vm₁ ∧ Stand p l e R s m args below meth c B.U B.locs B.cells B.slots ∧ PostX ⟨T.setVm vm₁, locs, cells, slots⟩ (Value.ref b :: argsL).toArray q B ∧
      Steps p.tables e below (T.setTop g) ((B.U.setTop { g with stack := rest }).pushFrame (.throwing q))) := by
  obtain ⟨mk, methM, hnamed, hmethM, hstM, habM⟩ := Cond.instanceMethod_spec hinst
  obtain ⟨methM', cM, hmethM', -, -, -, -, -, -, hsigM⟩ := Cond.code_spec hnamed hcode
  cases hmethM.symm.trans hmethM'
  obtain ⟨c2, r2, m2, q1, q2, q3, q4, kP, hkP, hkPi⟩ := Cond.selects_spec hsel
  cases hcls.symm.trans q1
  cases (State.methodFound?_of_named hnamed hy).symm.trans q2
  cases hnamed.symm.trans q3
  have hselP : selectMethod e.platform s.vm cellB.cls mk = .method mk := by rw [Launch.admits_selectMethod X.admits]; exact q4
  obtain ⟨vm₁, X₁, hstep₁⟩ := X.invokevirtual hexec hown hlink hnamed hmethM hstM hkP hkPi hy (a := b) (cell := cellB) hcell
    (fun z h => by rw [h] at hobj; cases hobj) hselP hmethM habM hkP hkPi (g := g) hg (argsL := argsL) (rest := rest) (hlen _ hsigM) hstack hdg
  rcases hK m meth c ⟨T.setVm vm₁, locs, cells, slots⟩ { g with stack := rest } (.invokevirtual index) mk (Value.ref b :: argsL).toArray X₁ hg hsize hdg hW (X₁.named hnamed) (hpre vm₁ X₁.warmed) with ⟨v, B, X', hpost, hsteps⟩ | ⟨q, B, X', hpost, hsteps⟩
  · exact Or.inl ⟨v, vm₁, B, X₁.warmed, X', hpost, fun target h => hstep₁ _ fun acts => by rw [doInvoke_state]; exact hsteps.trans h⟩
  · exact Or.inr ⟨q, vm₁, B, X₁.warmed, X', hpost, hstep₁ _ fun acts => by rw [doInvoke_state]; exact hsteps⟩
theorem vx_callS (X : Stand p l e R s m args below meth c T locs cells slots) (hexec : p.tables.exec = Jvm.exec) {own : String} {index : Nat} {y : MethodName} {bytes : ByteArray} {maxL : Nat} {ret : Option FieldType}
    (hown : s.vm.findClass own = some m.cls) (hlink : (Cond.methodLink own index y).before args s = true) (hstat : (Cond.static y).before args s = true) (hinit : (Cond.initialized y.cls).before args s = true)
    (hcode : (Cond.code y bytes maxL ret).before args s = true) (hy : y.cls ≠ "java/lang/invoke/MethodHandle" ∧ y.cls ≠ "java/lang/invoke/VarHandle")
    {W9 : Nat} {Pre : Pt → Array Value → Prop} {Post : Pt → Array Value → Option Value → Pt → Prop} {PostX : Pt → Array Value → Addr → Pt → Prop} (hK : vx_Back l R p e below s args y 3 W9 Pre Post PostX)
    {g : JFrame} (hg : g.method = m) (hsize : g.locals.size = c.maxLocals) {argsL rest : List Value} (hlen : ∀ sig, parseMethodDescriptor y.desc = some sig → argsL.length = sig.parameters.length)
    (hstack : g.stack = argsL.reverse ++ rest) (hW : 2 * g.monitorRoom + (rest.map fun v => v.category).sum ≤ W9) (hdg : decode c.code g.pc = .ok (.invokestatic index, 3))
    (hpre : ∀ vm₁, s.WarmedH vm₁ → Pre ⟨T.setVm vm₁, locs, cells, slots⟩ argsL.toArray) :
    (∃ (v : Option Value) (vm₁ : Vm) (B : Pt), s.WarmedH vm₁ ∧ Stand p l e R s m args below meth c B.U B.locs B.cells B.slots ∧ Post ⟨T.setVm vm₁, locs, cells, slots⟩ argsL.toArray v B ∧
      ∀ target, Steps p.tables e below (B.U.setTop { g with pc := g.pc + 3, stack := v.toList ++ rest }) target → Steps p.tables e below (T.setTop g) target) ∨
    (∃ (q : Addr) (vm₁ : Vm) (B : Pt), s.WarmedH vm₁ ∧ Stand p l e R s m args below meth c B.U B.locs B.cells B.slots ∧ PostX ⟨T.setVm vm₁, locs, cells, slots⟩ argsL.toArray q B ∧
      Steps p.tables e below (T.setTop g) ((B.U.setTop { g with stack := rest }).pushFrame (.throwing q))) := by
  obtain ⟨mk, hnamed⟩ := Cond.code_named hcode
  obtain ⟨methM, cM, hmethM, -, -, -, -, -, -, hsigM⟩ := Cond.code_spec hnamed hcode
  have hstatic : methM.isStatic = true := Cond.static_spec hnamed hmethM hstat
  obtain ⟨kP, hkP, -⟩ := className_of_methodNamed hnamed
  have hinitP : kP.init = .initialized := Cond.initialized_spec (findClass_of_methodNamed hnamed) hkP hinit
  obtain ⟨vm₁, X₁, hstep₁⟩ := X.invokestatic hexec hown hlink hnamed hmethM hstatic hkP hinitP hy (g := g) hg (argsL := argsL) (rest := rest) (hlen _ hsigM) hstack hdg
  rcases hK m meth c ⟨T.setVm vm₁, locs, cells, slots⟩ { g with stack := rest } (.invokestatic index) mk argsL.toArray X₁ hg hsize hdg hW (X₁.named hnamed) (hpre vm₁ X₁.warmed) with ⟨v, B, X', hpost, hsteps⟩ | ⟨q, B, X', hpost, hsteps⟩
  · exact Or.inl ⟨v, vm₁, B, X₁.warmed, X', hpost, fun target h => hstep₁ _ fun acts => by rw [doInvoke_state]; exact hsteps.trans h⟩
  · exact Or.inr ⟨q, vm₁, B, X₁.warmed, X', hpost, hstep₁ _ fun acts => by rw [doInvoke_state]; exact hsteps⟩
end Calls
theorem vx_cls {s : State} {T : State} {vm₁ : Vm} {E : String} {k : ClassId} (hW : s.WarmedH vm₁) (h : (T.setVm vm₁).vm.findClass E = some k) : s.vm.findClass E = some k := by
  have h1 : vm₁.findClass E = some k := h
  rw [hW.alike.findClass] at h1
  exact h1
/-- the method's frame g, with q thrown over it -/
def vx_W (p : Program) (l : Launch) (e : Env) (R : Room) (s : State) (m : MethodId) (args : Array Value) (below : List Frame) (meth : Method) (c : Code) (H : Heap) (locs : List Loc) (cells slots : Nat) (Q : State → Prop) (g : JFrame) (q : Addr) : Prop :=
  ∀ T : State, T.heap = H → Stand p l e R s m args below meth c T locs cells slots → ∃ t, Steps p.tables e below ((T.setTop g).pushFrame (.throwing q)) t ∧ Q t
def vx_Run (p : Program) (l : Launch) (e : Env) (R : Room) (s : State) (m : MethodId) (args : Array Value) (below : List Frame) (meth : Method) (c : Code) (H : Heap) (locs : List Loc) (cells slots mc ms : Nat) (g : JFrame) (rest : List Value) (Qa : State → Outcome → State → Prop) (XC : String → State → State → Prop) (free : Addr → Prop) : Prop :=
  ∀ T : State, T.heap = H → Stand p l e R s m args below meth c T locs cells slots →
    (∃ (v : Option Value) (st₀ t T' : State) (L : List Loc), st₀.heap = H ∧ Stand p l e R s m args below meth c T' (locs ++ L) (cells + mc) (slots + ms) ∧ (∀ q ∈ L, free q.base) ∧ T'.heap = t.heap ∧ T'.vm = t.vm ∧ Qa st₀ (.returned v) t ∧
      Goes p e below T g T' { g with pc := g.pc + 3, stack := v.toList ++ rest }) ∨
    (∃ (q : Addr) (st₀ t T' : State) (L : List Loc) (E : String) (ce : Cell), st₀.heap = H ∧ Stand p l e R s m args below meth c T' (locs ++ L) (cells + mc) (slots + ms) ∧ (∀ z ∈ L, free z.base) ∧ T'.heap = t.heap ∧ T'.vm = t.vm ∧ XC E st₀ t ∧ t.heap[q]? = some ce ∧ ce.vm = .none ∧ s.vm.findClass E = some ce.cls ∧
      Steps p.tables e below (T.setTop g) ((T'.setTop { g with stack := rest }).pushFrame (.throwing q)))
def vx_X {S : Type} (px : S → Prop) (B : String → S → State → Prop) (A : Nat → Prop) : String → State → State → Prop := fun E st t => ∃ u : S, px u ∧ B E u t ∧ va_F A st t
section Runs
variable {p : Program} {l : Launch} {e : Env} {R : Room} {s : State} {m : MethodId} {args : Array Value} {below : List Frame} {meth : Method} {c : Code} {H : Heap} {locs : List Loc} {cells slots : Nat}
variable {y : MethodName} {bytes cc : ByteArray} {maxL nL mc ms n index : Nat} {ret : Option FieldType} {ws : List Cond} {rm : Room} {Pc : Array Value → State → Prop} {Qc : Array Value → State → Outcome → State → Prop} {XC : String → State → State → Prop} {free : Addr → Prop} {Ts : List Cond} {own C : String} {b : Addr} {As rest : List Value} {g : JFrame}
theorem vx_callBack (cb : CallB R s args own index y bytes maxL ret ws rm mc ms n) (hM : vx_Met l y ws rm Pc Qc XC mc ms free) (hbl : FrameBlind Pc) : vx_Back l R p e below s args y 3 8 (PreOf R mc ms Pc) (PostOf Qc mc ms free) (vx_Post XC mc ms free) := by
  obtain ⟨hrc, hrs, hfr, hlo, hws, hcw, -, hini, -⟩ := cb
  exact vx_back (bytes := bytes) (maxL := maxL) (ret := ret) hM hbl hrc hrs hfr hlo hws hcw (fun a' U hW => word_at hW (Or.inl (by first | rfl | simp [Cond.onTables, Cond.keeps, Cond.steady])) hini)
theorem vx_runV (S : CallFix p m c cc nL s args Ts own) (hM : vx_Met l y ws rm Pc Qc XC mc ms free) (cw : CallW R s args own C index y bytes maxL ret ws rm mc ms n) (hp : PreV s H C b Pc As)
    (hg : g.method = m) (hn : As.length = n) (hsize : g.locals.size = nL) (hstack : g.stack = As.reverse ++ .ref b :: rest) (hW : 2 * g.monitorRoom + (rest.map fun v => v.category).sum ≤ 8) (hdg : decode cc g.pc = .ok (.invokevirtual index, 3)) (hf : cells + mc ≤ R.cells ∧ slots + ms ≤ R.slots) :
    vx_Run p l e R s m args below meth c H locs cells slots mc ms g rest (Qc (Value.ref b :: As).toArray) XC free := by
  have hK : vx_Back l R p e below s args y 3 8 (PreOf R mc ms Pc) (PostOf Qc mc ms free) (vx_Post XC mc ms free) := vx_callBack cw.1 hM hp.1
  obtain ⟨⟨-, -, -, -, -, -, hcode, -, hy, hlen, hl⟩, hin, hse⟩ := cw
  obtain ⟨hx, hb, hml, ho, -⟩ := S
  obtain ⟨-, ⟨cellB, hcB, hoB, hclB⟩, hPc⟩ := hp
  intro T hT X
  rcases vx_callV X hx (C := C) (bytes := bytes) (maxL := maxL) (ret := ret) ho hl hin hse hcode hy hK (by rw [hT]; exact hcB) hoB hclB hg (hsize.trans hml.symm) (argsL := As) (rest := rest) (fun sig h => hn.trans (hlen sig h)) hstack hW (by rw [hb]; exact hdg)
    (fun vm₁ hW₁ => ⟨hf.1, hf.2, hPc (T.setVm vm₁) hT hW₁⟩) with ⟨v, vm₁, ⟨U', l2, c2, s2⟩, hW₁, X', ⟨g', mk, t, L, e1, e2, hq, h1, hL, h2, h3⟩, st⟩ | ⟨q, vm₁, ⟨U', l2, c2, s2⟩, hW₁, X', ⟨g', mk, t, L, E, ce, e1, e2, hq, hce, hcv, hcl, h1, hL, h2, h3⟩, st⟩
  · dsimp only [Pt.U, Pt.locs, Pt.cells, Pt.slots] at X' e1 e2 h1 h2 h3 st
    subst h1; subst h2; subst h3
    exact Or.inl ⟨v, (T.setVm vm₁).calling g' mk (Value.ref b :: As).toArray, t, U', L, hT, X', hL, e1, e2, hq, st⟩
  · dsimp only [Pt.U, Pt.locs, Pt.cells, Pt.slots] at X' e1 e2 h1 h2 h3 st hcl
    subst h1; subst h2; subst h3
    exact Or.inr ⟨q, (T.setVm vm₁).calling g' mk (Value.ref b :: As).toArray, t, U', L, E, ce, hT, X', hL, e1, e2, hq, hce, hcv, vx_cls hW₁ hcl, st⟩
theorem vx_runS (S : CallFix p m c cc nL s args Ts own) (hM : vx_Met l y ws rm Pc Qc XC mc ms free) (cw : CallB R s args own index y bytes maxL ret ws rm mc ms n ∧ (Cond.static y).before args s = true) (hp : PreS s H Pc As)
    (hg : g.method = m) (hn : As.length = n) (hsize : g.locals.size = nL) (hstack : g.stack = As.reverse ++ rest) (hW : 2 * g.monitorRoom + (rest.map fun v => v.category).sum ≤ 8) (hdg : decode cc g.pc = .ok (.invokestatic index, 3)) (hf : cells + mc ≤ R.cells ∧ slots + ms ≤ R.slots) :
    vx_Run p l e R s m args below meth c H locs cells slots mc ms g rest (Qc As.toArray) XC free := by
  have hK : vx_Back l R p e below s args y 3 8 (PreOf R mc ms Pc) (PostOf Qc mc ms free) (vx_Post XC mc ms free) := vx_callBack cw.1 hM hp.1
  obtain ⟨⟨-, -, -, -, -, -, hcode, hini, hy, hlen, hl⟩, hstt⟩ := cw
  obtain ⟨hx, hb, hml, ho, -⟩ := S
  intro T hT X
  rcases vx_callS X hx (bytes := bytes) (maxL := maxL) (ret := ret) ho hl hstt hini hcode hy hK hg (hsize.trans hml.symm) (argsL := As) (rest := rest) (fun sig h => hn.trans (hlen sig h)) hstack hW (by rw [hb]; exact hdg)
    (fun vm₁ hW₁ => ⟨hf.1, hf.2, hp.2 (T.setVm vm₁) hT hW₁⟩) with ⟨v, vm₁, ⟨U', l2, c2, s2⟩, hW₁, X', ⟨g', mk, t, L, e1, e2, hq, h1, hL, h2, h3⟩, st⟩ | ⟨q, vm₁, ⟨U', l2, c2, s2⟩, hW₁, X', ⟨g', mk, t, L, E, ce, e1, e2, hq, hce, hcv, hcl, h1, hL, h2, h3⟩, st⟩
  · dsimp only [Pt.U, Pt.locs, Pt.cells, Pt.slots] at X' e1 e2 h1 h2 h3 st
    subst h1; subst h2; subst h3
    exact Or.inl ⟨v, (T.setVm vm₁).calling g' mk As.toArray, t, U', L, hT, X', hL, e1, e2, hq, st⟩
  · dsimp only [Pt.U, Pt.locs, Pt.cells, Pt.slots] at X' e1 e2 h1 h2 h3 st hcl
    subst h1; subst h2; subst h3
    exact Or.inr ⟨q, (T.setVm vm₁).calling g' mk As.toArray, t, U', L, E, ce, hT, X', hL, e1, e2, hq, hce, hcv, vx_cls hW₁ hcl, st⟩
end Runs
section Rows
variable {p : Program} {l : Launch} {e : Env} {R : Room} {s : State} {m : MethodId} {args : Array Value} {below : List Frame} {meth : Method} {c : Code} {H : Heap} {locs : List Loc} {cells slots : Nat} {Q : State → Prop}
variable {mc ms : Nat} {free : Addr → Prop} {A0 A1 : Nat → Prop} {H0 : Heap} {a : Array Value} {pc : Nat} {ls : Array Slot} {st0 rest : List Value}
theorem vx_keep {st₀ t T' : State} {L : List Loc} (h0 : st₀.heap = H) (e1 : T'.heap = t.heap) (hS : va_S A0 H0 H locs) (hA : ∀ q, q < H.size → A1 q → A0 q) (hf : ∀ q, free q → A0 q) (hL : ∀ q ∈ L, free q.base) (hF : va_F A1 st₀ t) :
    H.size ≤ T'.heap.size ∧ (∀ q : Nat, q < H.size → ¬ A1 q → T'.heap[q]? = H[q]?) ∧ va_S A0 H0 T'.heap (locs ++ L) := by
  obtain ⟨hz, hk⟩ := hF
  rw [h0] at hz hk
  exact ⟨by rw [e1]; exact hz, fun q h1 h2 => by rw [e1]; exact hk q h1 h2,
    ⟨Nat.le_trans hS.1 (by rw [e1]; exact hz), fun q h1 h2 => by rw [e1, hk q (Nat.lt_of_lt_of_le h1 hS.1) (fun z => h2 (hA q (Nat.lt_of_lt_of_le h1 hS.1) z))]; exact hS.2.1 q h1 h2, fun q hq => by
      rcases List.mem_append.mp hq with h | h
      · exact hS.2.2 q h
      · exact hf _ (hL q h)⟩⟩
theorem vx_calli {S SX : Type} {post : Int32 → S → Prop} {px : SX → Prop} {B : S → State → Prop} {BX : String → SX → State → Prop} {AX : Nat → Prop} (hr : vx_Run p l e R s m args below meth c H locs cells slots mc ms (F0 m pc ls st0) rest (va_Qi post B A1 a) (vx_X px BX AX) free) (hS : va_S A0 H0 H locs) (hA : ∀ q, q < H.size → A1 q → A0 q) (hf : ∀ q, free q → A0 q) (hAX : ∀ q, q < H.size → AX q → A0 q)
    (kx : ∀ (E : String) (ce : Cell) (q9 : Addr) (u : SX) (t : State) (H1 : Heap) (locs1 : List Loc), t.heap = H1 → s.vm.Alike t.vm → px u → BX E u t → H.size ≤ H1.size → (∀ q : Nat, q < H.size → ¬ AX q → H1[q]? = H[q]?) → va_S A0 H0 H1 locs1 → H1[q9]? = some ce → ce.vm = .none → s.vm.findClass E = some ce.cls → vx_W p l e R s m args below meth c H1 locs1 (cells + mc) (slots + ms) Q (F0 m pc ls rest) q9)
    (kk : ∀ (r : Int32) (u : S) (t : State) (H1 : Heap) (locs1 : List Loc), t.heap = H1 → s.vm.Alike t.vm → post r u → B u t → H.size ≤ H1.size → (∀ q : Nat, q < H.size → ¬ A1 q → H1[q]? = H[q]?) → va_S A0 H0 H1 locs1 → W p l e R s m args below meth c H1 locs1 (cells + mc) (slots + ms) Q (F0 m (pc + 3) ls (.int r :: rest))) : W p l e R s m args below meth c H locs cells slots Q (F0 m pc ls st0) := by
  intro T hT X
  rcases hr T hT X with ⟨v, st₀, t, T', L, h0, X', hL, e1, e2, ⟨⟨r, u, hv, hp, hb⟩, hF⟩, st⟩ | ⟨q, st₀, t, T', L, E, ce, h0, X', hL, e1, e2, ⟨u, hp, hb, hF⟩, hce, hcv, hcl, st⟩
  · cases hv
    obtain ⟨k1, k2, k3⟩ := vx_keep h0 e1 hS hA hf hL hF
    obtain ⟨t2, a1, b1⟩ := kk r u t T'.heap (locs ++ L) e1.symm (by rw [← e2]; exact X'.warmed.alike) hp hb k1 k2 k3 T' rfl X'
    exact ⟨t2, st t2 a1, b1⟩
  · obtain ⟨k1, k2, k3⟩ := vx_keep h0 e1 hS hAX hf hL hF
    obtain ⟨t2, a1, b1⟩ := kx E ce q u t T'.heap (locs ++ L) e1.symm (by rw [← e2]; exact X'.warmed.alike) hp hb k1 k2 k3 (by rw [e1]; exact hce) hcv hcl T' rfl X'
    exact ⟨t2, st.trans a1, b1⟩
theorem vx_calll {S SX : Type} {post : Int64 → S → Prop} {px : SX → Prop} {B : S → State → Prop} {BX : String → SX → State → Prop} {AX : Nat → Prop} (hr : vx_Run p l e R s m args below meth c H locs cells slots mc ms (F0 m pc ls st0) rest (va_Ql post B A1 a) (vx_X px BX AX) free) (hS : va_S A0 H0 H locs) (hA : ∀ q, q < H.size → A1 q → A0 q) (hf : ∀ q, free q → A0 q) (hAX : ∀ q, q < H.size → AX q → A0 q)
    (kx : ∀ (E : String) (ce : Cell) (q9 : Addr) (u : SX) (t : State) (H1 : Heap) (locs1 : List Loc), t.heap = H1 → s.vm.Alike t.vm → px u → BX E u t → H.size ≤ H1.size → (∀ q : Nat, q < H.size → ¬ AX q → H1[q]? = H[q]?) → va_S A0 H0 H1 locs1 → H1[q9]? = some ce → ce.vm = .none → s.vm.findClass E = some ce.cls → vx_W p l e R s m args below meth c H1 locs1 (cells + mc) (slots + ms) Q (F0 m pc ls rest) q9)
    (kk : ∀ (r : Int64) (u : S) (t : State) (H1 : Heap) (locs1 : List Loc), t.heap = H1 → s.vm.Alike t.vm → post r u → B u t → H.size ≤ H1.size → (∀ q : Nat, q < H.size → ¬ A1 q → H1[q]? = H[q]?) → va_S A0 H0 H1 locs1 → W p l e R s m args below meth c H1 locs1 (cells + mc) (slots + ms) Q (F0 m (pc + 3) ls (.long r :: rest))) : W p l e R s m args below meth c H locs cells slots Q (F0 m pc ls st0) := by
  intro T hT X
  rcases hr T hT X with ⟨v, st₀, t, T', L, h0, X', hL, e1, e2, ⟨⟨r, u, hv, hp, hb⟩, hF⟩, st⟩ | ⟨q, st₀, t, T', L, E, ce, h0, X', hL, e1, e2, ⟨u, hp, hb, hF⟩, hce, hcv, hcl, st⟩
  · cases hv
    obtain ⟨k1, k2, k3⟩ := vx_keep h0 e1 hS hA hf hL hF
    obtain ⟨t2, a1, b1⟩ := kk r u t T'.heap (locs ++ L) e1.symm (by rw [← e2]; exact X'.warmed.alike) hp hb k1 k2 k3 T' rfl X'
    exact ⟨t2, st t2 a1, b1⟩
  · obtain ⟨k1, k2, k3⟩ := vx_keep h0 e1 hS hAX hf hL hF
    obtain ⟨t2, a1, b1⟩ := kx E ce q u t T'.heap (locs ++ L) e1.symm (by rw [← e2]; exact X'.warmed.alike) hp hb k1 k2 k3 (by rw [e1]; exact hce) hcv hcl T' rfl X'
    exact ⟨t2, st.trans a1, b1⟩
theorem vx_callf {S SX : Type} {post : UInt32 → S → Prop} {px : SX → Prop} {B : S → State → Prop} {BX : String → SX → State → Prop} {AX : Nat → Prop} (hr : vx_Run p l e R s m args below meth c H locs cells slots mc ms (F0 m pc ls st0) rest (va_Qf post B A1 a) (vx_X px BX AX) free) (hS : va_S A0 H0 H locs) (hA : ∀ q, q < H.size → A1 q → A0 q) (hf : ∀ q, free q → A0 q) (hAX : ∀ q, q < H.size → AX q → A0 q)
    (kx : ∀ (E : String) (ce : Cell) (q9 : Addr) (u : SX) (t : State) (H1 : Heap) (locs1 : List Loc), t.heap = H1 → s.vm.Alike t.vm → px u → BX E u t → H.size ≤ H1.size → (∀ q : Nat, q < H.size → ¬ AX q → H1[q]? = H[q]?) → va_S A0 H0 H1 locs1 → H1[q9]? = some ce → ce.vm = .none → s.vm.findClass E = some ce.cls → vx_W p l e R s m args below meth c H1 locs1 (cells + mc) (slots + ms) Q (F0 m pc ls rest) q9)
    (kk : ∀ (r : UInt32) (u : S) (t : State) (H1 : Heap) (locs1 : List Loc), t.heap = H1 → s.vm.Alike t.vm → post r u → B u t → H.size ≤ H1.size → (∀ q : Nat, q < H.size → ¬ A1 q → H1[q]? = H[q]?) → va_S A0 H0 H1 locs1 → W p l e R s m args below meth c H1 locs1 (cells + mc) (slots + ms) Q (F0 m (pc + 3) ls (.float r :: rest))) : W p l e R s m args below meth c H locs cells slots Q (F0 m pc ls st0) := by
  intro T hT X
  rcases hr T hT X with ⟨v, st₀, t, T', L, h0, X', hL, e1, e2, ⟨⟨r, u, hv, hp, hb⟩, hF⟩, st⟩ | ⟨q, st₀, t, T', L, E, ce, h0, X', hL, e1, e2, ⟨u, hp, hb, hF⟩, hce, hcv, hcl, st⟩
  · cases hv
    obtain ⟨k1, k2, k3⟩ := vx_keep h0 e1 hS hA hf hL hF
    obtain ⟨t2, a1, b1⟩ := kk r u t T'.heap (locs ++ L) e1.symm (by rw [← e2]; exact X'.warmed.alike) hp hb k1 k2 k3 T' rfl X'
    exact ⟨t2, st t2 a1, b1⟩
  · obtain ⟨k1, k2, k3⟩ := vx_keep h0 e1 hS hAX hf hL hF
    obtain ⟨t2, a1, b1⟩ := kx E ce q u t T'.heap (locs ++ L) e1.symm (by rw [← e2]; exact X'.warmed.alike) hp hb k1 k2 k3 (by rw [e1]; exact hce) hcv hcl T' rfl X'
    exact ⟨t2, st.trans a1, b1⟩
theorem vx_calld {S SX : Type} {post : UInt64 → S → Prop} {px : SX → Prop} {B : S → State → Prop} {BX : String → SX → State → Prop} {AX : Nat → Prop} (hr : vx_Run p l e R s m args below meth c H locs cells slots mc ms (F0 m pc ls st0) rest (va_Qd post B A1 a) (vx_X px BX AX) free) (hS : va_S A0 H0 H locs) (hA : ∀ q, q < H.size → A1 q → A0 q) (hf : ∀ q, free q → A0 q) (hAX : ∀ q, q < H.size → AX q → A0 q)
    (kx : ∀ (E : String) (ce : Cell) (q9 : Addr) (u : SX) (t : State) (H1 : Heap) (locs1 : List Loc), t.heap = H1 → s.vm.Alike t.vm → px u → BX E u t → H.size ≤ H1.size → (∀ q : Nat, q < H.size → ¬ AX q → H1[q]? = H[q]?) → va_S A0 H0 H1 locs1 → H1[q9]? = some ce → ce.vm = .none → s.vm.findClass E = some ce.cls → vx_W p l e R s m args below meth c H1 locs1 (cells + mc) (slots + ms) Q (F0 m pc ls rest) q9)
    (kk : ∀ (r : UInt64) (u : S) (t : State) (H1 : Heap) (locs1 : List Loc), t.heap = H1 → s.vm.Alike t.vm → post r u → B u t → H.size ≤ H1.size → (∀ q : Nat, q < H.size → ¬ A1 q → H1[q]? = H[q]?) → va_S A0 H0 H1 locs1 → W p l e R s m args below meth c H1 locs1 (cells + mc) (slots + ms) Q (F0 m (pc + 3) ls (.double r :: rest))) : W p l e R s m args below meth c H locs cells slots Q (F0 m pc ls st0) := by
  intro T hT X
  rcases hr T hT X with ⟨v, st₀, t, T', L, h0, X', hL, e1, e2, ⟨⟨r, u, hv, hp, hb⟩, hF⟩, st⟩ | ⟨q, st₀, t, T', L, E, ce, h0, X', hL, e1, e2, ⟨u, hp, hb, hF⟩, hce, hcv, hcl, st⟩
  · cases hv
    obtain ⟨k1, k2, k3⟩ := vx_keep h0 e1 hS hA hf hL hF
    obtain ⟨t2, a1, b1⟩ := kk r u t T'.heap (locs ++ L) e1.symm (by rw [← e2]; exact X'.warmed.alike) hp hb k1 k2 k3 T' rfl X'
    exact ⟨t2, st t2 a1, b1⟩
  · obtain ⟨k1, k2, k3⟩ := vx_keep h0 e1 hS hAX hf hL hF
    obtain ⟨t2, a1, b1⟩ := kx E ce q u t T'.heap (locs ++ L) e1.symm (by rw [← e2]; exact X'.warmed.alike) hp hb k1 k2 k3 (by rw [e1]; exact hce) hcv hcl T' rfl X'
    exact ⟨t2, st.trans a1, b1⟩
theorem vx_callv {S SX : Type} {post : S → Prop} {px : SX → Prop} {B : S → State → Prop} {BX : String → SX → State → Prop} {AX : Nat → Prop} (hr : vx_Run p l e R s m args below meth c H locs cells slots mc ms (F0 m pc ls st0) rest (va_Qv post B A1 a) (vx_X px BX AX) free) (hS : va_S A0 H0 H locs) (hA : ∀ q, q < H.size → A1 q → A0 q) (hf : ∀ q, free q → A0 q) (hAX : ∀ q, q < H.size → AX q → A0 q)
    (kx : ∀ (E : String) (ce : Cell) (q9 : Addr) (u : SX) (t : State) (H1 : Heap) (locs1 : List Loc), t.heap = H1 → s.vm.Alike t.vm → px u → BX E u t → H.size ≤ H1.size → (∀ q : Nat, q < H.size → ¬ AX q → H1[q]? = H[q]?) → va_S A0 H0 H1 locs1 → H1[q9]? = some ce → ce.vm = .none → s.vm.findClass E = some ce.cls → vx_W p l e R s m args below meth c H1 locs1 (cells + mc) (slots + ms) Q (F0 m pc ls rest) q9)
    (kk : ∀ (u : S) (t : State) (H1 : Heap) (locs1 : List Loc), t.heap = H1 → s.vm.Alike t.vm → post u → B u t → H.size ≤ H1.size → (∀ q : Nat, q < H.size → ¬ A1 q → H1[q]? = H[q]?) → va_S A0 H0 H1 locs1 → W p l e R s m args below meth c H1 locs1 (cells + mc) (slots + ms) Q (F0 m (pc + 3) ls (rest))) : W p l e R s m args below meth c H locs cells slots Q (F0 m pc ls st0) := by
  intro T hT X
  rcases hr T hT X with ⟨v, st₀, t, T', L, h0, X', hL, e1, e2, ⟨⟨u, hv, hp, hb⟩, hF⟩, st⟩ | ⟨q, st₀, t, T', L, E, ce, h0, X', hL, e1, e2, ⟨u, hp, hb, hF⟩, hce, hcv, hcl, st⟩
  · cases hv
    obtain ⟨k1, k2, k3⟩ := vx_keep h0 e1 hS hA hf hL hF
    obtain ⟨t2, a1, b1⟩ := kk u t T'.heap (locs ++ L) e1.symm (by rw [← e2]; exact X'.warmed.alike) hp hb k1 k2 k3 T' rfl X'
    exact ⟨t2, st t2 a1, b1⟩
  · obtain ⟨k1, k2, k3⟩ := vx_keep h0 e1 hS hAX hf hL hF
    obtain ⟨t2, a1, b1⟩ := kx E ce q u t T'.heap (locs ++ L) e1.symm (by rw [← e2]; exact X'.warmed.alike) hp hb k1 k2 k3 (by rw [e1]; exact hce) hcv hcl T' rfl X'
    exact ⟨t2, st.trans a1, b1⟩
/-- caught by the row x of this method's table; the rows ahead don't take it -/
theorem vx_catch {own name : String} {E : String} {ce : Cell} {q : Addr} (hown : s.vm.findClass own = some m.cls) (pre : List ExceptionTableEntry) (x : ExceptionTableEntry) (suf : List ExceptionTableEntry) (hsplit : c.exceptionTable.toList = pre ++ x :: suf)
    (hpass : ∀ z ∈ pre, covers z pc = false ∨ (z.catchType ≠ 0 ∧ ∃ nm : String, (Cond.classLink own z.catchType nm).before args s = true ∧ va_Nc E nm s)) (hx : covers x pc = true) (h0 : x.catchType ≠ 0)
    (hlink : (Cond.classLink own x.catchType name).before args s = true) (hcast : (Cond.castable E name).before args s = true) (hcell : H[q]? = some ce) (hv : ce.vm = .none) (hcl : s.vm.findClass E = some ce.cls)
    (kk : W p l e R s m args below meth c H locs cells slots Q (F0 m x.handlerPc ls [.ref q])) : vx_W p l e R s m args below meth c H locs cells slots Q (F0 m pc ls rest) q := by
  intro T hT X
  have hpl : e.platform.magicAccessors = ({} : Platform).magicAccessors := by rw [X.admits.platform]
  obtain ⟨c3, c4, hc3, hc4, hasg⟩ := Cond.castable_spec hcast
  cases Option.some.inj (hc3.symm.trans hcl)
  obtain ⟨c5, hc5, hcl5⟩ := Cond.classLink_spec hown hlink e.platform hpl
  cases Option.some.inj (hc4.symm.trans hc5)
  obtain ⟨vm', X', st⟩ := Jvm.Stand.thenCaughtThrough X q (g := F0 m pc ls rest) rfl (Steps.refl _) (by rw [hT]; exact hcell) (by rw [hv]; rfl) (by obtain ⟨k9, h9, -⟩ := Vm.findClass_spec hcl; exact ⟨k9, h9⟩) pre x suf hsplit
    (fun z hz => by
      rcases hpass z hz with h | ⟨hz0, nm, hl1, hn1⟩
      · exact Or.inl h
      · obtain ⟨c6, hc6, hcl6⟩ := Cond.classLink_spec hown hl1 e.platform hpl
        obtain ⟨a8, b8, h1, h2, h3⟩ := hn1
        cases Option.some.inj (h1.symm.trans hcl)
        cases Option.some.inj (h2.symm.trans hc6)
        exact Or.inr ⟨hz0, _, hcl6, h3⟩) hx (Or.inr ⟨h0, c4, hcl5, hasg⟩)
  obtain ⟨t, a1, b1⟩ := kk (T.setVm vm') hT X'
  exact ⟨t, st.trans a1, b1⟩
end Rows
section Ends
variable {p : Program} {l : Launch} {e : Env} {R : Room} {s : State} {m : MethodId} {args : Array Value} {below : List Frame} {meth : Method} {c : Code} {H : Heap} {locs : List Loc} {cells slots : Nat} {Q : State → Prop}
variable {mc ms : Nat} {free : Addr → Prop} {A0 A1 : Nat → Prop} {H0 : Heap} {a : Array Value} {ls : Array Slot} {st0 rest : List Value}
variable {Qc : Array Value → State → Outcome → State → Prop} {XC : String → State → State → Prop}
/-- what a body that may throw owes at its end -/
def vx_MQ (below : List Frame) (Qc : Array Value → State → Outcome → State → Prop) (XC : String → State → State → Prop) (a : Array Value) (s : State) (mc ms : Nat) (free : Addr → Prop) : State → Prop := fun t =>
  ∃ o, t.status = .running ∧ Ended t below o ∧ vx_Q Qc XC mc ms free a s o t
theorem vx_ret {g : JFrame} {mc ms : Nat} (k : W p l e R s m args below meth c H locs cells slots (MQ below Qc args s mc ms free) g) : W p l e R s m args below meth c H locs cells slots (vx_MQ below Qc XC args s mc ms free) g := by
  intro T hT X
  obtain ⟨t, a1, o, b1, b2, b3, b4⟩ := k T hT X
  exact ⟨t, a1, o, b1, b2, Or.inl ⟨b3, b4⟩⟩
/-- not caught here: it goes on to the caller -/
theorem vx_widen {g : JFrame} {q : Addr} {k n : Nat} (h1 : cells ≤ k) (h2 : slots ≤ n) (kk : vx_W p l e R s m args below meth c H locs k n Q g q) : vx_W p l e R s m args below meth c H locs cells slots Q g q := fun T hT X => kk T hT (stand_widen X h1 h2)
theorem vx_out {pc : Nat} {E : String} {ce : Cell} {q : Addr} {mc ms : Nat} (hout : ∀ x ∈ c.exceptionTable.toList, covers x pc = false) (hlocks : meth.locks = false) (hcell : H[q]? = some ce) (hv : ce.vm = .none) (hcl : s.vm.findClass E = some ce.cls)
    (hx : ∀ t : State, t.heap = H → s.vm.Alike t.vm → XC E s t) (hf : ∀ z ∈ locs, free z.base) (hc : cells ≤ mc) (hs : slots ≤ ms) :
    vx_W p l e R s m args below meth c H locs cells slots (vx_MQ below Qc XC args s mc ms free) (F0 m pc ls rest) q := by
  intro T hT X
  obtain ⟨st1, hrun, hend, hW, hsm⟩ := X.leaveThrown q (g := F0 m pc ls rest) rfl rfl rfl hout hlocks
  have hcell9 : (T.setFrames (.throwing q :: below)).heap[q]? = some ce := by
    show T.heap[q]? = some ce
    rw [hT]; exact hcell
  exact ⟨_, st1, .threw q, hrun, hend, Or.inr ⟨q, rfl, E, ce, locs, hx _ hT hW.alike, hcell9, hv, hcl, hW, hsm.mono hc hs, hf⟩⟩
theorem vx_frame {U : State} {k n : Nat} (h : s.sameButNew ({ U with vm := s.vm } : State) locs k n) : s.heap.size ≤ U.heap.size ∧ ∀ q : Nat, q < s.heap.size → (∀ z ∈ locs, z.base ≠ q) → U.heap[q]? = s.heap[q]? := by
  obtain ⟨-, h2, -, -, -, h6⟩ := h
  refine ⟨h2, fun q hq hz => ?_⟩
  obtain ⟨c9, e1, e2, e3, e4⟩ := h6 q _ (Array.getElem?_eq_getElem hq)
  have hs : c9.slots = (s.heap[q]).slots := Array.ext_getElem? fun i => e4 i fun hm => hz _ hm rfl
  have h9 : c9 = s.heap[q] := by
    rw [hs] at e2
    exact e2
  have e5 : U.heap[q]? = some c9 := e1
  rw [e5, h9, Array.getElem?_eq_getElem hq]
/-- the words of a throw but the four that speak of the heap -/
def vx_no (w : Cond) : Bool := decide (w ≠ .isRef (.static Bundle.tN "UNASSIGNED_STACK" Bundle.steD)) && decide (w ≠ .isRef (.static Bundle.tN "SUPPRESSED_SENTINEL" Bundle.listD)) && decide (w ≠ .laysStatic Bundle.tN "UNASSIGNED_STACK" Bundle.steD) && decide (w ≠ .laysStatic Bundle.tN "SUPPRESSED_SENTINEL" Bundle.listD)
def vx_at0 (own : String) (ic : Nat) (X : String) (names : List String) : List Cond := (Bundle.ownAtoms0 own ic X names).filter vx_no
def vx_atS (own : String) (ic : Nat) (X : String) (names : List String) : List Cond := (Bundle.ownAtoms own ic X names).filter vx_no
/-- a word that the tables alone decide, or a good one -/
def vx_ot (w : Cond) : Bool := w.onTables || goodWord w
theorem vx_ot_at {args a' : Array Value} {s U : State} {w : Cond} (hW : s.WarmedH U.vm) (hvm : s.vm = U.vm) (hg : vx_ot w = true) (h : w.before args s = true) : w.before a' U = true := by
  simp only [vx_ot, Bool.or_eq_true] at hg
  rcases hg with hg | hg
  · exact va_tabs hg hvm h
  · exact word_at hW (good_of_word hg) h
/-- a list's words: the good ones out of the method's own list, the others by premises of their own -/
theorem vx_hat {args : Array Value} {s : State} {L B : List Cond} (h1 : ∀ w ∈ L.filter goodWord, w.before args s = true) (h2 : ∀ w ∈ L.filter (fun w => !goodWord w), w ∈ B) (h3 : ∀ w ∈ B, w.before args s = true) : ∀ w ∈ L, w.before args s = true := by
  intro w hw
  by_cases g : goodWord w = true
  · exact h1 w (List.mem_filter.mpr ⟨hw, g⟩)
  · refine h3 w (h2 w (List.mem_filter.mpr ⟨hw, ?_⟩))
    show (!goodWord w) = true
    cases hgw : goodWord w
    · rfl
    · exact absurd hgw g
theorem vx_c {args : Array Value} {s : State} {w : Cond} {B : List Cond} (h : w.before args s = true) (t : ∀ w ∈ B, w.before args s = true) : ∀ w' ∈ w :: B, w'.before args s = true := fun w' h' => (List.mem_cons.mp h').elim (fun e => by rw [e]; exact h) (t w')
theorem vx_n {args : Array Value} {s : State} : ∀ w ∈ ([] : List Cond), w.before args s = true := fun _ h => nomatch h
theorem vx_own {args : Array Value} {s : State} {L : List Cond} (h1 : ∀ w ∈ L.filter vx_no, w.before args s = true)
    (hU : (Cond.isRef (.static Bundle.tN "UNASSIGNED_STACK" Bundle.steD)).before args s = true) (hN : (Cond.isRef (.static Bundle.tN "SUPPRESSED_SENTINEL" Bundle.listD)).before args s = true)
    (lU : (Cond.laysStatic Bundle.tN "UNASSIGNED_STACK" Bundle.steD).before args s = true) (lN : (Cond.laysStatic Bundle.tN "SUPPRESSED_SENTINEL" Bundle.listD).before args s = true) : ∀ w ∈ L, w.before args s = true := by
  intro w hw
  by_cases e1 : w = .isRef (.static Bundle.tN "UNASSIGNED_STACK" Bundle.steD)
  · rw [e1]; exact hU
  · by_cases e2 : w = .isRef (.static Bundle.tN "SUPPRESSED_SENTINEL" Bundle.listD)
    · rw [e2]; exact hN
    · by_cases e3 : w = .laysStatic Bundle.tN "UNASSIGNED_STACK" Bundle.steD
      · rw [e3]; exact lU
      · by_cases e4 : w = .laysStatic Bundle.tN "SUPPRESSED_SENTINEL" Bundle.listD
        · rw [e4]; exact lN
        · exact h1 w (List.mem_filter.mpr ⟨hw, by unfold vx_no; rw [decide_eq_true e1, decide_eq_true e2, decide_eq_true e3, decide_eq_true e4]; rfl⟩)
/-- where a static field lies, its class's statics cell in H -/
def vx_L (C n d : String) (A : Nat → Prop) (U : State) (H : Heap) : Prop := ∃ (c : ClassId) (k : Class) (i : Nat) (f : Field) (a : Nat) (cell : Cell), U.vm.findClass C = some c ∧ U.fieldFound? C n d = some (c, k, i, f) ∧ f.isStatic = true ∧ k.statics = some a ∧ H[a]? = some cell ∧ cell.vm.isStatics = true ∧ cell.cls = c ∧ f.slot < cell.slots.size ∧ k.staticTypes[f.slot]? = some f.type ∧ ¬ A a
theorem vx_L.moved {C n d : String} {A : Nat → Prop} {u U : State} {H : Heap} (hvm : u.vm.Alike U.vm) (h : vx_L C n d A u H) : vx_L C n d A U H := by
  obtain ⟨c, k, i, f, a, cell, h1, h2, h3, h4, h5, h6, h7, h8, h9, h10⟩ := h
  obtain ⟨k', hi', he⟩ := State.fieldFound?_setVm hvm h2
  exact ⟨c, k', i, f, a, cell, by rw [hvm.findClass]; exact h1, hi', h3, by rw [he]; exact h4, h5, h6, h7, h8, by rw [he]; exact h9, h10⟩
theorem vx_L.kept {C n d : String} {A : Nat → Prop} {U : State} {H H1 : Heap} (h : vx_L C n d A U H) (hq : ∀ a : Nat, a < H.size → ¬ A a → H1[a]? = H[a]?) : vx_L C n d A U H1 := by
  obtain ⟨c, k, i, f, a, cell, h1, h2, h3, h4, h5, h6, h7, h8, h9, h10⟩ := h
  exact ⟨c, k, i, f, a, cell, h1, h2, h3, h4, by rw [hq a (Array.getElem?_eq_some_iff.mp h5).1 h10]; exact h5, h6, h7, h8, h9, h10⟩
theorem vx_L.narrow {C n d : String} {A B : Nat → Prop} {U : State} {H : Heap} (h : vx_L C n d A U H) (hAB : ∀ q, B q → A q) : vx_L C n d B U H := by
  obtain ⟨c, k, i, f, a, cell, h1, h2, h3, h4, h5, h6, h7, h8, h9, h10⟩ := h
  exact ⟨c, k, i, f, a, cell, h1, h2, h3, h4, h5, h6, h7, h8, h9, fun z => h10 (hAB _ z)⟩
theorem vx_L.word {C n d : String} {A : Nat → Prop} {s : State} {args : Array Value} (h : vx_L C n d A s s.heap) : (Cond.laysStatic C n d).before args s = true := by
  obtain ⟨c, k, i, f, a, cell, h1, h2, h3, h4, h5, h6, h7, h8, h9, -⟩ := h
  show (Cond.laysStatic C n d).holds args s none s [] = true
  exact Cond.laysStatic_of h1 h2 h3 h4 h5 h6 h7 h8 h9
/-- .. and what it holds: null or some reference -/
def vx_Zq (C n d : String) (A : Nat → Prop) (U : State) (H : Heap) : Prop := va_Zq C n d A U H ∧ vx_L C n d A U H
theorem vx_Zq.moved {C n d : String} {A : Nat → Prop} {u U : State} {H : Heap} (hvm : u.vm.Alike U.vm) (h : vx_Zq C n d A u H) : vx_Zq C n d A U H := ⟨va_Zq.moved hvm h.1, vx_L.moved hvm h.2⟩
theorem vx_Zq.kept {C n d : String} {A : Nat → Prop} {U : State} {H H1 : Heap} (h : vx_Zq C n d A U H) (hq : ∀ a : Nat, a < H.size → ¬ A a → H1[a]? = H[a]?) : vx_Zq C n d A U H1 := ⟨va_Zq.kept h.1 hq, vx_L.kept h.2 hq⟩
theorem vx_Zq.narrow {C n d : String} {A B : Nat → Prop} {U : State} {H : Heap} (h : vx_Zq C n d A U H) (hAB : ∀ q, B q → A q) : vx_Zq C n d B U H := ⟨va_Zq.narrow h.1 hAB, vx_L.narrow h.2 hAB⟩
theorem vx_Zqof {args : Array Value} {s : State} {C n d : String} {A : Nat → Prop} (hl : (Cond.laysStatic C n d).before args s = true) (hini : (Cond.initialized C).before args s = true) (h : (Cond.isRef (.static C n d)).before args s = true) (hA : ∀ a : Nat, a < s.heap.size → ¬ A a) : vx_Zq C n d A s s.heap := by
  refine ⟨va_Zqof hl hini h hA, ?_⟩
  obtain ⟨c, k, i, f, a, cell, h1, h2, h3, h4, h5, h6, h7, h8, h9⟩ := Cond.laysStatic_spec hl
  exact ⟨c, k, i, f, a, cell, h1, h2, h3, h4, h5, h6, h7, h8, h9, hA a (Array.getElem?_eq_some_iff.mp h5).1⟩
theorem vx_isRef {C n d : String} {v : Value} {A : Nat → Prop} {s : State} {args : Array Value} (h : va_Z C n d v A s s.heap) (hv : v.isRef = true) : (Cond.isRef (.static C n d)).before args s = true := by
  obtain ⟨cf, kf, fi, f, a, cell, h1, h2, h3, h4, h5, h6, h7, -⟩ := h
  have he : (Term.static C n d).eval args s none [] s = some v := by
    simp [Term.eval, State.fieldNamed?, h1, h2, h4, h5, h6, h7]
  simp only [Cond.before, Cond.holds, Cond.value, he]
  cases v <;> simp_all [Value.isRef]
theorem vx_isRefq {C n d : String} {A : Nat → Prop} {s : State} {args : Array Value} (h : va_Zq C n d A s s.heap) : (Cond.isRef (.static C n d)).before args s = true := by
  rcases h with h | ⟨t, h⟩
  · exact vx_isRef h rfl
  · exact vx_isRef h rfl
/-- the same frame, seen from here: as if the method were called anew in this heap -/
theorem vx_rebase {T : State} (X : Stand p l e R s m args below meth c T locs cells slots) {R' : Room} (hf : R'.frames ≤ R.frames) (hl : R'.locals ≤ R.locals) (hc : cells + R'.cells ≤ R.cells) (hs : slots + R'.slots ≤ R.slots) :
    Stand p l e R' ((T.setVm s.vm).setFrames (.invoking m args :: below)) m args below meth c T [] 0 0 := by
  have htop : (T.setVm s.vm).topJava?.isSome := X.here.top
  have hF : ((T.setVm s.vm).setFrames (.invoking m args :: below)).frames = .invoking m args :: below := State.frames_setFrames _ (State.cur_lt_of_top htop)
  obtain ⟨g₀, hg0⟩ := Option.isSome_iff_exists.mp htop
  obtain ⟨r, hr⟩ := State.topJava?_eq_some.mp hg0
  have hl9 : e.platform.stackLimits (T.setVm s.vm).me = e.platform.stackLimits s.me := X.limits
  have hb9 : (T.setVm s.vm).me.stackBytes = s.me.stackBytes := X.bytes
  refine ⟨X.admits, X.cas, X.clock, hF, ?_, X.hears, X.method, X.code, X.here, X.tail, X.warmed, ?_, ?_, ?_⟩
  · have h := X.room
    have hU : ((T.setVm s.vm).setFrames (.invoking m args :: below)).localsInUse = s.localsInUse := by
      rw [State.localsInUse_invoking hF (meth := meth) (c := c) X.method X.code, State.localsInUse_invoking X.frames X.method X.code]
    simp only [State.hasRoom, Bool.and_eq_true, decide_eq_true_eq] at h ⊢
    obtain ⟨⟨⟨⟨h1, h2, h3, h4, h5, h6⟩, h7⟩, h8⟩, h9⟩ := h
    rw [X.frames, List.length_cons] at h2 h3
    have q1 := X.heapSize
    have q2 := X.used
    simp only [hF, hU, List.length_cons, State.stackLimits_setFrames, State.stackBytes_setFrames, hl9, hb9]
    refine ⟨⟨⟨⟨by omega, by omega, by omega, by omega, by omega, h6⟩, ?_⟩, ?_⟩, X.book⟩
    · show T.heap.size + R'.cells ≤ e.platform.maxCells
      omega
    · show T.slotsUsed + R'.slots ≤ e.platform.maxSlots
      omega
  · rw [State.stackLimits_setFrames]; rfl
  · rw [State.stackBytes_setFrames]; rfl
  · refine ⟨?_, Nat.le_refl _, Nat.le_refl _, ?_, ?_, fun a c9 h9 => ⟨c9, h9, rfl, rfl, fun _ _ => rfl⟩⟩
    · obtain ⟨t, ht, -⟩ := State.frames_cons hr
      show T.setVm s.vm = { ((T.setVm s.vm).setFrames (.invoking m args :: below)).setFrames (T.setVm s.vm).frames with heap := T.heap, slotsUsed := T.slotsUsed }
      rw [State.setFrames_setFrames, State.setFrames_self ht]
      rfl
    · show T.slotsUsed = T.slotsUsed + ((T.heap.toList.drop T.heap.size).map (·.slots.size)).sum
      rw [List.drop_eq_nil_of_le (Nat.le_of_eq Array.length_toList)]
      rfl
    · show ((T.heap.toList.drop T.heap.size).map (·.slots.size)).sum ≤ 0
      rw [List.drop_eq_nil_of_le (Nat.le_of_eq Array.length_toList)]
      exact Nat.le_refl _
/-- 'throw new E()': new; dup; invokespecial; athrow -/
theorem vx_throw0 {cc : ByteArray} {pc : Nat} (hexec : p.tables.exec = Jvm.exec) (hb : c.code = cc) (hl : l.stackTraces = false) {own cls : String} {names : List String} {ik ic mc ms : Nat} {A : Nat → Prop}
    (hown : s.vm.findClass own = some m.cls) (hcls : Bundle.fit cls = true) (hnames : ∀ n ∈ names, Bundle.fit n = true)
    (hk : (Cond.classLink own ik cls).before args s = true) (hini : (Cond.initialized cls).before args s = true) (hat : ∀ w ∈ vx_at0 own ic cls names, w.before args s = true)
    (hgood : ∀ w ∈ Cond.classLink own ik cls :: Cond.initialized cls :: vx_at0 own ic cls names, vx_ot w = true)
    (hU : vx_Zq Bundle.tN "UNASSIGNED_STACK" Bundle.steD A s s.heap) (hN : vx_Zq Bundle.tN "SUPPRESSED_SENTINEL" Bundle.listD A s s.heap) (hS : va_S A s.heap H locs) (hsize : ls.size = c.maxLocals)
    (d0 : decode cc pc = .ok (.new ik, 3)) (d3 : decode cc (pc + 3) = .ok (.dup, 1)) (d4 : decode cc (pc + 4) = .ok (.invokespecial ic, 3)) (d7 : decode cc (pc + 7) = .ok (.athrow, 1))
    (hout : ∀ x ∈ c.exceptionTable.toList, covers x (pc + 7) = false)
    (hRframes : names.length + 3 < R.frames) (hRlocals : (rest.map fun v => v.category).sum + (13 * (names.length + 1) + 42) ≤ R.locals) (hRcells : cells + 1 ≤ R.cells) (hRslots : slots + 6 ≤ R.slots) (hlocks : meth.locks = false)
    (hx : ∀ t : State, s.vm.Alike t.vm → H.size ≤ t.heap.size → (∀ q : Nat, q < H.size → t.heap[q]? = H[q]?) → XC cls s t)
    (hf : ∀ z ∈ locs, free z.base) (hc : cells + 1 ≤ mc) (hs : slots + 6 ≤ ms) :
    W p l e R s m args below meth c H locs cells slots (vx_MQ below Qc XC args s mc ms free) (F0 m pc ls rest) := by
  intro T hT X
  have htr : e.platform.stackTraces = false := (show e.platform.stackTraces = l.stackTraces by rw [X.admits.platform]).trans hl
  have Y := vx_rebase X (R' := { frames := R.frames, locals := R.locals, cells := 1, slots := 6 }) (Nat.le_refl _) (Nat.le_refl _) hRcells hRslots
  obtain ⟨s', hA⟩ : ∃ z, z = (T.setVm s.vm).setFrames (.invoking m args :: below) := ⟨_, rfl⟩
  rw [← hA] at Y
  have hvm : s'.vm = s.vm := by rw [hA]; rfl
  have hhp : s'.heap = H := by rw [hA]; exact hT
  have hW0 : s.WarmedH s'.vm := by rw [hvm]; exact State.WarmedH.refl s
  have hat' : ∀ w ∈ vx_at0 own ic cls names, w.before args s' = true := fun w hw => vx_ot_at hW0 hvm.symm (hgood w (List.mem_cons_of_mem _ (List.mem_cons_of_mem _ hw))) (hat w hw)
  have hk' : (Cond.classLink own ik cls).before args s' = true := vx_ot_at hW0 hvm.symm (hgood _ List.mem_cons_self) hk
  have hini' : (Cond.initialized cls).before args s' = true := vx_ot_at hW0 hvm.symm (hgood _ (List.mem_cons_of_mem _ List.mem_cons_self)) hini
  have hU' : vx_Zq Bundle.tN "UNASSIGNED_STACK" Bundle.steD A s' s'.heap := by rw [hhp]; exact vx_Zq.moved hW0.alike (hU.kept hS.2.1)
  have hN' : vx_Zq Bundle.tN "SUPPRESSED_SENTINEL" Bundle.listD A s' s'.heap := by rw [hhp]; exact vx_Zq.moved hW0.alike (hN.kept hS.2.1)
  have h : ∀ w ∈ Bundle.ownAtoms0 own ic cls names, w.before args s' = true := vx_own hat' (vx_isRefq hU'.1) (vx_isRefq hN'.1) hU'.2.word hN'.2.word
  have hown' : s'.vm.findClass own = some m.cls := by rw [hvm]; exact hown
  have hins : (Cond.instantiable cls 6).before args s' = true := h _ (by simp [Bundle.ownAtoms0])
  obtain ⟨vm₁, cX, kX, hfX, hkX, -, -, X₁, st1⟩ := Y.newCold hexec (own := own) (C := cls) (index := ik) (n := 6) hown' hk' hins hini'
    (g := F0 m pc ls rest) rfl (by rw [hb]; exact d0) (Nat.le_refl _) (Nat.le_refl _)
  generalize hT1 : (T.setVm vm₁).pushCell { cls := cX, slots := kX.instanceTypes.map defaultValue, vm := .none } = T1 at X₁ st1
  have hcat : (Value.ref T.heap.size).category = 1 := rfl
  have hcellA : T1.heap[T.heap.size]? = some (freshCell cX kX) := by rw [← hT1]; exact State.heap_pushCell_size _ _
  have d3' : decode c.code (pc + 3) = .ok (.dup, 1) := by rw [hb]; exact d3
  obtain ⟨U, hsteps, hrun, hend, hW, hsame, ce, hce, hO⟩ := X₁.ctorThrow0 hexec htr (own := own) (cls := cls) (names := names) (ic := ic) hown' hcls hnames h (fun x hx => nomatch hx) hfX hkX hcellA (by rw [hhp, hT]; exact Nat.le_refl _)
    (g := { method := m, pc := pc + 4, locals := ls, stack := .ref T.heap.size :: .ref T.heap.size :: rest, locked := none }) rfl hsize rfl rfl (rest := rest) rfl
    (by rw [hb]; exact d4) (by rw [hb]; exact d7) hout hRframes (by simp only [List.map_cons, List.sum_cons, hcat]; omega) hlocks
  obtain ⟨f1, f2⟩ := vx_frame hsame
  rw [hhp] at f1 f2
  have hWs : s.WarmedH U.vm := State.WarmedH.trans hW0 hW
  have hcl : s.vm.findClass cls = some ce.cls := by
    have h9 := hO.cls
    rw [hvm] at h9
    exact h9
  have hall : s.sameButNew ({ U with vm := s.vm } : State) locs mc ms := by
    subst hA
    obtain ⟨e1, e2⟩ := hsame
    rw [State.setFrames_setFrames] at e1
    have h2 : (T.setVm s.vm).sameButNew ({ U with vm := s.vm } : State) [] (0 + 1) (0 + 6) := ⟨e1, e2⟩
    have h3 := X.same.trans h2
    rw [List.append_nil] at h3
    exact h3.mono hc hs
  refine ⟨U, ?_, .threw T.heap.size, hrun, hend, Or.inr ⟨T.heap.size, rfl, cls, ce, locs, hx U hWs.alike f1 (fun q hq => f2 q hq (fun z hz => nomatch hz)), hce, hO.vm, hcl, hWs, hall, hf⟩⟩
  refine st1 _ ?_
  show Steps p.tables e below (T1.setTop { method := m, pc := pc + 3, locals := ls, stack := .ref T.heap.size :: rest, locked := none }) _
  jvm_step X₁.here [X₁.here.top, hexec, d3', Value.category]
  exact hsteps
/-- 'throw new E("text")': new; dup; ldc; invokespecial; athrow -/
theorem vx_throwS {cc : ByteArray} {pc : Nat} (hexec : p.tables.exec = Jvm.exec) (hb : c.code = cc) (hl : l.stackTraces = false) {own cls text : String} {names : List String} {ik is ic mc ms sa : Nat} {A : Nat → Prop}
    (hown : s.vm.findClass own = some m.cls) (hcls : Bundle.fit cls = true) (hnames : ∀ n ∈ names, Bundle.fit n = true)
    (hk : (Cond.classLink own ik cls).before args s = true) (hini : (Cond.initialized cls).before args s = true) (hstr : vk_R own is text sa s) (hat : ∀ w ∈ vx_atS own ic cls names, w.before args s = true)
    (hgood : ∀ w ∈ Cond.classLink own ik cls :: Cond.initialized cls :: vx_atS own ic cls names, vx_ot w = true)
    (hU : vx_Zq Bundle.tN "UNASSIGNED_STACK" Bundle.steD A s s.heap) (hN : vx_Zq Bundle.tN "SUPPRESSED_SENTINEL" Bundle.listD A s s.heap) (hS : va_S A s.heap H locs) (hsize : ls.size = c.maxLocals)
    (d0 : decode cc pc = .ok (.new ik, 3)) (d3 : decode cc (pc + 3) = .ok (.dup, 1)) (d4 : decode cc (pc + 4) = .ok (.ldc is, 2)) (d6 : decode cc (pc + 6) = .ok (.invokespecial ic, 3)) (d9 : decode cc (pc + 9) = .ok (.athrow, 1))
    (hout : ∀ x ∈ c.exceptionTable.toList, covers x (pc + 9) = false)
    (hRframes : names.length + 3 < R.frames) (hRlocals : (rest.map fun v => v.category).sum + (13 * (names.length + 1) + 43) ≤ R.locals) (hRcells : cells + 1 ≤ R.cells) (hRslots : slots + 6 ≤ R.slots) (hlocks : meth.locks = false)
    (hx : ∀ t : State, s.vm.Alike t.vm → H.size ≤ t.heap.size → (∀ q : Nat, q < H.size → t.heap[q]? = H[q]?) → XC cls s t)
    (hf : ∀ z ∈ locs, free z.base) (hc : cells + 1 ≤ mc) (hs : slots + 6 ≤ ms) :
    W p l e R s m args below meth c H locs cells slots (vx_MQ below Qc XC args s mc ms free) (F0 m pc ls rest) := by
  intro T hT X
  have htr : e.platform.stackTraces = false := (show e.platform.stackTraces = l.stackTraces by rw [X.admits.platform]).trans hl
  have Y := vx_rebase X (R' := { frames := R.frames, locals := R.locals, cells := 1, slots := 6 }) (Nat.le_refl _) (Nat.le_refl _) hRcells hRslots
  obtain ⟨s', hA⟩ : ∃ z, z = (T.setVm s.vm).setFrames (.invoking m args :: below) := ⟨_, rfl⟩
  rw [← hA] at Y
  have hvm : s'.vm = s.vm := by rw [hA]; rfl
  have hhp : s'.heap = H := by rw [hA]; exact hT
  have hW0 : s.WarmedH s'.vm := by rw [hvm]; exact State.WarmedH.refl s
  have hat' : ∀ w ∈ vx_atS own ic cls names, w.before args s' = true := fun w hw => vx_ot_at hW0 hvm.symm (hgood w (List.mem_cons_of_mem _ (List.mem_cons_of_mem _ hw))) (hat w hw)
  have hk' : (Cond.classLink own ik cls).before args s' = true := vx_ot_at hW0 hvm.symm (hgood _ List.mem_cons_self) hk
  have hini' : (Cond.initialized cls).before args s' = true := vx_ot_at hW0 hvm.symm (hgood _ (List.mem_cons_of_mem _ List.mem_cons_self)) hini
  have hU' : vx_Zq Bundle.tN "UNASSIGNED_STACK" Bundle.steD A s' s'.heap := by rw [hhp]; exact vx_Zq.moved hW0.alike (hU.kept hS.2.1)
  have hN' : vx_Zq Bundle.tN "SUPPRESSED_SENTINEL" Bundle.listD A s' s'.heap := by rw [hhp]; exact vx_Zq.moved hW0.alike (hN.kept hS.2.1)
  have h : ∀ w ∈ Bundle.ownAtoms own ic cls names, w.before args s' = true := vx_own hat' (vx_isRefq hU'.1) (vx_isRefq hN'.1) hU'.2.word hN'.2.word
  have hown' : s'.vm.findClass own = some m.cls := by rw [hvm]; exact hown
  have hins : (Cond.instantiable cls 6).before args s' = true := h _ (by simp [Bundle.ownAtoms])
  obtain ⟨vm₁, cX, kX, hfX, hkX, -, -, X₁, st1⟩ := Y.newCold hexec (own := own) (C := cls) (index := ik) (n := 6) hown' hk' hins hini'
    (g := F0 m pc ls rest) rfl (by rw [hb]; exact d0) (Nat.le_refl _) (Nat.le_refl _)
  generalize hT1 : (T.setVm vm₁).pushCell { cls := cX, slots := kX.instanceTypes.map defaultValue, vm := .none } = T1 at X₁ st1
  have hcat : (Value.ref T.heap.size).category = 1 := rfl
  have hcellA : T1.heap[T.heap.size]? = some (freshCell cX kX) := by rw [← hT1]; exact State.heap_pushCell_size _ _
  have d3' : decode c.code (pc + 3) = .ok (.dup, 1) := by rw [hb]; exact d3
  have d4' : decode c.code (pc + 4) = .ok (.ldc is, 2) := by rw [hb]; exact d4
  have hstr' : vk_R own is text sa s' := vk_R.warm hW0 hstr
  obtain ⟨U, hsteps, hrun, hend, hW, hsame, ce, hce, hO⟩ := X₁.ctorThrowS hexec htr (own := own) (cls := cls) (names := names) (ic := ic) hown' hcls hnames h (fun x hx => nomatch hx) hfX hkX hcellA (by rw [hhp, hT]; exact Nat.le_refl _) (msg := .ref sa) rfl
    (g := { method := m, pc := pc + 6, locals := ls, stack := .ref sa :: .ref T.heap.size :: .ref T.heap.size :: rest, locked := none }) rfl hsize rfl rfl (rest := rest) rfl
    (by rw [hb]; exact d6) (by rw [hb]; exact d9) hout hRframes (by simp only [List.map_cons, List.sum_cons, hcat]; omega) hlocks
  obtain ⟨f1, f2⟩ := vx_frame hsame
  rw [hhp] at f1 f2
  have hWs : s.WarmedH U.vm := State.WarmedH.trans hW0 hW
  have hcl : s.vm.findClass cls = some ce.cls := by
    have h9 := hO.cls
    rw [hvm] at h9
    exact h9
  have hall : s.sameButNew ({ U with vm := s.vm } : State) locs mc ms := by
    subst hA
    obtain ⟨e1, e2⟩ := hsame
    rw [State.setFrames_setFrames] at e1
    have h2 : (T.setVm s.vm).sameButNew ({ U with vm := s.vm } : State) [] (0 + 1) (0 + 6) := ⟨e1, e2⟩
    have h3 := X.same.trans h2
    rw [List.append_nil] at h3
    exact h3.mono hc hs
  refine ⟨U, ?_, .threw T.heap.size, hrun, hend, Or.inr ⟨T.heap.size, rfl, cls, ce, locs, hx U hWs.alike f1 (fun q hq => f2 q hq (fun z hz => nomatch hz)), hce, hO.vm, hcl, hWs, hall, hf⟩⟩
  refine st1 _ ?_
  show Steps p.tables e below (T1.setTop { method := m, pc := pc + 3, locals := ls, stack := .ref T.heap.size :: rest, locked := none }) _
  jvm_step X₁.here [X₁.here.top, hexec, d3', Value.category]
  exact X₁.ldcString hexec (own := own) (text := text) (index := is) (a := sa) hown' hstr'.1 hstr'.2
    (g := { method := m, pc := pc + 4, locals := ls, stack := .ref T.heap.size :: .ref T.heap.size :: rest, locked := none }) rfl d4' _ hsteps
/-- 'throw new E("text")', the text by a wide index -/
theorem vx_throwSW {cc : ByteArray} {pc : Nat} (hexec : p.tables.exec = Jvm.exec) (hb : c.code = cc) (hl : l.stackTraces = false) {own cls text : String} {names : List String} {ik is ic mc ms sa : Nat} {A : Nat → Prop}
    (hown : s.vm.findClass own = some m.cls) (hcls : Bundle.fit cls = true) (hnames : ∀ n ∈ names, Bundle.fit n = true)
    (hk : (Cond.classLink own ik cls).before args s = true) (hini : (Cond.initialized cls).before args s = true) (hstr : vk_R own is text sa s) (hat : ∀ w ∈ vx_atS own ic cls names, w.before args s = true)
    (hgood : ∀ w ∈ Cond.classLink own ik cls :: Cond.initialized cls :: vx_atS own ic cls names, vx_ot w = true)
    (hU : vx_Zq Bundle.tN "UNASSIGNED_STACK" Bundle.steD A s s.heap) (hN : vx_Zq Bundle.tN "SUPPRESSED_SENTINEL" Bundle.listD A s s.heap) (hS : va_S A s.heap H locs) (hsize : ls.size = c.maxLocals)
    (d0 : decode cc pc = .ok (.new ik, 3)) (d3 : decode cc (pc + 3) = .ok (.dup, 1)) (d4 : decode cc (pc + 4) = .ok (.ldc_w is, 3)) (d7 : decode cc (pc + 7) = .ok (.invokespecial ic, 3)) (d10 : decode cc (pc + 10) = .ok (.athrow, 1))
    (hout : ∀ x ∈ c.exceptionTable.toList, covers x (pc + 10) = false)
    (hRframes : names.length + 3 < R.frames) (hRlocals : (rest.map fun v => v.category).sum + (13 * (names.length + 1) + 43) ≤ R.locals) (hRcells : cells + 1 ≤ R.cells) (hRslots : slots + 6 ≤ R.slots) (hlocks : meth.locks = false)
    (hx : ∀ t : State, s.vm.Alike t.vm → H.size ≤ t.heap.size → (∀ q : Nat, q < H.size → t.heap[q]? = H[q]?) → XC cls s t)
    (hf : ∀ z ∈ locs, free z.base) (hc : cells + 1 ≤ mc) (hs : slots + 6 ≤ ms) :
    W p l e R s m args below meth c H locs cells slots (vx_MQ below Qc XC args s mc ms free) (F0 m pc ls rest) := by
  intro T hT X
  have htr : e.platform.stackTraces = false := (show e.platform.stackTraces = l.stackTraces by rw [X.admits.platform]).trans hl
  have Y := vx_rebase X (R' := { frames := R.frames, locals := R.locals, cells := 1, slots := 6 }) (Nat.le_refl _) (Nat.le_refl _) hRcells hRslots
  obtain ⟨s', hA⟩ : ∃ z, z = (T.setVm s.vm).setFrames (.invoking m args :: below) := ⟨_, rfl⟩
  rw [← hA] at Y
  have hvm : s'.vm = s.vm := by rw [hA]; rfl
  have hhp : s'.heap = H := by rw [hA]; exact hT
  have hW0 : s.WarmedH s'.vm := by rw [hvm]; exact State.WarmedH.refl s
  have hat' : ∀ w ∈ vx_atS own ic cls names, w.before args s' = true := fun w hw => vx_ot_at hW0 hvm.symm (hgood w (List.mem_cons_of_mem _ (List.mem_cons_of_mem _ hw))) (hat w hw)
  have hk' : (Cond.classLink own ik cls).before args s' = true := vx_ot_at hW0 hvm.symm (hgood _ List.mem_cons_self) hk
  have hini' : (Cond.initialized cls).before args s' = true := vx_ot_at hW0 hvm.symm (hgood _ (List.mem_cons_of_mem _ List.mem_cons_self)) hini
  have hU' : vx_Zq Bundle.tN "UNASSIGNED_STACK" Bundle.steD A s' s'.heap := by rw [hhp]; exact vx_Zq.moved hW0.alike (hU.kept hS.2.1)
  have hN' : vx_Zq Bundle.tN "SUPPRESSED_SENTINEL" Bundle.listD A s' s'.heap := by rw [hhp]; exact vx_Zq.moved hW0.alike (hN.kept hS.2.1)
  have h : ∀ w ∈ Bundle.ownAtoms own ic cls names, w.before args s' = true := vx_own hat' (vx_isRefq hU'.1) (vx_isRefq hN'.1) hU'.2.word hN'.2.word
  have hown' : s'.vm.findClass own = some m.cls := by rw [hvm]; exact hown
  have hins : (Cond.instantiable cls 6).before args s' = true := h _ (by simp [Bundle.ownAtoms])
  obtain ⟨vm₁, cX, kX, hfX, hkX, -, -, X₁, st1⟩ := Y.newCold hexec (own := own) (C := cls) (index := ik) (n := 6) hown' hk' hins hini'
    (g := F0 m pc ls rest) rfl (by rw [hb]; exact d0) (Nat.le_refl _) (Nat.le_refl _)
  generalize hT1 : (T.setVm vm₁).pushCell { cls := cX, slots := kX.instanceTypes.map defaultValue, vm := .none } = T1 at X₁ st1
  have hcat : (Value.ref T.heap.size).category = 1 := rfl
  have hcellA : T1.heap[T.heap.size]? = some (freshCell cX kX) := by rw [← hT1]; exact State.heap_pushCell_size _ _
  have d3' : decode c.code (pc + 3) = .ok (.dup, 1) := by rw [hb]; exact d3
  have d4' : decode c.code (pc + 4) = .ok (.ldc_w is, 3) := by rw [hb]; exact d4
  have hstr' : vk_R own is text sa s' := vk_R.warm hW0 hstr
  obtain ⟨U, hsteps, hrun, hend, hW, hsame, ce, hce, hO⟩ := X₁.ctorThrowS hexec htr (own := own) (cls := cls) (names := names) (ic := ic) hown' hcls hnames h (fun x hx => nomatch hx) hfX hkX hcellA (by rw [hhp, hT]; exact Nat.le_refl _) (msg := .ref sa) rfl
    (g := { method := m, pc := pc + 7, locals := ls, stack := .ref sa :: .ref T.heap.size :: .ref T.heap.size :: rest, locked := none }) rfl hsize rfl rfl (rest := rest) rfl
    (by rw [hb]; exact d7) (by rw [hb]; exact d10) hout hRframes (by simp only [List.map_cons, List.sum_cons, hcat]; omega) hlocks
  obtain ⟨f1, f2⟩ := vx_frame hsame
  rw [hhp] at f1 f2
  have hWs : s.WarmedH U.vm := State.WarmedH.trans hW0 hW
  have hcl : s.vm.findClass cls = some ce.cls := by
    have h9 := hO.cls
    rw [hvm] at h9
    exact h9
  have hall : s.sameButNew ({ U with vm := s.vm } : State) locs mc ms := by
    subst hA
    obtain ⟨e1, e2⟩ := hsame
    rw [State.setFrames_setFrames] at e1
    have h2 : (T.setVm s.vm).sameButNew ({ U with vm := s.vm } : State) [] (0 + 1) (0 + 6) := ⟨e1, e2⟩
    have h3 := X.same.trans h2
    rw [List.append_nil] at h3
    exact h3.mono hc hs
  refine ⟨U, ?_, .threw T.heap.size, hrun, hend, Or.inr ⟨T.heap.size, rfl, cls, ce, locs, hx U hWs.alike f1 (fun q hq => f2 q hq (fun z hz => nomatch hz)), hce, hO.vm, hcl, hWs, hall, hf⟩⟩
  refine st1 _ ?_
  show Steps p.tables e below (T1.setTop { method := m, pc := pc + 3, locals := ls, stack := .ref T.heap.size :: rest, locked := none }) _
  jvm_step X₁.here [X₁.here.top, hexec, d3', Value.category]
  exact X₁.ldcStringW hexec (own := own) (text := text) (index := is) (a := sa) hown' hstr'.1 hstr'.2
    (g := { method := m, pc := pc + 4, locals := ls, stack := .ref T.heap.size :: .ref T.heap.size :: rest, locked := none }) rfl d4' _ hsteps
end Ends
section Bodies
variable {l : Launch}
theorem vx_ofW {y : MethodName} {ws ws' : List Cond} {rm : Room} {Pc : Array Value → State → Prop} {Qc : Array Value → State → Outcome → State → Prop} {XC : String → State → State → Prop} {mc ms : Nat} {free : Addr → Prop} {cc : ByteArray} {maxL : Nat} {ret : Option FieldType}
    (hy : plainName y.cls = true) (hw : ws = Cond.code y cc maxL ret :: ws')
    (body : ∀ p e s m args below meth c s₁, BodyLoose p l y (headSpec ws rm) cc maxL ret e s m args below meth c s₁ → c.maxLocals = maxL → (∀ x ∈ c.exceptionTable.toList, False) → Pc args s →
      W p l e (headSpec ws rm).room s m args below meth c s.heap [] 0 0 (vx_MQ below Qc XC args s mc ms free) (entryFrame m args maxL)) : vx_Met l y ws rm Pc Qc XC mc ms free := by
  refine MetFree.of_bodyS (code := cc) (maxLocals := maxL) (ret := ret) hy ?_ ?_
  · intro args s m h hn
    obtain ⟨meth, c, h1, h2, h3, h4, h5, h6, -, -⟩ := Cond.code_spec hn (atoms_spec (ws := ws) h _ (by rw [hw]; exact List.mem_cons_self))
    exact ⟨meth, c, h1, h2, h3, h4, h5, h6⟩
  · intro p e s m args below meth c s₁ B hml hP _
    have hh0 : s₁.heap = s.heap := by rw [B.state]; rfl
    have ht : ∀ x ∈ c.exceptionTable.toList, False := by
      obtain ⟨meth9, c9, h1, h2, -, -, -, -, h7, -⟩ := Cond.code_spec B.named (atoms_spec (ws := ws) B.pre _ (by rw [hw]; exact List.mem_cons_self))
      cases Option.some.inj (h1.symm.trans B.method)
      cases Option.some.inj (h2.symm.trans (Stand.of_body B).code)
      intro x hx
      rw [Array.isEmpty_iff.mp h7] at hx
      cases hx
    obtain ⟨t, a1, o, b1, b2, b3⟩ := body p e s m args below meth c s₁ B hml ht hP s₁ hh0 (Stand.of_body B)
    exact ⟨t, o, a1, b1, b2, b3⟩
/-- the table of a body with handlers -/
theorem vx_table {p : Program} {x y : MethodName} {S : Spec} {cc bytes : ByteArray} {maxL maxL' : Nat} {ret ret' : Option FieldType} {e : Env} {s s₁ : State} {m : MethodId} {args : Array Value} {below : List Frame} {meth : Method} {c : Code} {hh : List (Nat × Nat × Nat × Nat)}
    (B : BodyLoose p l y S cc maxL ret e s m args below meth c s₁) (h : (Cond.codeWith y bytes maxL' ret' hh).before args s = true) : c.exceptionTable.toList = tableOf hh := by
  obtain ⟨m9, meth9, c9, hn9, h1, h2, -, -, h6, -⟩ := Cond.codeWith_spec h
  cases Option.some.inj (hn9.symm.trans B.named)
  cases Option.some.inj (h1.symm.trans B.method)
  cases Option.some.inj (h2.symm.trans (Stand.of_body B).code)
  rw [← h6, table_eq]
end Bodies
end VXA
/-! ===== END ===== -/
/-! ===== BEGIN a static call of a method with an exception table ===== -/
section VXS
variable {p : Program} {l : Launch} {e : Env} {R : Room} {s : State} {m : MethodId} {args : Array Value} {below : List Frame} {meth : Method} {c : Code} {T : State} {H : Heap} {locs : List Loc} {cells slots : Nat}
abbrev vx_CSW (R : Room) (s : State) (args : Array Value) (own : String) (index : Nat) (y : MethodName) (bytes : ByteArray) (maxL : Nat) (ret : Option FieldType) (hh : List (Nat × Nat × Nat × Nat)) (ws : List Cond) (rm : Room) (mc ms n : Nat) : Prop :=
  (rm.cells = mc ∧ rm.slots = ms ∧ rm.frames + 1 ≤ R.frames ∧ 8 + (maxL + 11) + rm.locals ≤ R.locals ∧ (∀ w ∈ ws, ∀ (a' : Array Value) (U : State), s.WarmedH U.vm → w.before a' U = true) ∧ Cond.codeWith y bytes maxL ret hh ∈ ws) ∧
  (Cond.codeWith y bytes maxL ret hh).before args s = true ∧ (Cond.initialized y.cls).before args s = true ∧ (y.cls ≠ "java/lang/invoke/MethodHandle" ∧ y.cls ≠ "java/lang/invoke/VarHandle") ∧
  (∀ sig, parseMethodDescriptor y.desc = some sig → n = sig.parameters.length) ∧ (Cond.methodLink own index y).before args s = true ∧ (Cond.static y).before args s = true
theorem vx_cwSW {own : String} {index maxL mc ms : Nat} {y : MethodName} {bytes : ByteArray} {ret : Option FieldType} {hh : List (Nat × Nat × Nat × Nat)} {Ts ws ws' : List Cond} {rm : Room} (n : Nat) (ht : ∀ w ∈ Ts, w.before args s = true) (hT : GoodIn Ts (va_wsS own index y ws)) (hw : ws = Cond.codeWith y bytes maxL ret hh :: ws') (hrc : rm.cells = mc) (hrs : rm.slots = ms)
    (hd : y.cls ≠ "java/lang/invoke/MethodHandle" ∧ y.cls ≠ "java/lang/invoke/VarHandle" ∧ (parseMethodDescriptor y.desc).map (fun d => d.parameters.length) = some n) (hR : rm.frames + 1 ≤ R.frames ∧ 8 + (maxL + 11) + rm.locals ≤ R.locals) :
    vx_CSW R s args own index y bytes maxL ret hh ws rm mc ms n := by
  have ok : ∀ w ∈ va_wsS own index y ws, w.before args s = true := fun w h => ht w (hT w h).1
  have hG : GoodIn Ts ws := fun w h => hT w (by unfold va_wsS; exact List.mem_append_right _ h)
  have hc : Cond.codeWith y bytes maxL ret hh ∈ ws := by rw [hw]; exact List.mem_cons_self
  refine ⟨⟨hrc, hrs, hR.1, hR.2, pay_in ht hG, hc⟩, ht _ (hG _ hc).1, ok _ (by simp [va_wsS]), ⟨hd.1, hd.2.1⟩, fun sig h => ?_, ok _ (by simp [va_wsS]), ok _ (by simp [va_wsS])⟩
  have h2 := hd.2.2
  rw [h] at h2
  exact (Option.some.inj h2).symm
theorem vx_callSW (X : Stand p l e R s m args below meth c T locs cells slots) (hexec : p.tables.exec = Jvm.exec) {own : String} {index : Nat} {y : MethodName} {bytes : ByteArray} {maxL : Nat} {ret : Option FieldType} {hh : List (Nat × Nat × Nat × Nat)}
    (hown : s.vm.findClass own = some m.cls) (hlink : (Cond.methodLink own index y).before args s = true) (hstat : (Cond.static y).before args s = true) (hinit : (Cond.initialized y.cls).before args s = true)
    (hcode : (Cond.codeWith y bytes maxL ret hh).before args s = true) (hy : y.cls ≠ "java/lang/invoke/MethodHandle" ∧ y.cls ≠ "java/lang/invoke/VarHandle")
    {W9 : Nat} {Pre : Pt → Array Value → Prop} {Post : Pt → Array Value → Option Value → Pt → Prop} (hK : Back l R p e below s args y 3 W9 Pre Post)
    {g : JFrame} (hg : g.method = m) (hsize : g.locals.size = c.maxLocals) {argsL rest : List Value} (hlen : ∀ sig, parseMethodDescriptor y.desc = some sig → argsL.length = sig.parameters.length)
    (hstack : g.stack = argsL.reverse ++ rest) (hW : 2 * g.monitorRoom + (rest.map fun v => v.category).sum ≤ W9) (hdg : decode c.code g.pc = .ok (.invokestatic index, 3))
    (hpre : ∀ vm₁, s.WarmedH vm₁ → Pre ⟨T.setVm vm₁, locs, cells, slots⟩ argsL.toArray) :
    ∃ (v : Option Value) (vm₁ : Vm) (B : Pt), s.WarmedH vm₁ ∧ Stand p l e R s m args below meth c B.U B.locs B.cells B.slots ∧ Post ⟨T.setVm vm₁, locs, cells, slots⟩ argsL.toArray v B ∧
      ∀ target, Steps p.tables e below (B.U.setTop { g with pc := g.pc + 3, stack := v.toList ++ rest }) target → Steps p.tables e below (T.setTop g) target := by
  obtain ⟨mk, methM, cM, hnamed, hmethM, -, -, -, -, -, -, hsigM⟩ := Cond.codeWith_spec hcode
  have hstatic : methM.isStatic = true := Cond.static_spec hnamed hmethM hstat
  obtain ⟨kP, hkP, -⟩ := className_of_methodNamed hnamed
  have hinitP : kP.init = .initialized := Cond.initialized_spec (findClass_of_methodNamed hnamed) hkP hinit
  obtain ⟨vm₁, X₁, hstep₁⟩ := X.invokestatic hexec hown hlink hnamed hmethM hstatic hkP hinitP hy (g := g) hg (argsL := argsL) (rest := rest) (hlen _ hsigM) hstack hdg
  obtain ⟨v, B, X', hpost, hsteps⟩ := hK m meth c ⟨T.setVm vm₁, locs, cells, slots⟩ { g with stack := rest } (.invokestatic index) mk argsL.toArray X₁ hg hsize hdg hW (X₁.named hnamed) (hpre vm₁ X₁.warmed)
  exact ⟨v, vm₁, B, X₁.warmed, X', hpost, fun target h => hstep₁ _ fun acts => by rw [doInvoke_state]; exact hsteps.trans h⟩
theorem vx_runSW {y : MethodName} {bytes cc : ByteArray} {maxL nL mc ms n index : Nat} {ret : Option FieldType} {hh : List (Nat × Nat × Nat × Nat)} {ws : List Cond} {rm : Room} {Pc : Array Value → State → Prop} {Qc : Array Value → State → Outcome → State → Prop} {free : Addr → Prop} {Ts : List Cond} {own : String} {As rest : List Value} {g : JFrame}
    (S : CallFix p m c cc nL s args Ts own) (hM : Met l y ws rm Pc Qc mc ms free) (cw : vx_CSW R s args own index y bytes maxL ret hh ws rm mc ms n) (hp : PreS s H Pc As)
    (hg : g.method = m) (hn : As.length = n) (hsize : g.locals.size = nL) (hstack : g.stack = As.reverse ++ rest) (hW : 2 * g.monitorRoom + (rest.map fun v => v.category).sum ≤ 8) (hdg : decode cc g.pc = .ok (.invokestatic index, 3)) (hf : cells + mc ≤ R.cells ∧ slots + ms ≤ R.slots) :
    va_Run p l e R s m args below meth c H locs cells slots mc ms g rest (Qc As.toArray) (free) := by
  obtain ⟨⟨hrc, hrs, hfr, hlo, hws, hcw⟩, hcode, hini, hy, hlen, hl, hstt⟩ := cw
  have hK : Back l R p e below s args y 3 8 (PreOf R mc ms Pc) (PostOf Qc mc ms free) := va_backW (hh := hh) (bytes := bytes) (maxL := maxL) (ret := ret) hM hp.1 hrc hrs hfr hlo hws hcw (fun a' U hW => word_at hW (Or.inl (by first | rfl | simp [Cond.onTables, Cond.keeps, Cond.steady])) hini)
  obtain ⟨hx, hb, hml, ho, -⟩ := S
  intro T hT X
  obtain ⟨v, vm₁, ⟨U', l2, c2, s2⟩, hW₁, X', ⟨g', mk, t, L, e1, e2, hq, h1, hL, h2, h3⟩, st⟩ := vx_callSW X hx (hh := hh) (bytes := bytes) (maxL := maxL) (ret := ret) ho hl hstt hini hcode hy hK hg (hsize.trans hml.symm) (argsL := As) (rest := rest) (fun sig h => hn.trans (hlen sig h)) hstack hW (by rw [hb]; exact hdg)
    (fun vm₁ hW₁ => ⟨hf.1, hf.2, hp.2 (T.setVm vm₁) hT hW₁⟩)
  dsimp only [Pt.U, Pt.locs, Pt.cells, Pt.slots] at X' e1 e2 h1 h2 h3 st
  subst h1; subst h2; subst h3
  exact ⟨v, (T.setVm vm₁).calling g' mk As.toArray, t, U', L, hT, X', hL, e1, e2, hq, st⟩
/-- not caught here, past rows that name other classes: it goes on to the caller -/
theorem vx_outP {p : Program} {l : Launch} {e : Env} {R : Room} {s : State} {m : MethodId} {args : Array Value} {below : List Frame} {meth : Method} {c : Code} {H : Heap} {locs : List Loc} {cells slots : Nat} {free : Addr → Prop} {ls : Array Slot} {rest : List Value} {Qc : Array Value → State → Outcome → State → Prop} {XC : String → State → State → Prop}
    {pc : Nat} {own E : String} {ce : Cell} {q : Addr} {mc ms : Nat} (hown : s.vm.findClass own = some m.cls) (hlocks : meth.locks = false)
    (hpass : ∀ z ∈ c.exceptionTable.toList, covers z pc = false ∨ (z.catchType ≠ 0 ∧ ∃ nm : String, (Cond.classLink own z.catchType nm).before args s = true ∧ va_Nc E nm s)) (hcell : H[q]? = some ce) (hv : ce.vm = .none) (hcl : s.vm.findClass E = some ce.cls)
    (hx : ∀ t : State, t.heap = H → s.vm.Alike t.vm → XC E s t) (hf : ∀ z ∈ locs, free z.base) (hc : cells ≤ mc) (hs : slots ≤ ms) :
    vx_W p l e R s m args below meth c H locs cells slots (vx_MQ below Qc XC args s mc ms free) (F0 m pc ls rest) q := by
  intro T hT X
  have hpl : e.platform.magicAccessors = ({} : Platform).magicAccessors := by rw [X.admits.platform]
  obtain ⟨vm', hW', X', st⟩ := Jvm.Stand.outThrough X hlocks q (g := F0 m pc ls rest) rfl rfl rfl (cell := ce) (by rw [hT]; exact hcell) (by rw [hv]; rfl)
    (by obtain ⟨k9, h9, -⟩ := Vm.findClass_spec hcl; exact ⟨k9, h9⟩) (fun z hz => by
      rcases hpass z hz with h | ⟨hz0, nm, hl1, hn1⟩
      · exact Or.inl h
      · obtain ⟨c6, hc6, hcl6⟩ := Cond.classLink_spec hown hl1 e.platform hpl
        obtain ⟨a8, b8, h1, h2, h3⟩ := hn1
        cases Option.some.inj (h1.symm.trans hcl)
        cases Option.some.inj (h2.symm.trans hc6)
        exact Or.inr ⟨hz0, _, hcl6, h3⟩)
  obtain ⟨g₀, hfr⟩ := X'.frames_eq
  have hcell9 : ((T.setVm vm').setFrames (.throwing q :: below)).heap[q]? = some ce := by
    show T.heap[q]? = some ce
    rw [hT]; exact hcell
  have hend : Ended ((T.setVm vm').setFrames (.throwing q :: below)) below (.threw q) := State.frames_setFrames _ (State.cur_lt_of_frames hfr)
  refine ⟨(T.setVm vm').setFrames (.throwing q :: below), ?_, .threw q, X'.here.running, hend, Or.inr ⟨q, rfl, E, ce, locs, hx _ hT (X'.ends _).1.alike, hcell9, hv, hcl, (X'.ends _).1, (X'.ends _).2.mono hc hs, hf⟩⟩
  rw [X.pushThrowing_eq]
  exact st
/-- a thing of a world lies in the heap -/
theorem vx_lt {D : va_G} {cl : List vw_C} {ws : va_W} {H1 : Heap} (h : va_P D cl ws H1) {k : Nat} {q : Nat × va_E} (hk : ws[k]? = some q) : q.1 < H1.size := (h k q hk).lt
end VXS
/-! ===== END ===== -/
/-! ===== BEGIN methods with a table of their own: called by a name, returning or throwing ===== -/
section VXH
/-! vx_backW, vx_callVX, vx_callSX, vx_callVW, vx_runVW, vx_runVX, vx_runSX, vx_ofWH follow the same proofs as their sisters above (Free/Laws.lean, Shelf42/LK1.lean); vx_outP calls Shelf42/NT130.lean (outThrough). -/
section
variable {l : Launch} {R : Room} {p : Program} {e : Env} {below : List Frame} {s : State} {sargs : Array Value} {y : MethodName} {len W9 : Nat}
theorem vx_backW {ws : List Cond} {rm : Room} {Pc : Array Value → State → Prop} {Qc : Array Value → State → Outcome → State → Prop} {XC : String → State → State → Prop} {mc ms : Nat} {free : Addr → Prop} {bytes : ByteArray} {maxL : Nat} {ret : Option FieldType} {hh : List (Nat × Nat × Nat × Nat)}
    (hM : vx_Met l y ws rm Pc Qc XC mc ms free) (hblind : FrameBlind Pc) (hrc : rm.cells = mc) (hrs : rm.slots = ms)
    (hframes : rm.frames + 1 ≤ R.frames) (hlocals : W9 + (maxL + 11) + rm.locals ≤ R.locals)
    (hws : ∀ w ∈ ws, ∀ a' U, s.WarmedH U.vm → w.before a' U = true) (hcode : Cond.codeWith y bytes maxL ret hh ∈ ws) (hinit : ∀ a' U, s.WarmedH U.vm → (Cond.initialized y.cls).before a' U = true) :
    vx_Back l R p e below s sargs y len W9 (PreOf R mc ms Pc) (PostOf Qc mc ms free) (vx_Post XC mc ms free) := by
  intro m meth c A g ig mk a X hg hsize hdg hW hn hp
  have h1 : (headSpec ws rm).pre.before a A.U = true := atoms_intro fun w hw => hws w hw _ _ X.warmed
  have h2 : (Cond.codeWith y bytes maxL ret hh).before a A.U = true := hws _ hcode _ _ X.warmed
  have h3 : (Cond.initialized y.cls).before a A.U = true := hinit _ _ X.warmed
  have h4 : A.cells + (headSpec ws rm).room.cells ≤ R.cells := by rw [show (headSpec ws rm).room.cells = mc from hrc]; exact hp.1
  have h5 : A.slots + (headSpec ws rm).room.slots ≤ R.slots := by rw [show (headSpec ws rm).room.slots = ms from hrs]; exact hp.2.1
  have hPc : Pc a (A.U.calling g mk a) := hblind _ _ _ _ hp.2.2
  obtain ⟨U, Ls, c0, s0⟩ := A
  dsimp only [Pt.U, Pt.locs, Pt.cells, Pt.slots] at h1 h2 h3 h4 h5 X hn hPc ⊢
  obtain ⟨m9, methY, cY, hn9, hmY, hcY, -, hlY, -⟩ := Cond.codeWith_spec h2
  cases Option.some.inj (hn9.symm.trans hn)
  obtain ⟨kY, hkY, -⟩ := className_of_methodNamed hn
  have hinitY : kY.init = .initialized := Cond.initialized_spec (findClass_of_methodNamed hn) hkY h3
  have h : At U g.method c below := by rw [hg]; exact X.here
  have hlocals9 : W9 + (maxL + 11) + (headSpec ws rm).room.locals ≤ R.locals := hlocals
  have happ : (headSpec ws rm).appliesLoose y e.platform (U.calling g mk a) = true :=
    Spec.appliesLoose_calling (g := g) h hdg hn hkY hinitY
      (X.room_calling (g := g) (R' := (headSpec ws rm).room) hsize hmY hcY hframes (by rw [hlY]; omega) h4 h5) h1
  obtain ⟨mid, hmid⟩ := h.above
  have hfr : (U.setTop g).frames = (.java g :: mid) ++ below := by rw [State.frames_setTop' g h.top, hmid]; rfl
  obtain ⟨o, s₂, hsteps, -, hend, hq⟩ := Steps.callFree hM p X.admits X.cas X.clock (acts := []) hfr happ hPc trivial
  have hq' : vx_Q Qc XC mc ms free a (U.calling g mk a) o s₂ := hq
  rw [State.frames_setTop' g h.top] at hend
  obtain ⟨g₀, hg0⟩ := Option.isSome_iff_exists.mp h.top
  obtain ⟨r, hr⟩ := State.topJava?_eq_some.mp hg0
  have hr' : (({ U with heap := s₂.heap, slotsUsed := s₂.slotsUsed } : State).setVm s₂.vm).frames = .java g₀ :: r := hr
  rcases hq' with ⟨hqc, L, hfe, hL⟩ | ⟨q, rfl, E, ce, L, hx, hce, hcv, hcl, hW₂, hsm, hL⟩
  · obtain ⟨⟨v, rfl⟩, hW₂, e2, q2, q3, q4, q5, q6⟩ := id hfe
    have e3 : s₂ = ({ (U.calling g mk a).setFrames s₂.frames with heap := s₂.heap, slotsUsed := s₂.slotsUsed } : State).setVm s₂.vm := by
      have : s₂ = ({ s₂ with vm := (U.calling g mk a).vm } : State).setVm s₂.vm := rfl
      rw [e2] at this
      exact this
    obtain ⟨c₂, i₂, len₂, hc₂, hd₂, hf₂⟩ := hend
    have hW' : U.WarmedH s₂.vm := hW₂
    have hcc : c₂ = c := by
      have h1 : s₂.code? g.method = U.code? g.method := by
        rw [State.code?_eq, State.code?_eq, hW'.alike.method?]
      exact Option.some.inj (hc₂.symm.trans (h1.trans h.code))
    subst hcc
    have hlen : len₂ = len := by rw [hdg] at hd₂; cases hd₂; rfl
    subst hlen
    have hs₂ : s₂ = (({ U with heap := s₂.heap, slotsUsed := s₂.slotsUsed } : State).setVm s₂.vm).setTop { g with pc := g.pc + len₂, stack := v.toList ++ g.stack } := by
      refine e3.trans ?_
      rw [hf₂, State.calling_eq h.top, State.setFrames_setFrames, State.setTop_of_frames _ hr', hr]
      rfl
    have hsame : U.sameButNew ({ U with heap := s₂.heap, slotsUsed := s₂.slotsUsed } : State) L mc ms := by
      refine ⟨?_, q2, q3, q4, q5, q6⟩
      obtain ⟨t, ht, -⟩ := State.frames_cons hr
      show ({ U with heap := s₂.heap, slotsUsed := s₂.slotsUsed } : State) = { U.setFrames U.frames with heap := s₂.heap, slotsUsed := s₂.slotsUsed }
      rw [State.setFrames_self ht]
    subst hg
    refine Or.inl ⟨v, ⟨(({ U with heap := s₂.heap, slotsUsed := s₂.slotsUsed } : State).setVm s₂.vm), Ls ++ L, c0 + mc, s0 + ms⟩,
      ⟨X.admits, X.cas, X.clock, X.frames, X.room, X.hears, X.method, X.code, (X.here.setHeapUsed s₂.heap s₂.slotsUsed).setVm hW'.alike, X.tail, State.WarmedH.trans X.warmed hW', X.limits, X.bytes, X.same.trans (hsame.setVm s.vm)⟩,
      ⟨g, mk, s₂, L, rfl, rfl, hqc, rfl, hL, rfl, rfl⟩, ?_⟩
    show Steps p.tables e below _ ((({ U with heap := s₂.heap, slotsUsed := s₂.slotsUsed } : State).setVm s₂.vm).setTop { g with pc := g.pc + len₂, stack := v.toList ++ g.stack })
    rw [← hs₂]
    exact hsteps
  · obtain ⟨e2, q2, q3, q4, q5, q6⟩ := id hsm
    have e3 : s₂ = ({ (U.calling g mk a).setFrames s₂.frames with heap := s₂.heap, slotsUsed := s₂.slotsUsed } : State).setVm s₂.vm := by
      have : s₂ = ({ s₂ with vm := (U.calling g mk a).vm } : State).setVm s₂.vm := rfl
      rw [e2] at this
      exact this
    have hf₂ : s₂.frames = .throwing q :: .java g :: U.frames.tail := hend
    have hW' : U.WarmedH s₂.vm := hW₂
    have hs₂ : s₂ = ((({ U with heap := s₂.heap, slotsUsed := s₂.slotsUsed } : State).setVm s₂.vm).setTop g).pushFrame (.throwing q) := by
      refine e3.trans ?_
      rw [hf₂, State.calling_eq h.top, State.setFrames_setFrames, State.pushFrame, State.frames_setTop _ hr', State.setTop_of_frames _ hr', State.setFrames_setFrames, hr]
      rfl
    have hsame : U.sameButNew ({ U with heap := s₂.heap, slotsUsed := s₂.slotsUsed } : State) L mc ms := by
      refine ⟨?_, q2, q3, q4, q5, q6⟩
      obtain ⟨t, ht, -⟩ := State.frames_cons hr
      show ({ U with heap := s₂.heap, slotsUsed := s₂.slotsUsed } : State) = { U.setFrames U.frames with heap := s₂.heap, slotsUsed := s₂.slotsUsed }
      rw [State.setFrames_self ht]
    subst hg
    refine Or.inr ⟨q, ⟨(({ U with heap := s₂.heap, slotsUsed := s₂.slotsUsed } : State).setVm s₂.vm), Ls ++ L, c0 + mc, s0 + ms⟩,
      ⟨X.admits, X.cas, X.clock, X.frames, X.room, X.hears, X.method, X.code, (X.here.setHeapUsed s₂.heap s₂.slotsUsed).setVm hW'.alike, X.tail, State.WarmedH.trans X.warmed hW', X.limits, X.bytes, X.same.trans (hsame.setVm s.vm)⟩,
      ⟨g, mk, s₂, L, E, ce, rfl, rfl, hx, hce, hcv, hcl, rfl, hL, rfl, rfl⟩, ?_⟩
    show Steps p.tables e below _ (((({ U with heap := s₂.heap, slotsUsed := s₂.slotsUsed } : State).setVm s₂.vm).setTop g).pushFrame (.throwing q))
    rw [← hs₂]
    exact hsteps
end
variable {p : Program} {l : Launch} {e : Env} {R : Room} {s : State} {m : MethodId} {args : Array Value} {below : List Frame} {meth : Method} {c : Code} {T : State} {H : Heap} {locs : List Loc} {cells slots : Nat}
theorem vx_callVX (X : Stand p l e R s m args below meth c T locs cells slots) (hexec : p.tables.exec = Jvm.exec) {own C : String} {index : Nat} {y : MethodName} {bytes : ByteArray} {maxL : Nat} {ret : Option FieldType} {hh : List (Nat × Nat × Nat × Nat)}
    (hown : s.vm.findClass own = some m.cls) (hlink : (Cond.methodLink own index y).before args s = true) (hinst : (Cond.instanceMethod y).before args s = true) (hsel : (Cond.selects C y y).before args s = true)
    (hcode : (Cond.codeWith y bytes maxL ret hh).before args s = true) (hy : y.cls ≠ "java/lang/invoke/MethodHandle" ∧ y.cls ≠ "java/lang/invoke/VarHandle")
    {W9 : Nat} {Pre : Pt → Array Value → Prop} {Post : Pt → Array Value → Option Value → Pt → Prop} {PostX : Pt → Array Value → Addr → Pt → Prop} (hK : vx_Back l R p e below s args y 3 W9 Pre Post PostX)
    {b : Addr} {cellB : Cell} (hcell : T.heap[b]? = some cellB) (hobj : cellB.vm.isStatics = false) (hcls : s.vm.findClass C = some cellB.cls)
    {g : JFrame} (hg : g.method = m) (hsize : g.locals.size = c.maxLocals) {argsL rest : List Value} (hlen : ∀ sig, parseMethodDescriptor y.desc = some sig → argsL.length = sig.parameters.length)
    (hstack : g.stack = argsL.reverse ++ .ref b :: rest) (hW : 2 * g.monitorRoom + (rest.map fun v => v.category).sum ≤ W9) (hdg : decode c.code g.pc = .ok (.invokevirtual index, 3))
    (hpre : ∀ vm₁, s.WarmedH vm₁ → Pre ⟨T.setVm vm₁, locs, cells, slots⟩ (Value.ref b :: argsL).toArray) :
    (∃ (v : Option Value) (vm₁ : Vm) (B : Pt), s.WarmedH vm₁ ∧ Stand p l e R s m args below meth c B.U B.locs B.cells B.slots ∧ Post ⟨T.setVm vm₁, locs, cells, slots⟩ (Value.ref b :: argsL).toArray v B ∧
      ∀ target, Steps p.tables e below (B.U.setTop { g with pc := g.pc + 3, stack := v.toList ++ rest }) target → Steps p.tables e below (T.setTop g) target) ∨
    (∃ (q : Addr) (vm₁ : Vm) (B : Pt), s.WarmedH vm₁ ∧ Stand p l e R s m args below meth c B.U B.locs B.cells B.slots ∧ PostX ⟨T.setVm vm₁, locs, cells, slots⟩ (Value.ref b :: argsL).toArray q B ∧
      Steps p.tables e below (T.setTop g) ((B.U.setTop { g with stack := rest }).pushFrame (.throwing q))) := by
  obtain ⟨mk, methM, hnamed, hmethM, hstM, habM⟩ := Cond.instanceMethod_spec hinst
  obtain ⟨m8, methM', cM, hn8, hmethM', -, -, -, -, -, -, hsigM⟩ := Cond.codeWith_spec hcode
  cases Option.some.inj (hn8.symm.trans hnamed)
  cases hmethM.symm.trans hmethM'
  obtain ⟨c2, r2, m2, q1, q2, q3, q4, kP, hkP, hkPi⟩ := Cond.selects_spec hsel
  cases hcls.symm.trans q1
  cases (State.methodFound?_of_named hnamed hy).symm.trans q2
  cases hnamed.symm.trans q3
  have hselP : selectMethod e.platform s.vm cellB.cls mk = .method mk := by rw [Launch.admits_selectMethod X.admits]; exact q4
  obtain ⟨vm₁, X₁, hstep₁⟩ := X.invokevirtual hexec hown hlink hnamed hmethM hstM hkP hkPi hy (a := b) (cell := cellB) hcell
    (fun z h => by rw [h] at hobj; cases hobj) hselP hmethM habM hkP hkPi (g := g) hg (argsL := argsL) (rest := rest) (hlen _ hsigM) hstack hdg
  rcases hK m meth c ⟨T.setVm vm₁, locs, cells, slots⟩ { g with stack := rest } (.invokevirtual index) mk (Value.ref b :: argsL).toArray X₁ hg hsize hdg hW (X₁.named hnamed) (hpre vm₁ X₁.warmed) with ⟨v, B, X', hpost, hsteps⟩ | ⟨q, B, X', hpost, hsteps⟩
  · exact Or.inl ⟨v, vm₁, B, X₁.warmed, X', hpost, fun target h => hstep₁ _ fun acts => by rw [doInvoke_state]; exact hsteps.trans h⟩
  · exact Or.inr ⟨q, vm₁, B, X₁.warmed, X', hpost, hstep₁ _ fun acts => by rw [doInvoke_state]; exact hsteps⟩
theorem vx_callSX (X : Stand p l e R s m args below meth c T locs cells slots) (hexec : p.tables.exec = Jvm.exec) {own : String} {index : Nat} {y : MethodName} {bytes : ByteArray} {maxL : Nat} {ret : Option FieldType} {hh : List (Nat × Nat × Nat × Nat)}
    (hown : s.vm.findClass own = some m.cls) (hlink : (Cond.methodLink own index y).before args s = true) (hstat : (Cond.static y).before args s = true) (hinit : (Cond.initialized y.cls).before args s = true)
    (hcode : (Cond.codeWith y bytes maxL ret hh).before args s = true) (hy : y.cls ≠ "java/lang/invoke/MethodHandle" ∧ y.cls ≠ "java/lang/invoke/VarHandle")
    {W9 : Nat} {Pre : Pt → Array Value → Prop} {Post : Pt → Array Value → Option Value → Pt → Prop} {PostX : Pt → Array Value → Addr → Pt → Prop} (hK : vx_Back l R p e below s args y 3 W9 Pre Post PostX)
    {g : JFrame} (hg : g.method = m) (hsize : g.locals.size = c.maxLocals) {argsL rest : List Value} (hlen : ∀ sig, parseMethodDescriptor y.desc = some sig → argsL.length = sig.parameters.length)
    (hstack : g.stack = argsL.reverse ++ rest) (hW : 2 * g.monitorRoom + (rest.map fun v => v.category).sum ≤ W9) (hdg : decode c.code g.pc = .ok (.invokestatic index, 3))
    (hpre : ∀ vm₁, s.WarmedH vm₁ → Pre ⟨T.setVm vm₁, locs, cells, slots⟩ argsL.toArray) :
    (∃ (v : Option Value) (vm₁ : Vm) (B : Pt), s.WarmedH vm₁ ∧ Stand p l e R s m args below meth c B.U B.locs B.cells B.slots ∧ Post ⟨T.setVm vm₁, locs, cells, slots⟩ argsL.toArray v B ∧
      ∀ target, Steps p.tables e below (B.U.setTop { g with pc := g.pc + 3, stack := v.toList ++ rest }) target → Steps p.tables e below (T.setTop g) target) ∨
    (∃ (q : Addr) (vm₁ : Vm) (B : Pt), s.WarmedH vm₁ ∧ Stand p l e R s m args below meth c B.U B.locs B.cells B.slots ∧ PostX ⟨T.setVm vm₁, locs, cells, slots⟩ argsL.toArray q B ∧
      Steps p.tables e below (T.setTop g) ((B.U.setTop { g with stack := rest }).pushFrame (.throwing q))) := by
  obtain ⟨mk, methM, cM, hnamed, hmethM, -, -, -, -, -, -, hsigM⟩ := Cond.codeWith_spec hcode
  have hstatic : methM.isStatic = true := Cond.static_spec hnamed hmethM hstat
  obtain ⟨kP, hkP, -⟩ := className_of_methodNamed hnamed
  have hinitP : kP.init = .initialized := Cond.initialized_spec (findClass_of_methodNamed hnamed) hkP hinit
  obtain ⟨vm₁, X₁, hstep₁⟩ := X.invokestatic hexec hown hlink hnamed hmethM hstatic hkP hinitP hy (g := g) hg (argsL := argsL) (rest := rest) (hlen _ hsigM) hstack hdg
  rcases hK m meth c ⟨T.setVm vm₁, locs, cells, slots⟩ { g with stack := rest } (.invokestatic index) mk argsL.toArray X₁ hg hsize hdg hW (X₁.named hnamed) (hpre vm₁ X₁.warmed) with ⟨v, B, X', hpost, hsteps⟩ | ⟨q, B, X', hpost, hsteps⟩
  · exact Or.inl ⟨v, vm₁, B, X₁.warmed, X', hpost, fun target h => hstep₁ _ fun acts => by rw [doInvoke_state]; exact hsteps.trans h⟩
  · exact Or.inr ⟨q, vm₁, B, X₁.warmed, X', hpost, hstep₁ _ fun acts => by rw [doInvoke_state]; exact hsteps⟩
theorem vx_callVW (X : Stand p l e R s m args below meth c T locs cells slots) (hexec : p.tables.exec = Jvm.exec) {own C : String} {index : Nat} {y : MethodName} {bytes : ByteArray} {maxL : Nat} {ret : Option FieldType} {hh : List (Nat × Nat × Nat × Nat)}
    (hown : s.vm.findClass own = some m.cls) (hlink : (Cond.methodLink own index y).before args s = true) (hinst : (Cond.instanceMethod y).before args s = true) (hsel : (Cond.selects C y y).before args s = true)
    (hcode : (Cond.codeWith y bytes maxL ret hh).before args s = true) (hy : y.cls ≠ "java/lang/invoke/MethodHandle" ∧ y.cls ≠ "java/lang/invoke/VarHandle")
    {W9 : Nat} {Pre : Pt → Array Value → Prop} {Post : Pt → Array Value → Option Value → Pt → Prop} (hK : Back l R p e below s args y 3 W9 Pre Post)
    {b : Addr} {cellB : Cell} (hcell : T.heap[b]? = some cellB) (hobj : cellB.vm.isStatics = false) (hcls : s.vm.findClass C = some cellB.cls)
    {g : JFrame} (hg : g.method = m) (hsize : g.locals.size = c.maxLocals) {argsL rest : List Value} (hlen : ∀ sig, parseMethodDescriptor y.desc = some sig → argsL.length = sig.parameters.length)
    (hstack : g.stack = argsL.reverse ++ .ref b :: rest) (hW : 2 * g.monitorRoom + (rest.map fun v => v.category).sum ≤ W9) (hdg : decode c.code g.pc = .ok (.invokevirtual index, 3))
    (hpre : ∀ vm₁, s.WarmedH vm₁ → Pre ⟨T.setVm vm₁, locs, cells, slots⟩ (Value.ref b :: argsL).toArray) :
    ∃ (v : Option Value) (vm₁ : Vm) (B : Pt), s.WarmedH vm₁ ∧ Stand p l e R s m args below meth c B.U B.locs B.cells B.slots ∧ Post ⟨T.setVm vm₁, locs, cells, slots⟩ (Value.ref b :: argsL).toArray v B ∧
      ∀ target, Steps p.tables e below (B.U.setTop { g with pc := g.pc + 3, stack := v.toList ++ rest }) target → Steps p.tables e below (T.setTop g) target := by
  obtain ⟨mk, methM, hnamed, hmethM, hstM, habM⟩ := Cond.instanceMethod_spec hinst
  obtain ⟨m8, methM', cM, hn8, hmethM', -, -, -, -, -, -, hsigM⟩ := Cond.codeWith_spec hcode
  cases Option.some.inj (hn8.symm.trans hnamed)
  cases hmethM.symm.trans hmethM'
  obtain ⟨c2, r2, m2, q1, q2, q3, q4, kP, hkP, hkPi⟩ := Cond.selects_spec hsel
  cases hcls.symm.trans q1
  cases (State.methodFound?_of_named hnamed hy).symm.trans q2
  cases hnamed.symm.trans q3
  have hselP : selectMethod e.platform s.vm cellB.cls mk = .method mk := by rw [Launch.admits_selectMethod X.admits]; exact q4
  obtain ⟨vm₁, X₁, hstep₁⟩ := X.invokevirtual hexec hown hlink hnamed hmethM hstM hkP hkPi hy (a := b) (cell := cellB) hcell
    (fun z h => by rw [h] at hobj; cases hobj) hselP hmethM habM hkP hkPi (g := g) hg (argsL := argsL) (rest := rest) (hlen _ hsigM) hstack hdg
  obtain ⟨v, B, X', hpost, hsteps⟩ := hK m meth c ⟨T.setVm vm₁, locs, cells, slots⟩ { g with stack := rest } (.invokevirtual index) mk (Value.ref b :: argsL).toArray X₁ hg hsize hdg hW (X₁.named hnamed) (hpre vm₁ X₁.warmed)
  exact ⟨v, vm₁, B, X₁.warmed, X', hpost, fun target h => hstep₁ _ fun acts => by rw [doInvoke_state]; exact hsteps.trans h⟩
abbrev vx_CVW (R : Room) (s : State) (args : Array Value) (own C : String) (index : Nat) (y : MethodName) (bytes : ByteArray) (maxL : Nat) (ret : Option FieldType) (hh : List (Nat × Nat × Nat × Nat)) (ws : List Cond) (rm : Room) (mc ms n : Nat) : Prop :=
  (rm.cells = mc ∧ rm.slots = ms ∧ rm.frames + 1 ≤ R.frames ∧ 8 + (maxL + 11) + rm.locals ≤ R.locals ∧ (∀ w ∈ ws, ∀ (a' : Array Value) (U : State), s.WarmedH U.vm → w.before a' U = true) ∧ Cond.codeWith y bytes maxL ret hh ∈ ws) ∧
  (Cond.codeWith y bytes maxL ret hh).before args s = true ∧ (Cond.initialized y.cls).before args s = true ∧ (y.cls ≠ "java/lang/invoke/MethodHandle" ∧ y.cls ≠ "java/lang/invoke/VarHandle") ∧
  (∀ sig, parseMethodDescriptor y.desc = some sig → n = sig.parameters.length) ∧ (Cond.methodLink own index y).before args s = true ∧ (Cond.instanceMethod y).before args s = true ∧ (Cond.selects C y y).before args s = true
theorem vx_cwVW {own C : String} {index maxL mc ms : Nat} {y : MethodName} {bytes : ByteArray} {ret : Option FieldType} {hh : List (Nat × Nat × Nat × Nat)} {Ts ws ws' : List Cond} {rm : Room} (n : Nat) (ht : ∀ w ∈ Ts, w.before args s = true) (hT : GoodIn Ts (wsV own index C y ws)) (hw : ws = Cond.codeWith y bytes maxL ret hh :: ws') (hrc : rm.cells = mc) (hrs : rm.slots = ms)
    (hd : y.cls = C ∧ y.cls ≠ "java/lang/invoke/MethodHandle" ∧ y.cls ≠ "java/lang/invoke/VarHandle" ∧ (parseMethodDescriptor y.desc).map (fun d => d.parameters.length) = some n) (hR : rm.frames + 1 ≤ R.frames ∧ 8 + (maxL + 11) + rm.locals ≤ R.locals) :
    vx_CVW R s args own C index y bytes maxL ret hh ws rm mc ms n := by
  obtain ⟨hC, hd⟩ := hd
  subst hC
  have ok : ∀ w ∈ wsV own index y.cls y ws, w.before args s = true := fun w h => ht w (hT w h).1
  have hG : GoodIn Ts ws := fun w h => hT w (by unfold wsV; exact List.mem_append_right _ h)
  have hc : Cond.codeWith y bytes maxL ret hh ∈ ws := by rw [hw]; exact List.mem_cons_self
  refine ⟨⟨hrc, hrs, hR.1, hR.2, pay_in ht hG, hc⟩, ht _ (hG _ hc).1, ok _ (by simp [wsV]), ⟨hd.1, hd.2.1⟩, fun sig h => ?_, ok _ (by simp [wsV]), ok _ (by simp [wsV]), ok _ (by simp [wsV])⟩
  have h2 := hd.2.2
  rw [h] at h2
  exact (Option.some.inj h2).symm
theorem vx_runVW {y : MethodName} {bytes cc : ByteArray} {maxL nL mc ms n index : Nat} {ret : Option FieldType} {hh : List (Nat × Nat × Nat × Nat)} {ws : List Cond} {rm : Room} {Pc : Array Value → State → Prop} {Qc : Array Value → State → Outcome → State → Prop} {free : Addr → Prop} {Ts : List Cond} {own C : String} {b : Addr} {As rest : List Value} {g : JFrame}
    (S : CallFix p m c cc nL s args Ts own) (hM : Met l y ws rm Pc Qc mc ms free) (cw : vx_CVW R s args own C index y bytes maxL ret hh ws rm mc ms n) (hp : PreV s H C b Pc As)
    (hg : g.method = m) (hn : As.length = n) (hsize : g.locals.size = nL) (hstack : g.stack = As.reverse ++ .ref b :: rest) (hW : 2 * g.monitorRoom + (rest.map fun v => v.category).sum ≤ 8) (hdg : decode cc g.pc = .ok (.invokevirtual index, 3)) (hf : cells + mc ≤ R.cells ∧ slots + ms ≤ R.slots) :
    va_Run p l e R s m args below meth c H locs cells slots mc ms g rest (Qc (Value.ref b :: As).toArray) free := by
  obtain ⟨⟨hrc, hrs, hfr, hlo, hws, hcw⟩, hcode, hini, hy, hlen, hl, hin, hse⟩ := cw
  have hK : Back l R p e below s args y 3 8 (PreOf R mc ms Pc) (PostOf Qc mc ms free) := va_backW (hh := hh) (bytes := bytes) (maxL := maxL) (ret := ret) hM hp.1 hrc hrs hfr hlo hws hcw (fun a' U hW => word_at hW (Or.inl (by first | rfl | simp [Cond.onTables, Cond.keeps, Cond.steady])) hini)
  obtain ⟨hx, hb, hml, ho, -⟩ := S
  obtain ⟨-, ⟨cellB, hcB, hoB, hclB⟩, hPc⟩ := hp
  intro T hT X
  obtain ⟨v, vm₁, ⟨U', l2, c2, s2⟩, hW₁, X', ⟨g', mk, t, L, e1, e2, hq, h1, hL, h2, h3⟩, st⟩ := vx_callVW X hx (C := C) (hh := hh) (bytes := bytes) (maxL := maxL) (ret := ret) ho hl hin hse hcode hy hK (by rw [hT]; exact hcB) hoB hclB hg (hsize.trans hml.symm) (argsL := As) (rest := rest) (fun sig h => hn.trans (hlen sig h)) hstack hW (by rw [hb]; exact hdg)
    (fun vm₁ hW₁ => ⟨hf.1, hf.2, hPc (T.setVm vm₁) hT hW₁⟩)
  dsimp only [Pt.U, Pt.locs, Pt.cells, Pt.slots] at X' e1 e2 h1 h2 h3 st
  subst h1; subst h2; subst h3
  exact ⟨v, (T.setVm vm₁).calling g' mk (Value.ref b :: As).toArray, t, U', L, hT, X', hL, e1, e2, hq, st⟩
section
variable {y : MethodName} {bytes cc : ByteArray} {maxL nL mc ms n index : Nat} {ret : Option FieldType} {ws : List Cond} {rm : Room} {Pc : Array Value → State → Prop} {Qc : Array Value → State → Outcome → State → Prop} {XC : String → State → State → Prop} {free : Addr → Prop} {Ts : List Cond} {own C : String} {b : Addr} {As rest : List Value} {g : JFrame}
theorem vx_runVX {hh : List (Nat × Nat × Nat × Nat)} (S : CallFix p m c cc nL s args Ts own) (hM : vx_Met l y ws rm Pc Qc XC mc ms free) (cw : vx_CVW R s args own C index y bytes maxL ret hh ws rm mc ms n) (hp : PreV s H C b Pc As)
    (hg : g.method = m) (hn : As.length = n) (hsize : g.locals.size = nL) (hstack : g.stack = As.reverse ++ .ref b :: rest) (hW : 2 * g.monitorRoom + (rest.map fun v => v.category).sum ≤ 8) (hdg : decode cc g.pc = .ok (.invokevirtual index, 3)) (hf : cells + mc ≤ R.cells ∧ slots + ms ≤ R.slots) :
    vx_Run p l e R s m args below meth c H locs cells slots mc ms g rest (Qc (Value.ref b :: As).toArray) XC free := by
  obtain ⟨⟨hrc, hrs, hfr, hlo, hws, hcw⟩, hcode, hini, hy, hlen, hl, hin, hse⟩ := cw
  have hK : vx_Back l R p e below s args y 3 8 (PreOf R mc ms Pc) (PostOf Qc mc ms free) (vx_Post XC mc ms free) := vx_backW (hh := hh) (bytes := bytes) (maxL := maxL) (ret := ret) hM hp.1 hrc hrs hfr hlo hws hcw (fun a' U hW => word_at hW (Or.inl (by first | rfl | simp [Cond.onTables, Cond.keeps, Cond.steady])) hini)
  obtain ⟨hx, hb, hml, ho, -⟩ := S
  obtain ⟨-, ⟨cellB, hcB, hoB, hclB⟩, hPc⟩ := hp
  intro T hT X
  rcases vx_callVX X hx (C := C) (hh := hh) (bytes := bytes) (maxL := maxL) (ret := ret) ho hl hin hse hcode hy hK (by rw [hT]; exact hcB) hoB hclB hg (hsize.trans hml.symm) (argsL := As) (rest := rest) (fun sig h => hn.trans (hlen sig h)) hstack hW (by rw [hb]; exact hdg)
    (fun vm₁ hW₁ => ⟨hf.1, hf.2, hPc (T.setVm vm₁) hT hW₁⟩) with ⟨v, vm₁, ⟨U', l2, c2, s2⟩, hW₁, X', ⟨g', mk, t, L, e1, e2, hq, h1, hL, h2, h3⟩, st⟩ | ⟨q, vm₁, ⟨U', l2, c2, s2⟩, hW₁, X', ⟨g', mk, t, L, E, ce, e1, e2, hq, hce, hcv, hcl, h1, hL, h2, h3⟩, st⟩
  · dsimp only [Pt.U, Pt.locs, Pt.cells, Pt.slots] at X' e1 e2 h1 h2 h3 st
    subst h1; subst h2; subst h3
    exact Or.inl ⟨v, (T.setVm vm₁).calling g' mk (Value.ref b :: As).toArray, t, U', L, hT, X', hL, e1, e2, hq, st⟩
  · dsimp only [Pt.U, Pt.locs, Pt.cells, Pt.slots] at X' e1 e2 h1 h2 h3 st hcl
    subst h1; subst h2; subst h3
    exact Or.inr ⟨q, (T.setVm vm₁).calling g' mk (Value.ref b :: As).toArray, t, U', L, E, ce, hT, X', hL, e1, e2, hq, hce, hcv, vx_cls hW₁ hcl, st⟩
theorem vx_runSX {hh : List (Nat × Nat × Nat × Nat)} (S : CallFix p m c cc nL s args Ts own) (hM : vx_Met l y ws rm Pc Qc XC mc ms free) (cw : vx_CSW R s args own index y bytes maxL ret hh ws rm mc ms n) (hp : PreS s H Pc As)
    (hg : g.method = m) (hn : As.length = n) (hsize : g.locals.size = nL) (hstack : g.stack = As.reverse ++ rest) (hW : 2 * g.monitorRoom + (rest.map fun v => v.category).sum ≤ 8) (hdg : decode cc g.pc = .ok (.invokestatic index, 3)) (hf : cells + mc ≤ R.cells ∧ slots + ms ≤ R.slots) :
    vx_Run p l e R s m args below meth c H locs cells slots mc ms g rest (Qc As.toArray) XC free := by
  obtain ⟨⟨hrc, hrs, hfr, hlo, hws, hcw⟩, hcode, hini, hy, hlen, hl, hstt⟩ := cw
  have hK : vx_Back l R p e below s args y 3 8 (PreOf R mc ms Pc) (PostOf Qc mc ms free) (vx_Post XC mc ms free) := vx_backW (hh := hh) (bytes := bytes) (maxL := maxL) (ret := ret) hM hp.1 hrc hrs hfr hlo hws hcw (fun a' U hW => word_at hW (Or.inl (by first | rfl | simp [Cond.onTables, Cond.keeps, Cond.steady])) hini)
  obtain ⟨hx, hb, hml, ho, -⟩ := S
  intro T hT X
  rcases vx_callSX X hx (hh := hh) (bytes := bytes) (maxL := maxL) (ret := ret) ho hl hstt hini hcode hy hK hg (hsize.trans hml.symm) (argsL := As) (rest := rest) (fun sig h => hn.trans (hlen sig h)) hstack hW (by rw [hb]; exact hdg)
    (fun vm₁ hW₁ => ⟨hf.1, hf.2, hp.2 (T.setVm vm₁) hT hW₁⟩) with ⟨v, vm₁, ⟨U', l2, c2, s2⟩, hW₁, X', ⟨g', mk, t, L, e1, e2, hq, h1, hL, h2, h3⟩, st⟩ | ⟨q, vm₁, ⟨U', l2, c2, s2⟩, hW₁, X', ⟨g', mk, t, L, E, ce, e1, e2, hq, hce, hcv, hcl, h1, hL, h2, h3⟩, st⟩
  · dsimp only [Pt.U, Pt.locs, Pt.cells, Pt.slots] at X' e1 e2 h1 h2 h3 st
    subst h1; subst h2; subst h3
    exact Or.inl ⟨v, (T.setVm vm₁).calling g' mk As.toArray, t, U', L, hT, X', hL, e1, e2, hq, st⟩
  · dsimp only [Pt.U, Pt.locs, Pt.cells, Pt.slots] at X' e1 e2 h1 h2 h3 st hcl
    subst h1; subst h2; subst h3
    exact Or.inr ⟨q, (T.setVm vm₁).calling g' mk As.toArray, t, U', L, E, ce, hT, X', hL, e1, e2, hq, hce, hcv, vx_cls hW₁ hcl, st⟩
end
end VXH
theorem vx_ofWH {l : Launch} {y : MethodName} {ws ws' : List Cond} {rm : Room} {Pc : Array Value → State → Prop} {Qc : Array Value → State → Outcome → State → Prop} {XC : String → State → State → Prop} {mc ms : Nat} {free : Addr → Prop} {cc : ByteArray} {maxL : Nat} {ret : Option FieldType} {hh : List (Nat × Nat × Nat × Nat)}
    (hy : plainName y.cls = true) (hw : ws = Cond.codeWith y cc maxL ret hh :: ws')
    (body : ∀ p e s m args below meth c s₁, BodyLoose p l y (headSpec ws rm) cc maxL ret e s m args below meth c s₁ → c.maxLocals = maxL → Pc args s →
      W p l e (headSpec ws rm).room s m args below meth c s.heap [] 0 0 (vx_MQ below Qc XC args s mc ms free) (entryFrame m args maxL)) : vx_Met l y ws rm Pc Qc XC mc ms free := by
  refine MetFree.of_bodyS (code := cc) (maxLocals := maxL) (ret := ret) hy ?_ ?_
  · intro args s m h hn
    obtain ⟨m9, meth, c, hn9, h1, h2, h3, h4, -, h5, h6, -⟩ := Cond.codeWith_spec (atoms_spec (ws := ws) h _ (by rw [hw]; exact List.mem_cons_self))
    cases hn.symm.trans hn9
    exact ⟨meth, c, h1, h2, h3, h4, h5, h6⟩
  · intro p e s m args below meth c s₁ B hml hP _
    have hh0 : s₁.heap = s.heap := by rw [B.state]; rfl
    obtain ⟨t, a1, o, b1, b2, b3⟩ := body p e s m args below meth c s₁ B hml hP s₁ hh0 (Stand.of_body B)
    exact ⟨t, o, a1, b1, b2, b3⟩
/-! ===== END ===== -/
end
section
/-! ===== BEGIN printed: names, fields, word lists, decode rows ===== -/
def RX0 : String := "QueryLoops$Answer"
def TX0 : u_T := fun k => match k with
  | 0 => ("QueryLoops$Answer", "numbers", "[J", true)
  | 1 => ("QueryLoops$Answer", "unknowns", "[Z", true)
  | 2 => ("QueryLoops$Answer", "width", "I", false)
  | _ => ("QueryLoops$Answer", "height", "I", false)
def tyX0 : Nat → FieldType := fun k => match k with
  | 0 => .array .long
  | 1 => .array .boolean
  | 2 => .int
  | _ => .int
abbrev wsX00 : List Cond := u_ws RX0 TX0 4
theorem nmX0 : ∀ a, a < 4 → ∀ b, b < 4 → a ≠ b → (TX0 a).2.1 ≠ (TX0 b).2.1 := by decide +kernel
theorem tyX0_ok : ∀ k, k < 4 → parseFieldDescriptor (TX0 k).2.2.1 = some (tyX0 k) := by decide +kernel
abbrev cX0_init : ByteArray := prog_2_method_1_code
def yX0_init : MethodName := ⟨RX0, "<init>", "()V"⟩
abbrev cX0_clear : ByteArray := prog_2_method_2_code
def yX0_clear : MethodName := ⟨RX0, "clear", "(I)V"⟩
abbrev cX0_height : ByteArray := prog_2_method_3_code
def yX0_height : MethodName := ⟨RX0, "height", "()I"⟩
abbrev cX0_append : ByteArray := prog_2_method_4_code
def yX0_append : MethodName := ⟨RX0, "append", "()I"⟩
abbrev cX0_has : ByteArray := prog_2_method_5_code
def yX0_has : MethodName := ⟨RX0, "has", "(II)Z"⟩
abbrev cX0_unknownAt : ByteArray := prog_2_method_6_code
def yX0_unknownAt : MethodName := ⟨RX0, "unknownAt", "(II)Z"⟩
abbrev cX0_numberAt : ByteArray := prog_2_method_7_code
def yX0_numberAt : MethodName := ⟨RX0, "numberAt", "(II)J"⟩
abbrev cX0_set : ByteArray := prog_2_method_8_code
def yX0_set : MethodName := ⟨RX0, "set", "(IIJZ)V"⟩
def RX1 : String := "QueryLoops$Checker"
def TX1 : u_T := fun k => match k with
  | 0 => ("QueryLoops$Checker", "query", "LQueryLoops$Query;", true)
  | 1 => ("QueryLoops$Checker", "operands", "LQueryLoops$Operands;", true)
  | 2 => ("QueryLoops$Checker", "tables", "LQueryLoops$Tables;", true)
  | _ => ("QueryLoops$Checker", "ill", "I", false)
def tyX1 : Nat → FieldType := fun k => match k with
  | 0 => .object "QueryLoops$Query"
  | 1 => .object "QueryLoops$Operands"
  | 2 => .object "QueryLoops$Tables"
  | _ => .int
abbrev wsX10 : List Cond := u_ws RX1 TX1 4
theorem nmX1 : ∀ a, a < 4 → ∀ b, b < 4 → a ≠ b → (TX1 a).2.1 ≠ (TX1 b).2.1 := by decide +kernel
theorem tyX1_ok : ∀ k, k < 4 → parseFieldDescriptor (TX1 k).2.2.1 = some (tyX1 k) := by decide +kernel
abbrev cX1_init : ByteArray := prog_3_method_1_code
def yX1_init : MethodName := ⟨RX1, "<init>", "(LQueryLoops$Query;LQueryLoops$Tables;)V"⟩
abbrev cX1_firstIll : ByteArray := prog_3_method_2_code
def yX1_firstIll : MethodName := ⟨RX1, "firstIll", "()I"⟩
abbrev cX1_noteIll : ByteArray := prog_3_method_3_code
def yX1_noteIll : MethodName := ⟨RX1, "noteIll", "(I)V"⟩
abbrev cX1_checkItems : ByteArray := prog_3_method_4_code
def yX1_checkItems : MethodName := ⟨RX1, "checkItems", "()V"⟩
abbrev cX1_checkColumns : ByteArray := prog_3_method_5_code
def yX1_checkColumns : MethodName := ⟨RX1, "checkColumns", "()V"⟩
abbrev cX1_checkOuts : ByteArray := prog_3_method_6_code
def yX1_checkOuts : MethodName := ⟨RX1, "checkOuts", "()V"⟩
def RX2 : String := "QueryLoops$Loops"
def TX2 : u_T := fun k => match k with
  | 0 => ("QueryLoops$Loops", "query", "LQueryLoops$Query;", true)
  | 1 => ("QueryLoops$Loops", "operands", "LQueryLoops$Operands;", true)
  | 2 => ("QueryLoops$Loops", "steps", "LQueryLoops$Steps;", true)
  | 3 => ("QueryLoops$Loops", "tables", "LQueryLoops$Tables;", true)
  | 4 => ("QueryLoops$Loops", "answer", "LQueryLoops$Answer;", true)
  | 5 => ("QueryLoops$Loops", "keyNumbers", "[I", true)
  | 6 => ("QueryLoops$Loops", "keyUnknowns", "[Z", true)
  | 7 => ("QueryLoops$Loops", "gathers", "Z", false)
  | _ => ("QueryLoops$Loops", "seen", "I", false)
def tyX2 : Nat → FieldType := fun k => match k with
  | 0 => .object "QueryLoops$Query"
  | 1 => .object "QueryLoops$Operands"
  | 2 => .object "QueryLoops$Steps"
  | 3 => .object "QueryLoops$Tables"
  | 4 => .object "QueryLoops$Answer"
  | 5 => .array .int
  | 6 => .array .boolean
  | 7 => .boolean
  | _ => .int
abbrev wsX20 : List Cond := u_ws RX2 TX2 9
theorem nmX2 : ∀ a, a < 9 → ∀ b, b < 9 → a ≠ b → (TX2 a).2.1 ≠ (TX2 b).2.1 := by decide +kernel
theorem tyX2_ok : ∀ k, k < 9 → parseFieldDescriptor (TX2 k).2.2.1 = some (tyX2 k) := by decide +kernel
abbrev cX2_init : ByteArray := prog_4_method_1_code
def yX2_init : MethodName := ⟨RX2, "<init>", "(LQueryLoops$Query;LQueryLoops$Tables;LQueryLoops$Answer;)V"⟩
abbrev cX2_seen : ByteArray := prog_4_method_2_code
def yX2_seen : MethodName := ⟨RX2, "seen", "()I"⟩
abbrev cX2_goThroughAll : ByteArray := prog_4_method_3_code
def yX2_goThroughAll : MethodName := ⟨RX2, "goThroughAll", "()Z"⟩
abbrev cX2_goThrough : ByteArray := prog_4_method_4_code
def yX2_goThrough : MethodName := ⟨RX2, "goThrough", "(I)Z"⟩
abbrev cX2_goOn : ByteArray := prog_4_method_5_code
def yX2_goOn : MethodName := ⟨RX2, "goOn", "(I)Z"⟩
abbrev cX2_gather : ByteArray := prog_4_method_6_code
def yX2_gather : MethodName := ⟨RX2, "gather", "()Z"⟩
abbrev cX2_lineOfGroup : ByteArray := prog_4_method_7_code
def yX2_lineOfGroup : MethodName := ⟨RX2, "lineOfGroup", "()I"⟩
abbrev cX2_isOfGroup : ByteArray := prog_4_method_8_code
def yX2_isOfGroup : MethodName := ⟨RX2, "isOfGroup", "(I)Z"⟩
abbrev cX2_keyOf : ByteArray := prog_4_method_9_code
def yX2_keyOf : MethodName := ⟨RX2, "keyOf", "(II)I"⟩
abbrev cX2_begin : ByteArray := prog_4_method_10_code
def yX2_begin : MethodName := ⟨RX2, "begin", "(I)V"⟩
abbrev cX2_tally : ByteArray := prog_4_method_11_code
def yX2_tally : MethodName := ⟨RX2, "tally", "(IIII)V"⟩
abbrev cX2_joined : ByteArray := prog_4_method_12_code
def yX2_joined : MethodName := ⟨RX2, "joined", "(IJJ)J"⟩
def RX3 : String := "QueryLoops$Operands"
def TX3 : u_T := fun k => match k with
  | 0 => ("QueryLoops$Operands", "places", "[I", true)
  | 1 => ("QueryLoops$Operands", "aliases", "[I", true)
  | 2 => ("QueryLoops$Operands", "letters", "[I", true)
  | 3 => ("QueryLoops$Operands", "lastItems", "[I", true)
  | 4 => ("QueryLoops$Operands", "items", "[I", true)
  | 5 => ("QueryLoops$Operands", "numbers", "[I", true)
  | 6 => ("QueryLoops$Operands", "unknowns", "[Z", true)
  | _ => ("QueryLoops$Operands", "count", "I", false)
def tyX3 : Nat → FieldType := fun k => match k with
  | 0 => .array .int
  | 1 => .array .int
  | 2 => .array .int
  | 3 => .array .int
  | 4 => .array .int
  | 5 => .array .int
  | 6 => .array .boolean
  | _ => .int
abbrev wsX30 : List Cond := u_ws RX3 TX3 8
theorem nmX3 : ∀ a, a < 8 → ∀ b, b < 8 → a ≠ b → (TX3 a).2.1 ≠ (TX3 b).2.1 := by decide +kernel
theorem tyX3_ok : ∀ k, k < 8 → parseFieldDescriptor (TX3 k).2.2.1 = some (tyX3 k) := by decide +kernel
abbrev cX3_init : ByteArray := prog_5_method_1_code
def yX3_init : MethodName := ⟨RX3, "<init>", "()V"⟩
abbrev cX3_clear : ByteArray := prog_5_method_2_code
def yX3_clear : MethodName := ⟨RX3, "clear", "()V"⟩
abbrev cX3_count : ByteArray := prog_5_method_3_code
def yX3_count : MethodName := ⟨RX3, "count", "()I"⟩
abbrev cX3_addColumn : ByteArray := prog_5_method_4_code
def yX3_addColumn : MethodName := ⟨RX3, "addColumn", "(IIII)I"⟩
abbrev cX3_addConstant : ByteArray := prog_5_method_5_code
def yX3_addConstant : MethodName := ⟨RX3, "addConstant", "(IZ)I"⟩
abbrev cX3_isColumn : ByteArray := prog_5_method_6_code
def yX3_isColumn : MethodName := ⟨RX3, "isColumn", "(I)Z"⟩
abbrev cX3_placeOf : ByteArray := prog_5_method_7_code
def yX3_placeOf : MethodName := ⟨RX3, "placeOf", "(I)I"⟩
abbrev cX3_aliasOf : ByteArray := prog_5_method_8_code
def yX3_aliasOf : MethodName := ⟨RX3, "aliasOf", "(I)I"⟩
abbrev cX3_letterOf : ByteArray := prog_5_method_9_code
def yX3_letterOf : MethodName := ⟨RX3, "letterOf", "(I)I"⟩
abbrev cX3_lastItemOf : ByteArray := prog_5_method_10_code
def yX3_lastItemOf : MethodName := ⟨RX3, "lastItemOf", "(I)I"⟩
abbrev cX3_itemOf : ByteArray := prog_5_method_11_code
def yX3_itemOf : MethodName := ⟨RX3, "itemOf", "(I)I"⟩
abbrev cX3_setItem : ByteArray := prog_5_method_12_code
def yX3_setItem : MethodName := ⟨RX3, "setItem", "(II)V"⟩
abbrev cX3_sameColumn : ByteArray := prog_5_method_13_code
def yX3_sameColumn : MethodName := ⟨RX3, "sameColumn", "(II)Z"⟩
abbrev cX3_numberOf : ByteArray := prog_5_method_14_code
def yX3_numberOf : MethodName := ⟨RX3, "numberOf", "(I)I"⟩
abbrev cX3_unknownOf : ByteArray := prog_5_method_15_code
def yX3_unknownOf : MethodName := ⟨RX3, "unknownOf", "(I)Z"⟩
abbrev cX3_load : ByteArray := prog_5_method_16_code
def yX3_load : MethodName := ⟨RX3, "load", "(ILQueryLoops$Tables;II)V"⟩
def RX4 : String := "QueryLoops$Parser"
def TX4 : u_T := fun k => match k with
  | 0 => ("QueryLoops$Parser", "tokens", "LQueryLoops$Tokens;", true)
  | 1 => ("QueryLoops$Parser", "query", "LQueryLoops$Query;", true)
  | 2 => ("QueryLoops$Parser", "operands", "LQueryLoops$Operands;", true)
  | 3 => ("QueryLoops$Parser", "steps", "LQueryLoops$Steps;", true)
  | _ => ("QueryLoops$Parser", "lastItem", "I", false)
def tyX4 : Nat → FieldType := fun k => match k with
  | 0 => .object "QueryLoops$Tokens"
  | 1 => .object "QueryLoops$Query"
  | 2 => .object "QueryLoops$Operands"
  | 3 => .object "QueryLoops$Steps"
  | _ => .int
abbrev wsX40 : List Cond := u_ws RX4 TX4 5
theorem nmX4 : ∀ a, a < 5 → ∀ b, b < 5 → a ≠ b → (TX4 a).2.1 ≠ (TX4 b).2.1 := by decide +kernel
theorem tyX4_ok : ∀ k, k < 5 → parseFieldDescriptor (TX4 k).2.2.1 = some (tyX4 k) := by decide +kernel
abbrev cX4_init : ByteArray := prog_6_method_1_code
def yX4_init : MethodName := ⟨RX4, "<init>", "(LQueryLoops$Tokens;LQueryLoops$Query;)V"⟩
abbrev cX4_readQuery : ByteArray := prog_6_method_2_code
def yX4_readQuery : MethodName := ⟨RX4, "readQuery", "()Z"⟩
abbrev cX4_readOuts : ByteArray := prog_6_method_3_code
def yX4_readOuts : MethodName := ⟨RX4, "readOuts", "()Z"⟩
abbrev cX4_readOut : ByteArray := prog_6_method_4_code
def yX4_readOut : MethodName := ⟨RX4, "readOut", "()Z"⟩
abbrev cX4_readItem : ByteArray := prog_6_method_5_code
def yX4_readItem : MethodName := ⟨RX4, "readItem", "(Z)Z"⟩
abbrev cX4_readJoined : ByteArray := prog_6_method_6_code
def yX4_readJoined : MethodName := ⟨RX4, "readJoined", "()Z"⟩
abbrev cX4_readWhere : ByteArray := prog_6_method_7_code
def yX4_readWhere : MethodName := ⟨RX4, "readWhere", "()Z"⟩
abbrev cX4_readGroup : ByteArray := prog_6_method_8_code
def yX4_readGroup : MethodName := ⟨RX4, "readGroup", "()Z"⟩
abbrev cX4_readCondition : ByteArray := prog_6_method_9_code
def yX4_readCondition : MethodName := ⟨RX4, "readCondition", "(I)Z"⟩
abbrev cX4_readConjunction : ByteArray := prog_6_method_10_code
def yX4_readConjunction : MethodName := ⟨RX4, "readConjunction", "(I)Z"⟩
abbrev cX4_readPart : ByteArray := prog_6_method_11_code
def yX4_readPart : MethodName := ⟨RX4, "readPart", "(I)Z"⟩
abbrev cX4_notePart : ByteArray := prog_6_method_12_code
def yX4_notePart : MethodName := ⟨RX4, "notePart", "(III)V"⟩
abbrev cX4_readTest : ByteArray := prog_6_method_13_code
def yX4_readTest : MethodName := ⟨RX4, "readTest", "(I)Z"⟩
abbrev cX4_readComparison : ByteArray := prog_6_method_14_code
def yX4_readComparison : MethodName := ⟨RX4, "readComparison", "()Z"⟩
abbrev cX4_readOperand : ByteArray := prog_6_method_15_code
def yX4_readOperand : MethodName := ⟨RX4, "readOperand", "()I"⟩
abbrev cX4_readColumn : ByteArray := prog_6_method_16_code
def yX4_readColumn : MethodName := ⟨RX4, "readColumn", "()I"⟩
abbrev cX4_isAlias : ByteArray := prog_6_method_17_code
def yX4_isAlias : MethodName := ⟨RX4, "isAlias", "(I)Z"⟩
def RX5 : String := "QueryLoops$Query"
def TX5 : u_T := fun k => match k with
  | 0 => ("QueryLoops$Query", "operands", "LQueryLoops$Operands;", true)
  | 1 => ("QueryLoops$Query", "steps", "LQueryLoops$Steps;", true)
  | 2 => ("QueryLoops$Query", "itemTables", "[I", true)
  | 3 => ("QueryLoops$Query", "tablePlaces", "[I", true)
  | 4 => ("QueryLoops$Query", "aliases", "[I", true)
  | 5 => ("QueryLoops$Query", "aliasPlaces", "[I", true)
  | 6 => ("QueryLoops$Query", "lefts", "[Z", true)
  | 7 => ("QueryLoops$Query", "items", "I", false)
  | 8 => ("QueryLoops$Query", "outKinds", "[I", true)
  | 9 => ("QueryLoops$Query", "outColumns", "[I", true)
  | 10 => ("QueryLoops$Query", "outs", "I", false)
  | 11 => ("QueryLoops$Query", "groupColumns", "[I", true)
  | _ => ("QueryLoops$Query", "grouped", "I", false)
def tyX5 : Nat → FieldType := fun k => match k with
  | 0 => .object "QueryLoops$Operands"
  | 1 => .object "QueryLoops$Steps"
  | 2 => .array .int
  | 3 => .array .int
  | 4 => .array .int
  | 5 => .array .int
  | 6 => .array .boolean
  | 7 => .int
  | 8 => .array .int
  | 9 => .array .int
  | 10 => .int
  | 11 => .array .int
  | _ => .int
abbrev wsX50 : List Cond := u_ws RX5 TX5 13
theorem nmX5 : ∀ a, a < 13 → ∀ b, b < 13 → a ≠ b → (TX5 a).2.1 ≠ (TX5 b).2.1 := by decide +kernel
theorem tyX5_ok : ∀ k, k < 13 → parseFieldDescriptor (TX5 k).2.2.1 = some (tyX5 k) := by decide +kernel
abbrev cX5_init : ByteArray := prog_7_method_1_code
def yX5_init : MethodName := ⟨RX5, "<init>", "()V"⟩
abbrev cX5_clear : ByteArray := prog_7_method_2_code
def yX5_clear : MethodName := ⟨RX5, "clear", "()V"⟩
abbrev cX5_settle : ByteArray := prog_7_method_3_code
def yX5_settle : MethodName := ⟨RX5, "settle", "()V"⟩
abbrev cX5_operands : ByteArray := prog_7_method_4_code
def yX5_operands : MethodName := ⟨RX5, "operands", "()LQueryLoops$Operands;"⟩
abbrev cX5_steps : ByteArray := prog_7_method_5_code
def yX5_steps : MethodName := ⟨RX5, "steps", "()LQueryLoops$Steps;"⟩
abbrev cX5_addItem : ByteArray := prog_7_method_6_code
def yX5_addItem : MethodName := ⟨RX5, "addItem", "(IIIIZ)V"⟩
abbrev cX5_addOut : ByteArray := prog_7_method_7_code
def yX5_addOut : MethodName := ⟨RX5, "addOut", "(II)V"⟩
abbrev cX5_addGrouped : ByteArray := prog_7_method_8_code
def yX5_addGrouped : MethodName := ⟨RX5, "addGrouped", "(I)V"⟩
abbrev cX5_itemCount : ByteArray := prog_7_method_9_code
def yX5_itemCount : MethodName := ⟨RX5, "itemCount", "()I"⟩
abbrev cX5_tableOf : ByteArray := prog_7_method_10_code
def yX5_tableOf : MethodName := ⟨RX5, "tableOf", "(I)I"⟩
abbrev cX5_tablePlaceOf : ByteArray := prog_7_method_11_code
def yX5_tablePlaceOf : MethodName := ⟨RX5, "tablePlaceOf", "(I)I"⟩
abbrev cX5_aliasOf : ByteArray := prog_7_method_12_code
def yX5_aliasOf : MethodName := ⟨RX5, "aliasOf", "(I)I"⟩
abbrev cX5_aliasPlaceOf : ByteArray := prog_7_method_13_code
def yX5_aliasPlaceOf : MethodName := ⟨RX5, "aliasPlaceOf", "(I)I"⟩
abbrev cX5_isLeft : ByteArray := prog_7_method_14_code
def yX5_isLeft : MethodName := ⟨RX5, "isLeft", "(I)Z"⟩
abbrev cX5_itemWith : ByteArray := prog_7_method_15_code
def yX5_itemWith : MethodName := ⟨RX5, "itemWith", "(I)I"⟩
abbrev cX5_uses : ByteArray := prog_7_method_16_code
def yX5_uses : MethodName := ⟨RX5, "uses", "(I)Z"⟩
abbrev cX5_outCount : ByteArray := prog_7_method_17_code
def yX5_outCount : MethodName := ⟨RX5, "outCount", "()I"⟩
abbrev cX5_outKind : ByteArray := prog_7_method_18_code
def yX5_outKind : MethodName := ⟨RX5, "outKind", "(I)I"⟩
abbrev cX5_outColumn : ByteArray := prog_7_method_19_code
def yX5_outColumn : MethodName := ⟨RX5, "outColumn", "(I)I"⟩
abbrev cX5_groupedCount : ByteArray := prog_7_method_20_code
def yX5_groupedCount : MethodName := ⟨RX5, "groupedCount", "()I"⟩
abbrev cX5_groupColumn : ByteArray := prog_7_method_21_code
def yX5_groupColumn : MethodName := ⟨RX5, "groupColumn", "(I)I"⟩
abbrev cX5_groupsBy : ByteArray := prog_7_method_22_code
def yX5_groupsBy : MethodName := ⟨RX5, "groupsBy", "(I)Z"⟩
abbrev cX5_gathers : ByteArray := prog_7_method_23_code
def yX5_gathers : MethodName := ⟨RX5, "gathers", "()Z"⟩
def RX6 : String := "QueryLoops$Steps"
def TX6 : u_T := fun k => match k with
  | 0 => ("QueryLoops$Steps", "operands", "LQueryLoops$Operands;", true)
  | 1 => ("QueryLoops$Steps", "kinds", "[I", true)
  | 2 => ("QueryLoops$Steps", "lefts", "[I", true)
  | 3 => ("QueryLoops$Steps", "rights", "[I", true)
  | 4 => ("QueryLoops$Steps", "count", "I", false)
  | 5 => ("QueryLoops$Steps", "partBegins", "[I", true)
  | 6 => ("QueryLoops$Steps", "partEnds", "[I", true)
  | 7 => ("QueryLoops$Steps", "partItems", "[I", true)
  | 8 => ("QueryLoops$Steps", "partWheres", "[Z", true)
  | 9 => ("QueryLoops$Steps", "parts", "I", false)
  | _ => ("QueryLoops$Steps", "truths", "[I", true)
def tyX6 : Nat → FieldType := fun k => match k with
  | 0 => .object "QueryLoops$Operands"
  | 1 => .array .int
  | 2 => .array .int
  | 3 => .array .int
  | 4 => .int
  | 5 => .array .int
  | 6 => .array .int
  | 7 => .array .int
  | 8 => .array .boolean
  | 9 => .int
  | _ => .array .int
abbrev wsX60 : List Cond := u_ws RX6 TX6 11
theorem nmX6 : ∀ a, a < 11 → ∀ b, b < 11 → a ≠ b → (TX6 a).2.1 ≠ (TX6 b).2.1 := by decide +kernel
theorem tyX6_ok : ∀ k, k < 11 → parseFieldDescriptor (TX6 k).2.2.1 = some (tyX6 k) := by decide +kernel
abbrev cX6_init : ByteArray := prog_8_method_1_code
def yX6_init : MethodName := ⟨RX6, "<init>", "(LQueryLoops$Operands;)V"⟩
abbrev cX6_clear : ByteArray := prog_8_method_2_code
def yX6_clear : MethodName := ⟨RX6, "clear", "()V"⟩
abbrev cX6_count : ByteArray := prog_8_method_3_code
def yX6_count : MethodName := ⟨RX6, "count", "()I"⟩
abbrev cX6_partCount : ByteArray := prog_8_method_4_code
def yX6_partCount : MethodName := ⟨RX6, "partCount", "()I"⟩
abbrev cX6_add : ByteArray := prog_8_method_5_code
def yX6_add : MethodName := ⟨RX6, "add", "(III)V"⟩
abbrev cX6_addPart : ByteArray := prog_8_method_6_code
def yX6_addPart : MethodName := ⟨RX6, "addPart", "(IIIZ)V"⟩
abbrev cX6_settle : ByteArray := prog_8_method_7_code
def yX6_settle : MethodName := ⟨RX6, "settle", "()V"⟩
abbrev cX6_lastItemIn : ByteArray := prog_8_method_8_code
def yX6_lastItemIn : MethodName := ⟨RX6, "lastItemIn", "(II)I"⟩
abbrev cX6_allTrue : ByteArray := prog_8_method_9_code
def yX6_allTrue : MethodName := ⟨RX6, "allTrue", "(IZ)Z"⟩
abbrev cX6_truthOf : ByteArray := prog_8_method_10_code
def yX6_truthOf : MethodName := ⟨RX6, "truthOf", "(II)I"⟩
abbrev cX6_turnTop : ByteArray := prog_8_method_11_code
def yX6_turnTop : MethodName := ⟨RX6, "turnTop", "(I)V"⟩
abbrev cX6_joinTop : ByteArray := prog_8_method_12_code
def yX6_joinTop : MethodName := ⟨RX6, "joinTop", "(II)I"⟩
abbrev cX6_testOf : ByteArray := prog_8_method_13_code
def yX6_testOf : MethodName := ⟨RX6, "testOf", "(III)I"⟩
def RX7 : String := "QueryLoops$Tables"
def TX7 : u_T := fun k => match k with
  | 0 => ("QueryLoops$Tables", "widths", "[I", true)
  | 1 => ("QueryLoops$Tables", "heights", "[I", true)
  | 2 => ("QueryLoops$Tables", "numbers", "[I", true)
  | _ => ("QueryLoops$Tables", "unknowns", "[Z", true)
def tyX7 : Nat → FieldType := fun k => match k with
  | 0 => .array .int
  | 1 => .array .int
  | 2 => .array .int
  | _ => .array .boolean
abbrev wsX70 : List Cond := u_ws RX7 TX7 4
theorem nmX7 : ∀ a, a < 4 → ∀ b, b < 4 → a ≠ b → (TX7 a).2.1 ≠ (TX7 b).2.1 := by decide +kernel
theorem tyX7_ok : ∀ k, k < 4 → parseFieldDescriptor (TX7 k).2.2.1 = some (tyX7 k) := by decide +kernel
abbrev cX7_init : ByteArray := prog_9_method_1_code
def yX7_init : MethodName := ⟨RX7, "<init>", "()V"⟩
abbrev cX7_width : ByteArray := prog_9_method_2_code
def yX7_width : MethodName := ⟨RX7, "width", "(I)I"⟩
abbrev cX7_height : ByteArray := prog_9_method_3_code
def yX7_height : MethodName := ⟨RX7, "height", "(I)I"⟩
abbrev cX7_make : ByteArray := prog_9_method_4_code
def yX7_make : MethodName := ⟨RX7, "make", "(II)Z"⟩
abbrev cX7_append : ByteArray := prog_9_method_5_code
def yX7_append : MethodName := ⟨RX7, "append", "(ILQueryLoops$Values;)V"⟩
abbrev cX7_dropFirst : ByteArray := prog_9_method_6_code
def yX7_dropFirst : MethodName := ⟨RX7, "dropFirst", "(I)I"⟩
abbrev cX7_numberAt : ByteArray := prog_9_method_7_code
def yX7_numberAt : MethodName := ⟨RX7, "numberAt", "(III)I"⟩
abbrev cX7_unknownAt : ByteArray := prog_9_method_8_code
def yX7_unknownAt : MethodName := ⟨RX7, "unknownAt", "(III)Z"⟩
abbrev cX7_cellOf : ByteArray := prog_9_method_9_code
def yX7_cellOf : MethodName := ⟨RX7, "cellOf", "(III)I"⟩
def RX8 : String := "QueryLoops$Text"
def TX8 : u_T := fun k => match k with
  | 0 => ("QueryLoops$Text", "codes", "[C", true)
  | _ => ("QueryLoops$Text", "length", "I", false)
def tyX8 : Nat → FieldType := fun k => match k with
  | 0 => .array .char
  | _ => .int
abbrev wsX80 : List Cond := u_ws RX8 TX8 2
theorem nmX8 : ∀ a, a < 2 → ∀ b, b < 2 → a ≠ b → (TX8 a).2.1 ≠ (TX8 b).2.1 := by decide +kernel
theorem tyX8_ok : ∀ k, k < 2 → parseFieldDescriptor (TX8 k).2.2.1 = some (tyX8 k) := by decide +kernel
abbrev cX8_init : ByteArray := prog_10_method_1_code
def yX8_init : MethodName := ⟨RX8, "<init>", "()V"⟩
abbrev cX8_append : ByteArray := prog_10_method_2_code
def yX8_append : MethodName := ⟨RX8, "append", "(C)Z"⟩
abbrev cX8_clear : ByteArray := prog_10_method_3_code
def yX8_clear : MethodName := ⟨RX8, "clear", "()V"⟩
abbrev cX8_splitInto : ByteArray := prog_10_method_4_code
def yX8_splitInto : MethodName := ⟨RX8, "splitInto", "(LQueryLoops$Tokens;)V"⟩
abbrev cX8_codeAt : ByteArray := prog_10_method_5_code
def yX8_codeAt : MethodName := ⟨RX8, "codeAt", "(I)C"⟩
abbrev cX8_readToken : ByteArray := prog_10_method_6_code
def yX8_readToken : MethodName := ⟨RX8, "readToken", "(ILQueryLoops$Tokens;)I"⟩
abbrev cX8_endOfWord : ByteArray := prog_10_method_7_code
def yX8_endOfWord : MethodName := ⟨RX8, "endOfWord", "(I)I"⟩
abbrev cX8_readNumeral : ByteArray := prog_10_method_8_code
def yX8_readNumeral : MethodName := ⟨RX8, "readNumeral", "(ILQueryLoops$Tokens;)I"⟩
abbrev cX8_wordKind : ByteArray := prog_10_method_9_code
def yX8_wordKind : MethodName := ⟨RX8, "wordKind", "(II)I"⟩
abbrev cX8_spells : ByteArray := prog_10_method_10_code
def yX8_spells : MethodName := ⟨RX8, "spells", "(IILjava/lang/String;)Z"⟩
abbrev cX8_isSmall : ByteArray := prog_10_method_11_code
def yX8_isSmall : MethodName := ⟨RX8, "isSmall", "(C)Z"⟩
abbrev cX8_isCapital : ByteArray := prog_10_method_12_code
def yX8_isCapital : MethodName := ⟨RX8, "isCapital", "(C)Z"⟩
abbrev cX8_isDigit : ByteArray := prog_10_method_13_code
def yX8_isDigit : MethodName := ⟨RX8, "isDigit", "(C)Z"⟩
abbrev cX8_isSign : ByteArray := prog_10_method_14_code
def yX8_isSign : MethodName := ⟨RX8, "isSign", "(C)Z"⟩
def RX9 : String := "QueryLoops$Tokens"
def TX9 : u_T := fun k => match k with
  | 0 => ("QueryLoops$Tokens", "kinds", "[I", true)
  | 1 => ("QueryLoops$Tokens", "places", "[I", true)
  | 2 => ("QueryLoops$Tokens", "numbers", "[I", true)
  | 3 => ("QueryLoops$Tokens", "count", "I", false)
  | _ => ("QueryLoops$Tokens", "next", "I", false)
def tyX9 : Nat → FieldType := fun k => match k with
  | 0 => .array .int
  | 1 => .array .int
  | 2 => .array .int
  | 3 => .int
  | _ => .int
abbrev wsX90 : List Cond := u_ws RX9 TX9 5
theorem nmX9 : ∀ a, a < 5 → ∀ b, b < 5 → a ≠ b → (TX9 a).2.1 ≠ (TX9 b).2.1 := by decide +kernel
theorem tyX9_ok : ∀ k, k < 5 → parseFieldDescriptor (TX9 k).2.2.1 = some (tyX9 k) := by decide +kernel
abbrev cX9_init : ByteArray := prog_11_method_1_code
def yX9_init : MethodName := ⟨RX9, "<init>", "()V"⟩
abbrev cX9_clear : ByteArray := prog_11_method_2_code
def yX9_clear : MethodName := ⟨RX9, "clear", "()V"⟩
abbrev cX9_add : ByteArray := prog_11_method_3_code
def yX9_add : MethodName := ⟨RX9, "add", "(III)V"⟩
abbrev cX9_nextKind : ByteArray := prog_11_method_4_code
def yX9_nextKind : MethodName := ⟨RX9, "nextKind", "()I"⟩
abbrev cX9_nextPlace : ByteArray := prog_11_method_5_code
def yX9_nextPlace : MethodName := ⟨RX9, "nextPlace", "()I"⟩
abbrev cX9_nextNumber : ByteArray := prog_11_method_6_code
def yX9_nextNumber : MethodName := ⟨RX9, "nextNumber", "()I"⟩
abbrev cX9_advance : ByteArray := prog_11_method_7_code
def yX9_advance : MethodName := ⟨RX9, "advance", "()V"⟩
abbrev cX9_take : ByteArray := prog_11_method_8_code
def yX9_take : MethodName := ⟨RX9, "take", "(I)Z"⟩
def RX10 : String := "QueryLoops$Values"
def TX10 : u_T := fun k => match k with
  | 0 => ("QueryLoops$Values", "numbers", "[I", true)
  | 1 => ("QueryLoops$Values", "unknowns", "[Z", true)
  | _ => ("QueryLoops$Values", "size", "I", false)
def tyX10 : Nat → FieldType := fun k => match k with
  | 0 => .array .int
  | 1 => .array .boolean
  | _ => .int
abbrev wsX100 : List Cond := u_ws RX10 TX10 3
theorem nmX10 : ∀ a, a < 3 → ∀ b, b < 3 → a ≠ b → (TX10 a).2.1 ≠ (TX10 b).2.1 := by decide +kernel
theorem tyX10_ok : ∀ k, k < 3 → parseFieldDescriptor (TX10 k).2.2.1 = some (tyX10 k) := by decide +kernel
abbrev cX10_init : ByteArray := prog_12_method_1_code
def yX10_init : MethodName := ⟨RX10, "<init>", "()V"⟩
abbrev cX10_size : ByteArray := prog_12_method_2_code
def yX10_size : MethodName := ⟨RX10, "size", "()I"⟩
abbrev cX10_clear : ByteArray := prog_12_method_3_code
def yX10_clear : MethodName := ⟨RX10, "clear", "()V"⟩
abbrev cX10_put : ByteArray := prog_12_method_4_code
def yX10_put : MethodName := ⟨RX10, "put", "(IZ)Z"⟩
abbrev cX10_numberAt : ByteArray := prog_12_method_5_code
def yX10_numberAt : MethodName := ⟨RX10, "numberAt", "(I)I"⟩
abbrev cX10_unknownAt : ByteArray := prog_12_method_6_code
def yX10_unknownAt : MethodName := ⟨RX10, "unknownAt", "(I)Z"⟩
def RX11 : String := "QueryLoops"
def TX11 : u_T := fun k => match k with
  | 0 => ("QueryLoops", "tables", "LQueryLoops$Tables;", true)
  | 1 => ("QueryLoops", "values", "LQueryLoops$Values;", true)
  | 2 => ("QueryLoops", "text", "LQueryLoops$Text;", true)
  | 3 => ("QueryLoops", "tokens", "LQueryLoops$Tokens;", true)
  | 4 => ("QueryLoops", "query", "LQueryLoops$Query;", true)
  | 5 => ("QueryLoops", "parser", "LQueryLoops$Parser;", true)
  | 6 => ("QueryLoops", "checker", "LQueryLoops$Checker;", true)
  | 7 => ("QueryLoops", "answer", "LQueryLoops$Answer;", true)
  | 8 => ("QueryLoops", "loops", "LQueryLoops$Loops;", true)
  | 9 => ("QueryLoops", "hasQuery", "Z", false)
  | _ => ("QueryLoops", "illPlace", "I", false)
def tyX11 : Nat → FieldType := fun k => match k with
  | 0 => .object "QueryLoops$Tables"
  | 1 => .object "QueryLoops$Values"
  | 2 => .object "QueryLoops$Text"
  | 3 => .object "QueryLoops$Tokens"
  | 4 => .object "QueryLoops$Query"
  | 5 => .object "QueryLoops$Parser"
  | 6 => .object "QueryLoops$Checker"
  | 7 => .object "QueryLoops$Answer"
  | 8 => .object "QueryLoops$Loops"
  | 9 => .boolean
  | _ => .int
abbrev wsX110 : List Cond := u_ws RX11 TX11 11
theorem nmX11 : ∀ a, a < 11 → ∀ b, b < 11 → a ≠ b → (TX11 a).2.1 ≠ (TX11 b).2.1 := by decide +kernel
theorem tyX11_ok : ∀ k, k < 11 → parseFieldDescriptor (TX11 k).2.2.1 = some (tyX11 k) := by decide +kernel
abbrev cX11_init : ByteArray := prog_1_method_1_code
def yX11_init : MethodName := ⟨RX11, "<init>", "()V"⟩
abbrev cX11_declare : ByteArray := prog_1_method_2_code
def yX11_declare : MethodName := ⟨RX11, "declare", "(II)Z"⟩
abbrev cX11_value : ByteArray := prog_1_method_3_code
def yX11_value : MethodName := ⟨RX11, "value", "(I)Z"⟩
abbrev cX11_nothing : ByteArray := prog_1_method_4_code
def yX11_nothing : MethodName := ⟨RX11, "nothing", "()Z"⟩
abbrev cX11_row : ByteArray := prog_1_method_5_code
def yX11_row : MethodName := ⟨RX11, "row", "(I)I"⟩
abbrev cX11_drop : ByteArray := prog_1_method_6_code
def yX11_drop : MethodName := ⟨RX11, "drop", "(I)I"⟩
abbrev cX11_ask : ByteArray := prog_1_method_7_code
def yX11_ask : MethodName := ⟨RX11, "ask", "(C)Z"⟩
abbrev cX11_compile : ByteArray := prog_1_method_8_code
def yX11_compile : MethodName := ⟨RX11, "compile", "()I"⟩
abbrev cX11_place : ByteArray := prog_1_method_9_code
def yX11_place : MethodName := ⟨RX11, "place", "()I"⟩
abbrev cX11_run : ByteArray := prog_1_method_10_code
def yX11_run : MethodName := ⟨RX11, "run", "()I"⟩
abbrev cX11_looked : ByteArray := prog_1_method_11_code
def yX11_looked : MethodName := ⟨RX11, "looked", "()I"⟩
abbrev cX11_rows : ByteArray := prog_1_method_12_code
def yX11_rows : MethodName := ⟨RX11, "rows", "()I"⟩
abbrev cX11_isNull : ByteArray := prog_1_method_13_code
def yX11_isNull : MethodName := ⟨RX11, "isNull", "(II)Z"⟩
abbrev cX11_result : ByteArray := prog_1_method_14_code
def yX11_result : MethodName := ⟨RX11, "result", "(II)J"⟩
abbrev cX11_get : ByteArray := prog_1_method_15_code
def yX11_get : MethodName := ⟨RX11, "get", "([II)I"⟩
def RX12 : String := "QueryLoopsModel"
def TX12 : u_T := fun k => match k with
  | 0 => ("QueryLoopsModel", "words", "[I", true)
  | 1 => ("QueryLoopsModel", "code", "I", false)
  | 2 => ("QueryLoopsModel", "width", "[I", true)
  | 3 => ("QueryLoopsModel", "height", "[I", true)
  | 4 => ("QueryLoopsModel", "cell", "[I", true)
  | 5 => ("QueryLoopsModel", "blank", "[Z", true)
  | 6 => ("QueryLoopsModel", "values", "I", false)
  | 7 => ("QueryLoopsModel", "given", "[I", true)
  | 8 => ("QueryLoopsModel", "givenBlank", "[Z", true)
  | 9 => ("QueryLoopsModel", "size", "I", false)
  | 10 => ("QueryLoopsModel", "text", "[C", true)
  | 11 => ("QueryLoopsModel", "illAt", "I", false)
  | 12 => ("QueryLoopsModel", "ill", "Z", false)
  | 13 => ("QueryLoopsModel", "badAt", "I", false)
  | 14 => ("QueryLoopsModel", "pos", "I", false)
  | 15 => ("QueryLoopsModel", "tokens", "I", false)
  | 16 => ("QueryLoopsModel", "next", "I", false)
  | 17 => ("QueryLoopsModel", "kind", "[I", true)
  | 18 => ("QueryLoopsModel", "place", "[I", true)
  | 19 => ("QueryLoopsModel", "number", "[I", true)
  | 20 => ("QueryLoopsModel", "open", "I", false)
  | 21 => ("QueryLoopsModel", "opened", "[I", true)
  | 22 => ("QueryLoopsModel", "there", "Z", false)
  | 23 => ("QueryLoopsModel", "outs", "I", false)
  | 24 => ("QueryLoopsModel", "outKind", "[I", true)
  | 25 => ("QueryLoopsModel", "outAt", "[I", true)
  | 26 => ("QueryLoopsModel", "items", "I", false)
  | 27 => ("QueryLoopsModel", "table", "[I", true)
  | 28 => ("QueryLoopsModel", "itemAt", "[I", true)
  | 29 => ("QueryLoopsModel", "left", "[Z", true)
  | 30 => ("QueryLoopsModel", "from", "[I", true)
  | 31 => ("QueryLoopsModel", "to", "[I", true)
  | 32 => ("QueryLoopsModel", "whereFrom", "I", false)
  | 33 => ("QueryLoopsModel", "whereTo", "I", false)
  | 34 => ("QueryLoopsModel", "groups", "I", false)
  | 35 => ("QueryLoopsModel", "groupAt", "[I", true)
  | 36 => ("QueryLoopsModel", "parts", "I", false)
  | 37 => ("QueryLoopsModel", "partFrom", "[I", true)
  | 38 => ("QueryLoopsModel", "partTo", "[I", true)
  | 39 => ("QueryLoopsModel", "partItem", "[I", true)
  | 40 => ("QueryLoopsModel", "gathers", "Z", false)
  | 41 => ("QueryLoopsModel", "some", "[I", true)
  | 42 => ("QueryLoopsModel", "all", "[I", true)
  | 43 => ("QueryLoopsModel", "turns", "[I", true)
  | 44 => ("QueryLoopsModel", "operandBlank", "Z", false)
  | 45 => ("QueryLoopsModel", "operand", "I", false)
  | 46 => ("QueryLoopsModel", "now", "[I", true)
  | 47 => ("QueryLoopsModel", "looked", "I", false)
  | 48 => ("QueryLoopsModel", "stopped", "Z", false)
  | 49 => ("QueryLoopsModel", "rows", "I", false)
  | 50 => ("QueryLoopsModel", "isBlank", "[Z", true)
  | 51 => ("QueryLoopsModel", "result", "[J", true)
  | 52 => ("QueryLoopsModel", "keyBlank", "[Z", true)
  | 53 => ("QueryLoopsModel", "key", "[I", true)
  | _ => ("QueryLoopsModel", "truth", "I", false)
def tyX12 : Nat → FieldType := fun k => match k with
  | 0 => .array .int
  | 1 => .int
  | 2 => .array .int
  | 3 => .array .int
  | 4 => .array .int
  | 5 => .array .boolean
  | 6 => .int
  | 7 => .array .int
  | 8 => .array .boolean
  | 9 => .int
  | 10 => .array .char
  | 11 => .int
  | 12 => .boolean
  | 13 => .int
  | 14 => .int
  | 15 => .int
  | 16 => .int
  | 17 => .array .int
  | 18 => .array .int
  | 19 => .array .int
  | 20 => .int
  | 21 => .array .int
  | 22 => .boolean
  | 23 => .int
  | 24 => .array .int
  | 25 => .array .int
  | 26 => .int
  | 27 => .array .int
  | 28 => .array .int
  | 29 => .array .boolean
  | 30 => .array .int
  | 31 => .array .int
  | 32 => .int
  | 33 => .int
  | 34 => .int
  | 35 => .array .int
  | 36 => .int
  | 37 => .array .int
  | 38 => .array .int
  | 39 => .array .int
  | 40 => .boolean
  | 41 => .array .int
  | 42 => .array .int
  | 43 => .array .int
  | 44 => .boolean
  | 45 => .int
  | 46 => .array .int
  | 47 => .int
  | 48 => .boolean
  | 49 => .int
  | 50 => .array .boolean
  | 51 => .array .long
  | 52 => .array .boolean
  | 53 => .array .int
  | _ => .int
abbrev wsX120 : List Cond := u_ws RX12 TX12 55
theorem nmX12 : ∀ a, a < 55 → ∀ b, b < 55 → a ≠ b → (TX12 a).2.1 ≠ (TX12 b).2.1 := by decide +kernel
theorem tyX12_ok : ∀ k, k < 55 → parseFieldDescriptor (TX12 k).2.2.1 = some (tyX12 k) := by decide +kernel
abbrev cX12_init : ByteArray := prog_14_method_1_code
def yX12_init : MethodName := ⟨RX12, "<init>", "()V"⟩
abbrev cX12_thrown : ByteArray := prog_14_method_2_code
def yX12_thrown : MethodName := ⟨RX12, "thrown", "()I"⟩
abbrev cX12_fail : ByteArray := prog_14_method_3_code
def yX12_fail : MethodName := ⟨RX12, "fail", "(I)I"⟩
abbrev cX12_isTable : ByteArray := prog_14_method_4_code
def yX12_isTable : MethodName := ⟨RX12, "isTable", "(I)Z"⟩
abbrev cX12_declare : ByteArray := prog_14_method_5_code
def yX12_declare : MethodName := ⟨RX12, "declare", "(II)Z"⟩
abbrev cX12_put : ByteArray := prog_14_method_6_code
def yX12_put : MethodName := ⟨RX12, "put", "(IZ)Z"⟩
abbrev cX12_value : ByteArray := prog_14_method_7_code
def yX12_value : MethodName := ⟨RX12, "value", "(I)Z"⟩
abbrev cX12_nothing : ByteArray := prog_14_method_8_code
def yX12_nothing : MethodName := ⟨RX12, "nothing", "()Z"⟩
abbrev cX12_row : ByteArray := prog_14_method_9_code
def yX12_row : MethodName := ⟨RX12, "row", "(I)I"⟩
abbrev cX12_drop : ByteArray := prog_14_method_10_code
def yX12_drop : MethodName := ⟨RX12, "drop", "(I)I"⟩
abbrev cX12_ask : ByteArray := prog_14_method_11_code
def yX12_ask : MethodName := ⟨RX12, "ask", "(C)Z"⟩
abbrev cX12_at : ByteArray := prog_14_method_12_code
def yX12_at : MethodName := ⟨RX12, "at", "(I)C"⟩
abbrev cX12_isSmall : ByteArray := prog_14_method_13_code
def yX12_isSmall : MethodName := ⟨RX12, "isSmall", "(C)Z"⟩
abbrev cX12_isDigit : ByteArray := prog_14_method_14_code
def yX12_isDigit : MethodName := ⟨RX12, "isDigit", "(C)Z"⟩
abbrev cX12_stop : ByteArray := prog_14_method_15_code
def yX12_stop : MethodName := ⟨RX12, "stop", "(I)V"⟩
abbrev cX12_readWord : ByteArray := prog_14_method_16_code
def yX12_readWord : MethodName := ⟨RX12, "readWord", "()I"⟩
abbrev cX12_readNumeral : ByteArray := prog_14_method_17_code
def yX12_readNumeral : MethodName := ⟨RX12, "readNumeral", "(I)I"⟩
abbrev cX12_look : ByteArray := prog_14_method_18_code
def yX12_look : MethodName := ⟨RX12, "look", "()I"⟩
abbrev cX12_wrong : ByteArray := prog_14_method_19_code
def yX12_wrong : MethodName := ⟨RX12, "wrong", "()V"⟩
abbrev cX12_take : ByteArray := prog_14_method_20_code
def yX12_take : MethodName := ⟨RX12, "take", "(I)Z"⟩
abbrev cX12_want : ByteArray := prog_14_method_21_code
def yX12_want : MethodName := ⟨RX12, "want", "(I)V"⟩
abbrev cX12_isIn : ByteArray := prog_14_method_22_code
def yX12_isIn : MethodName := ⟨RX12, "isIn", "(III)Z"⟩
abbrev cX12_readColumn : ByteArray := prog_14_method_23_code
def yX12_readColumn : MethodName := ⟨RX12, "readColumn", "()V"⟩
abbrev cX12_readOut : ByteArray := prog_14_method_24_code
def yX12_readOut : MethodName := ⟨RX12, "readOut", "()V"⟩
abbrev cX12_readOuts : ByteArray := prog_14_method_25_code
def yX12_readOuts : MethodName := ⟨RX12, "readOuts", "()V"⟩
abbrev cX12_readOperand : ByteArray := prog_14_method_26_code
def yX12_readOperand : MethodName := ⟨RX12, "readOperand", "()V"⟩
abbrev cX12_readComparison : ByteArray := prog_14_method_27_code
def yX12_readComparison : MethodName := ⟨RX12, "readComparison", "()V"⟩
abbrev cX12_closeNots : ByteArray := prog_14_method_28_code
def yX12_closeNots : MethodName := ⟨RX12, "closeNots", "()V"⟩
abbrev cX12_readCondition : ByteArray := prog_14_method_29_code
def yX12_readCondition : MethodName := ⟨RX12, "readCondition", "()V"⟩
abbrev cX12_readItem : ByteArray := prog_14_method_30_code
def yX12_readItem : MethodName := ⟨RX12, "readItem", "(Z)V"⟩
abbrev cX12_readGroup : ByteArray := prog_14_method_31_code
def yX12_readGroup : MethodName := ⟨RX12, "readGroup", "()V"⟩
abbrev cX12_readQuery : ByteArray := prog_14_method_32_code
def yX12_readQuery : MethodName := ⟨RX12, "readQuery", "()V"⟩
abbrev cX12_spot : ByteArray := prog_14_method_33_code
def yX12_spot : MethodName := ⟨RX12, "spot", "(I)V"⟩
abbrev cX12_itemOf : ByteArray := prog_14_method_34_code
def yX12_itemOf : MethodName := ⟨RX12, "itemOf", "(I)I"⟩
abbrev cX12_columnOf : ByteArray := prog_14_method_35_code
def yX12_columnOf : MethodName := ⟨RX12, "columnOf", "(I)I"⟩
abbrev cX12_checkColumn : ByteArray := prog_14_method_36_code
def yX12_checkColumn : MethodName := ⟨RX12, "checkColumn", "(II)V"⟩
abbrev cX12_checkRange : ByteArray := prog_14_method_37_code
def yX12_checkRange : MethodName := ⟨RX12, "checkRange", "(III)V"⟩
abbrev cX12_isGrouped : ByteArray := prog_14_method_38_code
def yX12_isGrouped : MethodName := ⟨RX12, "isGrouped", "(I)Z"⟩
abbrev cX12_checkAll : ByteArray := prog_14_method_39_code
def yX12_checkAll : MethodName := ⟨RX12, "checkAll", "()V"⟩
abbrev cX12_addPart : ByteArray := prog_14_method_40_code
def yX12_addPart : MethodName := ⟨RX12, "addPart", "(II)V"⟩
abbrev cX12_findParts : ByteArray := prog_14_method_41_code
def yX12_findParts : MethodName := ⟨RX12, "findParts", "()V"⟩
abbrev cX12_compile : ByteArray := prog_14_method_42_code
def yX12_compile : MethodName := ⟨RX12, "compile", "()I"⟩
abbrev cX12_place : ByteArray := prog_14_method_43_code
def yX12_place : MethodName := ⟨RX12, "place", "()I"⟩
abbrev cX12_takeOperand : ByteArray := prog_14_method_44_code
def yX12_takeOperand : MethodName := ⟨RX12, "takeOperand", "(I)I"⟩
abbrev cX12_fetch : ByteArray := prog_14_method_45_code
def yX12_fetch : MethodName := ⟨RX12, "fetch", "(II)V"⟩
abbrev cX12_not : ByteArray := prog_14_method_46_code
def yX12_not : MethodName := ⟨RX12, "not", "(I)I"⟩
abbrev cX12_both : ByteArray := prog_14_method_47_code
def yX12_both : MethodName := ⟨RX12, "both", "(II)I"⟩
abbrev cX12_either : ByteArray := prog_14_method_48_code
def yX12_either : MethodName := ⟨RX12, "either", "(II)I"⟩
abbrev cX12_compare : ByteArray := prog_14_method_49_code
def yX12_compare : MethodName := ⟨RX12, "compare", "(I)I"⟩
abbrev cX12_truthOf : ByteArray := prog_14_method_50_code
def yX12_truthOf : MethodName := ⟨RX12, "truthOf", "(II)I"⟩
abbrev cX12_passes : ByteArray := prog_14_method_51_code
def yX12_passes : MethodName := ⟨RX12, "passes", "(I)Z"⟩
abbrev cX12_sameKey : ByteArray := prog_14_method_52_code
def yX12_sameKey : MethodName := ⟨RX12, "sameKey", "(I)Z"⟩
abbrev cX12_newRow : ByteArray := prog_14_method_53_code
def yX12_newRow : MethodName := ⟨RX12, "newRow", "()Z"⟩
abbrev cX12_groupRow : ByteArray := prog_14_method_54_code
def yX12_groupRow : MethodName := ⟨RX12, "groupRow", "()I"⟩
abbrev cX12_gather : ByteArray := prog_14_method_55_code
def yX12_gather : MethodName := ⟨RX12, "gather", "(II)V"⟩
abbrev cX12_found : ByteArray := prog_14_method_56_code
def yX12_found : MethodName := ⟨RX12, "found", "()V"⟩
abbrev cX12_fits : ByteArray := prog_14_method_57_code
def yX12_fits : MethodName := ⟨RX12, "fits", "(I)Z"⟩
abbrev cX12_third : ByteArray := prog_14_method_58_code
def yX12_third : MethodName := ⟨RX12, "third", "()V"⟩
abbrev cX12_afterSecond : ByteArray := prog_14_method_59_code
def yX12_afterSecond : MethodName := ⟨RX12, "afterSecond", "()V"⟩
abbrev cX12_second : ByteArray := prog_14_method_60_code
def yX12_second : MethodName := ⟨RX12, "second", "()V"⟩
abbrev cX12_first : ByteArray := prog_14_method_61_code
def yX12_first : MethodName := ⟨RX12, "first", "()V"⟩
abbrev cX12_run : ByteArray := prog_14_method_62_code
def yX12_run : MethodName := ⟨RX12, "run", "()I"⟩
abbrev cX12_looked : ByteArray := prog_14_method_63_code
def yX12_looked : MethodName := ⟨RX12, "looked", "()I"⟩
abbrev cX12_rows : ByteArray := prog_14_method_64_code
def yX12_rows : MethodName := ⟨RX12, "rows", "()I"⟩
abbrev cX12_isThere : ByteArray := prog_14_method_65_code
def yX12_isThere : MethodName := ⟨RX12, "isThere", "(II)Z"⟩
abbrev cX12_isNull : ByteArray := prog_14_method_66_code
def yX12_isNull : MethodName := ⟨RX12, "isNull", "(II)Z"⟩
abbrev cX12_result : ByteArray := prog_14_method_67_code
def yX12_result : MethodName := ⟨RX12, "result", "(II)J"⟩
def RJ11 : String := "java/lang/Character"
def TJ11 : u_T := fun k => match k with
  | _ => ("", "", "", false)
def tyJ11 : Nat → FieldType := fun k => match k with
  | _ => .int
abbrev wsJ110 : List Cond := u_ws RJ11 TJ11 0
theorem nmJ11 : ∀ a, a < 0 → ∀ b, b < 0 → a ≠ b → (TJ11 a).2.1 ≠ (TJ11 b).2.1 := by decide +kernel
theorem tyJ11_ok : ∀ k, k < 0 → parseFieldDescriptor (TJ11 k).2.2.1 = some (tyJ11 k) := by decide +kernel
abbrev cJ11_isValidCodePoint_9a6ad : ByteArray := prog_15_method_11_code
def yJ11_isValidCodePoint_9a6ad : MethodName := ⟨RJ11, "isValidCodePoint", "(I)Z"⟩
abbrev cJ11_highSurrogate_5068e : ByteArray := prog_15_method_28_code
def yJ11_highSurrogate_5068e : MethodName := ⟨RJ11, "highSurrogate", "(I)C"⟩
abbrev cJ11_lowSurrogate_5068e : ByteArray := prog_15_method_29_code
def yJ11_lowSurrogate_5068e : MethodName := ⟨RJ11, "lowSurrogate", "(I)C"⟩
def RJ6 : String := "java/lang/Integer"
def TJ6 : u_T := fun k => match k with
  | _ => ("", "", "", false)
def tyJ6 : Nat → FieldType := fun k => match k with
  | _ => .int
abbrev wsJ60 : List Cond := u_ws RJ6 TJ6 0
theorem nmJ6 : ∀ a, a < 0 → ∀ b, b < 0 → a ≠ b → (TJ6 a).2.1 ≠ (TJ6 b).2.1 := by decide +kernel
theorem tyJ6_ok : ∀ k, k < 0 → parseFieldDescriptor (TJ6 k).2.2.1 = some (tyJ6 k) := by decide +kernel
abbrev cJ6_compare_7cf53 : ByteArray := prog_19_method_40_code
def yJ6_compare_7cf53 : MethodName := ⟨RJ6, "compare", "(II)I"⟩
def RJ9 : String := "java/lang/Math"
def TJ9 : u_T := fun k => match k with
  | _ => ("", "", "", false)
def tyJ9 : Nat → FieldType := fun k => match k with
  | _ => .int
abbrev wsJ90 : List Cond := u_ws RJ9 TJ9 0
theorem nmJ9 : ∀ a, a < 0 → ∀ b, b < 0 → a ≠ b → (TJ9 a).2.1 ≠ (TJ9 b).2.1 := by decide +kernel
theorem tyJ9_ok : ∀ k, k < 0 → parseFieldDescriptor (TJ9 k).2.2.1 = some (tyJ9 k) := by decide +kernel
abbrev cJ9_max_7cf53 : ByteArray := prog_20_method_65_code
def yJ9_max_7cf53 : MethodName := ⟨RJ9, "max", "(II)I"⟩
abbrev cJ9_max_f86c9 : ByteArray := prog_20_method_66_code
def yJ9_max_f86c9 : MethodName := ⟨RJ9, "max", "(JJ)J"⟩
abbrev cJ9_min_7cf53 : ByteArray := prog_20_method_69_code
def yJ9_min_7cf53 : MethodName := ⟨RJ9, "min", "(II)I"⟩
abbrev cJ9_min_f86c9 : ByteArray := prog_20_method_70_code
def yJ9_min_f86c9 : MethodName := ⟨RJ9, "min", "(JJ)J"⟩
def RJ0 : String := "java/lang/String"
def TJ0 : u_T := fun k => match k with
  | _ => ("", "", "", false)
def tyJ0 : Nat → FieldType := fun k => match k with
  | _ => .int
abbrev wsJ00 : List Cond := u_ws RJ0 TJ0 0
theorem nmJ0 : ∀ a, a < 0 → ∀ b, b < 0 → a ≠ b → (TJ0 a).2.1 ≠ (TJ0 b).2.1 := by decide +kernel
theorem tyJ0_ok : ∀ k, k < 0 → parseFieldDescriptor (TJ0 k).2.2.1 = some (tyJ0 k) := by decide +kernel
abbrev cJ0_length_8abf5 : ByteArray := prog_22_method_54_code
def yJ0_length_8abf5 : MethodName := ⟨RJ0, "length", "()I"⟩
abbrev cJ0_charAt_5068e : ByteArray := prog_22_method_56_code
def yJ0_charAt_5068e : MethodName := ⟨RJ0, "charAt", "(I)C"⟩
abbrev cJ0_indexOf_0f7a4 : ByteArray := prog_22_method_79_code
def yJ0_indexOf_0f7a4 : MethodName := ⟨RJ0, "indexOf", "(I)I"⟩
abbrev cJ0_indexOf_7cf53 : ByteArray := prog_22_method_80_code
def yJ0_indexOf_7cf53 : MethodName := ⟨RJ0, "indexOf", "(II)I"⟩
abbrev cJ0_coder_7d493 : ByteArray := prog_22_method_152_code
def yJ0_coder_7d493 : MethodName := ⟨RJ0, "coder", "()B"⟩
abbrev cJ0_isLatin1_aae02 : ByteArray := prog_22_method_154_code
def yJ0_isLatin1_aae02 : MethodName := ⟨RJ0, "isLatin1", "()Z"⟩
abbrev cJ0_checkIndex_df160 : ByteArray := prog_22_method_155_code
def yJ0_checkIndex_df160 : MethodName := ⟨RJ0, "checkIndex", "(II)V"⟩
abbrev cJ0_checkBoundsBeginEnd_23922 : ByteArray := prog_22_method_158_code
def yJ0_checkBoundsBeginEnd_23922 : MethodName := ⟨RJ0, "checkBoundsBeginEnd", "(III)V"⟩
def RJ1 : String := "java/lang/StringLatin1"
def TJ1 : u_T := fun k => match k with
  | _ => ("", "", "", false)
def tyJ1 : Nat → FieldType := fun k => match k with
  | _ => .int
abbrev wsJ10 : List Cond := u_ws RJ1 TJ1 0
theorem nmJ1 : ∀ a, a < 0 → ∀ b, b < 0 → a ≠ b → (TJ1 a).2.1 ≠ (TJ1 b).2.1 := by decide +kernel
theorem tyJ1_ok : ∀ k, k < 0 → parseFieldDescriptor (TJ1 k).2.2.1 = some (tyJ1 k) := by decide +kernel
abbrev cJ1_charAt_3b067 : ByteArray := prog_23_method_2_code
def yJ1_charAt_3b067 : MethodName := ⟨RJ1, "charAt", "([BI)C"⟩
abbrev cJ1_canEncode_9a6ad : ByteArray := prog_23_method_4_code
def yJ1_canEncode_9a6ad : MethodName := ⟨RJ1, "canEncode", "(I)Z"⟩
abbrev cJ1_indexOf_4cfef : ByteArray := prog_23_method_22_code
def yJ1_indexOf_4cfef : MethodName := ⟨RJ1, "indexOf", "([BIII)I"⟩
abbrev cJ1_indexOfChar_4cfef : ByteArray := prog_23_method_23_code
def yJ1_indexOfChar_4cfef : MethodName := ⟨RJ1, "indexOfChar", "([BIII)I"⟩
def RJ2 : String := "java/lang/StringUTF16"
def TJ2 : u_T := fun k => match k with
  | _ => ("", "", "", false)
def tyJ2 : Nat → FieldType := fun k => match k with
  | _ => .int
abbrev wsJ20 : List Cond := u_ws RJ2 TJ2 0
theorem nmJ2 : ∀ a, a < 0 → ∀ b, b < 0 → a ≠ b → (TJ2 a).2.1 ≠ (TJ2 b).2.1 := by decide +kernel
theorem tyJ2_ok : ∀ k, k < 0 → parseFieldDescriptor (TJ2 k).2.2.1 = some (tyJ2 k) := by decide +kernel
abbrev cJ2_getChar_3b067 : ByteArray := prog_24_method_5_code
def yJ2_getChar_3b067 : MethodName := ⟨RJ2, "getChar", "([BI)C"⟩
abbrev cJ2_length_9d52b : ByteArray := prog_24_method_6_code
def yJ2_length_9d52b : MethodName := ⟨RJ2, "length", "([B)I"⟩
abbrev cJ2_indexOf_4cfef : ByteArray := prog_24_method_40_code
def yJ2_indexOf_4cfef : MethodName := ⟨RJ2, "indexOf", "([BIII)I"⟩
abbrev cJ2_indexOfChar_4cfef : ByteArray := prog_24_method_47_code
def yJ2_indexOfChar_4cfef : MethodName := ⟨RJ2, "indexOfChar", "([BIII)I"⟩
abbrev cJ2_indexOfCharUnsafe_4cfef : ByteArray := prog_24_method_48_code
def yJ2_indexOfCharUnsafe_4cfef : MethodName := ⟨RJ2, "indexOfCharUnsafe", "([BIII)I"⟩
abbrev cJ2_indexOfSupplementary_4cfef : ByteArray := prog_24_method_49_code
def yJ2_indexOfSupplementary_4cfef : MethodName := ⟨RJ2, "indexOfSupplementary", "([BIII)I"⟩
abbrev cJ2_charAt_3b067 : ByteArray := prog_24_method_83_code
def yJ2_charAt_3b067 : MethodName := ⟨RJ2, "charAt", "([BI)C"⟩
abbrev cJ2_checkIndex_2214a : ByteArray := prog_24_method_91_code
def yJ2_checkIndex_2214a : MethodName := ⟨RJ2, "checkIndex", "(I[B)V"⟩
abbrev cJ2_checkBoundsBeginEnd_d044e : ByteArray := prog_24_method_93_code
def yJ2_checkBoundsBeginEnd_d044e : MethodName := ⟨RJ2, "checkBoundsBeginEnd", "(II[B)V"⟩
def RJ3 : String := "jdk/internal/util/Preconditions"
def TJ3 : u_T := fun k => match k with
  | _ => ("", "", "", false)
def tyJ3 : Nat → FieldType := fun k => match k with
  | _ => .int
abbrev wsJ30 : List Cond := u_ws RJ3 TJ3 0
theorem nmJ3 : ∀ a, a < 0 → ∀ b, b < 0 → a ≠ b → (TJ3 a).2.1 ≠ (TJ3 b).2.1 := by decide +kernel
theorem tyJ3_ok : ∀ k, k < 0 → parseFieldDescriptor (TJ3 k).2.2.1 = some (tyJ3 k) := by decide +kernel
abbrev cJ3_checkIndex_8e157 : ByteArray := prog_27_method_11_code
def yJ3_checkIndex_8e157 : MethodName := ⟨RJ3, "checkIndex", "(IILjava/util/function/BiFunction;)I"⟩
abbrev cJ3_checkFromToIndex_8c36e : ByteArray := prog_27_method_12_code
def yJ3_checkFromToIndex_8c36e : MethodName := ⟨RJ3, "checkFromToIndex", "(IIILjava/util/function/BiFunction;)I"⟩
def RL : String := "QueryLoopsLaw"
abbrev cL_row : ByteArray := method_3_code
def yL_row : MethodName := ⟨RL, "row", "(LQueryLoops;I[J)I"⟩
abbrev cL_compile : ByteArray := method_4_code
def yL_compile : MethodName := ⟨RL, "compile", "(LQueryLoops;[J)I"⟩
abbrev cL_run : ByteArray := method_5_code
def yL_run : MethodName := ⟨RL, "run", "(LQueryLoops;[J)I"⟩
abbrev cL_law : ByteArray := code
def yL_law : MethodName := ⟨RL, "law", "([I)Z"⟩
abbrev vwCl : List vw_C := [(RX0, TX0, 4), (RX1, TX1, 4), (RX2, TX2, 9), (RX3, TX3, 8), (RX4, TX4, 5), (RX5, TX5, 13), (RX6, TX6, 11), (RX7, TX7, 4), (RX8, TX8, 2), (RX9, TX9, 5), (RX10, TX10, 3), (RX11, TX11, 11), (RX12, TX12, 55)]
end
section
/-! a small machine over whole numbers: what a method's bytecode does to a world of known shape -/
/-- an int, a long, a reference (the number of a thing) -/
abbrev q_V : Type := Int ⊕ Int ⊕ Nat
/-- an array (its type, its length), or an object (its kind, its references: number + 1) -/
abbrev q_S : Type := (Nat × Nat) ⊕ (Nat × List Nat)
abbrev q_G : Type := List q_S
abbrev q_M : Type := Nat → Nat → Int
abbrev q_L : Type := List (Option q_V)
abbrev q_I : Type := List (Nat × Instr × Nat)
abbrev q_O : Type := Nat → List q_V → q_G → q_M → Option (Option q_V × q_G × q_M)
abbrev q_T : Type := q_L × List q_V × q_G × q_M × Nat × Nat
abbrev q_vI (x : Int) : q_V := Sum.inl x
abbrev q_vL (x : Int) : q_V := Sum.inr (Sum.inl x)
abbrev q_vR (k : Nat) : q_V := Sum.inr (Sum.inr k)
def q_w (x : Int) : Int := Int.bmod x 4294967296
def q_w6 (x : Int) : Int := Int.bmod x 18446744073709551616
def q_r (x : Int) : Prop := -2147483648 ≤ x ∧ x < 2147483648
def q_r6 (x : Int) : Prop := -9223372036854775808 ≤ x ∧ x < 9223372036854775808
def q_up (M : q_M) (k j : Nat) (v : Int) : q_M := fun a b => if a = k then (if b = j then v else M a b) else M a b
def q_zr (M : q_M) (k : Nat) : q_M := fun a b => if a = k then 0 else M a b
/-- the tables of the program: by class (its constant pool) and index -/
abbrev q_P : Type := (Nat → Nat → Option (Nat × Nat)) × (Nat → Nat → Option (Nat × Nat × Nat)) × (Nat → Nat → Option Nat) × (Nat → Nat → Option q_V) × (Nat → Nat → Nat) × (Nat → Nat × Nat × Nat) × (Nat → Nat) × List (List Int) × (Nat → Nat) × List Int
/-- a field: kind and slot -/
abbrev q_fl (P : q_P) : Nat → Nat → Option (Nat × Nat) := P.1
/-- a call: how, how many arguments (this among them), which method -/
abbrev q_mk (P : q_P) : Nat → Nat → Option (Nat × Nat × Nat) := P.2.1
/-- the kind that 'new' makes -/
abbrev q_cn (P : q_P) : Nat → Nat → Option Nat := P.2.2.1
/-- a constant -/
abbrev q_ld (P : q_P) : Nat → Nat → Option q_V := P.2.2.2.1
/-- a field's type: 0 int, 1 boolean, 4 reference -/
abbrev q_ft (P : q_P) : Nat → Nat → Nat := P.2.2.2.2.1
/-- a method's kind of receiver, what cells and slots it may make -/
abbrev q_mm (P : q_P) : Nat → Nat × Nat × Nat := P.2.2.2.2.2.1
/-- how many fields a kind has -/
abbrev q_nf (P : q_P) : Nat → Nat := P.2.2.2.2.2.2.1
/-- the bytes of the String constants -/
abbrev q_sb (P : q_P) : List (List Int) := P.2.2.2.2.2.2.2.1
/-- what a method answers: 0 nothing, 1 an int, 2 a long, 3 a reference -/
abbrev q_rk (P : q_P) : Nat → Nat := P.2.2.2.2.2.2.2.2.1
/-- the script, thing 3000 -/
abbrev q_sc (P : q_P) : List Int := P.2.2.2.2.2.2.2.2.2
def q_cat (v : q_V) : Nat := match v with
  | .inr (.inl _) => 2
  | _ => 1
def q_nl (l : q_L) (k : Nat) : Bool := match k with
  | 0 => true
  | k + 1 => match l.getD k none with
    | some (.inr (.inl _)) => false
    | _ => true
def q_sto (l : q_L) (k : Nat) (v : q_V) : Option q_L := if k < l.length ∧ q_nl l k = true then some (l.set k (some v)) else none
def q_sto2 (l : q_L) (k : Nat) (v : q_V) : Option q_L := if k + 1 < l.length ∧ q_nl l k = true then some ((l.set k (some v)).set (k + 1) none) else none
def q_at (a : ArrayType) : Nat := match a with
  | .int => 0
  | .boolean => 1
  | .char => 2
  | .long => 3
  | _ => 9
/-- one instruction that goes on to the next one -/
def q_ldI (l : q_L) (k : Nat) (st : List q_V) (G : q_G) (M : q_M) (ca sa : Nat) : Option q_T := match l.getD k none with
  | some (.inl x) => some (l, .inl x :: st, G, M, ca, sa)
  | _ => none
def q_ldL (l : q_L) (k : Nat) (st : List q_V) (G : q_G) (M : q_M) (ca sa : Nat) : Option q_T := match l.getD k none with
  | some (.inr (.inl x)) => some (l, .inr (.inl x) :: st, G, M, ca, sa)
  | _ => none
def q_ldR (l : q_L) (k : Nat) (st : List q_V) (G : q_G) (M : q_M) (ca sa : Nat) : Option q_T := match l.getD k none with
  | some (.inr (.inr x)) => some (l, .inr (.inr x) :: st, G, M, ca, sa)
  | _ => none
def q_stI (l : q_L) (k : Nat) (st : List q_V) (G : q_G) (M : q_M) (ca sa : Nat) : Option q_T := match st with
  | .inl x :: r => match q_sto l k (.inl x) with
    | some l' => some (l', r, G, M, ca, sa)
    | none => none
  | _ => none
def q_stL (l : q_L) (k : Nat) (st : List q_V) (G : q_G) (M : q_M) (ca sa : Nat) : Option q_T := match st with
  | .inr (.inl x) :: r => match q_sto2 l k (.inr (.inl x)) with
    | some l' => some (l', r, G, M, ca, sa)
    | none => none
  | _ => none
def q_stR (l : q_L) (k : Nat) (st : List q_V) (G : q_G) (M : q_M) (ca sa : Nat) : Option q_T := match st with
  | .inr (.inr x) :: r => match q_sto l k (.inr (.inr x)) with
    | some l' => some (l', r, G, M, ca, sa)
    | none => none
  | _ => none
def q_get (P : q_P) (co idx : Nat) (l : q_L) (st : List q_V) (G : q_G) (M : q_M) (ca sa : Nat) : Option q_T := match q_fl P co idx, st with
  | some (ci, j), .inr (.inr a) :: r =>
    if ci = 100 then (if 1000 ≤ a ∧ a < 1000 + (q_sb P).length then (if j = 0 then some (l, .inr (.inr (a + 1000)) :: r, G, M, ca, sa) else some (l, .inl 0 :: r, G, M, ca, sa)) else none)
    else match G[a]? with
      | some (.inr (cj, rs)) => if cj = ci then (if q_ft P ci j = 4 then (match rs[j]? with
          | some (k + 1) => some (l, .inr (.inr k) :: r, G, M, ca, sa)
          | _ => none) else some (l, .inl (M a j) :: r, G, M, ca, sa)) else none
      | _ => none
  | _, _ => none
def q_put (P : q_P) (ini : Bool) (co idx : Nat) (l : q_L) (st : List q_V) (G : q_G) (M : q_M) (ca sa : Nat) : Option q_T := match q_fl P co idx, st with
  | some (ci, j), .inl x :: .inr (.inr a) :: r => match G[a]? with
      | some (.inr (cj, _)) => if cj = ci then (if q_ft P ci j = 0 then some (l, r, G, q_up M a j x, ca, sa) else if q_ft P ci j = 1 then (if x = 0 ∨ x = 1 then some (l, r, G, q_up M a j x, ca, sa) else none) else none) else none
      | _ => none
  | some (ci, j), .inr (.inr k) :: .inr (.inr a) :: r => match G[a]? with
      | some (.inr (cj, rs)) => if cj = ci ∧ ini = true ∧ ci = co ∧ q_ft P ci j = 4 ∧ k < G.length then some (l, r, G.set a (.inr (ci, rs.set j (k + 1))), M, ca, sa) else none
      | _ => none
  | _, _ => none
def q_ald (t : Nat) (l : q_L) (st : List q_V) (G : q_G) (M : q_M) (ca sa : Nat) : Option q_T := match st with
  | .inl i :: .inr (.inr a) :: r => match G[a]? with
    | some (.inl (t', n)) => if t' = t then (if 0 ≤ i ∧ i < (n : Int) then some (l, .inl (M a i.toNat) :: r, G, M, ca, sa) else none) else none
    | _ => none
  | _ => none
def q_bald (P : q_P) (l : q_L) (st : List q_V) (G : q_G) (M : q_M) (ca sa : Nat) : Option q_T := match st with
  | .inl i :: .inr (.inr a) :: r => if 2000 ≤ a then (match (q_sb P)[a - 2000]? with
      | some bs => if 0 ≤ i ∧ i < (bs.length : Int) then some (l, .inl (bs.getD i.toNat 0) :: r, G, M, ca, sa) else none
      | none => none) else q_ald 1 l st G M ca sa
  | _ => none
def q_iald (P : q_P) (l : q_L) (st : List q_V) (G : q_G) (M : q_M) (ca sa : Nat) : Option q_T := match st with
  | .inl i :: .inr (.inr a) :: r => if a = 3000 then (if 0 ≤ i ∧ i < ((q_sc P).length : Int) then some (l, .inl ((q_sc P).getD i.toNat 0) :: r, G, M, ca, sa) else none) else q_ald 0 l st G M ca sa
  | _ => none
def q_lald (l : q_L) (st : List q_V) (G : q_G) (M : q_M) (ca sa : Nat) : Option q_T := match st with
  | .inl i :: .inr (.inr a) :: r => match G[a]? with
    | some (.inl (t', n)) => if t' = 3 then (if 0 ≤ i ∧ i < (n : Int) then some (l, .inr (.inl (M a i.toNat)) :: r, G, M, ca, sa) else none) else none
    | _ => none
  | _ => none
def q_ast (t : Nat) (l : q_L) (st : List q_V) (G : q_G) (M : q_M) (ca sa : Nat) : Option q_T := match st with
  | .inl x :: .inl i :: .inr (.inr a) :: r => match G[a]? with
    | some (.inl (t', n)) => if t' = t then (if 0 ≤ i ∧ i < (n : Int) then (if t = 0 ∨ (t = 1 ∧ (x = 0 ∨ x = 1)) ∨ (t = 2 ∧ 0 ≤ x ∧ x < 65536) then some (l, r, G, q_up M a i.toNat x, ca, sa) else none) else none) else none
    | _ => none
  | _ => none
def q_last (l : q_L) (st : List q_V) (G : q_G) (M : q_M) (ca sa : Nat) : Option q_T := match st with
  | .inr (.inl x) :: .inl i :: .inr (.inr a) :: r => match G[a]? with
    | some (.inl (t', n)) => if t' = 3 then (if 0 ≤ i ∧ i < (n : Int) then some (l, r, G, q_up M a i.toNat x, ca, sa) else none) else none
    | _ => none
  | _ => none
def q_len (P : q_P) (l : q_L) (st : List q_V) (G : q_G) (M : q_M) (ca sa : Nat) : Option q_T := match st with
  | .inr (.inr a) :: r => if a = 3000 then some (l, .inl ((q_sc P).length : Int) :: r, G, M, ca, sa) else if 2000 ≤ a then (match (q_sb P)[a - 2000]? with
      | some bs => some (l, .inl (bs.length : Int) :: r, G, M, ca, sa)
      | none => none) else match G[a]? with
      | some (.inl (_, n)) => some (l, .inl (n : Int) :: r, G, M, ca, sa)
      | _ => none
  | _ => none
def q_newa (kc ks : Nat) (at' : ArrayType) (l : q_L) (st : List q_V) (G : q_G) (M : q_M) (ca sa : Nat) : Option q_T := match st with
  | .inl x :: r => if 0 ≤ x ∧ x ≤ 1000 ∧ q_at at' ≤ 3 ∧ ca + 1 ≤ kc ∧ sa + x.toNat ≤ ks ∧ G.length < 900 then some (l, .inr (.inr G.length) :: r, G ++ [.inl (q_at at', x.toNat)], q_zr M G.length, ca + 1, sa + x.toNat) else none
  | _ => none
def q_new (P : q_P) (kc ks co idx : Nat) (l : q_L) (st : List q_V) (G : q_G) (M : q_M) (ca sa : Nat) : Option q_T := match q_cn P co idx with
  | some ci => if ca + 1 ≤ kc ∧ sa + q_nf P ci ≤ ks ∧ G.length < 900 then some (l, .inr (.inr G.length) :: st, G ++ [.inr (ci, List.replicate (q_nf P ci) 0)], q_zr M G.length, ca + 1, sa + q_nf P ci) else none
  | none => none
/-- the receiver is of the kind that the method wants -/
def q_rc (P : q_P) (G : q_G) (c : Nat) (as : List q_V) : Bool := match as with
  | .inr (.inr a) :: _ => if c = 100 then decide (1000 ≤ a ∧ a < 1000 + (q_sb P).length) else match G[a]? with
    | some (.inr (cj, _)) => decide (cj = c)
    | _ => false
  | _ => false
/-- ways of a call: 0 virtual, 1 static, 2 a constructor, 3 static in the nest, 4 a constructor in the nest, 5 static with a table of its own, 9 Object's constructor -/
def q_call (orc : q_O) (P : q_P) (kc ks : Nat) (ws : List Nat) (co idx : Nat) (l : q_L) (st : List q_V) (G : q_G) (M : q_M) (ca sa : Nat) : Option q_T := match q_mk P co idx with
  | some (w, na, mid) =>
    if w ∈ ws ∧ na ≤ st.length ∧ ((st.drop na).map q_cat).sum ≤ 8 then
      (if w = 9 then (match st with
        | .inr (.inr _) :: r => some (l, r, G, M, ca, sa)
        | _ => none)
      else if (w = 1 ∨ w = 3 ∨ w = 5 ∨ q_rc P G (q_mm P mid).1 (st.take na).reverse = true) ∧ ca + (q_mm P mid).2.1 ≤ kc ∧ sa + (q_mm P mid).2.2 ≤ ks then (match orc mid (st.take na).reverse G M with
        | some (r, G', M') => some (l, r.toList ++ st.drop na, G', M', ca + (q_mm P mid).2.1, sa + (q_mm P mid).2.2)
        | none => none) else none)
    else none
  | none => none
def q_push (b : Bool) (v : q_V) (l : q_L) (st : List q_V) (G : q_G) (M : q_M) (ca sa : Nat) : Option q_T := if b = true then some (l, v :: st, G, M, ca, sa) else none
def q_ii (f : Int → Int → Option Int) (l : q_L) (st : List q_V) (G : q_G) (M : q_M) (ca sa : Nat) : Option q_T := match st with
  | .inl y :: .inl x :: r => match f x y with
    | some z => some (l, .inl z :: r, G, M, ca, sa)
    | none => none
  | _ => none
def q_stp (orc : q_O) (P : q_P) (ini : Bool) (kc ks co : Nat) (ins : Instr) (l : q_L) (st : List q_V) (G : q_G) (M : q_M) (ca sa : Nat) : Option q_T :=
  match ins with
  | .iload_n k => q_ldI l k.val st G M ca sa
  | .iload k => q_ldI l k st G M ca sa
  | .lload_n k => q_ldL l k.val st G M ca sa
  | .lload k => q_ldL l k st G M ca sa
  | .aload_n k => q_ldR l k.val st G M ca sa
  | .aload k => q_ldR l k st G M ca sa
  | .istore_n k => q_stI l k.val st G M ca sa
  | .istore k => q_stI l k st G M ca sa
  | .lstore_n k => q_stL l k.val st G M ca sa
  | .lstore k => q_stL l k st G M ca sa
  | .astore_n k => q_stR l k.val st G M ca sa
  | .astore k => q_stR l k st G M ca sa
  | .iinc k c => match l.getD k none with
    | some (.inl x) => match q_sto l k (.inl (q_w (x + c))) with
      | some l' => some (l', st, G, M, ca, sa)
      | none => none
    | _ => none
  | .iconst n => q_push (decide (-1 ≤ n ∧ n ≤ 5)) (.inl n) l st G M ca sa
  | .bipush n => q_push (decide (-128 ≤ n ∧ n < 128)) (.inl n) l st G M ca sa
  | .sipush n => q_push (decide (-32768 ≤ n ∧ n < 32768)) (.inl n) l st G M ca sa
  | .lconst n => q_push true (.inr (.inl (n.val : Int))) l st G M ca sa
  | .ldc idx => match q_ld P co idx with
    | some v => some (l, v :: st, G, M, ca, sa)
    | none => none
  | .getstatic idx => match q_fl P co idx with
    | some (101, _) => some (l, .inl 1 :: st, G, M, ca, sa)
    | _ => none
  | .iadd => q_ii (fun x y => some (q_w (x + y))) l st G M ca sa
  | .isub => q_ii (fun x y => some (q_w (x - y))) l st G M ca sa
  | .imul => q_ii (fun x y => some (q_w (x * y))) l st G M ca sa
  | .irem => q_ii (fun x y => if y = 2 ∧ 0 ≤ x then some (x % 2) else none) l st G M ca sa
  | .iand => q_ii (fun x y => if y = 15 then some (x % 16) else if y = 255 then some (x % 256) else none) l st G M ca sa
  | .ishr => q_ii (fun x y => if y = 0 then some x else none) l st G M ca sa
  | .ineg => match st with
    | .inl x :: r => some (l, .inl (q_w (-x)) :: r, G, M, ca, sa)
    | _ => none
  | .i2c => match st with
    | .inl x :: r => some (l, .inl (x % 65536) :: r, G, M, ca, sa)
    | _ => none
  | .i2b => match st with
    | .inl x :: r => if -128 ≤ x ∧ x < 128 then some (l, .inl x :: r, G, M, ca, sa) else none
    | _ => none
  | .i2l => match st with
    | .inl x :: r => some (l, .inr (.inl x) :: r, G, M, ca, sa)
    | _ => none
  | .ladd => match st with
    | .inr (.inl y) :: .inr (.inl x) :: r => some (l, .inr (.inl (q_w6 (x + y))) :: r, G, M, ca, sa)
    | _ => none
  | .lcmp => match st with
    | .inr (.inl y) :: .inr (.inl x) :: r => some (l, .inl (if x < y then -1 else if y < x then 1 else 0) :: r, G, M, ca, sa)
    | _ => none
  | .dup => match st with
    | v :: r => if q_cat v = 1 then some (l, v :: v :: r, G, M, ca, sa) else none
    | _ => none
  | .pop => match st with
    | v :: r => if q_cat v = 1 then some (l, r, G, M, ca, sa) else none
    | _ => none
  | .dup2 => match st with
    | v :: w :: r => if q_cat v = 1 ∧ q_cat w = 1 then some (l, v :: w :: v :: w :: r, G, M, ca, sa) else none
    | _ => none
  | .getfield idx => q_get P co idx l st G M ca sa
  | .putfield idx => q_put P ini co idx l st G M ca sa
  | .iaload => q_iald P l st G M ca sa
  | .baload => q_bald P l st G M ca sa
  | .caload => q_ald 2 l st G M ca sa
  | .laload => q_lald l st G M ca sa
  | .iastore => q_ast 0 l st G M ca sa
  | .bastore => q_ast 1 l st G M ca sa
  | .castore => q_ast 2 l st G M ca sa
  | .lastore => q_last l st G M ca sa
  | .arraylength => q_len P l st G M ca sa
  | .newarray a => q_newa kc ks a l st G M ca sa
  | .new idx => q_new P kc ks co idx l st G M ca sa
  | .invokespecial idx => q_call orc P kc ks [2, 4, 9] co idx l st G M ca sa
  | _ => none
/-- a road forks -/
def q_br {α : Type} (c : ClassFile.Cond) (x y : Int) (a b : α) : α := match c with
  | .eq => if x = y then a else b
  | .ne => if x = y then b else a
  | .lt => if x < y then a else b
  | .ge => if x < y then b else a
  | .gt => if y < x then a else b
  | .le => if y < x then b else a
def q_seek (t : Int) : q_I → q_I
  | [] => []
  | q :: l => if (q.1 : Int) = t then q :: l else q_seek t l
/-- what a callee answered, the shapes being the same -/
def q_c0 {α : Type} (r : Option (Option q_V × q_G × q_M)) (G : q_G) (k : q_M → Option α) : Option α := match r with
  | some (none, G', M') => if G' = G then k M' else none
  | _ => none
def q_cI {α : Type} (r : Option (Option q_V × q_G × q_M)) (G : q_G) (k : Int → q_M → Option α) : Option α := match r with
  | some (some (.inl x), G', M') => if G' = G then k x M' else none
  | _ => none
def q_cL {α : Type} (r : Option (Option q_V × q_G × q_M)) (G : q_G) (k : Int → q_M → Option α) : Option α := match r with
  | some (some (.inr (.inl x)), G', M') => if G' = G then k x M' else none
  | _ => none
def q_cR {α : Type} (r : Option (Option q_V × q_G × q_M)) (G : q_G) (k : Nat → q_M → Option α) : Option α := match r with
  | some (some (.inr (.inr x)), G', M') => if G' = G then k x M' else none
  | _ => none
def q_ck {α : Type} (rk : Nat) (r : Option (Option q_V × q_G × q_M)) (G : q_G) (k : List q_V → q_M → Option α) : Option α := match rk with
  | 0 => q_c0 r G (k [])
  | 1 => q_cI r G (fun x => k [.inl x])
  | 2 => q_cL r G (fun x => k [.inr (.inl x)])
  | _ => q_cR r G (fun x => k [.inr (.inr x)])
def q_iv {α : Type} (orc : q_O) (P : q_P) (kc ks : Nat) (ws : List Nat) (co idx : Nat) (st : List q_V) (G : q_G) (M : q_M) (ca sa : Nat) (k : List q_V → q_M → Nat → Nat → Option α) : Option α := match q_mk P co idx with
  | some (w, na, mid) => if w ∈ ws ∧ w ≠ 9 ∧ na ≤ st.length ∧ ((st.drop na).map q_cat).sum ≤ 8 ∧ (w = 1 ∨ w = 3 ∨ w = 5 ∨ q_rc P G (q_mm P mid).1 (st.take na).reverse = true) then
      if ca + (q_mm P mid).2.1 ≤ kc ∧ sa + (q_mm P mid).2.2 ≤ ks then q_ck (q_rk P mid) (orc mid (st.take na).reverse G M) G (fun r M' => k (r ++ st.drop na) M' (ca + (q_mm P mid).2.1) (sa + (q_mm P mid).2.2)) else none
    else none
  | none => none
/-- from one stop to the next: pc, locals, stack, shapes, numbers, cells and slots made -/
def q_den (orc : q_O) (P : q_P) (ini : Bool) (kc ks co : Nat) (I : q_I) (sp : List Nat) : Nat → Bool → q_I → q_L → List q_V → q_G → q_M → Nat → Nat → Option (Nat × q_T)
  | 0, _, _, _, _, _, _, _, _ => none
  | n + 1, b, rm, l, st, G, M, ca, sa => match rm with
    | [] => none
    | (pc, ins, _) :: tl => if b = true ∧ pc ∈ sp then some (pc, l, st, G, M, ca, sa) else match ins with
      | .goto off => q_den orc P ini kc ks co I sp n true (q_seek ((pc : Int) + off) I) l st G M ca sa
      | .if_icmp c off => match st with
        | .inl y :: .inl x :: r => q_br c x y (q_den orc P ini kc ks co I sp n true (q_seek ((pc : Int) + off) I) l r G M ca sa) (q_den orc P ini kc ks co I sp n true tl l r G M ca sa)
        | _ => none
      | .ifCond c off => match st with
        | .inl x :: r => q_br c x 0 (q_den orc P ini kc ks co I sp n true (q_seek ((pc : Int) + off) I) l r G M ca sa) (q_den orc P ini kc ks co I sp n true tl l r G M ca sa)
        | _ => none
      | .invokevirtual idx => q_iv orc P kc ks [0] co idx st G M ca sa (fun st' M' ca' sa' => q_den orc P ini kc ks co I sp n true tl l st' G M' ca' sa')
      | .invokestatic idx => q_iv orc P kc ks [1, 3, 5] co idx st G M ca sa (fun st' M' ca' sa' => q_den orc P ini kc ks co I sp n true tl l st' G M' ca' sa')
      | ins => match q_stp orc P ini kc ks co ins l st G M ca sa with
        | some (l', st', G', M', ca', sa') => q_den orc P ini kc ks co I sp n true tl l' st' G' M' ca' sa'
        | none => none
end
section
/-! the small machine's values, locals and worlds as the big one's -/
def q_cv (ad : Nat → Nat) (v : q_V) : Value := match v with
  | .inl x => .int (Int32.ofInt x)
  | .inr (.inl x) => .long (Int64.ofInt x)
  | .inr (.inr k) => .ref (ad k)
def q_ov (n : Nat) (v : q_V) : Prop := match v with
  | .inl x => q_r x
  | .inr (.inl x) => q_r6 x
  | .inr (.inr k) => k < n ∨ 1000 ≤ k
def q_sv (P : q_P) (ad : Nat → Nat) (ci : Nat) (rs : List Nat) (f : Nat → Int) (j : Nat) : Value := if q_ft P ci j = 4 then (match rs[j]? with
  | some (k + 1) => .ref (ad k)
  | _ => .null) else .int (Int32.ofInt (f j))
def q_ca (t : Nat) (f : Nat → Int) : (Nat → Int32) ⊕ (Nat → Int64) ⊕ (Nat → UInt32) ⊕ (Nat → UInt64) ⊕ (Nat → Option Nat) := if t = 3 then .inr (.inl (fun j => Int64.ofInt (f j))) else .inl (fun j => Int32.ofInt (f j))
def q_c (P : q_P) (cT : Nat → ClassId) (ad : Nat → Nat) (sh : q_S) (f : Nat → Int) : va_E := match sh with
  | .inl (t, n) => .inl (cT t, n, q_ca t f)
  | .inr (ci, rs) => .inr (ci, (List.range (q_nf P ci)).map (q_sv P ad ci rs f))
def q_ws (P : q_P) (cT : Nat → ClassId) (ad : Nat → Nat) (G : q_G) (M : q_M) : va_W := G.mapIdx (fun k sh => (ad k, q_c P cT ad sh (M k)))
def q_oM (G : q_G) (M : q_M) : Prop := ∀ k j : Nat, q_r6 (M k j) ∧ ((∀ n : Nat, G[k]? ≠ some (Sum.inl (3, n))) → q_r (M k j))
def q_oG (P : q_P) (G : q_G) : Prop := G.length ≤ 900 ∧ (∀ (k ci : Nat) (rs : List Nat), G[k]? = some (Sum.inr (ci, rs)) → rs.length = q_nf P ci ∧ ci < 13 ∧ ∀ j r : Nat, rs[j]? = some (r + 1) → r < G.length) ∧ ∀ k t n : Nat, G[k]? = some (Sum.inl (t, n)) → t ≤ 3 ∧ n ≤ 1000
def q_adx (n : Nat) (ad ad' : Nat → Nat) : Prop := ∀ k, (k < n ∨ 1000 ≤ k) → ad' k = ad k
def q_lc (ad : Nat → Nat) (ls : Array Slot) (l : q_L) : Prop := ls.size = l.length ∧ lv_wf ls ∧ ∀ (i : Nat) (v : q_V), l[i]? = some (some v) → ls[i]? = some (Slot.val (q_cv ad v))
def q_tys (cT : Nat → ClassId) : List (ClassId × FieldType) := [(cT 0, .int), (cT 1, .boolean), (cT 2, .char), (cT 3, .long)]
theorem q_ws_get {P : q_P} {cT : Nat → ClassId} {ad : Nat → Nat} {G : q_G} {M : q_M} {k : Nat} {sh : q_S} (h : G[k]? = some sh) : (q_ws P cT ad G M)[k]? = some (ad k, q_c P cT ad sh (M k)) := by
  simp [q_ws, List.getElem?_mapIdx, h]
theorem q_ws_inv {P : q_P} {cT : Nat → ClassId} {ad : Nat → Nat} {G : q_G} {M : q_M} {k : Nat} {q : Nat × va_E} (h : (q_ws P cT ad G M)[k]? = some q) : ∃ sh, G[k]? = some sh ∧ q = (ad k, q_c P cT ad sh (M k)) := by
  simp only [q_ws, List.getElem?_mapIdx, Option.map_eq_some_iff] at h
  obtain ⟨sh, h1, h2⟩ := h
  exact ⟨sh, h1, h2.symm⟩
theorem q_ws_len {P : q_P} {cT : Nat → ClassId} {ad : Nat → Nat} {G : q_G} {M : q_M} : (q_ws P cT ad G M).length = G.length := by simp [q_ws]
theorem q_c_ext {P : q_P} {cT : Nat → ClassId} {ad ad' : Nat → Nat} {sh : q_S} {f : Nat → Int} (h : ∀ (ci : Nat) (rs : List Nat), sh = .inr (ci, rs) → ∀ j r : Nat, rs[j]? = some (r + 1) → ad' r = ad r) : q_c P cT ad' sh f = q_c P cT ad sh f := by
  match sh, h with
  | .inl (t, n), _ => rfl
  | .inr (ci, rs), h =>
    have : q_sv P ad' ci rs f = q_sv P ad ci rs f := by
      funext j
      unfold q_sv
      split
      · rcases hj : rs[j]? with _ | (_ | r)
        · rfl
        · rfl
        · show Value.ref (ad' r) = Value.ref (ad r)
          rw [h ci rs rfl j r hj]
      · rfl
    simp only [q_c, this]
/-- the same world under addresses that agree -/
theorem q_ws_ext {P : q_P} {cT : Nat → ClassId} {ad ad' : Nat → Nat} {G : q_G} {M : q_M} (hG : q_oG P G) (h : q_adx G.length ad ad') : q_ws P cT ad' G M = q_ws P cT ad G M := by
  apply List.ext_getElem?
  intro k
  simp only [q_ws, List.getElem?_mapIdx]
  rcases hk : G[k]? with _ | sh
  · rfl
  · simp only [Option.map_some, Option.some.injEq, Prod.mk.injEq]
    have hl : k < G.length := (List.getElem?_eq_some_iff.mp hk).1
    exact ⟨h k (Or.inl hl), q_c_ext (fun ci rs e j r hr => h r (Or.inl ((hG.2.1 k ci rs (e ▸ hk)).2.2 j r hr)))⟩
theorem q_adx.rf {n : Nat} {ad : Nat → Nat} : q_adx n ad ad := fun _ _ => rfl
theorem q_adx.tr {n n' : Nat} {ad ad' ad'' : Nat → Nat} (h : q_adx n ad ad') (hn : n ≤ n') (h' : q_adx n' ad' ad'') : q_adx n ad ad'' := fun k hk => (h' k (by omega)).trans (h k hk)
theorem q_cv_ext {n : Nat} {ad ad' : Nat → Nat} {v : q_V} (h : q_adx n ad ad') (hv : q_ov n v) : q_cv ad' v = q_cv ad v := by
  match v, hv with
  | .inl x, _ => rfl
  | .inr (.inl x), _ => rfl
  | .inr (.inr k), hv => show Value.ref (ad' k) = Value.ref (ad k); rw [h k hv]
theorem q_map_ext {n : Nat} {ad ad' : Nat → Nat} {st : List q_V} (h : q_adx n ad ad') (hv : ∀ v ∈ st, q_ov n v) : st.map (q_cv ad') = st.map (q_cv ad) := List.map_congr_left fun v hm => q_cv_ext h (hv v hm)
theorem q_ov_mono {n n' : Nat} {v : q_V} (h : q_ov n v) (hn : n ≤ n') : q_ov n' v := by
  match v, h with
  | .inl x, h => exact h
  | .inr (.inl x), h => exact h
  | .inr (.inr k), h => exact h.elim (fun h => Or.inl (Nat.lt_of_lt_of_le h hn)) Or.inr
/-! locals -/
def q_as (ad : Nat → Nat) (l : q_L) : List (Nat × Value) := (List.range l.length).filterMap (fun i => (l.getD i none).map (fun v => (i, q_cv ad v)))
theorem q_as_mem {ad : Nat → Nat} {l : q_L} {q : Nat × Value} : q ∈ q_as ad l ↔ ∃ (i : Nat) (v : q_V), l[i]? = some (some v) ∧ q = (i, q_cv ad v) := by
  simp only [q_as, List.mem_filterMap, List.mem_range, Option.map_eq_some_iff]
  constructor
  · rintro ⟨i, hi, v, hv, rfl⟩
    refine ⟨i, v, ?_, rfl⟩
    rw [List.getD_eq_getElem?_getD] at hv
    rw [List.getElem?_eq_getElem hi] at hv ⊢
    simp only [Option.getD_some] at hv
    rw [hv]
  · rintro ⟨i, v, hv, rfl⟩
    refine ⟨i, (List.getElem?_eq_some_iff.mp hv).1, v, ?_, rfl⟩
    rw [List.getD_eq_getElem?_getD, hv]
    rfl
theorem q_lc.has {ad : Nat → Nat} {ls : Array Slot} {l : q_L} (h : q_lc ad ls l) : lv_has ls l.length (q_as ad l) := by
  refine ⟨h.1, h.2.1, fun q hq => ?_⟩
  obtain ⟨i, v, hv, rfl⟩ := q_as_mem.mp hq
  exact h.2.2 i v hv
theorem q_lc.ext {n : Nat} {ad ad' : Nat → Nat} {ls : Array Slot} {l : q_L} (h : q_lc ad ls l) (ha : q_adx n ad ad') (ho : ∀ v, some v ∈ l → q_ov n v) : q_lc ad' ls l :=
  ⟨h.1, h.2.1, fun i v hv => by rw [q_cv_ext ha (ho v (List.mem_of_getElem? hv))]; exact h.2.2 i v hv⟩
theorem q_cvcat (ad : Nat → Nat) (v : q_V) : (q_cv ad v).category = q_cat v := by
  match v with
  | .inl x => rfl
  | .inr (.inl x) => rfl
  | .inr (.inr k) => rfl
theorem q_nl_use {l : q_L} {k i : Nat} {v : q_V} (h : q_nl l k = true) (hv : l[i]? = some (some v)) (hi : i + 1 = k) : ¬ q_cat v = 2 := by
  subst hi
  simp only [q_nl, List.getD_eq_getElem?_getD, hv, Option.getD_some] at h
  match v, h with
  | .inl x, _ => simp [q_cat]
  | .inr (.inl x), h => simp at h
  | .inr (.inr k), _ => simp [q_cat]
theorem q_sto_lc {ad : Nat → Nat} {ls' : Array Slot} {l l' : q_L} {k : Nat} {v : q_V} (hs : q_sto l k v = some l') (hc : lv_has ls' l.length ((k, q_cv ad v) :: (q_as ad l).filter (fun q => !(q.1 == k) && !(q.1 + 1 == k && q.2.category == 2)))) : q_lc ad ls' l' := by
  unfold q_sto at hs
  split at hs
  · next h =>
    cases hs
    refine ⟨by rw [hc.1]; simp, hc.2.1, fun i v' hv => ?_⟩
    by_cases hik : i = k
    · subst hik
      rw [List.getElem?_set_self h.1] at hv
      cases hv
      exact hc.2.2 _ List.mem_cons_self
    · rw [List.getElem?_set_ne (Ne.symm hik)] at hv
      refine hc.2.2 (i, q_cv ad v') (List.mem_cons_of_mem _ (List.mem_filter.mpr ⟨q_as_mem.mpr ⟨i, v', hv, rfl⟩, ?_⟩))
      have h2 := fun e => q_nl_use h.2 hv e
      simp only [Bool.and_eq_true, Bool.not_eq_true', beq_eq_false_iff_ne, ne_eq, Bool.and_eq_false_iff, q_cvcat]
      refine ⟨hik, ?_⟩
      by_cases e : i + 1 = k
      · exact Or.inr (h2 e)
      · exact Or.inl e
  · cases hs
theorem q_sto2_lc {ad : Nat → Nat} {ls' : Array Slot} {l l' : q_L} {k : Nat} {v : q_V} (hs : q_sto2 l k v = some l') (hc : lv_has ls' l.length ((k, q_cv ad v) :: (q_as ad l).filter (fun q => !(q.1 == k) && (!(q.1 == k + 1) && !(q.1 + 1 == k && q.2.category == 2))))) : q_lc ad ls' l' := by
  unfold q_sto2 at hs
  split at hs
  · next h =>
    cases hs
    refine ⟨by rw [hc.1]; simp, hc.2.1, fun i v' hv => ?_⟩
    by_cases hi1 : i = k + 1
    · subst hi1
      rw [List.getElem?_set_self (by simp; exact h.1)] at hv
      cases hv
    · rw [List.getElem?_set_ne (Ne.symm hi1)] at hv
      by_cases hik : i = k
      · subst hik
        rw [List.getElem?_set_self (by omega)] at hv
        cases hv
        exact hc.2.2 _ List.mem_cons_self
      · rw [List.getElem?_set_ne (Ne.symm hik)] at hv
        refine hc.2.2 (i, q_cv ad v') (List.mem_cons_of_mem _ (List.mem_filter.mpr ⟨q_as_mem.mpr ⟨i, v', hv, rfl⟩, ?_⟩))
        have h2 := fun e => q_nl_use h.2 hv e
        simp only [Bool.and_eq_true, Bool.not_eq_true', beq_eq_false_iff_ne, ne_eq, Bool.and_eq_false_iff, q_cvcat]
        refine ⟨hik, hi1, ?_⟩
        by_cases e : i + 1 = k
        · exact Or.inr (h2 e)
        · exact Or.inl e
  · cases hs
theorem q_sto_len {l l' : q_L} {k : Nat} {v : q_V} (hs : q_sto l k v = some l') : k < l.length ∧ l'.length = l.length ∧ ∀ w, some w ∈ l' → some w ∈ l ∨ w = v := by
  unfold q_sto at hs
  split at hs
  · next h =>
    cases hs
    refine ⟨h.1, by simp, fun w hw => ?_⟩
    rcases List.mem_or_eq_of_mem_set hw with h | h
    · exact Or.inl h
    · exact Or.inr (Option.some.inj h)
  · cases hs
theorem q_sto2_len {l l' : q_L} {k : Nat} {v : q_V} (hs : q_sto2 l k v = some l') : k + 1 < l.length ∧ l'.length = l.length ∧ ∀ w, some w ∈ l' → some w ∈ l ∨ w = v := by
  unfold q_sto2 at hs
  split at hs
  · next h =>
    cases hs
    refine ⟨h.1, by simp, fun w hw => ?_⟩
    rcases List.mem_or_eq_of_mem_set hw with h | h
    · rcases List.mem_or_eq_of_mem_set h with h | h
      · exact Or.inl h
      · exact Or.inr (Option.some.inj h)
    · cases h
  · cases hs
/-! numbers -/
theorem q_toI {x : Int} (h : q_r x) : (Int32.ofInt x).toInt = x := by
  rw [Int32.toInt_ofInt]
  show Int.bmod x 4294967296 = x
  exact Int.bmod_eq_of_le (by have := h.1; omega) (by have := h.2; omega)
theorem q_toL {x : Int} (h : q_r6 x) : (Int64.ofInt x).toInt = x := by
  rw [Int64.toInt_ofInt]
  show Int.bmod x 18446744073709551616 = x
  exact Int.bmod_eq_of_le (by have := h.1; omega) (by have := h.2; omega)
theorem q_w_r (x : Int) : q_r (q_w x) := by
  unfold q_w q_r
  constructor
  · have := Int.le_bmod (x := x) (m := 4294967296) (by decide); omega
  · have := Int.bmod_lt (x := x) (m := 4294967296) (by decide); omega
theorem q_w6_r (x : Int) : q_r6 (q_w6 x) := by
  unfold q_w6 q_r6
  constructor
  · have := Int.le_bmod (x := x) (m := 18446744073709551616) (by decide); omega
  · have := Int.bmod_lt (x := x) (m := 18446744073709551616) (by decide); omega
theorem q_w_id {x : Int} (h : q_r x) : q_w x = x := Int.bmod_eq_of_le (by have := h.1; omega) (by have := h.2; omega)
theorem q_w6_id {x : Int} (h : q_r6 x) : q_w6 x = x := Int.bmod_eq_of_le (by have := h.1; omega) (by have := h.2; omega)
theorem q_ofw (x : Int) : Int32.ofInt (q_w x) = Int32.ofInt x := by
  apply Int32.toInt_inj.mp
  rw [Int32.toInt_ofInt, Int32.toInt_ofInt]
  show (Int.bmod (Int.bmod x 4294967296) 4294967296) = Int.bmod x 4294967296
  exact Int.bmod_bmod
theorem q_ofw6 (x : Int) : Int64.ofInt (q_w6 x) = Int64.ofInt x := by
  apply Int64.toInt_inj.mp
  rw [Int64.toInt_ofInt, Int64.toInt_ofInt]
  show (Int.bmod (Int.bmod x 18446744073709551616) 18446744073709551616) = Int.bmod x 18446744073709551616
  exact Int.bmod_bmod
theorem q_lt {x y : Int} (hx : q_r x) (hy : q_r y) : Int32.ofInt x < Int32.ofInt y ↔ x < y := by rw [Int32.lt_iff_toInt_lt, q_toI hx, q_toI hy]
theorem q_le {x y : Int} (hx : q_r x) (hy : q_r y) : Int32.ofInt x ≤ Int32.ofInt y ↔ x ≤ y := by rw [Int32.le_iff_toInt_le, q_toI hx, q_toI hy]
theorem q_eq {x y : Int} (hx : q_r x) (hy : q_r y) : Int32.ofInt x = Int32.ofInt y ↔ x = y := by rw [← Int32.toInt_inj, q_toI hx, q_toI hy]
theorem q_0r : q_r 0 := ⟨by decide, by decide⟩
theorem q_in {i : Int} {n : Nat} (hr : q_r i) (h : 0 ≤ i ∧ i < (n : Int)) : vp_in (Int32.ofInt i) n ∧ (Int32.ofInt i).toNatClampNeg = i.toNat := by
  refine ⟨vp_in_iff.mpr (by rw [q_toI hr]; exact h), ?_⟩
  show (Int32.ofInt i).toInt.toNat = i.toNat
  rw [q_toI hr]
end
section
/-! what a method's body stands on -/
def q_WT : List Cond := lw_tbl.filter goodWord
abbrev q_SRt : Type := List (String × Nat × String × Nat)
/-- statics that hold a reference or null -/
def q_ZS : List (String × String × String) := [("jdk/internal/util/Preconditions", "SIOOBE_FORMATTER", "Ljava/util/function/BiFunction;"), ("java/lang/Throwable", "UNASSIGNED_STACK", "[Ljava/lang/StackTraceElement;"), ("java/lang/Throwable", "SUPPRESSED_SENTINEL", "Ljava/util/List;")]
/-- words of a throw that the good ones don't tell -/
def q_DL : List MethodName := [⟨"java/lang/RuntimeException", "<init>", "()V"⟩, ⟨"java/lang/RuntimeException", "<init>", "(Ljava/lang/String;)V"⟩, ⟨"java/lang/Exception", "<init>", "()V"⟩, ⟨"java/lang/Exception", "<init>", "(Ljava/lang/String;)V"⟩, ⟨"java/lang/Throwable", "<init>", "()V"⟩, ⟨"java/lang/Throwable", "<init>", "(Ljava/lang/String;)V"⟩]
def q_CL : List String := ["java/lang/IllegalArgumentException", "java/lang/IllegalStateException", "java/lang/UnsupportedOperationException"]
/-- an exception that another's handler doesn't take -/
def q_NC : List (String × String) := [("java/lang/IllegalStateException", "java/lang/IllegalArgumentException"), ("java/lang/UnsupportedOperationException", "java/lang/IllegalStateException")]
def q_E9 (P : q_P) (a : Nat) (A : Nat → Prop) (U : State) (H : Heap) : Prop := va_T .int a (q_sc P).length (fun j => .int (Int32.ofInt ((q_sc P).getD j 0))) A U H ∧ (∀ z ∈ q_ZS, vx_Zq z.1 z.2.1 z.2.2 A U H) ∧ (∀ x ∈ q_DL, va_Nw (.declares x) U) ∧ (∀ x ∈ q_CL, va_Nw (.castable x x) U) ∧ ∀ x ∈ q_NC, va_Nc x.1 x.2 U
/-- what isn't in the world: links in the nest, the String constants, String's static -/
def q_E (P : q_P) (NW : List (String × Nat × MethodName × String)) (SR : q_SRt) (ad : Nat → Nat) (A : Nat → Prop) (U : State) (H : Heap) : Prop :=
  (∀ w ∈ NW, va_Nw (.methodLinkNest w.1 w.2.1 w.2.2.1 w.2.2.2) U) ∧ (∀ r ∈ SR, vk_R r.1 r.2.1 r.2.2.1 (ad (1000 + r.2.2.2)) U) ∧
  vk_S (q_sb P).length ((q_sb P).map List.length) ((q_sb P).map (List.map Int32.ofInt)) (fun i => ad (1000 + i)) (fun i => ad (2000 + i)) A U H ∧ va_Z "java/lang/String" "COMPACT_STRINGS" "Z" (.int 1) A U H ∧ q_E9 P (ad 3000) A U H
theorem q_E.go {P : q_P} {NW : List (String × Nat × MethodName × String)} {SR : q_SRt} {ad ad' : Nat → Nat} {A B : Nat → Prop} {s U : State} {H : Heap} {locs : List Loc} {n : Nat} (h : q_E P NW SR ad A s s.heap) (hS : va_S A s.heap H locs) (hW : s.WarmedH U.vm) (hU : U.heap = H) (hB : ∀ q, B q → A q) (ha : q_adx n ad ad') : q_E P NW SR ad' B U U.heap := by
  obtain ⟨h1, h2, h3, h4, h9⟩ := h
  have e1 : ∀ i, ad' (1000 + i) = ad (1000 + i) := fun i => ha _ (Or.inr (by omega))
  have e2 : ∀ i, ad' (2000 + i) = ad (2000 + i) := fun i => ha _ (Or.inr (by omega))
  refine ⟨fun w hw => va_Nw.warmM hW (h1 w hw), fun r hr => by rw [e1]; exact vk_R.warm hW (h2 r hr), ?_, ?_, ?_, fun z hz => ?_, fun x hx => va_Nw.warmD hW (h9.2.2.1 x hx), fun x hx => va_Nw.warmC hW (h9.2.2.2.1 x hx), fun x hx => va_Nc.moved hW.alike (h9.2.2.2.2 x hx)⟩
  · rw [hU]
    simp only [e1, e2]
    exact ((h3.kept (fun a h5 h6 => hS.2.1 a h5 h6)).narrow hB).moved hW.alike
  · rw [hU]
    exact ((h4.kept (fun a h5 h6 => hS.2.1 a h5 h6)).narrow hB).moved hW.alike
  · rw [hU, ha 3000 (Or.inr (by decide))]
    exact ((h9.1.kept (fun a h5 h6 => hS.2.1 a h5 h6)).narrow hB).moved hW.alike
  · rw [hU]
    exact (((h9.2.1 z hz).kept (fun a h5 h6 => hS.2.1 a h5 h6)).narrow hB).moved hW.alike
/-- the tables of fields, kinds, constants are right -/
def q_Fok (P : q_P) (Rn : Nat → String) : Prop := ∀ co idx ci j : Nat, q_fl P co idx = some (ci, j) →
  (ci = 100 ∧ ((j = 0 ∧ Cond.fieldLink (Rn co) idx "java/lang/String" "value" "[B" ∈ q_WT) ∨ (j ≠ 0 ∧ Cond.fieldLink (Rn co) idx "java/lang/String" "coder" "B" ∈ q_WT))) ∨
  (ci = 101 ∧ Cond.fieldLink (Rn co) idx "java/lang/String" "COMPACT_STRINGS" "Z" ∈ q_WT) ∨
  (ci < 13 ∧ ∀ (C : String) (T : u_T) (N : Nat), vwCl[ci]? = some (C, T, N) → j < N ∧ Cond.fieldLink (Rn co) idx (T j).1 (T j).2.1 (T j).2.2.1 ∈ q_WT)
def q_Cok (P : q_P) (Rn : Nat → String) : Prop := ∀ (ci : Nat) (C : String) (T : u_T) (N : Nat), vwCl[ci]? = some (C, T, N) → q_nf P ci = N ∧ N ≤ 100 ∧ Rn ci = C ∧ (∀ w ∈ u_ws C T N, w ∈ q_WT) ∧ (∀ a, a < N → ∀ b, b < N → a ≠ b → (T a).2.1 ≠ (T b).2.1) ∧
  ∃ ty : Nat → FieldType, (∀ k, k < N → parseFieldDescriptor (T k).2.2.1 = some (ty k)) ∧ ∀ j, j < N → (q_ft P ci j = 0 ∧ ty j = .int ∧ (T j).2.2.2 = false) ∨ (q_ft P ci j = 1 ∧ ty j = .boolean ∧ (T j).2.2.2 = false) ∨ (q_ft P ci j = 4 ∧ (T j).2.2.2 = true ∧ (T j).1 = C ∧ ((∃ n, ty j = .object n) ∨ ∃ t, ty j = .array t))
def q_Nok (P : q_P) (Rn : Nat → String) : Prop := ∀ co idx ci : Nat, q_cn P co idx = some ci → ∃ (C : String) (T : u_T) (N : Nat), vwCl[ci]? = some (C, T, N) ∧ Cond.classLink (Rn co) idx C ∈ q_WT ∧ Cond.instantiable C N ∈ q_WT ∧ Cond.initialized C ∈ q_WT
def q_Lok (P : q_P) (SR : q_SRt) (Rn : Nat → String) : Prop := ∀ (co idx : Nat) (v : q_V), q_ld P co idx = some v → (∃ x : Int, v = .inl x ∧ q_r x ∧ Cond.constant (Rn co) idx (Int32.ofInt x) ∈ q_WT) ∨ ∃ (i : Nat) (tx : String), v = .inr (.inr (1000 + i)) ∧ (Rn co, idx, tx, i) ∈ SR
def q_Aok : Prop := Cond.arrayClass .int ∈ q_WT ∧ Cond.arrayClass .boolean ∈ q_WT ∧ Cond.arrayClass .char ∈ q_WT ∧ Cond.arrayClass .long ∈ q_WT
def q_X (p : Program) (s : State) (m : MethodId) (args : Array Value) (meth : Method) (c : Code) (Rn : Nat → String) (co : Nat) (cc : ByteArray) (nL : Nat) (ini : Bool) (D : va_G) (cT : Nat → ClassId) (A : Nat → Prop) : Prop :=
  p.tables.exec = Jvm.exec ∧ c.code = cc ∧ c.maxLocals = nL ∧ s.vm.findClass (Rn co) = some m.cls ∧ (∀ w ∈ q_WT, w.before args s = true) ∧ va_K D vwCl (q_tys cT) s ∧ (∀ q, s.heap.size ≤ q → A q) ∧ (ini = true → meth.name = "<init>")
def q_Y (P : q_P) (NW : List (String × Nat × MethodName × String)) (SR : q_SRt) (s : State) (nL : Nat) (D : va_G) (cT : Nat → ClassId) (A : Nat → Prop) (ad : Nat → Nat) (l : q_L) (st : List q_V) (G : q_G) (M : q_M) (H : Heap) (locs : List Loc) (ls : Array Slot) : Prop :=
  va_P D vwCl (q_ws P cT ad G M) H ∧ va_D A (q_ws P cT ad G M) ∧ va_S A s.heap H locs ∧ q_oG P G ∧ q_oM G M ∧ q_lc ad ls l ∧ (∀ v, some v ∈ l → q_ov G.length v) ∧ (∀ v ∈ st, q_ov G.length v) ∧ l.length = nL ∧ q_E P NW SR ad A s s.heap
theorem q_Y.st {P : q_P} {NW : List (String × Nat × MethodName × String)} {SR : q_SRt} {s : State} {nL : Nat} {D : va_G} {cT : Nat → ClassId} {A : Nat → Prop} {ad : Nat → Nat} {l : q_L} {st st' : List q_V} {G : q_G} {M : q_M} {H : Heap} {locs : List Loc} {ls : Array Slot} (h : q_Y P NW SR s nL D cT A ad l st G M H locs ls) (hs : ∀ v ∈ st', q_ov G.length v) : q_Y P NW SR s nL D cT A ad l st' G M H locs ls := by
  obtain ⟨a, b, c, d, e, f, g, -, i, j⟩ := h
  exact ⟨a, b, c, d, e, f, g, hs, i, j⟩
theorem q_Y.lc {P : q_P} {NW : List (String × Nat × MethodName × String)} {SR : q_SRt} {s : State} {nL : Nat} {D : va_G} {cT : Nat → ClassId} {A : Nat → Prop} {ad : Nat → Nat} {l l' : q_L} {st st' : List q_V} {G : q_G} {M : q_M} {H : Heap} {locs : List Loc} {ls ls' : Array Slot} (h : q_Y P NW SR s nL D cT A ad l st G M H locs ls) (hs : ∀ v ∈ st', q_ov G.length v) (hl : q_lc ad ls' l') (ho : ∀ v, some v ∈ l' → q_ov G.length v) (hn : l'.length = nL) : q_Y P NW SR s nL D cT A ad l' st' G M H locs ls' := by
  obtain ⟨a, b, c, d, e, -, -, -, -, j⟩ := h
  exact ⟨a, b, c, d, e, hl, ho, hs, hn, j⟩
/-- one row of numbers has changed -/
theorem q_ws_set {P : q_P} {cT : Nat → ClassId} {ad : Nat → Nat} {G : q_G} {M M' : q_M} {k : Nat} {sh : q_S} (h : G[k]? = some sh) (ho : ∀ a, a ≠ k → M' a = M a) : (q_ws P cT ad G M).set k (ad k, q_c P cT ad sh (M' k)) = q_ws P cT ad G M' := by
  apply List.ext_getElem?
  intro i
  have hl : k < G.length := (List.getElem?_eq_some_iff.mp h).1
  by_cases e : i = k
  · subst e
    rw [List.getElem?_set_self (by rw [q_ws_len]; exact hl), q_ws_get h]
  · rw [List.getElem?_set_ne (Ne.symm e)]
    simp only [q_ws, List.getElem?_mapIdx, ho i e]
theorem q_up_o {M : q_M} {k j : Nat} {v : Int} : ∀ a, a ≠ k → q_up M k j v a = M a := fun a h => by funext b; simp [q_up, h]
theorem q_up_k {M : q_M} {k j : Nat} {v : Int} : q_up M k j v k = fun b => if b = j then v else M k b := by funext b; simp [q_up]
theorem q_oM_up {G : q_G} {M : q_M} {k j : Nat} {v : Int} (h : q_oM G M) (h6 : q_r6 v) (h3 : (∀ n : Nat, G[k]? ≠ some (Sum.inl (3, n))) → q_r v) : q_oM G (q_up M k j v) := by
  intro a b
  unfold q_up
  by_cases e : a = k
  · subst e
    rw [if_pos rfl]
    split
    · exact ⟨h6, h3⟩
    · exact h a b
  · rw [if_neg e]; exact h a b
theorem q_r_6 {x : Int} (h : q_r x) : q_r6 x := ⟨by have := h.1; omega, by have := h.2; omega⟩
end
section
def q_KK (p : Program) (l0 : Launch) (e : Env) (R : Room) (s : State) (m : MethodId) (args : Array Value) (below : List Frame) (meth : Method) (c : Code) (Q : State → Prop) (P : q_P) (NW : List (String × Nat × MethodName × String)) (SR : q_SRt) (nL : Nat) (D : va_G) (cT : Nat → ClassId) (A : Nat → Prop) (ad : Nat → Nat) (G : q_G) (pc' : Nat) (T : q_T) : Prop :=
  ∀ (ad' : Nat → Nat) (H' : Heap) (locs' : List Loc) (ls' : Array Slot), q_adx G.length ad ad' → G.length ≤ T.2.2.1.length → q_Y P NW SR s nL D cT A ad' T.1 T.2.1 T.2.2.1 T.2.2.2.1 H' locs' ls' → W p l0 e R s m args below meth c H' locs' T.2.2.2.2.1 T.2.2.2.2.2 Q (F0 m pc' ls' (T.2.1.map (q_cv ad')))
section QS
variable {p : Program} {l0 : Launch} {e : Env} {R : Room} {s : State} {m : MethodId} {args : Array Value} {below : List Frame} {meth : Method} {c : Code} {Q : State → Prop}
variable {P : q_P} {NW : List (String × Nat × MethodName × String)} {SR : q_SRt} {Rn : Nat → String} {co : Nat} {cc : ByteArray} {nL : Nat} {ini : Bool} {D : va_G} {cT : Nat → ClassId} {A : Nat → Prop} {ad : Nat → Nat} {l : q_L} {st : List q_V} {G : q_G} {M : q_M} {H : Heap} {locs : List Loc} {ls : Array Slot} {ca sa pc len : Nat} {T : q_T}
theorem q_go (Y : q_Y P NW SR s nL D cT A ad l st G M H locs ls) {st' : List q_V} (kk : q_KK p l0 e R s m args below meth c Q P NW SR nL D cT A ad G pc (l, st', G, M, ca, sa)) (hs : ∀ v ∈ st', q_ov G.length v) : W p l0 e R s m args below meth c H locs ca sa Q (F0 m pc ls (st'.map (q_cv ad))) :=
  kk ad H locs ls q_adx.rf (Nat.le_refl _) (Y.st hs)
theorem q_getD {l : q_L} {k : Nat} {v : q_V} (h : l.getD k none = some v) : l[k]? = some (some v) := by
  rw [List.getD_eq_getElem?_getD] at h
  rcases hk : l[k]? with _ | x
  · rw [hk] at h; cases h
  · rw [hk] at h
    simp only [Option.getD_some] at h
    rw [h]
theorem q_ldI_s {k : Nat} (Y : q_Y P NW SR s nL D cT A ad l st G M H locs ls) (hs : q_ldI l k st G M ca sa = some T) (kk : q_KK p l0 e R s m args below meth c Q P NW SR nL D cT A ad G (pc + len) T)
    (hw : ∀ x : Int32, ls[k]? = some (.val (.int x)) → W p l0 e R s m args below meth c H locs ca sa Q (F0 m (pc + len) ls (.int x :: st.map (q_cv ad))) → W p l0 e R s m args below meth c H locs ca sa Q (F0 m pc ls (st.map (q_cv ad)))) : W p l0 e R s m args below meth c H locs ca sa Q (F0 m pc ls (st.map (q_cv ad))) := by
  unfold q_ldI at hs
  split at hs
  · next x h =>
    cases hs
    have hv := q_getD h
    refine hw _ (Y.2.2.2.2.2.1.2.2 k _ hv) ?_
    exact q_go Y kk (fun v hm => by
      rcases List.mem_cons.mp hm with rfl | hm
      · exact Y.2.2.2.2.2.2.1 _ (List.mem_of_getElem? hv)
      · exact Y.2.2.2.2.2.2.2.1 v hm)
  · cases hs
theorem q_ldL_s {k : Nat} (Y : q_Y P NW SR s nL D cT A ad l st G M H locs ls) (hs : q_ldL l k st G M ca sa = some T) (kk : q_KK p l0 e R s m args below meth c Q P NW SR nL D cT A ad G (pc + len) T)
    (hw : ∀ x : Int64, ls[k]? = some (.val (.long x)) → W p l0 e R s m args below meth c H locs ca sa Q (F0 m (pc + len) ls (.long x :: st.map (q_cv ad))) → W p l0 e R s m args below meth c H locs ca sa Q (F0 m pc ls (st.map (q_cv ad)))) : W p l0 e R s m args below meth c H locs ca sa Q (F0 m pc ls (st.map (q_cv ad))) := by
  unfold q_ldL at hs
  split at hs
  · next x h =>
    cases hs
    have hv := q_getD h
    refine hw _ (Y.2.2.2.2.2.1.2.2 k _ hv) ?_
    exact q_go Y kk (fun v hm => by
      rcases List.mem_cons.mp hm with rfl | hm
      · exact Y.2.2.2.2.2.2.1 _ (List.mem_of_getElem? hv)
      · exact Y.2.2.2.2.2.2.2.1 v hm)
  · cases hs
theorem q_ldR_s {k : Nat} (Y : q_Y P NW SR s nL D cT A ad l st G M H locs ls) (hs : q_ldR l k st G M ca sa = some T) (kk : q_KK p l0 e R s m args below meth c Q P NW SR nL D cT A ad G (pc + len) T)
    (hw : ∀ x : Nat, ls[k]? = some (.val (.ref x)) → W p l0 e R s m args below meth c H locs ca sa Q (F0 m (pc + len) ls (.ref x :: st.map (q_cv ad))) → W p l0 e R s m args below meth c H locs ca sa Q (F0 m pc ls (st.map (q_cv ad)))) : W p l0 e R s m args below meth c H locs ca sa Q (F0 m pc ls (st.map (q_cv ad))) := by
  unfold q_ldR at hs
  split at hs
  · next x h =>
    cases hs
    have hv := q_getD h
    refine hw _ (Y.2.2.2.2.2.1.2.2 k _ hv) ?_
    exact q_go Y kk (fun v hm => by
      rcases List.mem_cons.mp hm with rfl | hm
      · exact Y.2.2.2.2.2.2.1 _ (List.mem_of_getElem? hv)
      · exact Y.2.2.2.2.2.2.2.1 v hm)
  · cases hs
theorem q_sto_s {k : Nat} {v : q_V} {l' : q_L} {r : List q_V} (Y : q_Y P NW SR s nL D cT A ad l st G M H locs ls) (hv : q_ov G.length v) (hr : ∀ v ∈ r, q_ov G.length v) (hs : q_sto l k v = some l') (kk : q_KK p l0 e R s m args below meth c Q P NW SR nL D cT A ad G (pc + len) (l', r, G, M, ca, sa))
    (hw : ∀ (lv lv' : List (Nat × Value)), lv_has ls nL lv → k < nL → (k, q_cv ad v) :: lv.filter (fun q => !(q.1 == k) && !(q.1 + 1 == k && q.2.category == 2)) = lv' → (∀ ls' : Array Slot, lv_has ls' nL lv' → W p l0 e R s m args below meth c H locs ca sa Q (F0 m (pc + len) ls' (r.map (q_cv ad)))) → W p l0 e R s m args below meth c H locs ca sa Q (F0 m pc ls (st.map (q_cv ad)))) : W p l0 e R s m args below meth c H locs ca sa Q (F0 m pc ls (st.map (q_cv ad))) := by
  have hn := Y.2.2.2.2.2.2.2.2.1
  obtain ⟨h1, h2, h3⟩ := q_sto_len hs
  refine hw (q_as ad l) _ (hn ▸ Y.2.2.2.2.2.1.has) (hn ▸ h1) rfl (fun ls' hl => ?_)
  exact kk ad H locs ls' q_adx.rf (Nat.le_refl _) (Y.lc hr (q_sto_lc hs (by rw [hn]; exact hl)) (fun w hw => (h3 w hw).elim (Y.2.2.2.2.2.2.1 w) (fun e => e ▸ hv)) (h2.trans hn))
theorem q_sto2_s {k : Nat} {v : q_V} {l' : q_L} {r : List q_V} (Y : q_Y P NW SR s nL D cT A ad l st G M H locs ls) (hv : q_ov G.length v) (hr : ∀ v ∈ r, q_ov G.length v) (hs : q_sto2 l k v = some l') (kk : q_KK p l0 e R s m args below meth c Q P NW SR nL D cT A ad G (pc + len) (l', r, G, M, ca, sa))
    (hw : ∀ (lv lv' : List (Nat × Value)), lv_has ls nL lv → k + 1 < nL → (k, q_cv ad v) :: lv.filter (fun q => !(q.1 == k) && (!(q.1 == k + 1) && !(q.1 + 1 == k && q.2.category == 2))) = lv' → (∀ ls' : Array Slot, lv_has ls' nL lv' → W p l0 e R s m args below meth c H locs ca sa Q (F0 m (pc + len) ls' (r.map (q_cv ad)))) → W p l0 e R s m args below meth c H locs ca sa Q (F0 m pc ls (st.map (q_cv ad)))) : W p l0 e R s m args below meth c H locs ca sa Q (F0 m pc ls (st.map (q_cv ad))) := by
  have hn := Y.2.2.2.2.2.2.2.2.1
  obtain ⟨h1, h2, h3⟩ := q_sto2_len hs
  refine hw (q_as ad l) _ (hn ▸ Y.2.2.2.2.2.1.has) (hn ▸ h1) rfl (fun ls' hl => ?_)
  exact kk ad H locs ls' q_adx.rf (Nat.le_refl _) (Y.lc hr (q_sto2_lc hs (by rw [hn]; exact hl)) (fun w hw => (h3 w hw).elim (Y.2.2.2.2.2.2.1 w) (fun e => e ▸ hv)) (h2.trans hn))
theorem q_tl {v : q_V} {r st : List q_V} {n : Nat} (h : ∀ v ∈ st, q_ov n v) (e : st = v :: r) : q_ov n v ∧ ∀ w ∈ r, q_ov n w := by
  subst e
  exact ⟨h v List.mem_cons_self, fun w hw => h w (List.mem_cons_of_mem _ hw)⟩
theorem q_cons {v : q_V} {r : List q_V} {n : Nat} (h : q_ov n v) (hr : ∀ v ∈ r, q_ov n v) : ∀ w ∈ v :: r, q_ov n w := fun w hw => (List.mem_cons.mp hw).elim (fun e => e ▸ h) (hr w)
/-- two ints give one -/
theorem q_ii_s {f : Int → Int → Option Int} (Y : q_Y P NW SR s nL D cT A ad l st G M H locs ls) (hs : q_ii f l st G M ca sa = some T) (kk : q_KK p l0 e R s m args below meth c Q P NW SR nL D cT A ad G (pc + 1) T)
    (hw : ∀ (x y z : Int) (rest : List Value), q_r x → q_r y → f x y = some z → q_r z ∧ (W p l0 e R s m args below meth c H locs ca sa Q (F0 m (pc + 1) ls (.int (Int32.ofInt z) :: rest)) → W p l0 e R s m args below meth c H locs ca sa Q (F0 m pc ls (.int (Int32.ofInt y) :: .int (Int32.ofInt x) :: rest)))) : W p l0 e R s m args below meth c H locs ca sa Q (F0 m pc ls (st.map (q_cv ad))) := by
  unfold q_ii at hs
  split at hs
  · next y x r =>
    obtain ⟨hy, h1⟩ := q_tl Y.2.2.2.2.2.2.2.1 rfl
    obtain ⟨hx, hr⟩ := q_tl h1 rfl
    split at hs
    · next z hz =>
      cases hs
      obtain ⟨h2, h3⟩ := hw x y z (r.map (q_cv ad)) hx hy hz
      exact h3 (q_go Y kk (q_cons (show q_ov G.length (.inl z) from h2) hr))
    · cases hs
  · cases hs
end QS
end
section
section QM
variable {p : Program} {l0 : Launch} {e : Env} {R : Room} {s : State} {m : MethodId} {args : Array Value} {below : List Frame} {meth : Method} {c : Code} {Q : State → Prop}
variable {P : q_P} {NW : List (String × Nat × MethodName × String)} {SR : q_SRt} {Rn : Nat → String} {co : Nat} {cc : ByteArray} {nL : Nat} {ini : Bool} {D : va_G} {cT : Nat → ClassId} {A : Nat → Prop} {ad : Nat → Nat} {l : q_L} {st : List q_V} {G : q_G} {M : q_M} {H : Heap} {locs : List Loc} {ls : Array Slot} {ca sa pc len idx : Nat} {T : q_T}
theorem q_cl13 {ci : Nat} (h : ci < 13) : ∃ (C : String) (T : u_T) (N : Nat), vwCl[ci]? = some (C, T, N) := by
  have hl : ci < vwCl.length := h
  exact ⟨vwCl[ci].1, vwCl[ci].2.1, vwCl[ci].2.2, by rw [List.getElem?_eq_getElem hl]⟩
theorem q_get_s (X : q_X p s m args meth c Rn co cc nL ini D cT A) (hF : q_Fok P Rn) (hC : q_Cok P Rn) (Y : q_Y P NW SR s nL D cT A ad l st G M H locs ls) (hs : q_get P co idx l st G M ca sa = some T) (kk : q_KK p l0 e R s m args below meth c Q P NW SR nL D cT A ad G (pc + 3) T) (hd : decode cc pc = .ok (.getfield idx, 3)) : W p l0 e R s m args below meth c H locs ca sa Q (F0 m pc ls (st.map (q_cv ad))) := by
  obtain ⟨hx, hb, hml, hown, hts, hK, hA, hin⟩ := X
  unfold q_get at hs
  split at hs
  · next ci j a r hfl =>
    obtain ⟨ha, hr⟩ := q_tl Y.2.2.2.2.2.2.2.1 rfl
    split at hs
    · next h100 =>
      subst h100
      have hf := hF _ _ _ _ hfl
      split at hs
      · next hrg =>
        obtain ⟨i, rfl⟩ : ∃ i, a = 1000 + i := ⟨a - 1000, by omega⟩
        have hi : i < (q_sb P).length := by omega
        have hK9 := (Y.2.2.2.2.2.2.2.2.2.2.2.1).1 i hi
        rcases hf with ⟨-, hf⟩ | ⟨h, -⟩ | ⟨h, -⟩
        · rcases hf with ⟨hj, hf⟩ | ⟨hj, hf⟩
          · rw [if_pos hj] at hs
            cases hs
            refine vk_getf hx hb hK9.2.2.1 Y.2.2.1 hown (hts _ hf) (fun _ h => h) hd ?_
            have e0 : 1000 + i + 1000 = 2000 + i := by omega
            have := q_go Y kk (q_cons (show q_ov G.length (.inr (.inr (1000 + i + 1000))) from Or.inr (by omega)) hr)
            rw [e0] at this
            exact this
          · rw [if_neg hj] at hs
            cases hs
            exact vk_getf hx hb hK9.2.1 Y.2.2.1 hown (hts _ hf) (fun _ h => h) hd (q_go Y kk (q_cons (show q_ov G.length (.inl 0) from q_0r) hr))
        · omega
        · omega
      · cases hs
    · next h100 =>
      split at hs
      · next cj rs hG =>
        split at hs
        · next hcj =>
          subst hcj
          obtain ⟨hl, hc13, hrs⟩ := Y.2.2.2.1.2.1 a cj rs hG
          obtain ⟨C, T0, N, hcl⟩ := q_cl13 hc13
          obtain ⟨hN, -, hRn, hws, hnm, ty, hty, hft⟩ := hC cj C T0 N hcl
          rcases hF _ _ _ _ hfl with ⟨h, -⟩ | ⟨h, -⟩ | ⟨-, hf⟩
          · exact absurd h h100
          · omega
          · obtain ⟨hj, hlk⟩ := hf C T0 N hcl
            have hv : ((List.range (q_nf P cj)).map (q_sv P ad cj rs (M a)))[j]? = some (q_sv P ad cj rs (M a) j) := by
              rw [List.getElem?_map, List.getElem?_range (by omega)]; rfl
            refine va_get hx hb hts hws hown hK Y.1 a (q_ws_get hG) hcl j hj (hts _ hlk) (fun _ h => h) hv hd ?_
            split at hs
            · next h4 =>
              split at hs
              · next k hk =>
                cases hs
                have e1 : q_sv P ad cj rs (M a) j = .ref (ad k) := by unfold q_sv; rw [if_pos h4, hk]
                rw [e1]
                exact q_go Y kk (q_cons (show q_ov G.length (.inr (.inr k)) from Or.inl (hrs j k hk)) hr)
              · cases hs
            · next h4 =>
              cases hs
              have e1 : q_sv P ad cj rs (M a) j = .int (Int32.ofInt (M a j)) := by unfold q_sv; rw [if_neg h4]
              rw [e1]
              exact q_go Y kk (q_cons (show q_ov G.length (.inl (M a j)) from (Y.2.2.2.2.1 a j).2 (fun n h => by rw [hG] at h; cases h)) hr)
        · cases hs
      · cases hs
  · cases hs
theorem q_fit_int (x : Int) : narrow .int (.int (Int32.ofInt x)) = .int (Int32.ofInt x) ∧ fits .int (.int (Int32.ofInt x)) = true := ⟨rfl, rfl⟩
theorem q_fit_bool {x : Int} (h : x = 0 ∨ x = 1) : narrow .boolean (.int (Int32.ofInt x)) = .int (Int32.ofInt x) ∧ fits .boolean (.int (Int32.ofInt x)) = true := by
  rcases h with rfl | rfl <;> exact ⟨by decide +kernel, by decide +kernel⟩
theorem q_fit_ref {ty : FieldType} {a : Nat} (h : (∃ n, ty = .object n) ∨ ∃ t, ty = .array t) : narrow ty (.ref a) = .ref a ∧ fits ty (.ref a) = true := by
  rcases h with ⟨n, rfl⟩ | ⟨t, rfl⟩ <;> exact ⟨rfl, rfl⟩
/-- an object's fields after a store -/
theorem q_fs_set {ci j a : Nat} {rs : List Nat} {x : Int} (hj : q_ft P ci j ≠ 4) : ((List.range (q_nf P ci)).map (q_sv P ad ci rs (M a))).set j (.int (Int32.ofInt x)) = (List.range (q_nf P ci)).map (q_sv P ad ci rs (q_up M a j x a)) := by
  apply List.ext_getElem?
  intro i
  by_cases hi : i < q_nf P ci
  · by_cases e0 : i = j
    · subst e0
      rw [List.getElem?_set_self (by simp; exact hi), List.getElem?_map, List.getElem?_range hi]
      simp [q_sv, hj, q_up]
    · rw [List.getElem?_set_ne (Ne.symm e0), List.getElem?_map, List.getElem?_map, List.getElem?_range hi]
      simp [q_sv, q_up, e0]
  · rw [List.getElem?_eq_none (by simp; omega), List.getElem?_eq_none (by simp; omega)]
theorem q_fs_setR {ci j a k : Nat} {rs : List Nat} (hj : q_ft P ci j = 4) (hl : rs.length = q_nf P ci) : ((List.range (q_nf P ci)).map (q_sv P ad ci rs (M a))).set j (.ref (ad k)) = (List.range (q_nf P ci)).map (q_sv P ad ci (rs.set j (k + 1)) (M a)) := by
  apply List.ext_getElem?
  intro i
  by_cases hi : i < q_nf P ci
  · by_cases e0 : i = j
    · subst e0
      rw [List.getElem?_set_self (by simp; exact hi), List.getElem?_map, List.getElem?_range hi]
      simp [q_sv, hj, List.getElem?_set_self (show i < rs.length by omega)]
    · rw [List.getElem?_set_ne (Ne.symm e0), List.getElem?_map, List.getElem?_map, List.getElem?_range hi]
      simp [q_sv, List.getElem?_set_ne (Ne.symm e0)]
  · rw [List.getElem?_eq_none (by simp; omega), List.getElem?_eq_none (by simp; omega)]
theorem q_ws_setG {k : Nat} {sh sh' : q_S} (h : G[k]? = some sh) : (q_ws P cT ad G M).set k (ad k, q_c P cT ad sh' (M k)) = q_ws P cT ad (G.set k sh') M := by
  apply List.ext_getElem?
  intro i
  have hl : k < G.length := (List.getElem?_eq_some_iff.mp h).1
  by_cases e0 : i = k
  · subst e0
    rw [List.getElem?_set_self (by rw [q_ws_len]; exact hl), q_ws_get (List.getElem?_set_self hl)]
  · rw [List.getElem?_set_ne (Ne.symm e0)]
    simp only [q_ws, List.getElem?_mapIdx, List.getElem?_set_ne (Ne.symm e0)]
theorem q_put_s (X : q_X p s m args meth c Rn co cc nL ini D cT A) (hF : q_Fok P Rn) (hC : q_Cok P Rn) (Y : q_Y P NW SR s nL D cT A ad l st G M H locs ls) (hs : q_put P ini co idx l st G M ca sa = some T) (kk : q_KK p l0 e R s m args below meth c Q P NW SR nL D cT A ad G (pc + 3) T) (hd : decode cc pc = .ok (.putfield idx, 3)) : W p l0 e R s m args below meth c H locs ca sa Q (F0 m pc ls (st.map (q_cv ad))) := by
  obtain ⟨hx, hb, hml, hown, hts, hK, hA, hin⟩ := X
  unfold q_put at hs
  split at hs
  · next ci j x a r hfl =>
    obtain ⟨hxr, h1⟩ := q_tl Y.2.2.2.2.2.2.2.1 rfl
    obtain ⟨ha, hr⟩ := q_tl h1 rfl
    split at hs
    · next cj rs hG =>
      split at hs
      · next hcj =>
        subst hcj
        obtain ⟨hl, hc13, hrs⟩ := Y.2.2.2.1.2.1 a cj rs hG
        obtain ⟨C, T0, N, hcl⟩ := q_cl13 hc13
        obtain ⟨hN, -, hRn, hws, hnm, ty, hty, hft⟩ := hC cj C T0 N hcl
        rcases hF _ _ _ _ hfl with ⟨h, -⟩ | ⟨h, -⟩ | ⟨-, hf⟩
        · omega
        · omega
        · obtain ⟨hj, hlk⟩ := hf C T0 N hcl
          have key : q_ft P cj j ≠ 4 → (T0 j).2.2.2 = false → ∀ t : FieldType, parseFieldDescriptor (T0 j).2.2.1 = some t → (narrow t (.int (Int32.ofInt x)) = .int (Int32.ofInt x) ∧ fits t (.int (Int32.ofInt x)) = true) → T = (l, r, G, q_up M a j x, ca, sa) → W p l0 e R s m args below meth c H locs ca sa Q (F0 m pc ls (.int (Int32.ofInt x) :: .ref (ad a) :: r.map (q_cv ad))) := by
            intro h4 hfin t ht hnf hT
            subst hT
            refine va_put hx hb hts hws ty hty hnm hown hK Y.1 Y.2.1 Y.2.2.1 a (q_ws_get hG) hcl j hj (hts _ hlk) (fun _ h => h) hfin ht hnf.1 hnf.2 (by simp; omega) hd (fun H1 locs1 hP1 hD1 hS1 => ?_)
            rw [q_fs_set h4] at hP1 hD1
            have e1 := q_ws_set (P := P) (cT := cT) (ad := ad) (M := M) (M' := q_up M a j x) hG q_up_o
            simp only [q_c] at e1
            rw [e1] at hP1 hD1
            refine kk ad H1 locs1 ls q_adx.rf (Nat.le_refl _) ⟨hP1, hD1, hS1, Y.2.2.2.1, q_oM_up Y.2.2.2.2.1 (q_r_6 hxr) (fun _ => hxr), Y.2.2.2.2.2.1, Y.2.2.2.2.2.2.1, hr, Y.2.2.2.2.2.2.2.2.1, Y.2.2.2.2.2.2.2.2.2⟩
          split at hs
          · next h0 =>
            rcases hft j hj with ⟨-, h2, h3⟩ | ⟨h, -⟩ | ⟨h, -⟩
            · exact key (by omega) h3 _ (by rw [hty j hj, h2]) (q_fit_int x) (Option.some.inj hs).symm
            · omega
            · omega
          · split at hs
            · next h0 =>
              split at hs
              · next hb01 =>
                rcases hft j hj with ⟨h, -⟩ | ⟨-, h2, h3⟩ | ⟨h, -⟩
                · omega
                · exact key (by omega) h3 _ (by rw [hty j hj, h2]) (q_fit_bool hb01) (Option.some.inj hs).symm
                · omega
              · cases hs
            · cases hs
      · cases hs
    · cases hs
  · next ci j k a r hfl =>
    obtain ⟨hkr, h1⟩ := q_tl Y.2.2.2.2.2.2.2.1 rfl
    obtain ⟨ha, hr⟩ := q_tl h1 rfl
    split at hs
    · next cj rs hG =>
      split at hs
      · next hcj =>
        obtain ⟨hcj, hini, hco, h4, hkl⟩ := hcj
        subst hcj
        cases hs
        obtain ⟨hl, hc13, hrs⟩ := Y.2.2.2.1.2.1 a cj rs hG
        obtain ⟨C, T0, N, hcl⟩ := q_cl13 hc13
        obtain ⟨hN, -, hRn, hws, hnm, ty, hty, hft⟩ := hC cj C T0 N hcl
        rcases hF _ _ _ _ hfl with ⟨h, -⟩ | ⟨h, -⟩ | ⟨-, hf⟩
        · omega
        · omega
        · obtain ⟨hj, hlk⟩ := hf C T0 N hcl
          rcases hft j hj with ⟨h, -⟩ | ⟨h, -⟩ | ⟨-, h2, h3, h5⟩
          · omega
          · omega
          · have hnf := q_fit_ref (a := ad k) h5
            refine va_putF hx hb hts hws ty hty hnm hown hK Y.1 Y.2.1 Y.2.2.1 a (q_ws_get hG) hcl j hj (hts _ hlk) (fun _ h => h) h2 (hin hini) (by rw [h3, ← hco, hRn]) (hty j hj) hnf.1 hnf.2 (by simp; omega) hd (fun H1 locs1 hP1 hD1 hS1 => ?_)
            have e9 : q_cv ad (.inr (.inr k)) = .ref (ad k) := rfl
            rw [e9, q_fs_setR h4 hl] at hP1 hD1
            have e1 := q_ws_setG (P := P) (cT := cT) (ad := ad) (M := M) (sh' := .inr (cj, rs.set j (k + 1))) hG
            simp only [q_c] at e1
            rw [e1] at hP1 hD1
            have hlen : (G.set a (.inr (cj, rs.set j (k + 1)))).length = G.length := by simp
            have hal : a < G.length := (List.getElem?_eq_some_iff.mp hG).1
            have hcs : ∀ (i : Nat) (z : q_S), (G.set a (.inr (cj, rs.set j (k + 1))))[i]? = some z → (i = a ∧ z = .inr (cj, rs.set j (k + 1))) ∨ (i ≠ a ∧ G[i]? = some z) := by
              intro i z hz
              by_cases e0 : i = a
              · subst e0
                rw [List.getElem?_set_self hal] at hz
                exact Or.inl ⟨rfl, (Option.some.inj hz).symm⟩
              · rw [List.getElem?_set_ne (Ne.symm e0)] at hz
                exact Or.inr ⟨e0, hz⟩
            refine kk ad H1 locs1 ls q_adx.rf (by simp) ⟨hP1, hD1, hS1, ⟨by show (G.set a _).length ≤ 900; rw [hlen]; exact Y.2.2.2.1.1, fun i ci rs' hz => ?_, fun i t n hz => ?_⟩, fun i b => ?_, Y.2.2.2.2.2.1, by show ∀ v, some v ∈ l → q_ov (G.set a _).length v; rw [hlen]; exact Y.2.2.2.2.2.2.1, by show ∀ v ∈ r, q_ov (G.set a _).length v; rw [hlen]; exact hr, Y.2.2.2.2.2.2.2.2.1, Y.2.2.2.2.2.2.2.2.2⟩
            · show rs'.length = _ ∧ _ ∧ ∀ j r : Nat, rs'[j]? = some (r + 1) → r < (G.set a _).length
              rw [hlen]
              rcases hcs i _ hz with ⟨-, h⟩ | ⟨-, h⟩
              · cases h
                refine ⟨by simp; exact hl, hc13, fun j' r' hr' => ?_⟩
                by_cases e0 : j' = j
                · subst e0
                  rw [List.getElem?_set_self (by omega)] at hr'
                  cases hr'
                  exact hkl
                · rw [List.getElem?_set_ne (Ne.symm e0)] at hr'
                  exact hrs j' r' hr'
              · exact Y.2.2.2.1.2.1 i ci rs' h
            · rcases hcs i _ hz with ⟨-, h⟩ | ⟨-, h⟩
              · cases h
              · exact Y.2.2.2.1.2.2 i t n h
            · refine ⟨(Y.2.2.2.2.1 i b).1, fun hn => (Y.2.2.2.2.1 i b).2 (fun n hz => ?_)⟩
              by_cases e0 : i = a
              · subst e0; rw [hG] at hz; cases hz
              · exact hn n (by show (G.set a _)[i]? = _; rw [List.getElem?_set_ne (Ne.symm e0)]; exact hz)
      · cases hs
    · cases hs
  · cases hs
end QM
end
section
section QA
variable {p : Program} {l0 : Launch} {e : Env} {R : Room} {s : State} {m : MethodId} {args : Array Value} {below : List Frame} {meth : Method} {c : Code} {Q : State → Prop}
variable {P : q_P} {NW : List (String × Nat × MethodName × String)} {SR : q_SRt} {Rn : Nat → String} {co : Nat} {cc : ByteArray} {nL : Nat} {ini : Bool} {D : va_G} {cT : Nat → ClassId} {A : Nat → Prop} {ad : Nat → Nat} {l : q_L} {st : List q_V} {G : q_G} {M : q_M} {H : Heap} {locs : List Loc} {ls : Array Slot} {ca sa pc len idx : Nat} {T : q_T}
/-- reading an int, a boolean, a char out of an array -/
theorem q_ald_s {t : Nat} (Y : q_Y P NW SR s nL D cT A ad l st G M H locs ls) (ht3 : t ≠ 3) (hs : q_ald t l st G M ca sa = some T) (kk : q_KK p l0 e R s m args below meth c Q P NW SR nL D cT A ad G (pc + 1) T)
    (hw : ∀ (a n : Nat) (f : Nat → Int32) (i : Int32) (rest : List Value), (q_ws P cT ad G M)[a]? = some (ad a, .inl (cT t, n, .inl f)) → vp_in i n → W p l0 e R s m args below meth c H locs ca sa Q (F0 m (pc + 1) ls (.int (f i.toNatClampNeg) :: rest)) → W p l0 e R s m args below meth c H locs ca sa Q (F0 m pc ls (.int i :: .ref (ad a) :: rest))) : W p l0 e R s m args below meth c H locs ca sa Q (F0 m pc ls (st.map (q_cv ad))) := by
  unfold q_ald at hs
  split at hs
  · next i a r =>
    obtain ⟨hir, h1⟩ := q_tl Y.2.2.2.2.2.2.2.1 rfl
    obtain ⟨ha, hr⟩ := q_tl h1 rfl
    split at hs
    · next t' n hG =>
      split at hs
      · next ht =>
        subst ht
        split at hs
        · next hi =>
          cases hs
          obtain ⟨h2, h3⟩ := q_in hir hi
          have hg := q_ws_get (P := P) (cT := cT) (ad := ad) (M := M) hG
          simp only [q_c, q_ca, if_neg ht3] at hg
          refine hw a n _ (Int32.ofInt i) (r.map (q_cv ad)) hg h2 ?_
          rw [h3]
          exact q_go Y kk (q_cons (show q_ov G.length (.inl (M a i.toNat)) from (Y.2.2.2.2.1 a _).2 (fun n' h => by rw [hG] at h; cases h; exact ht3 rfl)) hr)
        · cases hs
      · cases hs
    · cases hs
  · cases hs
theorem q_sb_get {i : Nat} {bs : List Int} (h : (q_sb P)[i]? = some bs) : i < (q_sb P).length ∧ ((q_sb P).map List.length).getD i 0 = bs.length ∧ ((q_sb P).map (List.map Int32.ofInt)).getD i [] = bs.map Int32.ofInt := by
  refine ⟨(List.getElem?_eq_some_iff.mp h).1, ?_, ?_⟩
  · rw [List.getD_eq_getElem?_getD, List.getElem?_map, h]; rfl
  · rw [List.getD_eq_getElem?_getD, List.getElem?_map, h]; rfl
def q_Sok (P : q_P) : Prop := (∀ bs ∈ q_sb P, bs.length < 1000 ∧ ∀ b ∈ bs, 0 ≤ b ∧ b < 128) ∧ (q_sc P).length < 1000 ∧ ∀ x ∈ q_sc P, q_r x
theorem q_bald_s (X : q_X p s m args meth c Rn co cc nL ini D cT A) (hSo : q_Sok P) (Y : q_Y P NW SR s nL D cT A ad l st G M H locs ls) (hs : q_bald P l st G M ca sa = some T) (kk : q_KK p l0 e R s m args below meth c Q P NW SR nL D cT A ad G (pc + 1) T) (hd : decode cc pc = .ok (.baload, 1)) : W p l0 e R s m args below meth c H locs ca sa Q (F0 m pc ls (st.map (q_cv ad))) := by
  obtain ⟨hx, hb, hml, hown, hts, hK, hA, hin⟩ := X
  unfold q_bald at hs
  split at hs
  · next i a r =>
    obtain ⟨hir, h1⟩ := q_tl Y.2.2.2.2.2.2.2.1 rfl
    obtain ⟨ha, hr⟩ := q_tl h1 rfl
    split at hs
    · next h2000 =>
      split at hs
      · next bs hbs =>
        split at hs
        · next hi =>
          cases hs
          obtain ⟨k, rfl⟩ : ∃ k, a = 2000 + k := ⟨a - 2000, by omega⟩
          rw [show 2000 + k - 2000 = k by omega] at hbs
          obtain ⟨h2, h3, h4⟩ := q_sb_get hbs
          obtain ⟨h5, h6⟩ := q_in hir hi
          have hK9 := ((Y.2.2.2.2.2.2.2.2.2.2.2.1).1 k h2).2.2.2
          rw [h3, h4] at hK9
          have hlt : i.toNat < bs.length := by omega
          have hbm := hSo.1 bs (List.mem_of_getElem? hbs)
          have hv : bs.getD i.toNat 0 = bs[i.toNat] := by rw [List.getD_eq_getElem?_getD, List.getElem?_eq_getElem hlt]; rfl
          have hbb := hbm.2 _ (List.getElem_mem hlt)
          refine va_tb hx hb hK9 Y.2.2.1 (v := .int (Int32.ofInt (bs.getD i.toNat 0))) h5 ?_ hd ?_
          · rw [h6]
            show Value.int ((bs.map Int32.ofInt).getD i.toNat 0) = _
            rw [List.getD_eq_getElem?_getD, List.getElem?_map, List.getElem?_eq_getElem hlt, hv]; rfl
          · exact q_go Y kk (q_cons (show q_r (bs.getD i.toNat 0) by rw [hv]; exact ⟨by omega, by omega⟩) hr)
        · cases hs
      · cases hs
    · exact q_ald_s Y (by decide) hs kk (fun a n f i rest hg hi hk => va_zald hx hb hK Y.1 a 1 hg rfl hi hd hk)
  · cases hs
theorem q_iald_s (X : q_X p s m args meth c Rn co cc nL ini D cT A) (hSo : q_Sok P) (Y : q_Y P NW SR s nL D cT A ad l st G M H locs ls) (hs : q_iald P l st G M ca sa = some T) (kk : q_KK p l0 e R s m args below meth c Q P NW SR nL D cT A ad G (pc + 1) T) (hd : decode cc pc = .ok (.iaload, 1)) : W p l0 e R s m args below meth c H locs ca sa Q (F0 m pc ls (st.map (q_cv ad))) := by
  obtain ⟨hx, hb, hml, hown, hts, hK, hA, hin⟩ := X
  unfold q_iald at hs
  split at hs
  · next i a r =>
    obtain ⟨hir, h1⟩ := q_tl Y.2.2.2.2.2.2.2.1 rfl
    obtain ⟨ha, hr⟩ := q_tl h1 rfl
    split at hs
    · next h3000 =>
      subst h3000
      split at hs
      · next hi =>
        cases hs
        obtain ⟨h5, h6⟩ := q_in hir hi
        have hK9 := Y.2.2.2.2.2.2.2.2.2.2.2.2.2.1
        have hlt : i.toNat < (q_sc P).length := by omega
        have hv : (q_sc P).getD i.toNat 0 = (q_sc P)[i.toNat] := by rw [List.getD_eq_getElem?_getD, List.getElem?_eq_getElem hlt]; rfl
        refine va_ti hx hb hK9 Y.2.2.1 (v := .int (Int32.ofInt ((q_sc P).getD i.toNat 0))) h5 (by rw [h6]) hd ?_
        exact q_go Y kk (q_cons (show q_r ((q_sc P).getD i.toNat 0) by rw [hv]; exact hSo.2.2 _ (List.getElem_mem hlt)) hr)
      · cases hs
    · exact q_ald_s Y (by decide) hs kk (fun a n f i rest hg hi hk => va_iald hx hb hK Y.1 a 0 hg rfl hi hd hk)
  · cases hs
theorem q_lald_s (X : q_X p s m args meth c Rn co cc nL ini D cT A) (Y : q_Y P NW SR s nL D cT A ad l st G M H locs ls) (hs : q_lald l st G M ca sa = some T) (kk : q_KK p l0 e R s m args below meth c Q P NW SR nL D cT A ad G (pc + 1) T) (hd : decode cc pc = .ok (.laload, 1)) : W p l0 e R s m args below meth c H locs ca sa Q (F0 m pc ls (st.map (q_cv ad))) := by
  obtain ⟨hx, hb, hml, hown, hts, hK, hA, hin⟩ := X
  unfold q_lald at hs
  split at hs
  · next i a r =>
    obtain ⟨hir, h1⟩ := q_tl Y.2.2.2.2.2.2.2.1 rfl
    obtain ⟨ha, hr⟩ := q_tl h1 rfl
    split at hs
    · next t' n hG =>
      split at hs
      · next ht =>
        subst ht
        split at hs
        · next hi =>
          cases hs
          obtain ⟨h2, h3⟩ := q_in hir hi
          have hg := q_ws_get (P := P) (cT := cT) (ad := ad) (M := M) hG
          simp only [q_c, q_ca, if_true] at hg
          refine va_lald hx hb hK Y.1 a 3 hg rfl h2 hd ?_
          rw [h3]
          exact q_go Y kk (q_cons (show q_ov G.length (.inr (.inl (M a i.toNat))) from (Y.2.2.2.2.1 a _).1) hr)
        · cases hs
      · cases hs
    · cases hs
  · cases hs
theorem q_nar_b {x : Int} (h : x = 0 ∨ x = 1) : vp_nar .boolean (Int32.ofInt x) = Int32.ofInt x := by rcases h with rfl | rfl <;> decide +kernel
theorem q_nar_c {x : Int} (h : 0 ≤ x ∧ x < 65536) : vp_nar .char (Int32.ofInt x) = Int32.ofInt x := by
  obtain ⟨n, rfl⟩ : ∃ n : Nat, x = (n : Int) := ⟨x.toNat, by omega⟩
  have e0 : Int32.ofInt (n : Int) = nI n := rfl
  have h2 := (pk_charN (q := n) (by omega)).1
  unfold vp_nar
  rw [e0, h2]
theorem q_upd {f : Nat → Int} {j : Nat} {x : Int} : upd (fun k => Int32.ofInt (f k)) j (Int32.ofInt x) = fun k => Int32.ofInt (if k = j then x else f k) := by
  funext k
  unfold upd
  split <;> rfl
theorem q_updL {f : Nat → Int} {j : Nat} {x : Int} : vp_updL (fun k => Int64.ofInt (f k)) j (Int64.ofInt x) = fun k => Int64.ofInt (if k = j then x else f k) := by
  funext k
  unfold vp_updL
  split <;> rfl
theorem q_ast_s {t : Nat} (Y : q_Y P NW SR s nL D cT A ad l st G M H locs ls) (ht3 : t ≠ 3) (hs : q_ast t l st G M ca sa = some T) (kk : q_KK p l0 e R s m args below meth c Q P NW SR nL D cT A ad G (pc + 1) T)
    (hw : ∀ (a n : Nat) (f : Nat → Int32) (i : Int32) (x : Int) (rest : List Value), (q_ws P cT ad G M)[a]? = some (ad a, .inl (cT t, n, .inl f)) → vp_in i n → (t = 0 ∨ (t = 1 ∧ (x = 0 ∨ x = 1)) ∨ (t = 2 ∧ 0 ≤ x ∧ x < 65536)) → (∀ (H1 : Heap) (locs1 : List Loc), va_P D vwCl ((q_ws P cT ad G M).set a (ad a, .inl (cT t, n, .inl (upd f i.toNatClampNeg (Int32.ofInt x))))) H1 → va_D A ((q_ws P cT ad G M).set a (ad a, .inl (cT t, n, .inl (upd f i.toNatClampNeg (Int32.ofInt x))))) → va_S A s.heap H1 locs1 → W p l0 e R s m args below meth c H1 locs1 ca sa Q (F0 m (pc + 1) ls rest)) → W p l0 e R s m args below meth c H locs ca sa Q (F0 m pc ls (.int (Int32.ofInt x) :: .int i :: .ref (ad a) :: rest))) : W p l0 e R s m args below meth c H locs ca sa Q (F0 m pc ls (st.map (q_cv ad))) := by
  unfold q_ast at hs
  split at hs
  · next x i a r =>
    obtain ⟨hxr, h0⟩ := q_tl Y.2.2.2.2.2.2.2.1 rfl
    obtain ⟨hir, h1⟩ := q_tl h0 rfl
    obtain ⟨ha, hr⟩ := q_tl h1 rfl
    split at hs
    · next t' n hG =>
      split at hs
      · next ht =>
        subst ht
        split at hs
        · next hi =>
          split at hs
          · next hfit =>
            cases hs
            obtain ⟨h2, h3⟩ := q_in hir hi
            have hg := q_ws_get (P := P) (cT := cT) (ad := ad) (M := M) hG
            simp only [q_c, q_ca, if_neg ht3] at hg
            refine hw a n _ (Int32.ofInt i) x (r.map (q_cv ad)) hg h2 hfit (fun H1 locs1 hP1 hD1 hS1 => ?_)
            rw [h3, q_upd] at hP1 hD1
            have e1 := q_ws_set (P := P) (cT := cT) (ad := ad) (M := M) (M' := q_up M a i.toNat x) hG q_up_o
            rw [q_up_k] at e1
            simp only [q_c, q_ca, if_neg ht3] at e1
            rw [e1] at hP1 hD1
            exact kk ad H1 locs1 ls q_adx.rf (Nat.le_refl _) ⟨hP1, hD1, hS1, Y.2.2.2.1, q_oM_up Y.2.2.2.2.1 (q_r_6 hxr) (fun _ => hxr), Y.2.2.2.2.2.1, Y.2.2.2.2.2.2.1, hr, Y.2.2.2.2.2.2.2.2.1, Y.2.2.2.2.2.2.2.2.2⟩
          · cases hs
        · cases hs
      · cases hs
    · cases hs
  · cases hs
theorem q_last_s (X : q_X p s m args meth c Rn co cc nL ini D cT A) (Y : q_Y P NW SR s nL D cT A ad l st G M H locs ls) (hs : q_last l st G M ca sa = some T) (kk : q_KK p l0 e R s m args below meth c Q P NW SR nL D cT A ad G (pc + 1) T) (hd : decode cc pc = .ok (.lastore, 1)) : W p l0 e R s m args below meth c H locs ca sa Q (F0 m pc ls (st.map (q_cv ad))) := by
  obtain ⟨hx, hb, hml, hown, hts, hK, hA, hin⟩ := X
  unfold q_last at hs
  split at hs
  · next x i a r =>
    obtain ⟨hxr, h0⟩ := q_tl Y.2.2.2.2.2.2.2.1 rfl
    obtain ⟨hir, h1⟩ := q_tl h0 rfl
    obtain ⟨ha, hr⟩ := q_tl h1 rfl
    split at hs
    · next t' n hG =>
      split at hs
      · next ht =>
        subst ht
        split at hs
        · next hi =>
          cases hs
          obtain ⟨h2, h3⟩ := q_in hir hi
          have hg := q_ws_get (P := P) (cT := cT) (ad := ad) (M := M) hG
          simp only [q_c, q_ca, if_true] at hg
          refine va_last hx hb hK Y.1 Y.2.1 Y.2.2.1 a 3 hg rfl h2 hd (fun H1 locs1 hP1 hD1 hS1 => ?_)
          rw [h3, q_updL] at hP1 hD1
          have e1 := q_ws_set (P := P) (cT := cT) (ad := ad) (M := M) (M' := q_up M a i.toNat x) hG q_up_o
          rw [q_up_k] at e1
          simp only [q_c, q_ca, if_true] at e1
          rw [e1] at hP1 hD1
          exact kk ad H1 locs1 ls q_adx.rf (Nat.le_refl _) ⟨hP1, hD1, hS1, Y.2.2.2.1, q_oM_up Y.2.2.2.2.1 hxr (fun h => absurd hG (h n)), Y.2.2.2.2.2.1, Y.2.2.2.2.2.2.1, hr, Y.2.2.2.2.2.2.2.2.1, Y.2.2.2.2.2.2.2.2.2⟩
        · cases hs
      · cases hs
    · cases hs
  · cases hs
theorem q_tys_get {t : Nat} (h : t ≤ 3) : ∃ ty, (q_tys cT)[t]? = some (cT t, ty) := by
  match t, h with
  | 0, _ => exact ⟨_, rfl⟩
  | 1, _ => exact ⟨_, rfl⟩
  | 2, _ => exact ⟨_, rfl⟩
  | 3, _ => exact ⟨_, rfl⟩
theorem q_len_s (X : q_X p s m args meth c Rn co cc nL ini D cT A) (hSo : q_Sok P) (Y : q_Y P NW SR s nL D cT A ad l st G M H locs ls) (hs : q_len P l st G M ca sa = some T) (kk : q_KK p l0 e R s m args below meth c Q P NW SR nL D cT A ad G (pc + 1) T) (hd : decode cc pc = .ok (.arraylength, 1)) : W p l0 e R s m args below meth c H locs ca sa Q (F0 m pc ls (st.map (q_cv ad))) := by
  obtain ⟨hx, hb, hml, hown, hts, hK, hA, hin⟩ := X
  unfold q_len at hs
  split at hs
  · next a r =>
    obtain ⟨ha, hr⟩ := q_tl Y.2.2.2.2.2.2.2.1 rfl
    split at hs
    · next h3000 =>
      subst h3000
      cases hs
      have := hSo.2.1
      exact va_tlen hx hb (Y.2.2.2.2.2.2.2.2.2.2.2.2.2.1) Y.2.2.1 (v := Int32.ofInt ((q_sc P).length : Int)) rfl hd (q_go Y kk (q_cons (show q_r ((q_sc P).length : Int) from ⟨by omega, by omega⟩) hr))
    split at hs
    · next h2000 =>
      split at hs
      · next bs hbs =>
        cases hs
        obtain ⟨k, rfl⟩ : ∃ k, a = 2000 + k := ⟨a - 2000, by omega⟩
        rw [show 2000 + k - 2000 = k by omega] at hbs
        obtain ⟨h2, h3, h4⟩ := q_sb_get hbs
        have hK9 := ((Y.2.2.2.2.2.2.2.2.2.2.2.1).1 k h2).2.2.2
        rw [h3, h4] at hK9
        have hbm := hSo.1 bs (List.mem_of_getElem? hbs)
        exact va_tlen hx hb hK9 Y.2.2.1 (v := Int32.ofInt (bs.length : Int)) rfl hd (q_go Y kk (q_cons (show q_r (bs.length : Int) from ⟨by omega, by omega⟩) hr))
      · cases hs
    · split at hs
      · next t n hG =>
        cases hs
        obtain ⟨h2, h3⟩ := Y.2.2.2.1.2.2 a t n hG
        obtain ⟨ty, hty⟩ := q_tys_get (cT := cT) h2
        exact va_alen hx hb hK Y.1 a t (q_ws_get hG) hty (v := Int32.ofInt (n : Int)) rfl hd (q_go Y kk (q_cons (show q_r (n : Int) from ⟨by omega, by omega⟩) hr))
      · cases hs
  · cases hs
end QA
end
section
section QN
variable {p : Program} {l0 : Launch} {e : Env} {R : Room} {s : State} {m : MethodId} {args : Array Value} {below : List Frame} {meth : Method} {c : Code} {Q : State → Prop}
variable {P : q_P} {NW : List (String × Nat × MethodName × String)} {SR : q_SRt} {Rn : Nat → String} {co : Nat} {cc : ByteArray} {nL : Nat} {ini : Bool} {D : va_G} {cT : Nat → ClassId} {A : Nat → Prop} {ad : Nat → Nat} {l : q_L} {st : List q_V} {G : q_G} {M : q_M} {H : Heap} {locs : List Loc} {ls : Array Slot} {ca sa pc len idx kc ks : Nat} {T : q_T}
/-- a thing more in the world -/
theorem q_ws_app {M' : q_M} {ad' : Nat → Nat} {sh : q_S} (hG : q_oG P G) (ha : q_adx G.length ad ad') (hM : ∀ a, a ≠ G.length → M' a = M a) : q_ws P cT ad' (G ++ [sh]) M' = q_ws P cT ad G M ++ [(ad' G.length, q_c P cT ad' sh (M' G.length))] := by
  have e1 : q_ws P cT ad' G M' = q_ws P cT ad G M := by
    rw [← q_ws_ext hG ha]
    apply List.ext_getElem?
    intro k
    simp only [q_ws, List.getElem?_mapIdx]
    rcases hk : G[k]? with _ | sh
    · rfl
    · have hl : k < G.length := (List.getElem?_eq_some_iff.mp hk).1
      simp only [Option.map_some, hM k (by omega)]
  rw [← e1]
  simp [q_ws, List.mapIdx_append]
theorem q_adn (q : Nat) (hl : G.length < 900) : q_adx G.length ad (fun k => if k = G.length then q else ad k) := fun k hk => by
  show (if k = G.length then q else ad k) = ad k
  rw [if_neg (by omega)]
theorem q_oG_app {sh : q_S} (hG : q_oG P G) (hl : G.length < 900) (h1 : ∀ (ci : Nat) (rs : List Nat), sh = .inr (ci, rs) → rs.length = q_nf P ci ∧ ci < 13 ∧ ∀ j r : Nat, rs[j]? = some (r + 1) → r < G.length) (h2 : ∀ t n : Nat, sh = .inl (t, n) → t ≤ 3 ∧ n ≤ 1000) : q_oG P (G ++ [sh]) := by
  have hcs : ∀ (i : Nat) (z : q_S), (G ++ [sh])[i]? = some z → G[i]? = some z ∨ z = sh := by
    intro i z hz
    by_cases e0 : i < G.length
    · rw [List.getElem?_append_left e0] at hz; exact Or.inl hz
    · rw [List.getElem?_append_right (by omega)] at hz
      have := List.mem_of_getElem? hz
      exact Or.inr (List.mem_singleton.mp this)
  refine ⟨by simp; omega, fun k ci rs hz => ?_, fun k t n hz => ?_⟩
  · rcases hcs k _ hz with h | h
    · obtain ⟨a, b, c⟩ := hG.2.1 k ci rs h
      exact ⟨a, b, fun j r hr => by have := c j r hr; simp; omega⟩
    · obtain ⟨a, b, c⟩ := h1 ci rs h.symm
      exact ⟨a, b, fun j r hr => by have := c j r hr; simp; omega⟩
  · rcases hcs k _ hz with h | h
    · exact hG.2.2 k t n h
    · exact h2 t n h.symm
theorem q_oM_app {sh : q_S} (h : q_oM G M) : q_oM (G ++ [sh]) (q_zr M G.length) := by
  intro a b
  unfold q_zr
  by_cases e0 : a = G.length
  · rw [if_pos e0]; exact ⟨⟨by decide, by decide⟩, fun _ => q_0r⟩
  · rw [if_neg e0]
    refine ⟨(h a b).1, fun hn => (h a b).2 (fun n hz => hn n ?_)⟩
    have := (List.getElem?_eq_some_iff.mp hz).1
    rw [List.getElem?_append_left this]; exact hz
theorem q_Y_app {sh : q_S} {q : Nat} {H1 : Heap} (Y : q_Y P NW SR s nL D cT A ad l st G M H locs ls) {r : List q_V} (hr : ∀ v ∈ r, q_ov G.length v) (hl : G.length < 900) (hG' : q_oG P (G ++ [sh]))
    (hP1 : va_P D vwCl (q_ws P cT ad G M ++ [(q, q_c P cT (fun k => if k = G.length then q else ad k) sh (fun _ => 0))]) H1) (hD1 : va_D A (q_ws P cT ad G M ++ [(q, q_c P cT (fun k => if k = G.length then q else ad k) sh (fun _ => 0))])) (hS1 : va_S A s.heap H1 locs) :
    q_Y P NW SR s nL D cT A (fun k => if k = G.length then q else ad k) l (.inr (.inr G.length) :: r) (G ++ [sh]) (q_zr M G.length) H1 locs ls := by
  have ha := q_adn (ad := ad) q hl
  have e1 := q_ws_app (P := P) (cT := cT) (M := M) (M' := q_zr M G.length) (sh := sh) Y.2.2.2.1 ha (fun a h => by funext b; simp [q_zr, h])
  have e2 : q_zr M G.length G.length = fun _ => 0 := by funext b; simp [q_zr]
  rw [e2] at e1
  have e3 : (if G.length = G.length then q else ad G.length) = q := if_pos rfl
  rw [e3] at e1
  refine ⟨by rw [e1]; exact hP1, by rw [e1]; exact hD1, hS1, hG', q_oM_app Y.2.2.2.2.1, Y.2.2.2.2.2.1.ext ha Y.2.2.2.2.2.2.1, fun v hv => q_ov_mono (Y.2.2.2.2.2.2.1 v hv) (by simp), q_cons (Or.inl (by simp)) (fun v hv => q_ov_mono (hr v hv) (by simp)), Y.2.2.2.2.2.2.2.2.1, ?_⟩
  obtain ⟨a1, a2, a3, a4⟩ := Y.2.2.2.2.2.2.2.2.2
  have f1 : ∀ i, (fun k => if k = G.length then q else ad k) (1000 + i) = ad (1000 + i) := fun i => ha _ (Or.inr (by omega))
  have f2 : ∀ i, (fun k => if k = G.length then q else ad k) (2000 + i) = ad (2000 + i) := fun i => ha _ (Or.inr (by omega))
  have f3 : (fun k => if k = G.length then q else ad k) 3000 = ad 3000 := ha _ (Or.inr (by decide))
  refine ⟨a1, fun r hr => by rw [f1]; exact a2 r hr, ?_, a4.1, by rw [f3]; exact a4.2⟩
  simp only [f1, f2]
  exact a3
theorem q_newa_s {at' : ArrayType} (X : q_X p s m args meth c Rn co cc nL ini D cT A) (hAo : q_Aok) (hkc : kc ≤ R.cells) (hks : ks ≤ R.slots) (Y : q_Y P NW SR s nL D cT A ad l st G M H locs ls) (hs : q_newa kc ks at' l st G M ca sa = some T) (kk : q_KK p l0 e R s m args below meth c Q P NW SR nL D cT A ad G (pc + 2) T) (hd : decode cc pc = .ok (.newarray at', 2)) : W p l0 e R s m args below meth c H locs ca sa Q (F0 m pc ls (st.map (q_cv ad))) := by
  obtain ⟨hx, hb, hml, hown, hts, hK, hA, hin⟩ := X
  unfold q_newa at hs
  split at hs
  · next x r =>
    obtain ⟨hxr, hr⟩ := q_tl Y.2.2.2.2.2.2.2.1 rfl
    split at hs
    · next h =>
      obtain ⟨h0, h1, h2, h3, h4, h5⟩ := h
      cases hs
      have hn0 : ¬ Int32.ofInt x < 0 := fun h => by
        have := (q_lt hxr q_0r).mp h; omega
      have hN : (Int32.ofInt x).toNatClampNeg = x.toNat := by show (Int32.ofInt x).toInt.toNat = x.toNat; rw [q_toI hxr]
      have main : ∀ (t : Nat) (ty : FieldType), newarray.typeOf at' = ty → q_at at' = t → (q_tys cT)[t]? = some (cT t, ty) → Cond.arrayClass ty ∈ q_WT → (∀ cA : ClassId, vp_cell cA (x.toNat, q_ca t (fun _ => 0)) = arrV cA x.toNat (fun _ => defaultValue ty)) → x.toNat * componentBytes ty ≤ 536870912 → (∀ cA cB : ClassId, va_RA s cA ty → va_RA s cB ty → cA = cB) → W p l0 e R s m args below meth c H locs ca sa Q (F0 m pc ls (.int (Int32.ofInt x) :: r.map (q_cv ad))) := by
        intro t ty hty hqt htys hw hcell hby hinj
        refine va_newa hx hb (by rw [hty]; exact hts _ hw) hty hK Y.1 Y.2.1 Y.2.2.1 hA hcell hn0 hN hby (by omega) (by omega) hd (fun q cA H1 hK1 hP1 hD1 hS1 => ?_)
        have hcA : cA = cT t := hinj _ _ (hK1.2 4 (cA, ty) rfl).2 (hK.2 t _ htys).2
        subst hcA
        have ha := q_adn (ad := ad) q h5
        have hG' : q_oG P (G ++ [.inl (q_at at', x.toNat)]) := q_oG_app Y.2.2.2.1 h5 (fun ci rs h => by cases h) (fun t n h => by cases h; exact ⟨h2, by omega⟩)
        have Y' := q_Y_app (sh := .inl (q_at at', x.toNat)) (q := q) (H1 := H1) Y hr h5 hG' (by rw [hqt]; exact hP1) (by rw [hqt]; exact hD1) hS1
        have := kk _ H1 locs ls ha (by simp) Y'
        simp only [List.map_cons, q_cv, if_true] at this
        rw [q_map_ext ha hr] at this
        exact this
      cases at' with
      | int => exact main 0 .int rfl rfl rfl hAo.1 (fun _ => rfl) (by simp [componentBytes]; omega) (fun a b h1 h2 => Option.some.inj (Eq.trans (Eq.symm h1) h2))
      | boolean => exact main 1 .boolean rfl rfl rfl hAo.2.1 (fun _ => rfl) (by simp [componentBytes]; omega) (fun a b h1 h2 => Option.some.inj (Eq.trans (Eq.symm h1) h2))
      | char => exact main 2 .char rfl rfl rfl hAo.2.2.1 (fun _ => rfl) (by simp [componentBytes]; omega) (fun a b h1 h2 => Option.some.inj (Eq.trans (Eq.symm h1) h2))
      | long => exact main 3 .long rfl rfl rfl hAo.2.2.2 (fun _ => rfl) (by simp [componentBytes]; omega) (fun a b h1 h2 => Option.some.inj (Eq.trans (Eq.symm h1) h2))
      | _ => exact absurd h2 (by decide)
    · cases hs
  · cases hs
theorem q_new_s (X : q_X p s m args meth c Rn co cc nL ini D cT A) (hC : q_Cok P Rn) (hNo : q_Nok P Rn) (hkc : kc ≤ R.cells) (hks : ks ≤ R.slots) (Y : q_Y P NW SR s nL D cT A ad l st G M H locs ls) (hs : q_new P kc ks co idx l st G M ca sa = some T) (kk : q_KK p l0 e R s m args below meth c Q P NW SR nL D cT A ad G (pc + 3) T) (hd : decode cc pc = .ok (.new idx, 3)) : W p l0 e R s m args below meth c H locs ca sa Q (F0 m pc ls (st.map (q_cv ad))) := by
  obtain ⟨hx, hb, hml, hown, hts, hK, hA, hin⟩ := X
  unfold q_new at hs
  split at hs
  · next ci hcn =>
    split at hs
    · next h =>
      obtain ⟨h3, h4, h5⟩ := h
      cases hs
      obtain ⟨C, T0, N, hcl, hw1, hw2, hw3⟩ := hNo _ _ _ hcn
      obtain ⟨hN, -, hRn, hws, hnm, ty, hty, hft⟩ := hC ci C T0 N hcl
      have hc13 : ci < 13 := (List.getElem?_eq_some_iff.mp hcl).1
      have hr := Y.2.2.2.2.2.2.2.1
      have hfs : ∀ (ad' : Nat → Nat) (j : Nat), j < N → defaultValue (ty j) = vp_V ((List.range (q_nf P ci)).map (q_sv P ad' ci (List.replicate (q_nf P ci) 0) (fun _ => 0))) j := by
        intro ad' j hj
        have : ((List.range (q_nf P ci)).map (q_sv P ad' ci (List.replicate (q_nf P ci) 0) (fun _ => 0))).getD j .null = q_sv P ad' ci (List.replicate (q_nf P ci) 0) (fun _ => 0) j := by
          rw [List.getD_eq_getElem?_getD, List.getElem?_map, List.getElem?_range (by omega)]; rfl
        unfold vp_V
        rw [this]
        unfold q_sv
        rcases hft j hj with ⟨a, b, -⟩ | ⟨a, b, -⟩ | ⟨a, -, -, b⟩
        · rw [b, a]; rfl
        · rw [b, a]; rfl
        · rw [if_pos a]
          have e9 : (List.replicate (q_nf P ci) (0 : Nat))[j]? = some 0 := by rw [List.getElem?_replicate, if_pos (by omega)]
          rw [e9]
          rcases b with ⟨n, b⟩ | ⟨t, b⟩ <;> rw [b] <;> rfl
      have key : ∀ ad1 ad2 : Nat → Nat, q_sv P ad1 ci (List.replicate (q_nf P ci) 0) (fun _ => 0) = q_sv P ad2 ci (List.replicate (q_nf P ci) 0) (fun _ => 0) := by
        intro ad1 ad2
        funext j
        unfold q_sv
        split
        · rcases hj : (List.replicate (q_nf P ci) 0)[j]? with _ | (_ | r)
          · rfl
          · rfl
          · simp [List.getElem?_replicate] at hj
        · rfl
      refine va_new hx hb hts hws ty hty hown (hts _ hw1) (hts _ hw2) (hts _ hw3) hK Y.1 Y.2.1 Y.2.2.1 hA hcl (fun j hj => hfs ad j hj) (by omega) (by omega) hd (fun q H1 hP1 hD1 hS1 => ?_)
      have ha := q_adn (ad := ad) q h5
      have hG' : q_oG P (G ++ [.inr (ci, List.replicate (q_nf P ci) 0)]) := q_oG_app Y.2.2.2.1 h5 (fun ci' rs h => by cases h; exact ⟨by simp, hc13, fun j r hr => by simp [List.getElem?_replicate] at hr⟩) (fun t n h => by cases h)
      have hq : q_c P cT (fun k => if k = G.length then q else ad k) (.inr (ci, List.replicate (q_nf P ci) 0)) (fun _ => 0) = .inr (ci, (List.range (q_nf P ci)).map (q_sv P ad ci (List.replicate (q_nf P ci) 0) (fun _ => 0))) := by
        simp only [q_c]
        rw [key (fun k => if k = G.length then q else ad k) ad]
      have Y' := q_Y_app (sh := .inr (ci, List.replicate (q_nf P ci) 0)) (q := q) (H1 := H1) Y hr h5 hG' (by rw [hq]; exact hP1) (by rw [hq]; exact hD1) hS1
      have := kk _ H1 locs ls ha (by simp) Y'
      simp only [List.map_cons, q_cv, if_true] at this
      rw [q_map_ext ha hr, hN] at this
      exact this
    · cases hs
  · cases hs
end QN
end
section
/-! calls: a callee's contract over the small machine's answer -/
abbrev q_ym : Type := Nat → MethodName × ByteArray × Nat × Option FieldType
/-- a method's table of exceptions, where it has one -/
def q_hh (y : MethodName) : Option (List (Nat × Nat × Nat × Nat)) := if y.cls = "QueryLoopsLaw" then (if y.name = "row" then some [(0, 9, 12, 13), (0, 9, 15, 15)] else if y.name = "compile" then some [(0, 8, 11, 13)] else if y.name = "run" then some [(0, 8, 11, 15), (0, 8, 14, 24)] else none) else none
def q_cw (Y : MethodName × ByteArray × Nat × Option FieldType) : Cond := match q_hh Y.1 with
  | some hh => .codeWith Y.1 Y.2.1 Y.2.2.1 Y.2.2.2 hh
  | none => .code Y.1 Y.2.1 Y.2.2.1 Y.2.2.2
def q_mW (Y : MethodName × ByteArray × Nat × Option FieldType) : List Cond := q_cw Y :: q_WT
def q_rm (d mc ms : Nat) : Room := { frames := d, cells := mc, slots := ms, locals := 64 * d }
def q_Pre (P : q_P) (NW : List (String × Nat × MethodName × String)) (SR : q_SRt) (D : va_G) (cT : Nat → ClassId) (ad : Nat → Nat) (as : List q_V) (G : q_G) (M : q_M) (sz : Nat) : Array Value → State → Prop := va_Pc (as.map (q_cv ad)) (fun U => U.heap.size = sz ∧ va_P D vwCl (q_ws P cT ad G M) U.heap ∧ va_K D vwCl (q_tys cT) U ∧ va_D (fun _ => True) (q_ws P cT ad G M) ∧ q_E P NW SR ad (va_A (q_ws P cT ad G M) sz) U U.heap)
def q_Pst (P : q_P) (D : va_G) (cT : Nat → ClassId) (ad : Nat → Nat) (G : q_G) (M : q_M) (sz : Nat) (r : Option q_V) (G' : q_G) (M' : q_M) (oc : Outcome) (t : State) : Prop := ∃ ad' : Nat → Nat, q_adx G.length ad ad' ∧ oc = .returned (r.map (q_cv ad')) ∧ va_P D vwCl (q_ws P cT ad' G' M') t.heap ∧ va_D (va_A (q_ws P cT ad G M) sz) (q_ws P cT ad' G' M') ∧ q_oG P G' ∧ q_oM G' M' ∧ G.length ≤ G'.length ∧ (∀ v, r = some v → q_ov G'.length v)
def q_Post (P : q_P) (D : va_G) (cT : Nat → ClassId) (ad : Nat → Nat) (G : q_G) (M : q_M) (sz : Nat) (r : Option q_V) (G' : q_G) (M' : q_M) : Array Value → State → Outcome → State → Prop := fun _ st oc t => q_Pst P D cT ad G M sz r G' M' oc t ∧ va_F (va_A (q_ws P cT ad G M) sz) st t
/-- what the small machine says of a method is so, with d frames left -/
def q_Sd (l0 : Launch) (P : q_P) (NW : List (String × Nat × MethodName × String)) (SR : q_SRt) (d mc ms : Nat) (Y : MethodName × ByteArray × Nat × Option FieldType) (f : List q_V → q_G → q_M → Option (Option q_V × q_G × q_M)) : Prop :=
  ∀ (D : va_G) (cT : Nat → ClassId) (ad : Nat → Nat) (as : List q_V) (G : q_G) (M : q_M) (r : Option q_V) (G' : q_G) (M' : q_M), f as G M = some (r, G', M') → q_oG P G → q_oM G M → (∀ v ∈ as, q_ov G.length v) →
    ∀ sz, Met l0 Y.1 (q_mW Y) (q_rm d mc ms) (q_Pre P NW SR D cT ad as G M sz) (q_Post P D cT ad G M sz r G' M') mc ms (va_A (q_ws P cT ad G M) sz)
theorem q_Pre_blind {P : q_P} {NW : List (String × Nat × MethodName × String)} {SR : q_SRt} {D : va_G} {cT : Nat → ClassId} {ad : Nat → Nat} {as : List q_V} {G : q_G} {M : q_M} {sz : Nat} : FrameBlind (q_Pre P NW SR D cT ad as G M sz) := by
  intro a U g mk h
  obtain ⟨h0, h1, h2, h3, h4, e1, e2, e3, e4, e5⟩ := h
  exact ⟨h0, h1, h2, va_K.moved (u := U) (U := U.calling g mk a) (Vm.Alike.refl U.vm) h3, h4, fun w hw => va_Nw.same rfl (show U.vm = (U.calling g mk a).vm from rfl) (e1 w hw), fun r hr => vk_R.same (show (U.calling g mk a).vm = U.vm from rfl) (e2 r hr), vk_S.moved (u := U) (U := U.calling g mk a) (Vm.Alike.refl U.vm) e3, va_Z.moved (u := U) (U := U.calling g mk a) (Vm.Alike.refl U.vm) e4, va_T.moved (u := U) (U := U.calling g mk a) (Vm.Alike.refl U.vm) e5.1, fun z hz => vx_Zq.moved (u := U) (U := U.calling g mk a) (Vm.Alike.refl U.vm) (e5.2.1 z hz), fun x hx => va_Nw.same rfl (show U.vm = (U.calling g mk a).vm from rfl) (e5.2.2.1 x hx), fun x hx => va_Nw.same rfl (show U.vm = (U.calling g mk a).vm from rfl) (e5.2.2.2.1 x hx), fun x hx => va_Nc.moved (u := U) (U := U.calling g mk a) (Vm.Alike.refl U.vm) (e5.2.2.2.2 x hx)⟩
/-- the table of calls is right -/
def q_Mok (P : q_P) (ym : q_ym) (NW : List (String × Nat × MethodName × String)) (Rn : Nat → String) : Prop := ∀ co idx w na mid : Nat, q_mk P co idx = some (w, na, mid) →
  (w = 9 ∧ na = 1 ∧ Cond.methodLink (Rn co) idx Lib.objectInit ∈ q_WT ∧ Cond.instanceMethod Lib.objectInit ∈ q_WT ∧ Cond.code Lib.objectInit ⟨#[0xb1]⟩ 1 none ∈ q_WT) ∨
  (w ≠ 9 ∧ q_cw (ym mid) ∈ q_WT ∧ (q_hh (ym mid).1 = none ∨ w = 5) ∧ Cond.initialized (ym mid).1.cls ∈ q_WT ∧ (ym mid).1.cls ≠ "java/lang/invoke/MethodHandle" ∧ (ym mid).1.cls ≠ "java/lang/invoke/VarHandle" ∧ (ym mid).2.2.1 ≤ 40 ∧
    ((w = 0 ∧ 1 ≤ na ∧ Cond.methodLink (Rn co) idx (ym mid).1 ∈ q_WT ∧ Cond.instanceMethod (ym mid).1 ∈ q_WT ∧ Cond.selects (ym mid).1.cls (ym mid).1 (ym mid).1 ∈ q_WT ∧ (parseMethodDescriptor (ym mid).1.desc).map (fun d => d.parameters.length) = some (na - 1) ∧ (((q_mm P mid).1 = 100 ∧ (ym mid).1.cls = "java/lang/String") ∨ ((q_mm P mid).1 ≠ 100 ∧ ∀ q, vwCl[(q_mm P mid).1]? = some q → q.1 = (ym mid).1.cls))) ∨
     (w = 1 ∧ Cond.methodLink (Rn co) idx (ym mid).1 ∈ q_WT ∧ Cond.static (ym mid).1 ∈ q_WT ∧ (parseMethodDescriptor (ym mid).1.desc).map (fun d => d.parameters.length) = some na) ∨
     (w = 2 ∧ 1 ≤ na ∧ Cond.methodLink (Rn co) idx (ym mid).1 ∈ q_WT ∧ Cond.instanceMethod (ym mid).1 ∈ q_WT ∧ (ym mid).1.name = "<init>" ∧ (ym mid).2.2.2 = none ∧ (parseMethodDescriptor (ym mid).1.desc).map (fun d => d.parameters.length) = some (na - 1)) ∨
     (w = 5 ∧ (∃ hh, q_hh (ym mid).1 = some hh) ∧ Cond.methodLink (Rn co) idx (ym mid).1 ∈ q_WT ∧ Cond.static (ym mid).1 ∈ q_WT ∧ (parseMethodDescriptor (ym mid).1.desc).map (fun d => d.parameters.length) = some na) ∨
     (w = 3 ∧ (∃ h, (Rn co, idx, (ym mid).1, h) ∈ NW) ∧ Cond.static (ym mid).1 ∈ q_WT ∧ (parseMethodDescriptor (ym mid).1.desc).map (fun d => d.parameters.length) = some na) ∨
     (w = 4 ∧ 1 ≤ na ∧ (∃ h, (Rn co, idx, (ym mid).1, h) ∈ NW) ∧ Cond.instanceMethod (ym mid).1 ∈ q_WT ∧ (ym mid).1.name = "<init>" ∧ (ym mid).2.2.2 = none ∧ (parseMethodDescriptor (ym mid).1.desc).map (fun d => d.parameters.length) = some (na - 1))))
theorem q_WT_good : GoodIn q_WT q_WT := fun w hw => ⟨hw, good_of_word (List.mem_filter.mp hw).2⟩
theorem q_mW_good {Y : MethodName × ByteArray × Nat × Option FieldType} (h : q_cw Y ∈ q_WT) : GoodIn q_WT (q_mW Y) := fun w hw => (List.mem_cons.mp hw).elim (fun e => e ▸ q_WT_good _ h) (fun h => q_WT_good w h)
section QI
variable {p : Program} {l0 : Launch} {e : Env} {R : Room} {s : State} {m : MethodId} {args : Array Value} {below : List Frame} {meth : Method} {c : Code} {Q : State → Prop}
variable {P : q_P} {NW : List (String × Nat × MethodName × String)} {SR : q_SRt} {Rn : Nat → String} {co : Nat} {cc : ByteArray} {nL : Nat} {ini : Bool} {D : va_G} {cT : Nat → ClassId} {A : Nat → Prop} {ad : Nat → Nat} {l : q_L} {st : List q_V} {G : q_G} {M : q_M} {H : Heap} {locs : List Loc} {ls : Array Slot} {ca sa pc len idx kc ks : Nat} {T : q_T}
/-- behind a call -/
theorem q_fin {mc ms : Nat} {as rest : List q_V} {rr : Option q_V} {G' : q_G} {M' : q_M} {av : Array Value} (Y : q_Y P NW SR s nL D cT A ad l st G M H locs ls) (hr : va_Run p l0 e R s m args below meth c H locs ca sa mc ms (F0 m pc ls (st.map (q_cv ad))) (rest.map (q_cv ad)) (q_Post P D cT ad G M H.size rr G' M' av) (va_A (q_ws P cT ad G M) H.size))
    (hA : ∀ q, s.heap.size ≤ q → A q) (hrest : ∀ v ∈ rest, q_ov G.length v)
    (kk : q_KK p l0 e R s m args below meth c Q P NW SR nL D cT A ad G (pc + 3) (l, rr.toList ++ rest, G', M', ca + mc, sa + ms)) : W p l0 e R s m args below meth c H locs ca sa Q (F0 m pc ls (st.map (q_cv ad))) := by
  have hAA : ∀ q, va_A (q_ws P cT ad G M) H.size q → A q := by
    rintro q (⟨k, e0, h⟩ | h)
    · exact Y.2.1.2 k _ h
    · exact hA q (Nat.le_trans Y.2.2.1.1 h)
  intro T hT X
  obtain ⟨v, st₀, t, T', L, h0, X', hL, e1, e2, ⟨⟨ad', ha, hv, hP', hD', hG', hM', hle, hrv⟩, hz, hk⟩, stp⟩ := hr T hT X
  cases hv
  rw [h0] at hz hk
  have hS' : va_S A s.heap T'.heap (locs ++ L) := ⟨Nat.le_trans Y.2.2.1.1 (by rw [e1]; exact hz), fun q h1 h2 => by rw [e1, hk q (Nat.lt_of_lt_of_le h1 Y.2.2.1.1) (fun z => h2 (hAA q z))]; exact Y.2.2.1.2.1 q h1 h2, fun q hq => by
      rcases List.mem_append.mp hq with h | h
      · exact Y.2.2.1.2.2 q h
      · exact hAA _ (hL q h)⟩
  have hrest' : rest.map (q_cv ad') = rest.map (q_cv ad) := q_map_ext ha hrest
  have Yn : q_Y P NW SR s nL D cT A ad' l (rr.toList ++ rest) G' M' T'.heap (locs ++ L) ls := by
    refine ⟨by rw [e1]; exact hP', hD'.weaken (fun k q _ h => hAA _ h), hS', hG', hM', Y.2.2.2.2.2.1.ext ha Y.2.2.2.2.2.2.1, fun v hv => q_ov_mono (Y.2.2.2.2.2.2.1 v hv) hle, fun v hv => ?_, Y.2.2.2.2.2.2.2.2.1, ?_⟩
    · rcases List.mem_append.mp hv with h | h
      · exact hrv v (by cases rr with
          | none => simp at h
          | some w => simp at h; rw [h])
      · exact q_ov_mono (hrest v h) hle
    · obtain ⟨a1, a2, a3, a4⟩ := Y.2.2.2.2.2.2.2.2.2
      have f1 : ∀ i, ad' (1000 + i) = ad (1000 + i) := fun i => ha _ (Or.inr (by omega))
      have f2 : ∀ i, ad' (2000 + i) = ad (2000 + i) := fun i => ha _ (Or.inr (by omega))
      refine ⟨a1, fun r hr => by rw [f1]; exact a2 r hr, ?_, a4.1, by rw [ha 3000 (Or.inr (by decide))]; exact a4.2⟩
      simp only [f1, f2]
      exact a3
  have hW := kk ad' T'.heap (locs ++ L) ls ha hle Yn
  obtain ⟨t2, a1, b1⟩ := hW T' rfl X'
  refine ⟨t2, stp t2 ?_, b1⟩
  have e9 : (rr.toList ++ rest).map (q_cv ad') = (rr.map (q_cv ad')).toList ++ rest.map (q_cv ad) := by
    rw [List.map_append, hrest']
    cases rr <;> rfl
  simp only [e9] at a1
  exact a1
theorem q_take {na : Nat} (h : na ≤ st.length) : st.map (q_cv ad) = (((st.take na).reverse).map (q_cv ad)).reverse ++ (st.drop na).map (q_cv ad) := by
  rw [← List.map_reverse, List.reverse_reverse, ← List.map_append, List.take_append_drop]
theorem q_cats : ∀ (r : List q_V), (r.map (q_cv ad)).map (fun v => v.category) = r.map q_cat := fun r => by
  rw [List.map_map]
  exact List.map_congr_left (fun v _ => q_cvcat ad v)
end QI
end
section
section QJ
variable {p : Program} {l0 : Launch} {e : Env} {R : Room} {s : State} {m : MethodId} {args : Array Value} {below : List Frame} {meth : Method} {c : Code} {Q : State → Prop}
variable {P : q_P} {NW : List (String × Nat × MethodName × String)} {SR : q_SRt} {Rn : Nat → String} {co : Nat} {cc : ByteArray} {nL : Nat} {ini : Bool} {D : va_G} {cT : Nat → ClassId} {A : Nat → Prop} {ad : Nat → Nat} {l : q_L} {st : List q_V} {G : q_G} {M : q_M} {H : Heap} {locs : List Loc} {ls : Array Slot} {ca sa pc len idx kc ks d : Nat} {T : q_T} {orc : q_O} {ym : q_ym}
theorem q_PcU {as : List q_V} (hK : va_K D vwCl (q_tys cT) s) (hA : ∀ q, s.heap.size ≤ q → A q) (Y : q_Y P NW SR s nL D cT A ad l st G M H locs ls) : ∀ U : State, U.heap = H → s.WarmedH U.vm → q_Pre P NW SR D cT ad as G M H.size (as.map (q_cv ad)).toArray U := by
  intro U hU hW
  have hAA : ∀ q, va_A (q_ws P cT ad G M) H.size q → A q := by
    rintro q (⟨k, e0, h⟩ | h)
    · exact Y.2.1.2 k _ h
    · exact hA q (Nat.le_trans Y.2.2.1.1 h)
  exact ⟨rfl, by rw [hU], by rw [hU]; exact Y.1, va_K.moved hW.alike hK, Y.2.1.weaken (fun _ _ _ _ => trivial), Y.2.2.2.2.2.2.2.2.2.go (n := 0) Y.2.2.1 hW hU hAA q_adx.rf⟩
theorem q_call_s {ws : List Nat} {ins : Instr} (X : q_X p s m args meth c Rn co cc nL ini D cT A) (hMo : q_Mok P ym NW Rn) (hO : ∀ mid, q_Sd l0 P NW SR d (q_mm P mid).2.1 (q_mm P mid).2.2 (ym mid) (orc mid)) (hRf : d + 1 ≤ R.frames) (hRl : 64 * (d + 1) ≤ R.locals) (hkc : kc ≤ R.cells) (hks : ks ≤ R.slots) (Y : q_Y P NW SR s nL D cT A ad l st G M H locs ls) (hs : q_call orc P kc ks ws co idx l st G M ca sa = some T) (kk : q_KK p l0 e R s m args below meth c Q P NW SR nL D cT A ad G (pc + 3) T)
    (hd : decode cc pc = .ok (ins, 3)) (hins : (ins = .invokevirtual idx ∧ ws = [0]) ∨ (ins = .invokestatic idx ∧ ws = [1, 3, 5]) ∨ (ins = .invokespecial idx ∧ ws = [2, 4, 9])) : W p l0 e R s m args below meth c H locs ca sa Q (F0 m pc ls (st.map (q_cv ad))) := by
  obtain ⟨hx, hb, hml, hown, hts, hK, hA, hin⟩ := X
  have hsz : ls.size = nL := by rw [Y.2.2.2.2.2.1.1]; exact Y.2.2.2.2.2.2.2.2.1
  unfold q_call at hs
  split at hs
  · next w na mid hmk =>
    split at hs
    · next h =>
      obtain ⟨hw, hna, hcat⟩ := h
      have hrest : ∀ v ∈ st.drop na, q_ov G.length v := fun v hv => Y.2.2.2.2.2.2.2.1 v (List.mem_of_mem_drop hv)
      have hcat' : (((st.drop na).map (q_cv ad)).map (fun v => v.category)).sum ≤ 8 := by rw [q_cats]; exact hcat
      rcases hMo _ _ _ _ _ hmk with ⟨hw9, hna1, hl1, hl2, hl3⟩ | ⟨hw9, hcode, hhn, hini, hmh, hvh, hml40, hcase⟩
      · rw [if_pos hw9] at hs
        subst hw9; subst hna1
        split at hs
        · next a r =>
          cases hs
          rcases hins with ⟨-, h⟩ | ⟨-, h⟩ | ⟨h, -⟩
          · rw [h] at hw; exact absurd hw (by decide)
          · rw [h] at hw; exact absurd hw (by decide)
          · subst h
            obtain ⟨-, hr⟩ := q_tl Y.2.2.2.2.2.2.2.1 rfl
            have hcat2 : ((r.map (q_cv ad)).map (fun v => v.category)).sum ≤ 8 := hcat'
            refine W.objInit hx hb hown (hts _ hl1) (hts _ hl2) (hts _ hl3) (a := ad a) (rest := r.map (q_cv ad)) rfl (by rw [hml]; exact hsz) rfl hd (by omega) ?_ (q_go Y kk hr)
            have := lv_room (m := m) (pc := pc) (ls := ls) (rest := r.map (q_cv ad)) hcat2
            have e9 : (F0 m pc ls ((Sum.inr (Sum.inr a) :: r).map (q_cv ad))).monitorRoom = (F0 m pc ls (r.map (q_cv ad))).monitorRoom := rfl
            omega
        · cases hs
      · rw [if_neg hw9] at hs
        split at hs
        · next h2 =>
          obtain ⟨hrc, hc1, hc2⟩ := h2
          split at hs
          · next rr G' M' horc =>
            cases hs
            have has : ∀ v ∈ (st.take na).reverse, q_ov G.length v := fun v hv => Y.2.2.2.2.2.2.2.1 v (List.mem_of_mem_take (List.mem_reverse.mp hv))
            have g5 := hO mid D cT ad _ G M rr G' M' horc Y.2.2.2.1 Y.2.2.2.2.1 has
            have hMet := g5 H.size
            have hU := q_PcU (as := (st.take na).reverse) hK hA Y
            have hstk := q_take (ad := ad) hna
            have hgood := q_mW_good hcode
            have hR9 : (q_rm d (q_mm P mid).2.1 (q_mm P mid).2.2).frames + 1 ≤ R.frames ∧ 8 + ((ym mid).2.2.1 + 11) + (q_rm d (q_mm P mid).2.1 (q_mm P mid).2.2).locals ≤ R.locals := ⟨hRf, by show 8 + ((ym mid).2.2.1 + 11) + 64 * d ≤ R.locals; omega⟩
            have hroom : 2 * (F0 m pc ls (st.map (q_cv ad))).monitorRoom + (((st.drop na).map (q_cv ad)).map fun v => v.category).sum ≤ 8 := lv_room hcat'
            have hcs : ca + (q_mm P mid).2.1 ≤ R.cells ∧ sa + (q_mm P mid).2.2 ≤ R.slots := ⟨by omega, by omega⟩
            have fin := fun (av : Array Value) (hr : va_Run p l0 e R s m args below meth c H locs ca sa (q_mm P mid).2.1 (q_mm P mid).2.2 (F0 m pc ls (st.map (q_cv ad))) ((st.drop na).map (q_cv ad)) (q_Post P D cT ad G M H.size rr G' M' av) (va_A (q_ws P cT ad G M) H.size)) => q_fin (as := []) Y hr hA hrest kk
            have hlen : (st.take na).reverse.length = na := by simp; omega
            have hcd : w ≠ 5 → q_mW (ym mid) = Cond.code (ym mid).1 (ym mid).2.1 (ym mid).2.2.1 (ym mid).2.2.2 :: q_WT := fun h5 => by
              unfold q_mW q_cw
              rw [hhn.resolve_right h5]
            rcases hcase with ⟨rfl, hn1, k1, k2, k3, k4, k5⟩ | ⟨rfl, k1, k2, k3⟩ | ⟨rfl, hn1, k1, k2, k3, k4, k5⟩ | ⟨rfl, ⟨hh, k0⟩, k1, k2, k3⟩ | ⟨rfl, ⟨hh, k1⟩, k2, k3⟩ | ⟨rfl, hn1, ⟨hh, k1⟩, k2, k3, k4, k5⟩
            · rcases hins with ⟨hi, -⟩ | ⟨-, h⟩ | ⟨-, h⟩
              · subst hi
                have hrc : q_rc P G (q_mm P mid).1 (st.take na).reverse = true := ((hrc.resolve_left (by decide)).resolve_left (by decide)).resolve_left (by decide)
                rcases hta : (st.take na).reverse with _ | ⟨v0, as'⟩
                · rw [hta] at hrc; exact absurd hrc (by simp [q_rc])
                · rw [hta] at hrc hU hMet hstk hlen
                  rcases v0 with x | x | a
                  · exact absurd hrc (by simp [q_rc])
                  · exact absurd hrc (by simp [q_rc])
                  · have hrecv : ∃ cellB : Cell, H[ad a]? = some cellB ∧ cellB.vm.isStatics = false ∧ s.vm.findClass (ym mid).1.cls = some cellB.cls := by
                      rcases k5 with ⟨k5, k6⟩ | ⟨k5, k6⟩
                      · simp only [q_rc, k5, if_true, decide_eq_true_eq] at hrc
                        obtain ⟨i, rfl⟩ : ∃ i, a = 1000 + i := ⟨a - 1000, by omega⟩
                        rw [k6]
                        exact vk_recv (i := i) (Y.2.2.2.2.2.2.2.2.2.2.2.1) (by omega) Y.2.2.1
                      · simp only [q_rc, if_neg k5] at hrc
                        rcases hGa : G[a]? with _ | (x | ⟨cj, rs⟩)
                        · rw [hGa] at hrc; simp at hrc
                        · rw [hGa] at hrc; simp at hrc
                        · rw [hGa] at hrc
                          simp only [decide_eq_true_eq] at hrc
                          obtain ⟨-, hc13, -⟩ := Y.2.2.2.1.2.1 a cj rs hGa
                          obtain ⟨C, T0, N, hcl⟩ := q_cl13 hc13
                          have := va_recv hK Y.1 hcl (q_ws_get hGa)
                          rw [← k6 (C, T0, N) (by rw [← hrc]; exact hcl)]
                          exact this
                    have hstk2 : (F0 m pc ls (st.map (q_cv ad))).stack = (as'.map (q_cv ad)).reverse ++ .ref (ad a) :: (st.drop na).map (q_cv ad) := by
                      show st.map (q_cv ad) = _
                      rw [hstk]
                      simp [q_cv]
                    refine fin _ (va_runV (As := as'.map (q_cv ad)) (rest := (st.drop na).map (q_cv ad)) ⟨hx, hb, hml, hown, hts⟩ hMet (cwV (na - 1) hts ?_ (hcd (by decide)) rfl rfl ⟨rfl, hmh, hvh, k4⟩ hR9) ⟨q_Pre_blind, hrecv, hU⟩ rfl (by simp at hlen ⊢; omega) hsz hstk2 hroom hd hcs)
                    intro w hw
                    rcases List.mem_append.mp hw with h | h
                    · simp only [List.mem_cons, List.not_mem_nil, or_false] at h
                      rcases h with rfl | rfl | rfl | rfl
                      · exact q_WT_good _ k1
                      · exact q_WT_good _ k2
                      · exact q_WT_good _ k3
                      · exact q_WT_good _ hini
                    · exact hgood w h
              · rw [h] at hw; exact absurd hw (by decide)
              · rw [h] at hw; exact absurd hw (by decide)
            · rcases hins with ⟨-, h⟩ | ⟨hi, -⟩ | ⟨-, h⟩
              · rw [h] at hw; exact absurd hw (by decide)
              · subst hi
                exact fin _ (va_runS (As := (st.take na).reverse.map (q_cv ad)) (rest := (st.drop na).map (q_cv ad)) ⟨hx, hb, hml, hown, hts⟩ hMet ⟨callB_of na hts hgood (hcd (by decide)) rfl rfl (hts _ hini) (hts _ k1) ⟨hmh, hvh, k3⟩ hR9, hts _ k2⟩ ⟨q_Pre_blind, hU⟩ rfl (by simp only [List.length_map]; exact hlen) hsz hstk hroom hd hcs)
              · rw [h] at hw; exact absurd hw (by decide)
            · rcases hins with ⟨-, h⟩ | ⟨-, h⟩ | ⟨hi, -⟩
              · rw [h] at hw; exact absurd hw (by decide)
              · rw [h] at hw; exact absurd hw (by decide)
              · subst hi
                have hrc : q_rc P G (q_mm P mid).1 (st.take na).reverse = true := ((hrc.resolve_left (by decide)).resolve_left (by decide)).resolve_left (by decide)
                rcases hta : (st.take na).reverse with _ | ⟨v0, as'⟩
                · rw [hta] at hrc; exact absurd hrc (by simp [q_rc])
                · rw [hta] at hrc hU hMet hstk hlen
                  rcases v0 with x | x | a
                  · exact absurd hrc (by simp [q_rc])
                  · exact absurd hrc (by simp [q_rc])
                  · have hstk2 : (F0 m pc ls (st.map (q_cv ad))).stack = (as'.map (q_cv ad)).reverse ++ .ref (ad a) :: (st.drop na).map (q_cv ad) := by
                      show st.map (q_cv ad) = _
                      rw [hstk]
                      simp [q_cv]
                    exact fin _ (va_runI (As := as'.map (q_cv ad)) (rest := (st.drop na).map (q_cv ad)) ⟨hx, hb, hml, hown, hts⟩ hMet ⟨k4 ▸ callB_of (na - 1) hts hgood (hcd (by decide)) rfl rfl (hts _ hini) (hts _ k1) ⟨hmh, hvh, k5⟩ hR9, k3, hts _ k2⟩ ⟨q_Pre_blind, hU⟩ rfl (by simp at hlen ⊢; omega) hsz hstk2 hroom hd hcs)
            · rcases hins with ⟨-, h⟩ | ⟨hi, -⟩ | ⟨-, h⟩
              · rw [h] at hw; exact absurd hw (by decide)
              · subst hi
                have hcw : q_mW (ym mid) = Cond.codeWith (ym mid).1 (ym mid).2.1 (ym mid).2.2.1 (ym mid).2.2.2 hh :: q_WT := by
                  unfold q_mW q_cw
                  rw [k0]
                refine fin _ (vx_runSW (As := (st.take na).reverse.map (q_cv ad)) (rest := (st.drop na).map (q_cv ad)) ⟨hx, hb, hml, hown, hts⟩ hMet (vx_cwSW na hts ?_ hcw rfl rfl ⟨hmh, hvh, k3⟩ hR9) ⟨q_Pre_blind, hU⟩ rfl (by simp only [List.length_map]; exact hlen) hsz hstk hroom hd hcs)
                intro w hw
                rcases List.mem_append.mp hw with h | h
                · simp only [List.mem_cons, List.not_mem_nil, or_false] at h
                  rcases h with rfl | rfl | rfl
                  · exact q_WT_good _ k1
                  · exact q_WT_good _ k2
                  · exact q_WT_good _ hini
                · exact hgood w h
              · rw [h] at hw; exact absurd hw (by decide)
            · rcases hins with ⟨-, h⟩ | ⟨hi, -⟩ | ⟨-, h⟩
              · rw [h] at hw; exact absurd hw (by decide)
              · subst hi
                exact fin _ (va_runSN (host := hh) (As := (st.take na).reverse.map (q_cv ad)) (rest := (st.drop na).map (q_cv ad)) ⟨hx, hb, hml, hown, hts⟩ hMet ⟨va_cnB na hts hgood (hcd (by decide)) rfl rfl (Y.2.2.2.2.2.2.2.2.2.1 _ k1) (hts _ hini) ⟨hmh, hvh, k3⟩ hR9, hts _ k2, trivial⟩ ⟨q_Pre_blind, hU⟩ rfl (by simp only [List.length_map]; exact hlen) hsz hstk hroom hd hcs)
              · rw [h] at hw; exact absurd hw (by decide)
            · rcases hins with ⟨-, h⟩ | ⟨-, h⟩ | ⟨hi, -⟩
              · rw [h] at hw; exact absurd hw (by decide)
              · rw [h] at hw; exact absurd hw (by decide)
              · subst hi
                have hrc : q_rc P G (q_mm P mid).1 (st.take na).reverse = true := ((hrc.resolve_left (by decide)).resolve_left (by decide)).resolve_left (by decide)
                rcases hta : (st.take na).reverse with _ | ⟨v0, as'⟩
                · rw [hta] at hrc; exact absurd hrc (by simp [q_rc])
                · rw [hta] at hrc hU hMet hstk hlen
                  rcases v0 with x | x | a
                  · exact absurd hrc (by simp [q_rc])
                  · exact absurd hrc (by simp [q_rc])
                  · have hstk2 : (F0 m pc ls (st.map (q_cv ad))).stack = (as'.map (q_cv ad)).reverse ++ .ref (ad a) :: (st.drop na).map (q_cv ad) := by
                      show st.map (q_cv ad) = _
                      rw [hstk]
                      simp [q_cv]
                    exact fin _ (va_runIN (host := hh) (As := as'.map (q_cv ad)) (rest := (st.drop na).map (q_cv ad)) ⟨hx, hb, hml, hown, hts⟩ hMet ⟨k4 ▸ va_cnB (na - 1) hts hgood (hcd (by decide)) rfl rfl (Y.2.2.2.2.2.2.2.2.2.1 _ k1) (hts _ hini) ⟨hmh, hvh, k5⟩ hR9, k3, hts _ k2⟩ ⟨q_Pre_blind, hU⟩ rfl (by simp at hlen ⊢; omega) hsz hstk2 hroom hd hcs)
          · cases hs
        · cases hs
    · cases hs
  · cases hs
end QJ
end
section
/-! one instruction of the small machine is one of the big machine's -/
theorem q_bv (x : Int) : (Int32.ofInt x).toBitVec.toNat = (x % 4294967296).toNat := by
  show (BitVec.ofInt 32 x).toNat = _
  rw [BitVec.toNat_ofInt]
  rfl
theorem q_modI (x : Int) (k : Nat) (m : Nat) (hm : m = 2 ^ k) (hk : k ≤ 16) : nI ((Int32.ofInt x).toBitVec.toNat % 2 ^ k) = Int32.ofInt (x % (m : Int)) := by
  rw [q_bv, ← hm]
  have h1 : (4294967296 : Int) = (m : Int) * (2 ^ (32 - k) : Nat) := by
    rw [hm]
    have : (2 : Nat) ^ k * 2 ^ (32 - k) = 2 ^ 32 := by rw [← Nat.pow_add]; congr 1; omega
    have h2 : (((2 : Nat) ^ k * 2 ^ (32 - k) : Nat) : Int) = ((2 ^ 32 : Nat) : Int) := by rw [this]
    rw [Int.natCast_mul] at h2
    exact h2.symm
  have hmp : 0 < m := by rw [hm]; exact Nat.two_pow_pos k
  have h2 : (x % 4294967296) % (m : Int) = x % (m : Int) := by
    rw [h1]; exact Int.emod_emod_of_dvd x ⟨_, rfl⟩
  have h3 : 0 ≤ x % 4294967296 := Int.emod_nonneg x (by decide)
  have h4 : (((x % 4294967296).toNat % m : Nat) : Int) = x % (m : Int) := by
    rw [Int.natCast_emod, Int.toNat_of_nonneg h3, h2]
  show Int32.ofInt (((x % 4294967296).toNat % m : Nat) : Int) = _
  rw [h4]
theorem q_emr (x : Int) (m : Nat) (h : 0 < m) (h2 : m ≤ 65536) : q_r (x % (m : Int)) := by
  have h3 := Int.emod_nonneg x (show (m : Int) ≠ 0 by omega)
  have h4 := Int.emod_lt_of_pos x (show (0 : Int) < m by omega)
  exact ⟨by omega, by omega⟩
theorem q_i2l {x : Int} (h : q_r x) : (Int32.ofInt x).toInt64 = Int64.ofInt x := by
  apply Int64.toInt_inj.mp
  rw [Int32.toInt_toInt64, q_toI h, q_toL (q_r_6 h)]
theorem q_b8 {n : Int} (h : -128 ≤ n ∧ n < 128) : (Int8.ofInt n).toInt32 = Int32.ofInt n := by
  apply Int32.toInt_inj.mp
  rw [Int8.toInt_toInt32, q_toI ⟨by omega, by omega⟩, Int8.toInt_ofInt]
  show Int.bmod n 256 = n
  exact Int.bmod_eq_of_le (by omega) (by omega)
theorem q_s16 {n : Int} (h : -32768 ≤ n ∧ n < 32768) : (Int16.ofInt n).toInt32 = Int32.ofInt n := by
  apply Int32.toInt_inj.mp
  rw [Int16.toInt_toInt32, q_toI ⟨by omega, by omega⟩, Int16.toInt_ofInt]
  show Int.bmod n 65536 = n
  exact Int.bmod_eq_of_le (by omega) (by omega)
theorem q_l6 {x y : Int} (hx : q_r6 x) (hy : q_r6 y) : Int64.ofInt x < Int64.ofInt y ↔ x < y := by rw [Int64.lt_iff_toInt_lt, q_toL hx, q_toL hy]
theorem q_rem2 {x : Int} (hx : q_r x) (h : 0 ≤ x) : Int32.ofInt x - Int32.ofInt x / Int32.ofInt 2 * Int32.ofInt 2 = Int32.ofInt (x % 2) := by
  obtain ⟨n, rfl⟩ : ∃ n : Nat, x = (n : Int) := ⟨x.toNat, by omega⟩
  have := pk_rem (a := n) (d := 2) (by have := hx.2; omega) (by decide) (by decide)
  exact this
theorem q_i2b {x : Int} (h : -128 ≤ x ∧ x < 128) : (Int32.ofInt x).toInt8.toInt32 = Int32.ofInt x := by
  apply Int32.toInt_inj.mp
  rw [Int8.toInt_toInt32, Int32.toInt_toInt8, q_toI ⟨by omega, by omega⟩]
  exact Int.bmod_eq_of_le (by omega) (by omega)
end
section
def q_ln (ins : Instr) : Nat := match ins with
  | .iload _ => 2
  | .lload _ => 2
  | .aload _ => 2
  | .istore _ => 2
  | .lstore _ => 2
  | .astore _ => 2
  | .iinc _ _ => 3
  | .bipush _ => 2
  | .sipush _ => 3
  | .ldc _ => 2
  | .getstatic _ => 3
  | .getfield _ => 3
  | .putfield _ => 3
  | .newarray _ => 2
  | .new _ => 3
  | .invokevirtual _ => 3
  | .invokestatic _ => 3
  | .invokespecial _ => 3
  | .goto _ => 3
  | .if_icmp _ _ => 3
  | .ifCond _ _ => 3
  | .tableswitch _ _ _ _ => 65
  | _ => 1
def q_Tb (P : q_P) (ym : q_ym) (NW : List (String × Nat × MethodName × String)) (SR : q_SRt) (Rn : Nat → String) : Prop := q_Fok P Rn ∧ q_Cok P Rn ∧ q_Nok P Rn ∧ q_Lok P SR Rn ∧ q_Aok ∧ q_Sok P ∧ q_Mok P ym NW Rn
section QT
variable {p : Program} {l0 : Launch} {e : Env} {R : Room} {s : State} {m : MethodId} {args : Array Value} {below : List Frame} {meth : Method} {c : Code} {Q : State → Prop}
variable {P : q_P} {NW : List (String × Nat × MethodName × String)} {SR : q_SRt} {Rn : Nat → String} {co : Nat} {cc : ByteArray} {nL : Nat} {ini : Bool} {D : va_G} {cT : Nat → ClassId} {A : Nat → Prop} {ad : Nat → Nat} {l : q_L} {st : List q_V} {G : q_G} {M : q_M} {H : Heap} {locs : List Loc} {ls : Array Slot} {ca sa pc len idx kc ks d : Nat} {T : q_T} {orc : q_O} {ym : q_ym}
theorem q_push_s {b : Bool} {v : q_V} (Y : q_Y P NW SR s nL D cT A ad l st G M H locs ls) (hs : q_push b v l st G M ca sa = some T) (kk : q_KK p l0 e R s m args below meth c Q P NW SR nL D cT A ad G (pc + len) T)
    (hw : b = true → q_ov G.length v ∧ (W p l0 e R s m args below meth c H locs ca sa Q (F0 m (pc + len) ls (q_cv ad v :: st.map (q_cv ad))) → W p l0 e R s m args below meth c H locs ca sa Q (F0 m pc ls (st.map (q_cv ad))))) : W p l0 e R s m args below meth c H locs ca sa Q (F0 m pc ls (st.map (q_cv ad))) := by
  unfold q_push at hs
  split at hs
  · next h =>
    cases hs
    exact (hw h).2 (q_go Y kk (q_cons (hw h).1 Y.2.2.2.2.2.2.2.1))
  · cases hs
set_option maxHeartbeats 4000000 in
theorem q_stp_s {ins : Instr} (X : q_X p s m args meth c Rn co cc nL ini D cT A) (hTb : q_Tb P ym NW SR Rn) (hO : ∀ mid, q_Sd l0 P NW SR d (q_mm P mid).2.1 (q_mm P mid).2.2 (ym mid) (orc mid)) (hRf : d + 1 ≤ R.frames) (hRl : 64 * (d + 1) ≤ R.locals) (hkc : kc ≤ R.cells) (hks : ks ≤ R.slots) (Y : q_Y P NW SR s nL D cT A ad l st G M H locs ls) (hs : q_stp orc P ini kc ks co ins l st G M ca sa = some T)
    (hd : decode cc pc = .ok (ins, len)) (hl : len = q_ln ins) (kk : q_KK p l0 e R s m args below meth c Q P NW SR nL D cT A ad G (pc + len) T) : W p l0 e R s m args below meth c H locs ca sa Q (F0 m pc ls (st.map (q_cv ad))) := by
  obtain ⟨hF, hC, hNo, hLo, hAo, hSo, hMo⟩ := hTb
  have hX := X
  obtain ⟨hx, hb, hml, hown, hts, hK, hA, hin⟩ := X
  subst hl
  have hst := Y.2.2.2.2.2.2.2.1
  cases ins with
  | iload_n k => exact q_ldI_s Y hs kk (fun x h => lv_iload_n hx hb hd rfl h)
  | iload k => exact q_ldI_s Y hs kk (fun x h => lv_iload hx hb hd h)
  | lload_n k => exact q_ldL_s Y hs kk (fun x h => lv_lload_n hx hb hd rfl h)
  | lload k => exact q_ldL_s Y hs kk (fun x h => lv_lload hx hb hd h)
  | aload_n k => exact q_ldR_s Y hs kk (fun x h => lv_aload_n hx hb hd rfl h)
  | aload k => exact q_ldR_s Y hs kk (fun x h => lv_aload hx hb hd h)
  | istore_n k =>
    simp only [q_stp, q_stI] at hs
    split at hs
    · next x r =>
      split at hs
      · next l' hl' =>
        cases hs
        obtain ⟨h1, h2⟩ := q_tl hst rfl
        exact q_sto_s Y h1 h2 hl' kk (fun lv lv' a b c' k' => lv_istore_n hx hb hd rfl a b c' k')
      · cases hs
    · cases hs
  | istore k =>
    simp only [q_stp, q_stI] at hs
    split at hs
    · next x r =>
      split at hs
      · next l' hl' =>
        cases hs
        obtain ⟨h1, h2⟩ := q_tl hst rfl
        exact q_sto_s Y h1 h2 hl' kk (fun lv lv' a b c' k' => lv_istore hx hb hd a b c' k')
      · cases hs
    · cases hs
  | lstore_n k =>
    simp only [q_stp, q_stL] at hs
    split at hs
    · next x r =>
      split at hs
      · next l' hl' =>
        cases hs
        obtain ⟨h1, h2⟩ := q_tl hst rfl
        exact q_sto2_s Y h1 h2 hl' kk (fun lv lv' a b c' k' => lv_lstore_n hx hb hd rfl a b c' k')
      · cases hs
    · cases hs
  | lstore k =>
    simp only [q_stp, q_stL] at hs
    split at hs
    · next x r =>
      split at hs
      · next l' hl' =>
        cases hs
        obtain ⟨h1, h2⟩ := q_tl hst rfl
        exact q_sto2_s Y h1 h2 hl' kk (fun lv lv' a b c' k' => lv_lstore hx hb hd a b c' k')
      · cases hs
    · cases hs
  | astore_n k =>
    simp only [q_stp, q_stR] at hs
    split at hs
    · next x r =>
      split at hs
      · next l' hl' =>
        cases hs
        obtain ⟨h1, h2⟩ := q_tl hst rfl
        exact q_sto_s Y h1 h2 hl' kk (fun lv lv' a b c' k' => lv_astore_n hx hb hd rfl a b c' k')
      · cases hs
    · cases hs
  | astore k =>
    simp only [q_stp, q_stR] at hs
    split at hs
    · next x r =>
      split at hs
      · next l' hl' =>
        cases hs
        obtain ⟨h1, h2⟩ := q_tl hst rfl
        exact q_sto_s Y h1 h2 hl' kk (fun lv lv' a b c' k' => lv_astore hx hb hd a b c' k')
      · cases hs
    · cases hs
  | iinc k cn =>
    simp only [q_stp] at hs
    split at hs
    · next x hx0 =>
      split at hs
      · next l' hl' =>
        cases hs
        have hk := q_getD hx0
        have hxr : q_r x := Y.2.2.2.2.2.2.1 _ (List.mem_of_getElem? hk)
        obtain ⟨h1, h2, h3⟩ := q_sto_len hl'
        have hn := Y.2.2.2.2.2.2.2.2.1
        obtain ⟨j, hj⟩ := List.getElem?_of_mem (q_as_mem (ad := ad).mpr ⟨k, .inl x, hk, rfl⟩)
        refine lv_iinc hx hb hd (hn ▸ Y.2.2.2.2.2.1.has) hj (v := Int32.ofInt (q_w (x + cn))) (by rw [q_ofw, Int32.ofInt_add]) (hn ▸ h1) rfl (fun ls' hl9 => ?_)
        exact kk ad H locs ls' q_adx.rf (Nat.le_refl _) (Y.lc hst (q_sto_lc (v := .inl (q_w (x + cn))) hl' (by rw [hn]; exact hl9)) (fun w hw => (h3 w hw).elim (Y.2.2.2.2.2.2.1 w) (fun e => e ▸ (show q_r _ from q_w_r _))) (h2.trans hn))
      · cases hs
    · cases hs
  | iconst n => exact q_push_s Y hs kk (fun h => ⟨by have := of_decide_eq_true h; exact ⟨by omega, by omega⟩, lv_iconst hx hb hd rfl⟩)
  | bipush n => exact q_push_s Y hs kk (fun h => ⟨by have := of_decide_eq_true h; exact ⟨by omega, by omega⟩, lv_bipush hx hb hd (q_b8 (of_decide_eq_true h))⟩)
  | sipush n => exact q_push_s Y hs kk (fun h => ⟨by have := of_decide_eq_true h; exact ⟨by omega, by omega⟩, lv_sipush hx hb hd (q_s16 (of_decide_eq_true h))⟩)
  | lconst n => exact q_push_s Y hs kk (fun h => ⟨by show q_r6 _; have := n.isLt; exact ⟨by omega, by omega⟩, lv_lconst hx hb hd rfl⟩)
  | ldc i =>
    simp only [q_stp] at hs
    split at hs
    · next v hv =>
      cases hs
      rcases hLo _ _ _ hv with ⟨x, rfl, hr, hw⟩ | ⟨j, tx, rfl, hm⟩
      · exact lv_ldc hx hb hown (hts _ hw) hd (q_go Y kk (q_cons (show q_ov G.length (.inl x) from hr) hst))
      · exact va_ldcS hx hb hown (Y.2.2.2.2.2.2.2.2.2.2.1 _ hm) hd (q_go Y kk (q_cons (show q_ov G.length (.inr (.inr (1000 + j))) from Or.inr (by omega)) hst))
    · cases hs
  | getstatic i =>
    simp only [q_stp] at hs
    split at hs
    · next j hv =>
      cases hs
      rcases hF _ _ _ _ hv with ⟨h, -⟩ | ⟨-, hw⟩ | ⟨h, -⟩
      · exact absurd h (by decide)
      · exact va_gets hx hb (Y.2.2.2.2.2.2.2.2.2.2.2.2.1) Y.2.2.1 hown (hts _ hw) (fun _ h => h) hd (q_go Y kk (q_cons (show q_ov G.length (.inl 1) from ⟨by decide, by decide⟩) hst))
      · exact absurd h (by decide)
    · cases hs
  | iadd => exact q_ii_s (f := fun x y => some (q_w (x + y))) Y hs kk (fun x y z rest hx1 hy1 hz => by cases hz; exact ⟨q_w_r _, fun k => lv_iadd hx hb hd (by rw [← Int32.ofInt_add, ← q_ofw]; exact k)⟩)
  | isub => exact q_ii_s (f := fun x y => some (q_w (x - y))) Y hs kk (fun x y z rest hx1 hy1 hz => by cases hz; exact ⟨q_w_r _, fun k => lv_isub hx hb hd (by rw [← Int32.ofInt_sub, ← q_ofw]; exact k)⟩)
  | imul => exact q_ii_s (f := fun x y => some (q_w (x * y))) Y hs kk (fun x y z rest hx1 hy1 hz => by cases hz; exact ⟨q_w_r _, fun k => lv_imul hx hb hd (by rw [← Int32.ofInt_mul, ← q_ofw]; exact k)⟩)
  | irem => exact q_ii_s Y hs kk (fun x y z rest hx1 hy1 hz => by
      split at hz
      · next h => cases hz; obtain ⟨rfl, h0⟩ := h; exact ⟨q_emr x 2 (by decide) (by decide), fun k => lv_irem hx hb hd (by decide +kernel) (by rw [q_rem2 hx1 h0]; exact k)⟩
      · cases hz)
  | iand => exact q_ii_s Y hs kk (fun x y z rest hx1 hy1 hz => by
      split at hz
      · next h => cases hz; subst h; exact ⟨q_emr x 16 (by decide) (by decide), fun k => lv_iand hx hb hd (by rw [pk_and _ 4 (by decide +kernel), q_modI x 4 16 rfl (by decide)]; exact k)⟩
      · split at hz
        · next h => cases hz; subst h; exact ⟨q_emr x 256 (by decide) (by decide), fun k => lv_iand hx hb hd (by rw [pk_and _ 8 (by decide +kernel), q_modI x 8 256 rfl (by decide)]; exact k)⟩
        · cases hz)
  | ishr => exact q_ii_s Y hs kk (fun x y z rest hx1 hy1 hz => by
      split at hz
      · next h => cases hz; subst h; exact ⟨hx1, fun k => lv_ishr hx hb hd (by rw [show Int32.ofInt 0 = (0 : Int32) from rfl, sb_shr0]; exact k)⟩
      · cases hz)
  | ineg =>
    simp only [q_stp] at hs
    split at hs
    · next x r =>
      cases hs
      obtain ⟨h1, h2⟩ := q_tl hst rfl
      exact lv_ineg hx hb hd (by
        have := q_go Y kk (q_cons (show q_ov G.length (.inl (q_w (-x))) from q_w_r _) h2)
        simp only [List.map_cons, q_cv, q_ofw, Int32.ofInt_neg] at this
        exact this)
    · cases hs
  | i2c =>
    simp only [q_stp] at hs
    split at hs
    · next x r =>
      cases hs
      obtain ⟨h1, h2⟩ := q_tl hst rfl
      exact lv_i2c hx hb hd (v := Int32.ofInt (x % 65536)) (by rw [pk_char]; exact q_modI x 16 65536 rfl (by decide)) (q_go Y kk (q_cons (show q_ov G.length (.inl (x % 65536)) from q_emr x 65536 (by decide) (by decide)) h2))
    · cases hs
  | i2b =>
    simp only [q_stp] at hs
    split at hs
    · next x r =>
      split at hs
      · next hb8 =>
        cases hs
        obtain ⟨h1, h2⟩ := q_tl hst rfl
        exact lv_i2b hx hb hd (q_i2b hb8) (q_go Y kk (q_cons (show q_ov G.length (.inl x) from h1) h2))
      · cases hs
    · cases hs
  | i2l =>
    simp only [q_stp] at hs
    split at hs
    · next x r =>
      cases hs
      obtain ⟨h1, h2⟩ := q_tl hst rfl
      exact lv_i2l hx hb hd (q_i2l h1) (q_go Y kk (q_cons (show q_ov G.length (.inr (.inl x)) from q_r_6 h1) h2))
    · cases hs
  | ladd =>
    simp only [q_stp] at hs
    split at hs
    · next y x r =>
      cases hs
      obtain ⟨h1, h2⟩ := q_tl hst rfl
      obtain ⟨h3, h4⟩ := q_tl h2 rfl
      exact lv_ladd hx hb hd (by
        have := q_go Y kk (q_cons (show q_ov G.length (.inr (.inl (q_w6 (x + y)))) from q_w6_r _) h4)
        simp only [List.map_cons, q_cv, q_ofw6, Int64.ofInt_add] at this
        exact this)
    · cases hs
  | lcmp =>
    simp only [q_stp] at hs
    split at hs
    · next y x r =>
      cases hs
      obtain ⟨h1, h2⟩ := q_tl hst rfl
      obtain ⟨h3, h4⟩ := q_tl h2 rfl
      refine W.lcmp hx hb hd ?_
      have e1 : lg_cmp (Int64.ofInt x) (Int64.ofInt y) = Int32.ofInt (if x < y then -1 else if y < x then 1 else 0) := by
        unfold lg_cmp
        have a1 : Int64.ofInt x > Int64.ofInt y ↔ y < x := q_l6 h1 h3
        have a2 : Int64.ofInt x = Int64.ofInt y ↔ x = y := by rw [← Int64.toInt_inj, q_toL h3, q_toL h1]
        by_cases c1 : x < y
        · rw [if_neg (by rw [a1]; omega), if_neg (by rw [a2]; omega), if_pos c1]; rfl
        · rw [if_neg c1]
          by_cases c2 : y < x
          · rw [if_pos (a1.mpr c2), if_pos c2]; rfl
          · rw [if_neg (by rw [a1]; exact c2), if_pos (a2.mpr (by omega)), if_neg c2]; rfl
      rw [e1]
      exact q_go Y kk (q_cons (show q_ov G.length (.inl _) from by
        show q_r _
        split
        · exact ⟨by decide, by decide⟩
        · split <;> exact ⟨by decide, by decide⟩) h4)
    · cases hs
  | dup =>
    simp only [q_stp] at hs
    split at hs
    · next v r =>
      split at hs
      · next hc =>
        cases hs
        obtain ⟨h1, h2⟩ := q_tl hst rfl
        exact lv_dup hx hb hd (by rw [q_cvcat]; exact hc) (q_go Y kk (q_cons h1 (q_cons h1 h2)))
      · cases hs
    · cases hs
  | pop =>
    simp only [q_stp] at hs
    split at hs
    · next v r =>
      split at hs
      · next hc =>
        cases hs
        obtain ⟨h1, h2⟩ := q_tl hst rfl
        exact lv_pop hx hb hd (by rw [q_cvcat]; exact hc) (q_go Y kk h2)
      · cases hs
    · cases hs
  | dup2 =>
    simp only [q_stp] at hs
    split at hs
    · next v w r =>
      split at hs
      · next hc =>
        cases hs
        obtain ⟨h1, h2⟩ := q_tl hst rfl
        obtain ⟨h3, h4⟩ := q_tl h2 rfl
        exact lv_dup2_11 hx hb hd (by rw [q_cvcat]; exact hc.1) (by rw [q_cvcat]; exact hc.2) (q_go Y kk (q_cons h1 (q_cons h3 (q_cons h1 (q_cons h3 h4)))))
      · cases hs
    · cases hs
  | getfield i => exact q_get_s hX hF hC Y hs kk hd
  | putfield i => exact q_put_s hX hF hC Y hs kk hd
  | iaload => exact q_iald_s hX hSo Y hs kk hd
  | baload => exact q_bald_s hX hSo Y hs kk hd
  | caload => exact q_ald_s Y (by decide) hs kk (fun a n f i rest hg hi hk => va_cald hx hb hK Y.1 a 2 hg rfl hi hd hk)
  | laload => exact q_lald_s hX Y hs kk hd
  | iastore => exact q_ast_s Y (by decide) hs kk (fun a n f i x rest hg hi _ hk => va_iast hx hb hK Y.1 Y.2.1 Y.2.2.1 a 0 hg rfl hi hd hk)
  | bastore => exact q_ast_s Y (by decide) hs kk (fun a n f i x rest hg hi hf hk => va_zast hx hb hK Y.1 Y.2.1 Y.2.2.1 a 1 hg rfl hi hd (by
      have : x = 0 ∨ x = 1 := by rcases hf with h | h | h <;> first | exact absurd h (by decide) | exact h.2 | exact absurd h.1 (by decide)
      rw [q_nar_b this]; exact hk))
  | castore => exact q_ast_s Y (by decide) hs kk (fun a n f i x rest hg hi hf hk => va_cast hx hb hK Y.1 Y.2.1 Y.2.2.1 a 2 hg rfl hi hd (by
      have : 0 ≤ x ∧ x < 65536 := by rcases hf with h | h | h <;> first | exact absurd h (by decide) | exact absurd h.1 (by decide) | exact h.2
      rw [q_nar_c this]; exact hk))
  | lastore => exact q_last_s hX Y hs kk hd
  | arraylength => exact q_len_s hX hSo Y hs kk hd
  | newarray a => exact q_newa_s hX hAo hkc hks Y hs kk hd
  | new i => exact q_new_s hX hC hNo hkc hks Y hs kk hd
  | invokespecial i => exact q_call_s hX hMo hO hRf hRl hkc hks Y hs kk hd (Or.inr (Or.inr ⟨rfl, rfl⟩))
  | _ => exact absurd hs (by simp [q_stp])
end QT
end
section
/-! from stop to stop -/
def q_ctg : q_I → Bool
  | [] => true
  | [_] => true
  | q :: r :: l => decide (r.1 = q.1 + q.2.2) && q_ctg (r :: l)
def q_off (ins : Instr) : Int := match ins with
  | .if_icmp _ off => off
  | .ifCond _ off => off
  | _ => 0
/-- the list of instructions is the code's -/
def q_Iok (cc : ByteArray) (I : q_I) : Prop := q_ctg I = true ∧ ∀ q ∈ I, decode cc q.1 = .ok (q.2.1, q.2.2) ∧ q.2.2 = q_ln q.2.1 ∧ 0 ≤ (q.1 : Int) + q_off q.2.1
theorem q_ctg_tl {q : Nat × Instr × Nat} {l : q_I} (h : q_ctg (q :: l) = true) : q_ctg l = true := by
  cases l with
  | nil => rfl
  | cons r l => simp only [q_ctg, Bool.and_eq_true] at h; exact h.2
theorem q_ctg_nx {q r : Nat × Instr × Nat} {l : q_I} (h : q_ctg (q :: r :: l) = true) : r.1 = q.1 + q.2.2 := by
  simp only [q_ctg, Bool.and_eq_true, decide_eq_true_eq] at h; exact h.1
theorem q_seek_ok {t : Int} : ∀ {I : q_I}, q_ctg I = true → q_ctg (q_seek t I) = true ∧ (∀ q ∈ q_seek t I, q ∈ I) ∧ ∀ q l, q_seek t I = q :: l → (q.1 : Int) = t
  | [], _ => ⟨rfl, fun _ h => h, fun _ _ h => by cases h⟩
  | q :: l, h => by
    unfold q_seek
    split
    · next he => exact ⟨h, fun _ h => h, fun r l' e => by cases e; exact he⟩
    · obtain ⟨a, b, c⟩ := q_seek_ok (t := t) (q_ctg_tl h)
      exact ⟨a, fun r hr => List.mem_cons_of_mem _ (b r hr), c⟩
def q_cP (c : ClassFile.Cond) (x y : Int) : Prop := match c with
  | .eq => x = y
  | .ne => ¬ x = y
  | .lt => x < y
  | .ge => ¬ x < y
  | .gt => y < x
  | .le => ¬ y < x
theorem q_br_or {α : Type} {c : ClassFile.Cond} {x y : Int} {a b r : α} (h : q_br c x y a b = r) : (q_cP c x y ∧ a = r) ∨ (¬ q_cP c x y ∧ b = r) := by
  cases c <;> simp only [q_br, q_cP] at h ⊢ <;> split at h <;> rename_i hc <;> first | exact Or.inl ⟨hc, h⟩ | exact Or.inr ⟨hc, h⟩ | exact Or.inr ⟨fun z => z hc, h⟩
theorem q_ck_or {α : Type} {rk : Nat} {r : Option (Option q_V × q_G × q_M)} {G : q_G} {k : List q_V → q_M → Option α} {z : α} (h : q_ck rk r G k = some z) : ∃ (v : Option q_V) (M' : q_M), r = some (v, G, M') ∧ k v.toList M' = some z := by
  unfold q_ck at h
  split at h
  · unfold q_c0 at h
    split at h
    · split at h
      · next e => subst e; exact ⟨_, _, rfl, h⟩
      · cases h
    · cases h
  · unfold q_cI at h
    split at h
    · split at h
      · next e => subst e; exact ⟨_, _, rfl, h⟩
      · cases h
    · cases h
  · unfold q_cL at h
    split at h
    · split at h
      · next e => subst e; exact ⟨_, _, rfl, h⟩
      · cases h
    · cases h
  · unfold q_cR at h
    split at h
    · split at h
      · next e => subst e; exact ⟨_, _, rfl, h⟩
      · cases h
    · cases h
theorem q_iv_or {α : Type} {orc : q_O} {P : q_P} {kc ks : Nat} {ws : List Nat} {co idx : Nat} {l : q_L} {st : List q_V} {G : q_G} {M : q_M} {ca sa : Nat} {k : List q_V → q_M → Nat → Nat → Option α} {z : α} (h : q_iv orc P kc ks ws co idx st G M ca sa k = some z) : ∃ (st' : List q_V) (M' : q_M) (ca' sa' : Nat), q_call orc P kc ks ws co idx l st G M ca sa = some (l, st', G, M', ca', sa') ∧ k st' M' ca' sa' = some z := by
  unfold q_iv at h
  split at h
  · next w na mid hmk =>
    split at h
    · next hc =>
      obtain ⟨h1, h2, h3, h4, h5⟩ := hc
      split at h
      · next hc2 =>
        obtain ⟨h6, h7⟩ := hc2
        obtain ⟨v, M', e1, e2⟩ := q_ck_or h
        refine ⟨_, M', _, _, ?_, e2⟩
        unfold q_call
        rw [hmk]
        dsimp only
        rw [if_pos ⟨h1, h3, h4⟩, if_neg h2, if_pos ⟨h5, h6, h7⟩, e1]
      · cases h
    · cases h
  · cases h
section QD
variable {p : Program} {l0 : Launch} {e : Env} {R : Room} {s : State} {m : MethodId} {args : Array Value} {below : List Frame} {meth : Method} {c : Code} {Q : State → Prop}
variable {P : q_P} {NW : List (String × Nat × MethodName × String)} {SR : q_SRt} {Rn : Nat → String} {co : Nat} {cc : ByteArray} {nL : Nat} {ini : Bool} {D : va_G} {cT : Nat → ClassId} {A : Nat → Prop} {kc ks d : Nat} {orc : q_O} {ym : q_ym}
theorem q_icmp_s {H : Heap} {locs : List Loc} {ls : Array Slot} {ca sa pc tgt : Nat} {rest : List Value} {cd : ClassFile.Cond} {off : Int} {x y : Int} (hx : p.tables.exec = Jvm.exec) (hb : c.code = cc) (hxr : q_r x) (hyr : q_r y) (hd : decode cc pc = .ok (.if_icmp cd off, 3)) (ht : (pc : Int) + off = (tgt : Int))
    (kt : q_cP cd x y → W p l0 e R s m args below meth c H locs ca sa Q (F0 m tgt ls rest)) (kf : ¬ q_cP cd x y → W p l0 e R s m args below meth c H locs ca sa Q (F0 m (pc + 3) ls rest)) : W p l0 e R s m args below meth c H locs ca sa Q (F0 m pc ls (.int (Int32.ofInt y) :: .int (Int32.ofInt x) :: rest)) := by
  cases cd with
  | eq => exact lv_icmp_eq hx hb hd ht (fun h => kt ((q_eq hxr hyr).mp h)) (fun h => kf (fun z => h ((q_eq hxr hyr).mpr z)))
  | ne => exact lv_icmp_ne hx hb hd ht (fun h => kt (fun z => h ((q_eq hxr hyr).mpr z))) (fun h => kf (fun z => z ((q_eq hxr hyr).mp h)))
  | lt => exact lv_icmp_lt hx hb hd ht (fun h => kt ((q_lt hxr hyr).mp h)) (fun h => kf (fun z => h ((q_lt hxr hyr).mpr z)))
  | ge => exact lv_icmp_ge hx hb hd ht (fun h => kt (by have := (q_le hyr hxr).mp h; show ¬ x < y; omega)) (fun h => kf (fun z => h ((q_le hyr hxr).mpr (by have z : ¬ x < y := z; omega))))
  | gt => exact lv_icmp_gt hx hb hd ht (fun h => kt ((q_lt hyr hxr).mp h)) (fun h => kf (fun z => h ((q_lt hyr hxr).mpr z)))
  | le => exact lv_icmp_le hx hb hd ht (fun h => kt (by have := (q_le hxr hyr).mp h; show ¬ y < x; omega)) (fun h => kf (fun z => h ((q_le hxr hyr).mpr (by have z : ¬ y < x := z; omega))))
theorem q_if_s {H : Heap} {locs : List Loc} {ls : Array Slot} {ca sa pc tgt : Nat} {rest : List Value} {cd : ClassFile.Cond} {off : Int} {x : Int} (hx : p.tables.exec = Jvm.exec) (hb : c.code = cc) (hxr : q_r x) (hd : decode cc pc = .ok (.ifCond cd off, 3)) (ht : (pc : Int) + off = (tgt : Int))
    (kt : q_cP cd x 0 → W p l0 e R s m args below meth c H locs ca sa Q (F0 m tgt ls rest)) (kf : ¬ q_cP cd x 0 → W p l0 e R s m args below meth c H locs ca sa Q (F0 m (pc + 3) ls rest)) : W p l0 e R s m args below meth c H locs ca sa Q (F0 m pc ls (.int (Int32.ofInt x) :: rest)) := by
  have hyr : q_r 0 := q_0r
  have e0 : Int32.ofInt 0 = (0 : Int32) := rfl
  have h1 := q_eq hxr hyr
  have h2 := q_lt hxr hyr
  have h3 := q_le hyr hxr
  have h4 := q_lt hyr hxr
  have h5 := q_le hxr hyr
  rw [e0] at h1 h2 h3 h4 h5
  cases cd with
  | eq => exact lv_if_eq hx hb hd ht (fun h => kt (h1.mp h)) (fun h => kf (fun z => h (h1.mpr z)))
  | ne => exact lv_if_ne hx hb hd ht (fun h => kt (fun z => h (h1.mpr z))) (fun h => kf (fun z => z (h1.mp h)))
  | lt => exact lv_if_lt hx hb hd ht (fun h => kt (h2.mp h)) (fun h => kf (fun z => h (h2.mpr z)))
  | ge => exact lv_if_ge hx hb hd ht (fun h => kt (by have := h3.mp h; show ¬ x < 0; omega)) (fun h => kf (fun z => h (h3.mpr (by have z : ¬ x < 0 := z; omega))))
  | gt => exact lv_if_gt hx hb hd ht (fun h => kt (h4.mp h)) (fun h => kf (fun z => h (h4.mpr z)))
  | le => exact lv_if_le hx hb hd ht (fun h => kt (by have := h5.mp h; show ¬ 0 < x; omega)) (fun h => kf (fun z => h (h5.mpr (by have z : ¬ 0 < x := z; omega))))
set_option maxHeartbeats 4000000 in
theorem q_den_s {I : q_I} {sp : List Nat} (X : q_X p s m args meth c Rn co cc nL ini D cT A) (hTb : q_Tb P ym NW SR Rn) (hO : ∀ mid, q_Sd l0 P NW SR d (q_mm P mid).2.1 (q_mm P mid).2.2 (ym mid) (orc mid)) (hRf : d + 1 ≤ R.frames) (hRl : 64 * (d + 1) ≤ R.locals) (hkc : kc ≤ R.cells) (hks : ks ≤ R.slots) (hI : q_Iok cc I) :
    ∀ (n : Nat) (b : Bool) (rm : q_I) (l : q_L) (st : List q_V) (G : q_G) (M : q_M) (ca sa : Nat) (ad : Nat → Nat) (H : Heap) (locs : List Loc) (ls : Array Slot) (pc pc' : Nat) (T : q_T), q_ctg rm = true → (∀ q ∈ rm, q ∈ I) → (∀ q l', rm = q :: l' → q.1 = pc) → q_Y P NW SR s nL D cT A ad l st G M H locs ls → q_den orc P ini kc ks co I sp n b rm l st G M ca sa = some (pc', T) →
      q_KK p l0 e R s m args below meth c Q P NW SR nL D cT A ad G pc' T → W p l0 e R s m args below meth c H locs ca sa Q (F0 m pc ls (st.map (q_cv ad))) := by
  intro n
  induction n with
  | zero => intro b rm l st G M ca sa ad H locs ls pc pc' T _ _ _ _ h; cases h
  | succ n ih =>
    intro b rm l st G M ca sa ad H locs ls pc pc' T hct hin hpc Y h kk
    have hx := X.1
    have hb := X.2.1
    unfold q_den at h
    split at h
    · cases h
    · next pc0 ins len tl =>
      have e0 : pc0 = pc := hpc _ _ rfl
      subst e0
      obtain ⟨hd, hln, htg⟩ := hI.2 _ (hin _ List.mem_cons_self)
      dsimp only at hd hln htg
      have hctl := q_ctg_tl hct
      have hintl : ∀ q ∈ tl, q ∈ I := fun q hq => hin q (List.mem_cons_of_mem _ hq)
      have hnx : ∀ q l', tl = q :: l' → q.1 = pc0 + len := fun q l' hq => by subst hq; exact q_ctg_nx hct
      split at h
      · cases h
        exact q_go Y kk Y.2.2.2.2.2.2.2.1
      · have jump : ∀ (off : Int) (r : List q_V) (b' : Bool) (tgt : Nat), (∀ v ∈ r, q_ov G.length v) → q_den orc P ini kc ks co I sp n b' (q_seek ((pc0 : Int) + off) I) l r G M ca sa = some (pc', T) → (pc0 : Int) + off = (tgt : Int) → W p l0 e R s m args below meth c H locs ca sa Q (F0 m tgt ls (r.map (q_cv ad))) := by
          intro off r b' tgt hr hj ht
          obtain ⟨a1, a2, a3⟩ := q_seek_ok (t := (pc0 : Int) + off) hI.1
          exact ih b' _ l r G M ca sa ad H locs ls tgt pc' T a1 a2 (fun q l' hq => by have := a3 q l' hq; omega) (Y.st hr) hj kk
        have tgtof : ∀ (off : Int) (r : List q_V) (b' : Bool), q_den orc P ini kc ks co I sp n b' (q_seek ((pc0 : Int) + off) I) l r G M ca sa = some (pc', T) → ∃ tgt : Nat, (pc0 : Int) + off = (tgt : Int) := by
          intro off r b' hj
          rcases hsk : q_seek ((pc0 : Int) + off) I with _ | ⟨q, l'⟩
          · rw [hsk] at hj
            cases n with
            | zero => cases hj
            | succ n => cases hj
          · exact ⟨q.1, ((q_seek_ok (t := (pc0 : Int) + off) hI.1).2.2 q l' hsk).symm⟩
        split at h
        · next off =>
          obtain ⟨tgt, ht⟩ := tgtof off st true h
          subst hln
          exact lv_goto hx hb hd ht (jump off st true tgt Y.2.2.2.2.2.2.2.1 h ht)
        · next cd off =>
          subst hln
          split at h
          · next y x r =>
            obtain ⟨hy, h1⟩ := q_tl Y.2.2.2.2.2.2.2.1 rfl
            obtain ⟨hxr, hr⟩ := q_tl h1 rfl
            obtain ⟨tgt, ht⟩ : ∃ tgt : Nat, (pc0 : Int) + off = (tgt : Int) := ⟨((pc0 : Int) + off).toNat, (Int.toNat_of_nonneg htg).symm⟩
            rcases q_br_or h with ⟨hc, hj⟩ | ⟨hc, hj⟩
            · exact q_icmp_s hx hb hxr hy hd ht (fun _ => jump off r true tgt hr hj ht) (fun z => absurd hc z)
            · exact q_icmp_s hx hb hxr hy hd ht (fun z => absurd z hc) (fun _ => ih true tl l r G M ca sa ad H locs ls _ pc' T hctl hintl hnx (Y.st hr) hj kk)
          · cases h
        · next cd off =>
          subst hln
          split at h
          · next x r =>
            obtain ⟨hxr, hr⟩ := q_tl Y.2.2.2.2.2.2.2.1 rfl
            obtain ⟨tgt, ht⟩ : ∃ tgt : Nat, (pc0 : Int) + off = (tgt : Int) := ⟨((pc0 : Int) + off).toNat, (Int.toNat_of_nonneg htg).symm⟩
            rcases q_br_or h with ⟨hc, hj⟩ | ⟨hc, hj⟩
            · exact q_if_s hx hb hxr hd ht (fun _ => jump off r true tgt hr hj ht) (fun z => absurd hc z)
            · exact q_if_s hx hb hxr hd ht (fun z => absurd z hc) (fun _ => ih true tl l r G M ca sa ad H locs ls _ pc' T hctl hintl hnx (Y.st hr) hj kk)
          · cases h
        · next i =>
          subst hln
          obtain ⟨st', M', ca', sa', hcall, hk⟩ := q_iv_or (l := l) h
          exact q_call_s X hTb.2.2.2.2.2.2 hO hRf hRl hkc hks Y hcall (fun ad1 H1 locs1 ls1 ha hle Y1 => ih true tl l st' G M' ca' sa' ad1 H1 locs1 ls1 _ pc' T hctl hintl hnx Y1 hk (fun ad2 H2 locs2 ls2 ha2 hle2 Y2 => kk ad2 H2 locs2 ls2 (ha.tr hle ha2) (Nat.le_trans hle hle2) Y2)) hd (Or.inl ⟨rfl, rfl⟩)
        · next i =>
          subst hln
          obtain ⟨st', M', ca', sa', hcall, hk⟩ := q_iv_or (l := l) h
          exact q_call_s X hTb.2.2.2.2.2.2 hO hRf hRl hkc hks Y hcall (fun ad1 H1 locs1 ls1 ha hle Y1 => ih true tl l st' G M' ca' sa' ad1 H1 locs1 ls1 _ pc' T hctl hintl hnx Y1 hk (fun ad2 H2 locs2 ls2 ha2 hle2 Y2 => kk ad2 H2 locs2 ls2 (ha.tr hle ha2) (Nat.le_trans hle hle2) Y2)) hd (Or.inr (Or.inl ⟨rfl, rfl⟩))
        · split at h
          · next l' st' G' M' ca' sa' hstp =>
            refine q_stp_s X hTb hO hRf hRl hkc hks Y hstp hd hln (fun ad1 H1 locs1 ls1 ha hle Y1 => ?_)
            exact ih true tl l' st' G' M' ca' sa' ad1 H1 locs1 ls1 _ pc' T hctl hintl hnx Y1 h (fun ad2 H2 locs2 ls2 ha2 hle2 Y2 => kk ad2 H2 locs2 ls2 (ha.tr hle ha2) (Nat.le_trans hle hle2) Y2)
          · cases h
end QD
end
section
/-! a method: its segments from its entry to a return -/
/-- class, whether a constructor, locals, instructions, stops with what is alive there -/
abbrev q_R : Type := Nat × Bool × Nat × q_I × List (Nat × List Nat)
def q_isr (ins : Instr) : Bool := match ins with
  | .ireturn => true
  | .lreturn => true
  | .areturn => true
  | .return_ => true
  | _ => false
def q_end (rt : Option FieldType) (ins : Instr) (st : List q_V) : Option (Option q_V) := match ins, rt, st with
  | .ireturn, some .int, [.inl x] => some (some (.inl x))
  | .ireturn, some .boolean, [.inl x] => if x = 0 ∨ x = 1 then some (some (.inl x)) else none
  | .ireturn, some .char, [.inl x] => if 0 ≤ x ∧ x < 65536 then some (some (.inl x)) else none
  | .ireturn, some .byte, [.inl x] => if x = 0 ∨ x = 1 then some (some (.inl x)) else none
  | .lreturn, some .long, [.inr (.inl x)] => some (some (.inr (.inl x)))
  | .areturn, some (.object _), [.inr (.inr k)] => some (some (.inr (.inr k)))
  | .return_, none, [] => some none
  | _, _, _ => none
def q_mask (lv : List Nat) (l : q_L) : q_L := l.mapIdx (fun i v => if i ∈ lv then v else none)
def q_ent : List q_V → q_L
  | [] => []
  | .inr (.inl x) :: r => some (.inr (.inl x)) :: none :: q_ent r
  | v :: r => some v :: q_ent r
def q_entry (nL : Nat) (as : List q_V) : q_L := q_ent as ++ List.replicate (nL - (q_ent as).length) none
def q_drv (orc : q_O) (P : q_P) (kc ks : Nat) (rt : Option FieldType) (mr : q_R) : Nat → Nat → q_L → List q_V → q_G → q_M → Nat → Nat → Option (Option q_V × q_G × q_M)
  | 0, _, _, _, _, _, _, _ => none
  | F + 1, pc, l, st, G, M, ca, sa => match q_den orc P mr.2.1 kc ks mr.1 mr.2.2.2.1 (mr.2.2.2.2.map (·.1)) 1000 false (q_seek (pc : Int) mr.2.2.2.1) l st G M ca sa with
    | none => none
    | some (pc', l', st', G', M', ca', sa') => match q_seek (pc' : Int) mr.2.2.2.1 with
      | [] => none
      | (_, ins, _) :: _ => if q_isr ins = true then (if ca' ≤ kc ∧ sa' ≤ ks then (match q_end rt ins st' with
          | some r => some (r, G', M')
          | none => none) else none)
        else q_drv orc P kc ks rt mr F pc' (q_mask (((mr.2.2.2.2.find? (fun q => q.1 == pc')).map (·.2)).getD []) l') st' G' M' ca' sa'
theorem q_drv_mono {orc : q_O} {P : q_P} {kc ks : Nat} {rt : Option FieldType} {mr : q_R} {r : Option q_V × q_G × q_M} : ∀ (F F' : Nat) (pc : Nat) (l : q_L) (st : List q_V) (G : q_G) (M : q_M) (ca sa : Nat), F ≤ F' → q_drv orc P kc ks rt mr F pc l st G M ca sa = some r → q_drv orc P kc ks rt mr F' pc l st G M ca sa = some r := by
  intro F
  induction F with
  | zero => intro F' pc l st G M ca sa _ h; cases h
  | succ F ih =>
    intro F' pc l st G M ca sa hF h
    obtain ⟨F', rfl⟩ : ∃ k, F' = k + 1 := ⟨F' - 1, by omega⟩
    unfold q_drv at h ⊢
    split at h
    · cases h
    · next pc' l' st' G' M' ca' sa' hden =>
      try rw [hden]
      try dsimp only
      split at h
      · cases h
      · next p0 ins ln tl hsk =>
        try rw [hsk]
        try dsimp only
        split at h
        · next hr => rw [if_pos hr]; exact h
        · next hr => rw [if_neg hr]; exact ih F' _ _ _ _ _ _ _ (by omega) h
/-- methods whose answer is told otherwise -/
abbrev q_X9 : Type := Nat → Option (List q_V → q_G → q_M → Option (Option q_V × q_G × q_M))
/-- the answer that a method comes to, with d frames left -/
noncomputable def q_f (P : q_P) (ym : q_ym) (MT : Nat → q_R) (ex : q_X9) : Nat → q_O
  | 0 => fun _ _ _ _ => none
  | d + 1 => fun mid as G M => match ex mid with
    | some g => if 3 ≤ d + 1 then g as G M else none
    | none => @dite _ (∃ r F, (q_ent as).length ≤ (ym mid).2.2.1 ∧ q_drv (q_f P ym MT ex d) P (q_mm P mid).2.1 (q_mm P mid).2.2 (ym mid).2.2.2 (MT mid) F 0 (q_entry (ym mid).2.2.1 as) [] G M 0 0 = some r) (Classical.propDecidable _) (fun h => some (Classical.choose h)) (fun _ => none)
theorem q_f_iff {P : q_P} {ym : q_ym} {MT : Nat → q_R} {ex : q_X9} {d mid : Nat} {as : List q_V} {G : q_G} {M : q_M} {r : Option q_V × q_G × q_M} (hex : ex mid = none) : q_f P ym MT ex (d + 1) mid as G M = some r ↔ (q_ent as).length ≤ (ym mid).2.2.1 ∧ ∃ F, q_drv (q_f P ym MT ex d) P (q_mm P mid).2.1 (q_mm P mid).2.2 (ym mid).2.2.2 (MT mid) F 0 (q_entry (ym mid).2.2.1 as) [] G M 0 0 = some r := by
  have key : ∀ r r' F F', q_drv (q_f P ym MT ex d) P (q_mm P mid).2.1 (q_mm P mid).2.2 (ym mid).2.2.2 (MT mid) F 0 (q_entry (ym mid).2.2.1 as) [] G M 0 0 = some r → q_drv (q_f P ym MT ex d) P (q_mm P mid).2.1 (q_mm P mid).2.2 (ym mid).2.2.2 (MT mid) F' 0 (q_entry (ym mid).2.2.1 as) [] G M 0 0 = some r' → r = r' := by
    intro r r' F F' h h'
    have h1 := q_drv_mono F (F + F') _ _ _ _ _ _ _ (by omega) h
    have h2 := q_drv_mono F' (F + F') _ _ _ _ _ _ _ (by omega) h'
    rw [h1] at h2
    exact Option.some.inj h2
  constructor
  · intro h
    simp only [q_f, hex] at h
    by_cases hx : ∃ r F, (q_ent as).length ≤ (ym mid).2.2.1 ∧ q_drv (q_f P ym MT ex d) P (q_mm P mid).2.1 (q_mm P mid).2.2 (ym mid).2.2.2 (MT mid) F 0 (q_entry (ym mid).2.2.1 as) [] G M 0 0 = some r
    · rw [dif_pos hx] at h
      cases h
      obtain ⟨F, h1, h2⟩ := Classical.choose_spec hx
      exact ⟨h1, F, h2⟩
    · rw [dif_neg hx] at h; cases h
  · rintro ⟨h0, F, h⟩
    have hx : ∃ r F, (q_ent as).length ≤ (ym mid).2.2.1 ∧ q_drv (q_f P ym MT ex d) P (q_mm P mid).2.1 (q_mm P mid).2.2 (ym mid).2.2.2 (MT mid) F 0 (q_entry (ym mid).2.2.1 as) [] G M 0 0 = some r := ⟨r, F, h0, h⟩
    simp only [q_f, hex]
    rw [dif_pos hx]
    obtain ⟨F', -, h'⟩ := Classical.choose_spec hx
    rw [key _ _ _ _ h h']
theorem q_mask_get {lv : List Nat} {l : q_L} {i : Nat} {v : q_V} (h : (q_mask lv l)[i]? = some (some v)) : l[i]? = some (some v) := by
  simp only [q_mask, List.getElem?_mapIdx, Option.map_eq_some_iff] at h
  obtain ⟨w, h1, h2⟩ := h
  split at h2
  · rw [h1, h2]
  · cases h2
theorem q_mask_len {lv : List Nat} {l : q_L} : (q_mask lv l).length = l.length := by simp [q_mask]
theorem q_ent_get {ad : Nat → Nat} : ∀ (as : List q_V) (k i : Nat) (v : q_V), (q_ent as)[i]? = some (some v) → (k + i, q_cv ad v) ∈ lv_args k (as.map (q_cv ad)) ∧ v ∈ as
  | [], k, i, v, h => by simp [q_ent] at h
  | .inr (.inl x) :: r, k, i, v, h => by
    simp only [q_ent] at h
    rcases i with _ | _ | i
    · simp at h; subst h; exact ⟨List.mem_cons_self, List.mem_cons_self⟩
    · simp at h
    · simp only [List.getElem?_cons_succ] at h
      obtain ⟨a, b⟩ := q_ent_get (ad := ad) r (k + 2) i v h
      refine ⟨?_, List.mem_cons_of_mem _ b⟩
      rw [show k + (i + 1 + 1) = k + 2 + i by omega]
      exact List.mem_cons_of_mem _ a
  | .inl x :: r, k, i, v, h => by
    simp only [q_ent] at h
    rcases i with _ | i
    · simp at h; subst h; exact ⟨List.mem_cons_self, List.mem_cons_self⟩
    · simp only [List.getElem?_cons_succ] at h
      obtain ⟨a, b⟩ := q_ent_get (ad := ad) r (k + 1) i v h
      refine ⟨?_, List.mem_cons_of_mem _ b⟩
      rw [show k + (i + 1) = k + 1 + i by omega]
      exact List.mem_cons_of_mem _ a
  | .inr (.inr x) :: r, k, i, v, h => by
    simp only [q_ent] at h
    rcases i with _ | i
    · simp at h; subst h; exact ⟨List.mem_cons_self, List.mem_cons_self⟩
    · simp only [List.getElem?_cons_succ] at h
      obtain ⟨a, b⟩ := q_ent_get (ad := ad) r (k + 1) i v h
      refine ⟨?_, List.mem_cons_of_mem _ b⟩
      rw [show k + (i + 1) = k + 1 + i by omega]
      exact List.mem_cons_of_mem _ a
theorem q_ent_len {ad : Nat → Nat} : ∀ (as : List q_V), (lg_sl (as.map (q_cv ad))).length = (q_ent as).length
  | [] => rfl
  | .inr (.inl x) :: r => by have := q_ent_len (ad := ad) r; simp [lg_sl, q_ent, q_cv, Value.category] at this ⊢; omega
  | .inl x :: r => by have := q_ent_len (ad := ad) r; simp [lg_sl, q_ent, q_cv, Value.category] at this ⊢; omega
  | .inr (.inr x) :: r => by have := q_ent_len (ad := ad) r; simp [lg_sl, q_ent, q_cv, Value.category] at this ⊢; omega
end
section
section QE
variable {p : Program} {l0 : Launch} {e : Env} {R : Room} {s : State} {m : MethodId} {args : Array Value} {below : List Frame} {meth : Method} {c : Code}
variable {P : q_P} {NW : List (String × Nat × MethodName × String)} {SR : q_SRt} {Rn : Nat → String} {cc : ByteArray} {nL : Nat} {D : va_G} {cT : Nat → ClassId} {A : Nat → Prop} {kc ks d : Nat} {orc : q_O} {ym : q_ym} {mr : q_R} {rt : Option FieldType}
/-- a return -/
theorem q_end_s {Qc : Array Value → State → Outcome → State → Prop} {ins : Instr} {ad : Nat → Nat} {l : q_L} {st : List q_V} {G : q_G} {M : q_M} {H : Heap} {locs : List Loc} {ls : Array Slot} {pc : Nat} {r : Option q_V} (hx : p.tables.exec = Jvm.exec) (hb : c.code = cc) (hrt : meth.sig.returnType = rt) (hlocks : meth.locks = false) (hd : decode cc pc = .ok (ins, 1)) (he : q_end rt ins st = some r) (Y : q_Y P NW SR s nL D cT A ad l st G M H locs ls)
    (hq : ∀ t : State, t.heap = H → (∀ v, r = some v → q_ov G.length v) → Qc args s (.returned (r.map (q_cv ad))) t) : W p l0 e R s m args below meth c H locs kc ks (MQ below Qc args s kc ks A) (F0 m pc ls (st.map (q_cv ad))) := by
  have hf : ∀ q ∈ locs, A q.base := Y.2.2.1.2.2
  have hst := Y.2.2.2.2.2.2.2.1
  unfold q_end at he
  split at he
  · next x => cases he; exact W.iret hx hb hrt (fun t ht _ => hq t ht (fun v hv => by cases hv; exact hst _ List.mem_cons_self)) hf hd
  · next x =>
    split at he
    · next h => cases he; exact W.zret hx hb hrt (q_fit_bool h).1 (fun t ht _ => hq t ht (fun v hv => by cases hv; exact hst _ List.mem_cons_self)) hf hd
    · cases he
  · next x =>
    split at he
    · next h =>
      cases he
      refine W.zret hx hb hrt ?_ (fun t ht _ => hq t ht (fun v hv => by cases hv; exact hst _ List.mem_cons_self)) hf hd
      obtain ⟨n, rfl⟩ : ∃ n : Nat, x = (n : Int) := ⟨x.toNat, by omega⟩
      exact (pk_charN (q := n) (by omega)).1
    · cases he
  · next x =>
    split at he
    · next h =>
      cases he
      refine W.zret hx hb hrt ?_ (fun t ht _ => hq t ht (fun v hv => by cases hv; exact hst _ List.mem_cons_self)) hf hd
      rcases h with rfl | rfl <;> decide +kernel
    · cases he
  · next x => cases he; exact W.lret hx hb hrt (fun t ht _ => hq t ht (fun v hv => by cases hv; exact hst _ List.mem_cons_self)) hf hd
  · next n k => cases he; exact W.aret hx hb hrt (Or.inl ⟨n, rfl⟩) (Or.inr ⟨_, rfl⟩) (fun t ht _ => hq t ht (fun v hv => by cases hv; exact hst _ List.mem_cons_self)) hf hd
  · cases he; exact W.vret hx hb hrt (fun t ht _ => hq t ht (fun v hv => by cases hv)) hf hd
  · cases he
theorem q_isr_ln {ins : Instr} (h : q_isr ins = true) : q_ln ins = 1 := by
  cases ins <;> simp [q_isr] at h <;> rfl
set_option maxHeartbeats 4000000 in
theorem q_drv_s {ad0 : Nat → Nat} {G0 : q_G} {M0 : q_M} {r : Option q_V} {G' : q_G} {M' : q_M} {Qc : Array Value → State → Outcome → State → Prop} (X : q_X p s m args meth c Rn mr.1 cc nL mr.2.1 D cT A) (hTb : q_Tb P ym NW SR Rn) (hO : ∀ mid, q_Sd l0 P NW SR d (q_mm P mid).2.1 (q_mm P mid).2.2 (ym mid) (orc mid)) (hRf : d + 1 ≤ R.frames) (hRl : 64 * (d + 1) ≤ R.locals) (hkc : kc ≤ R.cells) (hks : ks ≤ R.slots) (hI : q_Iok cc mr.2.2.2.1) (hrt : meth.sig.returnType = rt) (hlocks : meth.locks = false)
    (hQ : ∀ (t : State) (ad : Nat → Nat) (locs : List Loc), va_P D vwCl (q_ws P cT ad G' M') t.heap → va_D A (q_ws P cT ad G' M') → va_S A s.heap t.heap locs → q_oG P G' → q_oM G' M' → q_adx G0.length ad0 ad → G0.length ≤ G'.length → (∀ v, r = some v → q_ov G'.length v) → Qc args s (.returned (r.map (q_cv ad))) t) :
    ∀ (F pc : Nat) (l : q_L) (st : List q_V) (G : q_G) (M : q_M) (ca sa : Nat) (ad : Nat → Nat) (H : Heap) (locs : List Loc) (ls : Array Slot), q_Y P NW SR s nL D cT A ad l st G M H locs ls → q_adx G0.length ad0 ad → G0.length ≤ G.length → q_drv orc P kc ks rt mr F pc l st G M ca sa = some (r, G', M') → W p l0 e R s m args below meth c H locs ca sa (MQ below Qc args s kc ks A) (F0 m pc ls (st.map (q_cv ad))) := by
  intro F
  induction F with
  | zero => intro pc l st G M ca sa ad H locs ls _ _ _ h; cases h
  | succ F ih =>
    intro pc l st G M ca sa ad H locs ls Y ha hle h
    unfold q_drv at h
    split at h
    · cases h
    · next pc' l' st' G1 M1 ca' sa' hden =>
      obtain ⟨a1, a2, a3⟩ := q_seek_ok (t := (pc : Int)) hI.1
      refine q_den_s X hTb hO hRf hRl hkc hks hI 1000 false _ l st G M ca sa ad H locs ls pc pc' _ a1 a2 (fun q l' hq => by have := a3 q l' hq; omega) Y hden (fun ad1 H1 locs1 ls1 ha1 hle1 Y1 => ?_)
      dsimp only at hle1 Y1 ⊢
      split at h
      · cases h
      · next p0 ins ln tl hsk =>
        obtain ⟨b1, b2, b3⟩ := q_seek_ok (t := (pc' : Int)) hI.1
        have hp0 : p0 = pc' := by have := b3 _ _ hsk; dsimp only at this; omega
        subst hp0
        obtain ⟨hd, hln, -⟩ := hI.2 _ (b2 _ (by rw [hsk]; exact List.mem_cons_self))
        dsimp only at hd hln
        split at h
        · next hr =>
          split at h
          · next hc =>
            split at h
            · next r' he =>
              cases h
              refine W.widen hc.1 hc.2 ?_
              rw [q_isr_ln hr] at hln
              subst hln
              exact q_end_s X.1 X.2.1 hrt hlocks hd he Y1 (fun t ht hv => hQ t ad1 locs1 (by rw [ht]; exact Y1.1) Y1.2.1 (by rw [ht]; exact Y1.2.2.1) Y1.2.2.2.1 Y1.2.2.2.2.1 (ha.tr hle ha1) (Nat.le_trans hle hle1) hv)
            · cases h
          · cases h
        · refine ih _ _ _ _ _ _ _ ad1 H1 locs1 ls1 ?_ (ha.tr hle ha1) (Nat.le_trans hle hle1) h
          exact Y1.lc Y1.2.2.2.2.2.2.2.1 ⟨by rw [q_mask_len]; exact Y1.2.2.2.2.2.1.1, Y1.2.2.2.2.2.1.2.1, fun i v hv => Y1.2.2.2.2.2.1.2.2 i v (q_mask_get hv)⟩ (fun v hv => by
            obtain ⟨i, hi⟩ := List.getElem?_of_mem hv
            exact Y1.2.2.2.2.2.2.1 v (List.mem_of_getElem? (q_mask_get hi))) (by rw [q_mask_len]; exact Y1.2.2.2.2.2.2.2.2.1)
/-- the table of methods is right -/
def q_MTok (ym : q_ym) (MT : Nat → q_R) (Rn : Nat → String) : Prop := ∀ mid, (MT mid).2.2.2.1 = [] ∨ (plainFor (ym mid).1 = true ∧ q_hh (ym mid).1 = none ∧ q_Iok (ym mid).2.1 (MT mid).2.2.2.1 ∧ Rn (MT mid).1 = (ym mid).1.cls ∧ ((MT mid).2.1 = true → (ym mid).1.name = "<init>"))
theorem q_lc_entry {ad : Nat → Nat} {as : List q_V} {n : Nat} (h : (q_ent as).length ≤ n) : q_lc ad (lg_sl (as.map (q_cv ad)) ++ List.replicate (n - (lg_sl (as.map (q_cv ad))).length) Slot.unset).toArray (q_entry n as) ∧ (q_entry n as).length = n ∧ ∀ v, some v ∈ q_entry n as → v ∈ as := by
  have h1 := lv_entry (as.map (q_cv ad)) (n := n) (by rw [q_ent_len]; exact h)
  have hlen : (q_entry n as).length = n := by simp [q_entry]; omega
  have key : ∀ (i : Nat) (v : q_V), (q_entry n as)[i]? = some (some v) → (q_ent as)[i]? = some (some v) := by
    intro i v hv
    unfold q_entry at hv
    by_cases hi : i < (q_ent as).length
    · rw [List.getElem?_append_left hi] at hv; exact hv
    · rw [List.getElem?_append_right (by omega)] at hv
      have := List.eq_of_mem_replicate (List.mem_of_getElem? hv)
      cases this
  refine ⟨⟨by rw [h1.1, hlen], h1.2.1, fun i v hv => ?_⟩, hlen, fun v hv => ?_⟩
  · have := (q_ent_get (ad := ad) as 0 i v (key i v hv)).1
    rw [Nat.zero_add] at this
    exact h1.2.2 _ this
  · obtain ⟨i, hi⟩ := List.getElem?_of_mem hv
    exact (q_ent_get (ad := ad) as 0 i v (key i v hi)).2
set_option maxHeartbeats 4000000 in
theorem q_met {MT : Nat → q_R} {ex : q_X9} (hEx : ∀ mid g, ex mid = some g → ∀ d, 3 ≤ d → q_Sd l0 P NW SR d (q_mm P mid).2.1 (q_mm P mid).2.2 (ym mid) g) (hTb : q_Tb P ym NW SR Rn) (hMT : q_MTok ym MT Rn) (hO : ∀ mid, q_Sd l0 P NW SR d (q_mm P mid).2.1 (q_mm P mid).2.2 (ym mid) (q_f P ym MT ex d mid)) (mid : Nat) : q_Sd l0 P NW SR (d + 1) (q_mm P mid).2.1 (q_mm P mid).2.2 (ym mid) (q_f P ym MT ex (d + 1) mid) := by
  intro D cT ad as G M r G' M' hf hG hM has sz
  rcases hex : ex mid with _ | g
  case some =>
    simp only [q_f, hex] at hf
    split at hf
    · next h3 => exact hEx mid g hex (d + 1) h3 D cT ad as G M r G' M' hf hG hM has sz
    · cases hf
  obtain ⟨hlen, F, hF⟩ := (q_f_iff hex).mp hf
  rcases hMT mid with hnil | ⟨hpl, hhn, hI, hRn, hini⟩
  · exfalso
    cases F with
    | zero => cases hF
    | succ F =>
      unfold q_drv at hF
      rw [hnil] at hF
      cases hF
  · refine va_MetF (cc := (ym mid).2.1) (maxL := (ym mid).2.2.1) (ret := (ym mid).2.2.2) (ws' := q_WT) hpl (by unfold q_mW q_cw; rw [hhn]) ?_
    intro p e s m args below meth c s₁ B hml hv
    obtain ⟨rfl, hsz, hP, hK, hD0, hE⟩ := hv
    subst hsz
    have hts := atoms_spec (ws := q_mW (ym mid)) B.pre
    have hown : s.vm.findClass (Rn (MT mid).1) = some m.cls := by rw [hRn]; exact findClass_of_methodNamed B.named
    have hnm := (name_of_methodNamed B.named B.method).1
    have hA : ∀ q : Nat, s.heap.size ≤ q → va_A (q_ws P cT ad G M) s.heap.size q := fun q h => Or.inr h
    have X : q_X p s m (as.map (q_cv ad)).toArray meth c Rn (MT mid).1 (ym mid).2.1 (ym mid).2.2.1 (MT mid).2.1 D cT (va_A (q_ws P cT ad G M) s.heap.size) := ⟨B.exec, B.bytes, hml, hown, fun w hw => hts w (List.mem_cons_of_mem _ hw), hK, hA, fun h => by rw [hnm]; exact hini h⟩
    rw [lg_entry_eq]
    obtain ⟨hl1, hl2, hl3⟩ := q_lc_entry (ad := ad) hlen
    generalize (lg_sl (as.map (q_cv ad)) ++ List.replicate ((ym mid).2.2.1 - (lg_sl (as.map (q_cv ad))).length) Slot.unset).toArray = ls at hl1 ⊢
    have Y : q_Y P NW SR s (ym mid).2.2.1 D cT (va_A (q_ws P cT ad G M) s.heap.size) ad (q_entry (ym mid).2.2.1 as) [] G M s.heap [] ls := ⟨hP, hD0.self, va_S.rf, hG, hM, hl1, fun v hv => has v (hl3 v hv), fun v hv => by simp at hv, hl2, hE⟩
    exact q_drv_s (ad0 := ad) (G0 := G) (M0 := M) X hTb hO (Nat.le_refl _) (Nat.le_refl _) (Nat.le_refl _) (Nat.le_refl _) hI B.returns B.notSynchronized (fun t ad' locs a1 a2 a3 a4 a5 a6 a7 a8 => ⟨⟨ad', a6, rfl, a1, a2, a4, a5, a7, a8⟩, a3.F rfl⟩) F 0 _ [] G M 0 0 ad s.heap [] ls Y q_adx.rf (Nat.le_refl _) hF
theorem q_all {MT : Nat → q_R} {ex : q_X9} (hEx : ∀ mid g, ex mid = some g → ∀ d, 3 ≤ d → q_Sd l0 P NW SR d (q_mm P mid).2.1 (q_mm P mid).2.2 (ym mid) g) (hTb : q_Tb P ym NW SR Rn) (hMT : q_MTok ym MT Rn) : ∀ d mid, q_Sd l0 P NW SR d (q_mm P mid).2.1 (q_mm P mid).2.2 (ym mid) (q_f P ym MT ex d mid)
  | 0 => fun mid D cT ad as G M r G' M' h => by cases h
  | d + 1 => q_met hEx hTb hMT (q_all hEx hTb hMT d)
end QE
end
section
def q_en {α : Type} (rt : Option FieldType) (ins : Instr) (st : List q_V) (k : Option q_V → Option α) : Option α := match ins, rt, st with
  | .ireturn, some .int, [.inl x] => k (some (.inl x))
  | .ireturn, some .boolean, [.inl x] => if x = 0 ∨ x = 1 then k (some (.inl x)) else none
  | .ireturn, some .char, [.inl x] => if 0 ≤ x ∧ x < 65536 then k (some (.inl x)) else none
  | .ireturn, some .byte, [.inl x] => if x = 0 ∨ x = 1 then k (some (.inl x)) else none
  | .lreturn, some .long, [.inr (.inl x)] => k (some (.inr (.inl x)))
  | .areturn, some (.object _), [.inr (.inr z)] => k (some (.inr (.inr z)))
  | .return_, none, [] => k none
  | _, _, _ => none
theorem q_end_k {rt : Option FieldType} {ins : Instr} {st : List q_V} : q_end rt ins st = q_en rt ins st some := rfl
theorem q_en_b {α : Type} {rt : Option FieldType} {ins : Instr} {st : List q_V} {k : Option q_V → Option α} : q_en rt ins st k = (q_en rt ins st some).bind k := by
  unfold q_en
  split
  · rfl
  · split <;> rfl
  · split <;> rfl
  · split <;> rfl
  · rfl
  · rfl
  · rfl
  · rfl
/-- one instruction, what comes behind it told by k -/
def q_aldk {α : Type} (t : Nat) (st : List q_V) (G : q_G) (M : q_M) (k : Int → List q_V → Option α) : Option α := match st with
  | .inl i :: .inr (.inr a) :: r => match G[a]? with
    | some (.inl (t', n)) => if t' = t then (if 0 ≤ i ∧ i < (n : Int) then k (M a i.toNat) r else none) else none
    | _ => none
  | _ => none
def q_baldk {α : Type} (P : q_P) (st : List q_V) (G : q_G) (M : q_M) (k : Int → List q_V → Option α) : Option α := match st with
  | .inl i :: .inr (.inr a) :: r => if 2000 ≤ a then (match (q_sb P)[a - 2000]? with
      | some bs => if 0 ≤ i ∧ i < (bs.length : Int) then k (bs.getD i.toNat 0) r else none
      | none => none) else q_aldk 1 st G M k
  | _ => none
def q_ialdk {α : Type} (P : q_P) (st : List q_V) (G : q_G) (M : q_M) (k : Int → List q_V → Option α) : Option α := match st with
  | .inl i :: .inr (.inr a) :: r => if a = 3000 then (if 0 ≤ i ∧ i < ((q_sc P).length : Int) then k ((q_sc P).getD i.toNat 0) r else none) else q_aldk 0 st G M k
  | _ => none
def q_astk {α : Type} (t : Nat) (st : List q_V) (G : q_G) (M : q_M) (k : q_M → List q_V → Option α) : Option α := match st with
  | .inl x :: .inl i :: .inr (.inr a) :: r => match G[a]? with
    | some (.inl (t', n)) => if t' = t then (if 0 ≤ i ∧ i < (n : Int) then (if t = 0 ∨ (t = 1 ∧ (x = 0 ∨ x = 1)) ∨ (t = 2 ∧ 0 ≤ x ∧ x < 65536) then k (q_up M a i.toNat x) r else none) else none) else none
    | _ => none
  | _ => none
def q_lastk {α : Type} (st : List q_V) (G : q_G) (M : q_M) (k : q_M → List q_V → Option α) : Option α := match st with
  | .inr (.inl x) :: .inl i :: .inr (.inr a) :: r => match G[a]? with
    | some (.inl (t', n)) => if t' = 3 then (if 0 ≤ i ∧ i < (n : Int) then k (q_up M a i.toNat x) r else none) else none
    | _ => none
  | _ => none
def q_putk {α : Type} (P : q_P) (ini : Bool) (co idx : Nat) (st : List q_V) (G : q_G) (M : q_M) (k : q_G → q_M → List q_V → Option α) : Option α := match q_fl P co idx, st with
  | some (ci, j), .inl x :: .inr (.inr a) :: r => match G[a]? with
      | some (.inr (cj, _)) => if cj = ci then (if q_ft P ci j = 0 then k G (q_up M a j x) r else if q_ft P ci j = 1 then (if x = 0 ∨ x = 1 then k G (q_up M a j x) r else none) else none) else none
      | _ => none
  | some (ci, j), .inr (.inr z) :: .inr (.inr a) :: r => match G[a]? with
      | some (.inr (cj, rs)) => if cj = ci ∧ ini = true ∧ ci = co ∧ q_ft P ci j = 4 ∧ z < G.length then k (G.set a (.inr (ci, rs.set j (z + 1)))) M r else none
      | _ => none
  | _, _ => none
def q_iik {α : Type} (st : List q_V) (k : Int → Int → List q_V → Option α) : Option α := match st with
  | .inl y :: .inl x :: r => k x y r
  | _ => none
def q_sk {α : Type} (orc : q_O) (P : q_P) (ini : Bool) (kc ks co : Nat) (ins : Instr) (l : q_L) (st : List q_V) (G : q_G) (M : q_M) (ca sa : Nat) (k : q_L → List q_V → q_G → q_M → Nat → Nat → Option α) : Option α := match ins with
  | .iaload => q_ialdk P st G M (fun x r => k l (.inl x :: r) G M ca sa)
  | .baload => q_baldk P st G M (fun x r => k l (.inl x :: r) G M ca sa)
  | .caload => q_aldk 2 st G M (fun x r => k l (.inl x :: r) G M ca sa)
  | .laload => q_aldk 3 st G M (fun x r => k l (.inr (.inl x) :: r) G M ca sa)
  | .iastore => q_astk 0 st G M (fun M' r => k l r G M' ca sa)
  | .bastore => q_astk 1 st G M (fun M' r => k l r G M' ca sa)
  | .castore => q_astk 2 st G M (fun M' r => k l r G M' ca sa)
  | .lastore => q_lastk st G M (fun M' r => k l r G M' ca sa)
  | .putfield idx => q_putk P ini co idx st G M (fun G' M' r => k l r G' M' ca sa)
  | .irem => q_iik st (fun x y r => if y = 2 ∧ 0 ≤ x then k l (.inl (x % 2) :: r) G M ca sa else none)
  | .ishr => q_iik st (fun x y r => if y = 0 then k l (.inl x :: r) G M ca sa else none)
  | .i2b => match st with
    | .inl x :: r => if -128 ≤ x ∧ x < 128 then k l (.inl x :: r) G M ca sa else none
    | _ => none
  | ins => match q_stp orc P ini kc ks co ins l st G M ca sa with
    | some (l', st', G', M', ca', sa') => k l' st' G' M' ca' sa'
    | none => none
theorem q_ald_k {t : Nat} {l : q_L} {st : List q_V} {G : q_G} {M : q_M} {ca sa : Nat} : q_ald t l st G M ca sa = q_aldk t st G M (fun x r => some (l, .inl x :: r, G, M, ca, sa)) := rfl
theorem q_lald_k {l : q_L} {st : List q_V} {G : q_G} {M : q_M} {ca sa : Nat} : q_lald l st G M ca sa = q_aldk 3 st G M (fun x r => some (l, .inr (.inl x) :: r, G, M, ca, sa)) := rfl
theorem q_bald_k {P : q_P} {l : q_L} {st : List q_V} {G : q_G} {M : q_M} {ca sa : Nat} : q_bald P l st G M ca sa = q_baldk P st G M (fun x r => some (l, .inl x :: r, G, M, ca, sa)) := rfl
theorem q_iald_k {P : q_P} {l : q_L} {st : List q_V} {G : q_G} {M : q_M} {ca sa : Nat} : q_iald P l st G M ca sa = q_ialdk P st G M (fun x r => some (l, .inl x :: r, G, M, ca, sa)) := rfl
theorem q_ast_k {t : Nat} {l : q_L} {st : List q_V} {G : q_G} {M : q_M} {ca sa : Nat} : q_ast t l st G M ca sa = q_astk t st G M (fun M' r => some (l, r, G, M', ca, sa)) := rfl
theorem q_last_k {l : q_L} {st : List q_V} {G : q_G} {M : q_M} {ca sa : Nat} : q_last l st G M ca sa = q_lastk st G M (fun M' r => some (l, r, G, M', ca, sa)) := rfl
theorem q_put_k {P : q_P} {ini : Bool} {co idx : Nat} {l : q_L} {st : List q_V} {G : q_G} {M : q_M} {ca sa : Nat} : q_put P ini co idx l st G M ca sa = q_putk P ini co idx st G M (fun G' M' r => some (l, r, G', M', ca, sa)) := rfl
theorem q_aldk_b {α β : Type} {t : Nat} {st : List q_V} {G : q_G} {M : q_M} {g : Int → List q_V → Option β} {k : β → Option α} : (q_aldk t st G M g).bind k = q_aldk t st G M (fun x r => (g x r).bind k) := by
  unfold q_aldk
  repeat' split
  all_goals rfl
theorem q_baldk_b {α β : Type} {P : q_P} {st : List q_V} {G : q_G} {M : q_M} {g : Int → List q_V → Option β} {k : β → Option α} : (q_baldk P st G M g).bind k = q_baldk P st G M (fun x r => (g x r).bind k) := by
  unfold q_baldk
  split
  · split
    · repeat' split
      all_goals rfl
    · exact q_aldk_b
  · rfl
theorem q_ialdk_b {α β : Type} {P : q_P} {st : List q_V} {G : q_G} {M : q_M} {g : Int → List q_V → Option β} {k : β → Option α} : (q_ialdk P st G M g).bind k = q_ialdk P st G M (fun x r => (g x r).bind k) := by
  unfold q_ialdk
  split
  · split
    · split <;> rfl
    · exact q_aldk_b
  · rfl
theorem q_astk_b {α β : Type} {t : Nat} {st : List q_V} {G : q_G} {M : q_M} {g : q_M → List q_V → Option β} {k : β → Option α} : (q_astk t st G M g).bind k = q_astk t st G M (fun x r => (g x r).bind k) := by
  unfold q_astk
  repeat' split
  all_goals rfl
theorem q_lastk_b {α β : Type} {st : List q_V} {G : q_G} {M : q_M} {g : q_M → List q_V → Option β} {k : β → Option α} : (q_lastk st G M g).bind k = q_lastk st G M (fun x r => (g x r).bind k) := by
  unfold q_lastk
  repeat' split
  all_goals rfl
theorem q_putk_b {α β : Type} {P : q_P} {ini : Bool} {co idx : Nat} {st : List q_V} {G : q_G} {M : q_M} {g : q_G → q_M → List q_V → Option β} {k : β → Option α} : (q_putk P ini co idx st G M g).bind k = q_putk P ini co idx st G M (fun x y r => (g x y r).bind k) := by
  unfold q_putk
  repeat' split
  all_goals rfl
def q_k6 {α : Type} (k : q_L → List q_V → q_G → q_M → Nat → Nat → Option α) (T : q_T) : Option α := k T.1 T.2.1 T.2.2.1 T.2.2.2.1 T.2.2.2.2.1 T.2.2.2.2.2
theorem q_sk_eq {α : Type} {orc : q_O} {P : q_P} {ini : Bool} {kc ks co : Nat} {ins : Instr} {l : q_L} {st : List q_V} {G : q_G} {M : q_M} {ca sa : Nat} {k : q_L → List q_V → q_G → q_M → Nat → Nat → Option α} : q_sk orc P ini kc ks co ins l st G M ca sa k = (q_stp orc P ini kc ks co ins l st G M ca sa).bind (q_k6 k) := by
  have dflt : ∀ x : Option q_T, (match x with
    | some (l', st', G', M', ca', sa') => k l' st' G' M' ca' sa'
    | none => none) = x.bind (q_k6 k) := fun x => by rcases x with _ | ⟨a, b, c, d, e, f⟩ <;> rfl
  cases ins
  case iaload => simp only [q_sk, q_stp, q_iald_k, q_ialdk_b]; rfl
  case baload => simp only [q_sk, q_stp, q_bald_k, q_baldk_b]; rfl
  case caload => simp only [q_sk, q_stp, q_ald_k, q_aldk_b]; rfl
  case laload => simp only [q_sk, q_stp, q_lald_k, q_aldk_b]; rfl
  case iastore => simp only [q_sk, q_stp, q_ast_k, q_astk_b]; rfl
  case bastore => simp only [q_sk, q_stp, q_ast_k, q_astk_b]; rfl
  case castore => simp only [q_sk, q_stp, q_ast_k, q_astk_b]; rfl
  case lastore => simp only [q_sk, q_stp, q_last_k, q_lastk_b]; rfl
  case putfield => simp only [q_sk, q_stp, q_put_k, q_putk_b]; rfl
  case irem =>
    simp only [q_sk, q_stp, q_iik, q_ii]
    rcases st with _ | ⟨y | y | y, st⟩ <;> try rfl
    rcases st with _ | ⟨x | x | x, st⟩ <;> try rfl
    dsimp only
    split <;> rfl
  case ishr =>
    simp only [q_sk, q_stp, q_iik, q_ii]
    rcases st with _ | ⟨y | y | y, st⟩ <;> try rfl
    rcases st with _ | ⟨x | x | x, st⟩ <;> try rfl
    dsimp only
    split <;> rfl
  case i2b =>
    simp only [q_sk, q_stp]
    rcases st with _ | ⟨y | y | y, st⟩ <;> try rfl
    dsimp only
    split <;> rfl
  all_goals (simp only [q_sk]; generalize q_stp orc P ini kc ks co _ l st G M ca sa = x; exact dflt x)
/-- the small machine's run, what comes behind a stop told by k -/
def q_dk {α : Type} (orc : q_O) (P : q_P) (ini : Bool) (kc ks co : Nat) (I : q_I) (sp : List Nat) (k : Nat → q_T → Option α) : Nat → Bool → q_I → q_L → List q_V → q_G → q_M → Nat → Nat → Option α
  | 0, _, _, _, _, _, _, _, _ => none
  | n + 1, b, rm, l, st, G, M, ca, sa => match rm with
    | [] => none
    | (pc, ins, _) :: tl => if b = true ∧ pc ∈ sp then k pc (l, st, G, M, ca, sa) else match ins with
      | .goto off => q_dk orc P ini kc ks co I sp k n true (q_seek ((pc : Int) + off) I) l st G M ca sa
      | .if_icmp c off => match st with
        | .inl y :: .inl x :: r => q_br c x y (q_dk orc P ini kc ks co I sp k n true (q_seek ((pc : Int) + off) I) l r G M ca sa) (q_dk orc P ini kc ks co I sp k n true tl l r G M ca sa)
        | _ => none
      | .ifCond c off => match st with
        | .inl x :: r => q_br c x 0 (q_dk orc P ini kc ks co I sp k n true (q_seek ((pc : Int) + off) I) l r G M ca sa) (q_dk orc P ini kc ks co I sp k n true tl l r G M ca sa)
        | _ => none
      | .invokevirtual idx => q_iv orc P kc ks [0] co idx st G M ca sa (fun st' M' ca' sa' => q_dk orc P ini kc ks co I sp k n true tl l st' G M' ca' sa')
      | .invokestatic idx => q_iv orc P kc ks [1, 3, 5] co idx st G M ca sa (fun st' M' ca' sa' => q_dk orc P ini kc ks co I sp k n true tl l st' G M' ca' sa')
      | ins => q_sk orc P ini kc ks co ins l st G M ca sa (fun l' st' G' M' ca' sa' => q_dk orc P ini kc ks co I sp k n true tl l' st' G' M' ca' sa')
def q_bd {α β : Type} (x : Option (Nat × β)) (k : Nat → β → Option α) : Option α := match x with
  | some (a, b) => k a b
  | none => none
theorem q_br_bd {α β : Type} {c : ClassFile.Cond} {x y : Int} {a b : Option (Nat × β)} {k : Nat → β → Option α} : q_bd (q_br c x y a b) k = q_br c x y (q_bd a k) (q_bd b k) := by
  cases c <;> simp only [q_br] <;> split <;> rfl
theorem q_iv_bd {α β : Type} {orc : q_O} {P : q_P} {kc ks : Nat} {ws : List Nat} {co idx : Nat} {st : List q_V} {G : q_G} {M : q_M} {ca sa : Nat} {f : List q_V → q_M → Nat → Nat → Option (Nat × β)} {k : Nat → β → Option α} : q_bd (q_iv orc P kc ks ws co idx st G M ca sa f) k = q_iv orc P kc ks ws co idx st G M ca sa (fun a b c d => q_bd (f a b c d) k) := by
  unfold q_iv
  split
  · split
    · split
      · unfold q_ck
        split
        · unfold q_c0; repeat' split
          all_goals rfl
        · unfold q_cI; repeat' split
          all_goals rfl
        · unfold q_cL; repeat' split
          all_goals rfl
        · unfold q_cR; repeat' split
          all_goals rfl
      · rfl
    · rfl
  · rfl
theorem q_dk_eq {α : Type} {orc : q_O} {P : q_P} {ini : Bool} {kc ks co : Nat} {I : q_I} {sp : List Nat} {k : Nat → q_T → Option α} : ∀ (n : Nat) (b : Bool) (rm : q_I) (l : q_L) (st : List q_V) (G : q_G) (M : q_M) (ca sa : Nat), q_dk orc P ini kc ks co I sp k n b rm l st G M ca sa = q_bd (q_den orc P ini kc ks co I sp n b rm l st G M ca sa) k := by
  intro n
  induction n with
  | zero => intro b rm l st G M ca sa; rfl
  | succ n ih =>
    intro b rm l st G M ca sa
    have dflt : ∀ (x : Option q_T) (tl : q_I), x.bind (q_k6 (fun l' st' G' M' ca' sa' => q_dk orc P ini kc ks co I sp k n true tl l' st' G' M' ca' sa')) = q_bd (match x with
      | some (l', st', G', M', ca', sa') => q_den orc P ini kc ks co I sp n true tl l' st' G' M' ca' sa'
      | none => none) k := by
      intro x tl
      rcases x with _ | ⟨a, b, c, d, e, f⟩
      · rfl
      · exact ih _ _ _ _ _ _ _ _
    rcases rm with _ | ⟨⟨pc, ins, ln⟩, tl⟩
    · rfl
    · simp only [q_dk, q_den]
      by_cases hb : b = true ∧ pc ∈ sp
      · rw [if_pos hb, if_pos hb]; rfl
      · rw [if_neg hb, if_neg hb]
        cases ins
        case goto off => exact ih _ _ _ _ _ _ _ _
        case if_icmp c off =>
          rcases st with _ | ⟨y | y | y, st⟩ <;> try rfl
          rcases st with _ | ⟨x | x | x, st⟩ <;> try rfl
          dsimp only
          rw [q_br_bd]; simp only [ih]
        case ifCond c off =>
          rcases st with _ | ⟨y | y | y, st⟩ <;> try rfl
          dsimp only
          rw [q_br_bd]; simp only [ih]
        case invokevirtual idx => dsimp only; rw [q_iv_bd]; simp only [ih]
        case invokestatic idx => dsimp only; rw [q_iv_bd]; simp only [ih]
        all_goals (dsimp only; rw [q_sk_eq]; generalize q_stp orc P ini kc ks co _ l st G M ca sa = x; exact dflt x tl)
end
section
def pI_X0_init : q_I := [(0, .aload_n 0, 1), (1, .invokespecial 3, 3), (4, .aload_n 0, 1), (5, .bipush 120, 2), (7, .newarray .long, 2), (9, .putfield 9, 3), (12, .aload_n 0, 1), (13, .bipush 120, 2), (15, .newarray .boolean, 2), (17, .putfield 15, 3), (20, .aload_n 0, 1), (21, .iconst 0, 1), (22, .putfield 19, 3), (25, .aload_n 0, 1), (26, .iconst 0, 1), (27, .putfield 23, 3), (30, .return_, 1)]
set_option maxRecDepth 100000 in
theorem pK_X0_init : q_Iok cX0_init pI_X0_init := ⟨by decide +kernel, by decide +kernel⟩
def pI_X0_clear : q_I := [(0, .aload_n 0, 1), (1, .iload_n 1, 1), (2, .putfield 19, 3), (5, .aload_n 0, 1), (6, .iconst 0, 1), (7, .putfield 23, 3), (10, .return_, 1)]
set_option maxRecDepth 100000 in
theorem pK_X0_clear : q_Iok cX0_clear pI_X0_clear := ⟨by decide +kernel, by decide +kernel⟩
def pI_X0_height : q_I := [(0, .aload_n 0, 1), (1, .getfield 23, 3), (4, .ireturn, 1)]
set_option maxRecDepth 100000 in
theorem pK_X0_height : q_Iok cX0_height pI_X0_height := ⟨by decide +kernel, by decide +kernel⟩
def pI_X0_append : q_I := [(0, .aload_n 0, 1), (1, .getfield 23, 3), (4, .bipush 30, 2), (6, .if_icmp .lt 5, 3), (9, .iconst (-1), 1), (10, .ireturn, 1), (11, .aload_n 0, 1), (12, .dup, 1), (13, .getfield 23, 3), (16, .iconst 1, 1), (17, .iadd, 1), (18, .putfield 23, 3), (21, .aload_n 0, 1), (22, .getfield 23, 3), (25, .iconst 1, 1), (26, .isub, 1), (27, .ireturn, 1)]
set_option maxRecDepth 100000 in
theorem pK_X0_append : q_Iok cX0_append pI_X0_append := ⟨by decide +kernel, by decide +kernel⟩
def pI_X0_has : q_I := [(0, .iload_n 1, 1), (1, .ifCond .lt 38, 3), (4, .iload_n 1, 1), (5, .aload_n 0, 1), (6, .getfield 23, 3), (9, .if_icmp .ge 30, 3), (12, .iload_n 1, 1), (13, .bipush 30, 2), (15, .if_icmp .ge 24, 3), (18, .iload_n 2, 1), (19, .ifCond .lt 20, 3), (22, .iload_n 2, 1), (23, .aload_n 0, 1), (24, .getfield 19, 3), (27, .if_icmp .ge 12, 3), (30, .iload_n 2, 1), (31, .iconst 4, 1), (32, .if_icmp .ge 7, 3), (35, .iconst 1, 1), (36, .goto 4, 3), (39, .iconst 0, 1), (40, .ireturn, 1)]
set_option maxRecDepth 100000 in
theorem pK_X0_has : q_Iok cX0_has pI_X0_has := ⟨by decide +kernel, by decide +kernel⟩
def pI_X0_unknownAt : q_I := [(0, .aload_n 0, 1), (1, .iload_n 1, 1), (2, .iload_n 2, 1), (3, .invokevirtual 26, 3), (6, .ifCond .eq 20, 3), (9, .aload_n 0, 1), (10, .getfield 15, 3), (13, .iload_n 1, 1), (14, .iconst 4, 1), (15, .imul, 1), (16, .iload_n 2, 1), (17, .iadd, 1), (18, .baload, 1), (19, .ifCond .eq 7, 3), (22, .iconst 1, 1), (23, .goto 4, 3), (26, .iconst 0, 1), (27, .ireturn, 1)]
set_option maxRecDepth 100000 in
theorem pK_X0_unknownAt : q_Iok cX0_unknownAt pI_X0_unknownAt := ⟨by decide +kernel, by decide +kernel⟩
def pI_X0_numberAt : q_I := [(0, .aload_n 0, 1), (1, .iload_n 1, 1), (2, .iload_n 2, 1), (3, .invokevirtual 26, 3), (6, .ifCond .eq 16, 3), (9, .aload_n 0, 1), (10, .getfield 9, 3), (13, .iload_n 1, 1), (14, .iconst 4, 1), (15, .imul, 1), (16, .iload_n 2, 1), (17, .iadd, 1), (18, .laload, 1), (19, .goto 4, 3), (22, .lconst 0, 1), (23, .lreturn, 1)]
set_option maxRecDepth 100000 in
theorem pK_X0_numberAt : q_Iok cX0_numberAt pI_X0_numberAt := ⟨by decide +kernel, by decide +kernel⟩
def pI_X0_set : q_I := [(0, .aload_n 0, 1), (1, .iload_n 1, 1), (2, .iload_n 2, 1), (3, .invokevirtual 26, 3), (6, .ifCond .eq 35, 3), (9, .aload_n 0, 1), (10, .getfield 9, 3), (13, .iload_n 1, 1), (14, .iconst 4, 1), (15, .imul, 1), (16, .iload_n 2, 1), (17, .iadd, 1), (18, .iload 5, 2), (20, .ifCond .eq 7, 3), (23, .lconst 0, 1), (24, .goto 4, 3), (27, .lload_n 3, 1), (28, .lastore, 1), (29, .aload_n 0, 1), (30, .getfield 15, 3), (33, .iload_n 1, 1), (34, .iconst 4, 1), (35, .imul, 1), (36, .iload_n 2, 1), (37, .iadd, 1), (38, .iload 5, 2), (40, .bastore, 1), (41, .return_, 1)]
set_option maxRecDepth 100000 in
theorem pK_X0_set : q_Iok cX0_set pI_X0_set := ⟨by decide +kernel, by decide +kernel⟩
def pI_X1_init : q_I := [(0, .aload_n 0, 1), (1, .invokespecial 3, 3), (4, .aload_n 0, 1), (5, .iconst (-1), 1), (6, .putfield 9, 3), (9, .aload_n 0, 1), (10, .aload_n 1, 1), (11, .putfield 15, 3), (14, .aload_n 0, 1), (15, .aload_n 1, 1), (16, .invokevirtual 19, 3), (19, .putfield 25, 3), (22, .aload_n 0, 1), (23, .aload_n 2, 1), (24, .putfield 28, 3), (27, .return_, 1)]
set_option maxRecDepth 100000 in
theorem pK_X1_init : q_Iok cX1_init pI_X1_init := ⟨by decide +kernel, by decide +kernel⟩
def pI_X1_firstIll : q_I := [(0, .aload_n 0, 1), (1, .iconst (-1), 1), (2, .putfield 9, 3), (5, .aload_n 0, 1), (6, .invokevirtual 32, 3), (9, .aload_n 0, 1), (10, .invokevirtual 35, 3), (13, .aload_n 0, 1), (14, .invokevirtual 38, 3), (17, .aload_n 0, 1), (18, .getfield 9, 3), (21, .ireturn, 1)]
set_option maxRecDepth 100000 in
theorem pK_X1_firstIll : q_Iok cX1_firstIll pI_X1_firstIll := ⟨by decide +kernel, by decide +kernel⟩
def pI_X1_noteIll : q_I := [(0, .aload_n 0, 1), (1, .getfield 9, 3), (4, .iconst (-1), 1), (5, .if_icmp .eq 11, 3), (8, .iload_n 1, 1), (9, .aload_n 0, 1), (10, .getfield 9, 3), (13, .if_icmp .ge 8, 3), (16, .aload_n 0, 1), (17, .iload_n 1, 1), (18, .putfield 9, 3), (21, .return_, 1)]
set_option maxRecDepth 100000 in
theorem pK_X1_noteIll : q_Iok cX1_noteIll pI_X1_noteIll := ⟨by decide +kernel, by decide +kernel⟩
def pI_X1_checkItems : q_I := [(0, .iconst 0, 1), (1, .istore_n 1, 1), (2, .iload_n 1, 1), (3, .aload_n 0, 1), (4, .getfield 15, 3), (7, .invokevirtual 41, 3), (10, .if_icmp .ge 70, 3), (13, .aload_n 0, 1), (14, .getfield 28, 3), (17, .aload_n 0, 1), (18, .getfield 15, 3), (21, .iload_n 1, 1), (22, .invokevirtual 45, 3), (25, .invokevirtual 49, 3), (28, .ifCond .ne 15, 3), (31, .aload_n 0, 1), (32, .aload_n 0, 1), (33, .getfield 15, 3), (36, .iload_n 1, 1), (37, .invokevirtual 54, 3), (40, .invokevirtual 57, 3), (43, .aload_n 0, 1), (44, .getfield 15, 3), (47, .aload_n 0, 1), (48, .getfield 15, 3), (51, .iload_n 1, 1), (52, .invokevirtual 61, 3), (55, .invokevirtual 64, 3), (58, .iload_n 1, 1), (59, .if_icmp .eq 15, 3), (62, .aload_n 0, 1), (63, .aload_n 0, 1), (64, .getfield 15, 3), (67, .iload_n 1, 1), (68, .invokevirtual 67, 3), (71, .invokevirtual 57, 3), (74, .iinc 1 1, 3), (77, .goto (-75), 3), (80, .return_, 1)]
set_option maxRecDepth 100000 in
theorem pK_X1_checkItems : q_Iok cX1_checkItems pI_X1_checkItems := ⟨by decide +kernel, by decide +kernel⟩
def pI_X1_checkColumns : q_I := [(0, .iconst 0, 1), (1, .istore_n 1, 1), (2, .iload_n 1, 1), (3, .aload_n 0, 1), (4, .getfield 25, 3), (7, .invokevirtual 70, 3), (10, .if_icmp .ge 100, 3), (13, .aload_n 0, 1), (14, .getfield 25, 3), (17, .iload_n 1, 1), (18, .invokevirtual 75, 3), (21, .ifCond .eq 83, 3), (24, .aload_n 0, 1), (25, .getfield 15, 3), (28, .aload_n 0, 1), (29, .getfield 25, 3), (32, .iload_n 1, 1), (33, .invokevirtual 79, 3), (36, .invokevirtual 64, 3), (39, .istore_n 2, 1), (40, .aload_n 0, 1), (41, .getfield 25, 3), (44, .iload_n 1, 1), (45, .iload_n 2, 1), (46, .invokevirtual 80, 3), (49, .iload_n 2, 1), (50, .iconst (-1), 1), (51, .if_icmp .eq 41, 3), (54, .iload_n 2, 1), (55, .aload_n 0, 1), (56, .getfield 25, 3), (59, .iload_n 1, 1), (60, .invokevirtual 84, 3), (63, .if_icmp .gt 29, 3), (66, .aload_n 0, 1), (67, .getfield 25, 3), (70, .iload_n 1, 1), (71, .invokevirtual 87, 3), (74, .aload_n 0, 1), (75, .getfield 28, 3), (78, .aload_n 0, 1), (79, .getfield 15, 3), (82, .iload_n 2, 1), (83, .invokevirtual 45, 3), (86, .invokevirtual 49, 3), (89, .if_icmp .lt 15, 3), (92, .aload_n 0, 1), (93, .aload_n 0, 1), (94, .getfield 25, 3), (97, .iload_n 1, 1), (98, .invokevirtual 90, 3), (101, .invokevirtual 57, 3), (104, .iinc 1 1, 3), (107, .goto (-105), 3), (110, .return_, 1)]
set_option maxRecDepth 100000 in
theorem pK_X1_checkColumns : q_Iok cX1_checkColumns pI_X1_checkColumns := ⟨by decide +kernel, by decide +kernel⟩
def pI_X1_checkOuts : q_I := [(0, .aload_n 0, 1), (1, .getfield 15, 3), (4, .invokevirtual 93, 3), (7, .ifCond .ne 4, 3), (10, .return_, 1), (11, .iconst 0, 1), (12, .istore_n 1, 1), (13, .iload_n 1, 1), (14, .aload_n 0, 1), (15, .getfield 15, 3), (18, .invokevirtual 97, 3), (21, .if_icmp .ge 55, 3), (24, .aload_n 0, 1), (25, .getfield 15, 3), (28, .iload_n 1, 1), (29, .invokevirtual 100, 3), (32, .istore_n 2, 1), (33, .aload_n 0, 1), (34, .getfield 15, 3), (37, .iload_n 1, 1), (38, .invokevirtual 103, 3), (41, .sipush 275, 3), (44, .if_icmp .ne 26, 3), (47, .aload_n 0, 1), (48, .getfield 15, 3), (51, .iload_n 2, 1), (52, .invokevirtual 106, 3), (55, .ifCond .ne 15, 3), (58, .aload_n 0, 1), (59, .aload_n 0, 1), (60, .getfield 25, 3), (63, .iload_n 2, 1), (64, .invokevirtual 90, 3), (67, .invokevirtual 57, 3), (70, .iinc 1 1, 3), (73, .goto (-60), 3), (76, .return_, 1)]
set_option maxRecDepth 100000 in
theorem pK_X1_checkOuts : q_Iok cX1_checkOuts pI_X1_checkOuts := ⟨by decide +kernel, by decide +kernel⟩
def pI_X2_init : q_I := [(0, .aload_n 0, 1), (1, .invokespecial 3, 3), (4, .aload_n 0, 1), (5, .bipush 90, 2), (7, .newarray .int, 2), (9, .putfield 9, 3), (12, .aload_n 0, 1), (13, .bipush 90, 2), (15, .newarray .boolean, 2), (17, .putfield 15, 3), (20, .aload_n 0, 1), (21, .iconst 0, 1), (22, .putfield 19, 3), (25, .aload_n 0, 1), (26, .iconst 0, 1), (27, .putfield 23, 3), (30, .aload_n 0, 1), (31, .aload_n 1, 1), (32, .putfield 27, 3), (35, .aload_n 0, 1), (36, .aload_n 1, 1), (37, .invokevirtual 31, 3), (40, .putfield 37, 3), (43, .aload_n 0, 1), (44, .aload_n 1, 1), (45, .invokevirtual 40, 3), (48, .putfield 44, 3), (51, .aload_n 0, 1), (52, .aload_n 2, 1), (53, .putfield 47, 3), (56, .aload_n 0, 1), (57, .aload_n 3, 1), (58, .putfield 51, 3), (61, .return_, 1)]
set_option maxRecDepth 100000 in
theorem pK_X2_init : q_Iok cX2_init pI_X2_init := ⟨by decide +kernel, by decide +kernel⟩
def pI_X2_seen : q_I := [(0, .aload_n 0, 1), (1, .getfield 23, 3), (4, .ireturn, 1)]
set_option maxRecDepth 100000 in
theorem pK_X2_seen : q_Iok cX2_seen pI_X2_seen := ⟨by decide +kernel, by decide +kernel⟩
def pI_X2_goThroughAll : q_I := [(0, .aload_n 0, 1), (1, .iconst 0, 1), (2, .putfield 23, 3), (5, .aload_n 0, 1), (6, .aload_n 0, 1), (7, .getfield 27, 3), (10, .invokevirtual 55, 3), (13, .putfield 19, 3), (16, .aload_n 0, 1), (17, .getfield 51, 3), (20, .aload_n 0, 1), (21, .getfield 27, 3), (24, .invokevirtual 58, 3), (27, .invokevirtual 62, 3), (30, .aload_n 0, 1), (31, .getfield 19, 3), (34, .ifCond .eq 24, 3), (37, .aload_n 0, 1), (38, .getfield 27, 3), (41, .invokevirtual 68, 3), (44, .ifCond .ne 14, 3), (47, .aload_n 0, 1), (48, .aload_n 0, 1), (49, .getfield 51, 3), (52, .invokevirtual 71, 3), (55, .invokevirtual 74, 3), (58, .aload_n 0, 1), (59, .iconst 0, 1), (60, .invokevirtual 77, 3), (63, .ireturn, 1)]
set_option maxRecDepth 100000 in
theorem pK_X2_goThroughAll : q_Iok cX2_goThroughAll pI_X2_goThroughAll := ⟨by decide +kernel, by decide +kernel⟩
def pI_X2_goThrough : q_I := [(0, .iload_n 1, 1), (1, .aload_n 0, 1), (2, .getfield 27, 3), (5, .invokevirtual 81, 3), (8, .if_icmp .ge 8, 3), (11, .iload_n 1, 1), (12, .iconst 3, 1), (13, .if_icmp .lt 8, 3), (16, .aload_n 0, 1), (17, .invokevirtual 84, 3), (20, .ireturn, 1), (21, .aload_n 0, 1), (22, .getfield 27, 3), (25, .iload_n 1, 1), (26, .invokevirtual 87, 3), (29, .istore_n 2, 1), (30, .aload_n 0, 1), (31, .getfield 47, 3), (34, .iload_n 2, 1), (35, .invokevirtual 91, 3), (38, .istore_n 3, 1), (39, .iconst 0, 1), (40, .istore 4, 2), (42, .iconst 0, 1), (43, .istore 5, 2), (45, .iload 5, 2), (47, .iload_n 3, 1), (48, .if_icmp .ge 59, 3), (51, .aload_n 0, 1), (52, .dup, 1), (53, .getfield 23, 3), (56, .iconst 1, 1), (57, .iadd, 1), (58, .putfield 23, 3), (61, .aload_n 0, 1), (62, .getfield 37, 3), (65, .iload_n 1, 1), (66, .aload_n 0, 1), (67, .getfield 47, 3), (70, .iload_n 2, 1), (71, .iload 5, 2), (73, .invokevirtual 96, 3), (76, .aload_n 0, 1), (77, .getfield 44, 3), (80, .iload_n 1, 1), (81, .iconst 0, 1), (82, .invokevirtual 102, 3), (85, .ifCond .eq 16, 3), (88, .iconst 1, 1), (89, .istore 4, 2), (91, .aload_n 0, 1), (92, .iload_n 1, 1), (93, .invokevirtual 108, 3), (96, .ifCond .ne 5, 3), (99, .iconst 0, 1), (100, .ireturn, 1), (101, .iinc 5 1, 3), (104, .goto (-59), 3), (107, .iload 4, 2), (109, .ifCond .ne 14, 3), (112, .aload_n 0, 1), (113, .getfield 27, 3), (116, .iload_n 1, 1), (117, .invokevirtual 111, 3), (120, .ifCond .ne 5, 3), (123, .iconst 1, 1), (124, .ireturn, 1), (125, .aload_n 0, 1), (126, .getfield 37, 3), (129, .iload_n 1, 1), (130, .aload_n 0, 1), (131, .getfield 47, 3), (134, .iload_n 2, 1), (135, .iconst (-1), 1), (136, .invokevirtual 96, 3), (139, .aload_n 0, 1), (140, .iload_n 1, 1), (141, .invokevirtual 108, 3), (144, .ireturn, 1)]
set_option maxRecDepth 100000 in
theorem pK_X2_goThrough : q_Iok cX2_goThrough pI_X2_goThrough := ⟨by decide +kernel, by decide +kernel⟩
def pI_X2_goOn : q_I := [(0, .aload_n 0, 1), (1, .getfield 44, 3), (4, .iload_n 1, 1), (5, .iconst 1, 1), (6, .invokevirtual 102, 3), (9, .ifCond .eq 13, 3), (12, .aload_n 0, 1), (13, .iload_n 1, 1), (14, .iconst 1, 1), (15, .iadd, 1), (16, .invokevirtual 77, 3), (19, .ifCond .eq 7, 3), (22, .iconst 1, 1), (23, .goto 4, 3), (26, .iconst 0, 1), (27, .ireturn, 1)]
set_option maxRecDepth 100000 in
theorem pK_X2_goOn : q_Iok cX2_goOn pI_X2_goOn := ⟨by decide +kernel, by decide +kernel⟩
def pI_X2_gather : q_I := [(0, .aload_n 0, 1), (1, .getfield 19, 3), (4, .ifCond .eq 10, 3), (7, .aload_n 0, 1), (8, .invokevirtual 114, 3), (11, .goto 4, 3), (14, .iconst (-1), 1), (15, .istore_n 1, 1), (16, .iload_n 1, 1), (17, .iconst (-1), 1), (18, .if_icmp .ne 23, 3), (21, .aload_n 0, 1), (22, .getfield 51, 3), (25, .invokevirtual 71, 3), (28, .istore_n 1, 1), (29, .iload_n 1, 1), (30, .iconst (-1), 1), (31, .if_icmp .ne 5, 3), (34, .iconst 0, 1), (35, .ireturn, 1), (36, .aload_n 0, 1), (37, .iload_n 1, 1), (38, .invokevirtual 74, 3), (41, .iconst 0, 1), (42, .istore_n 2, 1), (43, .iload_n 2, 1), (44, .aload_n 0, 1), (45, .getfield 27, 3), (48, .invokevirtual 58, 3), (51, .if_icmp .ge 31, 3), (54, .aload_n 0, 1), (55, .iload_n 1, 1), (56, .iload_n 2, 1), (57, .aload_n 0, 1), (58, .getfield 27, 3), (61, .iload_n 2, 1), (62, .invokevirtual 117, 3), (65, .aload_n 0, 1), (66, .getfield 27, 3), (69, .iload_n 2, 1), (70, .invokevirtual 120, 3), (73, .invokevirtual 123, 3), (76, .iinc 2 1, 3), (79, .goto (-36), 3), (82, .iconst 1, 1), (83, .ireturn, 1)]
set_option maxRecDepth 100000 in
theorem pK_X2_gather : q_Iok cX2_gather pI_X2_gather := ⟨by decide +kernel, by decide +kernel⟩
def pI_X2_lineOfGroup : q_I := [(0, .iconst 0, 1), (1, .istore_n 1, 1), (2, .iload_n 1, 1), (3, .aload_n 0, 1), (4, .getfield 51, 3), (7, .invokevirtual 127, 3), (10, .if_icmp .ge 19, 3), (13, .aload_n 0, 1), (14, .iload_n 1, 1), (15, .invokevirtual 129, 3), (18, .ifCond .eq 5, 3), (21, .iload_n 1, 1), (22, .ireturn, 1), (23, .iinc 1 1, 3), (26, .goto (-24), 3), (29, .iconst (-1), 1), (30, .ireturn, 1)]
set_option maxRecDepth 100000 in
theorem pK_X2_lineOfGroup : q_Iok cX2_lineOfGroup pI_X2_lineOfGroup := ⟨by decide +kernel, by decide +kernel⟩
def pI_X2_isOfGroup : q_I := [(0, .iconst 0, 1), (1, .istore_n 2, 1), (2, .iload_n 2, 1), (3, .aload_n 0, 1), (4, .getfield 27, 3), (7, .invokevirtual 68, 3), (10, .if_icmp .ge 77, 3), (13, .iload_n 1, 1), (14, .iload_n 2, 1), (15, .invokestatic 132, 3), (18, .istore_n 3, 1), (19, .aload_n 0, 1), (20, .getfield 27, 3), (23, .iload_n 2, 1), (24, .invokevirtual 136, 3), (27, .istore 4, 2), (29, .iload_n 3, 1), (30, .iconst (-1), 1), (31, .if_icmp .eq 48, 3), (34, .aload_n 0, 1), (35, .getfield 15, 3), (38, .iload_n 3, 1), (39, .baload, 1), (40, .aload_n 0, 1), (41, .getfield 37, 3), (44, .iload 4, 2), (46, .invokevirtual 139, 3), (49, .if_icmp .ne 30, 3), (52, .aload_n 0, 1), (53, .getfield 15, 3), (56, .iload_n 3, 1), (57, .baload, 1), (58, .ifCond .ne 23, 3), (61, .aload_n 0, 1), (62, .getfield 9, 3), (65, .iload_n 3, 1), (66, .iaload, 1), (67, .aload_n 0, 1), (68, .getfield 37, 3), (71, .iload 4, 2), (73, .invokevirtual 142, 3), (76, .if_icmp .eq 5, 3), (79, .iconst 0, 1), (80, .ireturn, 1), (81, .iinc 2 1, 3), (84, .goto (-82), 3), (87, .iconst 1, 1), (88, .ireturn, 1)]
set_option maxRecDepth 100000 in
theorem pK_X2_isOfGroup : q_Iok cX2_isOfGroup pI_X2_isOfGroup := ⟨by decide +kernel, by decide +kernel⟩
def pI_X2_keyOf : q_I := [(0, .iload_n 0, 1), (1, .ifCond .lt 26, 3), (4, .iload_n 0, 1), (5, .bipush 30, 2), (7, .if_icmp .ge 20, 3), (10, .iload_n 1, 1), (11, .ifCond .lt 16, 3), (14, .iload_n 1, 1), (15, .iconst 3, 1), (16, .if_icmp .ge 11, 3), (19, .iload_n 0, 1), (20, .iconst 3, 1), (21, .imul, 1), (22, .iload_n 1, 1), (23, .iadd, 1), (24, .goto 4, 3), (27, .iconst (-1), 1), (28, .ireturn, 1)]
set_option maxRecDepth 100000 in
theorem pK_X2_keyOf : q_Iok cX2_keyOf pI_X2_keyOf := ⟨by decide +kernel, by decide +kernel⟩
def pI_X2_begin : q_I := [(0, .iconst 0, 1), (1, .istore_n 2, 1), (2, .iload_n 2, 1), (3, .aload_n 0, 1), (4, .getfield 27, 3), (7, .invokevirtual 68, 3), (10, .if_icmp .ge 62, 3), (13, .iload_n 1, 1), (14, .iload_n 2, 1), (15, .invokestatic 132, 3), (18, .istore_n 3, 1), (19, .iload_n 3, 1), (20, .iconst (-1), 1), (21, .if_icmp .eq 45, 3), (24, .aload_n 0, 1), (25, .getfield 9, 3), (28, .iload_n 3, 1), (29, .aload_n 0, 1), (30, .getfield 37, 3), (33, .aload_n 0, 1), (34, .getfield 27, 3), (37, .iload_n 2, 1), (38, .invokevirtual 136, 3), (41, .invokevirtual 142, 3), (44, .iastore, 1), (45, .aload_n 0, 1), (46, .getfield 15, 3), (49, .iload_n 3, 1), (50, .aload_n 0, 1), (51, .getfield 37, 3), (54, .aload_n 0, 1), (55, .getfield 27, 3), (58, .iload_n 2, 1), (59, .invokevirtual 136, 3), (62, .invokevirtual 139, 3), (65, .bastore, 1), (66, .iinc 2 1, 3), (69, .goto (-67), 3), (72, .iconst 0, 1), (73, .istore_n 2, 1), (74, .iload_n 2, 1), (75, .aload_n 0, 1), (76, .getfield 27, 3), (79, .invokevirtual 58, 3), (82, .if_icmp .ge 88, 3), (85, .aload_n 0, 1), (86, .getfield 27, 3), (89, .iload_n 2, 1), (90, .invokevirtual 117, 3), (93, .istore_n 3, 1), (94, .aload_n 0, 1), (95, .getfield 27, 3), (98, .iload_n 2, 1), (99, .invokevirtual 120, 3), (102, .istore 4, 2), (104, .iload_n 3, 1), (105, .sipush 275, 3), (108, .if_icmp .ne 34, 3), (111, .aload_n 0, 1), (112, .getfield 51, 3), (115, .iload_n 1, 1), (116, .iload_n 2, 1), (117, .aload_n 0, 1), (118, .getfield 37, 3), (121, .iload 4, 2), (123, .invokevirtual 142, 3), (126, .i2l, 1), (127, .aload_n 0, 1), (128, .getfield 37, 3), (131, .iload 4, 2), (133, .invokevirtual 139, 3), (136, .invokevirtual 145, 3), (139, .goto 25, 3), (142, .aload_n 0, 1), (143, .getfield 51, 3), (146, .iload_n 1, 1), (147, .iload_n 2, 1), (148, .lconst 0, 1), (149, .iload_n 3, 1), (150, .sipush 266, 3), (153, .if_icmp .eq 7, 3), (156, .iconst 1, 1), (157, .goto 4, 3), (160, .iconst 0, 1), (161, .invokevirtual 145, 3), (164, .iinc 2 1, 3), (167, .goto (-93), 3), (170, .return_, 1)]
set_option maxRecDepth 100000 in
theorem pK_X2_begin : q_Iok cX2_begin pI_X2_begin := ⟨by decide +kernel, by decide +kernel⟩
def pI_X2_tally : q_I := [(0, .aload_n 0, 1), (1, .getfield 51, 3), (4, .iload_n 1, 1), (5, .iload_n 2, 1), (6, .invokevirtual 149, 3), (9, .lstore 5, 2), (11, .iload_n 3, 1), (12, .sipush 266, 3), (15, .if_icmp .ne 20, 3), (18, .aload_n 0, 1), (19, .getfield 51, 3), (22, .iload_n 1, 1), (23, .iload_n 2, 1), (24, .lload 5, 2), (26, .lconst 1, 1), (27, .ladd, 1), (28, .iconst 0, 1), (29, .invokevirtual 145, 3), (32, .goto 73, 3), (35, .iload_n 3, 1), (36, .sipush 275, 3), (39, .if_icmp .eq 66, 3), (42, .aload_n 0, 1), (43, .getfield 37, 3), (46, .iload 4, 2), (48, .invokevirtual 139, 3), (51, .ifCond .ne 54, 3), (54, .aload_n 0, 1), (55, .getfield 37, 3), (58, .iload 4, 2), (60, .invokevirtual 142, 3), (63, .i2l, 1), (64, .lstore 7, 2), (66, .aload_n 0, 1), (67, .getfield 51, 3), (70, .iload_n 1, 1), (71, .iload_n 2, 1), (72, .invokevirtual 153, 3), (75, .istore 9, 2), (77, .aload_n 0, 1), (78, .getfield 51, 3), (81, .iload_n 1, 1), (82, .iload_n 2, 1), (83, .iload 9, 2), (85, .ifCond .eq 8, 3), (88, .lload 7, 2), (90, .goto 11, 3), (93, .iload_n 3, 1), (94, .lload 5, 2), (96, .lload 7, 2), (98, .invokestatic 157, 3), (101, .iconst 0, 1), (102, .invokevirtual 145, 3), (105, .return_, 1)]
set_option maxRecDepth 100000 in
theorem pK_X2_tally : q_Iok cX2_tally pI_X2_tally := ⟨by decide +kernel, by decide +kernel⟩
def pI_X2_joined : q_I := [(0, .iload_n 0, 1), (1, .sipush 267, 3), (4, .if_icmp .ne 7, 3), (7, .lload_n 1, 1), (8, .lload_n 3, 1), (9, .ladd, 1), (10, .lreturn, 1), (11, .iload_n 0, 1), (12, .sipush 268, 3), (15, .if_icmp .ne 11, 3), (18, .lload_n 1, 1), (19, .lload_n 3, 1), (20, .invokestatic 161, 3), (23, .goto 8, 3), (26, .lload_n 1, 1), (27, .lload_n 3, 1), (28, .invokestatic 167, 3), (31, .lreturn, 1)]
set_option maxRecDepth 100000 in
theorem pK_X2_joined : q_Iok cX2_joined pI_X2_joined := ⟨by decide +kernel, by decide +kernel⟩
def pI_X3_init : q_I := [(0, .aload_n 0, 1), (1, .invokespecial 3, 3), (4, .aload_n 0, 1), (5, .sipush 130, 3), (8, .newarray .int, 2), (10, .putfield 9, 3), (13, .aload_n 0, 1), (14, .sipush 130, 3), (17, .newarray .int, 2), (19, .putfield 15, 3), (22, .aload_n 0, 1), (23, .sipush 130, 3), (26, .newarray .int, 2), (28, .putfield 18, 3), (31, .aload_n 0, 1), (32, .sipush 130, 3), (35, .newarray .int, 2), (37, .putfield 21, 3), (40, .aload_n 0, 1), (41, .sipush 130, 3), (44, .newarray .int, 2), (46, .putfield 24, 3), (49, .aload_n 0, 1), (50, .sipush 130, 3), (53, .newarray .int, 2), (55, .putfield 27, 3), (58, .aload_n 0, 1), (59, .sipush 130, 3), (62, .newarray .boolean, 2), (64, .putfield 30, 3), (67, .aload_n 0, 1), (68, .iconst 0, 1), (69, .putfield 34, 3), (72, .return_, 1)]
set_option maxRecDepth 100000 in
theorem pK_X3_init : q_Iok cX3_init pI_X3_init := ⟨by decide +kernel, by decide +kernel⟩
def pI_X3_clear : q_I := [(0, .aload_n 0, 1), (1, .iconst 0, 1), (2, .putfield 34, 3), (5, .return_, 1)]
set_option maxRecDepth 100000 in
theorem pK_X3_clear : q_Iok cX3_clear pI_X3_clear := ⟨by decide +kernel, by decide +kernel⟩
def pI_X3_count : q_I := [(0, .aload_n 0, 1), (1, .getfield 34, 3), (4, .ireturn, 1)]
set_option maxRecDepth 100000 in
theorem pK_X3_count : q_Iok cX3_count pI_X3_count := ⟨by decide +kernel, by decide +kernel⟩
def pI_X3_addColumn : q_I := [(0, .aload_n 0, 1), (1, .getfield 34, 3), (4, .ifCond .lt 13, 3), (7, .aload_n 0, 1), (8, .getfield 34, 3), (11, .sipush 130, 3), (14, .if_icmp .lt 5, 3), (17, .iconst (-1), 1), (18, .ireturn, 1), (19, .aload_n 0, 1), (20, .getfield 9, 3), (23, .aload_n 0, 1), (24, .getfield 34, 3), (27, .iload_n 1, 1), (28, .iastore, 1), (29, .aload_n 0, 1), (30, .getfield 15, 3), (33, .aload_n 0, 1), (34, .getfield 34, 3), (37, .iload_n 2, 1), (38, .iastore, 1), (39, .aload_n 0, 1), (40, .getfield 18, 3), (43, .aload_n 0, 1), (44, .getfield 34, 3), (47, .iload_n 3, 1), (48, .iastore, 1), (49, .aload_n 0, 1), (50, .getfield 21, 3), (53, .aload_n 0, 1), (54, .getfield 34, 3), (57, .iload 4, 2), (59, .iastore, 1), (60, .aload_n 0, 1), (61, .getfield 24, 3), (64, .aload_n 0, 1), (65, .getfield 34, 3), (68, .iconst (-1), 1), (69, .iastore, 1), (70, .aload_n 0, 1), (71, .getfield 27, 3), (74, .aload_n 0, 1), (75, .getfield 34, 3), (78, .iconst 0, 1), (79, .iastore, 1), (80, .aload_n 0, 1), (81, .getfield 30, 3), (84, .aload_n 0, 1), (85, .getfield 34, 3), (88, .iconst 1, 1), (89, .bastore, 1), (90, .aload_n 0, 1), (91, .dup, 1), (92, .getfield 34, 3), (95, .iconst 1, 1), (96, .iadd, 1), (97, .putfield 34, 3), (100, .aload_n 0, 1), (101, .getfield 34, 3), (104, .iconst 1, 1), (105, .isub, 1), (106, .ireturn, 1)]
set_option maxRecDepth 100000 in
theorem pK_X3_addColumn : q_Iok cX3_addColumn pI_X3_addColumn := ⟨by decide +kernel, by decide +kernel⟩
def pI_X3_addConstant : q_I := [(0, .aload_n 0, 1), (1, .iconst (-1), 1), (2, .iconst (-1), 1), (3, .iconst (-1), 1), (4, .iconst (-1), 1), (5, .invokevirtual 38, 3), (8, .istore_n 3, 1), (9, .iload_n 3, 1), (10, .ifCond .lt 24, 3), (13, .iload_n 3, 1), (14, .sipush 130, 3), (17, .if_icmp .ge 17, 3), (20, .aload_n 0, 1), (21, .getfield 27, 3), (24, .iload_n 3, 1), (25, .iload_n 1, 1), (26, .iastore, 1), (27, .aload_n 0, 1), (28, .getfield 30, 3), (31, .iload_n 3, 1), (32, .iload_n 2, 1), (33, .bastore, 1), (34, .iload_n 3, 1), (35, .ireturn, 1)]
set_option maxRecDepth 100000 in
theorem pK_X3_addConstant : q_Iok cX3_addConstant pI_X3_addConstant := ⟨by decide +kernel, by decide +kernel⟩
def pI_X3_isColumn : q_I := [(0, .aload_n 0, 1), (1, .getfield 15, 3), (4, .iload_n 1, 1), (5, .invokestatic 42, 3), (8, .iconst (-1), 1), (9, .if_icmp .eq 7, 3), (12, .iconst 1, 1), (13, .goto 4, 3), (16, .iconst 0, 1), (17, .ireturn, 1)]
set_option maxRecDepth 100000 in
theorem pK_X3_isColumn : q_Iok cX3_isColumn pI_X3_isColumn := ⟨by decide +kernel, by decide +kernel⟩
def pI_X3_placeOf : q_I := [(0, .aload_n 0, 1), (1, .getfield 9, 3), (4, .iload_n 1, 1), (5, .invokestatic 42, 3), (8, .ireturn, 1)]
set_option maxRecDepth 100000 in
theorem pK_X3_placeOf : q_Iok cX3_placeOf pI_X3_placeOf := ⟨by decide +kernel, by decide +kernel⟩
def pI_X3_aliasOf : q_I := [(0, .aload_n 0, 1), (1, .getfield 15, 3), (4, .iload_n 1, 1), (5, .invokestatic 42, 3), (8, .ireturn, 1)]
set_option maxRecDepth 100000 in
theorem pK_X3_aliasOf : q_Iok cX3_aliasOf pI_X3_aliasOf := ⟨by decide +kernel, by decide +kernel⟩
def pI_X3_letterOf : q_I := [(0, .aload_n 0, 1), (1, .getfield 18, 3), (4, .iload_n 1, 1), (5, .invokestatic 42, 3), (8, .ireturn, 1)]
set_option maxRecDepth 100000 in
theorem pK_X3_letterOf : q_Iok cX3_letterOf pI_X3_letterOf := ⟨by decide +kernel, by decide +kernel⟩
end
section
def pI_X3_lastItemOf : q_I := [(0, .aload_n 0, 1), (1, .getfield 21, 3), (4, .iload_n 1, 1), (5, .invokestatic 42, 3), (8, .ireturn, 1)]
set_option maxRecDepth 100000 in
theorem pK_X3_lastItemOf : q_Iok cX3_lastItemOf pI_X3_lastItemOf := ⟨by decide +kernel, by decide +kernel⟩
def pI_X3_itemOf : q_I := [(0, .aload_n 0, 1), (1, .getfield 24, 3), (4, .iload_n 1, 1), (5, .invokestatic 42, 3), (8, .ireturn, 1)]
set_option maxRecDepth 100000 in
theorem pK_X3_itemOf : q_Iok cX3_itemOf pI_X3_itemOf := ⟨by decide +kernel, by decide +kernel⟩
def pI_X3_setItem : q_I := [(0, .iload_n 1, 1), (1, .ifCond .lt 17, 3), (4, .iload_n 1, 1), (5, .sipush 130, 3), (8, .if_icmp .ge 10, 3), (11, .aload_n 0, 1), (12, .getfield 24, 3), (15, .iload_n 1, 1), (16, .iload_n 2, 1), (17, .iastore, 1), (18, .return_, 1)]
set_option maxRecDepth 100000 in
theorem pK_X3_setItem : q_Iok cX3_setItem pI_X3_setItem := ⟨by decide +kernel, by decide +kernel⟩
def pI_X3_sameColumn : q_I := [(0, .aload_n 0, 1), (1, .iload_n 1, 1), (2, .invokevirtual 46, 3), (5, .aload_n 0, 1), (6, .iload_n 2, 1), (7, .invokevirtual 46, 3), (10, .if_icmp .ne 20, 3), (13, .aload_n 0, 1), (14, .iload_n 1, 1), (15, .invokevirtual 50, 3), (18, .aload_n 0, 1), (19, .iload_n 2, 1), (20, .invokevirtual 50, 3), (23, .if_icmp .ne 7, 3), (26, .iconst 1, 1), (27, .goto 4, 3), (30, .iconst 0, 1), (31, .ireturn, 1)]
set_option maxRecDepth 100000 in
theorem pK_X3_sameColumn : q_Iok cX3_sameColumn pI_X3_sameColumn := ⟨by decide +kernel, by decide +kernel⟩
def pI_X3_numberOf : q_I := [(0, .iload_n 1, 1), (1, .ifCond .lt 19, 3), (4, .iload_n 1, 1), (5, .sipush 130, 3), (8, .if_icmp .ge 12, 3), (11, .aload_n 0, 1), (12, .getfield 27, 3), (15, .iload_n 1, 1), (16, .iaload, 1), (17, .goto 4, 3), (20, .iconst 0, 1), (21, .ireturn, 1)]
set_option maxRecDepth 100000 in
theorem pK_X3_numberOf : q_Iok cX3_numberOf pI_X3_numberOf := ⟨by decide +kernel, by decide +kernel⟩
def pI_X3_unknownOf : q_I := [(0, .iload_n 1, 1), (1, .ifCond .lt 19, 3), (4, .iload_n 1, 1), (5, .sipush 130, 3), (8, .if_icmp .ge 12, 3), (11, .aload_n 0, 1), (12, .getfield 30, 3), (15, .iload_n 1, 1), (16, .baload, 1), (17, .ifCond .eq 7, 3), (20, .iconst 1, 1), (21, .goto 4, 3), (24, .iconst 0, 1), (25, .ireturn, 1)]
set_option maxRecDepth 100000 in
theorem pK_X3_unknownOf : q_Iok cX3_unknownOf pI_X3_unknownOf := ⟨by decide +kernel, by decide +kernel⟩
def pI_X3_load : q_I := [(0, .iconst 0, 1), (1, .istore 5, 2), (3, .iload 5, 2), (5, .aload_n 0, 1), (6, .getfield 34, 3), (9, .if_icmp .ge 70, 3), (12, .iload 5, 2), (14, .sipush 130, 3), (17, .if_icmp .ge 62, 3), (20, .aload_n 0, 1), (21, .getfield 24, 3), (24, .iload 5, 2), (26, .iaload, 1), (27, .iload_n 1, 1), (28, .if_icmp .ne 45, 3), (31, .aload_n 0, 1), (32, .getfield 27, 3), (35, .iload 5, 2), (37, .aload_n 2, 1), (38, .iload_n 3, 1), (39, .iload 4, 2), (41, .aload_n 0, 1), (42, .getfield 18, 3), (45, .iload 5, 2), (47, .iaload, 1), (48, .invokevirtual 53, 3), (51, .iastore, 1), (52, .aload_n 0, 1), (53, .getfield 30, 3), (56, .iload 5, 2), (58, .aload_n 2, 1), (59, .iload_n 3, 1), (60, .iload 4, 2), (62, .aload_n 0, 1), (63, .getfield 18, 3), (66, .iload 5, 2), (68, .iaload, 1), (69, .invokevirtual 59, 3), (72, .bastore, 1), (73, .iinc 5 1, 3), (76, .goto (-73), 3), (79, .return_, 1)]
set_option maxRecDepth 100000 in
theorem pK_X3_load : q_Iok cX3_load pI_X3_load := ⟨by decide +kernel, by decide +kernel⟩
def pI_X4_init : q_I := [(0, .aload_n 0, 1), (1, .invokespecial 3, 3), (4, .aload_n 0, 1), (5, .iconst 3, 1), (6, .putfield 9, 3), (9, .aload_n 0, 1), (10, .aload_n 1, 1), (11, .putfield 15, 3), (14, .aload_n 0, 1), (15, .aload_n 2, 1), (16, .putfield 19, 3), (19, .aload_n 0, 1), (20, .aload_n 2, 1), (21, .invokevirtual 23, 3), (24, .putfield 29, 3), (27, .aload_n 0, 1), (28, .aload_n 2, 1), (29, .invokevirtual 32, 3), (32, .putfield 36, 3), (35, .return_, 1)]
set_option maxRecDepth 100000 in
theorem pK_X4_init : q_Iok cX4_init pI_X4_init := ⟨by decide +kernel, by decide +kernel⟩
def pI_X4_readQuery : q_I := [(0, .aload_n 0, 1), (1, .getfield 19, 3), (4, .invokevirtual 39, 3), (7, .aload_n 0, 1), (8, .iconst 3, 1), (9, .putfield 9, 3), (12, .aload_n 0, 1), (13, .getfield 15, 3), (16, .sipush 259, 3), (19, .invokevirtual 42, 3), (22, .ifCond .eq 69, 3), (25, .aload_n 0, 1), (26, .invokevirtual 48, 3), (29, .ifCond .eq 62, 3), (32, .aload_n 0, 1), (33, .getfield 15, 3), (36, .sipush 260, 3), (39, .invokevirtual 42, 3), (42, .ifCond .eq 49, 3), (45, .aload_n 0, 1), (46, .iconst 0, 1), (47, .invokevirtual 52, 3), (50, .ifCond .eq 41, 3), (53, .aload_n 0, 1), (54, .invokevirtual 56, 3), (57, .ifCond .eq 34, 3), (60, .aload_n 0, 1), (61, .invokevirtual 59, 3), (64, .ifCond .eq 27, 3), (67, .aload_n 0, 1), (68, .invokevirtual 62, 3), (71, .ifCond .eq 20, 3), (74, .aload_n 0, 1), (75, .getfield 15, 3), (78, .invokevirtual 65, 3), (81, .sipush 256, 3), (84, .if_icmp .ne 7, 3), (87, .iconst 1, 1), (88, .goto 4, 3), (91, .iconst 0, 1), (92, .ireturn, 1)]
set_option maxRecDepth 100000 in
theorem pK_X4_readQuery : q_Iok cX4_readQuery pI_X4_readQuery := ⟨by decide +kernel, by decide +kernel⟩
def pI_X4_readOuts : q_I := [(0, .aload_n 0, 1), (1, .invokevirtual 69, 3), (4, .ifCond .ne 5, 3), (7, .iconst 0, 1), (8, .ireturn, 1), (9, .iconst 1, 1), (10, .istore_n 1, 1), (11, .iload_n 1, 1), (12, .iconst 4, 1), (13, .if_icmp .ge 32, 3), (16, .aload_n 0, 1), (17, .getfield 15, 3), (20, .bipush 44, 2), (22, .invokevirtual 42, 3), (25, .ifCond .ne 5, 3), (28, .iconst 1, 1), (29, .ireturn, 1), (30, .aload_n 0, 1), (31, .invokevirtual 69, 3), (34, .ifCond .ne 5, 3), (37, .iconst 0, 1), (38, .ireturn, 1), (39, .iinc 1 1, 3), (42, .goto (-31), 3), (45, .iconst 1, 1), (46, .ireturn, 1)]
set_option maxRecDepth 100000 in
theorem pK_X4_readOuts : q_Iok cX4_readOuts pI_X4_readOuts := ⟨by decide +kernel, by decide +kernel⟩
def pI_X4_readOut : q_I := [(0, .aload_n 0, 1), (1, .getfield 15, 3), (4, .invokevirtual 65, 3), (7, .istore_n 1, 1), (8, .iload_n 1, 1), (9, .sipush 266, 3), (12, .if_icmp .ne 23, 3), (15, .aload_n 0, 1), (16, .getfield 15, 3), (19, .invokevirtual 72, 3), (22, .aload_n 0, 1), (23, .getfield 19, 3), (26, .sipush 266, 3), (29, .iconst (-1), 1), (30, .invokevirtual 75, 3), (33, .iconst 1, 1), (34, .ireturn, 1), (35, .iload_n 1, 1), (36, .sipush 267, 3), (39, .if_icmp .eq 17, 3), (42, .iload_n 1, 1), (43, .sipush 268, 3), (46, .if_icmp .eq 10, 3), (49, .iload_n 1, 1), (50, .sipush 269, 3), (53, .if_icmp .ne 7, 3), (56, .iconst 1, 1), (57, .goto 4, 3), (60, .iconst 0, 1), (61, .istore_n 2, 1), (62, .iload_n 2, 1), (63, .ifCond .eq 24, 3), (66, .aload_n 0, 1), (67, .getfield 15, 3), (70, .invokevirtual 72, 3), (73, .aload_n 0, 1), (74, .getfield 15, 3), (77, .bipush 40, 2), (79, .invokevirtual 42, 3), (82, .ifCond .ne 5, 3), (85, .iconst 0, 1), (86, .ireturn, 1), (87, .aload_n 0, 1), (88, .invokevirtual 79, 3), (91, .istore_n 3, 1), (92, .iload_n 3, 1), (93, .iconst (-1), 1), (94, .if_icmp .ne 5, 3), (97, .iconst 0, 1), (98, .ireturn, 1), (99, .aload_n 0, 1), (100, .getfield 19, 3), (103, .iload_n 2, 1), (104, .ifCond .eq 7, 3), (107, .iload_n 1, 1), (108, .goto 6, 3), (111, .sipush 275, 3), (114, .iload_n 3, 1), (115, .invokevirtual 75, 3), (118, .iload_n 2, 1), (119, .ifCond .eq 15, 3), (122, .aload_n 0, 1), (123, .getfield 15, 3), (126, .bipush 41, 2), (128, .invokevirtual 42, 3), (131, .ifCond .eq 7, 3), (134, .iconst 1, 1), (135, .goto 4, 3), (138, .iconst 0, 1), (139, .ireturn, 1)]
set_option maxRecDepth 100000 in
theorem pK_X4_readOut : q_Iok cX4_readOut pI_X4_readOut := ⟨by decide +kernel, by decide +kernel⟩
def pI_X4_readItem : q_I := [(0, .aload_n 0, 1), (1, .getfield 15, 3), (4, .invokevirtual 65, 3), (7, .bipush 84, 2), (9, .isub, 1), (10, .istore_n 2, 1), (11, .aload_n 0, 1), (12, .getfield 15, 3), (15, .invokevirtual 82, 3), (18, .istore_n 3, 1), (19, .iload_n 2, 1), (20, .ifCond .lt 8, 3), (23, .iload_n 2, 1), (24, .iconst 3, 1), (25, .if_icmp .lt 5, 3), (28, .iconst 0, 1), (29, .ireturn, 1), (30, .aload_n 0, 1), (31, .getfield 15, 3), (34, .invokevirtual 72, 3), (37, .aload_n 0, 1), (38, .getfield 15, 3), (41, .invokevirtual 65, 3), (44, .istore 4, 2), (46, .iload 4, 2), (48, .invokestatic 85, 3), (51, .ifCond .ne 5, 3), (54, .iconst 0, 1), (55, .ireturn, 1), (56, .aload_n 0, 1), (57, .getfield 19, 3), (60, .iload_n 2, 1), (61, .iload_n 3, 1), (62, .iload 4, 2), (64, .aload_n 0, 1), (65, .getfield 15, 3), (68, .invokevirtual 82, 3), (71, .iload_n 1, 1), (72, .invokevirtual 88, 3), (75, .aload_n 0, 1), (76, .getfield 15, 3), (79, .invokevirtual 72, 3), (82, .iconst 1, 1), (83, .ireturn, 1)]
set_option maxRecDepth 100000 in
theorem pK_X4_readItem : q_Iok cX4_readItem pI_X4_readItem := ⟨by decide +kernel, by decide +kernel⟩
def pI_X4_readJoined : q_I := [(0, .iconst 1, 1), (1, .istore_n 1, 1), (2, .iload_n 1, 1), (3, .iconst 3, 1), (4, .if_icmp .ge 88, 3), (7, .aload_n 0, 1), (8, .getfield 15, 3), (11, .invokevirtual 65, 3), (14, .istore_n 2, 1), (15, .iload_n 2, 1), (16, .sipush 261, 3), (19, .if_icmp .eq 13, 3), (22, .iload_n 2, 1), (23, .sipush 262, 3), (26, .if_icmp .eq 6, 3), (29, .goto 63, 3), (32, .aload_n 0, 1), (33, .getfield 15, 3), (36, .invokevirtual 72, 3), (39, .aload_n 0, 1), (40, .iload_n 1, 1), (41, .putfield 9, 3), (44, .aload_n 0, 1), (45, .iload_n 2, 1), (46, .sipush 262, 3), (49, .if_icmp .ne 7, 3), (52, .iconst 1, 1), (53, .goto 4, 3), (56, .iconst 0, 1), (57, .invokevirtual 52, 3), (60, .ifCond .eq 24, 3), (63, .aload_n 0, 1), (64, .getfield 15, 3), (67, .sipush 263, 3), (70, .invokevirtual 42, 3), (73, .ifCond .eq 11, 3), (76, .aload_n 0, 1), (77, .iconst 0, 1), (78, .invokevirtual 92, 3), (81, .ifCond .ne 5, 3), (84, .iconst 0, 1), (85, .ireturn, 1), (86, .iinc 1 1, 3), (89, .goto (-87), 3), (92, .aload_n 0, 1), (93, .iconst 3, 1), (94, .putfield 9, 3), (97, .iconst 1, 1), (98, .ireturn, 1)]
set_option maxRecDepth 100000 in
theorem pK_X4_readJoined : q_Iok cX4_readJoined pI_X4_readJoined := ⟨by decide +kernel, by decide +kernel⟩
def pI_X4_readWhere : q_I := [(0, .aload_n 0, 1), (1, .getfield 15, 3), (4, .sipush 264, 3), (7, .invokevirtual 42, 3), (10, .ifCond .eq 11, 3), (13, .aload_n 0, 1), (14, .iconst 0, 1), (15, .invokevirtual 92, 3), (18, .ifCond .eq 7, 3), (21, .iconst 1, 1), (22, .goto 4, 3), (25, .iconst 0, 1), (26, .ireturn, 1)]
set_option maxRecDepth 100000 in
theorem pK_X4_readWhere : q_Iok cX4_readWhere pI_X4_readWhere := ⟨by decide +kernel, by decide +kernel⟩
def pI_X4_readGroup : q_I := [(0, .aload_n 0, 1), (1, .getfield 15, 3), (4, .sipush 265, 3), (7, .invokevirtual 42, 3), (10, .ifCond .ne 5, 3), (13, .iconst 1, 1), (14, .ireturn, 1), (15, .iconst 1, 1), (16, .istore_n 1, 1), (17, .iload_n 1, 1), (18, .iconst 3, 1), (19, .if_icmp .gt 49, 3), (22, .aload_n 0, 1), (23, .invokevirtual 79, 3), (26, .istore_n 2, 1), (27, .iload_n 2, 1), (28, .iconst (-1), 1), (29, .if_icmp .ne 5, 3), (32, .iconst 0, 1), (33, .ireturn, 1), (34, .aload_n 0, 1), (35, .getfield 19, 3), (38, .iload_n 2, 1), (39, .invokevirtual 95, 3), (42, .iload_n 1, 1), (43, .iconst 3, 1), (44, .if_icmp .eq 24, 3), (47, .aload_n 0, 1), (48, .getfield 15, 3), (51, .bipush 44, 2), (53, .invokevirtual 42, 3), (56, .ifCond .ne 6, 3), (59, .goto 9, 3), (62, .iinc 1 1, 3), (65, .goto (-48), 3), (68, .iconst 1, 1), (69, .ireturn, 1)]
set_option maxRecDepth 100000 in
theorem pK_X4_readGroup : q_Iok cX4_readGroup pI_X4_readGroup := ⟨by decide +kernel, by decide +kernel⟩
def pI_X4_readCondition : q_I := [(0, .aload_n 0, 1), (1, .getfield 36, 3), (4, .invokevirtual 99, 3), (7, .istore_n 2, 1), (8, .aload_n 0, 1), (9, .getfield 36, 3), (12, .invokevirtual 104, 3), (15, .istore_n 3, 1), (16, .aload_n 0, 1), (17, .iload_n 1, 1), (18, .invokevirtual 107, 3), (21, .ifCond .ne 5, 3), (24, .iconst 0, 1), (25, .ireturn, 1), (26, .iconst 0, 1), (27, .istore 4, 2), (29, .iload 4, 2), (31, .sipush 130, 3), (34, .if_icmp .ge 58, 3), (37, .aload_n 0, 1), (38, .getfield 15, 3), (41, .invokevirtual 65, 3), (44, .sipush 270, 3), (47, .if_icmp .ne 45, 3), (50, .aload_n 0, 1), (51, .getfield 15, 3), (54, .invokevirtual 72, 3), (57, .aload_n 0, 1), (58, .iload_n 1, 1), (59, .invokevirtual 107, 3), (62, .ifCond .ne 5, 3), (65, .iconst 0, 1), (66, .ireturn, 1), (67, .aload_n 0, 1), (68, .getfield 36, 3), (71, .sipush 270, 3), (74, .iconst (-1), 1), (75, .iconst (-1), 1), (76, .invokevirtual 110, 3), (79, .aload_n 0, 1), (80, .iload_n 1, 1), (81, .iload_n 3, 1), (82, .iload_n 2, 1), (83, .invokevirtual 114, 3), (86, .iinc 4 1, 3), (89, .goto (-60), 3), (92, .iconst 1, 1), (93, .ireturn, 1)]
set_option maxRecDepth 100000 in
theorem pK_X4_readCondition : q_Iok cX4_readCondition pI_X4_readCondition := ⟨by decide +kernel, by decide +kernel⟩
def pI_X4_readConjunction : q_I := [(0, .aload_n 0, 1), (1, .iload_n 1, 1), (2, .invokevirtual 117, 3), (5, .ifCond .ne 5, 3), (8, .iconst 0, 1), (9, .ireturn, 1), (10, .iconst 0, 1), (11, .istore_n 2, 1), (12, .iload_n 2, 1), (13, .sipush 130, 3), (16, .if_icmp .ge 51, 3), (19, .aload_n 0, 1), (20, .getfield 15, 3), (23, .invokevirtual 65, 3), (26, .sipush 271, 3), (29, .if_icmp .ne 38, 3), (32, .aload_n 0, 1), (33, .getfield 15, 3), (36, .invokevirtual 72, 3), (39, .aload_n 0, 1), (40, .iload_n 1, 1), (41, .invokevirtual 117, 3), (44, .ifCond .ne 5, 3), (47, .iconst 0, 1), (48, .ireturn, 1), (49, .aload_n 0, 1), (50, .getfield 36, 3), (53, .sipush 271, 3), (56, .iconst (-1), 1), (57, .iconst (-1), 1), (58, .invokevirtual 110, 3), (61, .iinc 2 1, 3), (64, .goto (-52), 3), (67, .iconst 1, 1), (68, .ireturn, 1)]
set_option maxRecDepth 100000 in
theorem pK_X4_readConjunction : q_Iok cX4_readConjunction pI_X4_readConjunction := ⟨by decide +kernel, by decide +kernel⟩
def pI_X4_readPart : q_I := [(0, .aload_n 0, 1), (1, .getfield 36, 3), (4, .invokevirtual 99, 3), (7, .istore_n 2, 1), (8, .aload_n 0, 1), (9, .iload_n 1, 1), (10, .invokevirtual 120, 3), (13, .ifCond .ne 5, 3), (16, .iconst 0, 1), (17, .ireturn, 1), (18, .aload_n 0, 1), (19, .iload_n 1, 1), (20, .aload_n 0, 1), (21, .getfield 36, 3), (24, .invokevirtual 104, 3), (27, .iload_n 2, 1), (28, .invokevirtual 114, 3), (31, .iconst 1, 1), (32, .ireturn, 1)]
set_option maxRecDepth 100000 in
theorem pK_X4_readPart : q_Iok cX4_readPart pI_X4_readPart := ⟨by decide +kernel, by decide +kernel⟩
def pI_X4_notePart : q_I := [(0, .iload_n 1, 1), (1, .ifCond .ne 29, 3), (4, .aload_n 0, 1), (5, .getfield 36, 3), (8, .iload_n 2, 1), (9, .iload_n 3, 1), (10, .aload_n 0, 1), (11, .getfield 9, 3), (14, .aload_n 0, 1), (15, .getfield 9, 3), (18, .iconst 3, 1), (19, .if_icmp .ne 7, 3), (22, .iconst 1, 1), (23, .goto 4, 3), (26, .iconst 0, 1), (27, .invokevirtual 123, 3), (30, .return_, 1)]
set_option maxRecDepth 100000 in
theorem pK_X4_notePart : q_Iok cX4_notePart pI_X4_notePart := ⟨by decide +kernel, by decide +kernel⟩
def pI_X4_readTest : q_I := [(0, .aload_n 0, 1), (1, .getfield 15, 3), (4, .invokevirtual 65, 3), (7, .istore_n 2, 1), (8, .iload_n 2, 1), (9, .sipush 272, 3), (12, .if_icmp .eq 14, 3), (15, .iload_n 2, 1), (16, .bipush 40, 2), (18, .if_icmp .eq 8, 3), (21, .aload_n 0, 1), (22, .invokevirtual 127, 3), (25, .ireturn, 1), (26, .iload_n 1, 1), (27, .iconst 4, 1), (28, .if_icmp .lt 5, 3), (31, .iconst 0, 1), (32, .ireturn, 1), (33, .aload_n 0, 1), (34, .getfield 15, 3), (37, .invokevirtual 72, 3), (40, .iload_n 2, 1), (41, .bipush 40, 2), (43, .if_icmp .ne 31, 3), (46, .aload_n 0, 1), (47, .iload_n 1, 1), (48, .iconst 1, 1), (49, .iadd, 1), (50, .invokevirtual 92, 3), (53, .ifCond .eq 19, 3), (56, .aload_n 0, 1), (57, .getfield 15, 3), (60, .bipush 41, 2), (62, .invokevirtual 42, 3), (65, .ifCond .eq 7, 3), (68, .iconst 1, 1), (69, .goto 4, 3), (72, .iconst 0, 1), (73, .ireturn, 1), (74, .aload_n 0, 1), (75, .iload_n 1, 1), (76, .iconst 1, 1), (77, .iadd, 1), (78, .invokevirtual 120, 3), (81, .ifCond .ne 5, 3), (84, .iconst 0, 1), (85, .ireturn, 1), (86, .aload_n 0, 1), (87, .getfield 36, 3), (90, .sipush 272, 3), (93, .iconst (-1), 1), (94, .iconst (-1), 1), (95, .invokevirtual 110, 3), (98, .iconst 1, 1), (99, .ireturn, 1)]
set_option maxRecDepth 100000 in
theorem pK_X4_readTest : q_Iok cX4_readTest pI_X4_readTest := ⟨by decide +kernel, by decide +kernel⟩
def pI_X4_readComparison : q_I := [(0, .aload_n 0, 1), (1, .invokevirtual 130, 3), (4, .istore_n 1, 1), (5, .iload_n 1, 1), (6, .iconst (-1), 1), (7, .if_icmp .ne 5, 3), (10, .iconst 0, 1), (11, .ireturn, 1), (12, .aload_n 0, 1), (13, .getfield 15, 3), (16, .invokevirtual 65, 3), (19, .istore_n 2, 1), (20, .iload_n 2, 1), (21, .sipush 273, 3), (24, .if_icmp .eq 23, 3), (27, .iload_n 2, 1), (28, .bipush 61, 2), (30, .if_icmp .eq 17, 3), (33, .iload_n 2, 1), (34, .bipush 60, 2), (36, .if_icmp .eq 11, 3), (39, .iload_n 2, 1), (40, .bipush 62, 2), (42, .if_icmp .eq 5, 3), (45, .iconst 0, 1), (46, .ireturn, 1), (47, .aload_n 0, 1), (48, .getfield 15, 3), (51, .invokevirtual 72, 3), (54, .iload_n 2, 1), (55, .sipush 273, 3), (58, .if_icmp .ne 26, 3), (61, .aload_n 0, 1), (62, .getfield 36, 3), (65, .sipush 273, 3), (68, .iload_n 1, 1), (69, .iconst (-1), 1), (70, .invokevirtual 110, 3), (73, .aload_n 0, 1), (74, .getfield 15, 3), (77, .sipush 274, 3), (80, .invokevirtual 42, 3), (83, .ireturn, 1), (84, .aload_n 0, 1), (85, .invokevirtual 130, 3), (88, .istore_n 3, 1), (89, .aload_n 0, 1), (90, .getfield 36, 3), (93, .iload_n 2, 1), (94, .iload_n 1, 1), (95, .iload_n 3, 1), (96, .invokevirtual 110, 3), (99, .iload_n 3, 1), (100, .iconst (-1), 1), (101, .if_icmp .eq 7, 3), (104, .iconst 1, 1), (105, .goto 4, 3), (108, .iconst 0, 1), (109, .ireturn, 1)]
set_option maxRecDepth 100000 in
theorem pK_X4_readComparison : q_Iok cX4_readComparison pI_X4_readComparison := ⟨by decide +kernel, by decide +kernel⟩
def pI_X4_readOperand : q_I := [(0, .aload_n 0, 1), (1, .getfield 15, 3), (4, .invokevirtual 65, 3), (7, .istore_n 1, 1), (8, .iload_n 1, 1), (9, .sipush 258, 3), (12, .if_icmp .eq 15, 3), (15, .iload_n 1, 1), (16, .sipush 274, 3), (19, .if_icmp .eq 8, 3), (22, .aload_n 0, 1), (23, .invokevirtual 79, 3), (26, .ireturn, 1), (27, .aload_n 0, 1), (28, .getfield 15, 3), (31, .invokevirtual 133, 3), (34, .istore_n 2, 1), (35, .aload_n 0, 1), (36, .getfield 15, 3), (39, .invokevirtual 72, 3), (42, .aload_n 0, 1), (43, .getfield 29, 3), (46, .iload_n 2, 1), (47, .iload_n 1, 1), (48, .sipush 274, 3), (51, .if_icmp .ne 7, 3), (54, .iconst 1, 1), (55, .goto 4, 3), (58, .iconst 0, 1), (59, .invokevirtual 136, 3), (62, .ireturn, 1)]
set_option maxRecDepth 100000 in
theorem pK_X4_readOperand : q_Iok cX4_readOperand pI_X4_readOperand := ⟨by decide +kernel, by decide +kernel⟩
def pI_X4_readColumn : q_I := [(0, .aload_n 0, 1), (1, .getfield 15, 3), (4, .invokevirtual 82, 3), (7, .istore_n 1, 1), (8, .aload_n 0, 1), (9, .getfield 15, 3), (12, .invokevirtual 65, 3), (15, .istore_n 2, 1), (16, .iload_n 2, 1), (17, .invokestatic 85, 3), (20, .ifCond .ne 5, 3), (23, .iconst (-1), 1), (24, .ireturn, 1), (25, .aload_n 0, 1), (26, .getfield 15, 3), (29, .invokevirtual 72, 3), (32, .aload_n 0, 1), (33, .getfield 15, 3), (36, .invokevirtual 65, 3), (39, .bipush 46, 2), (41, .if_icmp .eq 5, 3), (44, .iconst (-1), 1), (45, .ireturn, 1), (46, .aload_n 0, 1), (47, .getfield 15, 3), (50, .invokevirtual 72, 3), (53, .aload_n 0, 1), (54, .getfield 15, 3), (57, .invokevirtual 65, 3), (60, .bipush 97, 2), (62, .isub, 1), (63, .istore_n 3, 1), (64, .iload_n 3, 1), (65, .ifCond .lt 8, 3), (68, .iload_n 3, 1), (69, .iconst 4, 1), (70, .if_icmp .lt 5, 3), (73, .iconst (-1), 1), (74, .ireturn, 1), (75, .aload_n 0, 1), (76, .getfield 15, 3), (79, .invokevirtual 72, 3), (82, .aload_n 0, 1), (83, .getfield 29, 3), (86, .iload_n 1, 1), (87, .iload_n 2, 1), (88, .iload_n 3, 1), (89, .aload_n 0, 1), (90, .getfield 9, 3), (93, .invokevirtual 142, 3), (96, .ireturn, 1)]
set_option maxRecDepth 100000 in
theorem pK_X4_readColumn : q_Iok cX4_readColumn pI_X4_readColumn := ⟨by decide +kernel, by decide +kernel⟩
def pI_X4_isAlias : q_I := [(0, .iload_n 0, 1), (1, .bipush 119, 2), (3, .if_icmp .lt 13, 3), (6, .iload_n 0, 1), (7, .bipush 122, 2), (9, .if_icmp .gt 7, 3), (12, .iconst 1, 1), (13, .goto 4, 3), (16, .iconst 0, 1), (17, .ireturn, 1)]
set_option maxRecDepth 100000 in
theorem pK_X4_isAlias : q_Iok cX4_isAlias pI_X4_isAlias := ⟨by decide +kernel, by decide +kernel⟩
def pI_X5_init : q_I := [(0, .aload_n 0, 1), (1, .invokespecial 3, 3), (4, .aload_n 0, 1), (5, .new 9, 3), (8, .dup, 1), (9, .invokespecial 11, 3), (12, .putfield 12, 3), (15, .aload_n 0, 1), (16, .new 18, 3), (19, .dup, 1), (20, .aload_n 0, 1), (21, .getfield 12, 3), (24, .invokespecial 20, 3), (27, .putfield 23, 3), (30, .aload_n 0, 1), (31, .iconst 3, 1), (32, .newarray .int, 2), (34, .putfield 27, 3), (37, .aload_n 0, 1), (38, .iconst 3, 1), (39, .newarray .int, 2), (41, .putfield 31, 3), (44, .aload_n 0, 1), (45, .iconst 3, 1), (46, .newarray .int, 2), (48, .putfield 34, 3), (51, .aload_n 0, 1), (52, .iconst 3, 1), (53, .newarray .int, 2), (55, .putfield 37, 3), (58, .aload_n 0, 1), (59, .iconst 3, 1), (60, .newarray .boolean, 2), (62, .putfield 40, 3), (65, .aload_n 0, 1), (66, .iconst 0, 1), (67, .putfield 44, 3), (70, .aload_n 0, 1), (71, .iconst 4, 1), (72, .newarray .int, 2), (74, .putfield 48, 3), (77, .aload_n 0, 1), (78, .iconst 4, 1), (79, .newarray .int, 2), (81, .putfield 51, 3), (84, .aload_n 0, 1), (85, .iconst 0, 1), (86, .putfield 54, 3), (89, .aload_n 0, 1), (90, .iconst 3, 1), (91, .newarray .int, 2), (93, .putfield 57, 3), (96, .aload_n 0, 1), (97, .iconst 0, 1), (98, .putfield 60, 3), (101, .return_, 1)]
set_option maxRecDepth 100000 in
theorem pK_X5_init : q_Iok cX5_init pI_X5_init := ⟨by decide +kernel, by decide +kernel⟩
def pI_X5_clear : q_I := [(0, .aload_n 0, 1), (1, .getfield 12, 3), (4, .invokevirtual 63, 3), (7, .aload_n 0, 1), (8, .getfield 23, 3), (11, .invokevirtual 66, 3), (14, .aload_n 0, 1), (15, .iconst 0, 1), (16, .putfield 44, 3), (19, .aload_n 0, 1), (20, .iconst 0, 1), (21, .putfield 54, 3), (24, .aload_n 0, 1), (25, .iconst 0, 1), (26, .putfield 60, 3), (29, .return_, 1)]
set_option maxRecDepth 100000 in
theorem pK_X5_clear : q_Iok cX5_clear pI_X5_clear := ⟨by decide +kernel, by decide +kernel⟩
def pI_X5_settle : q_I := [(0, .aload_n 0, 1), (1, .getfield 23, 3), (4, .invokevirtual 67, 3), (7, .return_, 1)]
set_option maxRecDepth 100000 in
theorem pK_X5_settle : q_Iok cX5_settle pI_X5_settle := ⟨by decide +kernel, by decide +kernel⟩
def pI_X5_operands : q_I := [(0, .aload_n 0, 1), (1, .getfield 12, 3), (4, .areturn, 1)]
set_option maxRecDepth 100000 in
theorem pK_X5_operands : q_Iok cX5_operands pI_X5_operands := ⟨by decide +kernel, by decide +kernel⟩
def pI_X5_steps : q_I := [(0, .aload_n 0, 1), (1, .getfield 23, 3), (4, .areturn, 1)]
set_option maxRecDepth 100000 in
theorem pK_X5_steps : q_Iok cX5_steps pI_X5_steps := ⟨by decide +kernel, by decide +kernel⟩
def pI_X5_addItem : q_I := [(0, .aload_n 0, 1), (1, .getfield 44, 3), (4, .ifCond .lt 73, 3), (7, .aload_n 0, 1), (8, .getfield 44, 3), (11, .iconst 3, 1), (12, .if_icmp .ge 65, 3), (15, .aload_n 0, 1), (16, .getfield 27, 3), (19, .aload_n 0, 1), (20, .getfield 44, 3), (23, .iload_n 1, 1), (24, .iastore, 1), (25, .aload_n 0, 1), (26, .getfield 31, 3), (29, .aload_n 0, 1), (30, .getfield 44, 3), (33, .iload_n 2, 1), (34, .iastore, 1), (35, .aload_n 0, 1), (36, .getfield 34, 3), (39, .aload_n 0, 1), (40, .getfield 44, 3), (43, .iload_n 3, 1), (44, .iastore, 1), (45, .aload_n 0, 1), (46, .getfield 37, 3), (49, .aload_n 0, 1), (50, .getfield 44, 3), (53, .iload 4, 2), (55, .iastore, 1), (56, .aload_n 0, 1), (57, .getfield 40, 3), (60, .aload_n 0, 1), (61, .getfield 44, 3), (64, .iload 5, 2), (66, .bastore, 1), (67, .aload_n 0, 1), (68, .dup, 1), (69, .getfield 44, 3), (72, .iconst 1, 1), (73, .iadd, 1), (74, .putfield 44, 3), (77, .return_, 1)]
set_option maxRecDepth 100000 in
theorem pK_X5_addItem : q_Iok cX5_addItem pI_X5_addItem := ⟨by decide +kernel, by decide +kernel⟩
def pI_X5_addOut : q_I := [(0, .aload_n 0, 1), (1, .getfield 54, 3), (4, .ifCond .lt 41, 3), (7, .aload_n 0, 1), (8, .getfield 54, 3), (11, .iconst 4, 1), (12, .if_icmp .ge 33, 3), (15, .aload_n 0, 1), (16, .getfield 48, 3), (19, .aload_n 0, 1), (20, .getfield 54, 3), (23, .iload_n 1, 1), (24, .iastore, 1), (25, .aload_n 0, 1), (26, .getfield 51, 3), (29, .aload_n 0, 1), (30, .getfield 54, 3), (33, .iload_n 2, 1), (34, .iastore, 1), (35, .aload_n 0, 1), (36, .dup, 1), (37, .getfield 54, 3), (40, .iconst 1, 1), (41, .iadd, 1), (42, .putfield 54, 3), (45, .return_, 1)]
set_option maxRecDepth 100000 in
theorem pK_X5_addOut : q_Iok cX5_addOut pI_X5_addOut := ⟨by decide +kernel, by decide +kernel⟩
def pI_X5_addGrouped : q_I := [(0, .aload_n 0, 1), (1, .getfield 60, 3), (4, .ifCond .lt 31, 3), (7, .aload_n 0, 1), (8, .getfield 60, 3), (11, .iconst 3, 1), (12, .if_icmp .ge 23, 3), (15, .aload_n 0, 1), (16, .getfield 57, 3), (19, .aload_n 0, 1), (20, .getfield 60, 3), (23, .iload_n 1, 1), (24, .iastore, 1), (25, .aload_n 0, 1), (26, .dup, 1), (27, .getfield 60, 3), (30, .iconst 1, 1), (31, .iadd, 1), (32, .putfield 60, 3), (35, .return_, 1)]
set_option maxRecDepth 100000 in
theorem pK_X5_addGrouped : q_Iok cX5_addGrouped pI_X5_addGrouped := ⟨by decide +kernel, by decide +kernel⟩
end
section
def pI_X5_itemCount : q_I := [(0, .aload_n 0, 1), (1, .getfield 44, 3), (4, .ireturn, 1)]
set_option maxRecDepth 100000 in
theorem pK_X5_itemCount : q_Iok cX5_itemCount pI_X5_itemCount := ⟨by decide +kernel, by decide +kernel⟩
def pI_X5_tableOf : q_I := [(0, .aload_n 0, 1), (1, .getfield 27, 3), (4, .iload_n 1, 1), (5, .invokestatic 70, 3), (8, .ireturn, 1)]
set_option maxRecDepth 100000 in
theorem pK_X5_tableOf : q_Iok cX5_tableOf pI_X5_tableOf := ⟨by decide +kernel, by decide +kernel⟩
def pI_X5_tablePlaceOf : q_I := [(0, .aload_n 0, 1), (1, .getfield 31, 3), (4, .iload_n 1, 1), (5, .invokestatic 70, 3), (8, .ireturn, 1)]
set_option maxRecDepth 100000 in
theorem pK_X5_tablePlaceOf : q_Iok cX5_tablePlaceOf pI_X5_tablePlaceOf := ⟨by decide +kernel, by decide +kernel⟩
def pI_X5_aliasOf : q_I := [(0, .aload_n 0, 1), (1, .getfield 34, 3), (4, .iload_n 1, 1), (5, .invokestatic 70, 3), (8, .ireturn, 1)]
set_option maxRecDepth 100000 in
theorem pK_X5_aliasOf : q_Iok cX5_aliasOf pI_X5_aliasOf := ⟨by decide +kernel, by decide +kernel⟩
def pI_X5_aliasPlaceOf : q_I := [(0, .aload_n 0, 1), (1, .getfield 37, 3), (4, .iload_n 1, 1), (5, .invokestatic 70, 3), (8, .ireturn, 1)]
set_option maxRecDepth 100000 in
theorem pK_X5_aliasPlaceOf : q_Iok cX5_aliasPlaceOf pI_X5_aliasPlaceOf := ⟨by decide +kernel, by decide +kernel⟩
def pI_X5_isLeft : q_I := [(0, .iload_n 1, 1), (1, .ifCond .lt 21, 3), (4, .iload_n 1, 1), (5, .iconst 3, 1), (6, .if_icmp .ge 16, 3), (9, .aload_n 0, 1), (10, .getfield 40, 3), (13, .iload_n 1, 1), (14, .baload, 1), (15, .ifCond .eq 7, 3), (18, .iconst 1, 1), (19, .goto 4, 3), (22, .iconst 0, 1), (23, .ireturn, 1)]
set_option maxRecDepth 100000 in
theorem pK_X5_isLeft : q_Iok cX5_isLeft pI_X5_isLeft := ⟨by decide +kernel, by decide +kernel⟩
def pI_X5_itemWith : q_I := [(0, .iconst 0, 1), (1, .istore_n 2, 1), (2, .iload_n 2, 1), (3, .aload_n 0, 1), (4, .getfield 44, 3), (7, .if_icmp .ge 26, 3), (10, .iload_n 2, 1), (11, .iconst 3, 1), (12, .if_icmp .ge 21, 3), (15, .aload_n 0, 1), (16, .getfield 34, 3), (19, .iload_n 2, 1), (20, .iaload, 1), (21, .iload_n 1, 1), (22, .if_icmp .ne 5, 3), (25, .iload_n 2, 1), (26, .ireturn, 1), (27, .iinc 2 1, 3), (30, .goto (-28), 3), (33, .iconst (-1), 1), (34, .ireturn, 1)]
set_option maxRecDepth 100000 in
theorem pK_X5_itemWith : q_Iok cX5_itemWith pI_X5_itemWith := ⟨by decide +kernel, by decide +kernel⟩
def pI_X5_uses : q_I := [(0, .iconst 0, 1), (1, .istore_n 2, 1), (2, .iload_n 2, 1), (3, .aload_n 0, 1), (4, .getfield 44, 3), (7, .if_icmp .ge 26, 3), (10, .iload_n 2, 1), (11, .iconst 3, 1), (12, .if_icmp .ge 21, 3), (15, .aload_n 0, 1), (16, .getfield 27, 3), (19, .iload_n 2, 1), (20, .iaload, 1), (21, .iload_n 1, 1), (22, .if_icmp .ne 5, 3), (25, .iconst 1, 1), (26, .ireturn, 1), (27, .iinc 2 1, 3), (30, .goto (-28), 3), (33, .iconst 0, 1), (34, .ireturn, 1)]
set_option maxRecDepth 100000 in
theorem pK_X5_uses : q_Iok cX5_uses pI_X5_uses := ⟨by decide +kernel, by decide +kernel⟩
def pI_X5_outCount : q_I := [(0, .aload_n 0, 1), (1, .getfield 54, 3), (4, .ireturn, 1)]
set_option maxRecDepth 100000 in
theorem pK_X5_outCount : q_Iok cX5_outCount pI_X5_outCount := ⟨by decide +kernel, by decide +kernel⟩
def pI_X5_outKind : q_I := [(0, .aload_n 0, 1), (1, .getfield 48, 3), (4, .iload_n 1, 1), (5, .invokestatic 70, 3), (8, .ireturn, 1)]
set_option maxRecDepth 100000 in
theorem pK_X5_outKind : q_Iok cX5_outKind pI_X5_outKind := ⟨by decide +kernel, by decide +kernel⟩
def pI_X5_outColumn : q_I := [(0, .aload_n 0, 1), (1, .getfield 51, 3), (4, .iload_n 1, 1), (5, .invokestatic 70, 3), (8, .ireturn, 1)]
set_option maxRecDepth 100000 in
theorem pK_X5_outColumn : q_Iok cX5_outColumn pI_X5_outColumn := ⟨by decide +kernel, by decide +kernel⟩
def pI_X5_groupedCount : q_I := [(0, .aload_n 0, 1), (1, .getfield 60, 3), (4, .ireturn, 1)]
set_option maxRecDepth 100000 in
theorem pK_X5_groupedCount : q_Iok cX5_groupedCount pI_X5_groupedCount := ⟨by decide +kernel, by decide +kernel⟩
def pI_X5_groupColumn : q_I := [(0, .aload_n 0, 1), (1, .getfield 57, 3), (4, .iload_n 1, 1), (5, .invokestatic 70, 3), (8, .ireturn, 1)]
set_option maxRecDepth 100000 in
theorem pK_X5_groupColumn : q_Iok cX5_groupColumn pI_X5_groupColumn := ⟨by decide +kernel, by decide +kernel⟩
def pI_X5_groupsBy : q_I := [(0, .iconst 0, 1), (1, .istore_n 2, 1), (2, .iload_n 2, 1), (3, .aload_n 0, 1), (4, .getfield 60, 3), (7, .if_icmp .ge 33, 3), (10, .iload_n 2, 1), (11, .iconst 3, 1), (12, .if_icmp .ge 28, 3), (15, .aload_n 0, 1), (16, .getfield 12, 3), (19, .aload_n 0, 1), (20, .getfield 57, 3), (23, .iload_n 2, 1), (24, .iaload, 1), (25, .iload_n 1, 1), (26, .invokevirtual 74, 3), (29, .ifCond .eq 5, 3), (32, .iconst 1, 1), (33, .ireturn, 1), (34, .iinc 2 1, 3), (37, .goto (-35), 3), (40, .iconst 0, 1), (41, .ireturn, 1)]
set_option maxRecDepth 100000 in
theorem pK_X5_groupsBy : q_Iok cX5_groupsBy pI_X5_groupsBy := ⟨by decide +kernel, by decide +kernel⟩
def pI_X5_gathers : q_I := [(0, .iconst 0, 1), (1, .istore_n 1, 1), (2, .iload_n 1, 1), (3, .aload_n 0, 1), (4, .getfield 54, 3), (7, .if_icmp .ge 28, 3), (10, .iload_n 1, 1), (11, .iconst 4, 1), (12, .if_icmp .ge 23, 3), (15, .aload_n 0, 1), (16, .getfield 48, 3), (19, .iload_n 1, 1), (20, .iaload, 1), (21, .sipush 275, 3), (24, .if_icmp .eq 5, 3), (27, .iconst 1, 1), (28, .ireturn, 1), (29, .iinc 1 1, 3), (32, .goto (-30), 3), (35, .aload_n 0, 1), (36, .getfield 60, 3), (39, .ifCond .le 7, 3), (42, .iconst 1, 1), (43, .goto 4, 3), (46, .iconst 0, 1), (47, .ireturn, 1)]
set_option maxRecDepth 100000 in
theorem pK_X5_gathers : q_Iok cX5_gathers pI_X5_gathers := ⟨by decide +kernel, by decide +kernel⟩
def pI_X6_init : q_I := [(0, .aload_n 0, 1), (1, .invokespecial 3, 3), (4, .aload_n 0, 1), (5, .sipush 130, 3), (8, .newarray .int, 2), (10, .putfield 9, 3), (13, .aload_n 0, 1), (14, .sipush 130, 3), (17, .newarray .int, 2), (19, .putfield 15, 3), (22, .aload_n 0, 1), (23, .sipush 130, 3), (26, .newarray .int, 2), (28, .putfield 18, 3), (31, .aload_n 0, 1), (32, .iconst 0, 1), (33, .putfield 21, 3), (36, .aload_n 0, 1), (37, .sipush 130, 3), (40, .newarray .int, 2), (42, .putfield 25, 3), (45, .aload_n 0, 1), (46, .sipush 130, 3), (49, .newarray .int, 2), (51, .putfield 28, 3), (54, .aload_n 0, 1), (55, .sipush 130, 3), (58, .newarray .int, 2), (60, .putfield 31, 3), (63, .aload_n 0, 1), (64, .sipush 130, 3), (67, .newarray .boolean, 2), (69, .putfield 34, 3), (72, .aload_n 0, 1), (73, .iconst 0, 1), (74, .putfield 38, 3), (77, .aload_n 0, 1), (78, .sipush 130, 3), (81, .newarray .int, 2), (83, .putfield 41, 3), (86, .aload_n 0, 1), (87, .aload_n 1, 1), (88, .putfield 44, 3), (91, .return_, 1)]
set_option maxRecDepth 100000 in
theorem pK_X6_init : q_Iok cX6_init pI_X6_init := ⟨by decide +kernel, by decide +kernel⟩
def pI_X6_clear : q_I := [(0, .aload_n 0, 1), (1, .iconst 0, 1), (2, .putfield 21, 3), (5, .aload_n 0, 1), (6, .iconst 0, 1), (7, .putfield 38, 3), (10, .return_, 1)]
set_option maxRecDepth 100000 in
theorem pK_X6_clear : q_Iok cX6_clear pI_X6_clear := ⟨by decide +kernel, by decide +kernel⟩
def pI_X6_count : q_I := [(0, .aload_n 0, 1), (1, .getfield 21, 3), (4, .ireturn, 1)]
set_option maxRecDepth 100000 in
theorem pK_X6_count : q_Iok cX6_count pI_X6_count := ⟨by decide +kernel, by decide +kernel⟩
def pI_X6_partCount : q_I := [(0, .aload_n 0, 1), (1, .getfield 38, 3), (4, .ireturn, 1)]
set_option maxRecDepth 100000 in
theorem pK_X6_partCount : q_Iok cX6_partCount pI_X6_partCount := ⟨by decide +kernel, by decide +kernel⟩
def pI_X6_add : q_I := [(0, .aload_n 0, 1), (1, .getfield 21, 3), (4, .ifCond .lt 53, 3), (7, .aload_n 0, 1), (8, .getfield 21, 3), (11, .sipush 130, 3), (14, .if_icmp .ge 43, 3), (17, .aload_n 0, 1), (18, .getfield 9, 3), (21, .aload_n 0, 1), (22, .getfield 21, 3), (25, .iload_n 1, 1), (26, .iastore, 1), (27, .aload_n 0, 1), (28, .getfield 15, 3), (31, .aload_n 0, 1), (32, .getfield 21, 3), (35, .iload_n 2, 1), (36, .iastore, 1), (37, .aload_n 0, 1), (38, .getfield 18, 3), (41, .aload_n 0, 1), (42, .getfield 21, 3), (45, .iload_n 3, 1), (46, .iastore, 1), (47, .aload_n 0, 1), (48, .dup, 1), (49, .getfield 21, 3), (52, .iconst 1, 1), (53, .iadd, 1), (54, .putfield 21, 3), (57, .return_, 1)]
set_option maxRecDepth 100000 in
theorem pK_X6_add : q_Iok cX6_add pI_X6_add := ⟨by decide +kernel, by decide +kernel⟩
def pI_X6_addPart : q_I := [(0, .iload_n 1, 1), (1, .ifCond .lt 49, 3), (4, .iload_n 1, 1), (5, .sipush 130, 3), (8, .if_icmp .ge 42, 3), (11, .aload_n 0, 1), (12, .getfield 25, 3), (15, .iload_n 1, 1), (16, .iload_n 2, 1), (17, .iastore, 1), (18, .aload_n 0, 1), (19, .getfield 28, 3), (22, .iload_n 1, 1), (23, .aload_n 0, 1), (24, .getfield 21, 3), (27, .iastore, 1), (28, .aload_n 0, 1), (29, .getfield 31, 3), (32, .iload_n 1, 1), (33, .iload_n 3, 1), (34, .iastore, 1), (35, .aload_n 0, 1), (36, .getfield 34, 3), (39, .iload_n 1, 1), (40, .iload 4, 2), (42, .bastore, 1), (43, .aload_n 0, 1), (44, .iload_n 1, 1), (45, .iconst 1, 1), (46, .iadd, 1), (47, .putfield 38, 3), (50, .return_, 1)]
set_option maxRecDepth 100000 in
theorem pK_X6_addPart : q_Iok cX6_addPart pI_X6_addPart := ⟨by decide +kernel, by decide +kernel⟩
def pI_X6_settle : q_I := [(0, .iconst 0, 1), (1, .istore_n 1, 1), (2, .iload_n 1, 1), (3, .aload_n 0, 1), (4, .getfield 38, 3), (7, .if_icmp .ge 47, 3), (10, .iload_n 1, 1), (11, .sipush 130, 3), (14, .if_icmp .ge 40, 3), (17, .aload_n 0, 1), (18, .getfield 34, 3), (21, .iload_n 1, 1), (22, .baload, 1), (23, .ifCond .eq 25, 3), (26, .aload_n 0, 1), (27, .getfield 31, 3), (30, .iload_n 1, 1), (31, .aload_n 0, 1), (32, .aload_n 0, 1), (33, .getfield 25, 3), (36, .iload_n 1, 1), (37, .iaload, 1), (38, .aload_n 0, 1), (39, .getfield 28, 3), (42, .iload_n 1, 1), (43, .iaload, 1), (44, .invokevirtual 48, 3), (47, .iastore, 1), (48, .iinc 1 1, 3), (51, .goto (-49), 3), (54, .return_, 1)]
set_option maxRecDepth 100000 in
theorem pK_X6_settle : q_Iok cX6_settle pI_X6_settle := ⟨by decide +kernel, by decide +kernel⟩
def pI_X6_lastItemIn : q_I := [(0, .iconst 0, 1), (1, .istore_n 3, 1), (2, .iload_n 1, 1), (3, .iconst 0, 1), (4, .invokestatic 52, 3), (7, .istore 4, 2), (9, .iload 4, 2), (11, .iload_n 2, 1), (12, .if_icmp .ge 55, 3), (15, .iload 4, 2), (17, .sipush 130, 3), (20, .if_icmp .ge 47, 3), (23, .iload_n 3, 1), (24, .aload_n 0, 1), (25, .getfield 44, 3), (28, .aload_n 0, 1), (29, .getfield 15, 3), (32, .iload 4, 2), (34, .iaload, 1), (35, .invokevirtual 57, 3), (38, .invokestatic 52, 3), (41, .istore_n 3, 1), (42, .iload_n 3, 1), (43, .aload_n 0, 1), (44, .getfield 44, 3), (47, .aload_n 0, 1), (48, .getfield 18, 3), (51, .iload 4, 2), (53, .iaload, 1), (54, .invokevirtual 57, 3), (57, .invokestatic 52, 3), (60, .istore_n 3, 1), (61, .iinc 4 1, 3), (64, .goto (-55), 3), (67, .iload_n 3, 1), (68, .ireturn, 1)]
set_option maxRecDepth 100000 in
theorem pK_X6_lastItemIn : q_Iok cX6_lastItemIn pI_X6_lastItemIn := ⟨by decide +kernel, by decide +kernel⟩
def pI_X6_allTrue : q_I := [(0, .iconst 0, 1), (1, .istore_n 3, 1), (2, .iload_n 3, 1), (3, .aload_n 0, 1), (4, .getfield 38, 3), (7, .if_icmp .ge 58, 3), (10, .iload_n 3, 1), (11, .sipush 130, 3), (14, .if_icmp .ge 51, 3), (17, .aload_n 0, 1), (18, .getfield 31, 3), (21, .iload_n 3, 1), (22, .iaload, 1), (23, .iload_n 1, 1), (24, .if_icmp .ne 35, 3), (27, .aload_n 0, 1), (28, .getfield 34, 3), (31, .iload_n 3, 1), (32, .baload, 1), (33, .iload_n 2, 1), (34, .if_icmp .ne 25, 3), (37, .aload_n 0, 1), (38, .aload_n 0, 1), (39, .getfield 25, 3), (42, .iload_n 3, 1), (43, .iaload, 1), (44, .aload_n 0, 1), (45, .getfield 28, 3), (48, .iload_n 3, 1), (49, .iaload, 1), (50, .invokevirtual 63, 3), (53, .iconst 2, 1), (54, .if_icmp .eq 5, 3), (57, .iconst 0, 1), (58, .ireturn, 1), (59, .iinc 3 1, 3), (62, .goto (-60), 3), (65, .iconst 1, 1), (66, .ireturn, 1)]
set_option maxRecDepth 100000 in
theorem pK_X6_allTrue : q_Iok cX6_allTrue pI_X6_allTrue := ⟨by decide +kernel, by decide +kernel⟩
def pI_X6_truthOf : q_I := [(0, .iconst 0, 1), (1, .istore_n 3, 1), (2, .iload_n 1, 1), (3, .iconst 0, 1), (4, .invokestatic 52, 3), (7, .istore 4, 2), (9, .iload 4, 2), (11, .iload_n 2, 1), (12, .if_icmp .ge 105, 3), (15, .iload 4, 2), (17, .sipush 130, 3), (20, .if_icmp .ge 97, 3), (23, .aload_n 0, 1), (24, .getfield 9, 3), (27, .iload 4, 2), (29, .iaload, 1), (30, .istore 5, 2), (32, .iload 5, 2), (34, .sipush 272, 3), (37, .if_icmp .ne 11, 3), (40, .aload_n 0, 1), (41, .iload_n 3, 1), (42, .invokevirtual 66, 3), (45, .goto 66, 3), (48, .iload 5, 2), (50, .sipush 271, 3), (53, .if_icmp .eq 11, 3), (56, .iload 5, 2), (58, .sipush 270, 3), (61, .if_icmp .ne 14, 3), (64, .aload_n 0, 1), (65, .iload_n 3, 1), (66, .iload 5, 2), (68, .invokevirtual 70, 3), (71, .istore_n 3, 1), (72, .goto 39, 3), (75, .iload_n 3, 1), (76, .sipush 130, 3), (79, .if_icmp .ge 32, 3), (82, .aload_n 0, 1), (83, .getfield 41, 3), (86, .iload_n 3, 1), (87, .aload_n 0, 1), (88, .iload 5, 2), (90, .aload_n 0, 1), (91, .getfield 15, 3), (94, .iload 4, 2), (96, .iaload, 1), (97, .aload_n 0, 1), (98, .getfield 18, 3), (101, .iload 4, 2), (103, .iaload, 1), (104, .invokevirtual 73, 3), (107, .iastore, 1), (108, .iinc 3 1, 3), (111, .iinc 4 1, 3), (114, .goto (-105), 3), (117, .iload_n 3, 1), (118, .ifCond .le 12, 3), (121, .aload_n 0, 1), (122, .getfield 41, 3), (125, .iconst 0, 1), (126, .iaload, 1), (127, .goto 4, 3), (130, .iconst 1, 1), (131, .ireturn, 1)]
set_option maxRecDepth 100000 in
theorem pK_X6_truthOf : q_Iok cX6_truthOf pI_X6_truthOf := ⟨by decide +kernel, by decide +kernel⟩
def pI_X6_turnTop : q_I := [(0, .iload_n 1, 1), (1, .ifCond .le 28, 3), (4, .iload_n 1, 1), (5, .sipush 130, 3), (8, .if_icmp .gt 21, 3), (11, .aload_n 0, 1), (12, .getfield 41, 3), (15, .iload_n 1, 1), (16, .iconst 1, 1), (17, .isub, 1), (18, .iconst 2, 1), (19, .aload_n 0, 1), (20, .getfield 41, 3), (23, .iload_n 1, 1), (24, .iconst 1, 1), (25, .isub, 1), (26, .iaload, 1), (27, .isub, 1), (28, .iastore, 1), (29, .return_, 1)]
set_option maxRecDepth 100000 in
theorem pK_X6_turnTop : q_Iok cX6_turnTop pI_X6_turnTop := ⟨by decide +kernel, by decide +kernel⟩
def pI_X6_joinTop : q_I := [(0, .iload_n 1, 1), (1, .iconst 2, 1), (2, .if_icmp .lt 10, 3), (5, .iload_n 1, 1), (6, .sipush 130, 3), (9, .if_icmp .le 5, 3), (12, .iload_n 1, 1), (13, .ireturn, 1), (14, .aload_n 0, 1), (15, .getfield 41, 3), (18, .iload_n 1, 1), (19, .iconst 2, 1), (20, .isub, 1), (21, .iaload, 1), (22, .istore_n 3, 1), (23, .aload_n 0, 1), (24, .getfield 41, 3), (27, .iload_n 1, 1), (28, .iconst 1, 1), (29, .isub, 1), (30, .iaload, 1), (31, .istore 4, 2), (33, .aload_n 0, 1), (34, .getfield 41, 3), (37, .iload_n 1, 1), (38, .iconst 2, 1), (39, .isub, 1), (40, .iload_n 2, 1), (41, .sipush 271, 3), (44, .if_icmp .ne 12, 3), (47, .iload_n 3, 1), (48, .iload 4, 2), (50, .invokestatic 77, 3), (53, .goto 9, 3), (56, .iload_n 3, 1), (57, .iload 4, 2), (59, .invokestatic 52, 3), (62, .iastore, 1), (63, .iload_n 1, 1), (64, .iconst 1, 1), (65, .isub, 1), (66, .ireturn, 1)]
set_option maxRecDepth 100000 in
theorem pK_X6_joinTop : q_Iok cX6_joinTop pI_X6_joinTop := ⟨by decide +kernel, by decide +kernel⟩
def pI_X6_testOf : q_I := [(0, .iload_n 1, 1), (1, .sipush 273, 3), (4, .if_icmp .ne 20, 3), (7, .aload_n 0, 1), (8, .getfield 44, 3), (11, .iload_n 2, 1), (12, .invokevirtual 80, 3), (15, .ifCond .eq 7, 3), (18, .iconst 2, 1), (19, .goto 4, 3), (22, .iconst 0, 1), (23, .ireturn, 1), (24, .aload_n 0, 1), (25, .getfield 44, 3), (28, .iload_n 2, 1), (29, .invokevirtual 80, 3), (32, .ifCond .ne 14, 3), (35, .aload_n 0, 1), (36, .getfield 44, 3), (39, .iload_n 3, 1), (40, .invokevirtual 80, 3), (43, .ifCond .eq 5, 3), (46, .iconst 1, 1), (47, .ireturn, 1), (48, .aload_n 0, 1), (49, .getfield 44, 3), (52, .iload_n 2, 1), (53, .invokevirtual 84, 3), (56, .aload_n 0, 1), (57, .getfield 44, 3), (60, .iload_n 3, 1), (61, .invokevirtual 84, 3), (64, .invokestatic 87, 3), (67, .istore 4, 2), (69, .iload_n 1, 1), (70, .bipush 60, 2), (72, .if_icmp .ne 16, 3), (75, .iload 4, 2), (77, .ifCond .ge 7, 3), (80, .iconst 1, 1), (81, .goto 36, 3), (84, .iconst 0, 1), (85, .goto 32, 3), (88, .iload_n 1, 1), (89, .bipush 62, 2), (91, .if_icmp .ne 16, 3), (94, .iload 4, 2), (96, .ifCond .le 7, 3), (99, .iconst 1, 1), (100, .goto 17, 3), (103, .iconst 0, 1), (104, .goto 13, 3), (107, .iload 4, 2), (109, .ifCond .ne 7, 3), (112, .iconst 1, 1), (113, .goto 4, 3), (116, .iconst 0, 1), (117, .istore 5, 2), (119, .iload 5, 2), (121, .ifCond .eq 7, 3), (124, .iconst 2, 1), (125, .goto 4, 3), (128, .iconst 0, 1), (129, .ireturn, 1)]
set_option maxRecDepth 100000 in
theorem pK_X6_testOf : q_Iok cX6_testOf pI_X6_testOf := ⟨by decide +kernel, by decide +kernel⟩
def pI_X7_init : q_I := [(0, .aload_n 0, 1), (1, .invokespecial 3, 3), (4, .aload_n 0, 1), (5, .iconst 3, 1), (6, .newarray .int, 2), (8, .putfield 9, 3), (11, .aload_n 0, 1), (12, .iconst 3, 1), (13, .newarray .int, 2), (15, .putfield 15, 3), (18, .aload_n 0, 1), (19, .bipush 120, 2), (21, .newarray .int, 2), (23, .putfield 18, 3), (26, .aload_n 0, 1), (27, .bipush 120, 2), (29, .newarray .boolean, 2), (31, .putfield 21, 3), (34, .return_, 1)]
set_option maxRecDepth 100000 in
theorem pK_X7_init : q_Iok cX7_init pI_X7_init := ⟨by decide +kernel, by decide +kernel⟩
def pI_X7_width : q_I := [(0, .iload_n 1, 1), (1, .ifCond .lt 17, 3), (4, .iload_n 1, 1), (5, .iconst 3, 1), (6, .if_icmp .ge 12, 3), (9, .aload_n 0, 1), (10, .getfield 9, 3), (13, .iload_n 1, 1), (14, .iaload, 1), (15, .goto 4, 3), (18, .iconst 0, 1), (19, .ireturn, 1)]
set_option maxRecDepth 100000 in
theorem pK_X7_width : q_Iok cX7_width pI_X7_width := ⟨by decide +kernel, by decide +kernel⟩
def pI_X7_height : q_I := [(0, .iload_n 1, 1), (1, .ifCond .lt 17, 3), (4, .iload_n 1, 1), (5, .iconst 3, 1), (6, .if_icmp .ge 12, 3), (9, .aload_n 0, 1), (10, .getfield 15, 3), (13, .iload_n 1, 1), (14, .iaload, 1), (15, .goto 4, 3), (18, .iconst 0, 1), (19, .ireturn, 1)]
set_option maxRecDepth 100000 in
theorem pK_X7_height : q_Iok cX7_height pI_X7_height := ⟨by decide +kernel, by decide +kernel⟩
def pI_X7_make : q_I := [(0, .iload_n 1, 1), (1, .ifCond .lt 18, 3), (4, .iload_n 1, 1), (5, .iconst 3, 1), (6, .if_icmp .ge 13, 3), (9, .iload_n 2, 1), (10, .iconst 1, 1), (11, .if_icmp .lt 8, 3), (14, .iload_n 2, 1), (15, .iconst 4, 1), (16, .if_icmp .le 5, 3), (19, .iconst 0, 1), (20, .ireturn, 1), (21, .aload_n 0, 1), (22, .getfield 9, 3), (25, .iload_n 1, 1), (26, .iload_n 2, 1), (27, .iastore, 1), (28, .aload_n 0, 1), (29, .getfield 15, 3), (32, .iload_n 1, 1), (33, .iconst 0, 1), (34, .iastore, 1), (35, .iconst 1, 1), (36, .ireturn, 1)]
set_option maxRecDepth 100000 in
theorem pK_X7_make : q_Iok cX7_make pI_X7_make := ⟨by decide +kernel, by decide +kernel⟩
def pI_X7_append : q_I := [(0, .aload_n 0, 1), (1, .iload_n 1, 1), (2, .invokevirtual 25, 3), (5, .istore_n 3, 1), (6, .iload_n 1, 1), (7, .ifCond .lt 14, 3), (10, .iload_n 1, 1), (11, .iconst 3, 1), (12, .if_icmp .ge 9, 3), (15, .iload_n 3, 1), (16, .bipush 10, 2), (18, .if_icmp .lt 4, 3), (21, .return_, 1), (22, .aload_n 0, 1), (23, .getfield 15, 3), (26, .iload_n 1, 1), (27, .iload_n 3, 1), (28, .iconst 1, 1), (29, .iadd, 1), (30, .iastore, 1), (31, .iconst 0, 1), (32, .istore 4, 2), (34, .iload 4, 2), (36, .iconst 4, 1), (37, .if_icmp .ge 51, 3), (40, .aload_n 0, 1), (41, .iload_n 1, 1), (42, .iload_n 3, 1), (43, .iload 4, 2), (45, .invokevirtual 29, 3), (48, .istore 5, 2), (50, .iload 5, 2), (52, .iconst (-1), 1), (53, .if_icmp .eq 29, 3), (56, .aload_n 0, 1), (57, .getfield 18, 3), (60, .iload 5, 2), (62, .aload_n 2, 1), (63, .iload 4, 2), (65, .invokevirtual 33, 3), (68, .iastore, 1), (69, .aload_n 0, 1), (70, .getfield 21, 3), (73, .iload 5, 2), (75, .aload_n 2, 1), (76, .iload 4, 2), (78, .invokevirtual 38, 3), (81, .bastore, 1), (82, .iinc 4 1, 3), (85, .goto (-51), 3), (88, .return_, 1)]
set_option maxRecDepth 100000 in
theorem pK_X7_append : q_Iok cX7_append pI_X7_append := ⟨by decide +kernel, by decide +kernel⟩
def pI_X7_dropFirst : q_I := [(0, .iload_n 1, 1), (1, .ifCond .lt 17, 3), (4, .iload_n 1, 1), (5, .iconst 3, 1), (6, .if_icmp .ge 12, 3), (9, .aload_n 0, 1), (10, .getfield 15, 3), (13, .iload_n 1, 1), (14, .iaload, 1), (15, .ifCond .gt 5, 3), (18, .iconst (-1), 1), (19, .ireturn, 1), (20, .iload_n 1, 1), (21, .bipush 10, 2), (23, .imul, 1), (24, .iconst 4, 1), (25, .imul, 1), (26, .istore_n 2, 1), (27, .iload_n 2, 1), (28, .bipush 36, 2), (30, .iadd, 1), (31, .istore_n 3, 1), (32, .iload_n 2, 1), (33, .istore 4, 2), (35, .iload 4, 2), (37, .iload_n 3, 1), (38, .if_icmp .ge 41, 3), (41, .aload_n 0, 1), (42, .getfield 18, 3), (45, .iload 4, 2), (47, .aload_n 0, 1), (48, .getfield 18, 3), (51, .iload 4, 2), (53, .iconst 4, 1), (54, .iadd, 1), (55, .iaload, 1), (56, .iastore, 1), (57, .aload_n 0, 1), (58, .getfield 21, 3), (61, .iload 4, 2), (63, .aload_n 0, 1), (64, .getfield 21, 3), (67, .iload 4, 2), (69, .iconst 4, 1), (70, .iadd, 1), (71, .baload, 1), (72, .bastore, 1), (73, .iinc 4 1, 3), (76, .goto (-41), 3), (79, .aload_n 0, 1), (80, .getfield 15, 3), (83, .iload_n 1, 1), (84, .dup2, 1), (85, .iaload, 1), (86, .iconst 1, 1), (87, .isub, 1), (88, .iastore, 1), (89, .aload_n 0, 1), (90, .getfield 15, 3), (93, .iload_n 1, 1), (94, .iaload, 1), (95, .ireturn, 1)]
set_option maxRecDepth 100000 in
theorem pK_X7_dropFirst : q_Iok cX7_dropFirst pI_X7_dropFirst := ⟨by decide +kernel, by decide +kernel⟩
def pI_X7_numberAt : q_I := [(0, .aload_n 0, 1), (1, .iload_n 1, 1), (2, .iload_n 2, 1), (3, .iload_n 3, 1), (4, .invokevirtual 29, 3), (7, .istore 4, 2), (9, .iload 4, 2), (11, .iconst (-1), 1), (12, .if_icmp .ne 7, 3), (15, .iconst 0, 1), (16, .goto 10, 3), (19, .aload_n 0, 1), (20, .getfield 18, 3), (23, .iload 4, 2), (25, .iaload, 1), (26, .ireturn, 1)]
set_option maxRecDepth 100000 in
theorem pK_X7_numberAt : q_Iok cX7_numberAt pI_X7_numberAt := ⟨by decide +kernel, by decide +kernel⟩
def pI_X7_unknownAt : q_I := [(0, .aload_n 0, 1), (1, .iload_n 1, 1), (2, .iload_n 2, 1), (3, .iload_n 3, 1), (4, .invokevirtual 29, 3), (7, .istore 4, 2), (9, .iload 4, 2), (11, .iconst (-1), 1), (12, .if_icmp .eq 13, 3), (15, .aload_n 0, 1), (16, .getfield 21, 3), (19, .iload 4, 2), (21, .baload, 1), (22, .ifCond .eq 7, 3), (25, .iconst 1, 1), (26, .goto 4, 3), (29, .iconst 0, 1), (30, .ireturn, 1)]
set_option maxRecDepth 100000 in
theorem pK_X7_unknownAt : q_Iok cX7_unknownAt pI_X7_unknownAt := ⟨by decide +kernel, by decide +kernel⟩
def pI_X7_cellOf : q_I := [(0, .iload_n 1, 1), (1, .ifCond .lt 47, 3), (4, .iload_n 1, 1), (5, .iconst 3, 1), (6, .if_icmp .ge 42, 3), (9, .iload_n 2, 1), (10, .ifCond .lt 38, 3), (13, .iload_n 2, 1), (14, .bipush 10, 2), (16, .if_icmp .ge 32, 3), (19, .iload_n 2, 1), (20, .aload_n 0, 1), (21, .getfield 15, 3), (24, .iload_n 1, 1), (25, .iaload, 1), (26, .if_icmp .ge 22, 3), (29, .iload_n 3, 1), (30, .ifCond .lt 18, 3), (33, .iload_n 3, 1), (34, .iconst 4, 1), (35, .if_icmp .ge 13, 3), (38, .iload_n 3, 1), (39, .aload_n 0, 1), (40, .getfield 9, 3), (43, .iload_n 1, 1), (44, .iaload, 1), (45, .if_icmp .lt 5, 3), (48, .iconst (-1), 1), (49, .ireturn, 1), (50, .iload_n 1, 1), (51, .bipush 10, 2), (53, .imul, 1), (54, .iload_n 2, 1), (55, .iadd, 1), (56, .iconst 4, 1), (57, .imul, 1), (58, .iload_n 3, 1), (59, .iadd, 1), (60, .ireturn, 1)]
set_option maxRecDepth 100000 in
theorem pK_X7_cellOf : q_Iok cX7_cellOf pI_X7_cellOf := ⟨by decide +kernel, by decide +kernel⟩
def pI_X8_init : q_I := [(0, .aload_n 0, 1), (1, .invokespecial 3, 3), (4, .aload_n 0, 1), (5, .sipush 130, 3), (8, .newarray .char, 2), (10, .putfield 9, 3), (13, .aload_n 0, 1), (14, .iconst 0, 1), (15, .putfield 15, 3), (18, .return_, 1)]
set_option maxRecDepth 100000 in
theorem pK_X8_init : q_Iok cX8_init pI_X8_init := ⟨by decide +kernel, by decide +kernel⟩
def pI_X8_append : q_I := [(0, .iload_n 1, 1), (1, .bipush 32, 2), (3, .if_icmp .lt 26, 3), (6, .iload_n 1, 1), (7, .bipush 126, 2), (9, .if_icmp .gt 20, 3), (12, .aload_n 0, 1), (13, .getfield 15, 3), (16, .ifCond .lt 13, 3), (19, .aload_n 0, 1), (20, .getfield 15, 3), (23, .sipush 130, 3), (26, .if_icmp .lt 5, 3), (29, .iconst 0, 1), (30, .ireturn, 1), (31, .aload_n 0, 1), (32, .getfield 9, 3), (35, .aload_n 0, 1), (36, .getfield 15, 3), (39, .iload_n 1, 1), (40, .castore, 1), (41, .aload_n 0, 1), (42, .dup, 1), (43, .getfield 15, 3), (46, .iconst 1, 1), (47, .iadd, 1), (48, .putfield 15, 3), (51, .iconst 1, 1), (52, .ireturn, 1)]
set_option maxRecDepth 100000 in
theorem pK_X8_append : q_Iok cX8_append pI_X8_append := ⟨by decide +kernel, by decide +kernel⟩
def pI_X8_clear : q_I := [(0, .aload_n 0, 1), (1, .iconst 0, 1), (2, .putfield 15, 3), (5, .return_, 1)]
set_option maxRecDepth 100000 in
theorem pK_X8_clear : q_Iok cX8_clear pI_X8_clear := ⟨by decide +kernel, by decide +kernel⟩
def pI_X8_splitInto : q_I := [(0, .aload_n 1, 1), (1, .invokevirtual 19, 3), (4, .iconst 0, 1), (5, .istore_n 2, 1), (6, .iconst 0, 1), (7, .istore_n 3, 1), (8, .iload_n 3, 1), (9, .aload_n 0, 1), (10, .getfield 15, 3), (13, .if_icmp .ge 31, 3), (16, .iload_n 3, 1), (17, .iload_n 2, 1), (18, .if_icmp .lt 20, 3), (21, .aload_n 0, 1), (22, .iload_n 3, 1), (23, .invokevirtual 24, 3), (26, .bipush 32, 2), (28, .if_icmp .eq 10, 3), (31, .aload_n 0, 1), (32, .iload_n 3, 1), (33, .aload_n 1, 1), (34, .invokevirtual 28, 3), (37, .istore_n 2, 1), (38, .iinc 3 1, 3), (41, .goto (-33), 3), (44, .aload_n 1, 1), (45, .sipush 256, 3), (48, .aload_n 0, 1), (49, .getfield 15, 3), (52, .iconst 0, 1), (53, .invokevirtual 32, 3), (56, .return_, 1)]
set_option maxRecDepth 100000 in
theorem pK_X8_splitInto : q_Iok cX8_splitInto pI_X8_splitInto := ⟨by decide +kernel, by decide +kernel⟩
def pI_X8_codeAt : q_I := [(0, .iload_n 1, 1), (1, .ifCond .lt 27, 3), (4, .iload_n 1, 1), (5, .aload_n 0, 1), (6, .getfield 15, 3), (9, .if_icmp .ge 19, 3), (12, .iload_n 1, 1), (13, .sipush 130, 3), (16, .if_icmp .ge 12, 3), (19, .aload_n 0, 1), (20, .getfield 9, 3), (23, .iload_n 1, 1), (24, .caload, 1), (25, .goto 5, 3), (28, .bipush 32, 2), (30, .ireturn, 1)]
set_option maxRecDepth 100000 in
theorem pK_X8_codeAt : q_Iok cX8_codeAt pI_X8_codeAt := ⟨by decide +kernel, by decide +kernel⟩
end
section
def pI_X8_readToken : q_I := [(0, .aload_n 0, 1), (1, .iload_n 1, 1), (2, .invokevirtual 24, 3), (5, .istore_n 3, 1), (6, .iload_n 3, 1), (7, .istore 4, 2), (9, .iload_n 3, 1), (10, .invokestatic 36, 3), (13, .ifCond .eq 39, 3), (16, .aload_n 0, 1), (17, .iload_n 1, 1), (18, .invokevirtual 40, 3), (21, .istore 5, 2), (23, .aload_n 2, 1), (24, .iload 5, 2), (26, .iload_n 1, 1), (27, .iconst 1, 1), (28, .iadd, 1), (29, .if_icmp .ne 8, 3), (32, .iload 4, 2), (34, .goto 10, 3), (37, .aload_n 0, 1), (38, .iload_n 1, 1), (39, .iload 5, 2), (41, .invokevirtual 44, 3), (44, .iload_n 1, 1), (45, .iconst 0, 1), (46, .invokevirtual 32, 3), (49, .iload 5, 2), (51, .ireturn, 1), (52, .iload_n 3, 1), (53, .bipush 45, 2), (55, .if_icmp .eq 10, 3), (58, .iload_n 3, 1), (59, .invokestatic 48, 3), (62, .ifCond .eq 10, 3), (65, .aload_n 0, 1), (66, .iload_n 1, 1), (67, .aload_n 2, 1), (68, .invokevirtual 51, 3), (71, .ireturn, 1), (72, .aload_n 2, 1), (73, .iload_n 3, 1), (74, .invokestatic 54, 3), (77, .ifCond .ne 10, 3), (80, .iload_n 3, 1), (81, .invokestatic 57, 3), (84, .ifCond .eq 8, 3), (87, .iload 4, 2), (89, .goto 6, 3), (92, .sipush 257, 3), (95, .iload_n 1, 1), (96, .iconst 0, 1), (97, .invokevirtual 32, 3), (100, .iload_n 1, 1), (101, .iconst 1, 1), (102, .iadd, 1), (103, .ireturn, 1)]
set_option maxRecDepth 100000 in
theorem pK_X8_readToken : q_Iok cX8_readToken pI_X8_readToken := ⟨by decide +kernel, by decide +kernel⟩
def pI_X8_endOfWord : q_I := [(0, .iload_n 1, 1), (1, .istore_n 2, 1), (2, .iload_n 1, 1), (3, .istore_n 3, 1), (4, .iload_n 3, 1), (5, .aload_n 0, 1), (6, .getfield 15, 3), (9, .if_icmp .ge 24, 3), (12, .aload_n 0, 1), (13, .iload_n 3, 1), (14, .invokevirtual 24, 3), (17, .invokestatic 36, 3), (20, .ifCond .eq 13, 3), (23, .iload_n 3, 1), (24, .iconst 1, 1), (25, .iadd, 1), (26, .istore_n 2, 1), (27, .iinc 3 1, 3), (30, .goto (-26), 3), (33, .iload_n 2, 1), (34, .ireturn, 1)]
set_option maxRecDepth 100000 in
theorem pK_X8_endOfWord : q_Iok cX8_endOfWord pI_X8_endOfWord := ⟨by decide +kernel, by decide +kernel⟩
def pI_X8_readNumeral : q_I := [(0, .aload_n 0, 1), (1, .iload_n 1, 1), (2, .invokevirtual 24, 3), (5, .bipush 45, 2), (7, .if_icmp .ne 7, 3), (10, .iconst 1, 1), (11, .goto 4, 3), (14, .iconst 0, 1), (15, .istore_n 3, 1), (16, .iload_n 3, 1), (17, .ifCond .eq 9, 3), (20, .iload_n 1, 1), (21, .iconst 1, 1), (22, .iadd, 1), (23, .goto 4, 3), (26, .iload_n 1, 1), (27, .istore 4, 2), (29, .iload 4, 2), (31, .istore 5, 2), (33, .iconst 0, 1), (34, .istore 6, 2), (36, .iload 4, 2), (38, .istore 7, 2), (40, .iload 7, 2), (42, .aload_n 0, 1), (43, .getfield 15, 3), (46, .if_icmp .ge 44, 3), (49, .aload_n 0, 1), (50, .iload 7, 2), (52, .invokevirtual 24, 3), (55, .invokestatic 48, 3), (58, .ifCond .eq 32, 3), (61, .iload 6, 2), (63, .bipush 10, 2), (65, .imul, 1), (66, .aload_n 0, 1), (67, .iload 7, 2), (69, .invokevirtual 24, 3), (72, .bipush 48, 2), (74, .isub, 1), (75, .iadd, 1), (76, .istore 6, 2), (78, .iload 7, 2), (80, .iconst 1, 1), (81, .iadd, 1), (82, .istore 5, 2), (84, .iinc 7 1, 3), (87, .goto (-47), 3), (90, .iload 5, 2), (92, .iload 4, 2), (94, .if_icmp .le 17, 3), (97, .iload 5, 2), (99, .iload 4, 2), (101, .isub, 1), (102, .bipush 6, 2), (104, .if_icmp .gt 7, 3), (107, .iconst 1, 1), (108, .goto 4, 3), (111, .iconst 0, 1), (112, .istore 7, 2), (114, .aload_n 2, 1), (115, .iload 7, 2), (117, .ifCond .eq 9, 3), (120, .sipush 258, 3), (123, .goto 6, 3), (126, .sipush 257, 3), (129, .iload_n 1, 1), (130, .iload_n 3, 1), (131, .ifCond .eq 9, 3), (134, .iload 6, 2), (136, .ineg, 1), (137, .goto 5, 3), (140, .iload 6, 2), (142, .invokevirtual 32, 3), (145, .iload 5, 2), (147, .ireturn, 1)]
set_option maxRecDepth 100000 in
theorem pK_X8_readNumeral : q_Iok cX8_readNumeral pI_X8_readNumeral := ⟨by decide +kernel, by decide +kernel⟩
def pI_X8_wordKind : q_I := [(0, .aload_n 0, 1), (1, .iload_n 1, 1), (2, .iload_n 2, 1), (3, .ldc 60, 2), (5, .invokevirtual 62, 3), (8, .ifCond .eq 7, 3), (11, .sipush 259, 3), (14, .ireturn, 1), (15, .aload_n 0, 1), (16, .iload_n 1, 1), (17, .iload_n 2, 1), (18, .ldc 66, 2), (20, .invokevirtual 62, 3), (23, .ifCond .eq 7, 3), (26, .sipush 260, 3), (29, .ireturn, 1), (30, .aload_n 0, 1), (31, .iload_n 1, 1), (32, .iload_n 2, 1), (33, .ldc 68, 2), (35, .invokevirtual 62, 3), (38, .ifCond .eq 7, 3), (41, .sipush 261, 3), (44, .ireturn, 1), (45, .aload_n 0, 1), (46, .iload_n 1, 1), (47, .iload_n 2, 1), (48, .ldc 70, 2), (50, .invokevirtual 62, 3), (53, .ifCond .eq 7, 3), (56, .sipush 262, 3), (59, .ireturn, 1), (60, .aload_n 0, 1), (61, .iload_n 1, 1), (62, .iload_n 2, 1), (63, .ldc 72, 2), (65, .invokevirtual 62, 3), (68, .ifCond .eq 7, 3), (71, .sipush 263, 3), (74, .ireturn, 1), (75, .aload_n 0, 1), (76, .iload_n 1, 1), (77, .iload_n 2, 1), (78, .ldc 74, 2), (80, .invokevirtual 62, 3), (83, .ifCond .eq 7, 3), (86, .sipush 264, 3), (89, .ireturn, 1), (90, .aload_n 0, 1), (91, .iload_n 1, 1), (92, .iload_n 2, 1), (93, .ldc 76, 2), (95, .invokevirtual 62, 3), (98, .ifCond .eq 7, 3), (101, .sipush 265, 3), (104, .ireturn, 1), (105, .aload_n 0, 1), (106, .iload_n 1, 1), (107, .iload_n 2, 1), (108, .ldc 78, 2), (110, .invokevirtual 62, 3), (113, .ifCond .eq 7, 3), (116, .sipush 266, 3), (119, .ireturn, 1), (120, .aload_n 0, 1), (121, .iload_n 1, 1), (122, .iload_n 2, 1), (123, .ldc 80, 2), (125, .invokevirtual 62, 3), (128, .ifCond .eq 7, 3), (131, .sipush 267, 3), (134, .ireturn, 1), (135, .aload_n 0, 1), (136, .iload_n 1, 1), (137, .iload_n 2, 1), (138, .ldc 82, 2), (140, .invokevirtual 62, 3), (143, .ifCond .eq 7, 3), (146, .sipush 268, 3), (149, .ireturn, 1), (150, .aload_n 0, 1), (151, .iload_n 1, 1), (152, .iload_n 2, 1), (153, .ldc 84, 2), (155, .invokevirtual 62, 3), (158, .ifCond .eq 7, 3), (161, .sipush 269, 3), (164, .ireturn, 1), (165, .aload_n 0, 1), (166, .iload_n 1, 1), (167, .iload_n 2, 1), (168, .ldc 86, 2), (170, .invokevirtual 62, 3), (173, .ifCond .eq 7, 3), (176, .sipush 270, 3), (179, .ireturn, 1), (180, .aload_n 0, 1), (181, .iload_n 1, 1), (182, .iload_n 2, 1), (183, .ldc 88, 2), (185, .invokevirtual 62, 3), (188, .ifCond .eq 7, 3), (191, .sipush 271, 3), (194, .ireturn, 1), (195, .aload_n 0, 1), (196, .iload_n 1, 1), (197, .iload_n 2, 1), (198, .ldc 90, 2), (200, .invokevirtual 62, 3), (203, .ifCond .eq 7, 3), (206, .sipush 272, 3), (209, .ireturn, 1), (210, .aload_n 0, 1), (211, .iload_n 1, 1), (212, .iload_n 2, 1), (213, .ldc 92, 2), (215, .invokevirtual 62, 3), (218, .ifCond .eq 7, 3), (221, .sipush 273, 3), (224, .ireturn, 1), (225, .aload_n 0, 1), (226, .iload_n 1, 1), (227, .iload_n 2, 1), (228, .ldc 94, 2), (230, .invokevirtual 62, 3), (233, .ifCond .eq 7, 3), (236, .sipush 274, 3), (239, .ireturn, 1), (240, .sipush 257, 3), (243, .ireturn, 1)]
set_option maxRecDepth 100000 in
theorem pK_X8_wordKind : q_Iok cX8_wordKind pI_X8_wordKind := ⟨by decide +kernel, by decide +kernel⟩
def pI_X8_spells : q_I := [(0, .iload_n 2, 1), (1, .iload_n 1, 1), (2, .isub, 1), (3, .aload_n 3, 1), (4, .invokevirtual 96, 3), (7, .if_icmp .eq 5, 3), (10, .iconst 0, 1), (11, .ireturn, 1), (12, .iconst 0, 1), (13, .istore 4, 2), (15, .iload 4, 2), (17, .aload_n 3, 1), (18, .invokevirtual 96, 3), (21, .if_icmp .ge 28, 3), (24, .aload_n 0, 1), (25, .iload_n 1, 1), (26, .iload 4, 2), (28, .iadd, 1), (29, .invokevirtual 24, 3), (32, .aload_n 3, 1), (33, .iload 4, 2), (35, .invokevirtual 101, 3), (38, .if_icmp .eq 5, 3), (41, .iconst 0, 1), (42, .ireturn, 1), (43, .iinc 4 1, 3), (46, .goto (-31), 3), (49, .iconst 1, 1), (50, .ireturn, 1)]
set_option maxRecDepth 100000 in
theorem pK_X8_spells : q_Iok cX8_spells pI_X8_spells := ⟨by decide +kernel, by decide +kernel⟩
def pI_X8_isSmall : q_I := [(0, .iload_n 0, 1), (1, .bipush 97, 2), (3, .if_icmp .lt 13, 3), (6, .iload_n 0, 1), (7, .bipush 122, 2), (9, .if_icmp .gt 7, 3), (12, .iconst 1, 1), (13, .goto 4, 3), (16, .iconst 0, 1), (17, .ireturn, 1)]
set_option maxRecDepth 100000 in
theorem pK_X8_isSmall : q_Iok cX8_isSmall pI_X8_isSmall := ⟨by decide +kernel, by decide +kernel⟩
def pI_X8_isCapital : q_I := [(0, .iload_n 0, 1), (1, .bipush 65, 2), (3, .if_icmp .lt 13, 3), (6, .iload_n 0, 1), (7, .bipush 90, 2), (9, .if_icmp .gt 7, 3), (12, .iconst 1, 1), (13, .goto 4, 3), (16, .iconst 0, 1), (17, .ireturn, 1)]
set_option maxRecDepth 100000 in
theorem pK_X8_isCapital : q_Iok cX8_isCapital pI_X8_isCapital := ⟨by decide +kernel, by decide +kernel⟩
def pI_X8_isDigit : q_I := [(0, .iload_n 0, 1), (1, .bipush 48, 2), (3, .if_icmp .lt 13, 3), (6, .iload_n 0, 1), (7, .bipush 57, 2), (9, .if_icmp .gt 7, 3), (12, .iconst 1, 1), (13, .goto 4, 3), (16, .iconst 0, 1), (17, .ireturn, 1)]
set_option maxRecDepth 100000 in
theorem pK_X8_isDigit : q_Iok cX8_isDigit pI_X8_isDigit := ⟨by decide +kernel, by decide +kernel⟩
def pI_X8_isSign : q_I := [(0, .ldc 104, 2), (2, .iload_n 0, 1), (3, .invokevirtual 106, 3), (6, .ifCond .lt 7, 3), (9, .iconst 1, 1), (10, .goto 4, 3), (13, .iconst 0, 1), (14, .ireturn, 1)]
set_option maxRecDepth 100000 in
theorem pK_X8_isSign : q_Iok cX8_isSign pI_X8_isSign := ⟨by decide +kernel, by decide +kernel⟩
def pI_X9_init : q_I := [(0, .aload_n 0, 1), (1, .invokespecial 3, 3), (4, .aload_n 0, 1), (5, .sipush 131, 3), (8, .newarray .int, 2), (10, .putfield 9, 3), (13, .aload_n 0, 1), (14, .sipush 131, 3), (17, .newarray .int, 2), (19, .putfield 15, 3), (22, .aload_n 0, 1), (23, .sipush 131, 3), (26, .newarray .int, 2), (28, .putfield 18, 3), (31, .aload_n 0, 1), (32, .iconst 0, 1), (33, .putfield 21, 3), (36, .aload_n 0, 1), (37, .iconst 0, 1), (38, .putfield 25, 3), (41, .return_, 1)]
set_option maxRecDepth 100000 in
theorem pK_X9_init : q_Iok cX9_init pI_X9_init := ⟨by decide +kernel, by decide +kernel⟩
def pI_X9_clear : q_I := [(0, .aload_n 0, 1), (1, .iconst 0, 1), (2, .putfield 21, 3), (5, .aload_n 0, 1), (6, .iconst 0, 1), (7, .putfield 25, 3), (10, .return_, 1)]
set_option maxRecDepth 100000 in
theorem pK_X9_clear : q_Iok cX9_clear pI_X9_clear := ⟨by decide +kernel, by decide +kernel⟩
def pI_X9_add : q_I := [(0, .aload_n 0, 1), (1, .getfield 21, 3), (4, .ifCond .lt 55, 3), (7, .aload_n 0, 1), (8, .getfield 21, 3), (11, .aload_n 0, 1), (12, .getfield 9, 3), (15, .arraylength, 1), (16, .if_icmp .ge 43, 3), (19, .aload_n 0, 1), (20, .getfield 9, 3), (23, .aload_n 0, 1), (24, .getfield 21, 3), (27, .iload_n 1, 1), (28, .iastore, 1), (29, .aload_n 0, 1), (30, .getfield 15, 3), (33, .aload_n 0, 1), (34, .getfield 21, 3), (37, .iload_n 2, 1), (38, .iastore, 1), (39, .aload_n 0, 1), (40, .getfield 18, 3), (43, .aload_n 0, 1), (44, .getfield 21, 3), (47, .iload_n 3, 1), (48, .iastore, 1), (49, .aload_n 0, 1), (50, .dup, 1), (51, .getfield 21, 3), (54, .iconst 1, 1), (55, .iadd, 1), (56, .putfield 21, 3), (59, .return_, 1)]
set_option maxRecDepth 100000 in
theorem pK_X9_add : q_Iok cX9_add pI_X9_add := ⟨by decide +kernel, by decide +kernel⟩
def pI_X9_nextKind : q_I := [(0, .aload_n 0, 1), (1, .getfield 25, 3), (4, .ifCond .lt 38, 3), (7, .aload_n 0, 1), (8, .getfield 25, 3), (11, .aload_n 0, 1), (12, .getfield 21, 3), (15, .if_icmp .ge 27, 3), (18, .aload_n 0, 1), (19, .getfield 25, 3), (22, .aload_n 0, 1), (23, .getfield 9, 3), (26, .arraylength, 1), (27, .if_icmp .ge 15, 3), (30, .aload_n 0, 1), (31, .getfield 9, 3), (34, .aload_n 0, 1), (35, .getfield 25, 3), (38, .iaload, 1), (39, .goto 6, 3), (42, .sipush 256, 3), (45, .ireturn, 1)]
set_option maxRecDepth 100000 in
theorem pK_X9_nextKind : q_Iok cX9_nextKind pI_X9_nextKind := ⟨by decide +kernel, by decide +kernel⟩
def pI_X9_nextPlace : q_I := [(0, .aload_n 0, 1), (1, .getfield 25, 3), (4, .ifCond .lt 38, 3), (7, .aload_n 0, 1), (8, .getfield 25, 3), (11, .aload_n 0, 1), (12, .getfield 21, 3), (15, .if_icmp .ge 27, 3), (18, .aload_n 0, 1), (19, .getfield 25, 3), (22, .aload_n 0, 1), (23, .getfield 15, 3), (26, .arraylength, 1), (27, .if_icmp .ge 15, 3), (30, .aload_n 0, 1), (31, .getfield 15, 3), (34, .aload_n 0, 1), (35, .getfield 25, 3), (38, .iaload, 1), (39, .goto 4, 3), (42, .iconst 0, 1), (43, .ireturn, 1)]
set_option maxRecDepth 100000 in
theorem pK_X9_nextPlace : q_Iok cX9_nextPlace pI_X9_nextPlace := ⟨by decide +kernel, by decide +kernel⟩
def pI_X9_nextNumber : q_I := [(0, .aload_n 0, 1), (1, .getfield 25, 3), (4, .ifCond .lt 38, 3), (7, .aload_n 0, 1), (8, .getfield 25, 3), (11, .aload_n 0, 1), (12, .getfield 21, 3), (15, .if_icmp .ge 27, 3), (18, .aload_n 0, 1), (19, .getfield 25, 3), (22, .aload_n 0, 1), (23, .getfield 18, 3), (26, .arraylength, 1), (27, .if_icmp .ge 15, 3), (30, .aload_n 0, 1), (31, .getfield 18, 3), (34, .aload_n 0, 1), (35, .getfield 25, 3), (38, .iaload, 1), (39, .goto 4, 3), (42, .iconst 0, 1), (43, .ireturn, 1)]
set_option maxRecDepth 100000 in
theorem pK_X9_nextNumber : q_Iok cX9_nextNumber pI_X9_nextNumber := ⟨by decide +kernel, by decide +kernel⟩
def pI_X9_advance : q_I := [(0, .aload_n 0, 1), (1, .getfield 25, 3), (4, .aload_n 0, 1), (5, .getfield 21, 3), (8, .iconst 1, 1), (9, .isub, 1), (10, .if_icmp .ge 13, 3), (13, .aload_n 0, 1), (14, .dup, 1), (15, .getfield 25, 3), (18, .iconst 1, 1), (19, .iadd, 1), (20, .putfield 25, 3), (23, .return_, 1)]
set_option maxRecDepth 100000 in
theorem pK_X9_advance : q_Iok cX9_advance pI_X9_advance := ⟨by decide +kernel, by decide +kernel⟩
def pI_X9_take : q_I := [(0, .aload_n 0, 1), (1, .invokevirtual 28, 3), (4, .iload_n 1, 1), (5, .if_icmp .eq 5, 3), (8, .iconst 0, 1), (9, .ireturn, 1), (10, .aload_n 0, 1), (11, .invokevirtual 32, 3), (14, .iconst 1, 1), (15, .ireturn, 1)]
set_option maxRecDepth 100000 in
theorem pK_X9_take : q_Iok cX9_take pI_X9_take := ⟨by decide +kernel, by decide +kernel⟩
def pI_X10_init : q_I := [(0, .aload_n 0, 1), (1, .invokespecial 3, 3), (4, .aload_n 0, 1), (5, .iconst 4, 1), (6, .newarray .int, 2), (8, .putfield 9, 3), (11, .aload_n 0, 1), (12, .iconst 4, 1), (13, .newarray .boolean, 2), (15, .putfield 15, 3), (18, .aload_n 0, 1), (19, .iconst 0, 1), (20, .putfield 19, 3), (23, .return_, 1)]
set_option maxRecDepth 100000 in
theorem pK_X10_init : q_Iok cX10_init pI_X10_init := ⟨by decide +kernel, by decide +kernel⟩
def pI_X10_size : q_I := [(0, .aload_n 0, 1), (1, .getfield 19, 3), (4, .ireturn, 1)]
set_option maxRecDepth 100000 in
theorem pK_X10_size : q_Iok cX10_size pI_X10_size := ⟨by decide +kernel, by decide +kernel⟩
def pI_X10_clear : q_I := [(0, .aload_n 0, 1), (1, .iconst 0, 1), (2, .putfield 19, 3), (5, .return_, 1)]
set_option maxRecDepth 100000 in
theorem pK_X10_clear : q_Iok cX10_clear pI_X10_clear := ⟨by decide +kernel, by decide +kernel⟩
def pI_X10_put : q_I := [(0, .aload_n 0, 1), (1, .getfield 19, 3), (4, .ifCond .lt 11, 3), (7, .aload_n 0, 1), (8, .getfield 19, 3), (11, .iconst 4, 1), (12, .if_icmp .lt 5, 3), (15, .iconst 0, 1), (16, .ireturn, 1), (17, .aload_n 0, 1), (18, .getfield 9, 3), (21, .aload_n 0, 1), (22, .getfield 19, 3), (25, .iload_n 1, 1), (26, .iastore, 1), (27, .aload_n 0, 1), (28, .getfield 15, 3), (31, .aload_n 0, 1), (32, .getfield 19, 3), (35, .iload_n 2, 1), (36, .bastore, 1), (37, .aload_n 0, 1), (38, .dup, 1), (39, .getfield 19, 3), (42, .iconst 1, 1), (43, .iadd, 1), (44, .putfield 19, 3), (47, .iconst 1, 1), (48, .ireturn, 1)]
set_option maxRecDepth 100000 in
theorem pK_X10_put : q_Iok cX10_put pI_X10_put := ⟨by decide +kernel, by decide +kernel⟩
def pI_X10_numberAt : q_I := [(0, .iload_n 1, 1), (1, .ifCond .lt 17, 3), (4, .iload_n 1, 1), (5, .iconst 4, 1), (6, .if_icmp .ge 12, 3), (9, .aload_n 0, 1), (10, .getfield 9, 3), (13, .iload_n 1, 1), (14, .iaload, 1), (15, .goto 4, 3), (18, .iconst 0, 1), (19, .ireturn, 1)]
set_option maxRecDepth 100000 in
theorem pK_X10_numberAt : q_Iok cX10_numberAt pI_X10_numberAt := ⟨by decide +kernel, by decide +kernel⟩
def pI_X10_unknownAt : q_I := [(0, .iload_n 1, 1), (1, .ifCond .lt 21, 3), (4, .iload_n 1, 1), (5, .iconst 4, 1), (6, .if_icmp .ge 16, 3), (9, .aload_n 0, 1), (10, .getfield 15, 3), (13, .iload_n 1, 1), (14, .baload, 1), (15, .ifCond .eq 7, 3), (18, .iconst 1, 1), (19, .goto 4, 3), (22, .iconst 0, 1), (23, .ireturn, 1)]
set_option maxRecDepth 100000 in
theorem pK_X10_unknownAt : q_Iok cX10_unknownAt pI_X10_unknownAt := ⟨by decide +kernel, by decide +kernel⟩
def pI_X11_init : q_I := [(0, .aload_n 0, 1), (1, .invokespecial 1, 3), (4, .aload_n 0, 1), (5, .new 7, 3), (8, .dup, 1), (9, .invokespecial 9, 3), (12, .putfield 10, 3), (15, .aload_n 0, 1), (16, .new 16, 3), (19, .dup, 1), (20, .invokespecial 18, 3), (23, .putfield 19, 3), (26, .aload_n 0, 1), (27, .new 23, 3), (30, .dup, 1), (31, .invokespecial 25, 3), (34, .putfield 26, 3), (37, .aload_n 0, 1), (38, .new 30, 3), (41, .dup, 1), (42, .invokespecial 32, 3), (45, .putfield 33, 3), (48, .aload_n 0, 1), (49, .new 37, 3), (52, .dup, 1), (53, .invokespecial 39, 3), (56, .putfield 40, 3), (59, .aload_n 0, 1), (60, .new 44, 3), (63, .dup, 1), (64, .aload_n 0, 1), (65, .getfield 33, 3), (68, .aload_n 0, 1), (69, .getfield 40, 3), (72, .invokespecial 46, 3), (75, .putfield 49, 3), (78, .aload_n 0, 1), (79, .new 53, 3), (82, .dup, 1), (83, .aload_n 0, 1), (84, .getfield 40, 3), (87, .aload_n 0, 1), (88, .getfield 10, 3), (91, .invokespecial 55, 3), (94, .putfield 58, 3), (97, .aload_n 0, 1), (98, .new 62, 3), (101, .dup, 1), (102, .invokespecial 64, 3), (105, .putfield 65, 3), (108, .aload_n 0, 1), (109, .new 69, 3), (112, .dup, 1), (113, .aload_n 0, 1), (114, .getfield 40, 3), (117, .aload_n 0, 1), (118, .getfield 10, 3), (121, .aload_n 0, 1), (122, .getfield 65, 3), (125, .invokespecial 71, 3), (128, .putfield 74, 3), (131, .aload_n 0, 1), (132, .iconst 0, 1), (133, .putfield 78, 3), (136, .aload_n 0, 1), (137, .iconst (-1), 1), (138, .putfield 82, 3), (141, .return_, 1)]
set_option maxRecDepth 100000 in
theorem pK_X11_init : q_Iok cX11_init pI_X11_init := ⟨by decide +kernel, by decide +kernel⟩
def pI_X11_declare : q_I := [(0, .aload_n 0, 1), (1, .getfield 10, 3), (4, .iload_n 1, 1), (5, .iload_n 2, 1), (6, .invokevirtual 86, 3), (9, .ifCond .ne 5, 3), (12, .iconst 0, 1), (13, .ireturn, 1), (14, .aload_n 0, 1), (15, .getfield 40, 3), (18, .iload_n 1, 1), (19, .invokevirtual 90, 3), (22, .ifCond .eq 8, 3), (25, .aload_n 0, 1), (26, .iconst 0, 1), (27, .putfield 78, 3), (30, .iconst 1, 1), (31, .ireturn, 1)]
set_option maxRecDepth 100000 in
theorem pK_X11_declare : q_Iok cX11_declare pI_X11_declare := ⟨by decide +kernel, by decide +kernel⟩
def pI_X11_value : q_I := [(0, .aload_n 0, 1), (1, .getfield 19, 3), (4, .iload_n 1, 1), (5, .iconst 0, 1), (6, .invokevirtual 94, 3), (9, .ireturn, 1)]
set_option maxRecDepth 100000 in
theorem pK_X11_value : q_Iok cX11_value pI_X11_value := ⟨by decide +kernel, by decide +kernel⟩
def pI_X11_nothing : q_I := [(0, .aload_n 0, 1), (1, .getfield 19, 3), (4, .iconst 0, 1), (5, .iconst 1, 1), (6, .invokevirtual 94, 3), (9, .ireturn, 1)]
set_option maxRecDepth 100000 in
theorem pK_X11_nothing : q_Iok cX11_nothing pI_X11_nothing := ⟨by decide +kernel, by decide +kernel⟩
def pI_X11_row : q_I := [(0, .aload_n 0, 1), (1, .getfield 10, 3), (4, .iload_n 1, 1), (5, .invokevirtual 98, 3), (8, .istore_n 2, 1), (9, .iload_n 2, 1), (10, .ifCond .le 18, 3), (13, .iload_n 2, 1), (14, .aload_n 0, 1), (15, .getfield 19, 3), (18, .invokevirtual 102, 3), (21, .if_icmp .ne 7, 3), (24, .iconst 1, 1), (25, .goto 4, 3), (28, .iconst 0, 1), (29, .istore_n 3, 1), (30, .aload_n 0, 1), (31, .getfield 10, 3), (34, .iload_n 1, 1), (35, .invokevirtual 106, 3), (38, .bipush 10, 2), (40, .if_icmp .lt 7, 3), (43, .iconst 1, 1), (44, .goto 4, 3), (47, .iconst 0, 1), (48, .istore 4, 2), (50, .iload_n 3, 1), (51, .ifCond .eq 20, 3), (54, .iload 4, 2), (56, .ifCond .ne 15, 3), (59, .aload_n 0, 1), (60, .getfield 10, 3), (63, .iload_n 1, 1), (64, .aload_n 0, 1), (65, .getfield 19, 3), (68, .invokevirtual 109, 3), (71, .aload_n 0, 1), (72, .getfield 19, 3), (75, .invokevirtual 113, 3), (78, .iload_n 3, 1), (79, .ifCond .ne 13, 3), (82, .new 116, 3), (85, .dup, 1), (86, .ldc 118, 2), (88, .invokespecial 120, 3), (91, .athrow, 1), (92, .iload 4, 2), (94, .ifCond .eq 13, 3), (97, .new 123, 3), (100, .dup, 1), (101, .ldc 125, 2), (103, .invokespecial 127, 3), (106, .athrow, 1), (107, .aload_n 0, 1), (108, .getfield 10, 3), (111, .iload_n 1, 1), (112, .invokevirtual 106, 3), (115, .ireturn, 1)]
set_option maxRecDepth 100000 in
theorem pK_X11_row : q_Iok cX11_row pI_X11_row := ⟨by decide +kernel, by decide +kernel⟩
def pI_X11_drop : q_I := [(0, .aload_n 0, 1), (1, .getfield 10, 3), (4, .iload_n 1, 1), (5, .invokevirtual 128, 3), (8, .ireturn, 1)]
set_option maxRecDepth 100000 in
theorem pK_X11_drop : q_Iok cX11_drop pI_X11_drop := ⟨by decide +kernel, by decide +kernel⟩
def pI_X11_ask : q_I := [(0, .aload_n 0, 1), (1, .getfield 26, 3), (4, .iload_n 1, 1), (5, .invokevirtual 131, 3), (8, .ireturn, 1)]
set_option maxRecDepth 100000 in
theorem pK_X11_ask : q_Iok cX11_ask pI_X11_ask := ⟨by decide +kernel, by decide +kernel⟩
def pI_X11_compile : q_I := [(0, .aload_n 0, 1), (1, .getfield 26, 3), (4, .aload_n 0, 1), (5, .getfield 33, 3), (8, .invokevirtual 134, 3), (11, .aload_n 0, 1), (12, .getfield 26, 3), (15, .invokevirtual 138, 3), (18, .aload_n 0, 1), (19, .getfield 65, 3), (22, .iconst 0, 1), (23, .invokevirtual 139, 3), (26, .aload_n 0, 1), (27, .aload_n 0, 1), (28, .getfield 49, 3), (31, .invokevirtual 142, 3), (34, .ifCond .eq 13, 3), (37, .aload_n 0, 1), (38, .getfield 58, 3), (41, .invokevirtual 146, 3), (44, .goto 10, 3), (47, .aload_n 0, 1), (48, .getfield 33, 3), (51, .invokevirtual 149, 3), (54, .putfield 82, 3), (57, .aload_n 0, 1), (58, .aload_n 0, 1), (59, .getfield 82, 3), (62, .iconst (-1), 1), (63, .if_icmp .ne 7, 3), (66, .iconst 1, 1), (67, .goto 4, 3), (70, .iconst 0, 1), (71, .putfield 78, 3), (74, .aload_n 0, 1), (75, .getfield 78, 3), (78, .ifCond .ne 13, 3), (81, .new 116, 3), (84, .dup, 1), (85, .ldc 152, 2), (87, .invokespecial 120, 3), (90, .athrow, 1), (91, .aload_n 0, 1), (92, .getfield 40, 3), (95, .invokevirtual 154, 3), (98, .aload_n 0, 1), (99, .getfield 40, 3), (102, .invokevirtual 157, 3), (105, .ireturn, 1)]
set_option maxRecDepth 100000 in
theorem pK_X11_compile : q_Iok cX11_compile pI_X11_compile := ⟨by decide +kernel, by decide +kernel⟩
def pI_X11_place : q_I := [(0, .aload_n 0, 1), (1, .getfield 82, 3), (4, .ireturn, 1)]
set_option maxRecDepth 100000 in
theorem pK_X11_place : q_Iok cX11_place pI_X11_place := ⟨by decide +kernel, by decide +kernel⟩
def pI_X11_run : q_I := [(0, .aload_n 0, 1), (1, .getfield 78, 3), (4, .ifCond .ne 13, 3), (7, .new 123, 3), (10, .dup, 1), (11, .ldc 160, 2), (13, .invokespecial 127, 3), (16, .athrow, 1), (17, .aload_n 0, 1), (18, .getfield 74, 3), (21, .invokevirtual 162, 3), (24, .ifCond .ne 21, 3), (27, .aload_n 0, 1), (28, .getfield 65, 3), (31, .iconst 0, 1), (32, .invokevirtual 139, 3), (35, .new 165, 3), (38, .dup, 1), (39, .ldc 167, 2), (41, .invokespecial 169, 3), (44, .athrow, 1), (45, .aload_n 0, 1), (46, .getfield 65, 3), (49, .invokevirtual 170, 3), (52, .ireturn, 1)]
set_option maxRecDepth 100000 in
theorem pK_X11_run : q_Iok cX11_run pI_X11_run := ⟨by decide +kernel, by decide +kernel⟩
def pI_X11_looked : q_I := [(0, .aload_n 0, 1), (1, .getfield 74, 3), (4, .invokevirtual 172, 3), (7, .ireturn, 1)]
set_option maxRecDepth 100000 in
theorem pK_X11_looked : q_Iok cX11_looked pI_X11_looked := ⟨by decide +kernel, by decide +kernel⟩
def pI_X11_rows : q_I := [(0, .aload_n 0, 1), (1, .getfield 65, 3), (4, .invokevirtual 170, 3), (7, .ireturn, 1)]
set_option maxRecDepth 100000 in
theorem pK_X11_rows : q_Iok cX11_rows pI_X11_rows := ⟨by decide +kernel, by decide +kernel⟩
def pI_X11_isNull : q_I := [(0, .aload_n 0, 1), (1, .getfield 65, 3), (4, .iload_n 1, 1), (5, .iload_n 2, 1), (6, .invokevirtual 175, 3), (9, .ifCond .eq 19, 3), (12, .aload_n 0, 1), (13, .getfield 65, 3), (16, .iload_n 1, 1), (17, .iload_n 2, 1), (18, .invokevirtual 178, 3), (21, .ifCond .eq 7, 3), (24, .iconst 1, 1), (25, .goto 4, 3), (28, .iconst 0, 1), (29, .ireturn, 1)]
set_option maxRecDepth 100000 in
theorem pK_X11_isNull : q_Iok cX11_isNull pI_X11_isNull := ⟨by decide +kernel, by decide +kernel⟩
def pI_X11_result : q_I := [(0, .aload_n 0, 1), (1, .getfield 65, 3), (4, .iload_n 1, 1), (5, .iload_n 2, 1), (6, .invokevirtual 175, 3), (9, .ifCond .eq 15, 3), (12, .aload_n 0, 1), (13, .getfield 65, 3), (16, .iload_n 1, 1), (17, .iload_n 2, 1), (18, .invokevirtual 181, 3), (21, .goto 4, 3), (24, .lconst 0, 1), (25, .lreturn, 1)]
set_option maxRecDepth 100000 in
theorem pK_X11_result : q_Iok cX11_result pI_X11_result := ⟨by decide +kernel, by decide +kernel⟩
def pI_X11_get : q_I := [(0, .iload_n 1, 1), (1, .ifCond .lt 15, 3), (4, .iload_n 1, 1), (5, .aload_n 0, 1), (6, .arraylength, 1), (7, .if_icmp .ge 9, 3), (10, .aload_n 0, 1), (11, .iload_n 1, 1), (12, .iaload, 1), (13, .goto 4, 3), (16, .iconst (-1), 1), (17, .ireturn, 1)]
set_option maxRecDepth 100000 in
theorem pK_X11_get : q_Iok cX11_get pI_X11_get := ⟨by decide +kernel, by decide +kernel⟩
def pI_X12_init : q_I := [(0, .aload_n 0, 1), (1, .invokespecial 1, 3), (4, .aload_n 0, 1), (5, .bipush 16, 2), (7, .newarray .int, 2), (9, .dup, 1), (10, .iconst 0, 1), (11, .ldc 7, 2), (13, .iastore, 1), (14, .dup, 1), (15, .iconst 1, 1), (16, .ldc 8, 2), (18, .iastore, 1), (19, .dup, 1), (20, .iconst 2, 1), (21, .ldc 9, 2), (23, .iastore, 1), (24, .dup, 1), (25, .iconst 3, 1), (26, .ldc 10, 2), (28, .iastore, 1), (29, .dup, 1), (30, .iconst 4, 1), (31, .sipush 494, 3), (34, .iastore, 1), (35, .dup, 1), (36, .iconst 5, 1), (37, .ldc 11, 2), (39, .iastore, 1), (40, .dup, 1), (41, .bipush 6, 2), (43, .ldc 12, 2), (45, .iastore, 1), (46, .dup, 1), (47, .bipush 7, 2), (49, .ldc 13, 2), (51, .iastore, 1), (52, .dup, 1), (53, .bipush 8, 2), (55, .sipush 20141, 3), (58, .iastore, 1), (59, .dup, 1), (60, .bipush 9, 2), (62, .sipush 13614, 3), (65, .iastore, 1), (66, .dup, 1), (67, .bipush 10, 2), (69, .sipush 13368, 3), (72, .iastore, 1), (73, .dup, 1), (74, .bipush 11, 2), (76, .sipush 498, 3), (79, .iastore, 1), (80, .dup, 1), (81, .bipush 12, 2), (83, .sipush 1476, 3), (86, .iastore, 1), (87, .dup, 1), (88, .bipush 13, 2), (90, .sipush 14836, 3), (93, .iastore, 1), (94, .dup, 1), (95, .bipush 14, 2), (97, .sipush 307, 3), (100, .iastore, 1), (101, .dup, 1), (102, .bipush 15, 2), (104, .ldc 14, 2), (106, .iastore, 1), (107, .putfield 15, 3), (110, .aload_n 0, 1), (111, .iconst 3, 1), (112, .newarray .int, 2), (114, .putfield 21, 3), (117, .aload_n 0, 1), (118, .iconst 3, 1), (119, .newarray .int, 2), (121, .putfield 24, 3), (124, .aload_n 0, 1), (125, .bipush 120, 2), (127, .newarray .int, 2), (129, .putfield 27, 3), (132, .aload_n 0, 1), (133, .bipush 120, 2), (135, .newarray .boolean, 2), (137, .putfield 30, 3), (140, .aload_n 0, 1), (141, .iconst 4, 1), (142, .newarray .int, 2), (144, .putfield 34, 3), (147, .aload_n 0, 1), (148, .iconst 4, 1), (149, .newarray .boolean, 2), (151, .putfield 37, 3), (154, .aload_n 0, 1), (155, .sipush 130, 3), (158, .newarray .char, 2), (160, .putfield 40, 3), (163, .aload_n 0, 1), (164, .iconst (-1), 1), (165, .putfield 44, 3), (168, .aload_n 0, 1), (169, .sipush 132, 3), (172, .newarray .int, 2), (174, .putfield 48, 3), (177, .aload_n 0, 1), (178, .sipush 132, 3), (181, .newarray .int, 2), (183, .putfield 51, 3), (186, .aload_n 0, 1), (187, .sipush 132, 3), (190, .newarray .int, 2), (192, .putfield 54, 3), (195, .aload_n 0, 1), (196, .bipush 8, 2), (198, .newarray .int, 2), (200, .putfield 57, 3), (203, .aload_n 0, 1), (204, .iconst 5, 1), (205, .newarray .int, 2), (207, .putfield 60, 3), (210, .aload_n 0, 1), (211, .iconst 5, 1), (212, .newarray .int, 2), (214, .putfield 63, 3), (217, .aload_n 0, 1), (218, .iconst 4, 1), (219, .newarray .int, 2), (221, .putfield 66, 3), (224, .aload_n 0, 1), (225, .iconst 4, 1), (226, .newarray .int, 2), (228, .putfield 69, 3), (231, .aload_n 0, 1), (232, .iconst 4, 1), (233, .newarray .boolean, 2), (235, .putfield 72, 3), (238, .aload_n 0, 1), (239, .iconst 4, 1), (240, .newarray .int, 2), (242, .putfield 75, 3), (245, .aload_n 0, 1), (246, .iconst 4, 1), (247, .newarray .int, 2), (249, .putfield 78, 3), (252, .aload_n 0, 1), (253, .iconst 4, 1), (254, .newarray .int, 2), (256, .putfield 81, 3), (259, .aload_n 0, 1), (260, .bipush 40, 2), (262, .newarray .int, 2), (264, .putfield 84, 3), (267, .aload_n 0, 1), (268, .bipush 40, 2), (270, .newarray .int, 2), (272, .putfield 87, 3), (275, .aload_n 0, 1), (276, .bipush 40, 2), (278, .newarray .int, 2), (280, .putfield 90, 3), (283, .aload_n 0, 1), (284, .bipush 8, 2), (286, .newarray .int, 2), (288, .putfield 93, 3), (291, .aload_n 0, 1), (292, .bipush 8, 2), (294, .newarray .int, 2), (296, .putfield 96, 3), (299, .aload_n 0, 1), (300, .bipush 8, 2), (302, .newarray .int, 2), (304, .putfield 99, 3), (307, .aload_n 0, 1), (308, .iconst 3, 1), (309, .newarray .int, 2), (311, .putfield 102, 3), (314, .aload_n 0, 1), (315, .bipush 120, 2), (317, .newarray .boolean, 2), (319, .putfield 105, 3), (322, .aload_n 0, 1), (323, .bipush 120, 2), (325, .newarray .long, 2), (327, .putfield 108, 3), (330, .aload_n 0, 1), (331, .bipush 90, 2), (333, .newarray .boolean, 2), (335, .putfield 112, 3), (338, .aload_n 0, 1), (339, .bipush 90, 2), (341, .newarray .int, 2), (343, .putfield 115, 3), (346, .return_, 1)]
set_option maxRecDepth 100000 in
theorem pK_X12_init : q_Iok cX12_init pI_X12_init := ⟨by decide +kernel, by decide +kernel⟩
end
section
def pI_X12_thrown : q_I := [(0, .aload_n 0, 1), (1, .getfield 118, 3), (4, .ireturn, 1)]
set_option maxRecDepth 100000 in
theorem pK_X12_thrown : q_Iok cX12_thrown pI_X12_thrown := ⟨by decide +kernel, by decide +kernel⟩
def pI_X12_fail : q_I := [(0, .aload_n 0, 1), (1, .iload_n 1, 1), (2, .putfield 118, 3), (5, .iconst 0, 1), (6, .ireturn, 1)]
set_option maxRecDepth 100000 in
theorem pK_X12_fail : q_Iok cX12_fail pI_X12_fail := ⟨by decide +kernel, by decide +kernel⟩
def pI_X12_isTable : q_I := [(0, .iload_n 1, 1), (1, .ifCond .lt 21, 3), (4, .iload_n 1, 1), (5, .iconst 3, 1), (6, .if_icmp .ge 16, 3), (9, .aload_n 0, 1), (10, .getfield 21, 3), (13, .iload_n 1, 1), (14, .iaload, 1), (15, .ifCond .le 7, 3), (18, .iconst 1, 1), (19, .goto 4, 3), (22, .iconst 0, 1), (23, .ireturn, 1)]
set_option maxRecDepth 100000 in
theorem pK_X12_isTable : q_Iok cX12_isTable pI_X12_isTable := ⟨by decide +kernel, by decide +kernel⟩
def pI_X12_declare : q_I := [(0, .aload_n 0, 1), (1, .iconst 0, 1), (2, .putfield 118, 3), (5, .iload_n 1, 1), (6, .ifCond .lt 18, 3), (9, .iload_n 1, 1), (10, .iconst 2, 1), (11, .if_icmp .gt 13, 3), (14, .iload_n 2, 1), (15, .iconst 1, 1), (16, .if_icmp .lt 8, 3), (19, .iload_n 2, 1), (20, .iconst 4, 1), (21, .if_icmp .le 5, 3), (24, .iconst 0, 1), (25, .ireturn, 1), (26, .aload_n 0, 1), (27, .getfield 21, 3), (30, .iload_n 1, 1), (31, .iload_n 2, 1), (32, .iastore, 1), (33, .aload_n 0, 1), (34, .getfield 24, 3), (37, .iload_n 1, 1), (38, .iconst 0, 1), (39, .iastore, 1), (40, .iconst 0, 1), (41, .istore_n 3, 1), (42, .iload_n 3, 1), (43, .aload_n 0, 1), (44, .getfield 121, 3), (47, .if_icmp .ge 24, 3), (50, .aload_n 0, 1), (51, .getfield 66, 3), (54, .iload_n 3, 1), (55, .iaload, 1), (56, .iload_n 1, 1), (57, .if_icmp .ne 8, 3), (60, .aload_n 0, 1), (61, .iconst 0, 1), (62, .putfield 124, 3), (65, .iinc 3 1, 3), (68, .goto (-26), 3), (71, .iconst 1, 1), (72, .ireturn, 1)]
set_option maxRecDepth 100000 in
theorem pK_X12_declare : q_Iok cX12_declare pI_X12_declare := ⟨by decide +kernel, by decide +kernel⟩
def pI_X12_put : q_I := [(0, .aload_n 0, 1), (1, .getfield 128, 3), (4, .iconst 4, 1), (5, .if_icmp .ne 5, 3), (8, .iconst 0, 1), (9, .ireturn, 1), (10, .aload_n 0, 1), (11, .getfield 34, 3), (14, .aload_n 0, 1), (15, .getfield 128, 3), (18, .iload_n 1, 1), (19, .iastore, 1), (20, .aload_n 0, 1), (21, .getfield 37, 3), (24, .aload_n 0, 1), (25, .getfield 128, 3), (28, .iload_n 2, 1), (29, .bastore, 1), (30, .aload_n 0, 1), (31, .dup, 1), (32, .getfield 128, 3), (35, .iconst 1, 1), (36, .iadd, 1), (37, .putfield 128, 3), (40, .iconst 1, 1), (41, .ireturn, 1)]
set_option maxRecDepth 100000 in
theorem pK_X12_put : q_Iok cX12_put pI_X12_put := ⟨by decide +kernel, by decide +kernel⟩
def pI_X12_value : q_I := [(0, .aload_n 0, 1), (1, .iconst 0, 1), (2, .putfield 118, 3), (5, .aload_n 0, 1), (6, .iload_n 1, 1), (7, .iconst 0, 1), (8, .invokevirtual 131, 3), (11, .ireturn, 1)]
set_option maxRecDepth 100000 in
theorem pK_X12_value : q_Iok cX12_value pI_X12_value := ⟨by decide +kernel, by decide +kernel⟩
def pI_X12_nothing : q_I := [(0, .aload_n 0, 1), (1, .iconst 0, 1), (2, .putfield 118, 3), (5, .aload_n 0, 1), (6, .iconst 0, 1), (7, .iconst 1, 1), (8, .invokevirtual 131, 3), (11, .ireturn, 1)]
set_option maxRecDepth 100000 in
theorem pK_X12_nothing : q_Iok cX12_nothing pI_X12_nothing := ⟨by decide +kernel, by decide +kernel⟩
def pI_X12_row : q_I := [(0, .aload_n 0, 1), (1, .iconst 0, 1), (2, .putfield 118, 3), (5, .aload_n 0, 1), (6, .getfield 128, 3), (9, .istore_n 2, 1), (10, .aload_n 0, 1), (11, .iconst 0, 1), (12, .putfield 128, 3), (15, .aload_n 0, 1), (16, .iload_n 1, 1), (17, .invokevirtual 135, 3), (20, .ifCond .ne 9, 3), (23, .aload_n 0, 1), (24, .iconst 1, 1), (25, .invokevirtual 139, 3), (28, .ireturn, 1), (29, .aload_n 0, 1), (30, .getfield 21, 3), (33, .iload_n 1, 1), (34, .iaload, 1), (35, .iload_n 2, 1), (36, .if_icmp .eq 9, 3), (39, .aload_n 0, 1), (40, .iconst 1, 1), (41, .invokevirtual 139, 3), (44, .ireturn, 1), (45, .aload_n 0, 1), (46, .getfield 24, 3), (49, .iload_n 1, 1), (50, .iaload, 1), (51, .bipush 10, 2), (53, .if_icmp .ne 9, 3), (56, .aload_n 0, 1), (57, .iconst 2, 1), (58, .invokevirtual 139, 3), (61, .ireturn, 1), (62, .iconst 0, 1), (63, .istore_n 3, 1), (64, .iload_n 3, 1), (65, .iload_n 2, 1), (66, .if_icmp .ge 61, 3), (69, .aload_n 0, 1), (70, .getfield 27, 3), (73, .bipush 40, 2), (75, .iload_n 1, 1), (76, .imul, 1), (77, .iconst 4, 1), (78, .aload_n 0, 1), (79, .getfield 24, 3), (82, .iload_n 1, 1), (83, .iaload, 1), (84, .imul, 1), (85, .iadd, 1), (86, .iload_n 3, 1), (87, .iadd, 1), (88, .aload_n 0, 1), (89, .getfield 34, 3), (92, .iload_n 3, 1), (93, .iaload, 1), (94, .iastore, 1), (95, .aload_n 0, 1), (96, .getfield 30, 3), (99, .bipush 40, 2), (101, .iload_n 1, 1), (102, .imul, 1), (103, .iconst 4, 1), (104, .aload_n 0, 1), (105, .getfield 24, 3), (108, .iload_n 1, 1), (109, .iaload, 1), (110, .imul, 1), (111, .iadd, 1), (112, .iload_n 3, 1), (113, .iadd, 1), (114, .aload_n 0, 1), (115, .getfield 37, 3), (118, .iload_n 3, 1), (119, .baload, 1), (120, .bastore, 1), (121, .iinc 3 1, 3), (124, .goto (-60), 3), (127, .aload_n 0, 1), (128, .getfield 24, 3), (131, .iload_n 1, 1), (132, .dup2, 1), (133, .iaload, 1), (134, .iconst 1, 1), (135, .iadd, 1), (136, .iastore, 1), (137, .aload_n 0, 1), (138, .getfield 24, 3), (141, .iload_n 1, 1), (142, .iaload, 1), (143, .ireturn, 1)]
set_option maxRecDepth 100000 in
theorem pK_X12_row : q_Iok cX12_row pI_X12_row := ⟨by decide +kernel, by decide +kernel⟩
def pI_X12_drop : q_I := [(0, .aload_n 0, 1), (1, .iconst 0, 1), (2, .putfield 118, 3), (5, .aload_n 0, 1), (6, .iload_n 1, 1), (7, .invokevirtual 135, 3), (10, .ifCond .ne 5, 3), (13, .iconst (-1), 1), (14, .ireturn, 1), (15, .aload_n 0, 1), (16, .getfield 24, 3), (19, .iload_n 1, 1), (20, .iaload, 1), (21, .ifCond .ne 5, 3), (24, .iconst (-1), 1), (25, .ireturn, 1), (26, .aload_n 0, 1), (27, .getfield 24, 3), (30, .iload_n 1, 1), (31, .dup2, 1), (32, .iaload, 1), (33, .iconst 1, 1), (34, .isub, 1), (35, .iastore, 1), (36, .bipush 40, 2), (38, .iload_n 1, 1), (39, .imul, 1), (40, .istore_n 2, 1), (41, .iload_n 2, 1), (42, .bipush 40, 2), (44, .iload_n 1, 1), (45, .imul, 1), (46, .iconst 4, 1), (47, .aload_n 0, 1), (48, .getfield 24, 3), (51, .iload_n 1, 1), (52, .iaload, 1), (53, .imul, 1), (54, .iadd, 1), (55, .if_icmp .ge 37, 3), (58, .aload_n 0, 1), (59, .getfield 27, 3), (62, .iload_n 2, 1), (63, .aload_n 0, 1), (64, .getfield 27, 3), (67, .iload_n 2, 1), (68, .iconst 4, 1), (69, .iadd, 1), (70, .iaload, 1), (71, .iastore, 1), (72, .aload_n 0, 1), (73, .getfield 30, 3), (76, .iload_n 2, 1), (77, .aload_n 0, 1), (78, .getfield 30, 3), (81, .iload_n 2, 1), (82, .iconst 4, 1), (83, .iadd, 1), (84, .baload, 1), (85, .bastore, 1), (86, .iinc 2 1, 3), (89, .goto (-48), 3), (92, .aload_n 0, 1), (93, .getfield 24, 3), (96, .iload_n 1, 1), (97, .iaload, 1), (98, .ireturn, 1)]
set_option maxRecDepth 100000 in
theorem pK_X12_drop : q_Iok cX12_drop pI_X12_drop := ⟨by decide +kernel, by decide +kernel⟩
def pI_X12_ask : q_I := [(0, .aload_n 0, 1), (1, .iconst 0, 1), (2, .putfield 118, 3), (5, .iload_n 1, 1), (6, .bipush 32, 2), (8, .if_icmp .lt 19, 3), (11, .iload_n 1, 1), (12, .bipush 126, 2), (14, .if_icmp .gt 13, 3), (17, .aload_n 0, 1), (18, .getfield 143, 3), (21, .sipush 130, 3), (24, .if_icmp .ne 5, 3), (27, .iconst 0, 1), (28, .ireturn, 1), (29, .aload_n 0, 1), (30, .getfield 40, 3), (33, .aload_n 0, 1), (34, .getfield 143, 3), (37, .iload_n 1, 1), (38, .castore, 1), (39, .aload_n 0, 1), (40, .dup, 1), (41, .getfield 143, 3), (44, .iconst 1, 1), (45, .iadd, 1), (46, .putfield 143, 3), (49, .iconst 1, 1), (50, .ireturn, 1)]
set_option maxRecDepth 100000 in
theorem pK_X12_ask : q_Iok cX12_ask pI_X12_ask := ⟨by decide +kernel, by decide +kernel⟩
def pI_X12_at : q_I := [(0, .iload_n 1, 1), (1, .aload_n 0, 1), (2, .getfield 143, 3), (5, .if_icmp .ge 12, 3), (8, .aload_n 0, 1), (9, .getfield 40, 3), (12, .iload_n 1, 1), (13, .caload, 1), (14, .goto 4, 3), (17, .iconst 0, 1), (18, .ireturn, 1)]
set_option maxRecDepth 100000 in
theorem pK_X12_at : q_Iok cX12_at pI_X12_at := ⟨by decide +kernel, by decide +kernel⟩
def pI_X12_isSmall : q_I := [(0, .iload_n 0, 1), (1, .bipush 97, 2), (3, .if_icmp .lt 13, 3), (6, .iload_n 0, 1), (7, .bipush 122, 2), (9, .if_icmp .gt 7, 3), (12, .iconst 1, 1), (13, .goto 4, 3), (16, .iconst 0, 1), (17, .ireturn, 1)]
set_option maxRecDepth 100000 in
theorem pK_X12_isSmall : q_Iok cX12_isSmall pI_X12_isSmall := ⟨by decide +kernel, by decide +kernel⟩
def pI_X12_isDigit : q_I := [(0, .iload_n 0, 1), (1, .bipush 48, 2), (3, .if_icmp .lt 13, 3), (6, .iload_n 0, 1), (7, .bipush 57, 2), (9, .if_icmp .gt 7, 3), (12, .iconst 1, 1), (13, .goto 4, 3), (16, .iconst 0, 1), (17, .ireturn, 1)]
set_option maxRecDepth 100000 in
theorem pK_X12_isDigit : q_Iok cX12_isDigit pI_X12_isDigit := ⟨by decide +kernel, by decide +kernel⟩
def pI_X12_stop : q_I := [(0, .aload_n 0, 1), (1, .getfield 146, 3), (4, .ifCond .ne 8, 3), (7, .aload_n 0, 1), (8, .iload_n 1, 1), (9, .putfield 149, 3), (12, .aload_n 0, 1), (13, .iconst 1, 1), (14, .putfield 146, 3), (17, .return_, 1)]
set_option maxRecDepth 100000 in
theorem pK_X12_stop : q_Iok cX12_stop pI_X12_stop := ⟨by decide +kernel, by decide +kernel⟩
def pI_X12_readWord : q_I := [(0, .iconst 0, 1), (1, .istore_n 1, 1), (2, .iconst 0, 1), (3, .istore_n 2, 1), (4, .aload_n 0, 1), (5, .aload_n 0, 1), (6, .getfield 152, 3), (9, .invokevirtual 155, 3), (12, .invokestatic 159, 3), (15, .ifCond .eq 46, 3), (18, .iload_n 1, 1), (19, .bipush 6, 2), (21, .if_icmp .ge 22, 3), (24, .iload_n 2, 1), (25, .bipush 32, 2), (27, .imul, 1), (28, .aload_n 0, 1), (29, .aload_n 0, 1), (30, .getfield 152, 3), (33, .invokevirtual 155, 3), (36, .iadd, 1), (37, .bipush 96, 2), (39, .isub, 1), (40, .goto 4, 3), (43, .iconst 0, 1), (44, .istore_n 2, 1), (45, .aload_n 0, 1), (46, .dup, 1), (47, .getfield 152, 3), (50, .iconst 1, 1), (51, .iadd, 1), (52, .putfield 152, 3), (55, .iinc 1 1, 3), (58, .goto (-54), 3), (61, .iload_n 1, 1), (62, .iconst 1, 1), (63, .if_icmp .ne 18, 3), (66, .iload_n 2, 1), (67, .bipush 23, 2), (69, .if_icmp .lt 12, 3), (72, .sipush 220, 3), (75, .iload_n 2, 1), (76, .iadd, 1), (77, .bipush 23, 2), (79, .isub, 1), (80, .ireturn, 1), (81, .iload_n 1, 1), (82, .iconst 1, 1), (83, .if_icmp .ne 16, 3), (86, .iload_n 2, 1), (87, .iconst 4, 1), (88, .if_icmp .gt 11, 3), (91, .sipush 230, 3), (94, .iload_n 2, 1), (95, .iadd, 1), (96, .iconst 1, 1), (97, .isub, 1), (98, .ireturn, 1), (99, .iconst 0, 1), (100, .istore_n 3, 1), (101, .iload_n 3, 1), (102, .bipush 16, 2), (104, .if_icmp .ge 31, 3), (107, .iload_n 1, 1), (108, .bipush 7, 2), (110, .if_icmp .ge 19, 3), (113, .aload_n 0, 1), (114, .getfield 15, 3), (117, .iload_n 3, 1), (118, .iaload, 1), (119, .iload_n 2, 1), (120, .if_icmp .ne 9, 3), (123, .sipush 200, 3), (126, .iload_n 3, 1), (127, .iadd, 1), (128, .ireturn, 1), (129, .iinc 3 1, 3), (132, .goto (-31), 3), (135, .sipush 240, 3), (138, .ireturn, 1)]
set_option maxRecDepth 100000 in
theorem pK_X12_readWord : q_Iok cX12_readWord pI_X12_readWord := ⟨by decide +kernel, by decide +kernel⟩
def pI_X12_readNumeral : q_I := [(0, .aload_n 0, 1), (1, .aload_n 0, 1), (2, .getfield 152, 3), (5, .invokevirtual 155, 3), (8, .bipush 45, 2), (10, .if_icmp .ne 7, 3), (13, .iconst 1, 1), (14, .goto 4, 3), (17, .iconst 0, 1), (18, .istore_n 2, 1), (19, .iload_n 2, 1), (20, .ifCond .eq 13, 3), (23, .aload_n 0, 1), (24, .dup, 1), (25, .getfield 152, 3), (28, .iconst 1, 1), (29, .iadd, 1), (30, .putfield 152, 3), (33, .iconst 0, 1), (34, .istore_n 3, 1), (35, .iconst 0, 1), (36, .istore 4, 2), (38, .aload_n 0, 1), (39, .aload_n 0, 1), (40, .getfield 152, 3), (43, .invokevirtual 155, 3), (46, .invokestatic 163, 3), (49, .ifCond .eq 47, 3), (52, .iload 4, 2), (54, .bipush 6, 2), (56, .if_icmp .ge 22, 3), (59, .bipush 10, 2), (61, .iload_n 3, 1), (62, .imul, 1), (63, .aload_n 0, 1), (64, .aload_n 0, 1), (65, .getfield 152, 3), (68, .invokevirtual 155, 3), (71, .iadd, 1), (72, .bipush 48, 2), (74, .isub, 1), (75, .goto 4, 3), (78, .iload_n 3, 1), (79, .istore_n 3, 1), (80, .aload_n 0, 1), (81, .dup, 1), (82, .getfield 152, 3), (85, .iconst 1, 1), (86, .iadd, 1), (87, .putfield 152, 3), (90, .iinc 4 1, 3), (93, .goto (-55), 3), (96, .iload 4, 2), (98, .ifCond .eq 10, 3), (101, .iload 4, 2), (103, .bipush 6, 2), (105, .if_icmp .le 8, 3), (108, .aload_n 0, 1), (109, .iload_n 1, 1), (110, .invokevirtual 166, 3), (113, .aload_n 0, 1), (114, .getfield 54, 3), (117, .aload_n 0, 1), (118, .getfield 170, 3), (121, .iload_n 2, 1), (122, .ifCond .eq 8, 3), (125, .iload_n 3, 1), (126, .ineg, 1), (127, .goto 4, 3), (130, .iload_n 3, 1), (131, .iastore, 1), (132, .iconst 1, 1), (133, .ireturn, 1)]
set_option maxRecDepth 100000 in
theorem pK_X12_readNumeral : q_Iok cX12_readNumeral pI_X12_readNumeral := ⟨by decide +kernel, by decide +kernel⟩
def pI_X12_look : q_I := [(0, .aload_n 0, 1), (1, .getfield 173, 3), (4, .aload_n 0, 1), (5, .getfield 170, 3), (8, .if_icmp .lt 10, 3), (11, .aload_n 0, 1), (12, .getfield 146, 3), (15, .ifCond .eq 28, 3), (18, .aload_n 0, 1), (19, .getfield 173, 3), (22, .aload_n 0, 1), (23, .getfield 170, 3), (26, .if_icmp .ge 15, 3), (29, .aload_n 0, 1), (30, .getfield 48, 3), (33, .aload_n 0, 1), (34, .getfield 173, 3), (37, .iaload, 1), (38, .goto 4, 3), (41, .iconst 0, 1), (42, .ireturn, 1), (43, .aload_n 0, 1), (44, .aload_n 0, 1), (45, .getfield 152, 3), (48, .invokevirtual 155, 3), (51, .bipush 32, 2), (53, .if_icmp .ne 16, 3), (56, .aload_n 0, 1), (57, .dup, 1), (58, .getfield 152, 3), (61, .iconst 1, 1), (62, .iadd, 1), (63, .putfield 152, 3), (66, .goto (-23), 3), (69, .aload_n 0, 1), (70, .getfield 51, 3), (73, .aload_n 0, 1), (74, .getfield 170, 3), (77, .aload_n 0, 1), (78, .getfield 152, 3), (81, .iastore, 1), (82, .aload_n 0, 1), (83, .aload_n 0, 1), (84, .getfield 152, 3), (87, .invokevirtual 155, 3), (90, .istore_n 1, 1), (91, .iload_n 1, 1), (92, .bipush 40, 2), (94, .if_icmp .eq 39, 3), (97, .iload_n 1, 1), (98, .bipush 41, 2), (100, .if_icmp .eq 33, 3), (103, .iload_n 1, 1), (104, .bipush 44, 2), (106, .if_icmp .eq 27, 3), (109, .iload_n 1, 1), (110, .bipush 46, 2), (112, .if_icmp .eq 21, 3), (115, .iload_n 1, 1), (116, .bipush 61, 2), (118, .if_icmp .eq 15, 3), (121, .iload_n 1, 1), (122, .bipush 60, 2), (124, .if_icmp .eq 9, 3), (127, .iload_n 1, 1), (128, .bipush 62, 2), (130, .if_icmp .ne 7, 3), (133, .iconst 1, 1), (134, .goto 4, 3), (137, .iconst 0, 1), (138, .istore_n 2, 1), (139, .iload_n 1, 1), (140, .ifCond .ne 16, 3), (143, .aload_n 0, 1), (144, .getfield 48, 3), (147, .aload_n 0, 1), (148, .getfield 170, 3), (151, .iconst 0, 1), (152, .iastore, 1), (153, .goto 106, 3), (156, .iload_n 1, 1), (157, .invokestatic 159, 3), (160, .ifCond .eq 19, 3), (163, .aload_n 0, 1), (164, .getfield 48, 3), (167, .aload_n 0, 1), (168, .getfield 170, 3), (171, .aload_n 0, 1), (172, .invokevirtual 176, 3), (175, .iastore, 1), (176, .goto 83, 3), (179, .iload_n 1, 1), (180, .bipush 45, 2), (182, .if_icmp .eq 10, 3), (185, .iload_n 1, 1), (186, .invokestatic 163, 3), (189, .ifCond .eq 23, 3), (192, .aload_n 0, 1), (193, .getfield 48, 3), (196, .aload_n 0, 1), (197, .getfield 170, 3), (200, .aload_n 0, 1), (201, .aload_n 0, 1), (202, .getfield 152, 3), (205, .invokevirtual 180, 3), (208, .iastore, 1), (209, .goto 50, 3), (212, .iload_n 2, 1), (213, .ifCond .ne 15, 3), (216, .iload_n 1, 1), (217, .bipush 65, 2), (219, .if_icmp .lt 32, 3), (222, .iload_n 1, 1), (223, .bipush 90, 2), (225, .if_icmp .gt 26, 3), (228, .aload_n 0, 1), (229, .getfield 48, 3), (232, .aload_n 0, 1), (233, .getfield 170, 3), (236, .iload_n 1, 1), (237, .iastore, 1), (238, .aload_n 0, 1), (239, .dup, 1), (240, .getfield 152, 3), (243, .iconst 1, 1), (244, .iadd, 1), (245, .putfield 152, 3), (248, .goto 11, 3), (251, .aload_n 0, 1), (252, .aload_n 0, 1), (253, .getfield 152, 3), (256, .invokevirtual 166, 3), (259, .aload_n 0, 1), (260, .getfield 146, 3), (263, .ifCond .eq 5, 3), (266, .iconst 0, 1), (267, .ireturn, 1), (268, .aload_n 0, 1), (269, .dup, 1), (270, .getfield 170, 3), (273, .iconst 1, 1), (274, .iadd, 1), (275, .putfield 170, 3), (278, .aload_n 0, 1), (279, .getfield 48, 3), (282, .aload_n 0, 1), (283, .getfield 173, 3), (286, .iaload, 1), (287, .ireturn, 1)]
set_option maxRecDepth 100000 in
theorem pK_X12_look : q_Iok cX12_look pI_X12_look := ⟨by decide +kernel, by decide +kernel⟩
def pI_X12_wrong : q_I := [(0, .aload_n 0, 1), (1, .invokevirtual 183, 3), (4, .pop, 1), (5, .aload_n 0, 1), (6, .getfield 146, 3), (9, .ifCond .ne 16, 3), (12, .aload_n 0, 1), (13, .aload_n 0, 1), (14, .getfield 51, 3), (17, .aload_n 0, 1), (18, .getfield 173, 3), (21, .iaload, 1), (22, .invokevirtual 166, 3), (25, .return_, 1)]
set_option maxRecDepth 100000 in
theorem pK_X12_wrong : q_Iok cX12_wrong pI_X12_wrong := ⟨by decide +kernel, by decide +kernel⟩
def pI_X12_take : q_I := [(0, .aload_n 0, 1), (1, .invokevirtual 183, 3), (4, .iload_n 1, 1), (5, .if_icmp .ne 10, 3), (8, .aload_n 0, 1), (9, .getfield 146, 3), (12, .ifCond .eq 5, 3), (15, .iconst 0, 1), (16, .ireturn, 1), (17, .aload_n 0, 1), (18, .dup, 1), (19, .getfield 173, 3), (22, .iconst 1, 1), (23, .iadd, 1), (24, .putfield 173, 3), (27, .iconst 1, 1), (28, .ireturn, 1)]
set_option maxRecDepth 100000 in
theorem pK_X12_take : q_Iok cX12_take pI_X12_take := ⟨by decide +kernel, by decide +kernel⟩
def pI_X12_want : q_I := [(0, .aload_n 0, 1), (1, .iload_n 1, 1), (2, .invokevirtual 186, 3), (5, .ifCond .ne 7, 3), (8, .aload_n 0, 1), (9, .invokevirtual 189, 3), (12, .return_, 1)]
set_option maxRecDepth 100000 in
theorem pK_X12_want : q_Iok cX12_want pI_X12_want := ⟨by decide +kernel, by decide +kernel⟩
def pI_X12_isIn : q_I := [(0, .iload_n 0, 1), (1, .iload_n 1, 1), (2, .if_icmp .lt 14, 3), (5, .iload_n 0, 1), (6, .iload_n 1, 1), (7, .iload_n 2, 1), (8, .iadd, 1), (9, .if_icmp .ge 7, 3), (12, .iconst 1, 1), (13, .goto 4, 3), (16, .iconst 0, 1), (17, .ireturn, 1)]
set_option maxRecDepth 100000 in
theorem pK_X12_isIn : q_Iok cX12_isIn pI_X12_isIn := ⟨by decide +kernel, by decide +kernel⟩
def pI_X12_readColumn : q_I := [(0, .aload_n 0, 1), (1, .invokevirtual 183, 3), (4, .sipush 220, 3), (7, .iconst 4, 1), (8, .invokestatic 192, 3), (11, .ifCond .eq 16, 3), (14, .aload_n 0, 1), (15, .dup, 1), (16, .getfield 173, 3), (19, .iconst 1, 1), (20, .iadd, 1), (21, .putfield 173, 3), (24, .goto 7, 3), (27, .aload_n 0, 1), (28, .invokevirtual 189, 3), (31, .aload_n 0, 1), (32, .getfield 146, 3), (35, .ifCond .ne 9, 3), (38, .aload_n 0, 1), (39, .bipush 46, 2), (41, .invokevirtual 196, 3), (44, .aload_n 0, 1), (45, .getfield 146, 3), (48, .ifCond .eq 4, 3), (51, .return_, 1), (52, .aload_n 0, 1), (53, .invokevirtual 183, 3), (56, .sipush 230, 3), (59, .iconst 4, 1), (60, .invokestatic 192, 3), (63, .ifCond .eq 16, 3), (66, .aload_n 0, 1), (67, .dup, 1), (68, .getfield 173, 3), (71, .iconst 1, 1), (72, .iadd, 1), (73, .putfield 173, 3), (76, .goto 7, 3), (79, .aload_n 0, 1), (80, .invokevirtual 189, 3), (83, .return_, 1)]
set_option maxRecDepth 100000 in
theorem pK_X12_readColumn : q_Iok cX12_readColumn pI_X12_readColumn := ⟨by decide +kernel, by decide +kernel⟩
def pI_X12_readOut : q_I := [(0, .aload_n 0, 1), (1, .invokevirtual 183, 3), (4, .istore_n 1, 1), (5, .aload_n 0, 1), (6, .getfield 63, 3), (9, .aload_n 0, 1), (10, .getfield 199, 3), (13, .aload_n 0, 1), (14, .getfield 173, 3), (17, .iastore, 1), (18, .aload_n 0, 1), (19, .getfield 60, 3), (22, .aload_n 0, 1), (23, .getfield 199, 3), (26, .iconst 0, 1), (27, .iastore, 1), (28, .iload_n 1, 1), (29, .sipush 207, 3), (32, .iconst 4, 1), (33, .invokestatic 192, 3), (36, .ifCond .eq 76, 3), (39, .aload_n 0, 1), (40, .getfield 60, 3), (43, .aload_n 0, 1), (44, .getfield 199, 3), (47, .iload_n 1, 1), (48, .iastore, 1), (49, .aload_n 0, 1), (50, .dup, 1), (51, .getfield 173, 3), (54, .iconst 1, 1), (55, .iadd, 1), (56, .putfield 173, 3), (59, .iload_n 1, 1), (60, .sipush 207, 3), (63, .if_icmp .eq 53, 3), (66, .aload_n 0, 1), (67, .bipush 40, 2), (69, .invokevirtual 196, 3), (72, .aload_n 0, 1), (73, .getfield 63, 3), (76, .aload_n 0, 1), (77, .getfield 199, 3), (80, .aload_n 0, 1), (81, .getfield 173, 3), (84, .iastore, 1), (85, .aload_n 0, 1), (86, .getfield 146, 3), (89, .ifCond .ne 7, 3), (92, .aload_n 0, 1), (93, .invokevirtual 202, 3), (96, .aload_n 0, 1), (97, .getfield 146, 3), (100, .ifCond .ne 16, 3), (103, .aload_n 0, 1), (104, .bipush 41, 2), (106, .invokevirtual 196, 3), (109, .goto 7, 3), (112, .aload_n 0, 1), (113, .invokevirtual 202, 3), (116, .aload_n 0, 1), (117, .dup, 1), (118, .getfield 199, 3), (121, .iconst 1, 1), (122, .iadd, 1), (123, .putfield 199, 3), (126, .return_, 1)]
set_option maxRecDepth 100000 in
theorem pK_X12_readOut : q_Iok cX12_readOut pI_X12_readOut := ⟨by decide +kernel, by decide +kernel⟩
def pI_X12_readOuts : q_I := [(0, .aload_n 0, 1), (1, .iconst 0, 1), (2, .putfield 199, 3), (5, .aload_n 0, 1), (6, .sipush 200, 3), (9, .invokevirtual 196, 3), (12, .aload_n 0, 1), (13, .getfield 146, 3), (16, .ifCond .ne 7, 3), (19, .aload_n 0, 1), (20, .invokevirtual 205, 3), (23, .aload_n 0, 1), (24, .getfield 146, 3), (27, .ifCond .ne 27, 3), (30, .aload_n 0, 1), (31, .getfield 199, 3), (34, .iconst 4, 1), (35, .if_icmp .ge 19, 3), (38, .aload_n 0, 1), (39, .bipush 44, 2), (41, .invokevirtual 186, 3), (44, .ifCond .eq 10, 3), (47, .aload_n 0, 1), (48, .invokevirtual 205, 3), (51, .goto (-28), 3), (54, .return_, 1)]
set_option maxRecDepth 100000 in
theorem pK_X12_readOuts : q_Iok cX12_readOuts pI_X12_readOuts := ⟨by decide +kernel, by decide +kernel⟩
def pI_X12_readOperand : q_I := [(0, .aload_n 0, 1), (1, .invokevirtual 183, 3), (4, .istore_n 1, 1), (5, .iload_n 1, 1), (6, .iconst 1, 1), (7, .if_icmp .eq 10, 3), (10, .iload_n 1, 1), (11, .sipush 215, 3), (14, .if_icmp .ne 16, 3), (17, .aload_n 0, 1), (18, .dup, 1), (19, .getfield 173, 3), (22, .iconst 1, 1), (23, .iadd, 1), (24, .putfield 173, 3), (27, .goto 7, 3), (30, .aload_n 0, 1), (31, .invokevirtual 202, 3), (34, .return_, 1)]
set_option maxRecDepth 100000 in
theorem pK_X12_readOperand : q_Iok cX12_readOperand pI_X12_readOperand := ⟨by decide +kernel, by decide +kernel⟩
def pI_X12_readComparison : q_I := [(0, .aload_n 0, 1), (1, .invokevirtual 208, 3), (4, .aload_n 0, 1), (5, .getfield 146, 3), (8, .ifCond .eq 4, 3), (11, .return_, 1), (12, .aload_n 0, 1), (13, .invokevirtual 183, 3), (16, .istore_n 1, 1), (17, .iload_n 1, 1), (18, .sipush 214, 3), (21, .if_icmp .ne 23, 3), (24, .aload_n 0, 1), (25, .dup, 1), (26, .getfield 173, 3), (29, .iconst 1, 1), (30, .iadd, 1), (31, .putfield 173, 3), (34, .aload_n 0, 1), (35, .sipush 215, 3), (38, .invokevirtual 196, 3), (41, .goto 42, 3), (44, .iload_n 1, 1), (45, .bipush 61, 2), (47, .if_icmp .eq 15, 3), (50, .iload_n 1, 1), (51, .bipush 60, 2), (53, .if_icmp .eq 9, 3), (56, .iload_n 1, 1), (57, .bipush 62, 2), (59, .if_icmp .ne 20, 3), (62, .aload_n 0, 1), (63, .dup, 1), (64, .getfield 173, 3), (67, .iconst 1, 1), (68, .iadd, 1), (69, .putfield 173, 3), (72, .aload_n 0, 1), (73, .invokevirtual 208, 3), (76, .goto 7, 3), (79, .aload_n 0, 1), (80, .invokevirtual 189, 3), (83, .return_, 1)]
set_option maxRecDepth 100000 in
theorem pK_X12_readComparison : q_Iok cX12_readComparison pI_X12_readComparison := ⟨by decide +kernel, by decide +kernel⟩
def pI_X12_closeNots : q_I := [(0, .aload_n 0, 1), (1, .getfield 211, 3), (4, .ifCond .le 33, 3), (7, .aload_n 0, 1), (8, .getfield 57, 3), (11, .aload_n 0, 1), (12, .getfield 211, 3), (15, .iconst 1, 1), (16, .isub, 1), (17, .iaload, 1), (18, .sipush 213, 3), (21, .if_icmp .ne 16, 3), (24, .aload_n 0, 1), (25, .dup, 1), (26, .getfield 211, 3), (29, .iconst 1, 1), (30, .isub, 1), (31, .putfield 211, 3), (34, .goto (-34), 3), (37, .return_, 1)]
set_option maxRecDepth 100000 in
theorem pK_X12_closeNots : q_Iok cX12_closeNots pI_X12_closeNots := ⟨by decide +kernel, by decide +kernel⟩
end
section
def pI_X12_readCondition : q_I := [(0, .aload_n 0, 1), (1, .iconst 0, 1), (2, .putfield 211, 3), (5, .iconst 1, 1), (6, .istore_n 1, 1), (7, .aload_n 0, 1), (8, .getfield 146, 3), (11, .ifCond .ne 176, 3), (14, .iload_n 1, 1), (15, .ifCond .eq 172, 3), (18, .aload_n 0, 1), (19, .invokevirtual 183, 3), (22, .istore_n 2, 1), (23, .iload_n 2, 1), (24, .sipush 213, 3), (27, .if_icmp .eq 9, 3), (30, .iload_n 2, 1), (31, .bipush 40, 2), (33, .if_icmp .ne 48, 3), (36, .aload_n 0, 1), (37, .getfield 211, 3), (40, .iconst 4, 1), (41, .if_icmp .ne 7, 3), (44, .aload_n 0, 1), (45, .invokevirtual 189, 3), (48, .aload_n 0, 1), (49, .getfield 57, 3), (52, .aload_n 0, 1), (53, .getfield 211, 3), (56, .iload_n 2, 1), (57, .iastore, 1), (58, .aload_n 0, 1), (59, .dup, 1), (60, .getfield 211, 3), (63, .iconst 1, 1), (64, .iadd, 1), (65, .putfield 211, 3), (68, .aload_n 0, 1), (69, .dup, 1), (70, .getfield 173, 3), (73, .iconst 1, 1), (74, .iadd, 1), (75, .putfield 173, 3), (78, .goto (-71), 3), (81, .aload_n 0, 1), (82, .invokevirtual 214, 3), (85, .aload_n 0, 1), (86, .invokevirtual 217, 3), (89, .aload_n 0, 1), (90, .getfield 146, 3), (93, .ifCond .ne 36, 3), (96, .aload_n 0, 1), (97, .getfield 211, 3), (100, .ifCond .le 29, 3), (103, .aload_n 0, 1), (104, .bipush 41, 2), (106, .invokevirtual 186, 3), (109, .ifCond .eq 20, 3), (112, .aload_n 0, 1), (113, .dup, 1), (114, .getfield 211, 3), (117, .iconst 1, 1), (118, .isub, 1), (119, .putfield 211, 3), (122, .aload_n 0, 1), (123, .invokevirtual 217, 3), (126, .goto (-37), 3), (129, .aload_n 0, 1), (130, .getfield 146, 3), (133, .ifCond .ne 27, 3), (136, .aload_n 0, 1), (137, .sipush 212, 3), (140, .invokevirtual 186, 3), (143, .ifCond .ne 13, 3), (146, .aload_n 0, 1), (147, .sipush 211, 3), (150, .invokevirtual 186, 3), (153, .ifCond .eq 7, 3), (156, .iconst 1, 1), (157, .goto 4, 3), (160, .iconst 0, 1), (161, .istore_n 1, 1), (162, .aload_n 0, 1), (163, .getfield 146, 3), (166, .ifCond .ne 18, 3), (169, .iload_n 1, 1), (170, .ifCond .ne 14, 3), (173, .aload_n 0, 1), (174, .getfield 211, 3), (177, .ifCond .le 7, 3), (180, .aload_n 0, 1), (181, .invokevirtual 189, 3), (184, .goto (-177), 3), (187, .return_, 1)]
set_option maxRecDepth 100000 in
theorem pK_X12_readCondition : q_Iok cX12_readCondition pI_X12_readCondition := ⟨by decide +kernel, by decide +kernel⟩
def pI_X12_readItem : q_I := [(0, .aload_n 0, 1), (1, .invokevirtual 183, 3), (4, .istore_n 2, 1), (5, .aload_n 0, 1), (6, .getfield 69, 3), (9, .aload_n 0, 1), (10, .getfield 121, 3), (13, .aload_n 0, 1), (14, .getfield 173, 3), (17, .iastore, 1), (18, .aload_n 0, 1), (19, .getfield 66, 3), (22, .aload_n 0, 1), (23, .getfield 121, 3), (26, .iload_n 2, 1), (27, .bipush 84, 2), (29, .isub, 1), (30, .iastore, 1), (31, .aload_n 0, 1), (32, .getfield 72, 3), (35, .aload_n 0, 1), (36, .getfield 121, 3), (39, .iload_n 1, 1), (40, .bastore, 1), (41, .iload_n 2, 1), (42, .bipush 84, 2), (44, .if_icmp .eq 15, 3), (47, .iload_n 2, 1), (48, .bipush 85, 2), (50, .if_icmp .eq 9, 3), (53, .iload_n 2, 1), (54, .bipush 86, 2), (56, .if_icmp .ne 16, 3), (59, .aload_n 0, 1), (60, .dup, 1), (61, .getfield 173, 3), (64, .iconst 1, 1), (65, .iadd, 1), (66, .putfield 173, 3), (69, .goto 7, 3), (72, .aload_n 0, 1), (73, .invokevirtual 189, 3), (76, .aload_n 0, 1), (77, .getfield 146, 3), (80, .ifCond .ne 30, 3), (83, .aload_n 0, 1), (84, .invokevirtual 183, 3), (87, .sipush 220, 3), (90, .iconst 4, 1), (91, .invokestatic 192, 3), (94, .ifCond .eq 16, 3), (97, .aload_n 0, 1), (98, .dup, 1), (99, .getfield 173, 3), (102, .iconst 1, 1), (103, .iadd, 1), (104, .putfield 173, 3), (107, .goto 7, 3), (110, .aload_n 0, 1), (111, .invokevirtual 189, 3), (114, .aload_n 0, 1), (115, .getfield 121, 3), (118, .ifCond .le 54, 3), (121, .aload_n 0, 1), (122, .getfield 146, 3), (125, .ifCond .ne 10, 3), (128, .aload_n 0, 1), (129, .sipush 204, 3), (132, .invokevirtual 196, 3), (135, .aload_n 0, 1), (136, .getfield 75, 3), (139, .aload_n 0, 1), (140, .getfield 121, 3), (143, .aload_n 0, 1), (144, .getfield 173, 3), (147, .iastore, 1), (148, .aload_n 0, 1), (149, .getfield 146, 3), (152, .ifCond .ne 7, 3), (155, .aload_n 0, 1), (156, .invokevirtual 220, 3), (159, .aload_n 0, 1), (160, .getfield 78, 3), (163, .aload_n 0, 1), (164, .getfield 121, 3), (167, .aload_n 0, 1), (168, .getfield 173, 3), (171, .iastore, 1), (172, .aload_n 0, 1), (173, .dup, 1), (174, .getfield 121, 3), (177, .iconst 1, 1), (178, .iadd, 1), (179, .putfield 121, 3), (182, .return_, 1)]
set_option maxRecDepth 100000 in
theorem pK_X12_readItem : q_Iok cX12_readItem pI_X12_readItem := ⟨by decide +kernel, by decide +kernel⟩
def pI_X12_readGroup : q_I := [(0, .aload_n 0, 1), (1, .iconst 0, 1), (2, .putfield 223, 3), (5, .aload_n 0, 1), (6, .getfield 146, 3), (9, .ifCond .ne 13, 3), (12, .aload_n 0, 1), (13, .sipush 206, 3), (16, .invokevirtual 186, 3), (19, .ifCond .ne 4, 3), (22, .return_, 1), (23, .iconst 1, 1), (24, .istore_n 1, 1), (25, .iload_n 1, 1), (26, .ifCond .eq 70, 3), (29, .aload_n 0, 1), (30, .getfield 146, 3), (33, .ifCond .ne 63, 3), (36, .aload_n 0, 1), (37, .getfield 81, 3), (40, .aload_n 0, 1), (41, .getfield 223, 3), (44, .aload_n 0, 1), (45, .getfield 173, 3), (48, .iastore, 1), (49, .aload_n 0, 1), (50, .invokevirtual 202, 3), (53, .aload_n 0, 1), (54, .dup, 1), (55, .getfield 223, 3), (58, .iconst 1, 1), (59, .iadd, 1), (60, .putfield 223, 3), (63, .aload_n 0, 1), (64, .getfield 146, 3), (67, .ifCond .ne 24, 3), (70, .aload_n 0, 1), (71, .getfield 223, 3), (74, .iconst 3, 1), (75, .if_icmp .ge 16, 3), (78, .aload_n 0, 1), (79, .bipush 44, 2), (81, .invokevirtual 186, 3), (84, .ifCond .eq 7, 3), (87, .iconst 1, 1), (88, .goto 4, 3), (91, .iconst 0, 1), (92, .istore_n 1, 1), (93, .goto (-68), 3), (96, .return_, 1)]
set_option maxRecDepth 100000 in
theorem pK_X12_readGroup : q_Iok cX12_readGroup pI_X12_readGroup := ⟨by decide +kernel, by decide +kernel⟩
def pI_X12_readQuery : q_I := [(0, .aload_n 0, 1), (1, .invokevirtual 226, 3), (4, .aload_n 0, 1), (5, .iconst 0, 1), (6, .putfield 121, 3), (9, .aload_n 0, 1), (10, .getfield 146, 3), (13, .ifCond .ne 10, 3), (16, .aload_n 0, 1), (17, .sipush 201, 3), (20, .invokevirtual 196, 3), (23, .aload_n 0, 1), (24, .getfield 146, 3), (27, .ifCond .ne 8, 3), (30, .aload_n 0, 1), (31, .iconst 0, 1), (32, .invokevirtual 229, 3), (35, .iconst 1, 1), (36, .istore_n 1, 1), (37, .iload_n 1, 1), (38, .ifCond .eq 72, 3), (41, .aload_n 0, 1), (42, .getfield 146, 3), (45, .ifCond .ne 65, 3), (48, .aload_n 0, 1), (49, .getfield 121, 3), (52, .iconst 3, 1), (53, .if_icmp .ge 57, 3), (56, .aload_n 0, 1), (57, .invokevirtual 183, 3), (60, .sipush 203, 3), (63, .if_icmp .ne 7, 3), (66, .iconst 1, 1), (67, .goto 4, 3), (70, .iconst 0, 1), (71, .istore_n 2, 1), (72, .aload_n 0, 1), (73, .sipush 203, 3), (76, .invokevirtual 186, 3), (79, .ifCond .ne 13, 3), (82, .aload_n 0, 1), (83, .sipush 202, 3), (86, .invokevirtual 186, 3), (89, .ifCond .eq 7, 3), (92, .iconst 1, 1), (93, .goto 4, 3), (96, .iconst 0, 1), (97, .istore_n 1, 1), (98, .iload_n 1, 1), (99, .ifCond .eq 8, 3), (102, .aload_n 0, 1), (103, .iload_n 2, 1), (104, .invokevirtual 229, 3), (107, .goto (-70), 3), (110, .aload_n 0, 1), (111, .iconst 0, 1), (112, .putfield 233, 3), (115, .aload_n 0, 1), (116, .iconst 0, 1), (117, .putfield 236, 3), (120, .aload_n 0, 1), (121, .getfield 146, 3), (124, .ifCond .ne 33, 3), (127, .aload_n 0, 1), (128, .sipush 205, 3), (131, .invokevirtual 186, 3), (134, .ifCond .eq 23, 3), (137, .aload_n 0, 1), (138, .aload_n 0, 1), (139, .getfield 173, 3), (142, .putfield 233, 3), (145, .aload_n 0, 1), (146, .invokevirtual 220, 3), (149, .aload_n 0, 1), (150, .aload_n 0, 1), (151, .getfield 173, 3), (154, .putfield 236, 3), (157, .aload_n 0, 1), (158, .invokevirtual 239, 3), (161, .aload_n 0, 1), (162, .getfield 146, 3), (165, .ifCond .ne 8, 3), (168, .aload_n 0, 1), (169, .iconst 0, 1), (170, .invokevirtual 196, 3), (173, .return_, 1)]
set_option maxRecDepth 100000 in
theorem pK_X12_readQuery : q_Iok cX12_readQuery pI_X12_readQuery := ⟨by decide +kernel, by decide +kernel⟩
def pI_X12_spot : q_I := [(0, .aload_n 0, 1), (1, .getfield 51, 3), (4, .iload_n 1, 1), (5, .iaload, 1), (6, .istore_n 2, 1), (7, .aload_n 0, 1), (8, .getfield 146, 3), (11, .ifCond .eq 11, 3), (14, .iload_n 2, 1), (15, .aload_n 0, 1), (16, .getfield 149, 3), (19, .if_icmp .ge 8, 3), (22, .aload_n 0, 1), (23, .iload_n 2, 1), (24, .putfield 149, 3), (27, .aload_n 0, 1), (28, .iconst 1, 1), (29, .putfield 146, 3), (32, .return_, 1)]
set_option maxRecDepth 100000 in
theorem pK_X12_spot : q_Iok cX12_spot pI_X12_spot := ⟨by decide +kernel, by decide +kernel⟩
def pI_X12_itemOf : q_I := [(0, .iconst 0, 1), (1, .istore_n 2, 1), (2, .iload_n 2, 1), (3, .aload_n 0, 1), (4, .getfield 121, 3), (7, .if_icmp .ge 33, 3), (10, .aload_n 0, 1), (11, .getfield 48, 3), (14, .aload_n 0, 1), (15, .getfield 69, 3), (18, .iload_n 2, 1), (19, .iaload, 1), (20, .iconst 1, 1), (21, .iadd, 1), (22, .iaload, 1), (23, .aload_n 0, 1), (24, .getfield 48, 3), (27, .iload_n 1, 1), (28, .iaload, 1), (29, .if_icmp .ne 5, 3), (32, .iload_n 2, 1), (33, .ireturn, 1), (34, .iinc 2 1, 3), (37, .goto (-35), 3), (40, .iconst (-1), 1), (41, .ireturn, 1)]
set_option maxRecDepth 100000 in
theorem pK_X12_itemOf : q_Iok cX12_itemOf pI_X12_itemOf := ⟨by decide +kernel, by decide +kernel⟩
def pI_X12_columnOf : q_I := [(0, .aload_n 0, 1), (1, .getfield 48, 3), (4, .iload_n 1, 1), (5, .iconst 2, 1), (6, .iadd, 1), (7, .iaload, 1), (8, .sipush 230, 3), (11, .isub, 1), (12, .ireturn, 1)]
set_option maxRecDepth 100000 in
theorem pK_X12_columnOf : q_Iok cX12_columnOf pI_X12_columnOf := ⟨by decide +kernel, by decide +kernel⟩
def pI_X12_checkColumn : q_I := [(0, .aload_n 0, 1), (1, .iload_n 1, 1), (2, .invokevirtual 242, 3), (5, .istore_n 3, 1), (6, .iload_n 3, 1), (7, .ifCond .ge 11, 3), (10, .aload_n 0, 1), (11, .iload_n 1, 1), (12, .invokevirtual 245, 3), (15, .goto 32, 3), (18, .iload_n 3, 1), (19, .iload_n 2, 1), (20, .if_icmp .gt 22, 3), (23, .aload_n 0, 1), (24, .iload_n 1, 1), (25, .invokevirtual 248, 3), (28, .aload_n 0, 1), (29, .getfield 21, 3), (32, .aload_n 0, 1), (33, .getfield 66, 3), (36, .iload_n 3, 1), (37, .iaload, 1), (38, .iaload, 1), (39, .if_icmp .lt 8, 3), (42, .aload_n 0, 1), (43, .iload_n 1, 1), (44, .invokevirtual 245, 3), (47, .return_, 1)]
set_option maxRecDepth 100000 in
theorem pK_X12_checkColumn : q_Iok cX12_checkColumn pI_X12_checkColumn := ⟨by decide +kernel, by decide +kernel⟩
def pI_X12_checkRange : q_I := [(0, .iload_n 1, 1), (1, .istore 4, 2), (3, .iload 4, 2), (5, .iload_n 2, 1), (6, .if_icmp .ge 33, 3), (9, .aload_n 0, 1), (10, .getfield 48, 3), (13, .iload 4, 2), (15, .iaload, 1), (16, .sipush 220, 3), (19, .iconst 4, 1), (20, .invokestatic 192, 3), (23, .ifCond .eq 10, 3), (26, .aload_n 0, 1), (27, .iload 4, 2), (29, .iload_n 3, 1), (30, .invokevirtual 251, 3), (33, .iinc 4 1, 3), (36, .goto (-33), 3), (39, .return_, 1)]
set_option maxRecDepth 100000 in
theorem pK_X12_checkRange : q_Iok cX12_checkRange pI_X12_checkRange := ⟨by decide +kernel, by decide +kernel⟩
def pI_X12_isGrouped : q_I := [(0, .iconst 0, 1), (1, .istore_n 2, 1), (2, .iconst 0, 1), (3, .istore_n 3, 1), (4, .iload_n 3, 1), (5, .aload_n 0, 1), (6, .getfield 223, 3), (9, .if_icmp .ge 55, 3), (12, .iload_n 2, 1), (13, .ifCond .ne 39, 3), (16, .aload_n 0, 1), (17, .aload_n 0, 1), (18, .getfield 81, 3), (21, .iload_n 3, 1), (22, .iaload, 1), (23, .invokevirtual 242, 3), (26, .aload_n 0, 1), (27, .iload_n 1, 1), (28, .invokevirtual 242, 3), (31, .if_icmp .ne 25, 3), (34, .aload_n 0, 1), (35, .aload_n 0, 1), (36, .getfield 81, 3), (39, .iload_n 3, 1), (40, .iaload, 1), (41, .invokevirtual 248, 3), (44, .aload_n 0, 1), (45, .iload_n 1, 1), (46, .invokevirtual 248, 3), (49, .if_icmp .ne 7, 3), (52, .iconst 1, 1), (53, .goto 4, 3), (56, .iconst 0, 1), (57, .istore_n 2, 1), (58, .iinc 3 1, 3), (61, .goto (-57), 3), (64, .iload_n 2, 1), (65, .ireturn, 1)]
set_option maxRecDepth 100000 in
theorem pK_X12_isGrouped : q_Iok cX12_isGrouped pI_X12_isGrouped := ⟨by decide +kernel, by decide +kernel⟩
def pI_X12_checkAll : q_I := [(0, .aload_n 0, 1), (1, .aload_n 0, 1), (2, .getfield 223, 3), (5, .ifCond .le 7, 3), (8, .iconst 1, 1), (9, .goto 4, 3), (12, .iconst 0, 1), (13, .putfield 255, 3), (16, .iconst 0, 1), (17, .istore_n 1, 1), (18, .iload_n 1, 1), (19, .aload_n 0, 1), (20, .getfield 199, 3), (23, .if_icmp .ge 34, 3), (26, .aload_n 0, 1), (27, .aload_n 0, 1), (28, .getfield 255, 3), (31, .ifCond .ne 12, 3), (34, .aload_n 0, 1), (35, .getfield 60, 3), (38, .iload_n 1, 1), (39, .iaload, 1), (40, .ifCond .eq 7, 3), (43, .iconst 1, 1), (44, .goto 4, 3), (47, .iconst 0, 1), (48, .putfield 255, 3), (51, .iinc 1 1, 3), (54, .goto (-36), 3), (57, .iconst 0, 1), (58, .istore_n 1, 1), (59, .iload_n 1, 1), (60, .aload_n 0, 1), (61, .getfield 199, 3), (64, .if_icmp .ge 77, 3), (67, .aload_n 0, 1), (68, .getfield 60, 3), (71, .iload_n 1, 1), (72, .iaload, 1), (73, .sipush 207, 3), (76, .if_icmp .ne 6, 3), (79, .goto 56, 3), (82, .aload_n 0, 1), (83, .aload_n 0, 1), (84, .getfield 63, 3), (87, .iload_n 1, 1), (88, .iaload, 1), (89, .aload_n 0, 1), (90, .getfield 121, 3), (93, .invokevirtual 251, 3), (96, .aload_n 0, 1), (97, .getfield 255, 3), (100, .ifCond .eq 35, 3), (103, .aload_n 0, 1), (104, .getfield 60, 3), (107, .iload_n 1, 1), (108, .iaload, 1), (109, .ifCond .ne 26, 3), (112, .aload_n 0, 1), (113, .aload_n 0, 1), (114, .getfield 63, 3), (117, .iload_n 1, 1), (118, .iaload, 1), (119, .invokevirtual 258, 3), (122, .ifCond .ne 13, 3), (125, .aload_n 0, 1), (126, .aload_n 0, 1), (127, .getfield 63, 3), (130, .iload_n 1, 1), (131, .iaload, 1), (132, .invokevirtual 245, 3), (135, .iinc 1 1, 3), (138, .goto (-79), 3), (141, .iconst 0, 1), (142, .istore_n 1, 1), (143, .iload_n 1, 1), (144, .aload_n 0, 1), (145, .getfield 121, 3), (148, .if_icmp .ge 81, 3), (151, .aload_n 0, 1), (152, .aload_n 0, 1), (153, .getfield 66, 3), (156, .iload_n 1, 1), (157, .iaload, 1), (158, .invokevirtual 135, 3), (161, .ifCond .ne 13, 3), (164, .aload_n 0, 1), (165, .aload_n 0, 1), (166, .getfield 69, 3), (169, .iload_n 1, 1), (170, .iaload, 1), (171, .invokevirtual 245, 3), (174, .aload_n 0, 1), (175, .aload_n 0, 1), (176, .getfield 69, 3), (179, .iload_n 1, 1), (180, .iaload, 1), (181, .iconst 1, 1), (182, .iadd, 1), (183, .invokevirtual 242, 3), (186, .iload_n 1, 1), (187, .if_icmp .ge 15, 3), (190, .aload_n 0, 1), (191, .aload_n 0, 1), (192, .getfield 69, 3), (195, .iload_n 1, 1), (196, .iaload, 1), (197, .iconst 1, 1), (198, .iadd, 1), (199, .invokevirtual 245, 3), (202, .iload_n 1, 1), (203, .ifCond .le 20, 3), (206, .aload_n 0, 1), (207, .aload_n 0, 1), (208, .getfield 75, 3), (211, .iload_n 1, 1), (212, .iaload, 1), (213, .aload_n 0, 1), (214, .getfield 78, 3), (217, .iload_n 1, 1), (218, .iaload, 1), (219, .iload_n 1, 1), (220, .invokevirtual 261, 3), (223, .iinc 1 1, 3), (226, .goto (-83), 3), (229, .aload_n 0, 1), (230, .aload_n 0, 1), (231, .getfield 233, 3), (234, .aload_n 0, 1), (235, .getfield 236, 3), (238, .aload_n 0, 1), (239, .getfield 121, 3), (242, .invokevirtual 261, 3), (245, .iconst 0, 1), (246, .istore_n 1, 1), (247, .iload_n 1, 1), (248, .aload_n 0, 1), (249, .getfield 223, 3), (252, .if_icmp .ge 23, 3), (255, .aload_n 0, 1), (256, .aload_n 0, 1), (257, .getfield 81, 3), (260, .iload_n 1, 1), (261, .iaload, 1), (262, .aload_n 0, 1), (263, .getfield 121, 3), (266, .invokevirtual 251, 3), (269, .iinc 1 1, 3), (272, .goto (-25), 3), (275, .return_, 1)]
set_option maxRecDepth 100000 in
theorem pK_X12_checkAll : q_Iok cX12_checkAll pI_X12_checkAll := ⟨by decide +kernel, by decide +kernel⟩
def pI_X12_addPart : q_I := [(0, .aload_n 0, 1), (1, .getfield 84, 3), (4, .aload_n 0, 1), (5, .getfield 265, 3), (8, .iload_n 1, 1), (9, .iastore, 1), (10, .aload_n 0, 1), (11, .getfield 87, 3), (14, .aload_n 0, 1), (15, .getfield 265, 3), (18, .iload_n 2, 1), (19, .iastore, 1), (20, .aload_n 0, 1), (21, .getfield 90, 3), (24, .aload_n 0, 1), (25, .getfield 265, 3), (28, .iconst 0, 1), (29, .iastore, 1), (30, .iload_n 1, 1), (31, .istore_n 3, 1), (32, .iload_n 3, 1), (33, .iload_n 2, 1), (34, .if_icmp .ge 72, 3), (37, .aload_n 0, 1), (38, .getfield 48, 3), (41, .iload_n 3, 1), (42, .iaload, 1), (43, .sipush 220, 3), (46, .iconst 4, 1), (47, .invokestatic 192, 3), (50, .ifCond .ne 6, 3), (53, .goto 47, 3), (56, .aload_n 0, 1), (57, .iload_n 3, 1), (58, .invokevirtual 242, 3), (61, .istore 4, 2), (63, .aload_n 0, 1), (64, .getfield 90, 3), (67, .aload_n 0, 1), (68, .getfield 265, 3), (71, .iload 4, 2), (73, .aload_n 0, 1), (74, .getfield 90, 3), (77, .aload_n 0, 1), (78, .getfield 265, 3), (81, .iaload, 1), (82, .if_icmp .le 8, 3), (85, .iload 4, 2), (87, .goto 12, 3), (90, .aload_n 0, 1), (91, .getfield 90, 3), (94, .aload_n 0, 1), (95, .getfield 265, 3), (98, .iaload, 1), (99, .iastore, 1), (100, .iinc 3 1, 3), (103, .goto (-71), 3), (106, .aload_n 0, 1), (107, .dup, 1), (108, .getfield 265, 3), (111, .iconst 1, 1), (112, .iadd, 1), (113, .putfield 265, 3), (116, .return_, 1)]
set_option maxRecDepth 100000 in
theorem pK_X12_addPart : q_Iok cX12_addPart pI_X12_addPart := ⟨by decide +kernel, by decide +kernel⟩
def pI_X12_findParts : q_I := [(0, .aload_n 0, 1), (1, .iconst 0, 1), (2, .putfield 265, 3), (5, .aload_n 0, 1), (6, .getfield 236, 3), (9, .aload_n 0, 1), (10, .getfield 233, 3), (13, .if_icmp .ne 4, 3), (16, .return_, 1), (17, .iconst 1, 1), (18, .istore_n 1, 1), (19, .iconst 0, 1), (20, .istore_n 2, 1), (21, .aload_n 0, 1), (22, .getfield 233, 3), (25, .istore_n 3, 1), (26, .iload_n 3, 1), (27, .aload_n 0, 1), (28, .getfield 236, 3), (31, .if_icmp .ge 71, 3), (34, .aload_n 0, 1), (35, .getfield 48, 3), (38, .iload_n 3, 1), (39, .iaload, 1), (40, .bipush 40, 2), (42, .if_icmp .ne 9, 3), (45, .iload_n 2, 1), (46, .iconst 1, 1), (47, .iadd, 1), (48, .goto 21, 3), (51, .aload_n 0, 1), (52, .getfield 48, 3), (55, .iload_n 3, 1), (56, .iaload, 1), (57, .bipush 41, 2), (59, .if_icmp .ne 9, 3), (62, .iload_n 2, 1), (63, .iconst 1, 1), (64, .isub, 1), (65, .goto 4, 3), (68, .iload_n 2, 1), (69, .istore_n 2, 1), (70, .iload_n 1, 1), (71, .ifCond .eq 23, 3), (74, .iload_n 2, 1), (75, .ifCond .gt 15, 3), (78, .aload_n 0, 1), (79, .getfield 48, 3), (82, .iload_n 3, 1), (83, .iaload, 1), (84, .sipush 211, 3), (87, .if_icmp .eq 7, 3), (90, .iconst 1, 1), (91, .goto 4, 3), (94, .iconst 0, 1), (95, .istore_n 1, 1), (96, .iinc 3 1, 3), (99, .goto (-73), 3), (102, .aload_n 0, 1), (103, .getfield 233, 3), (106, .istore_n 3, 1), (107, .aload_n 0, 1), (108, .getfield 233, 3), (111, .istore 4, 2), (113, .iload 4, 2), (115, .aload_n 0, 1), (116, .getfield 236, 3), (119, .if_icmp .ge 80, 3), (122, .iload_n 1, 1), (123, .ifCond .eq 76, 3), (126, .aload_n 0, 1), (127, .getfield 48, 3), (130, .iload 4, 2), (132, .iaload, 1), (133, .bipush 40, 2), (135, .if_icmp .ne 9, 3), (138, .iload_n 2, 1), (139, .iconst 1, 1), (140, .iadd, 1), (141, .goto 22, 3), (144, .aload_n 0, 1), (145, .getfield 48, 3), (148, .iload 4, 2), (150, .iaload, 1), (151, .bipush 41, 2), (153, .if_icmp .ne 9, 3), (156, .iload_n 2, 1), (157, .iconst 1, 1), (158, .isub, 1), (159, .goto 4, 3), (162, .iload_n 2, 1), (163, .istore_n 2, 1), (164, .iload_n 2, 1), (165, .ifCond .ne 28, 3), (168, .aload_n 0, 1), (169, .getfield 48, 3), (172, .iload 4, 2), (174, .iaload, 1), (175, .sipush 212, 3), (178, .if_icmp .ne 15, 3), (181, .aload_n 0, 1), (182, .iload_n 3, 1), (183, .iload 4, 2), (185, .invokevirtual 268, 3), (188, .iload 4, 2), (190, .iconst 1, 1), (191, .iadd, 1), (192, .istore_n 3, 1), (193, .iinc 4 1, 3), (196, .goto (-83), 3), (199, .aload_n 0, 1), (200, .iload_n 3, 1), (201, .aload_n 0, 1), (202, .getfield 236, 3), (205, .invokevirtual 268, 3), (208, .return_, 1)]
set_option maxRecDepth 100000 in
theorem pK_X12_findParts : q_Iok cX12_findParts pI_X12_findParts := ⟨by decide +kernel, by decide +kernel⟩
def pI_X12_compile : q_I := [(0, .aload_n 0, 1), (1, .iconst 0, 1), (2, .putfield 118, 3), (5, .aload_n 0, 1), (6, .iconst 0, 1), (7, .putfield 124, 3), (10, .aload_n 0, 1), (11, .iconst 0, 1), (12, .putfield 271, 3), (15, .aload_n 0, 1), (16, .iconst 0, 1), (17, .putfield 146, 3), (20, .aload_n 0, 1), (21, .iconst 0, 1), (22, .putfield 152, 3), (25, .aload_n 0, 1), (26, .iconst 0, 1), (27, .putfield 170, 3), (30, .aload_n 0, 1), (31, .iconst 0, 1), (32, .putfield 173, 3), (35, .aload_n 0, 1), (36, .invokevirtual 274, 3), (39, .aload_n 0, 1), (40, .getfield 146, 3), (43, .ifCond .ne 7, 3), (46, .aload_n 0, 1), (47, .invokevirtual 277, 3), (50, .aload_n 0, 1), (51, .iconst 0, 1), (52, .putfield 143, 3), (55, .aload_n 0, 1), (56, .aload_n 0, 1), (57, .getfield 146, 3), (60, .ifCond .eq 10, 3), (63, .aload_n 0, 1), (64, .getfield 149, 3), (67, .goto 4, 3), (70, .iconst (-1), 1), (71, .putfield 44, 3), (74, .aload_n 0, 1), (75, .getfield 146, 3), (78, .ifCond .eq 9, 3), (81, .aload_n 0, 1), (82, .iconst 1, 1), (83, .invokevirtual 139, 3), (86, .ireturn, 1), (87, .aload_n 0, 1), (88, .invokevirtual 280, 3), (91, .aload_n 0, 1), (92, .iconst 1, 1), (93, .putfield 124, 3), (96, .aload_n 0, 1), (97, .getfield 121, 3), (100, .ireturn, 1)]
set_option maxRecDepth 100000 in
theorem pK_X12_compile : q_Iok cX12_compile pI_X12_compile := ⟨by decide +kernel, by decide +kernel⟩
def pI_X12_place : q_I := [(0, .aload_n 0, 1), (1, .iconst 0, 1), (2, .putfield 118, 3), (5, .aload_n 0, 1), (6, .getfield 44, 3), (9, .ireturn, 1)]
set_option maxRecDepth 100000 in
theorem pK_X12_place : q_Iok cX12_place pI_X12_place := ⟨by decide +kernel, by decide +kernel⟩
def pI_X12_takeOperand : q_I := [(0, .aload_n 0, 1), (1, .aload_n 0, 1), (2, .getfield 48, 3), (5, .iload_n 1, 1), (6, .iaload, 1), (7, .sipush 215, 3), (10, .if_icmp .ne 7, 3), (13, .iconst 1, 1), (14, .goto 4, 3), (17, .iconst 0, 1), (18, .putfield 283, 3), (21, .aload_n 0, 1), (22, .iconst 0, 1), (23, .putfield 286, 3), (26, .aload_n 0, 1), (27, .getfield 283, 3), (30, .ifCond .eq 5, 3), (33, .iconst 1, 1), (34, .ireturn, 1), (35, .aload_n 0, 1), (36, .getfield 48, 3), (39, .iload_n 1, 1), (40, .iaload, 1), (41, .iconst 1, 1), (42, .if_icmp .ne 15, 3), (45, .aload_n 0, 1), (46, .aload_n 0, 1), (47, .getfield 54, 3), (50, .iload_n 1, 1), (51, .iaload, 1), (52, .putfield 286, 3), (55, .iconst 1, 1), (56, .ireturn, 1), (57, .aload_n 0, 1), (58, .iload_n 1, 1), (59, .invokevirtual 242, 3), (62, .istore_n 2, 1), (63, .aload_n 0, 1), (64, .iload_n 2, 1), (65, .aload_n 0, 1), (66, .iload_n 1, 1), (67, .invokevirtual 248, 3), (70, .invokevirtual 289, 3), (73, .iconst 3, 1), (74, .ireturn, 1)]
set_option maxRecDepth 100000 in
theorem pK_X12_takeOperand : q_Iok cX12_takeOperand pI_X12_takeOperand := ⟨by decide +kernel, by decide +kernel⟩
end
section
def pI_X12_fetch : q_I := [(0, .aload_n 0, 1), (1, .aload_n 0, 1), (2, .getfield 102, 3), (5, .iload_n 1, 1), (6, .iaload, 1), (7, .ifCond .ge 7, 3), (10, .iconst 1, 1), (11, .goto 4, 3), (14, .iconst 0, 1), (15, .putfield 283, 3), (18, .aload_n 0, 1), (19, .iconst 0, 1), (20, .putfield 286, 3), (23, .aload_n 0, 1), (24, .getfield 283, 3), (27, .ifCond .eq 4, 3), (30, .return_, 1), (31, .bipush 40, 2), (33, .aload_n 0, 1), (34, .getfield 66, 3), (37, .iload_n 1, 1), (38, .iaload, 1), (39, .imul, 1), (40, .iconst 4, 1), (41, .aload_n 0, 1), (42, .getfield 102, 3), (45, .iload_n 1, 1), (46, .iaload, 1), (47, .imul, 1), (48, .iadd, 1), (49, .iload_n 2, 1), (50, .iadd, 1), (51, .istore_n 3, 1), (52, .aload_n 0, 1), (53, .aload_n 0, 1), (54, .getfield 30, 3), (57, .iload_n 3, 1), (58, .baload, 1), (59, .putfield 283, 3), (62, .aload_n 0, 1), (63, .aload_n 0, 1), (64, .getfield 30, 3), (67, .iload_n 3, 1), (68, .baload, 1), (69, .ifCond .eq 7, 3), (72, .iconst 0, 1), (73, .goto 9, 3), (76, .aload_n 0, 1), (77, .getfield 27, 3), (80, .iload_n 3, 1), (81, .iaload, 1), (82, .putfield 286, 3), (85, .return_, 1)]
set_option maxRecDepth 100000 in
theorem pK_X12_fetch : q_Iok cX12_fetch pI_X12_fetch := ⟨by decide +kernel, by decide +kernel⟩
def pI_X12_not : q_I := [(0, .iload_n 0, 1), (1, .iconst 2, 1), (2, .if_icmp .ne 7, 3), (5, .iconst 2, 1), (6, .goto 6, 3), (9, .iconst 1, 1), (10, .iload_n 0, 1), (11, .isub, 1), (12, .ireturn, 1)]
set_option maxRecDepth 100000 in
theorem pK_X12_not : q_Iok cX12_not pI_X12_not := ⟨by decide +kernel, by decide +kernel⟩
def pI_X12_both : q_I := [(0, .iload_n 0, 1), (1, .ifCond .eq 7, 3), (4, .iload_n 1, 1), (5, .ifCond .ne 7, 3), (8, .iconst 0, 1), (9, .goto 18, 3), (12, .iload_n 0, 1), (13, .iconst 2, 1), (14, .if_icmp .eq 8, 3), (17, .iload_n 1, 1), (18, .iconst 2, 1), (19, .if_icmp .ne 7, 3), (22, .iconst 2, 1), (23, .goto 4, 3), (26, .iconst 1, 1), (27, .ireturn, 1)]
set_option maxRecDepth 100000 in
theorem pK_X12_both : q_Iok cX12_both pI_X12_both := ⟨by decide +kernel, by decide +kernel⟩
def pI_X12_either : q_I := [(0, .iload_n 0, 1), (1, .iconst 1, 1), (2, .if_icmp .eq 8, 3), (5, .iload_n 1, 1), (6, .iconst 1, 1), (7, .if_icmp .ne 7, 3), (10, .iconst 1, 1), (11, .goto 18, 3), (14, .iload_n 0, 1), (15, .iconst 2, 1), (16, .if_icmp .eq 8, 3), (19, .iload_n 1, 1), (20, .iconst 2, 1), (21, .if_icmp .ne 7, 3), (24, .iconst 2, 1), (25, .goto 4, 3), (28, .iconst 0, 1), (29, .ireturn, 1)]
set_option maxRecDepth 100000 in
theorem pK_X12_either : q_Iok cX12_either pI_X12_either := ⟨by decide +kernel, by decide +kernel⟩
def pI_X12_compare : q_I := [(0, .iload_n 1, 1), (1, .aload_n 0, 1), (2, .iload_n 1, 1), (3, .invokevirtual 292, 3), (6, .iadd, 1), (7, .istore_n 2, 1), (8, .aload_n 0, 1), (9, .getfield 283, 3), (12, .istore_n 3, 1), (13, .aload_n 0, 1), (14, .getfield 286, 3), (17, .istore 4, 2), (19, .aload_n 0, 1), (20, .getfield 48, 3), (23, .iload_n 2, 1), (24, .iaload, 1), (25, .sipush 214, 3), (28, .if_icmp .ne 20, 3), (31, .aload_n 0, 1), (32, .iload_n 3, 1), (33, .ifCond .eq 7, 3), (36, .iconst 1, 1), (37, .goto 4, 3), (40, .iconst 0, 1), (41, .putfield 295, 3), (44, .iload_n 2, 1), (45, .iconst 2, 1), (46, .iadd, 1), (47, .ireturn, 1), (48, .aload_n 0, 1), (49, .getfield 48, 3), (52, .iload_n 2, 1), (53, .iaload, 1), (54, .istore 5, 2), (56, .iinc 2 1, 3), (59, .iload_n 2, 1), (60, .aload_n 0, 1), (61, .iload_n 2, 1), (62, .invokevirtual 292, 3), (65, .iadd, 1), (66, .istore_n 2, 1), (67, .iload 5, 2), (69, .bipush 61, 2), (71, .if_icmp .ne 20, 3), (74, .iload 4, 2), (76, .aload_n 0, 1), (77, .getfield 286, 3), (80, .if_icmp .ne 7, 3), (83, .iconst 1, 1), (84, .goto 45, 3), (87, .iconst 0, 1), (88, .goto 41, 3), (91, .iload 5, 2), (93, .bipush 60, 2), (95, .if_icmp .ne 20, 3), (98, .iload 4, 2), (100, .aload_n 0, 1), (101, .getfield 286, 3), (104, .if_icmp .ge 7, 3), (107, .iconst 1, 1), (108, .goto 21, 3), (111, .iconst 0, 1), (112, .goto 17, 3), (115, .iload 4, 2), (117, .aload_n 0, 1), (118, .getfield 286, 3), (121, .if_icmp .le 7, 3), (124, .iconst 1, 1), (125, .goto 4, 3), (128, .iconst 0, 1), (129, .istore 6, 2), (131, .aload_n 0, 1), (132, .iload_n 3, 1), (133, .ifCond .ne 10, 3), (136, .aload_n 0, 1), (137, .getfield 283, 3), (140, .ifCond .eq 7, 3), (143, .iconst 2, 1), (144, .goto 13, 3), (147, .iload 6, 2), (149, .ifCond .eq 7, 3), (152, .iconst 1, 1), (153, .goto 4, 3), (156, .iconst 0, 1), (157, .putfield 295, 3), (160, .iload_n 2, 1), (161, .ireturn, 1)]
set_option maxRecDepth 100000 in
theorem pK_X12_compare : q_Iok cX12_compare pI_X12_compare := ⟨by decide +kernel, by decide +kernel⟩
def pI_X12_truthOf : q_I := [(0, .iconst 0, 1), (1, .istore_n 3, 1), (2, .aload_n 0, 1), (3, .getfield 93, 3), (6, .iconst 0, 1), (7, .iconst 0, 1), (8, .iastore, 1), (9, .aload_n 0, 1), (10, .getfield 96, 3), (13, .iconst 0, 1), (14, .iconst 1, 1), (15, .iastore, 1), (16, .iconst 0, 1), (17, .istore 4, 2), (19, .iload_n 1, 1), (20, .istore 5, 2), (22, .iload 5, 2), (24, .iload_n 2, 1), (25, .if_icmp .ge 221, 3), (28, .aload_n 0, 1), (29, .getfield 48, 3), (32, .iload 5, 2), (34, .iaload, 1), (35, .istore 6, 2), (37, .iload 6, 2), (39, .sipush 213, 3), (42, .if_icmp .ne 12, 3), (45, .iinc 4 1, 3), (48, .iinc 5 1, 3), (51, .goto 192, 3), (54, .iload 6, 2), (56, .bipush 40, 2), (58, .if_icmp .ne 37, 3), (61, .aload_n 0, 1), (62, .getfield 99, 3), (65, .iload_n 3, 1), (66, .iload 4, 2), (68, .iastore, 1), (69, .iconst 0, 1), (70, .istore 4, 2), (72, .iinc 3 1, 3), (75, .aload_n 0, 1), (76, .getfield 93, 3), (79, .iload_n 3, 1), (80, .iconst 0, 1), (81, .iastore, 1), (82, .aload_n 0, 1), (83, .getfield 96, 3), (86, .iload_n 3, 1), (87, .iconst 1, 1), (88, .iastore, 1), (89, .iinc 5 1, 3), (92, .goto 151, 3), (95, .iload 6, 2), (97, .sipush 211, 3), (100, .if_icmp .ne 37, 3), (103, .aload_n 0, 1), (104, .getfield 93, 3), (107, .iload_n 3, 1), (108, .aload_n 0, 1), (109, .getfield 93, 3), (112, .iload_n 3, 1), (113, .iaload, 1), (114, .aload_n 0, 1), (115, .getfield 96, 3), (118, .iload_n 3, 1), (119, .iaload, 1), (120, .invokestatic 298, 3), (123, .iastore, 1), (124, .aload_n 0, 1), (125, .getfield 96, 3), (128, .iload_n 3, 1), (129, .iconst 1, 1), (130, .iastore, 1), (131, .iinc 5 1, 3), (134, .goto 109, 3), (137, .iload 6, 2), (139, .sipush 212, 3), (142, .if_icmp .ne 9, 3), (145, .iinc 5 1, 3), (148, .goto 95, 3), (151, .iload 6, 2), (153, .bipush 41, 2), (155, .if_icmp .ne 39, 3), (158, .aload_n 0, 1), (159, .aload_n 0, 1), (160, .getfield 93, 3), (163, .iload_n 3, 1), (164, .iaload, 1), (165, .aload_n 0, 1), (166, .getfield 96, 3), (169, .iload_n 3, 1), (170, .iaload, 1), (171, .invokestatic 298, 3), (174, .putfield 295, 3), (177, .iinc 3 (-1), 3), (180, .aload_n 0, 1), (181, .getfield 99, 3), (184, .iload_n 3, 1), (185, .iaload, 1), (186, .istore 4, 2), (188, .iinc 5 1, 3), (191, .goto 11, 3), (194, .aload_n 0, 1), (195, .iload 5, 2), (197, .invokevirtual 302, 3), (200, .istore 5, 2), (202, .iload 4, 2), (204, .iconst 2, 1), (205, .irem, 1), (206, .iconst 1, 1), (207, .if_icmp .ne 14, 3), (210, .aload_n 0, 1), (211, .aload_n 0, 1), (212, .getfield 295, 3), (215, .invokestatic 305, 3), (218, .putfield 295, 3), (221, .iconst 0, 1), (222, .istore 4, 2), (224, .aload_n 0, 1), (225, .getfield 96, 3), (228, .iload_n 3, 1), (229, .aload_n 0, 1), (230, .getfield 96, 3), (233, .iload_n 3, 1), (234, .iaload, 1), (235, .aload_n 0, 1), (236, .getfield 295, 3), (239, .invokestatic 308, 3), (242, .iastore, 1), (243, .goto (-221), 3), (246, .aload_n 0, 1), (247, .getfield 93, 3), (250, .iconst 0, 1), (251, .iaload, 1), (252, .aload_n 0, 1), (253, .getfield 96, 3), (256, .iconst 0, 1), (257, .iaload, 1), (258, .invokestatic 298, 3), (261, .ireturn, 1)]
set_option maxRecDepth 100000 in
theorem pK_X12_truthOf : q_Iok cX12_truthOf pI_X12_truthOf := ⟨by decide +kernel, by decide +kernel⟩
def pI_X12_passes : q_I := [(0, .iconst 1, 1), (1, .istore_n 2, 1), (2, .iconst 0, 1), (3, .istore_n 3, 1), (4, .iload_n 3, 1), (5, .aload_n 0, 1), (6, .getfield 265, 3), (9, .if_icmp .ge 49, 3), (12, .aload_n 0, 1), (13, .getfield 90, 3), (16, .iload_n 3, 1), (17, .iaload, 1), (18, .iload_n 1, 1), (19, .if_icmp .ne 33, 3), (22, .iload_n 2, 1), (23, .ifCond .eq 27, 3), (26, .aload_n 0, 1), (27, .aload_n 0, 1), (28, .getfield 84, 3), (31, .iload_n 3, 1), (32, .iaload, 1), (33, .aload_n 0, 1), (34, .getfield 87, 3), (37, .iload_n 3, 1), (38, .iaload, 1), (39, .invokevirtual 311, 3), (42, .iconst 1, 1), (43, .if_icmp .ne 7, 3), (46, .iconst 1, 1), (47, .goto 4, 3), (50, .iconst 0, 1), (51, .istore_n 2, 1), (52, .iinc 3 1, 3), (55, .goto (-51), 3), (58, .iload_n 2, 1), (59, .ireturn, 1)]
set_option maxRecDepth 100000 in
theorem pK_X12_passes : q_Iok cX12_passes pI_X12_passes := ⟨by decide +kernel, by decide +kernel⟩
def pI_X12_sameKey : q_I := [(0, .iconst 0, 1), (1, .istore_n 2, 1), (2, .iload_n 2, 1), (3, .aload_n 0, 1), (4, .getfield 223, 3), (7, .if_icmp .ge 69, 3), (10, .aload_n 0, 1), (11, .aload_n 0, 1), (12, .aload_n 0, 1), (13, .getfield 81, 3), (16, .iload_n 2, 1), (17, .iaload, 1), (18, .invokevirtual 242, 3), (21, .aload_n 0, 1), (22, .aload_n 0, 1), (23, .getfield 81, 3), (26, .iload_n 2, 1), (27, .iaload, 1), (28, .invokevirtual 248, 3), (31, .invokevirtual 289, 3), (34, .aload_n 0, 1), (35, .getfield 112, 3), (38, .iconst 3, 1), (39, .iload_n 1, 1), (40, .imul, 1), (41, .iload_n 2, 1), (42, .iadd, 1), (43, .baload, 1), (44, .aload_n 0, 1), (45, .getfield 283, 3), (48, .if_icmp .ne 20, 3), (51, .aload_n 0, 1), (52, .getfield 115, 3), (55, .iconst 3, 1), (56, .iload_n 1, 1), (57, .imul, 1), (58, .iload_n 2, 1), (59, .iadd, 1), (60, .iaload, 1), (61, .aload_n 0, 1), (62, .getfield 286, 3), (65, .if_icmp .eq 5, 3), (68, .iconst 0, 1), (69, .ireturn, 1), (70, .iinc 2 1, 3), (73, .goto (-71), 3), (76, .iconst 1, 1), (77, .ireturn, 1)]
set_option maxRecDepth 100000 in
theorem pK_X12_sameKey : q_Iok cX12_sameKey pI_X12_sameKey := ⟨by decide +kernel, by decide +kernel⟩
def pI_X12_newRow : q_I := [(0, .aload_n 0, 1), (1, .getfield 271, 3), (4, .bipush 30, 2), (6, .if_icmp .ne 10, 3), (9, .aload_n 0, 1), (10, .iconst 1, 1), (11, .putfield 314, 3), (14, .iconst 0, 1), (15, .ireturn, 1), (16, .iconst 4, 1), (17, .aload_n 0, 1), (18, .getfield 271, 3), (21, .imul, 1), (22, .istore_n 1, 1), (23, .iload_n 1, 1), (24, .iconst 4, 1), (25, .aload_n 0, 1), (26, .getfield 271, 3), (29, .imul, 1), (30, .iconst 4, 1), (31, .iadd, 1), (32, .if_icmp .ge 23, 3), (35, .aload_n 0, 1), (36, .getfield 105, 3), (39, .iload_n 1, 1), (40, .iconst 1, 1), (41, .bastore, 1), (42, .aload_n 0, 1), (43, .getfield 108, 3), (46, .iload_n 1, 1), (47, .lconst 0, 1), (48, .lastore, 1), (49, .iinc 1 1, 3), (52, .goto (-29), 3), (55, .iconst 0, 1), (56, .istore_n 1, 1), (57, .iload_n 1, 1), (58, .aload_n 0, 1), (59, .getfield 199, 3), (62, .if_icmp .ge 35, 3), (65, .aload_n 0, 1), (66, .getfield 60, 3), (69, .iload_n 1, 1), (70, .iaload, 1), (71, .sipush 207, 3), (74, .if_icmp .ne 17, 3), (77, .aload_n 0, 1), (78, .getfield 105, 3), (81, .iconst 4, 1), (82, .aload_n 0, 1), (83, .getfield 271, 3), (86, .imul, 1), (87, .iload_n 1, 1), (88, .iadd, 1), (89, .iconst 0, 1), (90, .bastore, 1), (91, .iinc 1 1, 3), (94, .goto (-37), 3), (97, .aload_n 0, 1), (98, .dup, 1), (99, .getfield 271, 3), (102, .iconst 1, 1), (103, .iadd, 1), (104, .putfield 271, 3), (107, .iconst 1, 1), (108, .ireturn, 1)]
set_option maxRecDepth 100000 in
theorem pK_X12_newRow : q_Iok cX12_newRow pI_X12_newRow := ⟨by decide +kernel, by decide +kernel⟩
def pI_X12_groupRow : q_I := [(0, .iconst 0, 1), (1, .istore_n 1, 1), (2, .iload_n 1, 1), (3, .aload_n 0, 1), (4, .getfield 271, 3), (7, .if_icmp .ge 19, 3), (10, .aload_n 0, 1), (11, .iload_n 1, 1), (12, .invokevirtual 317, 3), (15, .ifCond .eq 5, 3), (18, .iload_n 1, 1), (19, .ireturn, 1), (20, .iinc 1 1, 3), (23, .goto (-21), 3), (26, .aload_n 0, 1), (27, .invokevirtual 320, 3), (30, .ifCond .ne 5, 3), (33, .iconst (-1), 1), (34, .ireturn, 1), (35, .iconst 0, 1), (36, .istore_n 1, 1), (37, .iload_n 1, 1), (38, .aload_n 0, 1), (39, .getfield 223, 3), (42, .if_icmp .ge 71, 3), (45, .aload_n 0, 1), (46, .aload_n 0, 1), (47, .aload_n 0, 1), (48, .getfield 81, 3), (51, .iload_n 1, 1), (52, .iaload, 1), (53, .invokevirtual 242, 3), (56, .aload_n 0, 1), (57, .aload_n 0, 1), (58, .getfield 81, 3), (61, .iload_n 1, 1), (62, .iaload, 1), (63, .invokevirtual 248, 3), (66, .invokevirtual 289, 3), (69, .aload_n 0, 1), (70, .getfield 112, 3), (73, .iconst 3, 1), (74, .aload_n 0, 1), (75, .getfield 271, 3), (78, .imul, 1), (79, .iconst 3, 1), (80, .isub, 1), (81, .iload_n 1, 1), (82, .iadd, 1), (83, .aload_n 0, 1), (84, .getfield 283, 3), (87, .bastore, 1), (88, .aload_n 0, 1), (89, .getfield 115, 3), (92, .iconst 3, 1), (93, .aload_n 0, 1), (94, .getfield 271, 3), (97, .imul, 1), (98, .iconst 3, 1), (99, .isub, 1), (100, .iload_n 1, 1), (101, .iadd, 1), (102, .aload_n 0, 1), (103, .getfield 286, 3), (106, .iastore, 1), (107, .iinc 1 1, 3), (110, .goto (-73), 3), (113, .aload_n 0, 1), (114, .getfield 271, 3), (117, .iconst 1, 1), (118, .isub, 1), (119, .ireturn, 1)]
set_option maxRecDepth 100000 in
theorem pK_X12_groupRow : q_Iok cX12_groupRow pI_X12_groupRow := ⟨by decide +kernel, by decide +kernel⟩
def pI_X12_gather : q_I := [(0, .iload_n 2, 1), (1, .sipush 207, 3), (4, .if_icmp .ne 14, 3), (7, .aload_n 0, 1), (8, .getfield 108, 3), (11, .iload_n 1, 1), (12, .dup2, 1), (13, .laload, 1), (14, .lconst 1, 1), (15, .ladd, 1), (16, .lastore, 1), (17, .return_, 1), (18, .aload_n 0, 1), (19, .getfield 283, 3), (22, .ifCond .eq 4, 3), (25, .return_, 1), (26, .aload_n 0, 1), (27, .getfield 105, 3), (30, .iload_n 1, 1), (31, .baload, 1), (32, .istore_n 3, 1), (33, .aload_n 0, 1), (34, .getfield 286, 3), (37, .i2l, 1), (38, .lstore 4, 2), (40, .aload_n 0, 1), (41, .getfield 105, 3), (44, .iload_n 1, 1), (45, .iconst 0, 1), (46, .bastore, 1), (47, .iload_n 2, 1), (48, .sipush 208, 3), (51, .if_icmp .ne 21, 3), (54, .aload_n 0, 1), (55, .getfield 108, 3), (58, .iload_n 1, 1), (59, .aload_n 0, 1), (60, .getfield 108, 3), (63, .iload_n 1, 1), (64, .laload, 1), (65, .lload 4, 2), (67, .ladd, 1), (68, .lastore, 1), (69, .goto 57, 3), (72, .iload_n 3, 1), (73, .ifCond .ne 45, 3), (76, .iload_n 2, 1), (77, .ifCond .eq 41, 3), (80, .iload_n 2, 1), (81, .sipush 209, 3), (84, .if_icmp .ne 15, 3), (87, .lload 4, 2), (89, .aload_n 0, 1), (90, .getfield 108, 3), (93, .iload_n 1, 1), (94, .laload, 1), (95, .lcmp, 1), (96, .ifCond .lt 22, 3), (99, .iload_n 2, 1), (100, .sipush 210, 3), (103, .if_icmp .ne 23, 3), (106, .lload 4, 2), (108, .aload_n 0, 1), (109, .getfield 108, 3), (112, .iload_n 1, 1), (113, .laload, 1), (114, .lcmp, 1), (115, .ifCond .le 11, 3), (118, .aload_n 0, 1), (119, .getfield 108, 3), (122, .iload_n 1, 1), (123, .lload 4, 2), (125, .lastore, 1), (126, .return_, 1)]
set_option maxRecDepth 100000 in
theorem pK_X12_gather : q_Iok cX12_gather pI_X12_gather := ⟨by decide +kernel, by decide +kernel⟩
def pI_X12_found : q_I := [(0, .aload_n 0, 1), (1, .getfield 271, 3), (4, .istore_n 1, 1), (5, .aload_n 0, 1), (6, .getfield 255, 3), (9, .ifCond .eq 11, 3), (12, .aload_n 0, 1), (13, .invokevirtual 324, 3), (16, .istore_n 1, 1), (17, .goto 11, 3), (20, .aload_n 0, 1), (21, .invokevirtual 320, 3), (24, .ifCond .ne 4, 3), (27, .return_, 1), (28, .iload_n 1, 1), (29, .ifCond .ge 4, 3), (32, .return_, 1), (33, .iconst 0, 1), (34, .istore_n 2, 1), (35, .iload_n 2, 1), (36, .aload_n 0, 1), (37, .getfield 199, 3), (40, .if_icmp .ge 60, 3), (43, .aload_n 0, 1), (44, .getfield 60, 3), (47, .iload_n 2, 1), (48, .iaload, 1), (49, .sipush 207, 3), (52, .if_icmp .eq 27, 3), (55, .aload_n 0, 1), (56, .aload_n 0, 1), (57, .aload_n 0, 1), (58, .getfield 63, 3), (61, .iload_n 2, 1), (62, .iaload, 1), (63, .invokevirtual 242, 3), (66, .aload_n 0, 1), (67, .aload_n 0, 1), (68, .getfield 63, 3), (71, .iload_n 2, 1), (72, .iaload, 1), (73, .invokevirtual 248, 3), (76, .invokevirtual 289, 3), (79, .aload_n 0, 1), (80, .iconst 4, 1), (81, .iload_n 1, 1), (82, .imul, 1), (83, .iload_n 2, 1), (84, .iadd, 1), (85, .aload_n 0, 1), (86, .getfield 60, 3), (89, .iload_n 2, 1), (90, .iaload, 1), (91, .invokevirtual 327, 3), (94, .iinc 2 1, 3), (97, .goto (-62), 3), (100, .return_, 1)]
set_option maxRecDepth 100000 in
theorem pK_X12_found : q_Iok cX12_found pI_X12_found := ⟨by decide +kernel, by decide +kernel⟩
def pI_X12_fits : q_I := [(0, .aload_n 0, 1), (1, .aload_n 0, 1), (2, .getfield 75, 3), (5, .iload_n 1, 1), (6, .iaload, 1), (7, .aload_n 0, 1), (8, .getfield 78, 3), (11, .iload_n 1, 1), (12, .iaload, 1), (13, .invokevirtual 311, 3), (16, .iconst 1, 1), (17, .if_icmp .ne 7, 3), (20, .iconst 1, 1), (21, .goto 4, 3), (24, .iconst 0, 1), (25, .ireturn, 1)]
set_option maxRecDepth 100000 in
theorem pK_X12_fits : q_Iok cX12_fits pI_X12_fits := ⟨by decide +kernel, by decide +kernel⟩
def pI_X12_third : q_I := [(0, .iconst 0, 1), (1, .istore_n 1, 1), (2, .iconst 0, 1), (3, .istore_n 2, 1), (4, .iload_n 2, 1), (5, .aload_n 0, 1), (6, .getfield 24, 3), (9, .aload_n 0, 1), (10, .getfield 66, 3), (13, .iconst 2, 1), (14, .iaload, 1), (15, .iaload, 1), (16, .if_icmp .ge 69, 3), (19, .aload_n 0, 1), (20, .getfield 314, 3), (23, .ifCond .ne 62, 3), (26, .aload_n 0, 1), (27, .getfield 102, 3), (30, .iconst 2, 1), (31, .iload_n 2, 1), (32, .iastore, 1), (33, .aload_n 0, 1), (34, .dup, 1), (35, .getfield 330, 3), (38, .iconst 1, 1), (39, .iadd, 1), (40, .putfield 330, 3), (43, .aload_n 0, 1), (44, .iconst 2, 1), (45, .invokevirtual 333, 3), (48, .istore_n 3, 1), (49, .iload_n 1, 1), (50, .ifCond .ne 7, 3), (53, .iload_n 3, 1), (54, .ifCond .eq 7, 3), (57, .iconst 1, 1), (58, .goto 4, 3), (61, .iconst 0, 1), (62, .istore_n 1, 1), (63, .iload_n 3, 1), (64, .ifCond .eq 15, 3), (67, .aload_n 0, 1), (68, .iconst 2, 1), (69, .invokevirtual 336, 3), (72, .ifCond .eq 7, 3), (75, .aload_n 0, 1), (76, .invokevirtual 339, 3), (79, .iinc 2 1, 3), (82, .goto (-78), 3), (85, .aload_n 0, 1), (86, .getfield 314, 3), (89, .ifCond .ne 16, 3), (92, .aload_n 0, 1), (93, .getfield 72, 3), (96, .iconst 2, 1), (97, .baload, 1), (98, .ifCond .eq 7, 3), (101, .iload_n 1, 1), (102, .ifCond .eq 4, 3), (105, .return_, 1), (106, .aload_n 0, 1), (107, .getfield 102, 3), (110, .iconst 2, 1), (111, .iconst (-1), 1), (112, .iastore, 1), (113, .aload_n 0, 1), (114, .iconst 2, 1), (115, .invokevirtual 336, 3), (118, .ifCond .eq 7, 3), (121, .aload_n 0, 1), (122, .invokevirtual 339, 3), (125, .return_, 1)]
set_option maxRecDepth 100000 in
theorem pK_X12_third : q_Iok cX12_third pI_X12_third := ⟨by decide +kernel, by decide +kernel⟩
def pI_X12_afterSecond : q_I := [(0, .aload_n 0, 1), (1, .getfield 121, 3), (4, .iconst 2, 1), (5, .if_icmp .ne 10, 3), (8, .aload_n 0, 1), (9, .invokevirtual 339, 3), (12, .goto 7, 3), (15, .aload_n 0, 1), (16, .invokevirtual 342, 3), (19, .return_, 1)]
set_option maxRecDepth 100000 in
theorem pK_X12_afterSecond : q_Iok cX12_afterSecond pI_X12_afterSecond := ⟨by decide +kernel, by decide +kernel⟩
def pI_X12_second : q_I := [(0, .iconst 0, 1), (1, .istore_n 1, 1), (2, .iconst 0, 1), (3, .istore_n 2, 1), (4, .iload_n 2, 1), (5, .aload_n 0, 1), (6, .getfield 24, 3), (9, .aload_n 0, 1), (10, .getfield 66, 3), (13, .iconst 1, 1), (14, .iaload, 1), (15, .iaload, 1), (16, .if_icmp .ge 69, 3), (19, .aload_n 0, 1), (20, .getfield 314, 3), (23, .ifCond .ne 62, 3), (26, .aload_n 0, 1), (27, .getfield 102, 3), (30, .iconst 1, 1), (31, .iload_n 2, 1), (32, .iastore, 1), (33, .aload_n 0, 1), (34, .dup, 1), (35, .getfield 330, 3), (38, .iconst 1, 1), (39, .iadd, 1), (40, .putfield 330, 3), (43, .aload_n 0, 1), (44, .iconst 1, 1), (45, .invokevirtual 333, 3), (48, .istore_n 3, 1), (49, .iload_n 1, 1), (50, .ifCond .ne 7, 3), (53, .iload_n 3, 1), (54, .ifCond .eq 7, 3), (57, .iconst 1, 1), (58, .goto 4, 3), (61, .iconst 0, 1), (62, .istore_n 1, 1), (63, .iload_n 3, 1), (64, .ifCond .eq 15, 3), (67, .aload_n 0, 1), (68, .iconst 1, 1), (69, .invokevirtual 336, 3), (72, .ifCond .eq 7, 3), (75, .aload_n 0, 1), (76, .invokevirtual 345, 3), (79, .iinc 2 1, 3), (82, .goto (-78), 3), (85, .aload_n 0, 1), (86, .getfield 314, 3), (89, .ifCond .ne 16, 3), (92, .aload_n 0, 1), (93, .getfield 72, 3), (96, .iconst 1, 1), (97, .baload, 1), (98, .ifCond .eq 7, 3), (101, .iload_n 1, 1), (102, .ifCond .eq 4, 3), (105, .return_, 1), (106, .aload_n 0, 1), (107, .getfield 102, 3), (110, .iconst 1, 1), (111, .iconst (-1), 1), (112, .iastore, 1), (113, .aload_n 0, 1), (114, .iconst 1, 1), (115, .invokevirtual 336, 3), (118, .ifCond .eq 7, 3), (121, .aload_n 0, 1), (122, .invokevirtual 345, 3), (125, .return_, 1)]
set_option maxRecDepth 100000 in
theorem pK_X12_second : q_Iok cX12_second pI_X12_second := ⟨by decide +kernel, by decide +kernel⟩
def pI_X12_first : q_I := [(0, .iconst 0, 1), (1, .istore_n 1, 1), (2, .iload_n 1, 1), (3, .aload_n 0, 1), (4, .getfield 24, 3), (7, .aload_n 0, 1), (8, .getfield 66, 3), (11, .iconst 0, 1), (12, .iaload, 1), (13, .iaload, 1), (14, .if_icmp .ge 63, 3), (17, .aload_n 0, 1), (18, .getfield 314, 3), (21, .ifCond .ne 56, 3), (24, .aload_n 0, 1), (25, .getfield 102, 3), (28, .iconst 0, 1), (29, .iload_n 1, 1), (30, .iastore, 1), (31, .aload_n 0, 1), (32, .dup, 1), (33, .getfield 330, 3), (36, .iconst 1, 1), (37, .iadd, 1), (38, .putfield 330, 3), (41, .aload_n 0, 1), (42, .iconst 0, 1), (43, .invokevirtual 336, 3), (46, .ifCond .ne 6, 3), (49, .goto 22, 3), (52, .aload_n 0, 1), (53, .getfield 121, 3), (56, .iconst 1, 1), (57, .if_icmp .ne 10, 3), (60, .aload_n 0, 1), (61, .invokevirtual 339, 3), (64, .goto 7, 3), (67, .aload_n 0, 1), (68, .invokevirtual 348, 3), (71, .iinc 1 1, 3), (74, .goto (-72), 3), (77, .return_, 1)]
set_option maxRecDepth 100000 in
theorem pK_X12_first : q_Iok cX12_first pI_X12_first := ⟨by decide +kernel, by decide +kernel⟩
def pI_X12_run : q_I := [(0, .aload_n 0, 1), (1, .iconst 0, 1), (2, .putfield 118, 3), (5, .aload_n 0, 1), (6, .getfield 124, 3), (9, .ifCond .ne 9, 3), (12, .aload_n 0, 1), (13, .iconst 1, 1), (14, .invokevirtual 139, 3), (17, .ireturn, 1), (18, .aload_n 0, 1), (19, .iconst 0, 1), (20, .putfield 330, 3), (23, .aload_n 0, 1), (24, .iconst 0, 1), (25, .putfield 271, 3), (28, .aload_n 0, 1), (29, .iconst 0, 1), (30, .putfield 314, 3), (33, .aload_n 0, 1), (34, .getfield 255, 3), (37, .ifCond .eq 15, 3), (40, .aload_n 0, 1), (41, .getfield 223, 3), (44, .ifCond .ne 8, 3), (47, .aload_n 0, 1), (48, .invokevirtual 320, 3), (51, .pop, 1), (52, .aload_n 0, 1), (53, .invokevirtual 351, 3), (56, .aload_n 0, 1), (57, .getfield 314, 3), (60, .ifCond .ne 8, 3), (63, .aload_n 0, 1), (64, .getfield 271, 3), (67, .ireturn, 1), (68, .aload_n 0, 1), (69, .iconst 0, 1), (70, .putfield 271, 3), (73, .aload_n 0, 1), (74, .iconst 2, 1), (75, .invokevirtual 139, 3), (78, .ireturn, 1)]
set_option maxRecDepth 100000 in
theorem pK_X12_run : q_Iok cX12_run pI_X12_run := ⟨by decide +kernel, by decide +kernel⟩
end
section
def pI_X12_looked : q_I := [(0, .aload_n 0, 1), (1, .iconst 0, 1), (2, .putfield 118, 3), (5, .aload_n 0, 1), (6, .getfield 330, 3), (9, .ireturn, 1)]
set_option maxRecDepth 100000 in
theorem pK_X12_looked : q_Iok cX12_looked pI_X12_looked := ⟨by decide +kernel, by decide +kernel⟩
def pI_X12_rows : q_I := [(0, .aload_n 0, 1), (1, .iconst 0, 1), (2, .putfield 118, 3), (5, .aload_n 0, 1), (6, .getfield 271, 3), (9, .ireturn, 1)]
set_option maxRecDepth 100000 in
theorem pK_X12_rows : q_Iok cX12_rows pI_X12_rows := ⟨by decide +kernel, by decide +kernel⟩
def pI_X12_isThere : q_I := [(0, .iload_n 1, 1), (1, .ifCond .lt 27, 3), (4, .iload_n 1, 1), (5, .aload_n 0, 1), (6, .getfield 271, 3), (9, .if_icmp .ge 19, 3), (12, .iload_n 2, 1), (13, .ifCond .lt 15, 3), (16, .iload_n 2, 1), (17, .aload_n 0, 1), (18, .getfield 199, 3), (21, .if_icmp .ge 7, 3), (24, .iconst 1, 1), (25, .goto 4, 3), (28, .iconst 0, 1), (29, .ireturn, 1)]
set_option maxRecDepth 100000 in
theorem pK_X12_isThere : q_Iok cX12_isThere pI_X12_isThere := ⟨by decide +kernel, by decide +kernel⟩
def pI_X12_isNull : q_I := [(0, .aload_n 0, 1), (1, .iconst 0, 1), (2, .putfield 118, 3), (5, .aload_n 0, 1), (6, .iload_n 1, 1), (7, .iload_n 2, 1), (8, .invokevirtual 354, 3), (11, .ifCond .eq 20, 3), (14, .aload_n 0, 1), (15, .getfield 105, 3), (18, .iconst 4, 1), (19, .iload_n 1, 1), (20, .imul, 1), (21, .iload_n 2, 1), (22, .iadd, 1), (23, .baload, 1), (24, .ifCond .eq 7, 3), (27, .iconst 1, 1), (28, .goto 4, 3), (31, .iconst 0, 1), (32, .ireturn, 1)]
set_option maxRecDepth 100000 in
theorem pK_X12_isNull : q_Iok cX12_isNull pI_X12_isNull := ⟨by decide +kernel, by decide +kernel⟩
def pI_X12_result : q_I := [(0, .aload_n 0, 1), (1, .iconst 0, 1), (2, .putfield 118, 3), (5, .aload_n 0, 1), (6, .iload_n 1, 1), (7, .iload_n 2, 1), (8, .invokevirtual 354, 3), (11, .ifCond .eq 16, 3), (14, .aload_n 0, 1), (15, .getfield 105, 3), (18, .iconst 4, 1), (19, .iload_n 1, 1), (20, .imul, 1), (21, .iload_n 2, 1), (22, .iadd, 1), (23, .baload, 1), (24, .ifCond .eq 7, 3), (27, .lconst 0, 1), (28, .goto 13, 3), (31, .aload_n 0, 1), (32, .getfield 108, 3), (35, .iconst 4, 1), (36, .iload_n 1, 1), (37, .imul, 1), (38, .iload_n 2, 1), (39, .iadd, 1), (40, .laload, 1), (41, .lreturn, 1)]
set_option maxRecDepth 100000 in
theorem pK_X12_result : q_Iok cX12_result pI_X12_result := ⟨by decide +kernel, by decide +kernel⟩
def pI_J0_length_8abf5 : q_I := [(0, .aload_n 0, 1), (1, .getfield 9, 3), (4, .arraylength, 1), (5, .aload_n 0, 1), (6, .invokevirtual 335, 3), (9, .ishr, 1), (10, .ireturn, 1)]
set_option maxRecDepth 100000 in
theorem pK_J0_length_8abf5 : q_Iok cJ0_length_8abf5 pI_J0_length_8abf5 := ⟨by decide +kernel, by decide +kernel⟩
def pI_J0_coder_7d493 : q_I := [(0, .getstatic 38, 3), (3, .ifCond .eq 10, 3), (6, .aload_n 0, 1), (7, .getfield 15, 3), (10, .goto 4, 3), (13, .iconst 1, 1), (14, .ireturn, 1)]
set_option maxRecDepth 100000 in
theorem pK_J0_coder_7d493 : q_Iok cJ0_coder_7d493 pI_J0_coder_7d493 := ⟨by decide +kernel, by decide +kernel⟩
def pI_J0_charAt_5068e : q_I := [(0, .aload_n 0, 1), (1, .invokevirtual 492, 3), (4, .ifCond .eq 12, 3), (7, .aload_n 0, 1), (8, .getfield 9, 3), (11, .iload_n 1, 1), (12, .invokestatic 495, 3), (15, .ireturn, 1), (16, .aload_n 0, 1), (17, .getfield 9, 3), (20, .iload_n 1, 1), (21, .invokestatic 498, 3), (24, .ireturn, 1)]
set_option maxRecDepth 100000 in
theorem pK_J0_charAt_5068e : q_Iok cJ0_charAt_5068e pI_J0_charAt_5068e := ⟨by decide +kernel, by decide +kernel⟩
def pI_J0_isLatin1_aae02 : q_I := [(0, .getstatic 38, 3), (3, .ifCond .eq 14, 3), (6, .aload_n 0, 1), (7, .getfield 15, 3), (10, .ifCond .ne 7, 3), (13, .iconst 1, 1), (14, .goto 4, 3), (17, .iconst 0, 1), (18, .ireturn, 1)]
set_option maxRecDepth 100000 in
theorem pK_J0_isLatin1_aae02 : q_Iok cJ0_isLatin1_aae02 pI_J0_isLatin1_aae02 := ⟨by decide +kernel, by decide +kernel⟩
def pI_J0_indexOf_0f7a4 : q_I := [(0, .aload_n 0, 1), (1, .iload_n 1, 1), (2, .iconst 0, 1), (3, .invokevirtual 633, 3), (6, .ireturn, 1)]
set_option maxRecDepth 100000 in
theorem pK_J0_indexOf_0f7a4 : q_Iok cJ0_indexOf_0f7a4 pI_J0_indexOf_0f7a4 := ⟨by decide +kernel, by decide +kernel⟩
def pI_J0_indexOf_7cf53 : q_I := [(0, .aload_n 0, 1), (1, .invokevirtual 492, 3), (4, .ifCond .eq 19, 3), (7, .aload_n 0, 1), (8, .getfield 9, 3), (11, .iload_n 1, 1), (12, .iload_n 2, 1), (13, .aload_n 0, 1), (14, .invokevirtual 505, 3), (17, .invokestatic 637, 3), (20, .goto 16, 3), (23, .aload_n 0, 1), (24, .getfield 9, 3), (27, .iload_n 1, 1), (28, .iload_n 2, 1), (29, .aload_n 0, 1), (30, .invokevirtual 505, 3), (33, .invokestatic 640, 3), (36, .ireturn, 1)]
set_option maxRecDepth 100000 in
theorem pK_J0_indexOf_7cf53 : q_Iok cJ0_indexOf_7cf53 pI_J0_indexOf_7cf53 := ⟨by decide +kernel, by decide +kernel⟩
def pI_J1_charAt_3b067 : q_I := [(0, .iload_n 1, 1), (1, .aload_n 0, 1), (2, .arraylength, 1), (3, .invokestatic 9, 3), (6, .aload_n 0, 1), (7, .iload_n 1, 1), (8, .baload, 1), (9, .sipush 255, 3), (12, .iand, 1), (13, .i2c, 1), (14, .ireturn, 1)]
set_option maxRecDepth 100000 in
theorem pK_J1_charAt_3b067 : q_Iok cJ1_charAt_3b067 pI_J1_charAt_3b067 := ⟨by decide +kernel, by decide +kernel⟩
def pI_J1_canEncode_9a6ad : q_I := [(0, .iload_n 0, 1), (1, .ifCond .lt 14, 3), (4, .iload_n 0, 1), (5, .sipush 255, 3), (8, .if_icmp .gt 7, 3), (11, .iconst 1, 1), (12, .goto 4, 3), (15, .iconst 0, 1), (16, .ireturn, 1)]
set_option maxRecDepth 100000 in
theorem pK_J1_canEncode_9a6ad : q_Iok cJ1_canEncode_9a6ad pI_J1_canEncode_9a6ad := ⟨by decide +kernel, by decide +kernel⟩
def pI_J1_indexOf_4cfef : q_I := [(0, .iload_n 1, 1), (1, .invokestatic 88, 3), (4, .ifCond .ne 5, 3), (7, .iconst (-1), 1), (8, .ireturn, 1), (9, .iload_n 2, 1), (10, .iconst 0, 1), (11, .invokestatic 92, 3), (14, .istore_n 2, 1), (15, .iload_n 3, 1), (16, .aload_n 0, 1), (17, .arraylength, 1), (18, .invokestatic 38, 3), (21, .istore_n 3, 1), (22, .iload_n 2, 1), (23, .iload_n 3, 1), (24, .if_icmp .lt 5, 3), (27, .iconst (-1), 1), (28, .ireturn, 1), (29, .aload_n 0, 1), (30, .iload_n 1, 1), (31, .iload_n 2, 1), (32, .iload_n 3, 1), (33, .invokestatic 95, 3), (36, .ireturn, 1)]
set_option maxRecDepth 100000 in
theorem pK_J1_indexOf_4cfef : q_Iok cJ1_indexOf_4cfef pI_J1_indexOf_4cfef := ⟨by decide +kernel, by decide +kernel⟩
def pI_J1_indexOfChar_4cfef : q_I := [(0, .iload_n 1, 1), (1, .i2b, 1), (2, .istore 4, 2), (4, .iload_n 2, 1), (5, .istore 5, 2), (7, .iload 5, 2), (9, .iload_n 3, 1), (10, .if_icmp .ge 21, 3), (13, .aload_n 0, 1), (14, .iload 5, 2), (16, .baload, 1), (17, .iload 4, 2), (19, .if_icmp .ne 6, 3), (22, .iload 5, 2), (24, .ireturn, 1), (25, .iinc 5 1, 3), (28, .goto (-21), 3), (31, .iconst (-1), 1), (32, .ireturn, 1)]
set_option maxRecDepth 100000 in
theorem pK_J1_indexOfChar_4cfef : q_Iok cJ1_indexOfChar_4cfef pI_J1_indexOfChar_4cfef := ⟨by decide +kernel, by decide +kernel⟩
def pI_J0_checkIndex_df160 : q_I := [(0, .iload_n 0, 1), (1, .iload_n 1, 1), (2, .getstatic 1053, 3), (5, .invokestatic 1059, 3), (8, .pop, 1), (9, .return_, 1)]
set_option maxRecDepth 100000 in
theorem pK_J0_checkIndex_df160 : q_Iok cJ0_checkIndex_df160 pI_J0_checkIndex_df160 := ⟨by decide +kernel, by decide +kernel⟩
def pI_J9_max_7cf53 : q_I := [(0, .iload_n 0, 1), (1, .iload_n 1, 1), (2, .if_icmp .lt 7, 3), (5, .iload_n 0, 1), (6, .goto 4, 3), (9, .iload_n 1, 1), (10, .ireturn, 1)]
set_option maxRecDepth 100000 in
theorem pK_J9_max_7cf53 : q_Iok cJ9_max_7cf53 pI_J9_max_7cf53 := ⟨by decide +kernel, by decide +kernel⟩
def pI_J9_max_f86c9 : q_I := [(0, .lload_n 0, 1), (1, .lload_n 2, 1), (2, .lcmp, 1), (3, .ifCond .lt 7, 3), (6, .lload_n 0, 1), (7, .goto 4, 3), (10, .lload_n 2, 1), (11, .lreturn, 1)]
set_option maxRecDepth 100000 in
theorem pK_J9_max_f86c9 : q_Iok cJ9_max_f86c9 pI_J9_max_f86c9 := ⟨by decide +kernel, by decide +kernel⟩
def pI_J9_min_7cf53 : q_I := [(0, .iload_n 0, 1), (1, .iload_n 1, 1), (2, .if_icmp .gt 7, 3), (5, .iload_n 0, 1), (6, .goto 4, 3), (9, .iload_n 1, 1), (10, .ireturn, 1)]
set_option maxRecDepth 100000 in
theorem pK_J9_min_7cf53 : q_Iok cJ9_min_7cf53 pI_J9_min_7cf53 := ⟨by decide +kernel, by decide +kernel⟩
def pI_J9_min_f86c9 : q_I := [(0, .lload_n 0, 1), (1, .lload_n 2, 1), (2, .lcmp, 1), (3, .ifCond .gt 7, 3), (6, .lload_n 0, 1), (7, .goto 4, 3), (10, .lload_n 2, 1), (11, .lreturn, 1)]
set_option maxRecDepth 100000 in
theorem pK_J9_min_f86c9 : q_Iok cJ9_min_f86c9 pI_J9_min_f86c9 := ⟨by decide +kernel, by decide +kernel⟩
def pI_J6_compare_7cf53 : q_I := [(0, .iload_n 0, 1), (1, .iload_n 1, 1), (2, .if_icmp .ge 7, 3), (5, .iconst (-1), 1), (6, .goto 13, 3), (9, .iload_n 0, 1), (10, .iload_n 1, 1), (11, .if_icmp .ne 7, 3), (14, .iconst 0, 1), (15, .goto 4, 3), (18, .iconst 1, 1), (19, .ireturn, 1)]
set_option maxRecDepth 100000 in
theorem pK_J6_compare_7cf53 : q_Iok cJ6_compare_7cf53 pI_J6_compare_7cf53 := ⟨by decide +kernel, by decide +kernel⟩
def pI_J0_checkBoundsBeginEnd_23922 : q_I := [(0, .iload_n 0, 1), (1, .iload_n 1, 1), (2, .iload_n 2, 1), (3, .getstatic 1053, 3), (6, .invokestatic 1062, 3), (9, .pop, 1), (10, .return_, 1)]
set_option maxRecDepth 100000 in
theorem pK_J0_checkBoundsBeginEnd_23922 : q_Iok cJ0_checkBoundsBeginEnd_23922 pI_J0_checkBoundsBeginEnd_23922 := ⟨by decide +kernel, by decide +kernel⟩
def pI_J3_checkIndex_8e157 : q_I := [(0, .iload_n 0, 1), (1, .ifCond .lt 8, 3), (4, .iload_n 0, 1), (5, .iload_n 1, 1), (6, .if_icmp .lt 10, 3), (9, .aload_n 2, 1), (10, .iload_n 0, 1), (11, .iload_n 1, 1), (12, .invokestatic 95, 3), (15, .athrow, 1), (16, .iload_n 0, 1), (17, .ireturn, 1)]
set_option maxRecDepth 100000 in
theorem pK_J3_checkIndex_8e157 : q_Iok cJ3_checkIndex_8e157 pI_J3_checkIndex_8e157 := ⟨by decide +kernel, by decide +kernel⟩
def pI_L_row : q_I := [(0, .aload_n 2, 1), (1, .iconst 0, 1), (2, .aload_n 0, 1), (3, .iload_n 1, 1), (4, .invokevirtual 7, 3), (7, .i2l, 1), (8, .lastore, 1), (9, .goto 9, 3), (12, .astore_n 3, 1), (13, .iconst 1, 1), (14, .ireturn, 1), (15, .astore_n 3, 1), (16, .iconst 2, 1), (17, .ireturn, 1), (18, .iconst 0, 1), (19, .ireturn, 1)]
set_option maxRecDepth 100000 in
theorem pK_L_row : q_Iok cL_row pI_L_row := ⟨by decide +kernel, by decide +kernel⟩
def pI_L_compile : q_I := [(0, .aload_n 1, 1), (1, .iconst 0, 1), (2, .aload_n 0, 1), (3, .invokevirtual 17, 3), (6, .i2l, 1), (7, .lastore, 1), (8, .goto 6, 3), (11, .astore_n 2, 1), (12, .iconst 1, 1), (13, .ireturn, 1), (14, .iconst 0, 1), (15, .ireturn, 1)]
set_option maxRecDepth 100000 in
theorem pK_L_compile : q_Iok cL_compile pI_L_compile := ⟨by decide +kernel, by decide +kernel⟩
def pI_L_run : q_I := [(0, .aload_n 1, 1), (1, .iconst 0, 1), (2, .aload_n 0, 1), (3, .invokevirtual 21, 3), (6, .i2l, 1), (7, .lastore, 1), (8, .goto 9, 3), (11, .astore_n 2, 1), (12, .iconst 1, 1), (13, .ireturn, 1), (14, .astore_n 2, 1), (15, .iconst 2, 1), (16, .ireturn, 1), (17, .iconst 0, 1), (18, .ireturn, 1)]
set_option maxRecDepth 100000 in
theorem pK_L_run : q_Iok cL_run pI_L_run := ⟨by decide +kernel, by decide +kernel⟩
def pI_L_law : q_I := [(0, .new 8, 3), (3, .dup, 1), (4, .invokespecial 26, 3), (7, .astore_n 1, 1), (8, .new 27, 3), (11, .dup, 1), (12, .invokespecial 29, 3), (15, .astore_n 2, 1), (16, .iconst 1, 1), (17, .newarray .long, 2), (19, .astore_n 3, 1), (20, .iconst 0, 1), (21, .istore 4, 2), (23, .iload 4, 2), (25, .aload_n 0, 1), (26, .arraylength, 1), (27, .iconst 3, 1), (28, .isub, 1), (29, .if_icmp .gt 466, 3), (32, .aload_n 0, 1), (33, .iload 4, 2), (35, .iaload, 1), (36, .bipush 15, 2), (38, .iand, 1), (39, .tableswitch 450 0 12 #[65, 102, 127, 140, 196, 221, 248, 292, 305, 349, 362, 375, 412], 65), (104, .aload_n 1, 1), (105, .aload_n 0, 1), (106, .iload 4, 2), (108, .iconst 1, 1), (109, .iadd, 1), (110, .iaload, 1), (111, .aload_n 0, 1), (112, .iload 4, 2), (114, .iconst 2, 1), (115, .iadd, 1), (116, .iaload, 1), (117, .invokevirtual 30, 3), (120, .aload_n 2, 1), (121, .aload_n 0, 1), (122, .iload 4, 2), (124, .iconst 1, 1), (125, .iadd, 1), (126, .iaload, 1), (127, .aload_n 0, 1), (128, .iload 4, 2), (130, .iconst 2, 1), (131, .iadd, 1), (132, .iaload, 1), (133, .invokevirtual 34, 3), (136, .if_icmp .eq 353, 3), (139, .iconst 0, 1), (140, .ireturn, 1), (141, .aload_n 1, 1), (142, .aload_n 0, 1), (143, .iload 4, 2), (145, .iconst 1, 1), (146, .iadd, 1), (147, .iaload, 1), (148, .invokevirtual 35, 3), (151, .aload_n 2, 1), (152, .aload_n 0, 1), (153, .iload 4, 2), (155, .iconst 1, 1), (156, .iadd, 1), (157, .iaload, 1), (158, .invokevirtual 39, 3), (161, .if_icmp .eq 328, 3), (164, .iconst 0, 1), (165, .ireturn, 1), (166, .aload_n 1, 1), (167, .invokevirtual 40, 3), (170, .aload_n 2, 1), (171, .invokevirtual 44, 3), (174, .if_icmp .eq 315, 3), (177, .iconst 0, 1), (178, .ireturn, 1), (179, .aload_n 1, 1), (180, .aload_n 0, 1), (181, .iload 4, 2), (183, .iconst 1, 1), (184, .iadd, 1), (185, .iaload, 1), (186, .aload_n 3, 1), (187, .invokestatic 45, 3), (190, .istore 5, 2), (192, .aload_n 2, 1), (193, .aload_n 0, 1), (194, .iload 4, 2), (196, .iconst 1, 1), (197, .iadd, 1), (198, .iaload, 1), (199, .invokevirtual 50, 3), (202, .istore 6, 2), (204, .aload_n 2, 1), (205, .invokevirtual 51, 3), (208, .iload 5, 2), (210, .if_icmp .eq 5, 3), (213, .iconst 0, 1), (214, .ireturn, 1), (215, .iload 5, 2), (217, .ifCond .ne 15, 3), (220, .aload_n 3, 1), (221, .iconst 0, 1), (222, .laload, 1), (223, .iload 6, 2), (225, .i2l, 1), (226, .lcmp, 1), (227, .ifCond .eq 5, 3), (230, .iconst 0, 1), (231, .ireturn, 1), (232, .goto 257, 3), (235, .aload_n 1, 1), (236, .aload_n 0, 1), (237, .iload 4, 2), (239, .iconst 1, 1), (240, .iadd, 1), (241, .iaload, 1), (242, .invokevirtual 54, 3), (245, .aload_n 2, 1), (246, .aload_n 0, 1), (247, .iload 4, 2), (249, .iconst 1, 1), (250, .iadd, 1), (251, .iaload, 1), (252, .invokevirtual 57, 3), (255, .if_icmp .eq 234, 3), (258, .iconst 0, 1), (259, .ireturn, 1), (260, .aload_n 1, 1), (261, .aload_n 0, 1), (262, .iload 4, 2), (264, .iconst 1, 1), (265, .iadd, 1), (266, .iaload, 1), (267, .i2c, 1), (268, .invokevirtual 58, 3), (271, .aload_n 2, 1), (272, .aload_n 0, 1), (273, .iload 4, 2), (275, .iconst 1, 1), (276, .iadd, 1), (277, .iaload, 1), (278, .i2c, 1), (279, .invokevirtual 62, 3), (282, .if_icmp .eq 207, 3), (285, .iconst 0, 1), (286, .ireturn, 1), (287, .aload_n 1, 1), (288, .aload_n 3, 1), (289, .invokestatic 63, 3), (292, .istore 5, 2), (294, .aload_n 2, 1), (295, .invokevirtual 66, 3), (298, .istore 6, 2), (300, .aload_n 2, 1), (301, .invokevirtual 51, 3), (304, .iload 5, 2), (306, .if_icmp .eq 5, 3), (309, .iconst 0, 1), (310, .ireturn, 1), (311, .iload 5, 2), (313, .ifCond .ne 15, 3), (316, .aload_n 3, 1), (317, .iconst 0, 1), (318, .laload, 1), (319, .iload 6, 2), (321, .i2l, 1), (322, .lcmp, 1), (323, .ifCond .eq 5, 3), (326, .iconst 0, 1), (327, .ireturn, 1), (328, .goto 161, 3), (331, .aload_n 1, 1), (332, .invokevirtual 67, 3), (335, .aload_n 2, 1), (336, .invokevirtual 70, 3), (339, .if_icmp .eq 150, 3), (342, .iconst 0, 1), (343, .ireturn, 1), (344, .aload_n 1, 1), (345, .aload_n 3, 1), (346, .invokestatic 71, 3), (349, .istore 5, 2), (351, .aload_n 2, 1), (352, .invokevirtual 73, 3), (355, .istore 6, 2), (357, .aload_n 2, 1), (358, .invokevirtual 51, 3), (361, .iload 5, 2), (363, .if_icmp .eq 5, 3), (366, .iconst 0, 1), (367, .ireturn, 1), (368, .iload 5, 2), (370, .ifCond .ne 15, 3), (373, .aload_n 3, 1), (374, .iconst 0, 1), (375, .laload, 1), (376, .iload 6, 2), (378, .i2l, 1), (379, .lcmp, 1), (380, .ifCond .eq 5, 3), (383, .iconst 0, 1), (384, .ireturn, 1), (385, .goto 104, 3), (388, .aload_n 1, 1), (389, .invokevirtual 74, 3), (392, .aload_n 2, 1), (393, .invokevirtual 77, 3), (396, .if_icmp .eq 93, 3), (399, .iconst 0, 1), (400, .ireturn, 1), (401, .aload_n 1, 1), (402, .invokevirtual 78, 3), (405, .aload_n 2, 1), (406, .invokevirtual 81, 3), (409, .if_icmp .eq 80, 3), (412, .iconst 0, 1), (413, .ireturn, 1), (414, .aload_n 1, 1), (415, .aload_n 0, 1), (416, .iload 4, 2), (418, .iconst 1, 1), (419, .iadd, 1), (420, .iaload, 1), (421, .aload_n 0, 1), (422, .iload 4, 2), (424, .iconst 2, 1), (425, .iadd, 1), (426, .iaload, 1), (427, .invokevirtual 82, 3), (430, .aload_n 2, 1), (431, .aload_n 0, 1), (432, .iload 4, 2), (434, .iconst 1, 1), (435, .iadd, 1), (436, .iaload, 1), (437, .aload_n 0, 1), (438, .iload 4, 2), (440, .iconst 2, 1), (441, .iadd, 1), (442, .iaload, 1), (443, .invokevirtual 85, 3), (446, .if_icmp .eq 43, 3), (449, .iconst 0, 1), (450, .ireturn, 1), (451, .aload_n 1, 1), (452, .aload_n 0, 1), (453, .iload 4, 2), (455, .iconst 1, 1), (456, .iadd, 1), (457, .iaload, 1), (458, .aload_n 0, 1), (459, .iload 4, 2), (461, .iconst 2, 1), (462, .iadd, 1), (463, .iaload, 1), (464, .invokevirtual 86, 3), (467, .aload_n 2, 1), (468, .aload_n 0, 1), (469, .iload 4, 2), (471, .iconst 1, 1), (472, .iadd, 1), (473, .iaload, 1), (474, .aload_n 0, 1), (475, .iload 4, 2), (477, .iconst 2, 1), (478, .iadd, 1), (479, .iaload, 1), (480, .invokevirtual 90, 3), (483, .lcmp, 1), (484, .ifCond .eq 5, 3), (487, .iconst 0, 1), (488, .ireturn, 1), (489, .iinc 4 3, 3), (492, .goto (-469), 3), (495, .iconst 1, 1), (496, .ireturn, 1)]
set_option maxRecDepth 100000 in
theorem pK_L_law : q_Iok cL_law pI_L_law := ⟨by decide +kernel, by decide +kernel⟩
end
section
def pg_Rn (co : Nat) : String := [RX0, RX1, RX2, RX3, RX4, RX5, RX6, RX7, RX8, RX9, RX10, RX11, RX12, RL, RJ0, RJ1, RJ9, RJ6, RJ2, RJ3, RJ11].getD co ""
def pg_FL : List (List (Nat × Nat × Nat × Nat)) := [[(9, 0, 0, 281), (15, 0, 1, 282), (19, 0, 2, 283), (23, 0, 3, 284)], [(9, 1, 3, 265), (15, 1, 0, 262), (25, 1, 1, 263), (28, 1, 2, 264)], [(9, 2, 5, 308), (15, 2, 6, 309), (19, 2, 7, 310), (23, 2, 8, 311), (27, 2, 0, 303), (37, 2, 1, 304), (44, 2, 2, 305), (47, 2, 3, 306), (51, 2, 4, 307)], [(9, 3, 0, 120), (15, 3, 1, 121), (18, 3, 2, 122), (21, 3, 3, 123), (24, 3, 4, 124), (27, 3, 5, 125), (30, 3, 6, 126), (34, 3, 7, 127)], [(9, 4, 4, 243), (15, 4, 0, 239), (19, 4, 1, 240), (29, 4, 2, 241), (36, 4, 3, 242)], [(12, 5, 0, 185), (23, 5, 1, 186), (27, 5, 2, 187), (31, 5, 3, 188), (34, 5, 4, 189), (37, 5, 5, 190), (40, 5, 6, 191), (44, 5, 7, 192), (48, 5, 8, 193), (51, 5, 9, 194), (54, 5, 10, 195), (57, 5, 11, 196), (60, 5, 12, 197)], [(9, 6, 1, 152), (15, 6, 2, 153), (18, 6, 3, 154), (21, 6, 4, 155), (25, 6, 5, 156), (28, 6, 6, 157), (31, 6, 7, 158), (34, 6, 8, 159), (38, 6, 9, 160), (41, 6, 10, 161), (44, 6, 0, 151)], [(9, 7, 0, 41), (15, 7, 1, 42), (18, 7, 2, 43), (21, 7, 3, 44)], [(9, 8, 0, 78), (15, 8, 1, 79)], [(9, 9, 0, 92), (15, 9, 1, 93), (18, 9, 2, 94), (21, 9, 3, 95), (25, 9, 4, 96)], [(9, 10, 0, 62), (15, 10, 1, 63), (19, 10, 2, 64)], [(10, 11, 0, 331), (19, 11, 1, 332), (26, 11, 2, 333), (33, 11, 3, 334), (40, 11, 4, 335), (49, 11, 5, 336), (58, 11, 6, 337), (65, 11, 7, 338), (74, 11, 8, 339), (78, 11, 9, 340), (82, 11, 10, 341)], [(15, 12, 0, 1176), (21, 12, 2, 1178), (24, 12, 3, 1179), (27, 12, 4, 1180), (30, 12, 5, 1181), (34, 12, 7, 1183), (37, 12, 8, 1184), (40, 12, 10, 1186), (44, 12, 11, 1187), (48, 12, 17, 1193), (51, 12, 18, 1194), (54, 12, 19, 1195), (57, 12, 21, 1197), (60, 12, 24, 1200), (63, 12, 25, 1201), (66, 12, 27, 1203), (69, 12, 28, 1204), (72, 12, 29, 1205), (75, 12, 30, 1206), (78, 12, 31, 1207), (81, 12, 35, 1211), (84, 12, 37, 1213), (87, 12, 38, 1214), (90, 12, 39, 1215), (93, 12, 41, 1217), (96, 12, 42, 1218), (99, 12, 43, 1219), (102, 12, 46, 1222), (105, 12, 50, 1226), (108, 12, 51, 1227), (112, 12, 52, 1228), (115, 12, 53, 1229), (118, 12, 1, 1177), (121, 12, 26, 1202), (124, 12, 22, 1198), (128, 12, 6, 1182), (143, 12, 9, 1185), (146, 12, 12, 1188), (149, 12, 13, 1189), (152, 12, 14, 1190), (170, 12, 15, 1191), (173, 12, 16, 1192), (199, 12, 23, 1199), (211, 12, 20, 1196), (223, 12, 34, 1210), (233, 12, 32, 1208), (236, 12, 33, 1209), (255, 12, 40, 1216), (265, 12, 36, 1212), (271, 12, 49, 1225), (283, 12, 44, 1220), (286, 12, 45, 1221), (295, 12, 54, 1230), (314, 12, 48, 1224), (330, 12, 47, 1223)], [], [(9, 100, 0, 1601), (15, 100, 1, 1602), (38, 101, 0, 619)], [], [], [], [], [], []]
def pg_MK0_0 : List (Nat × Nat × Nat × Nat × Nat × Nat × Nat × Nat × Nat) := [(3, 9, 1, 0, 280, 33, 0, 34, 0), (26, 0, 3, 4, 437, 430, 431, 432, 11)]
def pg_MK0 : List (Nat × Nat × Nat × Nat × Nat × Nat × Nat × Nat × Nat) := pg_MK0_0
def pg_MK1_0 : List (Nat × Nat × Nat × Nat × Nat × Nat × Nat × Nat × Nat) := [(3, 9, 1, 0, 260, 33, 0, 34, 0), (19, 0, 1, 62, 261, 232, 233, 234, 6), (32, 0, 1, 11, 897, 899, 10022, 900, 10), (35, 0, 1, 12, 933, 935, 10024, 936, 10), (38, 0, 1, 13, 966, 968, 10025, 969, 10), (41, 0, 1, 67, 901, 902, 903, 904, 6), (45, 0, 2, 68, 905, 906, 907, 908, 6), (49, 0, 2, 96, 912, 456, 457, 458, 2), (54, 0, 2, 69, 913, 914, 915, 916, 6), (57, 0, 2, 10, 917, 919, 10023, 920, 10), (61, 0, 2, 70, 921, 922, 923, 924, 6), (64, 0, 2, 73, 925, 926, 927, 928, 6)]
def pg_MK1_1 : List (Nat × Nat × Nat × Nat × Nat × Nat × Nat × Nat × Nat) := [(67, 0, 2, 71, 929, 930, 931, 932, 6), (70, 0, 1, 28, 937, 938, 939, 940, 7), (75, 0, 2, 31, 941, 942, 943, 944, 7), (79, 0, 2, 33, 946, 947, 948, 949, 7), (80, 0, 3, 37, 950, 951, 952, 953, 7), (84, 0, 2, 35, 954, 955, 956, 957, 7), (87, 0, 2, 34, 958, 959, 960, 961, 7), (90, 0, 2, 32, 962, 963, 964, 965, 7), (93, 0, 1, 81, 970, 971, 972, 973, 6), (97, 0, 1, 75, 974, 975, 976, 977, 6), (100, 0, 2, 77, 978, 979, 980, 981, 6), (103, 0, 2, 76, 982, 983, 984, 985, 6)]
def pg_MK1_2 : List (Nat × Nat × Nat × Nat × Nat × Nat × Nat × Nat × Nat) := [(106, 0, 2, 80, 986, 987, 988, 989, 6)]
def pg_MK1 : List (Nat × Nat × Nat × Nat × Nat × Nat × Nat × Nat × Nat) := pg_MK1_0 ++ pg_MK1_1 ++ pg_MK1_2
def pg_MK2_0 : List (Nat × Nat × Nat × Nat × Nat × Nat × Nat × Nat × Nat) := [(3, 9, 1, 0, 300, 33, 0, 34, 0), (31, 0, 1, 62, 301, 232, 233, 234, 6), (40, 0, 1, 63, 302, 236, 237, 238, 6), (55, 0, 1, 81, 1029, 971, 972, 973, 6), (58, 0, 1, 75, 1030, 975, 976, 977, 6), (62, 0, 2, 1, 1031, 756, 757, 758, 11), (68, 0, 1, 78, 1032, 1033, 1034, 1035, 6), (71, 0, 1, 3, 1036, 1037, 1038, 1039, 11), (74, 0, 2, 23, 1040, 1042, 10027, 1043, 12), (77, 0, 2, 17, 1065, 1067, 10028, 1068, 12), (81, 0, 1, 67, 1069, 902, 903, 904, 6), (84, 0, 1, 19, 1070, 1072, 10029, 1073, 12)]
def pg_MK2_1 : List (Nat × Nat × Nat × Nat × Nat × Nat × Nat × Nat × Nat) := [(87, 0, 2, 68, 1098, 906, 907, 908, 6), (91, 0, 2, 97, 1099, 464, 465, 466, 2), (96, 0, 5, 41, 1100, 1101, 1102, 1103, 7), (102, 0, 3, 90, 1112, 1113, 1114, 1115, 8), (108, 0, 2, 18, 1138, 1140, 10037, 1141, 12), (111, 0, 2, 72, 1142, 1143, 1144, 1145, 6), (114, 0, 1, 20, 1074, 1076, 10030, 1077, 12), (117, 0, 2, 76, 1059, 983, 984, 985, 6), (120, 0, 2, 77, 1060, 979, 980, 981, 6), (123, 0, 5, 24, 1083, 1085, 10032, 1086, 12), (127, 0, 1, 2, 1078, 422, 423, 424, 11), (129, 0, 2, 21, 1079, 1081, 10031, 1082, 12)]
def pg_MK2_2 : List (Nat × Nat × Nat × Nat × Nat × Nat × Nat × Nat × Nat) := [(132, 1, 2, 22, 1044, 1045, 0, 1046, 12), (136, 0, 2, 79, 1047, 1048, 1049, 1050, 6), (139, 0, 2, 40, 1055, 1056, 1057, 1058, 7), (142, 0, 2, 39, 1051, 1052, 1053, 1054, 7), (145, 0, 5, 7, 1061, 1062, 1063, 1064, 11), (149, 0, 3, 6, 1087, 443, 444, 445, 11), (153, 0, 3, 5, 1088, 434, 435, 436, 11), (157, 1, 3, 25, 1089, 1090, 0, 1091, 12), (161, 1, 2, 228, 1092, 1093, 0, 1094, 23), (167, 1, 2, 226, 1095, 1096, 0, 1097, 23)]
def pg_MK2 : List (Nat × Nat × Nat × Nat × Nat × Nat × Nat × Nat × Nat) := pg_MK2_0 ++ pg_MK2_1 ++ pg_MK2_2
def pg_MK3_0 : List (Nat × Nat × Nat × Nat × Nat × Nat × Nat × Nat × Nat) := [(3, 9, 1, 0, 119, 33, 0, 34, 0), (38, 0, 5, 29, 868, 813, 814, 815, 7), (42, 3, 2, 146, 0, 910, 0, 911, 1), (46, 0, 2, 33, 994, 947, 948, 949, 7), (50, 0, 2, 34, 995, 959, 960, 961, 7), (53, 0, 4, 101, 1104, 1105, 1106, 1107, 2), (59, 0, 4, 102, 1108, 1109, 1110, 1111, 2)]
def pg_MK3 : List (Nat × Nat × Nat × Nat × Nat × Nat × Nat × Nat × Nat) := pg_MK3_0
def pg_MK4_0 : List (Nat × Nat × Nat × Nat × Nat × Nat × Nat × Nat × Nat) := [(3, 9, 1, 0, 230, 33, 0, 34, 0), (23, 0, 1, 62, 231, 232, 233, 234, 6), (32, 0, 1, 63, 235, 236, 237, 238, 6), (39, 0, 1, 60, 763, 764, 765, 766, 6), (42, 0, 2, 125, 775, 776, 777, 778, 5), (48, 0, 1, 44, 787, 789, 10008, 790, 9), (52, 0, 2, 46, 816, 818, 10011, 819, 9), (56, 0, 1, 47, 824, 826, 10012, 827, 9), (59, 0, 1, 48, 881, 883, 10020, 884, 9), (62, 0, 1, 49, 885, 887, 10021, 888, 9), (65, 0, 1, 121, 795, 780, 781, 782, 5), (69, 0, 1, 45, 791, 793, 10009, 794, 9)]
def pg_MK4_1 : List (Nat × Nat × Nat × Nat × Nat × Nat × Nat × Nat × Nat) := [(72, 0, 1, 124, 796, 784, 785, 786, 5), (75, 0, 3, 65, 797, 798, 799, 800, 6), (79, 0, 1, 57, 801, 803, 10010, 804, 9), (82, 0, 1, 122, 805, 806, 807, 808, 5), (85, 1, 1, 58, 809, 810, 0, 811, 9), (88, 0, 6, 64, 820, 821, 822, 823, 6), (92, 0, 2, 50, 828, 830, 10013, 831, 9), (95, 0, 2, 66, 889, 890, 891, 892, 6), (99, 0, 1, 84, 832, 833, 834, 835, 8), (104, 0, 1, 85, 836, 837, 838, 839, 8), (107, 0, 2, 51, 840, 842, 10014, 843, 9), (110, 0, 4, 86, 869, 870, 871, 872, 8)]
def pg_MK4_2 : List (Nat × Nat × Nat × Nat × Nat × Nat × Nat × Nat × Nat) := [(114, 0, 4, 53, 873, 875, 10019, 876, 9), (117, 0, 2, 52, 844, 846, 10015, 847, 9), (120, 0, 2, 54, 848, 850, 10016, 851, 9), (123, 0, 5, 87, 877, 878, 879, 880, 8), (127, 0, 1, 55, 852, 854, 10017, 855, 9), (130, 0, 1, 56, 856, 858, 10018, 859, 9), (133, 0, 1, 123, 860, 861, 862, 863, 5), (136, 0, 3, 30, 864, 865, 866, 867, 7), (142, 0, 5, 29, 812, 813, 814, 815, 7)]
def pg_MK4 : List (Nat × Nat × Nat × Nat × Nat × Nat × Nat × Nat × Nat) := pg_MK4_0 ++ pg_MK4_1 ++ pg_MK4_2
def pg_MK5_0 : List (Nat × Nat × Nat × Nat × Nat × Nat × Nat × Nat × Nat) := [(3, 9, 1, 0, 113, 33, 0, 34, 0), (11, 4, 1, 26, 0, 117, 0, 118, 7), (20, 2, 2, 82, 147, 148, 0, 149, 8), (63, 0, 1, 27, 767, 768, 769, 770, 7), (66, 0, 1, 83, 771, 772, 773, 774, 8), (67, 0, 1, 88, 1002, 1003, 1004, 1005, 8), (70, 3, 2, 146, 0, 910, 0, 911, 1), (74, 0, 3, 38, 990, 991, 992, 993, 7)]
def pg_MK5 : List (Nat × Nat × Nat × Nat × Nat × Nat × Nat × Nat × Nat) := pg_MK5_0
def pg_MK6_0 : List (Nat × Nat × Nat × Nat × Nat × Nat × Nat × Nat × Nat) := [(3, 9, 1, 0, 150, 33, 0, 34, 0), (48, 0, 3, 89, 1006, 1008, 10026, 1009, 8), (52, 1, 2, 225, 1010, 708, 0, 709, 23), (57, 0, 2, 36, 1011, 1012, 1013, 1014, 7), (63, 0, 3, 91, 1116, 1118, 10033, 1119, 8), (66, 0, 2, 92, 1120, 1122, 10034, 1123, 8), (70, 0, 3, 93, 1124, 1126, 10035, 1127, 8), (73, 0, 4, 94, 1129, 1131, 10036, 1132, 8), (77, 1, 2, 227, 1128, 711, 0, 712, 23), (80, 0, 2, 40, 1133, 1056, 1057, 1058, 7), (84, 0, 2, 39, 1134, 1052, 1053, 1054, 7), (87, 1, 2, 229, 1135, 1136, 0, 1137, 25)]
def pg_MK6 : List (Nat × Nat × Nat × Nat × Nat × Nat × Nat × Nat × Nat) := pg_MK6_0
def pg_MK7_0 : List (Nat × Nat × Nat × Nat × Nat × Nat × Nat × Nat × Nat) := [(3, 9, 1, 0, 40, 33, 0, 34, 0), (25, 0, 2, 97, 471, 464, 465, 466, 2), (29, 0, 4, 103, 472, 474, 10000, 475, 2), (33, 0, 2, 130, 476, 477, 478, 479, 3), (38, 0, 2, 131, 480, 481, 482, 483, 3)]
def pg_MK7 : List (Nat × Nat × Nat × Nat × Nat × Nat × Nat × Nat × Nat) := pg_MK7_0
def pg_MK8_0 : List (Nat × Nat × Nat × Nat × Nat × Nat × Nat × Nat × Nat) := [(3, 9, 1, 0, 77, 33, 0, 34, 0), (19, 0, 1, 119, 583, 584, 585, 586, 5), (24, 0, 2, 108, 587, 589, 10002, 590, 4), (28, 0, 3, 109, 591, 593, 10003, 594, 4), (32, 0, 4, 120, 674, 675, 676, 677, 5), (36, 1, 1, 114, 595, 596, 0, 597, 4), (40, 0, 2, 110, 598, 600, 10004, 601, 4), (44, 0, 3, 112, 602, 604, 10005, 605, 4), (48, 1, 1, 116, 678, 679, 0, 680, 4), (51, 0, 3, 111, 681, 683, 10007, 684, 4), (54, 1, 1, 115, 685, 686, 0, 687, 4), (57, 1, 1, 117, 688, 689, 0, 690, 4)]
def pg_MK8_1 : List (Nat × Nat × Nat × Nat × Nat × Nat × Nat × Nat × Nat) := [(62, 0, 4, 113, 607, 609, 10006, 610, 4), (96, 0, 1, 214, 611, 612, 613, 614, 19), (101, 0, 2, 216, 621, 622, 623, 624, 19), (106, 0, 2, 218, 692, 693, 694, 695, 19)]
def pg_MK8 : List (Nat × Nat × Nat × Nat × Nat × Nat × Nat × Nat × Nat) := pg_MK8_0 ++ pg_MK8_1
def pg_MK9_0 : List (Nat × Nat × Nat × Nat × Nat × Nat × Nat × Nat × Nat) := [(3, 9, 1, 0, 91, 33, 0, 34, 0), (28, 0, 1, 121, 779, 780, 781, 782, 5), (32, 0, 1, 124, 783, 784, 785, 786, 5)]
def pg_MK9 : List (Nat × Nat × Nat × Nat × Nat × Nat × Nat × Nat × Nat) := pg_MK9_0
def pg_MK10_0 : List (Nat × Nat × Nat × Nat × Nat × Nat × Nat × Nat × Nat) := [(3, 9, 1, 0, 61, 33, 0, 34, 0)]
def pg_MK10 : List (Nat × Nat × Nat × Nat × Nat × Nat × Nat × Nat × Nat) := pg_MK10_0
def pg_MK11_0 : List (Nat × Nat × Nat × Nat × Nat × Nat × Nat × Nat × Nat) := [(1, 9, 1, 0, 32, 33, 0, 34, 0), (9, 4, 1, 95, 0, 38, 0, 39, 2), (18, 4, 1, 126, 0, 59, 0, 60, 3), (25, 4, 1, 104, 0, 75, 0, 76, 4), (32, 4, 1, 118, 0, 89, 0, 90, 5), (39, 4, 1, 59, 0, 111, 0, 112, 6), (46, 2, 3, 42, 227, 228, 0, 229, 9), (55, 2, 3, 8, 257, 258, 0, 259, 10), (64, 4, 1, 0, 0, 278, 0, 279, 11), (71, 2, 4, 14, 297, 298, 0, 299, 12), (86, 0, 3, 98, 369, 370, 371, 372, 2), (90, 0, 2, 74, 373, 374, 375, 376, 6)]
def pg_MK11_1 : List (Nat × Nat × Nat × Nat × Nat × Nat × Nat × Nat × Nat) := [(94, 0, 3, 129, 381, 382, 383, 384, 3), (98, 0, 2, 96, 455, 456, 457, 458, 2), (102, 0, 1, 127, 459, 460, 461, 462, 3), (106, 0, 2, 97, 463, 464, 465, 466, 2), (109, 0, 3, 99, 467, 468, 469, 470, 2), (113, 0, 1, 128, 484, 485, 486, 487, 3), (128, 0, 2, 100, 393, 394, 395, 396, 2), (131, 0, 2, 105, 401, 402, 403, 404, 4), (134, 0, 2, 107, 579, 580, 581, 582, 4), (138, 0, 1, 106, 751, 752, 753, 754, 4), (139, 0, 2, 1, 755, 756, 757, 758, 11), (142, 0, 1, 43, 759, 760, 761, 762, 9)]
def pg_MK11_2 : List (Nat × Nat × Nat × Nat × Nat × Nat × Nat × Nat × Nat) := [(146, 0, 1, 9, 893, 894, 895, 896, 10), (149, 0, 1, 122, 996, 806, 807, 808, 5), (154, 0, 1, 61, 998, 999, 1000, 1001, 6), (157, 0, 1, 67, 1015, 902, 903, 904, 6), (162, 0, 1, 16, 1025, 1026, 1027, 1028, 12), (170, 0, 1, 2, 421, 422, 423, 424, 11), (172, 0, 1, 15, 413, 414, 415, 416, 12), (175, 0, 3, 4, 429, 430, 431, 432, 11), (178, 0, 3, 5, 433, 434, 435, 436, 11), (181, 0, 3, 6, 442, 443, 444, 445, 11)]
def pg_MK11 : List (Nat × Nat × Nat × Nat × Nat × Nat × Nat × Nat × Nat) := pg_MK11_0 ++ pg_MK11_1 ++ pg_MK11_2
def pg_MK12_0 : List (Nat × Nat × Nat × Nat × Nat × Nat × Nat × Nat × Nat) := [(1, 9, 1, 0, 1167, 33, 0, 34, 0), (131, 0, 3, 152, 1354, 1356, 10038, 1357, 13), (135, 0, 2, 150, 1366, 1368, 10039, 1369, 13), (139, 0, 2, 149, 1370, 1372, 10040, 1373, 13), (155, 0, 2, 158, 1406, 1408, 10046, 1409, 13), (159, 1, 1, 159, 1410, 1411, 0, 1412, 13), (163, 1, 1, 160, 1417, 1418, 0, 1419, 13), (166, 0, 2, 161, 1424, 1426, 10049, 1427, 13), (176, 0, 1, 162, 1413, 1415, 10047, 1416, 13), (180, 0, 2, 163, 1420, 1422, 10048, 1423, 13), (183, 0, 1, 164, 1402, 1404, 10045, 1405, 13), (186, 0, 2, 166, 1398, 1400, 10044, 1401, 13)]
def pg_MK12_1 : List (Nat × Nat × Nat × Nat × Nat × Nat × Nat × Nat × Nat) := [(189, 0, 1, 165, 1428, 1430, 10050, 1431, 13), (192, 1, 3, 168, 1436, 1437, 0, 1438, 13), (196, 0, 2, 167, 1394, 1396, 10043, 1397, 13), (202, 0, 1, 169, 1439, 1441, 10052, 1442, 13), (205, 0, 1, 170, 1432, 1434, 10051, 1435, 13), (208, 0, 1, 172, 1455, 1457, 10056, 1458, 13), (214, 0, 1, 173, 1451, 1453, 10055, 1454, 13), (217, 0, 1, 174, 1459, 1461, 10057, 1462, 13), (220, 0, 1, 175, 1447, 1449, 10054, 1450, 13), (226, 0, 1, 171, 1390, 1392, 10042, 1393, 13), (229, 0, 2, 176, 1443, 1445, 10053, 1446, 13), (239, 0, 1, 177, 1463, 1465, 10058, 1466, 13)]
def pg_MK12_2 : List (Nat × Nat × Nat × Nat × Nat × Nat × Nat × Nat × Nat) := [(242, 0, 2, 180, 1475, 1477, 10061, 1478, 13), (245, 0, 2, 179, 1479, 1481, 10062, 1482, 13), (248, 0, 2, 181, 1483, 1485, 10063, 1486, 13), (251, 0, 3, 182, 1471, 1473, 10060, 1474, 13), (258, 0, 2, 184, 1487, 1489, 10064, 1490, 13), (261, 0, 4, 183, 1491, 1493, 10065, 1494, 13), (268, 0, 3, 186, 1499, 1501, 10067, 1502, 13), (274, 0, 1, 178, 1386, 1388, 10041, 1389, 13), (277, 0, 1, 185, 1467, 1469, 10059, 1470, 13), (280, 0, 1, 187, 1495, 1497, 10066, 1498, 13), (289, 0, 3, 191, 1538, 1540, 10074, 1541, 13), (292, 0, 2, 190, 1534, 1536, 10073, 1537, 13)]
def pg_MK12_3 : List (Nat × Nat × Nat × Nat × Nat × Nat × Nat × Nat × Nat) := [(298, 1, 2, 194, 1527, 1528, 0, 1529, 13), (302, 0, 2, 195, 1530, 1532, 10072, 1533, 13), (305, 1, 1, 192, 1542, 1543, 0, 1544, 13), (308, 1, 2, 193, 1545, 1546, 0, 1547, 13), (311, 0, 3, 196, 1523, 1525, 10071, 1526, 13), (317, 0, 2, 198, 1556, 1558, 10077, 1559, 13), (320, 0, 1, 199, 1511, 1513, 10068, 1514, 13), (324, 0, 1, 200, 1552, 1554, 10076, 1555, 13), (327, 0, 3, 201, 1560, 1562, 10078, 1563, 13), (333, 0, 2, 203, 1568, 1570, 10080, 1571, 13), (336, 0, 2, 197, 1519, 1521, 10070, 1522, 13), (339, 0, 1, 202, 1548, 1550, 10075, 1551, 13)]
def pg_MK12_4 : List (Nat × Nat × Nat × Nat × Nat × Nat × Nat × Nat × Nat) := [(342, 0, 1, 204, 1576, 1578, 10082, 1579, 13), (345, 0, 1, 205, 1572, 1574, 10081, 1575, 13), (348, 0, 1, 206, 1564, 1566, 10079, 1567, 13), (351, 0, 1, 207, 1515, 1517, 10069, 1518, 13), (354, 0, 3, 211, 1592, 1594, 10083, 1595, 13)]
def pg_MK12 : List (Nat × Nat × Nat × Nat × Nat × Nat × Nat × Nat × Nat) := pg_MK12_0 ++ pg_MK12_1 ++ pg_MK12_2 ++ pg_MK12_3 ++ pg_MK12_4
def pg_MK13_0 : List (Nat × Nat × Nat × Nat × Nat × Nat × Nat × Nat × Nat) := [(7, 0, 2, 136, 451, 452, 453, 454, 1), (17, 0, 1, 139, 575, 576, 577, 578, 1), (21, 0, 1, 141, 1020, 1021, 1022, 1023, 1), (26, 2, 1, 132, 29, 30, 0, 31, 1), (29, 2, 1, 147, 1164, 1165, 0, 1166, 13), (30, 0, 3, 133, 365, 366, 367, 368, 1), (34, 0, 3, 151, 1346, 1347, 1348, 1349, 13), (35, 0, 2, 134, 377, 378, 379, 380, 1), (39, 0, 2, 153, 1350, 1351, 1352, 1353, 13), (40, 0, 1, 135, 385, 386, 387, 388, 1), (44, 0, 1, 154, 1358, 1359, 1360, 1361, 13), (45, 5, 3, 232, 446, 447, 0, 448, 0)]
def pg_MK13_1 : List (Nat × Nat × Nat × Nat × Nat × Nat × Nat × Nat × Nat) := [(50, 0, 2, 155, 1362, 1363, 1364, 1365, 13), (51, 0, 1, 148, 1342, 1343, 1344, 1345, 13), (54, 0, 2, 137, 389, 390, 391, 392, 1), (57, 0, 2, 156, 1374, 1375, 1376, 1377, 13), (58, 0, 2, 138, 397, 398, 399, 400, 1), (62, 0, 2, 157, 1378, 1379, 1380, 1381, 13), (63, 5, 2, 233, 572, 573, 0, 574, 0), (66, 0, 1, 188, 1382, 1383, 1384, 1385, 13), (67, 0, 1, 140, 405, 406, 407, 408, 1), (70, 0, 1, 189, 1503, 1504, 1505, 1506, 13), (71, 5, 2, 234, 1016, 1017, 0, 1018, 0), (73, 0, 1, 208, 1507, 1508, 1509, 1510, 13)]
def pg_MK13_2 : List (Nat × Nat × Nat × Nat × Nat × Nat × Nat × Nat × Nat) := [(74, 0, 1, 142, 409, 410, 411, 412, 1), (77, 0, 1, 209, 1580, 1581, 1582, 1583, 13), (78, 0, 1, 143, 417, 418, 419, 420, 1), (81, 0, 1, 210, 1584, 1585, 1586, 1587, 13), (82, 0, 3, 144, 425, 426, 427, 428, 1), (85, 0, 3, 212, 1588, 1589, 1590, 1591, 13), (86, 0, 3, 145, 438, 439, 440, 441, 1), (90, 0, 3, 213, 1596, 1597, 1598, 1599, 13)]
def pg_MK13 : List (Nat × Nat × Nat × Nat × Nat × Nat × Nat × Nat × Nat) := pg_MK13_0 ++ pg_MK13_1 ++ pg_MK13_2
def pg_MK14_0 : List (Nat × Nat × Nat × Nat × Nat × Nat × Nat × Nat × Nat) := [(335, 0, 1, 215, 615, 616, 617, 618, 19), (492, 0, 1, 217, 625, 626, 627, 628, 19), (495, 1, 2, 220, 629, 630, 0, 631, 20), (505, 0, 1, 214, 700, 612, 613, 614, 19), (633, 0, 3, 219, 696, 697, 698, 699, 19), (637, 1, 4, 222, 701, 702, 0, 703, 20), (1059, 1, 3, 231, 637, 638, 0, 639, 21)]
def pg_MK14 : List (Nat × Nat × Nat × Nat × Nat × Nat × Nat × Nat × Nat) := pg_MK14_0
def pg_MK15_0 : List (Nat × Nat × Nat × Nat × Nat × Nat × Nat × Nat × Nat) := [(9, 1, 2, 224, 632, 633, 0, 634, 19), (38, 1, 2, 227, 710, 711, 0, 712, 23), (88, 1, 1, 221, 704, 705, 0, 706, 20), (92, 1, 2, 225, 707, 708, 0, 709, 23), (95, 1, 4, 223, 713, 714, 0, 715, 20)]
def pg_MK15 : List (Nat × Nat × Nat × Nat × Nat × Nat × Nat × Nat × Nat) := pg_MK15_0
def pg_MK16_0 : List (Nat × Nat × Nat × Nat × Nat × Nat × Nat × Nat × Nat) := []
def pg_MK16 : List (Nat × Nat × Nat × Nat × Nat × Nat × Nat × Nat × Nat) := pg_MK16_0
def pg_MK17_0 : List (Nat × Nat × Nat × Nat × Nat × Nat × Nat × Nat × Nat) := []
def pg_MK17 : List (Nat × Nat × Nat × Nat × Nat × Nat × Nat × Nat × Nat) := pg_MK17_0
def pg_MK18_0 : List (Nat × Nat × Nat × Nat × Nat × Nat × Nat × Nat × Nat) := [(183, 1, 2, 227, 720, 711, 0, 712, 23), (224, 1, 2, 225, 719, 708, 0, 709, 23), (241, 1, 3, 230, 728, 729, 0, 730, 19), (414, 1, 2, 224, 649, 633, 0, 634, 19)]
def pg_MK18 : List (Nat × Nat × Nat × Nat × Nat × Nat × Nat × Nat × Nat) := pg_MK18_0
def pg_MK19_0 : List (Nat × Nat × Nat × Nat × Nat × Nat × Nat × Nat × Nat) := []
def pg_MK19 : List (Nat × Nat × Nat × Nat × Nat × Nat × Nat × Nat × Nat) := pg_MK19_0
def pg_MK20_0 : List (Nat × Nat × Nat × Nat × Nat × Nat × Nat × Nat × Nat) := []
def pg_MK20 : List (Nat × Nat × Nat × Nat × Nat × Nat × Nat × Nat × Nat) := pg_MK20_0
def pg_MK : List (List (Nat × Nat × Nat × Nat × Nat × Nat × Nat × Nat × Nat)) := [pg_MK0, pg_MK1, pg_MK2, pg_MK3, pg_MK4, pg_MK5, pg_MK6, pg_MK7, pg_MK8, pg_MK9, pg_MK10, pg_MK11, pg_MK12, pg_MK13, pg_MK14, pg_MK15, pg_MK16, pg_MK17, pg_MK18, pg_MK19, pg_MK20]
def pg_CN : List (List (Nat × Nat × Nat × Nat × Nat)) := [[], [], [], [], [], [(9, 3, 114, 115, 7), (18, 6, 145, 146, 8)], [], [], [], [], [], [(7, 7, 35, 36, 2), (16, 10, 56, 57, 3), (23, 8, 72, 73, 4), (30, 9, 86, 87, 5), (37, 5, 108, 109, 6), (44, 4, 225, 226, 9), (53, 1, 255, 256, 10), (62, 0, 275, 276, 11), (69, 2, 295, 296, 12)], [], [(8, 11, 27, 28, 1), (27, 12, 1162, 1163, 13)], [], [], [], [], [], [], []]
def pg_LD : List (List (Nat × q_V × Nat)) := [[], [], [], [], [], [], [], [], [(60, .inr (.inr 1002), 0), (66, .inr (.inr 1003), 0), (68, .inr (.inr 1004), 0), (70, .inr (.inr 1005), 0), (72, .inr (.inr 1006), 0), (74, .inr (.inr 1007), 0), (76, .inr (.inr 1008), 0), (78, .inr (.inr 1009), 0), (80, .inr (.inr 1010), 0), (82, .inr (.inr 1011), 0), (84, .inr (.inr 1012), 0), (86, .inr (.inr 1013), 0), (88, .inr (.inr 1014), 0), (90, .inr (.inr 1015), 0), (92, .inr (.inr 1016), 0), (94, .inr (.inr 1017), 0), (104, .inr (.inr 1018), 0)], [], [], [(118, .inr (.inr 1000), 0), (125, .inr (.inr 1001), 0), (152, .inr (.inr 1019), 0), (160, .inr (.inr 1020), 0), (167, .inr (.inr 1021), 0)], [(7, .inl (643175540), 1168), (8, .inl (215533), 1169), (9, .inl (343342), 1170), (10, .inl (398548), 1171), (11, .inl (24385093), 1172), (12, .inl (7945904), 1173), (13, .inl (3659220), 1174), (14, .inl (480652), 1175)], [], [], [], [], [], [(227, .inl (65536), 721)], [], [(76, .inl (56320), 750), (110, .inl (55232), 746)]]
def pg_FT : List (List Nat) := [[4, 4, 0, 0], [4, 4, 4, 0], [4, 4, 4, 4, 4, 4, 4, 1, 0], [4, 4, 4, 4, 4, 4, 4, 0], [4, 4, 4, 4, 0], [4, 4, 4, 4, 4, 4, 4, 0, 4, 4, 0, 4, 0], [4, 4, 4, 4, 0, 4, 4, 4, 4, 0, 4], [4, 4, 4, 4], [4, 0], [4, 4, 4, 0, 0], [4, 4, 0], [4, 4, 4, 4, 4, 4, 4, 4, 4, 1, 0], [4, 0, 4, 4, 4, 4, 0, 4, 4, 0, 4, 0, 1, 0, 0, 0, 0, 4, 4, 4, 0, 4, 1, 0, 4, 4, 0, 4, 4, 4, 4, 4, 0, 0, 0, 4, 0, 4, 4, 4, 1, 4, 4, 4, 1, 0, 4, 0, 1, 0, 4, 4, 4, 4, 0]]
def pg_SB : List (List Int) := [[110, 111, 32, 115, 117, 99, 104, 32, 116, 97, 98, 108, 101, 44, 32, 111, 114, 32, 110, 111, 116, 32, 97, 115, 32, 109, 97, 110, 121, 32, 118, 97, 108, 117, 101, 115, 32, 97, 115, 32, 105, 116, 32, 104, 97, 115, 32, 99, 111, 108, 117, 109, 110, 115], [116, 104, 101, 32, 116, 97, 98, 108, 101, 32, 105, 115, 32, 102, 117, 108, 108], [115, 101, 108, 101, 99, 116], [102, 114, 111, 109], [106, 111, 105, 110], [108, 101, 102, 116], [111, 110], [119, 104, 101, 114, 101], [103, 114, 111, 117, 112], [99, 111, 117, 110, 116], [115, 117, 109], [109, 105, 110], [109, 97, 120], [111, 114], [97, 110, 100], [110, 111, 116], [105, 115], [110, 117, 108, 108], [40, 41, 44, 46, 61, 60, 62], [116, 104, 101, 32, 116, 101, 120, 116, 32, 105, 115, 32, 105, 108, 108], [116, 104, 101, 114, 101, 32, 105, 115, 32, 110, 111, 32, 113, 117, 101, 114, 121], [116, 104, 101, 32, 114, 101, 115, 117, 108, 116, 32, 119, 111, 117, 108, 100, 32, 104, 97, 118, 101, 32, 116, 111, 111, 32, 109, 97, 110, 121, 32, 114, 111, 119, 115]]
def pg_SR : q_SRt := [(RX11, 118, "no such table, or not as many values as it has columns", 0), (RX11, 125, "the table is full", 1), (RX8, 60, "select", 2), (RX8, 66, "from", 3), (RX8, 68, "join", 4), (RX8, 70, "left", 5), (RX8, 72, "on", 6), (RX8, 74, "where", 7), (RX8, 76, "group", 8), (RX8, 78, "count", 9), (RX8, 80, "sum", 10), (RX8, 82, "min", 11), (RX8, 84, "max", 12), (RX8, 86, "or", 13), (RX8, 88, "and", 14), (RX8, 90, "not", 15), (RX8, 92, "is", 16), (RX8, 94, "null", 17), (RX8, 104, "(),.=<>", 18), (RX11, 152, "the text is ill", 19), (RX11, 160, "there is no query", 20), (RX11, 167, "the result would have too many rows", 21)]
def pg_NW : List (String × Nat × MethodName × String) := [(RX11, 9, yX7_init, "QueryLoops"), (RX11, 18, yX10_init, "QueryLoops"), (RX11, 25, yX8_init, "QueryLoops"), (RX11, 32, yX9_init, "QueryLoops"), (RX11, 39, yX5_init, "QueryLoops"), (RX5, 11, yX3_init, "QueryLoops"), (RX11, 64, yX0_init, "QueryLoops"), (RX5, 70, yX11_get, "QueryLoops"), (RX3, 42, yX11_get, "QueryLoops")]
def pg_MM : List (Nat × Nat × Nat) := [(0, 2, 240), (0, 0, 0), (0, 0, 0), (0, 0, 0), (0, 0, 0), (0, 0, 0), (0, 0, 0), (0, 0, 0), (1, 0, 0), (1, 0, 0), (1, 0, 0), (1, 0, 0), (1, 0, 0), (1, 0, 0), (2, 2, 180), (2, 0, 0), (2, 0, 0), (2, 0, 0), (2, 0, 0), (2, 0, 0), (2, 0, 0), (2, 0, 0), (2, 0, 0), (2, 0, 0), (2, 0, 0), (2, 0, 0), (3, 7, 910), (3, 0, 0), (3, 0, 0), (3, 0, 0), (3, 0, 0), (3, 0, 0), (3, 0, 0), (3, 0, 0), (3, 0, 0), (3, 0, 0), (3, 0, 0), (3, 0, 0), (3, 0, 0), (3, 0, 0), (3, 0, 0), (3, 0, 0), (4, 0, 0), (4, 0, 0), (4, 0, 0), (4, 0, 0), (4, 0, 0), (4, 0, 0), (4, 0, 0), (4, 0, 0), (4, 0, 0), (4, 0, 0), (4, 0, 0), (4, 0, 0), (4, 0, 0), (4, 0, 0), (4, 0, 0), (4, 0, 0), (4, 0, 0), (5, 25, 1995), (5, 0, 0), (5, 0, 0), (5, 0, 0), (5, 0, 0), (5, 0, 0), (5, 0, 0), (5, 0, 0), (5, 0, 0), (5, 0, 0), (5, 0, 0), (5, 0, 0), (5, 0, 0), (5, 0, 0), (5, 0, 0), (5, 0, 0), (5, 0, 0), (5, 0, 0), (5, 0, 0), (5, 0, 0), (5, 0, 0), (5, 0, 0), (5, 0, 0), (6, 8, 1040), (6, 0, 0), (6, 0, 0), (6, 0, 0), (6, 0, 0), (6, 0, 0), (6, 0, 0), (6, 0, 0), (6, 0, 0), (6, 0, 0), (6, 0, 0), (6, 0, 0), (6, 0, 0), (7, 4, 246), (7, 0, 0), (7, 0, 0), (7, 0, 0), (7, 0, 0), (7, 0, 0), (7, 0, 0), (7, 0, 0), (7, 0, 0), (8, 1, 130), (8, 0, 0), (8, 0, 0), (8, 0, 0), (8, 0, 0), (8, 0, 0), (8, 0, 0), (8, 0, 0), (8, 0, 0), (8, 0, 0), (8, 0, 0), (8, 0, 0), (8, 0, 0), (8, 0, 0), (9, 3, 393), (9, 0, 0), (9, 0, 0), (9, 0, 0), (9, 0, 0), (9, 0, 0), (9, 0, 0), (9, 0, 0), (10, 2, 8), (10, 0, 0), (10, 0, 0), (10, 0, 0), (10, 0, 0), (10, 0, 0), (11, 48, 3241), (11, 0, 0), (11, 0, 0), (11, 0, 0), (11, 0, 0), (11, 0, 0), (11, 0, 0), (11, 0, 0), (11, 0, 0), (11, 0, 0), (11, 0, 0), (11, 0, 0), (11, 0, 0), (11, 0, 0), (11, 0, 0), (12, 31, 1405), (12, 0, 0), (12, 0, 0), (12, 0, 0), (12, 0, 0), (12, 0, 0), (12, 0, 0), (12, 0, 0), (12, 0, 0), (12, 0, 0), (12, 0, 0), (12, 0, 0), (12, 0, 0), (12, 0, 0), (12, 0, 0), (12, 0, 0), (12, 0, 0), (12, 0, 0), (12, 0, 0), (12, 0, 0), (12, 0, 0), (12, 0, 0), (12, 0, 0), (12, 0, 0), (12, 0, 0), (12, 0, 0), (12, 0, 0), (12, 0, 0), (12, 0, 0), (12, 0, 0), (12, 0, 0), (12, 0, 0), (12, 0, 0), (12, 0, 0), (12, 0, 0), (12, 0, 0), (12, 0, 0), (12, 0, 0), (12, 0, 0), (12, 0, 0), (12, 0, 0), (12, 0, 0), (12, 0, 0), (12, 0, 0), (12, 0, 0), (12, 0, 0), (12, 0, 0), (12, 0, 0), (12, 0, 0), (12, 0, 0), (12, 0, 0), (12, 0, 0), (12, 0, 0), (12, 0, 0), (12, 0, 0), (12, 0, 0), (12, 0, 0), (12, 0, 0), (12, 0, 0), (12, 0, 0), (12, 0, 0), (12, 0, 0), (12, 0, 0), (12, 0, 0), (12, 0, 0), (12, 0, 0), (12, 0, 0), (100, 0, 0), (100, 0, 0), (100, 0, 0), (100, 0, 0), (100, 0, 0), (100, 0, 0), (15, 0, 0), (15, 0, 0), (15, 0, 0), (15, 0, 0), (100, 0, 0), (16, 0, 0), (16, 0, 0), (16, 0, 0), (16, 0, 0), (17, 0, 0), (100, 0, 0), (19, 0, 0), (13, 1, 6), (13, 1, 6), (13, 1, 6)]
def pg_RK : List Nat := [0, 0, 1, 1, 1, 1, 2, 0, 0, 1, 0, 0, 0, 0, 0, 1, 1, 1, 1, 1, 1, 1, 1, 0, 0, 2, 0, 0, 1, 1, 1, 1, 1, 1, 1, 1, 1, 0, 1, 1, 1, 0, 0, 1, 1, 1, 1, 1, 1, 1, 1, 1, 1, 0, 1, 1, 1, 1, 1, 0, 0, 0, 3, 3, 0, 0, 0, 1, 1, 1, 1, 1, 1, 1, 1, 1, 1, 1, 1, 1, 1, 1, 0, 0, 1, 1, 0, 0, 0, 1, 1, 1, 0, 1, 1, 0, 1, 1, 1, 0, 1, 1, 1, 1, 0, 1, 0, 0, 1, 1, 1, 1, 1, 1, 1, 1, 1, 1, 0, 0, 0, 1, 1, 1, 0, 1, 0, 1, 0, 1, 1, 1, 0, 1, 1, 1, 1, 1, 1, 1, 1, 1, 1, 1, 1, 2, 1, 0, 1, 1, 1, 1, 1, 1, 1, 1, 1, 1, 1, 1, 1, 0, 1, 1, 1, 0, 1, 0, 1, 0, 0, 0, 0, 0, 0, 0, 0, 0, 0, 0, 1, 1, 0, 0, 1, 0, 0, 0, 1, 1, 1, 0, 1, 1, 1, 1, 1, 1, 1, 1, 1, 0, 0, 1, 0, 0, 0, 0, 1, 1, 1, 1, 1, 2, 1, 1, 1, 1, 1, 1, 1, 1, 1, 1, 0, 1, 2, 1, 2, 1, 0, 1, 1, 1, 1]
def pg_YM : List (MethodName × ByteArray × Nat × Option FieldType) := [(yX0_init, cX0_init, 1, none),
  (yX0_clear, cX0_clear, 2, none),
  (yX0_height, cX0_height, 1, (some .int)),
  (yX0_append, cX0_append, 1, (some .int)),
  (yX0_has, cX0_has, 3, (some .boolean)),
  (yX0_unknownAt, cX0_unknownAt, 3, (some .boolean)),
  (yX0_numberAt, cX0_numberAt, 3, (some .long)),
  (yX0_set, cX0_set, 6, none),
  (yX1_init, cX1_init, 3, none),
  (yX1_firstIll, cX1_firstIll, 1, (some .int)),
  (yX1_noteIll, cX1_noteIll, 2, none),
  (yX1_checkItems, cX1_checkItems, 2, none),
  (yX1_checkColumns, cX1_checkColumns, 3, none),
  (yX1_checkOuts, cX1_checkOuts, 3, none),
  (yX2_init, cX2_init, 4, none),
  (yX2_seen, cX2_seen, 1, (some .int)),
  (yX2_goThroughAll, cX2_goThroughAll, 1, (some .boolean)),
  (yX2_goThrough, cX2_goThrough, 6, (some .boolean)),
  (yX2_goOn, cX2_goOn, 2, (some .boolean)),
  (yX2_gather, cX2_gather, 3, (some .boolean)),
  (yX2_lineOfGroup, cX2_lineOfGroup, 2, (some .int)),
  (yX2_isOfGroup, cX2_isOfGroup, 5, (some .boolean)),
  (yX2_keyOf, cX2_keyOf, 2, (some .int)),
  (yX2_begin, cX2_begin, 5, none),
  (yX2_tally, cX2_tally, 10, none),
  (yX2_joined, cX2_joined, 5, (some .long)),
  (yX3_init, cX3_init, 1, none),
  (yX3_clear, cX3_clear, 1, none),
  (yX3_count, cX3_count, 1, (some .int)),
  (yX3_addColumn, cX3_addColumn, 5, (some .int)),
  (yX3_addConstant, cX3_addConstant, 4, (some .int)),
  (yX3_isColumn, cX3_isColumn, 2, (some .boolean)),
  (yX3_placeOf, cX3_placeOf, 2, (some .int)),
  (yX3_aliasOf, cX3_aliasOf, 2, (some .int)),
  (yX3_letterOf, cX3_letterOf, 2, (some .int)),
  (yX3_lastItemOf, cX3_lastItemOf, 2, (some .int)),
  (yX3_itemOf, cX3_itemOf, 2, (some .int)),
  (yX3_setItem, cX3_setItem, 3, none),
  (yX3_sameColumn, cX3_sameColumn, 3, (some .boolean)),
  (yX3_numberOf, cX3_numberOf, 2, (some .int)),
  (yX3_unknownOf, cX3_unknownOf, 2, (some .boolean)),
  (yX3_load, cX3_load, 6, none),
  (yX4_init, cX4_init, 3, none),
  (yX4_readQuery, cX4_readQuery, 1, (some .boolean)),
  (yX4_readOuts, cX4_readOuts, 2, (some .boolean)),
  (yX4_readOut, cX4_readOut, 4, (some .boolean)),
  (yX4_readItem, cX4_readItem, 5, (some .boolean)),
  (yX4_readJoined, cX4_readJoined, 3, (some .boolean)),
  (yX4_readWhere, cX4_readWhere, 1, (some .boolean)),
  (yX4_readGroup, cX4_readGroup, 3, (some .boolean)),
  (yX4_readCondition, cX4_readCondition, 5, (some .boolean)),
  (yX4_readConjunction, cX4_readConjunction, 3, (some .boolean)),
  (yX4_readPart, cX4_readPart, 3, (some .boolean)),
  (yX4_notePart, cX4_notePart, 4, none),
  (yX4_readTest, cX4_readTest, 3, (some .boolean)),
  (yX4_readComparison, cX4_readComparison, 4, (some .boolean)),
  (yX4_readOperand, cX4_readOperand, 3, (some .int)),
  (yX4_readColumn, cX4_readColumn, 4, (some .int)),
  (yX4_isAlias, cX4_isAlias, 1, (some .boolean)),
  (yX5_init, cX5_init, 1, none),
  (yX5_clear, cX5_clear, 1, none),
  (yX5_settle, cX5_settle, 1, none),
  (yX5_operands, cX5_operands, 1, (some (.object "QueryLoops$Operands"))),
  (yX5_steps, cX5_steps, 1, (some (.object "QueryLoops$Steps"))),
  (yX5_addItem, cX5_addItem, 6, none),
  (yX5_addOut, cX5_addOut, 3, none),
  (yX5_addGrouped, cX5_addGrouped, 2, none),
  (yX5_itemCount, cX5_itemCount, 1, (some .int)),
  (yX5_tableOf, cX5_tableOf, 2, (some .int)),
  (yX5_tablePlaceOf, cX5_tablePlaceOf, 2, (some .int)),
  (yX5_aliasOf, cX5_aliasOf, 2, (some .int)),
  (yX5_aliasPlaceOf, cX5_aliasPlaceOf, 2, (some .int)),
  (yX5_isLeft, cX5_isLeft, 2, (some .boolean)),
  (yX5_itemWith, cX5_itemWith, 3, (some .int)),
  (yX5_uses, cX5_uses, 3, (some .boolean)),
  (yX5_outCount, cX5_outCount, 1, (some .int)),
  (yX5_outKind, cX5_outKind, 2, (some .int)),
  (yX5_outColumn, cX5_outColumn, 2, (some .int)),
  (yX5_groupedCount, cX5_groupedCount, 1, (some .int)),
  (yX5_groupColumn, cX5_groupColumn, 2, (some .int)),
  (yX5_groupsBy, cX5_groupsBy, 3, (some .boolean)),
  (yX5_gathers, cX5_gathers, 2, (some .boolean)),
  (yX6_init, cX6_init, 2, none),
  (yX6_clear, cX6_clear, 1, none),
  (yX6_count, cX6_count, 1, (some .int)),
  (yX6_partCount, cX6_partCount, 1, (some .int)),
  (yX6_add, cX6_add, 4, none),
  (yX6_addPart, cX6_addPart, 5, none),
  (yX6_settle, cX6_settle, 2, none),
  (yX6_lastItemIn, cX6_lastItemIn, 5, (some .int)),
  (yX6_allTrue, cX6_allTrue, 4, (some .boolean)),
  (yX6_truthOf, cX6_truthOf, 6, (some .int)),
  (yX6_turnTop, cX6_turnTop, 2, none),
  (yX6_joinTop, cX6_joinTop, 5, (some .int)),
  (yX6_testOf, cX6_testOf, 6, (some .int)),
  (yX7_init, cX7_init, 1, none),
  (yX7_width, cX7_width, 2, (some .int)),
  (yX7_height, cX7_height, 2, (some .int)),
  (yX7_make, cX7_make, 3, (some .boolean)),
  (yX7_append, cX7_append, 6, none),
  (yX7_dropFirst, cX7_dropFirst, 5, (some .int)),
  (yX7_numberAt, cX7_numberAt, 5, (some .int)),
  (yX7_unknownAt, cX7_unknownAt, 5, (some .boolean)),
  (yX7_cellOf, cX7_cellOf, 4, (some .int)),
  (yX8_init, cX8_init, 1, none),
  (yX8_append, cX8_append, 2, (some .boolean)),
  (yX8_clear, cX8_clear, 1, none),
  (yX8_splitInto, cX8_splitInto, 4, none),
  (yX8_codeAt, cX8_codeAt, 2, (some .char)),
  (yX8_readToken, cX8_readToken, 6, (some .int)),
  (yX8_endOfWord, cX8_endOfWord, 4, (some .int)),
  (yX8_readNumeral, cX8_readNumeral, 8, (some .int)),
  (yX8_wordKind, cX8_wordKind, 3, (some .int)),
  (yX8_spells, cX8_spells, 5, (some .boolean)),
  (yX8_isSmall, cX8_isSmall, 1, (some .boolean)),
  (yX8_isCapital, cX8_isCapital, 1, (some .boolean)),
  (yX8_isDigit, cX8_isDigit, 1, (some .boolean)),
  (yX8_isSign, cX8_isSign, 1, (some .boolean)),
  (yX9_init, cX9_init, 1, none),
  (yX9_clear, cX9_clear, 1, none),
  (yX9_add, cX9_add, 4, none),
  (yX9_nextKind, cX9_nextKind, 1, (some .int)),
  (yX9_nextPlace, cX9_nextPlace, 1, (some .int)),
  (yX9_nextNumber, cX9_nextNumber, 1, (some .int)),
  (yX9_advance, cX9_advance, 1, none),
  (yX9_take, cX9_take, 2, (some .boolean)),
  (yX10_init, cX10_init, 1, none),
  (yX10_size, cX10_size, 1, (some .int)),
  (yX10_clear, cX10_clear, 1, none),
  (yX10_put, cX10_put, 3, (some .boolean)),
  (yX10_numberAt, cX10_numberAt, 2, (some .int)),
  (yX10_unknownAt, cX10_unknownAt, 2, (some .boolean)),
  (yX11_init, cX11_init, 1, none),
  (yX11_declare, cX11_declare, 3, (some .boolean)),
  (yX11_value, cX11_value, 2, (some .boolean)),
  (yX11_nothing, cX11_nothing, 1, (some .boolean)),
  (yX11_row, cX11_row, 5, (some .int)),
  (yX11_drop, cX11_drop, 2, (some .int)),
  (yX11_ask, cX11_ask, 2, (some .boolean)),
  (yX11_compile, cX11_compile, 1, (some .int)),
  (yX11_place, cX11_place, 1, (some .int)),
  (yX11_run, cX11_run, 1, (some .int)),
  (yX11_looked, cX11_looked, 1, (some .int)),
  (yX11_rows, cX11_rows, 1, (some .int)),
  (yX11_isNull, cX11_isNull, 3, (some .boolean)),
  (yX11_result, cX11_result, 3, (some .long)),
  (yX11_get, cX11_get, 2, (some .int)),
  (yX12_init, cX12_init, 1, none),
  (yX12_thrown, cX12_thrown, 1, (some .int)),
  (yX12_fail, cX12_fail, 2, (some .int)),
  (yX12_isTable, cX12_isTable, 2, (some .boolean)),
  (yX12_declare, cX12_declare, 4, (some .boolean)),
  (yX12_put, cX12_put, 3, (some .boolean)),
  (yX12_value, cX12_value, 2, (some .boolean)),
  (yX12_nothing, cX12_nothing, 1, (some .boolean)),
  (yX12_row, cX12_row, 4, (some .int)),
  (yX12_drop, cX12_drop, 3, (some .int)),
  (yX12_ask, cX12_ask, 2, (some .boolean)),
  (yX12_at, cX12_at, 2, (some .char)),
  (yX12_isSmall, cX12_isSmall, 1, (some .boolean)),
  (yX12_isDigit, cX12_isDigit, 1, (some .boolean)),
  (yX12_stop, cX12_stop, 2, none),
  (yX12_readWord, cX12_readWord, 4, (some .int)),
  (yX12_readNumeral, cX12_readNumeral, 5, (some .int)),
  (yX12_look, cX12_look, 3, (some .int)),
  (yX12_wrong, cX12_wrong, 1, none),
  (yX12_take, cX12_take, 2, (some .boolean)),
  (yX12_want, cX12_want, 2, none),
  (yX12_isIn, cX12_isIn, 3, (some .boolean)),
  (yX12_readColumn, cX12_readColumn, 1, none),
  (yX12_readOut, cX12_readOut, 2, none),
  (yX12_readOuts, cX12_readOuts, 1, none),
  (yX12_readOperand, cX12_readOperand, 2, none),
  (yX12_readComparison, cX12_readComparison, 2, none),
  (yX12_closeNots, cX12_closeNots, 1, none),
  (yX12_readCondition, cX12_readCondition, 3, none),
  (yX12_readItem, cX12_readItem, 3, none),
  (yX12_readGroup, cX12_readGroup, 2, none),
  (yX12_readQuery, cX12_readQuery, 3, none),
  (yX12_spot, cX12_spot, 3, none),
  (yX12_itemOf, cX12_itemOf, 3, (some .int)),
  (yX12_columnOf, cX12_columnOf, 2, (some .int)),
  (yX12_checkColumn, cX12_checkColumn, 4, none),
  (yX12_checkRange, cX12_checkRange, 5, none),
  (yX12_isGrouped, cX12_isGrouped, 4, (some .boolean)),
  (yX12_checkAll, cX12_checkAll, 2, none),
  (yX12_addPart, cX12_addPart, 5, none),
  (yX12_findParts, cX12_findParts, 5, none),
  (yX12_compile, cX12_compile, 1, (some .int)),
  (yX12_place, cX12_place, 1, (some .int)),
  (yX12_takeOperand, cX12_takeOperand, 3, (some .int)),
  (yX12_fetch, cX12_fetch, 4, none),
  (yX12_not, cX12_not, 1, (some .int)),
  (yX12_both, cX12_both, 2, (some .int)),
  (yX12_either, cX12_either, 2, (some .int)),
  (yX12_compare, cX12_compare, 7, (some .int)),
  (yX12_truthOf, cX12_truthOf, 7, (some .int)),
  (yX12_passes, cX12_passes, 4, (some .boolean)),
  (yX12_sameKey, cX12_sameKey, 3, (some .boolean)),
  (yX12_newRow, cX12_newRow, 2, (some .boolean)),
  (yX12_groupRow, cX12_groupRow, 2, (some .int)),
  (yX12_gather, cX12_gather, 6, none),
  (yX12_found, cX12_found, 3, none),
  (yX12_fits, cX12_fits, 2, (some .boolean)),
  (yX12_third, cX12_third, 4, none),
  (yX12_afterSecond, cX12_afterSecond, 1, none),
  (yX12_second, cX12_second, 4, none),
  (yX12_first, cX12_first, 2, none),
  (yX12_run, cX12_run, 1, (some .int)),
  (yX12_looked, cX12_looked, 1, (some .int)),
  (yX12_rows, cX12_rows, 1, (some .int)),
  (yX12_isThere, cX12_isThere, 3, (some .boolean)),
  (yX12_isNull, cX12_isNull, 3, (some .boolean)),
  (yX12_result, cX12_result, 3, (some .long)),
  (yJ0_length_8abf5, cJ0_length_8abf5, 1, (some .int)),
  (yJ0_coder_7d493, cJ0_coder_7d493, 1, (some .byte)),
  (yJ0_charAt_5068e, cJ0_charAt_5068e, 2, (some .char)),
  (yJ0_isLatin1_aae02, cJ0_isLatin1_aae02, 1, (some .boolean)),
  (yJ0_indexOf_0f7a4, cJ0_indexOf_0f7a4, 2, (some .int)),
  (yJ0_indexOf_7cf53, cJ0_indexOf_7cf53, 3, (some .int)),
  (yJ1_charAt_3b067, cJ1_charAt_3b067, 2, (some .char)),
  (yJ1_canEncode_9a6ad, cJ1_canEncode_9a6ad, 1, (some .boolean)),
  (yJ1_indexOf_4cfef, cJ1_indexOf_4cfef, 4, (some .int)),
  (yJ1_indexOfChar_4cfef, cJ1_indexOfChar_4cfef, 6, (some .int)),
  (yJ0_checkIndex_df160, cJ0_checkIndex_df160, 2, none),
  (yJ9_max_7cf53, cJ9_max_7cf53, 2, (some .int)),
  (yJ9_max_f86c9, cJ9_max_f86c9, 4, (some .long)),
  (yJ9_min_7cf53, cJ9_min_7cf53, 2, (some .int)),
  (yJ9_min_f86c9, cJ9_min_f86c9, 4, (some .long)),
  (yJ6_compare_7cf53, cJ6_compare_7cf53, 2, (some .int)),
  (yJ0_checkBoundsBeginEnd_23922, cJ0_checkBoundsBeginEnd_23922, 3, none),
  (yJ3_checkIndex_8e157, cJ3_checkIndex_8e157, 3, (some .int)),
  (yL_row, cL_row, 4, (some .int)),
  (yL_compile, cL_compile, 3, (some .int)),
  (yL_run, cL_run, 3, (some .int))]
def pg_ym : q_ym := fun mid => pg_YM.getD mid (⟨"", "", ""⟩, ⟨#[]⟩, 0, none)
def pg_fl (co idx : Nat) : Option (Nat × Nat) := ((pg_FL.getD co []).find? (fun t => t.1 == idx)).map (fun t => (t.2.1, t.2.2.1))
def pg_mk (co idx : Nat) : Option (Nat × Nat × Nat) := ((pg_MK.getD co []).find? (fun t => t.1 == idx)).map (fun t => (t.2.1, t.2.2.1, t.2.2.2.1))
def pg_cn (co idx : Nat) : Option Nat := ((pg_CN.getD co []).find? (fun t => t.1 == idx)).map (fun t => t.2.1)
def pg_ld (co idx : Nat) : Option q_V := ((pg_LD.getD co []).find? (fun t => t.1 == idx)).map (fun t => t.2.1)
def pg_ft (ci j : Nat) : Nat := (pg_FT.getD ci []).getD j 9
def pg_mm (mid : Nat) : Nat × Nat × Nat := pg_MM.getD mid (0, 0, 0)
def pg_nf (ci : Nat) : Nat := (pg_FT.getD ci []).length
def pg_rk (mid : Nat) : Nat := pg_RK.getD mid 9
def pg_P (sc : List Int) : q_P := (pg_fl, pg_mk, pg_cn, pg_ld, pg_ft, pg_mm, pg_nf, pg_SB, pg_rk, sc)
end
section
/-- a word by its place -/
def pt_in (i : Nat) (w : Cond) : Bool := decide (tables_1[i]? = some w) && goodWord w
def pt_se (i : Nat) (w : Cond) : Bool := if i < 10000 then pt_in i w else (decide ((k2_sels lw_privs)[i - 10000]? = some w) && goodWord w)
theorem pt_in_ok {i : Nat} {w : Cond} (h : pt_in i w = true) : w ∈ q_WT := by
  simp only [pt_in, Bool.and_eq_true, decide_eq_true_eq] at h
  exact List.mem_filter.mpr ⟨List.mem_append_right _ (List.mem_of_getElem? h.1), h.2⟩
theorem pt_se_ok {i : Nat} {w : Cond} (h : pt_se i w = true) : w ∈ q_WT := by
  unfold pt_se at h
  split at h
  · exact pt_in_ok h
  · simp only [Bool.and_eq_true, decide_eq_true_eq] at h
    exact List.mem_filter.mpr ⟨List.mem_append_left _ (List.mem_of_getElem? h.1), h.2⟩
theorem pt_find {α β : Type} {tb : List (List (Nat × α))} {co idx : Nat} {f : Nat × α → β} {r : β} (h : ((tb.getD co []).find? (fun t => t.1 == idx)).map f = some r) {ok : Nat → Nat × α → Bool} (hall : tb.zipIdx.all (fun p => p.1.all (ok p.2)) = true) : ∃ t : Nat × α, t.1 = idx ∧ f t = r ∧ ok co t = true := by
  obtain ⟨t, h1, h2⟩ := Option.map_eq_some_iff.mp h
  have hm := List.mem_of_find?_eq_some h1
  have hi : t.1 = idx := by have := List.find?_some h1; simpa using this
  refine ⟨t, hi, h2, ?_⟩
  rcases hc : tb[co]? with _ | x
  · rw [List.getD_eq_getElem?_getD, hc] at hm; simp at hm
  · rw [List.getD_eq_getElem?_getD, hc] at hm
    have hx : (x, co) ∈ tb.zipIdx := by
      rw [List.mem_zipIdx_iff_getElem?]; exact hc
    exact List.all_eq_true.mp (List.all_eq_true.mp hall _ hx) t hm
theorem pt_fin2 {α β : Type} {tb : List (List (Nat × α))} {co idx : Nat} {f : Nat × α → β} {r : β} (h : ((tb.getD co []).find? (fun t => t.1 == idx)).map f = some r) {ok : Nat → Nat × α → Bool} (hall : ∀ (co : Nat) (x : List (Nat × α)), tb[co]? = some x → x.all (ok co) = true) : ∃ t : Nat × α, t.1 = idx ∧ f t = r ∧ ok co t = true := by
  obtain ⟨t, h1, h2⟩ := Option.map_eq_some_iff.mp h
  have hm := List.mem_of_find?_eq_some h1
  have hi : t.1 = idx := by have := List.find?_some h1; simpa using this
  refine ⟨t, hi, h2, ?_⟩
  rcases hc : tb[co]? with _ | x
  · rw [List.getD_eq_getElem?_getD, hc] at hm; simp at hm
  · rw [List.getD_eq_getElem?_getD, hc] at hm
    exact List.all_eq_true.mp (hall co x hc) t hm
def pt_F (co : Nat) (t : Nat × Nat × Nat × Nat) : Bool :=
  if t.2.1 = 100 then (if t.2.2.1 = 0 then pt_in t.2.2.2 (.fieldLink (pg_Rn co) t.1 "java/lang/String" "value" "[B") else pt_in t.2.2.2 (.fieldLink (pg_Rn co) t.1 "java/lang/String" "coder" "B"))
  else if t.2.1 = 101 then pt_in t.2.2.2 (.fieldLink (pg_Rn co) t.1 "java/lang/String" "COMPACT_STRINGS" "Z")
  else match vwCl[t.2.1]? with
    | some (_, T, N) => decide (t.2.2.1 < N) && pt_in t.2.2.2 (.fieldLink (pg_Rn co) t.1 (T t.2.2.1).1 (T t.2.2.1).2.1 (T t.2.2.1).2.2.1)
    | none => false
set_option maxRecDepth 100000 in
theorem pt_Fall : pg_FL.zipIdx.all (fun p => p.1.all (pt_F p.2)) = true := by decide +kernel
theorem pg_Fok {sc : List Int} : q_Fok (pg_P sc) pg_Rn := by
  intro co idx ci j h
  obtain ⟨t, h1, h2, h3⟩ := pt_find (ok := pt_F) h pt_Fall
  simp only [Prod.mk.injEq] at h2
  obtain ⟨rfl, rfl⟩ := h2
  subst h1
  unfold pt_F at h3
  split at h3
  · next e =>
    refine Or.inl ⟨e, ?_⟩
    split at h3
    · next e2 => exact Or.inl ⟨e2, pt_in_ok h3⟩
    · next e2 => exact Or.inr ⟨e2, pt_in_ok h3⟩
  · split at h3
    · next e => exact Or.inr (Or.inl ⟨e, pt_in_ok h3⟩)
    · split at h3
      · next C T N hcl =>
        simp only [Bool.and_eq_true, decide_eq_true_eq] at h3
        refine Or.inr (Or.inr ⟨(List.getElem?_eq_some_iff.mp hcl).1, fun C' T' N' hcl' => ?_⟩)
        rw [hcl] at hcl'
        cases hcl'
        exact ⟨h3.1, pt_in_ok h3.2⟩
      · cases h3
def pt_N (co : Nat) (t : Nat × Nat × Nat × Nat × Nat) : Bool := match vwCl[t.2.1]? with
  | some (C, _, N) => pt_in t.2.2.1 (.classLink (pg_Rn co) t.1 C) && pt_in t.2.2.2.1 (.instantiable C N) && pt_in t.2.2.2.2 (.initialized C)
  | none => false
set_option maxRecDepth 100000 in
theorem pt_Nall : pg_CN.zipIdx.all (fun p => p.1.all (pt_N p.2)) = true := by decide +kernel
theorem pg_Nok {sc : List Int} : q_Nok (pg_P sc) pg_Rn := by
  intro co idx ci h
  obtain ⟨t, h1, h2, h3⟩ := pt_find (ok := pt_N) h pt_Nall
  subst h1; subst h2
  unfold pt_N at h3
  split at h3
  · next C T N hcl =>
    simp only [Bool.and_eq_true] at h3
    exact ⟨C, T, N, hcl, pt_in_ok h3.1.1, pt_in_ok h3.1.2, pt_in_ok h3.2⟩
  · cases h3
def pt_L (co : Nat) (t : Nat × q_V × Nat) : Bool := match t.2.1 with
  | .inl x => decide (-2147483648 ≤ x ∧ x < 2147483648) && pt_in t.2.2 (.constant (pg_Rn co) t.1 (Int32.ofInt x))
  | .inr (.inr k) => decide (1000 ≤ k) && pg_SR.any (fun r => decide (r.1 = pg_Rn co ∧ r.2.1 = t.1 ∧ r.2.2.2 = k - 1000))
  | _ => false
set_option maxRecDepth 100000 in
theorem pt_Lall : pg_LD.zipIdx.all (fun p => p.1.all (pt_L p.2)) = true := by decide +kernel
theorem pg_Lok {sc : List Int} : q_Lok (pg_P sc) pg_SR pg_Rn := by
  intro co idx v h
  obtain ⟨t, h1, h2, h3⟩ := pt_find (ok := pt_L) h pt_Lall
  subst h1; subst h2
  unfold pt_L at h3
  split at h3
  · next x e =>
    simp only [Bool.and_eq_true, decide_eq_true_eq] at h3
    exact Or.inl ⟨x, e, h3.1, pt_in_ok h3.2⟩
  · next k e =>
    simp only [Bool.and_eq_true, decide_eq_true_eq, List.any_eq_true] at h3
    obtain ⟨hk, r, hr, e1, e2, e3⟩ := h3
    refine Or.inr ⟨k - 1000, r.2.2.1, by rw [e, show 1000 + (k - 1000) = k by omega], ?_⟩
    rw [← e1, ← e2, ← e3]
    exact hr
  · cases h3
theorem pg_Aok : q_Aok := ⟨pt_in_ok (i := 54) (by decide +kernel), pt_in_ok (i := 55) (by decide +kernel), pt_in_ok (i := 85) (by decide +kernel), pt_in_ok (i := 294) (by decide +kernel)⟩
theorem pg_Sok {sc : List Int} (h1 : sc.length < 1000) (h2 : ∀ x ∈ sc, q_r x) : q_Sok (pg_P sc) := by
  have h : pg_SB.all (fun bs => decide (bs.length < 1000) && bs.all (fun b => decide (0 ≤ b ∧ b < 128))) = true := by decide +kernel
  refine ⟨fun bs hb => ?_, h1, h2⟩
  have := List.all_eq_true.mp h bs hb
  simp only [Bool.and_eq_true, decide_eq_true_eq, List.all_eq_true] at this
  exact this
/-- idx, way, arguments, method; places of: link, instance or static, selects, code, initialized -/
def pt_M2 (co : Nat) (t : Nat × Nat × Nat × Nat × Nat × Nat × Nat × Nat × Nat) (Y : MethodName × ByteArray × Nat × Option FieldType) : Bool := match Y with
  | (y, b, ml, rt) => pt_in t.2.2.2.2.2.2.2.1 (q_cw (y, b, ml, rt)) && decide (q_hh y = none ∨ t.2.1 = 5) && pt_in t.2.2.2.2.2.2.2.2 (.initialized y.cls) && decide (y.cls ≠ "java/lang/invoke/MethodHandle") && decide (y.cls ≠ "java/lang/invoke/VarHandle") && decide (ml ≤ 40) &&
    (if t.2.1 = 0 then decide (1 ≤ t.2.2.1) && pt_in t.2.2.2.2.1 (.methodLink (pg_Rn co) t.1 y) && pt_in t.2.2.2.2.2.1 (.instanceMethod y) && pt_se t.2.2.2.2.2.2.1 (.selects y.cls y y) && decide ((parseMethodDescriptor y.desc).map (fun d => d.parameters.length) = some (t.2.2.1 - 1)) &&
        (if (pg_mm t.2.2.2.1).1 = 100 then decide (y.cls = "java/lang/String") else match vwCl[(pg_mm t.2.2.2.1).1]? with
          | some q => decide (q.1 = y.cls)
          | none => true)
    else if t.2.1 = 1 then pt_in t.2.2.2.2.1 (.methodLink (pg_Rn co) t.1 y) && pt_in t.2.2.2.2.2.1 (.static y) && decide ((parseMethodDescriptor y.desc).map (fun d => d.parameters.length) = some t.2.2.1)
    else if t.2.1 = 2 then decide (1 ≤ t.2.2.1) && pt_in t.2.2.2.2.1 (.methodLink (pg_Rn co) t.1 y) && pt_in t.2.2.2.2.2.1 (.instanceMethod y) && decide (y.name = "<init>") && decide (rt = none) && decide ((parseMethodDescriptor y.desc).map (fun d => d.parameters.length) = some (t.2.2.1 - 1))
    else if t.2.1 = 5 then (q_hh y).isSome && pt_in t.2.2.2.2.1 (.methodLink (pg_Rn co) t.1 y) && pt_in t.2.2.2.2.2.1 (.static y) && decide ((parseMethodDescriptor y.desc).map (fun d => d.parameters.length) = some t.2.2.1)
    else if t.2.1 = 3 then pg_NW.any (fun w => decide (w.1 = pg_Rn co ∧ w.2.1 = t.1 ∧ w.2.2.1 = y)) && pt_in t.2.2.2.2.2.1 (.static y) && decide ((parseMethodDescriptor y.desc).map (fun d => d.parameters.length) = some t.2.2.1)
    else if t.2.1 = 4 then decide (1 ≤ t.2.2.1) && pg_NW.any (fun w => decide (w.1 = pg_Rn co ∧ w.2.1 = t.1 ∧ w.2.2.1 = y)) && pt_in t.2.2.2.2.2.1 (.instanceMethod y) && decide (y.name = "<init>") && decide (rt = none) && decide ((parseMethodDescriptor y.desc).map (fun d => d.parameters.length) = some (t.2.2.1 - 1))
    else false)
def pt_M (co : Nat) (t : Nat × Nat × Nat × Nat × Nat × Nat × Nat × Nat × Nat) : Bool :=
  if t.2.1 = 9 then decide (t.2.2.1 = 1) && pt_in t.2.2.2.2.1 (.methodLink (pg_Rn co) t.1 Lib.objectInit) && pt_in t.2.2.2.2.2.1 (.instanceMethod Lib.objectInit) && pt_in t.2.2.2.2.2.2.2.1 (.code Lib.objectInit ⟨#[0xb1]⟩ 1 none)
  else pt_M2 co t (pg_ym t.2.2.2.1)
end
section
set_option maxRecDepth 100000 in
theorem pt_M0_0 : pg_MK0_0.all (pt_M 0) = true := by decide +kernel
set_option maxRecDepth 100000 in
theorem pt_M1_0 : pg_MK1_0.all (pt_M 1) = true := by decide +kernel
set_option maxRecDepth 100000 in
theorem pt_M1_1 : pg_MK1_1.all (pt_M 1) = true := by decide +kernel
set_option maxRecDepth 100000 in
theorem pt_M1_2 : pg_MK1_2.all (pt_M 1) = true := by decide +kernel
set_option maxRecDepth 100000 in
theorem pt_M2_0 : pg_MK2_0.all (pt_M 2) = true := by decide +kernel
set_option maxRecDepth 100000 in
theorem pt_M2_1 : pg_MK2_1.all (pt_M 2) = true := by decide +kernel
set_option maxRecDepth 100000 in
theorem pt_M2_2 : pg_MK2_2.all (pt_M 2) = true := by decide +kernel
set_option maxRecDepth 100000 in
theorem pt_M3_0 : pg_MK3_0.all (pt_M 3) = true := by decide +kernel
set_option maxRecDepth 100000 in
theorem pt_M4_0 : pg_MK4_0.all (pt_M 4) = true := by decide +kernel
set_option maxRecDepth 100000 in
theorem pt_M4_1 : pg_MK4_1.all (pt_M 4) = true := by decide +kernel
set_option maxRecDepth 100000 in
theorem pt_M4_2 : pg_MK4_2.all (pt_M 4) = true := by decide +kernel
set_option maxRecDepth 100000 in
theorem pt_M5_0 : pg_MK5_0.all (pt_M 5) = true := by decide +kernel
set_option maxRecDepth 100000 in
theorem pt_M6_0 : pg_MK6_0.all (pt_M 6) = true := by decide +kernel
set_option maxRecDepth 100000 in
theorem pt_M7_0 : pg_MK7_0.all (pt_M 7) = true := by decide +kernel
set_option maxRecDepth 100000 in
theorem pt_M8_0 : pg_MK8_0.all (pt_M 8) = true := by decide +kernel
set_option maxRecDepth 100000 in
theorem pt_M8_1 : pg_MK8_1.all (pt_M 8) = true := by decide +kernel
set_option maxRecDepth 100000 in
theorem pt_M9_0 : pg_MK9_0.all (pt_M 9) = true := by decide +kernel
set_option maxRecDepth 100000 in
theorem pt_M10_0 : pg_MK10_0.all (pt_M 10) = true := by decide +kernel
set_option maxRecDepth 100000 in
theorem pt_M11_0 : pg_MK11_0.all (pt_M 11) = true := by decide +kernel
set_option maxRecDepth 100000 in
theorem pt_M11_1 : pg_MK11_1.all (pt_M 11) = true := by decide +kernel
set_option maxRecDepth 100000 in
theorem pt_M11_2 : pg_MK11_2.all (pt_M 11) = true := by decide +kernel
set_option maxRecDepth 100000 in
theorem pt_M12_0 : pg_MK12_0.all (pt_M 12) = true := by decide +kernel
set_option maxRecDepth 100000 in
theorem pt_M12_1 : pg_MK12_1.all (pt_M 12) = true := by decide +kernel
set_option maxRecDepth 100000 in
theorem pt_M12_2 : pg_MK12_2.all (pt_M 12) = true := by decide +kernel
set_option maxRecDepth 100000 in
theorem pt_M12_3 : pg_MK12_3.all (pt_M 12) = true := by decide +kernel
set_option maxRecDepth 100000 in
theorem pt_M12_4 : pg_MK12_4.all (pt_M 12) = true := by decide +kernel
set_option maxRecDepth 100000 in
theorem pt_M13_0 : pg_MK13_0.all (pt_M 13) = true := by decide +kernel
set_option maxRecDepth 100000 in
theorem pt_M13_1 : pg_MK13_1.all (pt_M 13) = true := by decide +kernel
set_option maxRecDepth 100000 in
theorem pt_M13_2 : pg_MK13_2.all (pt_M 13) = true := by decide +kernel
set_option maxRecDepth 100000 in
theorem pt_M14_0 : pg_MK14_0.all (pt_M 14) = true := by decide +kernel
set_option maxRecDepth 100000 in
theorem pt_M15_0 : pg_MK15_0.all (pt_M 15) = true := by decide +kernel
set_option maxRecDepth 100000 in
theorem pt_M16_0 : pg_MK16_0.all (pt_M 16) = true := by decide +kernel
set_option maxRecDepth 100000 in
theorem pt_M17_0 : pg_MK17_0.all (pt_M 17) = true := by decide +kernel
set_option maxRecDepth 100000 in
theorem pt_M18_0 : pg_MK18_0.all (pt_M 18) = true := by decide +kernel
set_option maxRecDepth 100000 in
theorem pt_M19_0 : pg_MK19_0.all (pt_M 19) = true := by decide +kernel
set_option maxRecDepth 100000 in
theorem pt_M20_0 : pg_MK20_0.all (pt_M 20) = true := by decide +kernel
theorem pt_Mall : ∀ (co : Nat) (x : List (Nat × Nat × Nat × Nat × Nat × Nat × Nat × Nat × Nat)), pg_MK[co]? = some x → x.all (pt_M co) = true := by
  intro co x h
  have hl : co < 21 := (List.getElem?_eq_some_iff.mp h).1
  match co, hl, h with
  | 0, _, h => cases h; simp only [pg_MK0, List.all_append, pt_M0_0, Bool.and_self]
  | 1, _, h => cases h; simp only [pg_MK1, List.all_append, pt_M1_0, pt_M1_1, pt_M1_2, Bool.and_self]
  | 2, _, h => cases h; simp only [pg_MK2, List.all_append, pt_M2_0, pt_M2_1, pt_M2_2, Bool.and_self]
  | 3, _, h => cases h; simp only [pg_MK3, List.all_append, pt_M3_0, Bool.and_self]
  | 4, _, h => cases h; simp only [pg_MK4, List.all_append, pt_M4_0, pt_M4_1, pt_M4_2, Bool.and_self]
  | 5, _, h => cases h; simp only [pg_MK5, List.all_append, pt_M5_0, Bool.and_self]
  | 6, _, h => cases h; simp only [pg_MK6, List.all_append, pt_M6_0, Bool.and_self]
  | 7, _, h => cases h; simp only [pg_MK7, List.all_append, pt_M7_0, Bool.and_self]
  | 8, _, h => cases h; simp only [pg_MK8, List.all_append, pt_M8_0, pt_M8_1, Bool.and_self]
  | 9, _, h => cases h; simp only [pg_MK9, List.all_append, pt_M9_0, Bool.and_self]
  | 10, _, h => cases h; simp only [pg_MK10, List.all_append, pt_M10_0, Bool.and_self]
  | 11, _, h => cases h; simp only [pg_MK11, List.all_append, pt_M11_0, pt_M11_1, pt_M11_2, Bool.and_self]
  | 12, _, h => cases h; simp only [pg_MK12, List.all_append, pt_M12_0, pt_M12_1, pt_M12_2, pt_M12_3, pt_M12_4, Bool.and_self]
  | 13, _, h => cases h; simp only [pg_MK13, List.all_append, pt_M13_0, pt_M13_1, pt_M13_2, Bool.and_self]
  | 14, _, h => cases h; simp only [pg_MK14, List.all_append, pt_M14_0, Bool.and_self]
  | 15, _, h => cases h; simp only [pg_MK15, List.all_append, pt_M15_0, Bool.and_self]
  | 16, _, h => cases h; simp only [pg_MK16, List.all_append, pt_M16_0, Bool.and_self]
  | 17, _, h => cases h; simp only [pg_MK17, List.all_append, pt_M17_0, Bool.and_self]
  | 18, _, h => cases h; simp only [pg_MK18, List.all_append, pt_M18_0, Bool.and_self]
  | 19, _, h => cases h; simp only [pg_MK19, List.all_append, pt_M19_0, Bool.and_self]
  | 20, _, h => cases h; simp only [pg_MK20, List.all_append, pt_M20_0, Bool.and_self]
end
section
theorem pg_Mok {sc : List Int} : q_Mok (pg_P sc) pg_ym pg_NW pg_Rn := by
  intro co idx w na mid h
  obtain ⟨t, h1, h2, h3⟩ := pt_fin2 (ok := pt_M) h pt_Mall
  simp only [Prod.mk.injEq] at h2
  obtain ⟨rfl, rfl, rfl⟩ := h2
  subst h1
  have nw : ∀ {y : MethodName}, pg_NW.any (fun w => decide (w.1 = pg_Rn co ∧ w.2.1 = t.1 ∧ w.2.2.1 = y)) = true → ∃ h, (pg_Rn co, t.1, y, h) ∈ pg_NW := by
    intro y h
    simp only [List.any_eq_true, decide_eq_true_eq] at h
    obtain ⟨w, hw, e1, e2, e3⟩ := h
    exact ⟨w.2.2.2, by rw [← e1, ← e2, ← e3]; exact hw⟩
  unfold pt_M at h3
  split at h3
  · next e =>
    simp only [Bool.and_eq_true, decide_eq_true_eq] at h3
    exact Or.inl ⟨e, h3.1.1.1, pt_in_ok h3.1.1.2, pt_in_ok h3.1.2, pt_in_ok h3.2⟩
  · next e =>
    rcases hY : pg_ym t.2.2.2.1 with ⟨y, b, ml, rt⟩
    rw [hY] at h3
    unfold pt_M2 at h3
    dsimp only at h3
    rw [Bool.and_eq_true] at h3
    obtain ⟨ha, hb⟩ := h3
    simp only [Bool.and_eq_true, decide_eq_true_eq] at ha
    refine Or.inr ⟨e, pt_in_ok ha.1.1.1.1.1, ha.1.1.1.1.2, pt_in_ok ha.1.1.1.2, ha.1.1.2, ha.1.2, ha.2, ?_⟩
    split at hb
    · next e0 =>
      simp only [Bool.and_eq_true, decide_eq_true_eq] at hb
      refine Or.inl ⟨e0, hb.1.1.1.1.1, pt_in_ok hb.1.1.1.1.2, pt_in_ok hb.1.1.1.2, pt_se_ok hb.1.1.2, hb.1.2, ?_⟩
      have hc := hb.2
      split at hc
      · next e1 => exact Or.inl ⟨e1, of_decide_eq_true hc⟩
      · next e1 =>
        refine Or.inr ⟨e1, fun q hq => ?_⟩
        have hq' : vwCl[(pg_mm t.2.2.2.1).1]? = some q := hq
        rw [hq'] at hc
        exact of_decide_eq_true hc
    · split at hb
      · next e0 =>
        simp only [Bool.and_eq_true, decide_eq_true_eq] at hb
        exact Or.inr (Or.inl ⟨e0, pt_in_ok hb.1.1, pt_in_ok hb.1.2, hb.2⟩)
      · split at hb
        · next e0 =>
          simp only [Bool.and_eq_true, decide_eq_true_eq] at hb
          exact Or.inr (Or.inr (Or.inl ⟨e0, hb.1.1.1.1.1, pt_in_ok hb.1.1.1.1.2, pt_in_ok hb.1.1.1.2, hb.1.1.2, hb.1.2, hb.2⟩))
        · split at hb
          · next e0 =>
            simp only [Bool.and_eq_true, decide_eq_true_eq] at hb
            exact Or.inr (Or.inr (Or.inr (Or.inl ⟨e0, Option.isSome_iff_exists.mp hb.1.1.1, pt_in_ok hb.1.1.2, pt_in_ok hb.1.2, hb.2⟩)))
          · split at hb
            · next e0 =>
              simp only [Bool.and_eq_true, decide_eq_true_eq] at hb
              exact Or.inr (Or.inr (Or.inr (Or.inr (Or.inl ⟨e0, nw hb.1.1, pt_in_ok hb.1.2, hb.2⟩))))
            · split at hb
              · next e0 =>
                simp only [Bool.and_eq_true, decide_eq_true_eq] at hb
                exact Or.inr (Or.inr (Or.inr (Or.inr (Or.inr ⟨e0, hb.1.1.1.1.1, nw hb.1.1.1.1.2, pt_in_ok hb.1.1.1.2, hb.1.1.2, hb.1.2, hb.2⟩))))
              · cases hb
end
section
def pt_tc (ty : FieldType) (c : Nat) (fin : Bool) (own C : String) : Bool := match c, ty with
  | 0, .int => !fin
  | 1, .boolean => !fin
  | 4, .object _ => fin && decide (own = C)
  | 4, .array _ => fin && decide (own = C)
  | _, _ => false
def pt_C (ci : Nat) (C : String) (T : u_T) (N : Nat) (ty : Nat → FieldType) (ps : List Nat) : Bool :=
  decide (pg_nf ci = N) && decide (N ≤ 100) && decide (pg_Rn ci = C) && (List.range N).all (fun k => pt_in (ps.getD k 0) (u_lay C T k) && pt_tc (ty k) (pg_ft ci k) (T k).2.2.2 (T k).1 C)
theorem pt_C_ok {sc : List Int} {ci : Nat} {C : String} {T : u_T} {N : Nat} {ty : Nat → FieldType} {ps : List Nat} (h : pt_C ci C T N ty ps = true) (hnm : ∀ a, a < N → ∀ b, b < N → a ≠ b → (T a).2.1 ≠ (T b).2.1) (hty : ∀ k, k < N → parseFieldDescriptor (T k).2.2.1 = some (ty k)) : q_nf (pg_P sc) ci = N ∧ N ≤ 100 ∧ pg_Rn ci = C ∧ (∀ w ∈ u_ws C T N, w ∈ q_WT) ∧ (∀ a, a < N → ∀ b, b < N → a ≠ b → (T a).2.1 ≠ (T b).2.1) ∧
  ∃ ty : Nat → FieldType, (∀ k, k < N → parseFieldDescriptor (T k).2.2.1 = some (ty k)) ∧ ∀ j, j < N → (q_ft (pg_P sc) ci j = 0 ∧ ty j = .int ∧ (T j).2.2.2 = false) ∨ (q_ft (pg_P sc) ci j = 1 ∧ ty j = .boolean ∧ (T j).2.2.2 = false) ∨ (q_ft (pg_P sc) ci j = 4 ∧ (T j).2.2.2 = true ∧ (T j).1 = C ∧ ((∃ n, ty j = .object n) ∨ ∃ t, ty j = .array t)) := by
  simp only [pt_C, Bool.and_eq_true, decide_eq_true_eq, List.all_eq_true, List.mem_range] at h
  obtain ⟨⟨⟨h1, h2⟩, h3⟩, h4⟩ := h
  refine ⟨h1, h2, h3, fun w hw => ?_, hnm, ty, hty, fun j hj => ?_⟩
  · obtain ⟨k, hk, rfl⟩ := List.mem_map.mp hw
    exact pt_in_ok (h4 k (List.mem_range.mp hk)).1
  · have h5 := (h4 j hj).2
    unfold pt_tc at h5
    split at h5
    · next e1 e2 => exact Or.inl ⟨e1, e2, by simpa using h5⟩
    · next e1 e2 => exact Or.inr (Or.inl ⟨e1, e2, by simpa using h5⟩)
    · next n e1 e2 => simp only [Bool.and_eq_true, decide_eq_true_eq] at h5; exact Or.inr (Or.inr ⟨e1, h5.1, h5.2, Or.inl ⟨n, e2⟩⟩)
    · next n e1 e2 => simp only [Bool.and_eq_true, decide_eq_true_eq] at h5; exact Or.inr (Or.inr ⟨e1, h5.1, h5.2, Or.inr ⟨n, e2⟩⟩)
    · cases h5
set_option maxRecDepth 100000 in
theorem pt_C0 : pt_C 0 RX0 TX0 4 tyX0 [285, 287, 289, 291] = true := by decide +kernel
set_option maxRecDepth 100000 in
theorem pt_C1 : pt_C 1 RX1 TX1 4 tyX1 [266, 268, 270, 272] = true := by decide +kernel
set_option maxRecDepth 100000 in
theorem pt_C2 : pt_C 2 RX2 TX2 9 tyX2 [312, 314, 316, 318, 320, 322, 324, 326, 328] = true := by decide +kernel
set_option maxRecDepth 100000 in
theorem pt_C3 : pt_C 3 RX3 TX3 8 tyX3 [128, 130, 132, 134, 136, 138, 140, 142] = true := by decide +kernel
set_option maxRecDepth 100000 in
theorem pt_C4 : pt_C 4 RX4 TX4 5 tyX4 [244, 246, 248, 250, 252] = true := by decide +kernel
set_option maxRecDepth 100000 in
theorem pt_C5 : pt_C 5 RX5 TX5 13 tyX5 [198, 200, 202, 204, 206, 208, 210, 212, 214, 216, 218, 220, 222] = true := by decide +kernel
set_option maxRecDepth 100000 in
theorem pt_C6 : pt_C 6 RX6 TX6 11 tyX6 [162, 164, 166, 168, 170, 172, 174, 176, 178, 180, 182] = true := by decide +kernel
set_option maxRecDepth 100000 in
theorem pt_C7 : pt_C 7 RX7 TX7 4 tyX7 [45, 47, 49, 51] = true := by decide +kernel
set_option maxRecDepth 100000 in
theorem pt_C8 : pt_C 8 RX8 TX8 2 tyX8 [80, 82] = true := by decide +kernel
set_option maxRecDepth 100000 in
theorem pt_C9 : pt_C 9 RX9 TX9 5 tyX9 [97, 99, 101, 103, 105] = true := by decide +kernel
set_option maxRecDepth 100000 in
theorem pt_C10 : pt_C 10 RX10 TX10 3 tyX10 [65, 67, 69] = true := by decide +kernel
set_option maxRecDepth 100000 in
theorem pt_C11 : pt_C 11 RX11 TX11 11 tyX11 [342, 344, 346, 348, 350, 352, 354, 356, 358, 360, 362] = true := by decide +kernel
set_option maxRecDepth 100000 in
theorem pt_C12 : pt_C 12 RX12 TX12 55 tyX12 [1231, 1233, 1235, 1237, 1239, 1241, 1243, 1245, 1247, 1249, 1251, 1253, 1255, 1257, 1259, 1261, 1263, 1265, 1267, 1269, 1271, 1273, 1275, 1277, 1279, 1281, 1283, 1285, 1287, 1289, 1291, 1293, 1295, 1297, 1299, 1301, 1303, 1305, 1307, 1309, 1311, 1313, 1315, 1317, 1319, 1321, 1323, 1325, 1327, 1329, 1331, 1333, 1335, 1337, 1339] = true := by decide +kernel
theorem pg_Cok {sc : List Int} : q_Cok (pg_P sc) pg_Rn := by
  intro ci C T N h
  have hl : ci < 13 := (List.getElem?_eq_some_iff.mp h).1
  match ci, hl, h with
  | 0, _, h => cases h; exact pt_C_ok pt_C0 nmX0 tyX0_ok
  | 1, _, h => cases h; exact pt_C_ok pt_C1 nmX1 tyX1_ok
  | 2, _, h => cases h; exact pt_C_ok pt_C2 nmX2 tyX2_ok
  | 3, _, h => cases h; exact pt_C_ok pt_C3 nmX3 tyX3_ok
  | 4, _, h => cases h; exact pt_C_ok pt_C4 nmX4 tyX4_ok
  | 5, _, h => cases h; exact pt_C_ok pt_C5 nmX5 tyX5_ok
  | 6, _, h => cases h; exact pt_C_ok pt_C6 nmX6 tyX6_ok
  | 7, _, h => cases h; exact pt_C_ok pt_C7 nmX7 tyX7_ok
  | 8, _, h => cases h; exact pt_C_ok pt_C8 nmX8 tyX8_ok
  | 9, _, h => cases h; exact pt_C_ok pt_C9 nmX9 tyX9_ok
  | 10, _, h => cases h; exact pt_C_ok pt_C10 nmX10 tyX10_ok
  | 11, _, h => cases h; exact pt_C_ok pt_C11 nmX11 tyX11_ok
  | 12, _, h => cases h; exact pt_C_ok pt_C12 nmX12 tyX12_ok
theorem pg_Tb {sc : List Int} (h1 : sc.length < 1000) (h2 : ∀ x ∈ sc, q_r x) : q_Tb (pg_P sc) pg_ym pg_NW pg_SR pg_Rn := ⟨pg_Fok, pg_Cok, pg_Nok, pg_Lok, pg_Aok, pg_Sok h1 h2, pg_Mok⟩
def pg_ML0 : List ((MethodName × ByteArray × Nat × Option FieldType) × q_R) := [((yX0_init, cX0_init, 1, none), (0, true, 1, pI_X0_init, [(30, [])])),
  ((yX0_clear, cX0_clear, 2, none), (0, false, 2, pI_X0_clear, [(10, [])])),
  ((yX0_height, cX0_height, 1, (some .int)), (0, false, 1, pI_X0_height, [(4, [])])),
  ((yX0_append, cX0_append, 1, (some .int)), (0, false, 1, pI_X0_append, [(10, []), (27, [])])),
  ((yX0_has, cX0_has, 3, (some .boolean)), (0, false, 3, pI_X0_has, [(40, [])])),
  ((yX0_unknownAt, cX0_unknownAt, 3, (some .boolean)), (0, false, 3, pI_X0_unknownAt, [(27, [])])),
  ((yX0_numberAt, cX0_numberAt, 3, (some .long)), (0, false, 3, pI_X0_numberAt, [(23, [])])),
  ((yX0_set, cX0_set, 6, none), (0, false, 6, pI_X0_set, [(41, [])])),
  ((yX1_init, cX1_init, 3, none), (1, true, 3, pI_X1_init, [(27, [])])),
  ((yX1_firstIll, cX1_firstIll, 1, (some .int)), (1, false, 1, pI_X1_firstIll, [(21, [])])),
  ((yX1_noteIll, cX1_noteIll, 2, none), (1, false, 2, pI_X1_noteIll, [(21, [])])),
  ((yX1_checkItems, cX1_checkItems, 2, none), (1, false, 2, pI_X1_checkItems, [(2, [0, 1]), (80, [])])),
  ((yX1_checkColumns, cX1_checkColumns, 3, none), (1, false, 3, pI_X1_checkColumns, [(2, [0, 1]), (110, [])])),
  ((yX1_checkOuts, cX1_checkOuts, 3, none), (1, false, 3, pI_X1_checkOuts, [(10, []), (13, [0, 1]), (76, [])])),
  ((yX2_init, cX2_init, 4, none), (2, true, 4, pI_X2_init, [(61, [])])),
  ((yX2_seen, cX2_seen, 1, (some .int)), (2, false, 1, pI_X2_seen, [(4, [])])),
  ((yX2_goThroughAll, cX2_goThroughAll, 1, (some .boolean)), (2, false, 1, pI_X2_goThroughAll, [(63, [])])),
  ((yX2_goThrough, cX2_goThrough, 6, (some .boolean)), (2, false, 6, pI_X2_goThrough, [(20, []), (45, [0, 1, 2, 3, 4, 5]), (100, []), (124, []), (144, [])])),
  ((yX2_goOn, cX2_goOn, 2, (some .boolean)), (2, false, 2, pI_X2_goOn, [(27, [])])),
  ((yX2_gather, cX2_gather, 3, (some .boolean)), (2, false, 3, pI_X2_gather, [(35, []), (43, [0, 1, 2]), (83, [])])),
  ((yX2_lineOfGroup, cX2_lineOfGroup, 2, (some .int)), (2, false, 2, pI_X2_lineOfGroup, [(2, [0, 1]), (22, []), (30, [])])),
  ((yX2_isOfGroup, cX2_isOfGroup, 5, (some .boolean)), (2, false, 5, pI_X2_isOfGroup, [(2, [0, 1, 2]), (80, []), (88, [])])),
  ((yX2_keyOf, cX2_keyOf, 2, (some .int)), (2, false, 2, pI_X2_keyOf, [(28, [])])),
  ((yX2_begin, cX2_begin, 5, none), (2, false, 5, pI_X2_begin, [(2, [0, 1, 2]), (74, [0, 1, 2]), (170, [])])),
  ((yX2_tally, cX2_tally, 10, none), (2, false, 10, pI_X2_tally, [(105, [])])),
  ((yX2_joined, cX2_joined, 5, (some .long)), (2, false, 5, pI_X2_joined, [(10, []), (31, [])])),
  ((yX3_init, cX3_init, 1, none), (3, true, 1, pI_X3_init, [(72, [])])),
  ((yX3_clear, cX3_clear, 1, none), (3, false, 1, pI_X3_clear, [(5, [])])),
  ((yX3_count, cX3_count, 1, (some .int)), (3, false, 1, pI_X3_count, [(4, [])])),
  ((yX3_addColumn, cX3_addColumn, 5, (some .int)), (3, false, 5, pI_X3_addColumn, [(18, []), (106, [])]))]
def pg_ML1 : List ((MethodName × ByteArray × Nat × Option FieldType) × q_R) := [((yX3_addConstant, cX3_addConstant, 4, (some .int)), (3, false, 4, pI_X3_addConstant, [(35, [])])),
  ((yX3_isColumn, cX3_isColumn, 2, (some .boolean)), (3, false, 2, pI_X3_isColumn, [(17, [])])),
  ((yX3_placeOf, cX3_placeOf, 2, (some .int)), (3, false, 2, pI_X3_placeOf, [(8, [])])),
  ((yX3_aliasOf, cX3_aliasOf, 2, (some .int)), (3, false, 2, pI_X3_aliasOf, [(8, [])])),
  ((yX3_letterOf, cX3_letterOf, 2, (some .int)), (3, false, 2, pI_X3_letterOf, [(8, [])])),
  ((yX3_lastItemOf, cX3_lastItemOf, 2, (some .int)), (3, false, 2, pI_X3_lastItemOf, [(8, [])])),
  ((yX3_itemOf, cX3_itemOf, 2, (some .int)), (3, false, 2, pI_X3_itemOf, [(8, [])])),
  ((yX3_setItem, cX3_setItem, 3, none), (3, false, 3, pI_X3_setItem, [(18, [])])),
  ((yX3_sameColumn, cX3_sameColumn, 3, (some .boolean)), (3, false, 3, pI_X3_sameColumn, [(31, [])])),
  ((yX3_numberOf, cX3_numberOf, 2, (some .int)), (3, false, 2, pI_X3_numberOf, [(21, [])])),
  ((yX3_unknownOf, cX3_unknownOf, 2, (some .boolean)), (3, false, 2, pI_X3_unknownOf, [(25, [])])),
  ((yX3_load, cX3_load, 6, none), (3, false, 6, pI_X3_load, [(3, [0, 1, 2, 3, 4, 5]), (79, [])])),
  ((yX4_init, cX4_init, 3, none), (4, true, 3, pI_X4_init, [(35, [])])),
  ((yX4_readQuery, cX4_readQuery, 1, (some .boolean)), (4, false, 1, pI_X4_readQuery, [(92, [])])),
  ((yX4_readOuts, cX4_readOuts, 2, (some .boolean)), (4, false, 2, pI_X4_readOuts, [(8, []), (11, [0, 1]), (29, []), (38, []), (46, [])])),
  ((yX4_readOut, cX4_readOut, 4, (some .boolean)), (4, false, 4, pI_X4_readOut, [(34, []), (62, [0, 1, 2]), (86, []), (98, []), (139, [])])),
  ((yX4_readItem, cX4_readItem, 5, (some .boolean)), (4, false, 5, pI_X4_readItem, [(29, []), (55, []), (83, [])])),
  ((yX4_readJoined, cX4_readJoined, 3, (some .boolean)), (4, false, 3, pI_X4_readJoined, [(2, [0, 1]), (85, []), (98, [])])),
  ((yX4_readWhere, cX4_readWhere, 1, (some .boolean)), (4, false, 1, pI_X4_readWhere, [(26, [])])),
  ((yX4_readGroup, cX4_readGroup, 3, (some .boolean)), (4, false, 3, pI_X4_readGroup, [(14, []), (17, [0, 1]), (33, []), (69, [])])),
  ((yX4_readCondition, cX4_readCondition, 5, (some .boolean)), (4, false, 5, pI_X4_readCondition, [(25, []), (29, [0, 1, 2, 3, 4]), (66, []), (93, [])])),
  ((yX4_readConjunction, cX4_readConjunction, 3, (some .boolean)), (4, false, 3, pI_X4_readConjunction, [(9, []), (12, [0, 1, 2]), (48, []), (68, [])])),
  ((yX4_readPart, cX4_readPart, 3, (some .boolean)), (4, false, 3, pI_X4_readPart, [(17, []), (32, [])])),
  ((yX4_notePart, cX4_notePart, 4, none), (4, false, 4, pI_X4_notePart, [(30, [])])),
  ((yX4_readTest, cX4_readTest, 3, (some .boolean)), (4, false, 3, pI_X4_readTest, [(25, []), (32, []), (73, []), (85, []), (99, [])])),
  ((yX4_readComparison, cX4_readComparison, 4, (some .boolean)), (4, false, 4, pI_X4_readComparison, [(11, []), (46, []), (83, []), (109, [])])),
  ((yX4_readOperand, cX4_readOperand, 3, (some .int)), (4, false, 3, pI_X4_readOperand, [(26, []), (62, [])])),
  ((yX4_readColumn, cX4_readColumn, 4, (some .int)), (4, false, 4, pI_X4_readColumn, [(24, []), (45, []), (74, []), (96, [])])),
  ((yX4_isAlias, cX4_isAlias, 1, (some .boolean)), (4, false, 1, pI_X4_isAlias, [(17, [])])),
  ((yX5_init, cX5_init, 1, none), (5, true, 1, pI_X5_init, [(101, [])]))]
def pg_ML2 : List ((MethodName × ByteArray × Nat × Option FieldType) × q_R) := [((yX5_clear, cX5_clear, 1, none), (5, false, 1, pI_X5_clear, [(29, [])])),
  ((yX5_settle, cX5_settle, 1, none), (5, false, 1, pI_X5_settle, [(7, [])])),
  ((yX5_operands, cX5_operands, 1, (some (.object "QueryLoops$Operands"))), (5, false, 1, pI_X5_operands, [(4, [])])),
  ((yX5_steps, cX5_steps, 1, (some (.object "QueryLoops$Steps"))), (5, false, 1, pI_X5_steps, [(4, [])])),
  ((yX5_addItem, cX5_addItem, 6, none), (5, false, 6, pI_X5_addItem, [(77, [])])),
  ((yX5_addOut, cX5_addOut, 3, none), (5, false, 3, pI_X5_addOut, [(45, [])])),
  ((yX5_addGrouped, cX5_addGrouped, 2, none), (5, false, 2, pI_X5_addGrouped, [(35, [])])),
  ((yX5_itemCount, cX5_itemCount, 1, (some .int)), (5, false, 1, pI_X5_itemCount, [(4, [])])),
  ((yX5_tableOf, cX5_tableOf, 2, (some .int)), (5, false, 2, pI_X5_tableOf, [(8, [])])),
  ((yX5_tablePlaceOf, cX5_tablePlaceOf, 2, (some .int)), (5, false, 2, pI_X5_tablePlaceOf, [(8, [])])),
  ((yX5_aliasOf, cX5_aliasOf, 2, (some .int)), (5, false, 2, pI_X5_aliasOf, [(8, [])])),
  ((yX5_aliasPlaceOf, cX5_aliasPlaceOf, 2, (some .int)), (5, false, 2, pI_X5_aliasPlaceOf, [(8, [])])),
  ((yX5_isLeft, cX5_isLeft, 2, (some .boolean)), (5, false, 2, pI_X5_isLeft, [(23, [])])),
  ((yX5_itemWith, cX5_itemWith, 3, (some .int)), (5, false, 3, pI_X5_itemWith, [(2, [0, 1, 2]), (26, []), (34, [])])),
  ((yX5_uses, cX5_uses, 3, (some .boolean)), (5, false, 3, pI_X5_uses, [(2, [0, 1, 2]), (26, []), (34, [])])),
  ((yX5_outCount, cX5_outCount, 1, (some .int)), (5, false, 1, pI_X5_outCount, [(4, [])])),
  ((yX5_outKind, cX5_outKind, 2, (some .int)), (5, false, 2, pI_X5_outKind, [(8, [])])),
  ((yX5_outColumn, cX5_outColumn, 2, (some .int)), (5, false, 2, pI_X5_outColumn, [(8, [])])),
  ((yX5_groupedCount, cX5_groupedCount, 1, (some .int)), (5, false, 1, pI_X5_groupedCount, [(4, [])])),
  ((yX5_groupColumn, cX5_groupColumn, 2, (some .int)), (5, false, 2, pI_X5_groupColumn, [(8, [])])),
  ((yX5_groupsBy, cX5_groupsBy, 3, (some .boolean)), (5, false, 3, pI_X5_groupsBy, [(2, [0, 1, 2]), (33, []), (41, [])])),
  ((yX5_gathers, cX5_gathers, 2, (some .boolean)), (5, false, 2, pI_X5_gathers, [(2, [0, 1]), (28, []), (47, [])])),
  ((yX6_init, cX6_init, 2, none), (6, true, 2, pI_X6_init, [(91, [])])),
  ((yX6_clear, cX6_clear, 1, none), (6, false, 1, pI_X6_clear, [(10, [])])),
  ((yX6_count, cX6_count, 1, (some .int)), (6, false, 1, pI_X6_count, [(4, [])])),
  ((yX6_partCount, cX6_partCount, 1, (some .int)), (6, false, 1, pI_X6_partCount, [(4, [])])),
  ((yX6_add, cX6_add, 4, none), (6, false, 4, pI_X6_add, [(57, [])])),
  ((yX6_addPart, cX6_addPart, 5, none), (6, false, 5, pI_X6_addPart, [(50, [])])),
  ((yX6_settle, cX6_settle, 2, none), (6, false, 2, pI_X6_settle, [(2, [0, 1]), (54, [])])),
  ((yX6_lastItemIn, cX6_lastItemIn, 5, (some .int)), (6, false, 5, pI_X6_lastItemIn, [(9, [0, 2, 3, 4]), (68, [])]))]
def pg_ML3 : List ((MethodName × ByteArray × Nat × Option FieldType) × q_R) := [((yX6_allTrue, cX6_allTrue, 4, (some .boolean)), (6, false, 4, pI_X6_allTrue, [(2, [0, 1, 2, 3]), (58, []), (66, [])])),
  ((yX6_truthOf, cX6_truthOf, 6, (some .int)), (6, false, 6, pI_X6_truthOf, [(9, [0, 2, 3, 4]), (131, [])])),
  ((yX6_turnTop, cX6_turnTop, 2, none), (6, false, 2, pI_X6_turnTop, [(29, [])])),
  ((yX6_joinTop, cX6_joinTop, 5, (some .int)), (6, false, 5, pI_X6_joinTop, [(13, []), (66, [])])),
  ((yX6_testOf, cX6_testOf, 6, (some .int)), (6, false, 6, pI_X6_testOf, [(23, []), (47, []), (129, [])])),
  ((yX7_init, cX7_init, 1, none), (7, true, 1, pI_X7_init, [(34, [])])),
  ((yX7_width, cX7_width, 2, (some .int)), (7, false, 2, pI_X7_width, [(19, [])])),
  ((yX7_height, cX7_height, 2, (some .int)), (7, false, 2, pI_X7_height, [(19, [])])),
  ((yX7_make, cX7_make, 3, (some .boolean)), (7, false, 3, pI_X7_make, [(20, []), (36, [])])),
  ((yX7_append, cX7_append, 6, none), (7, false, 6, pI_X7_append, [(21, []), (34, [0, 1, 2, 3, 4]), (88, [])])),
  ((yX7_dropFirst, cX7_dropFirst, 5, (some .int)), (7, false, 5, pI_X7_dropFirst, [(19, []), (35, [0, 1, 3, 4]), (95, [])])),
  ((yX7_numberAt, cX7_numberAt, 5, (some .int)), (7, false, 5, pI_X7_numberAt, [(26, [])])),
  ((yX7_unknownAt, cX7_unknownAt, 5, (some .boolean)), (7, false, 5, pI_X7_unknownAt, [(30, [])])),
  ((yX7_cellOf, cX7_cellOf, 4, (some .int)), (7, false, 4, pI_X7_cellOf, [(49, []), (60, [])])),
  ((yX8_init, cX8_init, 1, none), (8, true, 1, pI_X8_init, [(18, [])])),
  ((yX8_append, cX8_append, 2, (some .boolean)), (8, false, 2, pI_X8_append, [(30, []), (52, [])])),
  ((yX8_clear, cX8_clear, 1, none), (8, false, 1, pI_X8_clear, [(5, [])])),
  ((yX8_splitInto, cX8_splitInto, 4, none), (8, false, 4, pI_X8_splitInto, [(8, [0, 1, 2, 3]), (56, [])])),
  ((yX8_codeAt, cX8_codeAt, 2, (some .char)), (8, false, 2, pI_X8_codeAt, [(30, [])])),
  ((yX8_readToken, cX8_readToken, 6, (some .int)), (8, false, 6, pI_X8_readToken, [(51, []), (71, []), (103, [])])),
  ((yX8_endOfWord, cX8_endOfWord, 4, (some .int)), (8, false, 4, pI_X8_endOfWord, [(4, [0, 2, 3]), (34, [])])),
  ((yX8_readNumeral, cX8_readNumeral, 8, (some .int)), (8, false, 8, pI_X8_readNumeral, [(40, [0, 1, 2, 3, 4, 5, 6, 7]), (114, [1, 2, 3, 5, 6, 7]), (147, [])])),
  ((yX8_wordKind, cX8_wordKind, 3, (some .int)), (8, false, 3, pI_X8_wordKind, [(14, []), (29, []), (44, []), (59, []), (74, []), (89, []), (104, []), (119, []), (134, []), (149, []), (164, []), (179, []), (194, []), (209, []), (224, []), (239, []), (243, [])])),
  ((yX8_spells, cX8_spells, 5, (some .boolean)), (8, false, 5, pI_X8_spells, [(11, []), (15, [0, 1, 3, 4]), (42, []), (50, [])])),
  ((yX8_isSmall, cX8_isSmall, 1, (some .boolean)), (8, false, 1, pI_X8_isSmall, [(17, [])])),
  ((yX8_isCapital, cX8_isCapital, 1, (some .boolean)), (8, false, 1, pI_X8_isCapital, [(17, [])])),
  ((yX8_isDigit, cX8_isDigit, 1, (some .boolean)), (8, false, 1, pI_X8_isDigit, [(17, [])])),
  ((yX8_isSign, cX8_isSign, 1, (some .boolean)), (8, false, 1, pI_X8_isSign, [(14, [])])),
  ((yX9_init, cX9_init, 1, none), (9, true, 1, pI_X9_init, [(41, [])])),
  ((yX9_clear, cX9_clear, 1, none), (9, false, 1, pI_X9_clear, [(10, [])]))]
def pg_ML4 : List ((MethodName × ByteArray × Nat × Option FieldType) × q_R) := [((yX9_add, cX9_add, 4, none), (9, false, 4, pI_X9_add, [(59, [])])),
  ((yX9_nextKind, cX9_nextKind, 1, (some .int)), (9, false, 1, pI_X9_nextKind, [(45, [])])),
  ((yX9_nextPlace, cX9_nextPlace, 1, (some .int)), (9, false, 1, pI_X9_nextPlace, [(43, [])])),
  ((yX9_nextNumber, cX9_nextNumber, 1, (some .int)), (9, false, 1, pI_X9_nextNumber, [(43, [])])),
  ((yX9_advance, cX9_advance, 1, none), (9, false, 1, pI_X9_advance, [(23, [])])),
  ((yX9_take, cX9_take, 2, (some .boolean)), (9, false, 2, pI_X9_take, [(9, []), (15, [])])),
  ((yX10_init, cX10_init, 1, none), (10, true, 1, pI_X10_init, [(23, [])])),
  ((yX10_size, cX10_size, 1, (some .int)), (10, false, 1, pI_X10_size, [(4, [])])),
  ((yX10_clear, cX10_clear, 1, none), (10, false, 1, pI_X10_clear, [(5, [])])),
  ((yX10_put, cX10_put, 3, (some .boolean)), (10, false, 3, pI_X10_put, [(16, []), (48, [])])),
  ((yX10_numberAt, cX10_numberAt, 2, (some .int)), (10, false, 2, pI_X10_numberAt, [(19, [])])),
  ((yX10_unknownAt, cX10_unknownAt, 2, (some .boolean)), (10, false, 2, pI_X10_unknownAt, [(23, [])])),
  ((yX11_init, cX11_init, 1, none), (11, true, 1, pI_X11_init, [(141, [])])),
  ((yX11_declare, cX11_declare, 3, (some .boolean)), (11, false, 3, pI_X11_declare, [(13, []), (31, [])])),
  ((yX11_value, cX11_value, 2, (some .boolean)), (11, false, 2, pI_X11_value, [(9, [])])),
  ((yX11_nothing, cX11_nothing, 1, (some .boolean)), (11, false, 1, pI_X11_nothing, [(9, [])])),
  ((yX11_row, cX11_row, 5, (some .int)), (11, false, 5, pI_X11_row, [(50, [0, 1, 3, 4]), (82, []), (97, []), (115, [])])),
  ((yX11_drop, cX11_drop, 2, (some .int)), (11, false, 2, pI_X11_drop, [(8, [])])),
  ((yX11_ask, cX11_ask, 2, (some .boolean)), (11, false, 2, pI_X11_ask, [(8, [])])),
  ((yX11_compile, cX11_compile, 1, (some .int)), (11, false, 1, pI_X11_compile, [(81, []), (105, [])])),
  ((yX11_place, cX11_place, 1, (some .int)), (11, false, 1, pI_X11_place, [(4, [])])),
  ((yX11_run, cX11_run, 1, (some .int)), (11, false, 1, pI_X11_run, [(7, []), (35, []), (52, [])])),
  ((yX11_looked, cX11_looked, 1, (some .int)), (11, false, 1, pI_X11_looked, [(7, [])])),
  ((yX11_rows, cX11_rows, 1, (some .int)), (11, false, 1, pI_X11_rows, [(7, [])])),
  ((yX11_isNull, cX11_isNull, 3, (some .boolean)), (11, false, 3, pI_X11_isNull, [(29, [])])),
  ((yX11_result, cX11_result, 3, (some .long)), (11, false, 3, pI_X11_result, [(25, [])])),
  ((yX11_get, cX11_get, 2, (some .int)), (11, false, 2, pI_X11_get, [(17, [])])),
  ((yX12_init, cX12_init, 1, none), (12, true, 1, pI_X12_init, [(346, [])])),
  ((yX12_thrown, cX12_thrown, 1, (some .int)), (12, false, 1, pI_X12_thrown, [(4, [])])),
  ((yX12_fail, cX12_fail, 2, (some .int)), (12, false, 2, pI_X12_fail, [(6, [])]))]
def pg_ML5 : List ((MethodName × ByteArray × Nat × Option FieldType) × q_R) := [((yX12_isTable, cX12_isTable, 2, (some .boolean)), (12, false, 2, pI_X12_isTable, [(23, [])])),
  ((yX12_declare, cX12_declare, 4, (some .boolean)), (12, false, 4, pI_X12_declare, [(25, []), (42, [0, 1, 3]), (72, [])])),
  ((yX12_put, cX12_put, 3, (some .boolean)), (12, false, 3, pI_X12_put, [(9, []), (41, [])])),
  ((yX12_value, cX12_value, 2, (some .boolean)), (12, false, 2, pI_X12_value, [(11, [])])),
  ((yX12_nothing, cX12_nothing, 1, (some .boolean)), (12, false, 1, pI_X12_nothing, [(11, [])])),
  ((yX12_row, cX12_row, 4, (some .int)), (12, false, 4, pI_X12_row, [(28, []), (44, []), (61, []), (64, [0, 1, 2, 3]), (143, [])])),
  ((yX12_drop, cX12_drop, 3, (some .int)), (12, false, 3, pI_X12_drop, [(14, []), (25, []), (41, [0, 1, 2]), (98, [])])),
  ((yX12_ask, cX12_ask, 2, (some .boolean)), (12, false, 2, pI_X12_ask, [(28, []), (50, [])])),
  ((yX12_at, cX12_at, 2, (some .char)), (12, false, 2, pI_X12_at, [(18, [])])),
  ((yX12_isSmall, cX12_isSmall, 1, (some .boolean)), (12, false, 1, pI_X12_isSmall, [(17, [])])),
  ((yX12_isDigit, cX12_isDigit, 1, (some .boolean)), (12, false, 1, pI_X12_isDigit, [(17, [])])),
  ((yX12_stop, cX12_stop, 2, none), (12, false, 2, pI_X12_stop, [(17, [])])),
  ((yX12_readWord, cX12_readWord, 4, (some .int)), (12, false, 4, pI_X12_readWord, [(4, [0, 1, 2]), (80, []), (98, []), (101, [0, 1, 2, 3]), (128, []), (138, [])])),
  ((yX12_readNumeral, cX12_readNumeral, 5, (some .int)), (12, false, 5, pI_X12_readNumeral, [(38, [0, 1, 2, 3, 4]), (133, [])])),
  ((yX12_look, cX12_look, 3, (some .int)), (12, false, 3, pI_X12_look, [(42, []), (43, [0]), (139, [0, 1, 2]), (259, [0]), (267, []), (287, [])])),
  ((yX12_wrong, cX12_wrong, 1, none), (12, false, 1, pI_X12_wrong, [(25, [])])),
  ((yX12_take, cX12_take, 2, (some .boolean)), (12, false, 2, pI_X12_take, [(16, []), (28, [])])),
  ((yX12_want, cX12_want, 2, none), (12, false, 2, pI_X12_want, [(12, [])])),
  ((yX12_isIn, cX12_isIn, 3, (some .boolean)), (12, false, 3, pI_X12_isIn, [(17, [])])),
  ((yX12_readColumn, cX12_readColumn, 1, none), (12, false, 1, pI_X12_readColumn, [(51, []), (83, [])])),
  ((yX12_readOut, cX12_readOut, 2, none), (12, false, 2, pI_X12_readOut, [(126, [])])),
  ((yX12_readOuts, cX12_readOuts, 1, none), (12, false, 1, pI_X12_readOuts, [(23, [0]), (54, [])])),
  ((yX12_readOperand, cX12_readOperand, 2, none), (12, false, 2, pI_X12_readOperand, [(34, [])])),
  ((yX12_readComparison, cX12_readComparison, 2, none), (12, false, 2, pI_X12_readComparison, [(11, []), (83, [])])),
  ((yX12_closeNots, cX12_closeNots, 1, none), (12, false, 1, pI_X12_closeNots, [(0, [0]), (37, [])])),
  ((yX12_readCondition, cX12_readCondition, 3, none), (12, false, 3, pI_X12_readCondition, [(7, [0, 1]), (89, [0]), (162, [0, 1]), (187, [])])),
  ((yX12_readItem, cX12_readItem, 3, none), (12, false, 3, pI_X12_readItem, [(76, [0]), (114, [0]), (182, [])])),
  ((yX12_readGroup, cX12_readGroup, 2, none), (12, false, 2, pI_X12_readGroup, [(22, []), (25, [0, 1]), (96, [])])),
  ((yX12_readQuery, cX12_readQuery, 3, none), (12, false, 3, pI_X12_readQuery, [(37, [0, 1]), (110, [0]), (173, [])])),
  ((yX12_spot, cX12_spot, 3, none), (12, false, 3, pI_X12_spot, [(32, [])]))]
def pg_ML6 : List ((MethodName × ByteArray × Nat × Option FieldType) × q_R) := [((yX12_itemOf, cX12_itemOf, 3, (some .int)), (12, false, 3, pI_X12_itemOf, [(2, [0, 1, 2]), (33, []), (41, [])])),
  ((yX12_columnOf, cX12_columnOf, 2, (some .int)), (12, false, 2, pI_X12_columnOf, [(12, [])])),
  ((yX12_checkColumn, cX12_checkColumn, 4, none), (12, false, 4, pI_X12_checkColumn, [(47, [])])),
  ((yX12_checkRange, cX12_checkRange, 5, none), (12, false, 5, pI_X12_checkRange, [(3, [0, 2, 3, 4]), (39, [])])),
  ((yX12_isGrouped, cX12_isGrouped, 4, (some .boolean)), (12, false, 4, pI_X12_isGrouped, [(4, [0, 1, 2, 3]), (65, [])])),
  ((yX12_checkAll, cX12_checkAll, 2, none), (12, false, 2, pI_X12_checkAll, [(18, [0, 1]), (59, [0, 1]), (143, [0, 1]), (247, [0, 1]), (275, [])])),
  ((yX12_addPart, cX12_addPart, 5, none), (12, false, 5, pI_X12_addPart, [(32, [0, 2, 3]), (116, [])])),
  ((yX12_findParts, cX12_findParts, 5, none), (12, false, 5, pI_X12_findParts, [(16, []), (26, [0, 1, 2, 3]), (113, [0, 1, 2, 3, 4]), (208, [])])),
  ((yX12_compile, cX12_compile, 1, (some .int)), (12, false, 1, pI_X12_compile, [(86, []), (100, [])])),
  ((yX12_place, cX12_place, 1, (some .int)), (12, false, 1, pI_X12_place, [(9, [])])),
  ((yX12_takeOperand, cX12_takeOperand, 3, (some .int)), (12, false, 3, pI_X12_takeOperand, [(34, []), (56, []), (74, [])])),
  ((yX12_fetch, cX12_fetch, 4, none), (12, false, 4, pI_X12_fetch, [(30, []), (52, [0, 3]), (85, [])])),
  ((yX12_not, cX12_not, 1, (some .int)), (12, false, 1, pI_X12_not, [(12, [])])),
  ((yX12_both, cX12_both, 2, (some .int)), (12, false, 2, pI_X12_both, [(27, [])])),
  ((yX12_either, cX12_either, 2, (some .int)), (12, false, 2, pI_X12_either, [(29, [])])),
  ((yX12_compare, cX12_compare, 7, (some .int)), (12, false, 7, pI_X12_compare, [(47, []), (131, [0, 2, 3, 6]), (161, [])])),
  ((yX12_truthOf, cX12_truthOf, 7, (some .int)), (12, false, 7, pI_X12_truthOf, [(22, [0, 2, 3, 4, 5]), (202, [0, 2, 3, 4, 5]), (261, [])])),
  ((yX12_passes, cX12_passes, 4, (some .boolean)), (12, false, 4, pI_X12_passes, [(4, [0, 1, 2, 3]), (59, [])])),
  ((yX12_sameKey, cX12_sameKey, 3, (some .boolean)), (12, false, 3, pI_X12_sameKey, [(2, [0, 1, 2]), (69, []), (77, [])])),
  ((yX12_newRow, cX12_newRow, 2, (some .boolean)), (12, false, 2, pI_X12_newRow, [(15, []), (23, [0, 1]), (57, [0, 1]), (108, [])])),
  ((yX12_groupRow, cX12_groupRow, 2, (some .int)), (12, false, 2, pI_X12_groupRow, [(2, [0, 1]), (19, []), (34, []), (37, [0, 1]), (119, [])])),
  ((yX12_gather, cX12_gather, 6, none), (12, false, 6, pI_X12_gather, [(17, []), (25, []), (126, [])])),
  ((yX12_found, cX12_found, 3, none), (12, false, 3, pI_X12_found, [(27, []), (32, []), (35, [0, 1, 2]), (100, [])])),
  ((yX12_fits, cX12_fits, 2, (some .boolean)), (12, false, 2, pI_X12_fits, [(25, [])])),
  ((yX12_third, cX12_third, 4, none), (12, false, 4, pI_X12_third, [(4, [0, 1, 2]), (63, [0, 1, 2, 3]), (105, []), (125, [])])),
  ((yX12_afterSecond, cX12_afterSecond, 1, none), (12, false, 1, pI_X12_afterSecond, [(19, [])])),
  ((yX12_second, cX12_second, 4, none), (12, false, 4, pI_X12_second, [(4, [0, 1, 2]), (63, [0, 1, 2, 3]), (105, []), (125, [])])),
  ((yX12_first, cX12_first, 2, none), (12, false, 2, pI_X12_first, [(2, [0, 1]), (77, [])])),
  ((yX12_run, cX12_run, 1, (some .int)), (12, false, 1, pI_X12_run, [(17, []), (67, []), (78, [])])),
  ((yX12_looked, cX12_looked, 1, (some .int)), (12, false, 1, pI_X12_looked, [(9, [])]))]
def pg_ML7 : List ((MethodName × ByteArray × Nat × Option FieldType) × q_R) := [((yX12_rows, cX12_rows, 1, (some .int)), (12, false, 1, pI_X12_rows, [(9, [])])),
  ((yX12_isThere, cX12_isThere, 3, (some .boolean)), (12, false, 3, pI_X12_isThere, [(29, [])])),
  ((yX12_isNull, cX12_isNull, 3, (some .boolean)), (12, false, 3, pI_X12_isNull, [(32, [])])),
  ((yX12_result, cX12_result, 3, (some .long)), (12, false, 3, pI_X12_result, [(41, [])])),
  ((yJ0_length_8abf5, cJ0_length_8abf5, 1, (some .int)), (14, false, 1, pI_J0_length_8abf5, [(10, [])])),
  ((yJ0_coder_7d493, cJ0_coder_7d493, 1, (some .byte)), (14, false, 1, pI_J0_coder_7d493, [(14, [])])),
  ((yJ0_charAt_5068e, cJ0_charAt_5068e, 2, (some .char)), (14, false, 2, pI_J0_charAt_5068e, [(15, []), (24, [])])),
  ((yJ0_isLatin1_aae02, cJ0_isLatin1_aae02, 1, (some .boolean)), (14, false, 1, pI_J0_isLatin1_aae02, [(18, [])])),
  ((yJ0_indexOf_0f7a4, cJ0_indexOf_0f7a4, 2, (some .int)), (14, false, 2, pI_J0_indexOf_0f7a4, [(6, [])])),
  ((yJ0_indexOf_7cf53, cJ0_indexOf_7cf53, 3, (some .int)), (14, false, 3, pI_J0_indexOf_7cf53, [(36, [])])),
  ((yJ1_charAt_3b067, cJ1_charAt_3b067, 2, (some .char)), (15, false, 2, pI_J1_charAt_3b067, [(14, [])])),
  ((yJ1_canEncode_9a6ad, cJ1_canEncode_9a6ad, 1, (some .boolean)), (15, false, 1, pI_J1_canEncode_9a6ad, [(16, [])])),
  ((yJ1_indexOf_4cfef, cJ1_indexOf_4cfef, 4, (some .int)), (15, false, 4, pI_J1_indexOf_4cfef, [(8, []), (28, []), (36, [])])),
  ((yJ1_indexOfChar_4cfef, cJ1_indexOfChar_4cfef, 6, (some .int)), (15, false, 6, pI_J1_indexOfChar_4cfef, [(7, [0, 3, 4, 5]), (24, []), (32, [])])),
  ((yJ0_checkIndex_df160, cJ0_checkIndex_df160, 2, none), (14, false, 2, [], [])),
  ((yJ9_max_7cf53, cJ9_max_7cf53, 2, (some .int)), (16, false, 2, pI_J9_max_7cf53, [(10, [])])),
  ((yJ9_max_f86c9, cJ9_max_f86c9, 4, (some .long)), (16, false, 4, pI_J9_max_f86c9, [(11, [])])),
  ((yJ9_min_7cf53, cJ9_min_7cf53, 2, (some .int)), (16, false, 2, pI_J9_min_7cf53, [(10, [])])),
  ((yJ9_min_f86c9, cJ9_min_f86c9, 4, (some .long)), (16, false, 4, pI_J9_min_f86c9, [(11, [])])),
  ((yJ6_compare_7cf53, cJ6_compare_7cf53, 2, (some .int)), (17, false, 2, pI_J6_compare_7cf53, [(19, [])])),
  ((yJ0_checkBoundsBeginEnd_23922, cJ0_checkBoundsBeginEnd_23922, 3, none), (14, false, 3, [], [])),
  ((yJ3_checkIndex_8e157, cJ3_checkIndex_8e157, 3, (some .int)), (19, false, 3, [], [])),
  ((yL_row, cL_row, 4, (some .int)), (13, false, 4, [], [])),
  ((yL_compile, cL_compile, 3, (some .int)), (13, false, 3, [], [])),
  ((yL_run, cL_run, 3, (some .int)), (13, false, 3, [], []))]
def pg_ML : List ((MethodName × ByteArray × Nat × Option FieldType) × q_R) := pg_ML0 ++ pg_ML1 ++ pg_ML2 ++ pg_ML3 ++ pg_ML4 ++ pg_ML5 ++ pg_ML6 ++ pg_ML7
def pg_D0 : (MethodName × ByteArray × Nat × Option FieldType) × q_R := ((⟨"", "", ""⟩, ⟨#[]⟩, 0, none), (0, false, 0, [], []))
def pg_MT : Nat → q_R := fun mid => (pg_ML.getD mid pg_D0).2
set_option maxRecDepth 100000 in
theorem pg_YML : pg_YM = pg_ML.map (·.1) := rfl
def pt_I (e : (MethodName × ByteArray × Nat × Option FieldType) × q_R) : Prop := e.2.2.2.2.1 = [] ∨ q_Iok e.1.2.1 e.2.2.2.2.1
set_option maxRecDepth 100000 in
theorem pt_MLall : pg_ML.all (fun e => plainFor e.1.1 && (decide (q_hh e.1.1 = none) || e.2.2.2.2.1.isEmpty) && decide (pg_Rn e.2.1 = e.1.1.cls) && (!e.2.2.1 || decide (e.1.1.name = "<init>"))) = true := by decide +kernel
theorem pt_I0 : ∀ e ∈ pg_ML0, pt_I e := List.forall_mem_cons.mpr ⟨Or.inr pK_X0_init, List.forall_mem_cons.mpr ⟨Or.inr pK_X0_clear, List.forall_mem_cons.mpr ⟨Or.inr pK_X0_height, List.forall_mem_cons.mpr ⟨Or.inr pK_X0_append, List.forall_mem_cons.mpr ⟨Or.inr pK_X0_has, List.forall_mem_cons.mpr ⟨Or.inr pK_X0_unknownAt, List.forall_mem_cons.mpr ⟨Or.inr pK_X0_numberAt, List.forall_mem_cons.mpr ⟨Or.inr pK_X0_set, List.forall_mem_cons.mpr ⟨Or.inr pK_X1_init, List.forall_mem_cons.mpr ⟨Or.inr pK_X1_firstIll, List.forall_mem_cons.mpr ⟨Or.inr pK_X1_noteIll, List.forall_mem_cons.mpr ⟨Or.inr pK_X1_checkItems, List.forall_mem_cons.mpr ⟨Or.inr pK_X1_checkColumns, List.forall_mem_cons.mpr ⟨Or.inr pK_X1_checkOuts, List.forall_mem_cons.mpr ⟨Or.inr pK_X2_init, List.forall_mem_cons.mpr ⟨Or.inr pK_X2_seen, List.forall_mem_cons.mpr ⟨Or.inr pK_X2_goThroughAll, List.forall_mem_cons.mpr ⟨Or.inr pK_X2_goThrough, List.forall_mem_cons.mpr ⟨Or.inr pK_X2_goOn, List.forall_mem_cons.mpr ⟨Or.inr pK_X2_gather, List.forall_mem_cons.mpr ⟨Or.inr pK_X2_lineOfGroup, List.forall_mem_cons.mpr ⟨Or.inr pK_X2_isOfGroup, List.forall_mem_cons.mpr ⟨Or.inr pK_X2_keyOf, List.forall_mem_cons.mpr ⟨Or.inr pK_X2_begin, List.forall_mem_cons.mpr ⟨Or.inr pK_X2_tally, List.forall_mem_cons.mpr ⟨Or.inr pK_X2_joined, List.forall_mem_cons.mpr ⟨Or.inr pK_X3_init, List.forall_mem_cons.mpr ⟨Or.inr pK_X3_clear, List.forall_mem_cons.mpr ⟨Or.inr pK_X3_count, List.forall_mem_cons.mpr ⟨Or.inr pK_X3_addColumn, fun _ h => absurd h List.not_mem_nil⟩⟩⟩⟩⟩⟩⟩⟩⟩⟩⟩⟩⟩⟩⟩⟩⟩⟩⟩⟩⟩⟩⟩⟩⟩⟩⟩⟩⟩⟩
theorem pt_I1 : ∀ e ∈ pg_ML1, pt_I e := List.forall_mem_cons.mpr ⟨Or.inr pK_X3_addConstant, List.forall_mem_cons.mpr ⟨Or.inr pK_X3_isColumn, List.forall_mem_cons.mpr ⟨Or.inr pK_X3_placeOf, List.forall_mem_cons.mpr ⟨Or.inr pK_X3_aliasOf, List.forall_mem_cons.mpr ⟨Or.inr pK_X3_letterOf, List.forall_mem_cons.mpr ⟨Or.inr pK_X3_lastItemOf, List.forall_mem_cons.mpr ⟨Or.inr pK_X3_itemOf, List.forall_mem_cons.mpr ⟨Or.inr pK_X3_setItem, List.forall_mem_cons.mpr ⟨Or.inr pK_X3_sameColumn, List.forall_mem_cons.mpr ⟨Or.inr pK_X3_numberOf, List.forall_mem_cons.mpr ⟨Or.inr pK_X3_unknownOf, List.forall_mem_cons.mpr ⟨Or.inr pK_X3_load, List.forall_mem_cons.mpr ⟨Or.inr pK_X4_init, List.forall_mem_cons.mpr ⟨Or.inr pK_X4_readQuery, List.forall_mem_cons.mpr ⟨Or.inr pK_X4_readOuts, List.forall_mem_cons.mpr ⟨Or.inr pK_X4_readOut, List.forall_mem_cons.mpr ⟨Or.inr pK_X4_readItem, List.forall_mem_cons.mpr ⟨Or.inr pK_X4_readJoined, List.forall_mem_cons.mpr ⟨Or.inr pK_X4_readWhere, List.forall_mem_cons.mpr ⟨Or.inr pK_X4_readGroup, List.forall_mem_cons.mpr ⟨Or.inr pK_X4_readCondition, List.forall_mem_cons.mpr ⟨Or.inr pK_X4_readConjunction, List.forall_mem_cons.mpr ⟨Or.inr pK_X4_readPart, List.forall_mem_cons.mpr ⟨Or.inr pK_X4_notePart, List.forall_mem_cons.mpr ⟨Or.inr pK_X4_readTest, List.forall_mem_cons.mpr ⟨Or.inr pK_X4_readComparison, List.forall_mem_cons.mpr ⟨Or.inr pK_X4_readOperand, List.forall_mem_cons.mpr ⟨Or.inr pK_X4_readColumn, List.forall_mem_cons.mpr ⟨Or.inr pK_X4_isAlias, List.forall_mem_cons.mpr ⟨Or.inr pK_X5_init, fun _ h => absurd h List.not_mem_nil⟩⟩⟩⟩⟩⟩⟩⟩⟩⟩⟩⟩⟩⟩⟩⟩⟩⟩⟩⟩⟩⟩⟩⟩⟩⟩⟩⟩⟩⟩
theorem pt_I2 : ∀ e ∈ pg_ML2, pt_I e := List.forall_mem_cons.mpr ⟨Or.inr pK_X5_clear, List.forall_mem_cons.mpr ⟨Or.inr pK_X5_settle, List.forall_mem_cons.mpr ⟨Or.inr pK_X5_operands, List.forall_mem_cons.mpr ⟨Or.inr pK_X5_steps, List.forall_mem_cons.mpr ⟨Or.inr pK_X5_addItem, List.forall_mem_cons.mpr ⟨Or.inr pK_X5_addOut, List.forall_mem_cons.mpr ⟨Or.inr pK_X5_addGrouped, List.forall_mem_cons.mpr ⟨Or.inr pK_X5_itemCount, List.forall_mem_cons.mpr ⟨Or.inr pK_X5_tableOf, List.forall_mem_cons.mpr ⟨Or.inr pK_X5_tablePlaceOf, List.forall_mem_cons.mpr ⟨Or.inr pK_X5_aliasOf, List.forall_mem_cons.mpr ⟨Or.inr pK_X5_aliasPlaceOf, List.forall_mem_cons.mpr ⟨Or.inr pK_X5_isLeft, List.forall_mem_cons.mpr ⟨Or.inr pK_X5_itemWith, List.forall_mem_cons.mpr ⟨Or.inr pK_X5_uses, List.forall_mem_cons.mpr ⟨Or.inr pK_X5_outCount, List.forall_mem_cons.mpr ⟨Or.inr pK_X5_outKind, List.forall_mem_cons.mpr ⟨Or.inr pK_X5_outColumn, List.forall_mem_cons.mpr ⟨Or.inr pK_X5_groupedCount, List.forall_mem_cons.mpr ⟨Or.inr pK_X5_groupColumn, List.forall_mem_cons.mpr ⟨Or.inr pK_X5_groupsBy, List.forall_mem_cons.mpr ⟨Or.inr pK_X5_gathers, List.forall_mem_cons.mpr ⟨Or.inr pK_X6_init, List.forall_mem_cons.mpr ⟨Or.inr pK_X6_clear, List.forall_mem_cons.mpr ⟨Or.inr pK_X6_count, List.forall_mem_cons.mpr ⟨Or.inr pK_X6_partCount, List.forall_mem_cons.mpr ⟨Or.inr pK_X6_add, List.forall_mem_cons.mpr ⟨Or.inr pK_X6_addPart, List.forall_mem_cons.mpr ⟨Or.inr pK_X6_settle, List.forall_mem_cons.mpr ⟨Or.inr pK_X6_lastItemIn, fun _ h => absurd h List.not_mem_nil⟩⟩⟩⟩⟩⟩⟩⟩⟩⟩⟩⟩⟩⟩⟩⟩⟩⟩⟩⟩⟩⟩⟩⟩⟩⟩⟩⟩⟩⟩
theorem pt_I3 : ∀ e ∈ pg_ML3, pt_I e := List.forall_mem_cons.mpr ⟨Or.inr pK_X6_allTrue, List.forall_mem_cons.mpr ⟨Or.inr pK_X6_truthOf, List.forall_mem_cons.mpr ⟨Or.inr pK_X6_turnTop, List.forall_mem_cons.mpr ⟨Or.inr pK_X6_joinTop, List.forall_mem_cons.mpr ⟨Or.inr pK_X6_testOf, List.forall_mem_cons.mpr ⟨Or.inr pK_X7_init, List.forall_mem_cons.mpr ⟨Or.inr pK_X7_width, List.forall_mem_cons.mpr ⟨Or.inr pK_X7_height, List.forall_mem_cons.mpr ⟨Or.inr pK_X7_make, List.forall_mem_cons.mpr ⟨Or.inr pK_X7_append, List.forall_mem_cons.mpr ⟨Or.inr pK_X7_dropFirst, List.forall_mem_cons.mpr ⟨Or.inr pK_X7_numberAt, List.forall_mem_cons.mpr ⟨Or.inr pK_X7_unknownAt, List.forall_mem_cons.mpr ⟨Or.inr pK_X7_cellOf, List.forall_mem_cons.mpr ⟨Or.inr pK_X8_init, List.forall_mem_cons.mpr ⟨Or.inr pK_X8_append, List.forall_mem_cons.mpr ⟨Or.inr pK_X8_clear, List.forall_mem_cons.mpr ⟨Or.inr pK_X8_splitInto, List.forall_mem_cons.mpr ⟨Or.inr pK_X8_codeAt, List.forall_mem_cons.mpr ⟨Or.inr pK_X8_readToken, List.forall_mem_cons.mpr ⟨Or.inr pK_X8_endOfWord, List.forall_mem_cons.mpr ⟨Or.inr pK_X8_readNumeral, List.forall_mem_cons.mpr ⟨Or.inr pK_X8_wordKind, List.forall_mem_cons.mpr ⟨Or.inr pK_X8_spells, List.forall_mem_cons.mpr ⟨Or.inr pK_X8_isSmall, List.forall_mem_cons.mpr ⟨Or.inr pK_X8_isCapital, List.forall_mem_cons.mpr ⟨Or.inr pK_X8_isDigit, List.forall_mem_cons.mpr ⟨Or.inr pK_X8_isSign, List.forall_mem_cons.mpr ⟨Or.inr pK_X9_init, List.forall_mem_cons.mpr ⟨Or.inr pK_X9_clear, fun _ h => absurd h List.not_mem_nil⟩⟩⟩⟩⟩⟩⟩⟩⟩⟩⟩⟩⟩⟩⟩⟩⟩⟩⟩⟩⟩⟩⟩⟩⟩⟩⟩⟩⟩⟩
theorem pt_I4 : ∀ e ∈ pg_ML4, pt_I e := List.forall_mem_cons.mpr ⟨Or.inr pK_X9_add, List.forall_mem_cons.mpr ⟨Or.inr pK_X9_nextKind, List.forall_mem_cons.mpr ⟨Or.inr pK_X9_nextPlace, List.forall_mem_cons.mpr ⟨Or.inr pK_X9_nextNumber, List.forall_mem_cons.mpr ⟨Or.inr pK_X9_advance, List.forall_mem_cons.mpr ⟨Or.inr pK_X9_take, List.forall_mem_cons.mpr ⟨Or.inr pK_X10_init, List.forall_mem_cons.mpr ⟨Or.inr pK_X10_size, List.forall_mem_cons.mpr ⟨Or.inr pK_X10_clear, List.forall_mem_cons.mpr ⟨Or.inr pK_X10_put, List.forall_mem_cons.mpr ⟨Or.inr pK_X10_numberAt, List.forall_mem_cons.mpr ⟨Or.inr pK_X10_unknownAt, List.forall_mem_cons.mpr ⟨Or.inr pK_X11_init, List.forall_mem_cons.mpr ⟨Or.inr pK_X11_declare, List.forall_mem_cons.mpr ⟨Or.inr pK_X11_value, List.forall_mem_cons.mpr ⟨Or.inr pK_X11_nothing, List.forall_mem_cons.mpr ⟨Or.inr pK_X11_row, List.forall_mem_cons.mpr ⟨Or.inr pK_X11_drop, List.forall_mem_cons.mpr ⟨Or.inr pK_X11_ask, List.forall_mem_cons.mpr ⟨Or.inr pK_X11_compile, List.forall_mem_cons.mpr ⟨Or.inr pK_X11_place, List.forall_mem_cons.mpr ⟨Or.inr pK_X11_run, List.forall_mem_cons.mpr ⟨Or.inr pK_X11_looked, List.forall_mem_cons.mpr ⟨Or.inr pK_X11_rows, List.forall_mem_cons.mpr ⟨Or.inr pK_X11_isNull, List.forall_mem_cons.mpr ⟨Or.inr pK_X11_result, List.forall_mem_cons.mpr ⟨Or.inr pK_X11_get, List.forall_mem_cons.mpr ⟨Or.inr pK_X12_init, List.forall_mem_cons.mpr ⟨Or.inr pK_X12_thrown, List.forall_mem_cons.mpr ⟨Or.inr pK_X12_fail, fun _ h => absurd h List.not_mem_nil⟩⟩⟩⟩⟩⟩⟩⟩⟩⟩⟩⟩⟩⟩⟩⟩⟩⟩⟩⟩⟩⟩⟩⟩⟩⟩⟩⟩⟩⟩
theorem pt_I5 : ∀ e ∈ pg_ML5, pt_I e := List.forall_mem_cons.mpr ⟨Or.inr pK_X12_isTable, List.forall_mem_cons.mpr ⟨Or.inr pK_X12_declare, List.forall_mem_cons.mpr ⟨Or.inr pK_X12_put, List.forall_mem_cons.mpr ⟨Or.inr pK_X12_value, List.forall_mem_cons.mpr ⟨Or.inr pK_X12_nothing, List.forall_mem_cons.mpr ⟨Or.inr pK_X12_row, List.forall_mem_cons.mpr ⟨Or.inr pK_X12_drop, List.forall_mem_cons.mpr ⟨Or.inr pK_X12_ask, List.forall_mem_cons.mpr ⟨Or.inr pK_X12_at, List.forall_mem_cons.mpr ⟨Or.inr pK_X12_isSmall, List.forall_mem_cons.mpr ⟨Or.inr pK_X12_isDigit, List.forall_mem_cons.mpr ⟨Or.inr pK_X12_stop, List.forall_mem_cons.mpr ⟨Or.inr pK_X12_readWord, List.forall_mem_cons.mpr ⟨Or.inr pK_X12_readNumeral, List.forall_mem_cons.mpr ⟨Or.inr pK_X12_look, List.forall_mem_cons.mpr ⟨Or.inr pK_X12_wrong, List.forall_mem_cons.mpr ⟨Or.inr pK_X12_take, List.forall_mem_cons.mpr ⟨Or.inr pK_X12_want, List.forall_mem_cons.mpr ⟨Or.inr pK_X12_isIn, List.forall_mem_cons.mpr ⟨Or.inr pK_X12_readColumn, List.forall_mem_cons.mpr ⟨Or.inr pK_X12_readOut, List.forall_mem_cons.mpr ⟨Or.inr pK_X12_readOuts, List.forall_mem_cons.mpr ⟨Or.inr pK_X12_readOperand, List.forall_mem_cons.mpr ⟨Or.inr pK_X12_readComparison, List.forall_mem_cons.mpr ⟨Or.inr pK_X12_closeNots, List.forall_mem_cons.mpr ⟨Or.inr pK_X12_readCondition, List.forall_mem_cons.mpr ⟨Or.inr pK_X12_readItem, List.forall_mem_cons.mpr ⟨Or.inr pK_X12_readGroup, List.forall_mem_cons.mpr ⟨Or.inr pK_X12_readQuery, List.forall_mem_cons.mpr ⟨Or.inr pK_X12_spot, fun _ h => absurd h List.not_mem_nil⟩⟩⟩⟩⟩⟩⟩⟩⟩⟩⟩⟩⟩⟩⟩⟩⟩⟩⟩⟩⟩⟩⟩⟩⟩⟩⟩⟩⟩⟩
theorem pt_I6 : ∀ e ∈ pg_ML6, pt_I e := List.forall_mem_cons.mpr ⟨Or.inr pK_X12_itemOf, List.forall_mem_cons.mpr ⟨Or.inr pK_X12_columnOf, List.forall_mem_cons.mpr ⟨Or.inr pK_X12_checkColumn, List.forall_mem_cons.mpr ⟨Or.inr pK_X12_checkRange, List.forall_mem_cons.mpr ⟨Or.inr pK_X12_isGrouped, List.forall_mem_cons.mpr ⟨Or.inr pK_X12_checkAll, List.forall_mem_cons.mpr ⟨Or.inr pK_X12_addPart, List.forall_mem_cons.mpr ⟨Or.inr pK_X12_findParts, List.forall_mem_cons.mpr ⟨Or.inr pK_X12_compile, List.forall_mem_cons.mpr ⟨Or.inr pK_X12_place, List.forall_mem_cons.mpr ⟨Or.inr pK_X12_takeOperand, List.forall_mem_cons.mpr ⟨Or.inr pK_X12_fetch, List.forall_mem_cons.mpr ⟨Or.inr pK_X12_not, List.forall_mem_cons.mpr ⟨Or.inr pK_X12_both, List.forall_mem_cons.mpr ⟨Or.inr pK_X12_either, List.forall_mem_cons.mpr ⟨Or.inr pK_X12_compare, List.forall_mem_cons.mpr ⟨Or.inr pK_X12_truthOf, List.forall_mem_cons.mpr ⟨Or.inr pK_X12_passes, List.forall_mem_cons.mpr ⟨Or.inr pK_X12_sameKey, List.forall_mem_cons.mpr ⟨Or.inr pK_X12_newRow, List.forall_mem_cons.mpr ⟨Or.inr pK_X12_groupRow, List.forall_mem_cons.mpr ⟨Or.inr pK_X12_gather, List.forall_mem_cons.mpr ⟨Or.inr pK_X12_found, List.forall_mem_cons.mpr ⟨Or.inr pK_X12_fits, List.forall_mem_cons.mpr ⟨Or.inr pK_X12_third, List.forall_mem_cons.mpr ⟨Or.inr pK_X12_afterSecond, List.forall_mem_cons.mpr ⟨Or.inr pK_X12_second, List.forall_mem_cons.mpr ⟨Or.inr pK_X12_first, List.forall_mem_cons.mpr ⟨Or.inr pK_X12_run, List.forall_mem_cons.mpr ⟨Or.inr pK_X12_looked, fun _ h => absurd h List.not_mem_nil⟩⟩⟩⟩⟩⟩⟩⟩⟩⟩⟩⟩⟩⟩⟩⟩⟩⟩⟩⟩⟩⟩⟩⟩⟩⟩⟩⟩⟩⟩
theorem pt_I7 : ∀ e ∈ pg_ML7, pt_I e := List.forall_mem_cons.mpr ⟨Or.inr pK_X12_rows, List.forall_mem_cons.mpr ⟨Or.inr pK_X12_isThere, List.forall_mem_cons.mpr ⟨Or.inr pK_X12_isNull, List.forall_mem_cons.mpr ⟨Or.inr pK_X12_result, List.forall_mem_cons.mpr ⟨Or.inr pK_J0_length_8abf5, List.forall_mem_cons.mpr ⟨Or.inr pK_J0_coder_7d493, List.forall_mem_cons.mpr ⟨Or.inr pK_J0_charAt_5068e, List.forall_mem_cons.mpr ⟨Or.inr pK_J0_isLatin1_aae02, List.forall_mem_cons.mpr ⟨Or.inr pK_J0_indexOf_0f7a4, List.forall_mem_cons.mpr ⟨Or.inr pK_J0_indexOf_7cf53, List.forall_mem_cons.mpr ⟨Or.inr pK_J1_charAt_3b067, List.forall_mem_cons.mpr ⟨Or.inr pK_J1_canEncode_9a6ad, List.forall_mem_cons.mpr ⟨Or.inr pK_J1_indexOf_4cfef, List.forall_mem_cons.mpr ⟨Or.inr pK_J1_indexOfChar_4cfef, List.forall_mem_cons.mpr ⟨Or.inl rfl, List.forall_mem_cons.mpr ⟨Or.inr pK_J9_max_7cf53, List.forall_mem_cons.mpr ⟨Or.inr pK_J9_max_f86c9, List.forall_mem_cons.mpr ⟨Or.inr pK_J9_min_7cf53, List.forall_mem_cons.mpr ⟨Or.inr pK_J9_min_f86c9, List.forall_mem_cons.mpr ⟨Or.inr pK_J6_compare_7cf53, List.forall_mem_cons.mpr ⟨Or.inl rfl, List.forall_mem_cons.mpr ⟨Or.inl rfl, List.forall_mem_cons.mpr ⟨Or.inl rfl, List.forall_mem_cons.mpr ⟨Or.inl rfl, List.forall_mem_cons.mpr ⟨Or.inl rfl, fun _ h => absurd h List.not_mem_nil⟩⟩⟩⟩⟩⟩⟩⟩⟩⟩⟩⟩⟩⟩⟩⟩⟩⟩⟩⟩⟩⟩⟩⟩⟩
theorem pt_Iall : ∀ e ∈ pg_ML, pt_I e := by
  unfold pg_ML
  exact List.forall_mem_append.mpr ⟨List.forall_mem_append.mpr ⟨List.forall_mem_append.mpr ⟨List.forall_mem_append.mpr ⟨List.forall_mem_append.mpr ⟨List.forall_mem_append.mpr ⟨List.forall_mem_append.mpr ⟨pt_I0, pt_I1⟩, pt_I2⟩, pt_I3⟩, pt_I4⟩, pt_I5⟩, pt_I6⟩, pt_I7⟩
theorem pg_MTok : q_MTok pg_ym pg_MT pg_Rn := by
  intro mid
  unfold pg_ym pg_MT
  rw [pg_YML]
  rcases hm : pg_ML[mid]? with _ | x
  · rw [List.getD_eq_getElem?_getD (l := pg_ML), hm]
    exact Or.inl rfl
  · rw [List.getD_eq_getElem?_getD (l := pg_ML), List.getD_eq_getElem?_getD, List.getElem?_map, hm]
    have hx := List.mem_of_getElem? hm
    have h1 := List.all_eq_true.mp pt_MLall x hx
    simp only [Bool.and_eq_true, decide_eq_true_eq, Bool.or_eq_true, Bool.not_eq_true'] at h1
    rcases pt_Iall x hx with h2 | h2
    · exact Or.inl h2
    · rcases h1.1.1.2 with h3 | h3
      case inr => exact Or.inl (List.isEmpty_iff.mp h3)
      exact Or.inr ⟨h1.1.1.1, h3, h2, h1.1.2, fun h => h1.2.resolve_left (by intro z; have h : x.2.2.1 = true := h; rw [h] at z; cases z)⟩
end
section
def GF : q_G := [.inr (11, [2, 7, 10, 12, 16, 42, 43, 44, 47, 0, 0]), .inr (7, [3, 4, 5, 6]), .inl (0, 3), .inl (0, 3), .inl (0, 120), .inl (1, 120), .inr (10, [8, 9, 0]), .inl (0, 4), .inl (1, 4), .inr (8, [11, 0]), .inl (2, 130), .inr (9, [13, 14, 15, 0, 0]), .inl (0, 131), .inl (0, 131), .inl (0, 131), .inr (5, [17, 25, 34, 35, 36, 37, 38, 0, 39, 40, 0, 41, 0]), .inr (3, [18, 19, 20, 21, 22, 23, 24, 0]), .inl (0, 130), .inl (0, 130), .inl (0, 130), .inl (0, 130), .inl (0, 130), .inl (0, 130), .inl (1, 130), .inr (6, [17, 26, 27, 28, 0, 29, 30, 31, 32, 0, 33]), .inl (0, 130), .inl (0, 130), .inl (0, 130), .inl (0, 130), .inl (0, 130), .inl (0, 130), .inl (1, 130), .inl (0, 130), .inl (0, 3), .inl (0, 3), .inl (0, 3), .inl (0, 3), .inl (1, 3), .inl (0, 4), .inl (0, 4), .inl (0, 3), .inr (4, [12, 16, 17, 25, 0]), .inr (1, [16, 17, 2, 0]), .inr (0, [45, 46, 0, 0]), .inl (3, 120), .inl (1, 120), .inr (2, [16, 17, 25, 2, 44, 48, 49, 0, 0]), .inl (0, 90), .inl (1, 90), .inr (12, [51, 0, 52, 53, 54, 55, 0, 56, 57, 0, 58, 0, 0, 0, 0, 0, 0, 59, 60, 61, 0, 62, 0, 0, 63, 64, 0, 65, 66, 67, 68, 69, 0, 0, 0, 70, 0, 71, 72, 73, 0, 74, 75, 76, 0, 0, 77, 0, 0, 0, 78, 79, 80, 81, 0]), .inl (0, 16), .inl (0, 3), .inl (0, 3), .inl (0, 120), .inl (1, 120), .inl (0, 4), .inl (1, 4), .inl (2, 130), .inl (0, 132), .inl (0, 132), .inl (0, 132), .inl (0, 8), .inl (0, 5), .inl (0, 5), .inl (0, 4), .inl (0, 4), .inl (1, 4), .inl (0, 4), .inl (0, 4), .inl (0, 4), .inl (0, 40), .inl (0, 40), .inl (0, 40), .inl (0, 8), .inl (0, 8), .inl (0, 8), .inl (0, 3), .inl (1, 120), .inl (3, 120), .inl (1, 90), .inl (0, 90), .inl (3, 1)]
/-- String.checkIndex, its formatter left aside -/
def pg_ci : List q_V → q_G → q_M → Option (Option q_V × q_G × q_M) := fun as G M => match as with
  | [.inl i, .inl n] => if 0 ≤ i ∧ i < n then some (none, G, M) else none
  | _ => none
def pg_ex : q_X9 := fun mid => if mid = 224 then some pg_ci else none
noncomputable def pq (sc : List Int) (d : Nat) : q_O := q_f (pg_P sc) pg_ym pg_MT pg_ex d
def pr (sc : List Int) (orc : q_O) (mid F pc : Nat) (l : q_L) (st : List q_V) (M : q_M) : Option (Option q_V × q_G × q_M) := q_drv orc (pg_P sc) (q_mm (pg_P sc) mid).2.1 (q_mm (pg_P sc) mid).2.2 (pg_ym mid).2.2.2 (pg_MT mid) F pc l st GF M 0 0
theorem pq_of {sc : List Int} {d mid F : Nat} {as : List q_V} {M : q_M} {r : Option q_V × q_G × q_M} (hx : mid ≠ 224) (hl : (q_ent as).length ≤ (pg_ym mid).2.2.1) (h : pr sc (pq sc d) mid F 0 (q_entry (pg_ym mid).2.2.1 as) [] M = some r) : pq sc (d + 1) mid as GF M = some r := (q_f_iff (by simp [pg_ex, hx])).mpr ⟨hl, F, h⟩
/-- a segment: from a stop to the next one -/
theorem pr_st {sc : List Int} {orc : q_O} {mid F pc : Nat} {l : q_L} {st : List q_V} {M : q_M} : pr sc orc mid (F + 1) pc l st M = q_dk orc (pg_P sc) (pg_MT mid).2.1 (q_mm (pg_P sc) mid).2.1 (q_mm (pg_P sc) mid).2.2 (pg_MT mid).1 (pg_MT mid).2.2.2.1 ((pg_MT mid).2.2.2.2.map (·.1)) (fun pc' T => match q_seek (pc' : Int) (pg_MT mid).2.2.2.1 with
      | [] => none
      | (_, ins, _) :: _ => if q_isr ins = true then (if T.2.2.2.2.1 ≤ (q_mm (pg_P sc) mid).2.1 ∧ T.2.2.2.2.2 ≤ (q_mm (pg_P sc) mid).2.2 then (q_en (pg_ym mid).2.2.2 ins T.2.1 (fun r => some (r, T.2.2.1, T.2.2.2.1))) else none)
        else q_drv orc (pg_P sc) (q_mm (pg_P sc) mid).2.1 (q_mm (pg_P sc) mid).2.2 (pg_ym mid).2.2.2 (pg_MT mid) F pc' (q_mask ((((pg_MT mid).2.2.2.2.find? (fun q => q.1 == pc')).map (·.2)).getD []) T.1) T.2.1 T.2.2.1 T.2.2.2.1 T.2.2.2.2.1 T.2.2.2.2.2) 1000 false (q_seek (pc : Int) (pg_MT mid).2.2.2.1) l st GF M 0 0 := by
  rw [q_dk_eq]
  show q_drv orc (pg_P sc) (q_mm (pg_P sc) mid).2.1 (q_mm (pg_P sc) mid).2.2 (pg_ym mid).2.2.2 (pg_MT mid) (F + 1) pc l st GF M 0 0 = _
  rw [q_drv]
  generalize q_den orc (pg_P sc) (pg_MT mid).2.1 (q_mm (pg_P sc) mid).2.1 (q_mm (pg_P sc) mid).2.2 (pg_MT mid).1 (pg_MT mid).2.2.2.1 ((pg_MT mid).2.2.2.2.map (·.1)) 1000 false (q_seek (pc : Int) (pg_MT mid).2.2.2.1) l st GF M 0 0 = x
  rcases x with _ | ⟨pc', l', st', G', M', ca', sa'⟩
  · rfl
  · dsimp only [q_bd]
    rcases q_seek (pc' : Int) (pg_MT mid).2.2.2.1 with _ | ⟨⟨p0, ins, ln⟩, tl⟩
    · rfl
    · dsimp only
      split
      · split
        · rw [q_en_b, ← q_end_k]
          rcases q_end (pg_ym mid).2.2.2 ins st' with _ | r <;> rfl
        · rfl
      · rfl
end
section
set_option maxRecDepth 20000 in
theorem sg_X0_clear_0 {sc : List Int} {orc : q_O} {M : q_M} {F : Nat} {a1 : Int} : pr sc orc 1 (F + 1) 0 [some (.inr (.inr 43)), some (.inl (a1))] [] M =
  some (none, GF, (q_up (q_up M 43 2 a1) 43 3 0)) := by
  rw [pr_st]; rfl
set_option maxRecDepth 20000 in
theorem sg_X0_height_0 {sc : List Int} {orc : q_O} {M : q_M} {F : Nat} : pr sc orc 2 (F + 1) 0 [some (.inr (.inr 43))] [] M =
  some (some (.inl (M 43 3)), GF, M) := by
  rw [pr_st]; rfl
set_option maxRecDepth 20000 in
theorem sg_X0_append_0 {sc : List Int} {orc : q_O} {M : q_M} {F : Nat} : pr sc orc 3 (F + 1) 0 [some (.inr (.inr 43))] [] M =
  if (M 43 3) < 30 then
    some (some (.inl (q_w (q_w (M 43 3 + 1) - 1))), GF, (q_up M 43 3 (q_w (M 43 3 + 1))))
  else
    some (some (.inl ((-1))), GF, M) := by
  rw [pr_st]; rfl
set_option maxRecDepth 20000 in
theorem sg_X0_has_0 {sc : List Int} {orc : q_O} {M : q_M} {F : Nat} {a1 a2 : Int} : pr sc orc 4 (F + 1) 0 [some (.inr (.inr 43)), some (.inl (a1)), some (.inl (a2))] [] M =
  if a1 < 0 then
    some (some (.inl (0)), GF, M)
  else
    if a1 < (M 43 3) then
      if a1 < 30 then
        if a2 < 0 then
          some (some (.inl (0)), GF, M)
        else
          if a2 < (M 43 2) then
            if a2 < 4 then
              some (some (.inl (1)), GF, M)
            else
              some (some (.inl (0)), GF, M)
          else
            some (some (.inl (0)), GF, M)
      else
        some (some (.inl (0)), GF, M)
    else
      some (some (.inl (0)), GF, M) := by
  rw [pr_st]; rfl
set_option maxRecDepth 20000 in
theorem sg_X0_unknownAt_0 {sc : List Int} {orc : q_O} {M : q_M} {F : Nat} {a1 a2 : Int} : pr sc orc 5 (F + 1) 0 [some (.inr (.inr 43)), some (.inl (a1)), some (.inl (a2))] [] M =
  q_cI (orc 4 [.inr (.inr 43), .inl (a1), .inl (a2)] GF M) GF (fun x2 M1 =>
  if x2 = 0 then
    some (some (.inl (0)), GF, M1)
  else
    if 0 ≤ q_w (q_w (a1 * 4) + a2) ∧ q_w (q_w (a1 * 4) + a2) < ((120 : Nat) : Int) then
    if (M1 45 (q_w (q_w (a1 * 4) + a2) : Int).toNat) = 0 then
      some (some (.inl (0)), GF, M1)
    else
      some (some (.inl (1)), GF, M1)
    else none) := by
  rw [pr_st]; rfl
set_option maxRecDepth 20000 in
theorem sg_X0_numberAt_0 {sc : List Int} {orc : q_O} {M : q_M} {F : Nat} {a1 a2 : Int} : pr sc orc 6 (F + 1) 0 [some (.inr (.inr 43)), some (.inl (a1)), some (.inl (a2))] [] M =
  q_cI (orc 4 [.inr (.inr 43), .inl (a1), .inl (a2)] GF M) GF (fun x2 M1 =>
  if x2 = 0 then
    some (some (.inr (.inl (0))), GF, M1)
  else
    if 0 ≤ q_w (q_w (a1 * 4) + a2) ∧ q_w (q_w (a1 * 4) + a2) < ((120 : Nat) : Int) then
    some (some (.inr (.inl (M1 44 (q_w (q_w (a1 * 4) + a2) : Int).toNat))), GF, M1)
    else none) := by
  rw [pr_st]; rfl
set_option maxRecDepth 20000 in
theorem sg_X0_set_0 {sc : List Int} {orc : q_O} {M : q_M} {F : Nat} {a1 a2 a3 a4 : Int} : pr sc orc 7 (F + 1) 0 [some (.inr (.inr 43)), some (.inl (a1)), some (.inl (a2)), some (.inr (.inl (a3))), none, some (.inl (a4))] [] M =
  q_cI (orc 4 [.inr (.inr 43), .inl (a1), .inl (a2)] GF M) GF (fun x2 M1 =>
  if x2 = 0 then
    some (none, GF, M1)
  else
    if a4 = 0 then
      if 0 ≤ q_w (q_w (a1 * 4) + a2) ∧ q_w (q_w (a1 * 4) + a2) < ((120 : Nat) : Int) then
      if 0 ≤ q_w (q_w (a1 * 4) + a2) ∧ q_w (q_w (a1 * 4) + a2) < ((120 : Nat) : Int) then
      if (1 : Nat) = 0 ∨ ((1 : Nat) = 1 ∧ (a4 = 0 ∨ a4 = 1)) ∨ ((1 : Nat) = 2 ∧ 0 ≤ a4 ∧ a4 < 65536) then
      some (none, GF, (q_up (q_up M1 44 ((q_w (q_w (a1 * 4) + a2) : Int).toNat) a3) 45 ((q_w (q_w (a1 * 4) + a2) : Int).toNat) a4))
      else none
      else none
      else none
    else
      if 0 ≤ q_w (q_w (a1 * 4) + a2) ∧ q_w (q_w (a1 * 4) + a2) < ((120 : Nat) : Int) then
      if 0 ≤ q_w (q_w (a1 * 4) + a2) ∧ q_w (q_w (a1 * 4) + a2) < ((120 : Nat) : Int) then
      if (1 : Nat) = 0 ∨ ((1 : Nat) = 1 ∧ (a4 = 0 ∨ a4 = 1)) ∨ ((1 : Nat) = 2 ∧ 0 ≤ a4 ∧ a4 < 65536) then
      some (none, GF, (q_up (q_up M1 44 ((q_w (q_w (a1 * 4) + a2) : Int).toNat) 0) 45 ((q_w (q_w (a1 * 4) + a2) : Int).toNat) a4))
      else none
      else none
      else none) := by
  rw [pr_st]; rfl
set_option maxRecDepth 20000 in
theorem sg_X1_firstIll_0 {sc : List Int} {orc : q_O} {M : q_M} {F : Nat} : pr sc orc 9 (F + 1) 0 [some (.inr (.inr 42))] [] M =
  q_c0 (orc 11 [.inr (.inr 42)] GF (q_up M 42 3 (-1))) GF (fun M1 =>
  q_c0 (orc 12 [.inr (.inr 42)] GF M1) GF (fun M2 =>
  q_c0 (orc 13 [.inr (.inr 42)] GF M2) GF (fun M3 =>
  some (some (.inl (M3 42 3)), GF, M3)))) := by
  rw [pr_st]; rfl
set_option maxRecDepth 20000 in
theorem sg_X1_noteIll_0 {sc : List Int} {orc : q_O} {M : q_M} {F : Nat} {a1 : Int} : pr sc orc 10 (F + 1) 0 [some (.inr (.inr 42)), some (.inl (a1))] [] M =
  if (M 42 3) = (-1) then
    some (none, GF, (q_up M 42 3 a1))
  else
    if a1 < (M 42 3) then
      some (none, GF, (q_up M 42 3 a1))
    else
      some (none, GF, M) := by
  rw [pr_st]; rfl
set_option maxRecDepth 20000 in
theorem sg_X1_checkItems_0 {sc : List Int} {orc : q_O} {M : q_M} {F : Nat} : pr sc orc 11 (F + 1) 0 [some (.inr (.inr 42)), none] [] M =
  pr sc orc 11 F 2 [some (.inr (.inr 42)), some (.inl (0))] [] M := by
  rw [pr_st]; rfl
set_option maxRecDepth 20000 in
theorem sg_X1_checkItems_2 {sc : List Int} {orc : q_O} {M : q_M} {F : Nat} {b1 : Int} : pr sc orc 11 (F + 1) 2 [some (.inr (.inr 42)), some (.inl (b1))] [] M =
  q_cI (orc 67 [.inr (.inr 15)] GF M) GF (fun x2 M1 =>
  if b1 < x2 then
    q_cI (orc 68 [.inr (.inr 15), .inl (b1)] GF M1) GF (fun x4 M3 =>
    q_cI (orc 96 [.inr (.inr 1), .inl (x4)] GF M3) GF (fun x6 M5 =>
    if x6 = 0 then
      q_cI (orc 69 [.inr (.inr 15), .inl (b1)] GF M5) GF (fun x15 M14 =>
      q_c0 (orc 10 [.inr (.inr 42), .inl (x15)] GF M14) GF (fun M16 =>
      q_cI (orc 70 [.inr (.inr 15), .inl (b1)] GF M16) GF (fun x18 M17 =>
      q_cI (orc 73 [.inr (.inr 15), .inl (x18)] GF M17) GF (fun x20 M19 =>
      if x20 = b1 then
        pr sc orc 11 F 2 [some (.inr (.inr 42)), some (.inl (q_w (b1 + (1))))] [] M19
      else
        q_cI (orc 71 [.inr (.inr 15), .inl (b1)] GF M19) GF (fun x22 M21 =>
        q_c0 (orc 10 [.inr (.inr 42), .inl (x22)] GF M21) GF (fun M23 =>
        pr sc orc 11 F 2 [some (.inr (.inr 42)), some (.inl (q_w (b1 + (1))))] [] M23))))))
    else
      q_cI (orc 70 [.inr (.inr 15), .inl (b1)] GF M5) GF (fun x8 M7 =>
      q_cI (orc 73 [.inr (.inr 15), .inl (x8)] GF M7) GF (fun x10 M9 =>
      if x10 = b1 then
        pr sc orc 11 F 2 [some (.inr (.inr 42)), some (.inl (q_w (b1 + (1))))] [] M9
      else
        q_cI (orc 71 [.inr (.inr 15), .inl (b1)] GF M9) GF (fun x12 M11 =>
        q_c0 (orc 10 [.inr (.inr 42), .inl (x12)] GF M11) GF (fun M13 =>
        pr sc orc 11 F 2 [some (.inr (.inr 42)), some (.inl (q_w (b1 + (1))))] [] M13))))))
  else
    some (none, GF, M1)) := by
  rw [pr_st]; rfl
set_option maxRecDepth 20000 in
theorem sg_X1_checkColumns_0 {sc : List Int} {orc : q_O} {M : q_M} {F : Nat} : pr sc orc 12 (F + 1) 0 [some (.inr (.inr 42)), none, none] [] M =
  pr sc orc 12 F 2 [some (.inr (.inr 42)), some (.inl (0)), none] [] M := by
  rw [pr_st]; rfl
set_option maxRecDepth 20000 in
theorem sg_X1_checkColumns_2 {sc : List Int} {orc : q_O} {M : q_M} {F : Nat} {b1 : Int} : pr sc orc 12 (F + 1) 2 [some (.inr (.inr 42)), some (.inl (b1)), none] [] M =
  q_cI (orc 28 [.inr (.inr 16)] GF M) GF (fun x2 M1 =>
  if b1 < x2 then
    q_cI (orc 31 [.inr (.inr 16), .inl (b1)] GF M1) GF (fun x4 M3 =>
    if x4 = 0 then
      pr sc orc 12 F 2 [some (.inr (.inr 42)), some (.inl (q_w (b1 + (1)))), none] [] M3
    else
      q_cI (orc 33 [.inr (.inr 16), .inl (b1)] GF M3) GF (fun x6 M5 =>
      q_cI (orc 73 [.inr (.inr 15), .inl (x6)] GF M5) GF (fun x8 M7 =>
      q_c0 (orc 37 [.inr (.inr 16), .inl (b1), .inl (x8)] GF M7) GF (fun M9 =>
      if x8 = (-1) then
        q_cI (orc 32 [.inr (.inr 16), .inl (b1)] GF M9) GF (fun x11 M10 =>
        q_c0 (orc 10 [.inr (.inr 42), .inl (x11)] GF M10) GF (fun M12 =>
        pr sc orc 12 F 2 [some (.inr (.inr 42)), some (.inl (q_w (b1 + (1)))), none] [] M12))
      else
        q_cI (orc 35 [.inr (.inr 16), .inl (b1)] GF M9) GF (fun x14 M13 =>
        if x14 < x8 then
          q_cI (orc 32 [.inr (.inr 16), .inl (b1)] GF M13) GF (fun x16 M15 =>
          q_c0 (orc 10 [.inr (.inr 42), .inl (x16)] GF M15) GF (fun M17 =>
          pr sc orc 12 F 2 [some (.inr (.inr 42)), some (.inl (q_w (b1 + (1)))), none] [] M17))
        else
          q_cI (orc 34 [.inr (.inr 16), .inl (b1)] GF M13) GF (fun x19 M18 =>
          q_cI (orc 68 [.inr (.inr 15), .inl (x8)] GF M18) GF (fun x21 M20 =>
          q_cI (orc 96 [.inr (.inr 1), .inl (x21)] GF M20) GF (fun x23 M22 =>
          if x19 < x23 then
            pr sc orc 12 F 2 [some (.inr (.inr 42)), some (.inl (q_w (b1 + (1)))), none] [] M22
          else
            q_cI (orc 32 [.inr (.inr 16), .inl (b1)] GF M22) GF (fun x25 M24 =>
            q_c0 (orc 10 [.inr (.inr 42), .inl (x25)] GF M24) GF (fun M26 =>
            pr sc orc 12 F 2 [some (.inr (.inr 42)), some (.inl (q_w (b1 + (1)))), none] [] M26))))))))))
  else
    some (none, GF, M1)) := by
  rw [pr_st]; rfl
set_option maxRecDepth 20000 in
theorem sg_X1_checkOuts_0 {sc : List Int} {orc : q_O} {M : q_M} {F : Nat} : pr sc orc 13 (F + 1) 0 [some (.inr (.inr 42)), none, none] [] M =
  q_cI (orc 81 [.inr (.inr 15)] GF M) GF (fun x2 M1 =>
  if x2 = 0 then
    some (none, GF, M1)
  else
    pr sc orc 13 F 13 [some (.inr (.inr 42)), some (.inl (0)), none] [] M1) := by
  rw [pr_st]; rfl
set_option maxRecDepth 20000 in
theorem sg_X1_checkOuts_13 {sc : List Int} {orc : q_O} {M : q_M} {F : Nat} {b1 : Int} : pr sc orc 13 (F + 1) 13 [some (.inr (.inr 42)), some (.inl (b1)), none] [] M =
  q_cI (orc 75 [.inr (.inr 15)] GF M) GF (fun x2 M1 =>
  if b1 < x2 then
    q_cI (orc 77 [.inr (.inr 15), .inl (b1)] GF M1) GF (fun x4 M3 =>
    q_cI (orc 76 [.inr (.inr 15), .inl (b1)] GF M3) GF (fun x6 M5 =>
    if x6 = 275 then
      q_cI (orc 80 [.inr (.inr 15), .inl (x4)] GF M5) GF (fun x8 M7 =>
      if x8 = 0 then
        q_cI (orc 32 [.inr (.inr 16), .inl (x4)] GF M7) GF (fun x10 M9 =>
        q_c0 (orc 10 [.inr (.inr 42), .inl (x10)] GF M9) GF (fun M11 =>
        pr sc orc 13 F 13 [some (.inr (.inr 42)), some (.inl (q_w (b1 + (1)))), none] [] M11))
      else
        pr sc orc 13 F 13 [some (.inr (.inr 42)), some (.inl (q_w (b1 + (1)))), none] [] M7)
    else
      pr sc orc 13 F 13 [some (.inr (.inr 42)), some (.inl (q_w (b1 + (1)))), none] [] M5))
  else
    some (none, GF, M1)) := by
  rw [pr_st]; rfl
set_option maxRecDepth 20000 in
theorem sg_X2_seen_0 {sc : List Int} {orc : q_O} {M : q_M} {F : Nat} : pr sc orc 15 (F + 1) 0 [some (.inr (.inr 46))] [] M =
  some (some (.inl (M 46 8)), GF, M) := by
  rw [pr_st]; rfl
set_option maxRecDepth 20000 in
theorem sg_X2_goThroughAll_0 {sc : List Int} {orc : q_O} {M : q_M} {F : Nat} : pr sc orc 16 (F + 1) 0 [some (.inr (.inr 46))] [] M =
  q_cI (orc 81 [.inr (.inr 15)] GF (q_up M 46 8 0)) GF (fun x2 M1 =>
  if x2 = 0 ∨ x2 = 1 then
  q_cI (orc 75 [.inr (.inr 15)] GF (q_up M1 46 7 x2)) GF (fun x4 M3 =>
  q_c0 (orc 1 [.inr (.inr 43), .inl (x4)] GF M3) GF (fun M5 =>
  if (M5 46 7) = 0 then
    q_cI (orc 17 [.inr (.inr 46), .inl (0)] GF M5) GF (fun x7 M6 =>
    if x7 = 0 ∨ x7 = 1 then some (some (.inl (x7)), GF, M6) else none)
  else
    q_cI (orc 78 [.inr (.inr 15)] GF M5) GF (fun x9 M8 =>
    if x9 = 0 then
      q_cI (orc 3 [.inr (.inr 43)] GF M8) GF (fun x13 M12 =>
      q_c0 (orc 23 [.inr (.inr 46), .inl (x13)] GF M12) GF (fun M14 =>
      q_cI (orc 17 [.inr (.inr 46), .inl (0)] GF M14) GF (fun x16 M15 =>
      if x16 = 0 ∨ x16 = 1 then some (some (.inl (x16)), GF, M15) else none)))
    else
      q_cI (orc 17 [.inr (.inr 46), .inl (0)] GF M8) GF (fun x11 M10 =>
      if x11 = 0 ∨ x11 = 1 then some (some (.inl (x11)), GF, M10) else none))))
  else none) := by
  rw [pr_st]; rfl
set_option maxRecDepth 20000 in
theorem sg_X2_goThrough_0 {sc : List Int} {orc : q_O} {M : q_M} {F : Nat} {a1 : Int} : pr sc orc 17 (F + 1) 0 [some (.inr (.inr 46)), some (.inl (a1)), none, none, none, none] [] M =
  q_cI (orc 67 [.inr (.inr 15)] GF M) GF (fun x2 M1 =>
  if a1 < x2 then
    if a1 < 3 then
      q_cI (orc 68 [.inr (.inr 15), .inl (a1)] GF M1) GF (fun x6 M5 =>
      q_cI (orc 97 [.inr (.inr 1), .inl (x6)] GF M5) GF (fun x8 M7 =>
      pr sc orc 17 F 45 [some (.inr (.inr 46)), some (.inl (a1)), some (.inl (x6)), some (.inl (x8)), some (.inl (0)), some (.inl (0))] [] M7))
    else
      q_cI (orc 19 [.inr (.inr 46)] GF M1) GF (fun x10 M9 =>
      if x10 = 0 ∨ x10 = 1 then some (some (.inl (x10)), GF, M9) else none)
  else
    q_cI (orc 19 [.inr (.inr 46)] GF M1) GF (fun x4 M3 =>
    if x4 = 0 ∨ x4 = 1 then some (some (.inl (x4)), GF, M3) else none)) := by
  rw [pr_st]; rfl
set_option maxRecDepth 20000 in
theorem sg_X2_goThrough_45 {sc : List Int} {orc : q_O} {M : q_M} {F : Nat} {b1 b2 b3 b4 b5 : Int} : pr sc orc 17 (F + 1) 45 [some (.inr (.inr 46)), some (.inl (b1)), some (.inl (b2)), some (.inl (b3)), some (.inl (b4)), some (.inl (b5))] [] M =
  if b5 < b3 then
    q_c0 (orc 41 [.inr (.inr 16), .inl (b1), .inr (.inr 1), .inl (b2), .inl (b5)] GF (q_up M 46 8 (q_w (M 46 8 + 1)))) GF (fun M6 =>
    q_cI (orc 90 [.inr (.inr 24), .inl (b1), .inl (0)] GF M6) GF (fun x8 M7 =>
    if x8 = 0 then
      pr sc orc 17 F 45 [some (.inr (.inr 46)), some (.inl (b1)), some (.inl (b2)), some (.inl (b3)), some (.inl (b4)), some (.inl (q_w (b5 + (1))))] [] M7
    else
      q_cI (orc 18 [.inr (.inr 46), .inl (b1)] GF M7) GF (fun x10 M9 =>
      if x10 = 0 then
        some (some (.inl (0)), GF, M9)
      else
        pr sc orc 17 F 45 [some (.inr (.inr 46)), some (.inl (b1)), some (.inl (b2)), some (.inl (b3)), some (.inl (1)), some (.inl (q_w (b5 + (1))))] [] M9)))
  else
    if b4 = 0 then
      q_cI (orc 72 [.inr (.inr 15), .inl (b1)] GF M) GF (fun x2 M1 =>
      if x2 = 0 then
        some (some (.inl (1)), GF, M1)
      else
        q_c0 (orc 41 [.inr (.inr 16), .inl (b1), .inr (.inr 1), .inl (b2), .inl ((-1))] GF M1) GF (fun M3 =>
        q_cI (orc 18 [.inr (.inr 46), .inl (b1)] GF M3) GF (fun x5 M4 =>
        if x5 = 0 ∨ x5 = 1 then some (some (.inl (x5)), GF, M4) else none)))
    else
      some (some (.inl (1)), GF, M) := by
  rw [pr_st]; rfl
set_option maxRecDepth 20000 in
theorem sg_X2_goOn_0 {sc : List Int} {orc : q_O} {M : q_M} {F : Nat} {a1 : Int} : pr sc orc 18 (F + 1) 0 [some (.inr (.inr 46)), some (.inl (a1))] [] M =
  q_cI (orc 90 [.inr (.inr 24), .inl (a1), .inl (1)] GF M) GF (fun x2 M1 =>
  if x2 = 0 then
    some (some (.inl (1)), GF, M1)
  else
    q_cI (orc 17 [.inr (.inr 46), .inl (q_w (a1 + 1))] GF M1) GF (fun x4 M3 =>
    if x4 = 0 then
      some (some (.inl (0)), GF, M3)
    else
      some (some (.inl (1)), GF, M3))) := by
  rw [pr_st]; rfl
set_option maxRecDepth 20000 in
theorem sg_X2_gather_0 {sc : List Int} {orc : q_O} {M : q_M} {F : Nat} : pr sc orc 19 (F + 1) 0 [some (.inr (.inr 46)), none, none] [] M =
  if (M 46 7) = 0 then
    if (-1) = (-1) then
      q_cI (orc 3 [.inr (.inr 43)] GF M) GF (fun x2 M1 =>
      if x2 = (-1) then
        some (some (.inl (0)), GF, M1)
      else
        q_c0 (orc 23 [.inr (.inr 46), .inl (x2)] GF M1) GF (fun M3 =>
        pr sc orc 19 F 43 [some (.inr (.inr 46)), some (.inl (x2)), some (.inl (0))] [] M3))
    else
      pr sc orc 19 F 43 [some (.inr (.inr 46)), some (.inl ((-1))), some (.inl (0))] [] M
  else
    q_cI (orc 20 [.inr (.inr 46)] GF M) GF (fun x5 M4 =>
    if x5 = (-1) then
      q_cI (orc 3 [.inr (.inr 43)] GF M4) GF (fun x7 M6 =>
      if x7 = (-1) then
        some (some (.inl (0)), GF, M6)
      else
        q_c0 (orc 23 [.inr (.inr 46), .inl (x7)] GF M6) GF (fun M8 =>
        pr sc orc 19 F 43 [some (.inr (.inr 46)), some (.inl (x7)), some (.inl (0))] [] M8))
    else
      pr sc orc 19 F 43 [some (.inr (.inr 46)), some (.inl (x5)), some (.inl (0))] [] M4) := by
  rw [pr_st]; rfl
set_option maxRecDepth 20000 in
theorem sg_X2_gather_43 {sc : List Int} {orc : q_O} {M : q_M} {F : Nat} {b1 b2 : Int} : pr sc orc 19 (F + 1) 43 [some (.inr (.inr 46)), some (.inl (b1)), some (.inl (b2))] [] M =
  q_cI (orc 75 [.inr (.inr 15)] GF M) GF (fun x2 M1 =>
  if b2 < x2 then
    q_cI (orc 76 [.inr (.inr 15), .inl (b2)] GF M1) GF (fun x4 M3 =>
    q_cI (orc 77 [.inr (.inr 15), .inl (b2)] GF M3) GF (fun x6 M5 =>
    q_c0 (orc 24 [.inr (.inr 46), .inl (b1), .inl (b2), .inl (x4), .inl (x6)] GF M5) GF (fun M7 =>
    pr sc orc 19 F 43 [some (.inr (.inr 46)), some (.inl (b1)), some (.inl (q_w (b2 + (1))))] [] M7)))
  else
    some (some (.inl (1)), GF, M1)) := by
  rw [pr_st]; rfl
set_option maxRecDepth 20000 in
theorem sg_X2_lineOfGroup_0 {sc : List Int} {orc : q_O} {M : q_M} {F : Nat} : pr sc orc 20 (F + 1) 0 [some (.inr (.inr 46)), none] [] M =
  pr sc orc 20 F 2 [some (.inr (.inr 46)), some (.inl (0))] [] M := by
  rw [pr_st]; rfl
set_option maxRecDepth 20000 in
theorem sg_X2_lineOfGroup_2 {sc : List Int} {orc : q_O} {M : q_M} {F : Nat} {b1 : Int} : pr sc orc 20 (F + 1) 2 [some (.inr (.inr 46)), some (.inl (b1))] [] M =
  q_cI (orc 2 [.inr (.inr 43)] GF M) GF (fun x2 M1 =>
  if b1 < x2 then
    q_cI (orc 21 [.inr (.inr 46), .inl (b1)] GF M1) GF (fun x4 M3 =>
    if x4 = 0 then
      pr sc orc 20 F 2 [some (.inr (.inr 46)), some (.inl (q_w (b1 + (1))))] [] M3
    else
      some (some (.inl (b1)), GF, M3))
  else
    some (some (.inl ((-1))), GF, M1)) := by
  rw [pr_st]; rfl
set_option maxRecDepth 20000 in
theorem sg_X2_isOfGroup_0 {sc : List Int} {orc : q_O} {M : q_M} {F : Nat} {a1 : Int} : pr sc orc 21 (F + 1) 0 [some (.inr (.inr 46)), some (.inl (a1)), none, none, none] [] M =
  pr sc orc 21 F 2 [some (.inr (.inr 46)), some (.inl (a1)), some (.inl (0)), none, none] [] M := by
  rw [pr_st]; rfl
set_option maxRecDepth 20000 in
theorem sg_X2_isOfGroup_2 {sc : List Int} {orc : q_O} {M : q_M} {F : Nat} {b1 b2 : Int} : pr sc orc 21 (F + 1) 2 [some (.inr (.inr 46)), some (.inl (b1)), some (.inl (b2)), none, none] [] M =
  q_cI (orc 78 [.inr (.inr 15)] GF M) GF (fun x2 M1 =>
  if b2 < x2 then
    q_cI (orc 22 [.inl (b1), .inl (b2)] GF M1) GF (fun x4 M3 =>
    q_cI (orc 79 [.inr (.inr 15), .inl (b2)] GF M3) GF (fun x6 M5 =>
    if x4 = (-1) then
      some (some (.inl (0)), GF, M5)
    else
      if 0 ≤ x4 ∧ x4 < ((90 : Nat) : Int) then
      q_cI (orc 40 [.inr (.inr 16), .inl (x6)] GF M5) GF (fun x8 M7 =>
      if (M5 48 (x4 : Int).toNat) = x8 then
        if 0 ≤ x4 ∧ x4 < ((90 : Nat) : Int) then
        if (M7 48 (x4 : Int).toNat) = 0 then
          if 0 ≤ x4 ∧ x4 < ((90 : Nat) : Int) then
          q_cI (orc 39 [.inr (.inr 16), .inl (x6)] GF M7) GF (fun x10 M9 =>
          if (M7 47 (x4 : Int).toNat) = x10 then
            pr sc orc 21 F 2 [some (.inr (.inr 46)), some (.inl (b1)), some (.inl (q_w (b2 + (1)))), none, none] [] M9
          else
            some (some (.inl (0)), GF, M9))
          else none
        else
          pr sc orc 21 F 2 [some (.inr (.inr 46)), some (.inl (b1)), some (.inl (q_w (b2 + (1)))), none, none] [] M7
        else none
      else
        some (some (.inl (0)), GF, M7))
      else none))
  else
    some (some (.inl (1)), GF, M1)) := by
  rw [pr_st]; rfl
set_option maxRecDepth 20000 in
theorem sg_X2_keyOf_0 {sc : List Int} {orc : q_O} {M : q_M} {F : Nat} {a1 a2 : Int} : pr sc orc 22 (F + 1) 0 [some (.inl (a1)), some (.inl (a2))] [] M =
  if a1 < 0 then
    some (some (.inl ((-1))), GF, M)
  else
    if a1 < 30 then
      if a2 < 0 then
        some (some (.inl ((-1))), GF, M)
      else
        if a2 < 3 then
          some (some (.inl (q_w (q_w (a1 * 3) + a2))), GF, M)
        else
          some (some (.inl ((-1))), GF, M)
    else
      some (some (.inl ((-1))), GF, M) := by
  rw [pr_st]; rfl
set_option maxRecDepth 20000 in
theorem sg_X2_begin_0 {sc : List Int} {orc : q_O} {M : q_M} {F : Nat} {a1 : Int} : pr sc orc 23 (F + 1) 0 [some (.inr (.inr 46)), some (.inl (a1)), none, none, none] [] M =
  pr sc orc 23 F 2 [some (.inr (.inr 46)), some (.inl (a1)), some (.inl (0)), none, none] [] M := by
  rw [pr_st]; rfl
set_option maxRecDepth 20000 in
theorem sg_X2_begin_2 {sc : List Int} {orc : q_O} {M : q_M} {F : Nat} {b1 b2 : Int} : pr sc orc 23 (F + 1) 2 [some (.inr (.inr 46)), some (.inl (b1)), some (.inl (b2)), none, none] [] M =
  q_cI (orc 78 [.inr (.inr 15)] GF M) GF (fun x2 M1 =>
  if b2 < x2 then
    q_cI (orc 22 [.inl (b1), .inl (b2)] GF M1) GF (fun x4 M3 =>
    if x4 = (-1) then
      pr sc orc 23 F 2 [some (.inr (.inr 46)), some (.inl (b1)), some (.inl (q_w (b2 + (1)))), none, none] [] M3
    else
      q_cI (orc 79 [.inr (.inr 15), .inl (b2)] GF M3) GF (fun x6 M5 =>
      q_cI (orc 39 [.inr (.inr 16), .inl (x6)] GF M5) GF (fun x8 M7 =>
      if 0 ≤ x4 ∧ x4 < ((90 : Nat) : Int) then
      q_cI (orc 79 [.inr (.inr 15), .inl (b2)] GF (q_up M7 47 ((x4 : Int).toNat) x8)) GF (fun x10 M9 =>
      q_cI (orc 40 [.inr (.inr 16), .inl (x10)] GF M9) GF (fun x12 M11 =>
      if 0 ≤ x4 ∧ x4 < ((90 : Nat) : Int) then
      if (1 : Nat) = 0 ∨ ((1 : Nat) = 1 ∧ (x12 = 0 ∨ x12 = 1)) ∨ ((1 : Nat) = 2 ∧ 0 ≤ x12 ∧ x12 < 65536) then
      pr sc orc 23 F 2 [some (.inr (.inr 46)), some (.inl (b1)), some (.inl (q_w (b2 + (1)))), none, none] [] (q_up M11 48 ((x4 : Int).toNat) x12)
      else none
      else none))
      else none)))
  else
    pr sc orc 23 F 74 [some (.inr (.inr 46)), some (.inl (b1)), some (.inl (0)), none, none] [] M1) := by
  rw [pr_st]; rfl
set_option maxRecDepth 20000 in
theorem sg_X2_begin_74 {sc : List Int} {orc : q_O} {M : q_M} {F : Nat} {b1 b2 : Int} : pr sc orc 23 (F + 1) 74 [some (.inr (.inr 46)), some (.inl (b1)), some (.inl (b2)), none, none] [] M =
  q_cI (orc 75 [.inr (.inr 15)] GF M) GF (fun x2 M1 =>
  if b2 < x2 then
    q_cI (orc 76 [.inr (.inr 15), .inl (b2)] GF M1) GF (fun x4 M3 =>
    q_cI (orc 77 [.inr (.inr 15), .inl (b2)] GF M3) GF (fun x6 M5 =>
    if x4 = 275 then
      q_cI (orc 39 [.inr (.inr 16), .inl (x6)] GF M5) GF (fun x10 M9 =>
      q_cI (orc 40 [.inr (.inr 16), .inl (x6)] GF M9) GF (fun x12 M11 =>
      q_c0 (orc 7 [.inr (.inr 43), .inl (b1), .inl (b2), .inr (.inl (x10)), .inl (x12)] GF M11) GF (fun M13 =>
      pr sc orc 23 F 74 [some (.inr (.inr 46)), some (.inl (b1)), some (.inl (q_w (b2 + (1)))), none, none] [] M13)))
    else
      if x4 = 266 then
        q_c0 (orc 7 [.inr (.inr 43), .inl (b1), .inl (b2), .inr (.inl (0)), .inl (0)] GF M5) GF (fun M7 =>
        pr sc orc 23 F 74 [some (.inr (.inr 46)), some (.inl (b1)), some (.inl (q_w (b2 + (1)))), none, none] [] M7)
      else
        q_c0 (orc 7 [.inr (.inr 43), .inl (b1), .inl (b2), .inr (.inl (0)), .inl (1)] GF M5) GF (fun M8 =>
        pr sc orc 23 F 74 [some (.inr (.inr 46)), some (.inl (b1)), some (.inl (q_w (b2 + (1)))), none, none] [] M8)))
  else
    some (none, GF, M1)) := by
  rw [pr_st]; rfl
set_option maxRecDepth 20000 in
theorem sg_X2_tally_0 {sc : List Int} {orc : q_O} {M : q_M} {F : Nat} {a1 a2 a3 a4 : Int} : pr sc orc 24 (F + 1) 0 [some (.inr (.inr 46)), some (.inl (a1)), some (.inl (a2)), some (.inl (a3)), some (.inl (a4)), none, none, none, none, none] [] M =
  q_cL (orc 6 [.inr (.inr 43), .inl (a1), .inl (a2)] GF M) GF (fun x2 M1 =>
  if a3 = 266 then
    q_c0 (orc 7 [.inr (.inr 43), .inl (a1), .inl (a2), .inr (.inl (q_w6 (x2 + 1))), .inl (0)] GF M1) GF (fun M13 =>
    some (none, GF, M13))
  else
    if a3 = 275 then
      some (none, GF, M1)
    else
      q_cI (orc 40 [.inr (.inr 16), .inl (a4)] GF M1) GF (fun x4 M3 =>
      if x4 = 0 then
        q_cI (orc 39 [.inr (.inr 16), .inl (a4)] GF M3) GF (fun x6 M5 =>
        q_cI (orc 5 [.inr (.inr 43), .inl (a1), .inl (a2)] GF M5) GF (fun x8 M7 =>
        if x8 = 0 then
          q_cL (orc 25 [.inl (a3), .inr (.inl (x2)), .inr (.inl (x6))] GF M7) GF (fun x10 M9 =>
          q_c0 (orc 7 [.inr (.inr 43), .inl (a1), .inl (a2), .inr (.inl (x10)), .inl (0)] GF M9) GF (fun M11 =>
          some (none, GF, M11)))
        else
          q_c0 (orc 7 [.inr (.inr 43), .inl (a1), .inl (a2), .inr (.inl (x6)), .inl (0)] GF M7) GF (fun M12 =>
          some (none, GF, M12))))
      else
        some (none, GF, M3))) := by
  rw [pr_st]; rfl
set_option maxRecDepth 20000 in
theorem sg_X2_joined_0 {sc : List Int} {orc : q_O} {M : q_M} {F : Nat} {a1 a2 a3 : Int} : pr sc orc 25 (F + 1) 0 [some (.inl (a1)), some (.inr (.inl (a2))), none, some (.inr (.inl (a3))), none] [] M =
  if a1 = 267 then
    some (some (.inr (.inl (q_w6 (a2 + a3)))), GF, M)
  else
    if a1 = 268 then
      q_cL (orc 228 [.inr (.inl (a2)), .inr (.inl (a3))] GF M) GF (fun x4 M3 =>
      some (some (.inr (.inl (x4))), GF, M3))
    else
      q_cL (orc 226 [.inr (.inl (a2)), .inr (.inl (a3))] GF M) GF (fun x2 M1 =>
      some (some (.inr (.inl (x2))), GF, M1)) := by
  rw [pr_st]; rfl
set_option maxRecDepth 20000 in
theorem sg_X3_clear_0 {sc : List Int} {orc : q_O} {M : q_M} {F : Nat} : pr sc orc 27 (F + 1) 0 [some (.inr (.inr 16))] [] M =
  some (none, GF, (q_up M 16 7 0)) := by
  rw [pr_st]; rfl
set_option maxRecDepth 20000 in
theorem sg_X3_count_0 {sc : List Int} {orc : q_O} {M : q_M} {F : Nat} : pr sc orc 28 (F + 1) 0 [some (.inr (.inr 16))] [] M =
  some (some (.inl (M 16 7)), GF, M) := by
  rw [pr_st]; rfl
set_option maxRecDepth 20000 in
theorem sg_X3_addColumn_0 {sc : List Int} {orc : q_O} {M : q_M} {F : Nat} {a1 a2 a3 a4 : Int} : pr sc orc 29 (F + 1) 0 [some (.inr (.inr 16)), some (.inl (a1)), some (.inl (a2)), some (.inl (a3)), some (.inl (a4))] [] M =
  if (M 16 7) < 0 then
    some (some (.inl ((-1))), GF, M)
  else
    if (M 16 7) < 130 then
      if 0 ≤ M 16 7 ∧ M 16 7 < ((130 : Nat) : Int) then
      if 0 ≤ M 16 7 ∧ M 16 7 < ((130 : Nat) : Int) then
      if 0 ≤ M 16 7 ∧ M 16 7 < ((130 : Nat) : Int) then
      if 0 ≤ M 16 7 ∧ M 16 7 < ((130 : Nat) : Int) then
      if 0 ≤ M 16 7 ∧ M 16 7 < ((130 : Nat) : Int) then
      if 0 ≤ M 16 7 ∧ M 16 7 < ((130 : Nat) : Int) then
      if 0 ≤ M 16 7 ∧ M 16 7 < ((130 : Nat) : Int) then
      some (some (.inl (q_w (q_w (M 16 7 + 1) - 1))), GF, (q_up (q_up (q_up (q_up (q_up (q_up (q_up (q_up M 17 ((M 16 7 : Int).toNat) a1) 18 ((M 16 7 : Int).toNat) a2) 19 ((M 16 7 : Int).toNat) a3) 20 ((M 16 7 : Int).toNat) a4) 21 ((M 16 7 : Int).toNat) (-1)) 22 ((M 16 7 : Int).toNat) 0) 23 ((M 16 7 : Int).toNat) 1) 16 7 (q_w (M 16 7 + 1))))
      else none
      else none
      else none
      else none
      else none
      else none
      else none
    else
      some (some (.inl ((-1))), GF, M) := by
  rw [pr_st]; rfl
end
section
set_option maxRecDepth 20000 in
theorem sg_X3_addConstant_0 {sc : List Int} {orc : q_O} {M : q_M} {F : Nat} {a1 a2 : Int} : pr sc orc 30 (F + 1) 0 [some (.inr (.inr 16)), some (.inl (a1)), some (.inl (a2)), none] [] M =
  q_cI (orc 29 [.inr (.inr 16), .inl ((-1)), .inl ((-1)), .inl ((-1)), .inl ((-1))] GF M) GF (fun x2 M1 =>
  if x2 < 0 then
    some (some (.inl (x2)), GF, M1)
  else
    if x2 < 130 then
      if 0 ≤ x2 ∧ x2 < ((130 : Nat) : Int) then
      if 0 ≤ x2 ∧ x2 < ((130 : Nat) : Int) then
      if (1 : Nat) = 0 ∨ ((1 : Nat) = 1 ∧ (a2 = 0 ∨ a2 = 1)) ∨ ((1 : Nat) = 2 ∧ 0 ≤ a2 ∧ a2 < 65536) then
      some (some (.inl (x2)), GF, (q_up (q_up M1 22 ((x2 : Int).toNat) a1) 23 ((x2 : Int).toNat) a2))
      else none
      else none
      else none
    else
      some (some (.inl (x2)), GF, M1)) := by
  rw [pr_st]; rfl
set_option maxRecDepth 20000 in
theorem sg_X3_isColumn_0 {sc : List Int} {orc : q_O} {M : q_M} {F : Nat} {a1 : Int} : pr sc orc 31 (F + 1) 0 [some (.inr (.inr 16)), some (.inl (a1))] [] M =
  q_cI (orc 146 [.inr (.inr 18), .inl (a1)] GF M) GF (fun x2 M1 =>
  if x2 = (-1) then
    some (some (.inl (0)), GF, M1)
  else
    some (some (.inl (1)), GF, M1)) := by
  rw [pr_st]; rfl
set_option maxRecDepth 20000 in
theorem sg_X3_placeOf_0 {sc : List Int} {orc : q_O} {M : q_M} {F : Nat} {a1 : Int} : pr sc orc 32 (F + 1) 0 [some (.inr (.inr 16)), some (.inl (a1))] [] M =
  q_cI (orc 146 [.inr (.inr 17), .inl (a1)] GF M) GF (fun x2 M1 =>
  some (some (.inl (x2)), GF, M1)) := by
  rw [pr_st]; rfl
set_option maxRecDepth 20000 in
theorem sg_X3_aliasOf_0 {sc : List Int} {orc : q_O} {M : q_M} {F : Nat} {a1 : Int} : pr sc orc 33 (F + 1) 0 [some (.inr (.inr 16)), some (.inl (a1))] [] M =
  q_cI (orc 146 [.inr (.inr 18), .inl (a1)] GF M) GF (fun x2 M1 =>
  some (some (.inl (x2)), GF, M1)) := by
  rw [pr_st]; rfl
set_option maxRecDepth 20000 in
theorem sg_X3_letterOf_0 {sc : List Int} {orc : q_O} {M : q_M} {F : Nat} {a1 : Int} : pr sc orc 34 (F + 1) 0 [some (.inr (.inr 16)), some (.inl (a1))] [] M =
  q_cI (orc 146 [.inr (.inr 19), .inl (a1)] GF M) GF (fun x2 M1 =>
  some (some (.inl (x2)), GF, M1)) := by
  rw [pr_st]; rfl
set_option maxRecDepth 20000 in
theorem sg_X3_lastItemOf_0 {sc : List Int} {orc : q_O} {M : q_M} {F : Nat} {a1 : Int} : pr sc orc 35 (F + 1) 0 [some (.inr (.inr 16)), some (.inl (a1))] [] M =
  q_cI (orc 146 [.inr (.inr 20), .inl (a1)] GF M) GF (fun x2 M1 =>
  some (some (.inl (x2)), GF, M1)) := by
  rw [pr_st]; rfl
set_option maxRecDepth 20000 in
theorem sg_X3_itemOf_0 {sc : List Int} {orc : q_O} {M : q_M} {F : Nat} {a1 : Int} : pr sc orc 36 (F + 1) 0 [some (.inr (.inr 16)), some (.inl (a1))] [] M =
  q_cI (orc 146 [.inr (.inr 21), .inl (a1)] GF M) GF (fun x2 M1 =>
  some (some (.inl (x2)), GF, M1)) := by
  rw [pr_st]; rfl
set_option maxRecDepth 20000 in
theorem sg_X3_setItem_0 {sc : List Int} {orc : q_O} {M : q_M} {F : Nat} {a1 a2 : Int} : pr sc orc 37 (F + 1) 0 [some (.inr (.inr 16)), some (.inl (a1)), some (.inl (a2))] [] M =
  if a1 < 0 then
    some (none, GF, M)
  else
    if a1 < 130 then
      if 0 ≤ a1 ∧ a1 < ((130 : Nat) : Int) then
      some (none, GF, (q_up M 21 ((a1 : Int).toNat) a2))
      else none
    else
      some (none, GF, M) := by
  rw [pr_st]; rfl
set_option maxRecDepth 20000 in
theorem sg_X3_sameColumn_0 {sc : List Int} {orc : q_O} {M : q_M} {F : Nat} {a1 a2 : Int} : pr sc orc 38 (F + 1) 0 [some (.inr (.inr 16)), some (.inl (a1)), some (.inl (a2))] [] M =
  q_cI (orc 33 [.inr (.inr 16), .inl (a1)] GF M) GF (fun x2 M1 =>
  q_cI (orc 33 [.inr (.inr 16), .inl (a2)] GF M1) GF (fun x4 M3 =>
  if x2 = x4 then
    q_cI (orc 34 [.inr (.inr 16), .inl (a1)] GF M3) GF (fun x6 M5 =>
    q_cI (orc 34 [.inr (.inr 16), .inl (a2)] GF M5) GF (fun x8 M7 =>
    if x6 = x8 then
      some (some (.inl (1)), GF, M7)
    else
      some (some (.inl (0)), GF, M7)))
  else
    some (some (.inl (0)), GF, M3))) := by
  rw [pr_st]; rfl
set_option maxRecDepth 20000 in
theorem sg_X3_numberOf_0 {sc : List Int} {orc : q_O} {M : q_M} {F : Nat} {a1 : Int} : pr sc orc 39 (F + 1) 0 [some (.inr (.inr 16)), some (.inl (a1))] [] M =
  if a1 < 0 then
    some (some (.inl (0)), GF, M)
  else
    if a1 < 130 then
      if 0 ≤ a1 ∧ a1 < ((130 : Nat) : Int) then
      some (some (.inl (M 22 (a1 : Int).toNat)), GF, M)
      else none
    else
      some (some (.inl (0)), GF, M) := by
  rw [pr_st]; rfl
set_option maxRecDepth 20000 in
theorem sg_X3_unknownOf_0 {sc : List Int} {orc : q_O} {M : q_M} {F : Nat} {a1 : Int} : pr sc orc 40 (F + 1) 0 [some (.inr (.inr 16)), some (.inl (a1))] [] M =
  if a1 < 0 then
    some (some (.inl (1)), GF, M)
  else
    if a1 < 130 then
      if 0 ≤ a1 ∧ a1 < ((130 : Nat) : Int) then
      if (M 23 (a1 : Int).toNat) = 0 then
        some (some (.inl (0)), GF, M)
      else
        some (some (.inl (1)), GF, M)
      else none
    else
      some (some (.inl (1)), GF, M) := by
  rw [pr_st]; rfl
set_option maxRecDepth 20000 in
theorem sg_X3_load_0 {sc : List Int} {orc : q_O} {M : q_M} {F : Nat} {a1 a3 a4 : Int} : pr sc orc 41 (F + 1) 0 [some (.inr (.inr 16)), some (.inl (a1)), some (.inr (.inr 1)), some (.inl (a3)), some (.inl (a4)), none] [] M =
  pr sc orc 41 F 3 [some (.inr (.inr 16)), some (.inl (a1)), some (.inr (.inr 1)), some (.inl (a3)), some (.inl (a4)), some (.inl (0))] [] M := by
  rw [pr_st]; rfl
set_option maxRecDepth 20000 in
theorem sg_X3_load_3 {sc : List Int} {orc : q_O} {M : q_M} {F : Nat} {b1 b3 b4 b5 : Int} : pr sc orc 41 (F + 1) 3 [some (.inr (.inr 16)), some (.inl (b1)), some (.inr (.inr 1)), some (.inl (b3)), some (.inl (b4)), some (.inl (b5))] [] M =
  if b5 < (M 16 7) then
    if b5 < 130 then
      if 0 ≤ b5 ∧ b5 < ((130 : Nat) : Int) then
      if (M 21 (b5 : Int).toNat) = b1 then
        if 0 ≤ b5 ∧ b5 < ((130 : Nat) : Int) then
        q_cI (orc 101 [.inr (.inr 1), .inl (b3), .inl (b4), .inl (M 19 (b5 : Int).toNat)] GF M) GF (fun x2 M1 =>
        if 0 ≤ b5 ∧ b5 < ((130 : Nat) : Int) then
        if 0 ≤ b5 ∧ b5 < ((130 : Nat) : Int) then
        q_cI (orc 102 [.inr (.inr 1), .inl (b3), .inl (b4), .inl (M1 19 (b5 : Int).toNat)] GF (q_up M1 22 ((b5 : Int).toNat) x2)) GF (fun x4 M3 =>
        if 0 ≤ b5 ∧ b5 < ((130 : Nat) : Int) then
        if (1 : Nat) = 0 ∨ ((1 : Nat) = 1 ∧ (x4 = 0 ∨ x4 = 1)) ∨ ((1 : Nat) = 2 ∧ 0 ≤ x4 ∧ x4 < 65536) then
        pr sc orc 41 F 3 [some (.inr (.inr 16)), some (.inl (b1)), some (.inr (.inr 1)), some (.inl (b3)), some (.inl (b4)), some (.inl (q_w (b5 + (1))))] [] (q_up M3 23 ((b5 : Int).toNat) x4)
        else none
        else none)
        else none
        else none)
        else none
      else
        pr sc orc 41 F 3 [some (.inr (.inr 16)), some (.inl (b1)), some (.inr (.inr 1)), some (.inl (b3)), some (.inl (b4)), some (.inl (q_w (b5 + (1))))] [] M
      else none
    else
      some (none, GF, M)
  else
    some (none, GF, M) := by
  rw [pr_st]; rfl
set_option maxRecDepth 20000 in
theorem sg_X4_readQuery_0 {sc : List Int} {orc : q_O} {M : q_M} {F : Nat} : pr sc orc 43 (F + 1) 0 [some (.inr (.inr 41))] [] M =
  q_c0 (orc 60 [.inr (.inr 15)] GF M) GF (fun M1 =>
  q_cI (orc 125 [.inr (.inr 11), .inl (259)] GF (q_up M1 41 4 3)) GF (fun x3 M2 =>
  if x3 = 0 then
    some (some (.inl (0)), GF, M2)
  else
    q_cI (orc 44 [.inr (.inr 41)] GF M2) GF (fun x5 M4 =>
    if x5 = 0 then
      some (some (.inl (0)), GF, M4)
    else
      q_cI (orc 125 [.inr (.inr 11), .inl (260)] GF M4) GF (fun x7 M6 =>
      if x7 = 0 then
        some (some (.inl (0)), GF, M6)
      else
        q_cI (orc 46 [.inr (.inr 41), .inl (0)] GF M6) GF (fun x9 M8 =>
        if x9 = 0 then
          some (some (.inl (0)), GF, M8)
        else
          q_cI (orc 47 [.inr (.inr 41)] GF M8) GF (fun x11 M10 =>
          if x11 = 0 then
            some (some (.inl (0)), GF, M10)
          else
            q_cI (orc 48 [.inr (.inr 41)] GF M10) GF (fun x13 M12 =>
            if x13 = 0 then
              some (some (.inl (0)), GF, M12)
            else
              q_cI (orc 49 [.inr (.inr 41)] GF M12) GF (fun x15 M14 =>
              if x15 = 0 then
                some (some (.inl (0)), GF, M14)
              else
                q_cI (orc 121 [.inr (.inr 11)] GF M14) GF (fun x17 M16 =>
                if x17 = 256 then
                  some (some (.inl (1)), GF, M16)
                else
                  some (some (.inl (0)), GF, M16)))))))))) := by
  rw [pr_st]; rfl
set_option maxRecDepth 20000 in
theorem sg_X4_readOuts_0 {sc : List Int} {orc : q_O} {M : q_M} {F : Nat} : pr sc orc 44 (F + 1) 0 [some (.inr (.inr 41)), none] [] M =
  q_cI (orc 45 [.inr (.inr 41)] GF M) GF (fun x2 M1 =>
  if x2 = 0 then
    some (some (.inl (0)), GF, M1)
  else
    pr sc orc 44 F 11 [some (.inr (.inr 41)), some (.inl (1))] [] M1) := by
  rw [pr_st]; rfl
set_option maxRecDepth 20000 in
theorem sg_X4_readOuts_11 {sc : List Int} {orc : q_O} {M : q_M} {F : Nat} {b1 : Int} : pr sc orc 44 (F + 1) 11 [some (.inr (.inr 41)), some (.inl (b1))] [] M =
  if b1 < 4 then
    q_cI (orc 125 [.inr (.inr 11), .inl (44)] GF M) GF (fun x2 M1 =>
    if x2 = 0 then
      some (some (.inl (1)), GF, M1)
    else
      q_cI (orc 45 [.inr (.inr 41)] GF M1) GF (fun x4 M3 =>
      if x4 = 0 then
        some (some (.inl (0)), GF, M3)
      else
        pr sc orc 44 F 11 [some (.inr (.inr 41)), some (.inl (q_w (b1 + (1))))] [] M3))
  else
    some (some (.inl (1)), GF, M) := by
  rw [pr_st]; rfl
set_option maxRecDepth 20000 in
theorem sg_X4_readOut_0 {sc : List Int} {orc : q_O} {M : q_M} {F : Nat} : pr sc orc 45 (F + 1) 0 [some (.inr (.inr 41)), none, none, none] [] M =
  q_cI (orc 121 [.inr (.inr 11)] GF M) GF (fun x2 M1 =>
  if x2 = 266 then
    q_c0 (orc 124 [.inr (.inr 11)] GF M1) GF (fun M3 =>
    q_c0 (orc 65 [.inr (.inr 15), .inl (266), .inl ((-1))] GF M3) GF (fun M4 =>
    some (some (.inl (1)), GF, M4)))
  else
    if x2 = 267 then
      pr sc orc 45 F 62 [some (.inr (.inr 41)), some (.inl (x2)), some (.inl (1)), none] [] M1
    else
      if x2 = 268 then
        pr sc orc 45 F 62 [some (.inr (.inr 41)), some (.inl (x2)), some (.inl (1)), none] [] M1
      else
        if x2 = 269 then
          pr sc orc 45 F 62 [some (.inr (.inr 41)), some (.inl (x2)), some (.inl (1)), none] [] M1
        else
          pr sc orc 45 F 62 [some (.inr (.inr 41)), some (.inl (x2)), some (.inl (0)), none] [] M1) := by
  rw [pr_st]; rfl
set_option maxRecDepth 20000 in
theorem sg_X4_readOut_62 {sc : List Int} {orc : q_O} {M : q_M} {F : Nat} {b1 b2 : Int} : pr sc orc 45 (F + 1) 62 [some (.inr (.inr 41)), some (.inl (b1)), some (.inl (b2)), none] [] M =
  if b2 = 0 then
    q_cI (orc 57 [.inr (.inr 41)] GF M) GF (fun x2 M1 =>
    if x2 = (-1) then
      some (some (.inl (0)), GF, M1)
    else
      if b2 = 0 then
        q_c0 (orc 65 [.inr (.inr 15), .inl (275), .inl (x2)] GF M1) GF (fun M3 =>
        if b2 = 0 then
          some (some (.inl (1)), GF, M3)
        else
          q_cI (orc 125 [.inr (.inr 11), .inl (41)] GF M3) GF (fun x5 M4 =>
          if x5 = 0 then
            some (some (.inl (0)), GF, M4)
          else
            some (some (.inl (1)), GF, M4)))
      else
        q_c0 (orc 65 [.inr (.inr 15), .inl (b1), .inl (x2)] GF M1) GF (fun M6 =>
        if b2 = 0 then
          some (some (.inl (1)), GF, M6)
        else
          q_cI (orc 125 [.inr (.inr 11), .inl (41)] GF M6) GF (fun x8 M7 =>
          if x8 = 0 then
            some (some (.inl (0)), GF, M7)
          else
            some (some (.inl (1)), GF, M7))))
  else
    q_c0 (orc 124 [.inr (.inr 11)] GF M) GF (fun M9 =>
    q_cI (orc 125 [.inr (.inr 11), .inl (40)] GF M9) GF (fun x11 M10 =>
    if x11 = 0 then
      some (some (.inl (0)), GF, M10)
    else
      q_cI (orc 57 [.inr (.inr 41)] GF M10) GF (fun x13 M12 =>
      if x13 = (-1) then
        some (some (.inl (0)), GF, M12)
      else
        if b2 = 0 then
          q_c0 (orc 65 [.inr (.inr 15), .inl (275), .inl (x13)] GF M12) GF (fun M14 =>
          if b2 = 0 then
            some (some (.inl (1)), GF, M14)
          else
            q_cI (orc 125 [.inr (.inr 11), .inl (41)] GF M14) GF (fun x16 M15 =>
            if x16 = 0 then
              some (some (.inl (0)), GF, M15)
            else
              some (some (.inl (1)), GF, M15)))
        else
          q_c0 (orc 65 [.inr (.inr 15), .inl (b1), .inl (x13)] GF M12) GF (fun M17 =>
          if b2 = 0 then
            some (some (.inl (1)), GF, M17)
          else
            q_cI (orc 125 [.inr (.inr 11), .inl (41)] GF M17) GF (fun x19 M18 =>
            if x19 = 0 then
              some (some (.inl (0)), GF, M18)
            else
              some (some (.inl (1)), GF, M18)))))) := by
  rw [pr_st]; rfl
set_option maxRecDepth 20000 in
theorem sg_X4_readItem_0 {sc : List Int} {orc : q_O} {M : q_M} {F : Nat} {a1 : Int} : pr sc orc 46 (F + 1) 0 [some (.inr (.inr 41)), some (.inl (a1)), none, none, none] [] M =
  q_cI (orc 121 [.inr (.inr 11)] GF M) GF (fun x2 M1 =>
  q_cI (orc 122 [.inr (.inr 11)] GF M1) GF (fun x4 M3 =>
  if (q_w (x2 - 84)) < 0 then
    some (some (.inl (0)), GF, M3)
  else
    if (q_w (x2 - 84)) < 3 then
      q_c0 (orc 124 [.inr (.inr 11)] GF M3) GF (fun M5 =>
      q_cI (orc 121 [.inr (.inr 11)] GF M5) GF (fun x7 M6 =>
      q_cI (orc 58 [.inl (x7)] GF M6) GF (fun x9 M8 =>
      if x9 = 0 then
        some (some (.inl (0)), GF, M8)
      else
        q_cI (orc 122 [.inr (.inr 11)] GF M8) GF (fun x11 M10 =>
        q_c0 (orc 64 [.inr (.inr 15), .inl (q_w (x2 - 84)), .inl (x4), .inl (x7), .inl (x11), .inl (a1)] GF M10) GF (fun M12 =>
        q_c0 (orc 124 [.inr (.inr 11)] GF M12) GF (fun M13 =>
        some (some (.inl (1)), GF, M13)))))))
    else
      some (some (.inl (0)), GF, M3))) := by
  rw [pr_st]; rfl
set_option maxRecDepth 20000 in
theorem sg_X4_readJoined_0 {sc : List Int} {orc : q_O} {M : q_M} {F : Nat} : pr sc orc 47 (F + 1) 0 [some (.inr (.inr 41)), none, none] [] M =
  pr sc orc 47 F 2 [some (.inr (.inr 41)), some (.inl (1)), none] [] M := by
  rw [pr_st]; rfl
set_option maxRecDepth 20000 in
theorem sg_X4_readJoined_2 {sc : List Int} {orc : q_O} {M : q_M} {F : Nat} {b1 : Int} : pr sc orc 47 (F + 1) 2 [some (.inr (.inr 41)), some (.inl (b1)), none] [] M =
  if b1 < 3 then
    q_cI (orc 121 [.inr (.inr 11)] GF M) GF (fun x2 M1 =>
    if x2 = 261 then
      q_c0 (orc 124 [.inr (.inr 11)] GF M1) GF (fun M3 =>
      if x2 = 262 then
        q_cI (orc 46 [.inr (.inr 41), .inl (1)] GF (q_up M3 41 4 b1)) GF (fun x11 M10 =>
        if x11 = 0 then
          some (some (.inl (0)), GF, M10)
        else
          q_cI (orc 125 [.inr (.inr 11), .inl (263)] GF M10) GF (fun x13 M12 =>
          if x13 = 0 then
            some (some (.inl (0)), GF, M12)
          else
            q_cI (orc 50 [.inr (.inr 41), .inl (0)] GF M12) GF (fun x15 M14 =>
            if x15 = 0 then
              some (some (.inl (0)), GF, M14)
            else
              pr sc orc 47 F 2 [some (.inr (.inr 41)), some (.inl (q_w (b1 + (1)))), none] [] M14)))
      else
        q_cI (orc 46 [.inr (.inr 41), .inl (0)] GF (q_up M3 41 4 b1)) GF (fun x5 M4 =>
        if x5 = 0 then
          some (some (.inl (0)), GF, M4)
        else
          q_cI (orc 125 [.inr (.inr 11), .inl (263)] GF M4) GF (fun x7 M6 =>
          if x7 = 0 then
            some (some (.inl (0)), GF, M6)
          else
            q_cI (orc 50 [.inr (.inr 41), .inl (0)] GF M6) GF (fun x9 M8 =>
            if x9 = 0 then
              some (some (.inl (0)), GF, M8)
            else
              pr sc orc 47 F 2 [some (.inr (.inr 41)), some (.inl (q_w (b1 + (1)))), none] [] M8))))
    else
      if x2 = 262 then
        q_c0 (orc 124 [.inr (.inr 11)] GF M1) GF (fun M16 =>
        if x2 = 262 then
          q_cI (orc 46 [.inr (.inr 41), .inl (1)] GF (q_up M16 41 4 b1)) GF (fun x24 M23 =>
          if x24 = 0 then
            some (some (.inl (0)), GF, M23)
          else
            q_cI (orc 125 [.inr (.inr 11), .inl (263)] GF M23) GF (fun x26 M25 =>
            if x26 = 0 then
              some (some (.inl (0)), GF, M25)
            else
              q_cI (orc 50 [.inr (.inr 41), .inl (0)] GF M25) GF (fun x28 M27 =>
              if x28 = 0 then
                some (some (.inl (0)), GF, M27)
              else
                pr sc orc 47 F 2 [some (.inr (.inr 41)), some (.inl (q_w (b1 + (1)))), none] [] M27)))
        else
          q_cI (orc 46 [.inr (.inr 41), .inl (0)] GF (q_up M16 41 4 b1)) GF (fun x18 M17 =>
          if x18 = 0 then
            some (some (.inl (0)), GF, M17)
          else
            q_cI (orc 125 [.inr (.inr 11), .inl (263)] GF M17) GF (fun x20 M19 =>
            if x20 = 0 then
              some (some (.inl (0)), GF, M19)
            else
              q_cI (orc 50 [.inr (.inr 41), .inl (0)] GF M19) GF (fun x22 M21 =>
              if x22 = 0 then
                some (some (.inl (0)), GF, M21)
              else
                pr sc orc 47 F 2 [some (.inr (.inr 41)), some (.inl (q_w (b1 + (1)))), none] [] M21))))
      else
        some (some (.inl (1)), GF, (q_up M1 41 4 3)))
  else
    some (some (.inl (1)), GF, (q_up M 41 4 3)) := by
  rw [pr_st]; rfl
set_option maxRecDepth 20000 in
theorem sg_X4_readWhere_0 {sc : List Int} {orc : q_O} {M : q_M} {F : Nat} : pr sc orc 48 (F + 1) 0 [some (.inr (.inr 41))] [] M =
  q_cI (orc 125 [.inr (.inr 11), .inl (264)] GF M) GF (fun x2 M1 =>
  if x2 = 0 then
    some (some (.inl (1)), GF, M1)
  else
    q_cI (orc 50 [.inr (.inr 41), .inl (0)] GF M1) GF (fun x4 M3 =>
    if x4 = 0 then
      some (some (.inl (0)), GF, M3)
    else
      some (some (.inl (1)), GF, M3))) := by
  rw [pr_st]; rfl
set_option maxRecDepth 20000 in
theorem sg_X4_readGroup_0 {sc : List Int} {orc : q_O} {M : q_M} {F : Nat} : pr sc orc 49 (F + 1) 0 [some (.inr (.inr 41)), none, none] [] M =
  q_cI (orc 125 [.inr (.inr 11), .inl (265)] GF M) GF (fun x2 M1 =>
  if x2 = 0 then
    some (some (.inl (1)), GF, M1)
  else
    pr sc orc 49 F 17 [some (.inr (.inr 41)), some (.inl (1)), none] [] M1) := by
  rw [pr_st]; rfl
set_option maxRecDepth 20000 in
theorem sg_X4_readGroup_17 {sc : List Int} {orc : q_O} {M : q_M} {F : Nat} {b1 : Int} : pr sc orc 49 (F + 1) 17 [some (.inr (.inr 41)), some (.inl (b1)), none] [] M =
  if 3 < b1 then
    some (some (.inl (1)), GF, M)
  else
    q_cI (orc 57 [.inr (.inr 41)] GF M) GF (fun x2 M1 =>
    if x2 = (-1) then
      some (some (.inl (0)), GF, M1)
    else
      q_c0 (orc 66 [.inr (.inr 15), .inl (x2)] GF M1) GF (fun M3 =>
      if b1 = 3 then
        some (some (.inl (1)), GF, M3)
      else
        q_cI (orc 125 [.inr (.inr 11), .inl (44)] GF M3) GF (fun x5 M4 =>
        if x5 = 0 then
          some (some (.inl (1)), GF, M4)
        else
          pr sc orc 49 F 17 [some (.inr (.inr 41)), some (.inl (q_w (b1 + (1)))), none] [] M4))) := by
  rw [pr_st]; rfl
set_option maxRecDepth 20000 in
theorem sg_X4_readCondition_0 {sc : List Int} {orc : q_O} {M : q_M} {F : Nat} {a1 : Int} : pr sc orc 50 (F + 1) 0 [some (.inr (.inr 41)), some (.inl (a1)), none, none, none] [] M =
  q_cI (orc 84 [.inr (.inr 24)] GF M) GF (fun x2 M1 =>
  q_cI (orc 85 [.inr (.inr 24)] GF M1) GF (fun x4 M3 =>
  q_cI (orc 51 [.inr (.inr 41), .inl (a1)] GF M3) GF (fun x6 M5 =>
  if x6 = 0 then
    some (some (.inl (0)), GF, M5)
  else
    pr sc orc 50 F 29 [some (.inr (.inr 41)), some (.inl (a1)), some (.inl (x2)), some (.inl (x4)), some (.inl (0))] [] M5))) := by
  rw [pr_st]; rfl
set_option maxRecDepth 20000 in
theorem sg_X4_readCondition_29 {sc : List Int} {orc : q_O} {M : q_M} {F : Nat} {b1 b2 b3 b4 : Int} : pr sc orc 50 (F + 1) 29 [some (.inr (.inr 41)), some (.inl (b1)), some (.inl (b2)), some (.inl (b3)), some (.inl (b4))] [] M =
  if b4 < 130 then
    q_cI (orc 121 [.inr (.inr 11)] GF M) GF (fun x2 M1 =>
    if x2 = 270 then
      q_c0 (orc 124 [.inr (.inr 11)] GF M1) GF (fun M3 =>
      q_cI (orc 51 [.inr (.inr 41), .inl (b1)] GF M3) GF (fun x5 M4 =>
      if x5 = 0 then
        some (some (.inl (0)), GF, M4)
      else
        q_c0 (orc 86 [.inr (.inr 24), .inl (270), .inl ((-1)), .inl ((-1))] GF M4) GF (fun M6 =>
        q_c0 (orc 53 [.inr (.inr 41), .inl (b1), .inl (b3), .inl (b2)] GF M6) GF (fun M7 =>
        pr sc orc 50 F 29 [some (.inr (.inr 41)), some (.inl (b1)), some (.inl (b2)), some (.inl (b3)), some (.inl (q_w (b4 + (1))))] [] M7))))
    else
      some (some (.inl (1)), GF, M1))
  else
    some (some (.inl (1)), GF, M) := by
  rw [pr_st]; rfl
set_option maxRecDepth 20000 in
theorem sg_X4_readConjunction_0 {sc : List Int} {orc : q_O} {M : q_M} {F : Nat} {a1 : Int} : pr sc orc 51 (F + 1) 0 [some (.inr (.inr 41)), some (.inl (a1)), none] [] M =
  q_cI (orc 52 [.inr (.inr 41), .inl (a1)] GF M) GF (fun x2 M1 =>
  if x2 = 0 then
    some (some (.inl (0)), GF, M1)
  else
    pr sc orc 51 F 12 [some (.inr (.inr 41)), some (.inl (a1)), some (.inl (0))] [] M1) := by
  rw [pr_st]; rfl
set_option maxRecDepth 20000 in
theorem sg_X4_readConjunction_12 {sc : List Int} {orc : q_O} {M : q_M} {F : Nat} {b1 b2 : Int} : pr sc orc 51 (F + 1) 12 [some (.inr (.inr 41)), some (.inl (b1)), some (.inl (b2))] [] M =
  if b2 < 130 then
    q_cI (orc 121 [.inr (.inr 11)] GF M) GF (fun x2 M1 =>
    if x2 = 271 then
      q_c0 (orc 124 [.inr (.inr 11)] GF M1) GF (fun M3 =>
      q_cI (orc 52 [.inr (.inr 41), .inl (b1)] GF M3) GF (fun x5 M4 =>
      if x5 = 0 then
        some (some (.inl (0)), GF, M4)
      else
        q_c0 (orc 86 [.inr (.inr 24), .inl (271), .inl ((-1)), .inl ((-1))] GF M4) GF (fun M6 =>
        pr sc orc 51 F 12 [some (.inr (.inr 41)), some (.inl (b1)), some (.inl (q_w (b2 + (1))))] [] M6)))
    else
      some (some (.inl (1)), GF, M1))
  else
    some (some (.inl (1)), GF, M) := by
  rw [pr_st]; rfl
set_option maxRecDepth 20000 in
theorem sg_X4_readPart_0 {sc : List Int} {orc : q_O} {M : q_M} {F : Nat} {a1 : Int} : pr sc orc 52 (F + 1) 0 [some (.inr (.inr 41)), some (.inl (a1)), none] [] M =
  q_cI (orc 84 [.inr (.inr 24)] GF M) GF (fun x2 M1 =>
  q_cI (orc 54 [.inr (.inr 41), .inl (a1)] GF M1) GF (fun x4 M3 =>
  if x4 = 0 then
    some (some (.inl (0)), GF, M3)
  else
    q_cI (orc 85 [.inr (.inr 24)] GF M3) GF (fun x6 M5 =>
    q_c0 (orc 53 [.inr (.inr 41), .inl (a1), .inl (x6), .inl (x2)] GF M5) GF (fun M7 =>
    some (some (.inl (1)), GF, M7))))) := by
  rw [pr_st]; rfl
set_option maxRecDepth 20000 in
theorem sg_X4_notePart_0 {sc : List Int} {orc : q_O} {M : q_M} {F : Nat} {a1 a2 a3 : Int} : pr sc orc 53 (F + 1) 0 [some (.inr (.inr 41)), some (.inl (a1)), some (.inl (a2)), some (.inl (a3))] [] M =
  if a1 = 0 then
    if (M 41 4) = 3 then
      q_c0 (orc 87 [.inr (.inr 24), .inl (a2), .inl (a3), .inl (M 41 4), .inl (1)] GF M) GF (fun M2 =>
      some (none, GF, M2))
    else
      q_c0 (orc 87 [.inr (.inr 24), .inl (a2), .inl (a3), .inl (M 41 4), .inl (0)] GF M) GF (fun M1 =>
      some (none, GF, M1))
  else
    some (none, GF, M) := by
  rw [pr_st]; rfl
set_option maxRecDepth 20000 in
theorem sg_X4_readTest_0 {sc : List Int} {orc : q_O} {M : q_M} {F : Nat} {a1 : Int} : pr sc orc 54 (F + 1) 0 [some (.inr (.inr 41)), some (.inl (a1)), none] [] M =
  q_cI (orc 121 [.inr (.inr 11)] GF M) GF (fun x2 M1 =>
  if x2 = 272 then
    if a1 < 4 then
      q_c0 (orc 124 [.inr (.inr 11)] GF M1) GF (fun M3 =>
      if x2 = 40 then
        q_cI (orc 50 [.inr (.inr 41), .inl (q_w (a1 + 1))] GF M3) GF (fun x8 M7 =>
        if x8 = 0 then
          some (some (.inl (0)), GF, M7)
        else
          q_cI (orc 125 [.inr (.inr 11), .inl (41)] GF M7) GF (fun x10 M9 =>
          if x10 = 0 then
            some (some (.inl (0)), GF, M9)
          else
            some (some (.inl (1)), GF, M9)))
      else
        q_cI (orc 54 [.inr (.inr 41), .inl (q_w (a1 + 1))] GF M3) GF (fun x5 M4 =>
        if x5 = 0 then
          some (some (.inl (0)), GF, M4)
        else
          q_c0 (orc 86 [.inr (.inr 24), .inl (272), .inl ((-1)), .inl ((-1))] GF M4) GF (fun M6 =>
          some (some (.inl (1)), GF, M6))))
    else
      some (some (.inl (0)), GF, M1)
  else
    if x2 = 40 then
      if a1 < 4 then
        q_c0 (orc 124 [.inr (.inr 11)] GF M1) GF (fun M11 =>
        if x2 = 40 then
          q_cI (orc 50 [.inr (.inr 41), .inl (q_w (a1 + 1))] GF M11) GF (fun x16 M15 =>
          if x16 = 0 then
            some (some (.inl (0)), GF, M15)
          else
            q_cI (orc 125 [.inr (.inr 11), .inl (41)] GF M15) GF (fun x18 M17 =>
            if x18 = 0 then
              some (some (.inl (0)), GF, M17)
            else
              some (some (.inl (1)), GF, M17)))
        else
          q_cI (orc 54 [.inr (.inr 41), .inl (q_w (a1 + 1))] GF M11) GF (fun x13 M12 =>
          if x13 = 0 then
            some (some (.inl (0)), GF, M12)
          else
            q_c0 (orc 86 [.inr (.inr 24), .inl (272), .inl ((-1)), .inl ((-1))] GF M12) GF (fun M14 =>
            some (some (.inl (1)), GF, M14))))
      else
        some (some (.inl (0)), GF, M1)
    else
      q_cI (orc 55 [.inr (.inr 41)] GF M1) GF (fun x20 M19 =>
      if x20 = 0 ∨ x20 = 1 then some (some (.inl (x20)), GF, M19) else none)) := by
  rw [pr_st]; rfl
set_option maxRecDepth 20000 in
theorem sg_X4_readComparison_0 {sc : List Int} {orc : q_O} {M : q_M} {F : Nat} : pr sc orc 55 (F + 1) 0 [some (.inr (.inr 41)), none, none, none] [] M =
  q_cI (orc 56 [.inr (.inr 41)] GF M) GF (fun x2 M1 =>
  if x2 = (-1) then
    some (some (.inl (0)), GF, M1)
  else
    q_cI (orc 121 [.inr (.inr 11)] GF M1) GF (fun x4 M3 =>
    if x4 = 273 then
      q_c0 (orc 124 [.inr (.inr 11)] GF M3) GF (fun M5 =>
      if x4 = 273 then
        q_c0 (orc 86 [.inr (.inr 24), .inl (273), .inl (x2), .inl ((-1))] GF M5) GF (fun M9 =>
        q_cI (orc 125 [.inr (.inr 11), .inl (274)] GF M9) GF (fun x11 M10 =>
        if x11 = 0 ∨ x11 = 1 then some (some (.inl (x11)), GF, M10) else none))
      else
        q_cI (orc 56 [.inr (.inr 41)] GF M5) GF (fun x7 M6 =>
        q_c0 (orc 86 [.inr (.inr 24), .inl (x4), .inl (x2), .inl (x7)] GF M6) GF (fun M8 =>
        if x7 = (-1) then
          some (some (.inl (0)), GF, M8)
        else
          some (some (.inl (1)), GF, M8))))
    else
      if x4 = 61 then
        q_c0 (orc 124 [.inr (.inr 11)] GF M3) GF (fun M12 =>
        if x4 = 273 then
          q_c0 (orc 86 [.inr (.inr 24), .inl (273), .inl (x2), .inl ((-1))] GF M12) GF (fun M16 =>
          q_cI (orc 125 [.inr (.inr 11), .inl (274)] GF M16) GF (fun x18 M17 =>
          if x18 = 0 ∨ x18 = 1 then some (some (.inl (x18)), GF, M17) else none))
        else
          q_cI (orc 56 [.inr (.inr 41)] GF M12) GF (fun x14 M13 =>
          q_c0 (orc 86 [.inr (.inr 24), .inl (x4), .inl (x2), .inl (x14)] GF M13) GF (fun M15 =>
          if x14 = (-1) then
            some (some (.inl (0)), GF, M15)
          else
            some (some (.inl (1)), GF, M15))))
      else
        if x4 = 60 then
          q_c0 (orc 124 [.inr (.inr 11)] GF M3) GF (fun M19 =>
          if x4 = 273 then
            q_c0 (orc 86 [.inr (.inr 24), .inl (273), .inl (x2), .inl ((-1))] GF M19) GF (fun M23 =>
            q_cI (orc 125 [.inr (.inr 11), .inl (274)] GF M23) GF (fun x25 M24 =>
            if x25 = 0 ∨ x25 = 1 then some (some (.inl (x25)), GF, M24) else none))
          else
            q_cI (orc 56 [.inr (.inr 41)] GF M19) GF (fun x21 M20 =>
            q_c0 (orc 86 [.inr (.inr 24), .inl (x4), .inl (x2), .inl (x21)] GF M20) GF (fun M22 =>
            if x21 = (-1) then
              some (some (.inl (0)), GF, M22)
            else
              some (some (.inl (1)), GF, M22))))
        else
          if x4 = 62 then
            q_c0 (orc 124 [.inr (.inr 11)] GF M3) GF (fun M26 =>
            if x4 = 273 then
              q_c0 (orc 86 [.inr (.inr 24), .inl (273), .inl (x2), .inl ((-1))] GF M26) GF (fun M30 =>
              q_cI (orc 125 [.inr (.inr 11), .inl (274)] GF M30) GF (fun x32 M31 =>
              if x32 = 0 ∨ x32 = 1 then some (some (.inl (x32)), GF, M31) else none))
            else
              q_cI (orc 56 [.inr (.inr 41)] GF M26) GF (fun x28 M27 =>
              q_c0 (orc 86 [.inr (.inr 24), .inl (x4), .inl (x2), .inl (x28)] GF M27) GF (fun M29 =>
              if x28 = (-1) then
                some (some (.inl (0)), GF, M29)
              else
                some (some (.inl (1)), GF, M29))))
          else
            some (some (.inl (0)), GF, M3))) := by
  rw [pr_st]; rfl
end
section
set_option maxRecDepth 20000 in
theorem sg_X4_readOperand_0 {sc : List Int} {orc : q_O} {M : q_M} {F : Nat} : pr sc orc 56 (F + 1) 0 [some (.inr (.inr 41)), none, none] [] M =
  q_cI (orc 121 [.inr (.inr 11)] GF M) GF (fun x2 M1 =>
  if x2 = 258 then
    q_cI (orc 123 [.inr (.inr 11)] GF M1) GF (fun x4 M3 =>
    q_c0 (orc 124 [.inr (.inr 11)] GF M3) GF (fun M5 =>
    if x2 = 274 then
      q_cI (orc 30 [.inr (.inr 16), .inl (x4), .inl (1)] GF M5) GF (fun x9 M8 =>
      some (some (.inl (x9)), GF, M8))
    else
      q_cI (orc 30 [.inr (.inr 16), .inl (x4), .inl (0)] GF M5) GF (fun x7 M6 =>
      some (some (.inl (x7)), GF, M6))))
  else
    if x2 = 274 then
      q_cI (orc 123 [.inr (.inr 11)] GF M1) GF (fun x11 M10 =>
      q_c0 (orc 124 [.inr (.inr 11)] GF M10) GF (fun M12 =>
      if x2 = 274 then
        q_cI (orc 30 [.inr (.inr 16), .inl (x11), .inl (1)] GF M12) GF (fun x16 M15 =>
        some (some (.inl (x16)), GF, M15))
      else
        q_cI (orc 30 [.inr (.inr 16), .inl (x11), .inl (0)] GF M12) GF (fun x14 M13 =>
        some (some (.inl (x14)), GF, M13))))
    else
      q_cI (orc 57 [.inr (.inr 41)] GF M1) GF (fun x18 M17 =>
      some (some (.inl (x18)), GF, M17))) := by
  rw [pr_st]; rfl
set_option maxRecDepth 20000 in
theorem sg_X4_readColumn_0 {sc : List Int} {orc : q_O} {M : q_M} {F : Nat} : pr sc orc 57 (F + 1) 0 [some (.inr (.inr 41)), none, none, none] [] M =
  q_cI (orc 122 [.inr (.inr 11)] GF M) GF (fun x2 M1 =>
  q_cI (orc 121 [.inr (.inr 11)] GF M1) GF (fun x4 M3 =>
  q_cI (orc 58 [.inl (x4)] GF M3) GF (fun x6 M5 =>
  if x6 = 0 then
    some (some (.inl ((-1))), GF, M5)
  else
    q_c0 (orc 124 [.inr (.inr 11)] GF M5) GF (fun M7 =>
    q_cI (orc 121 [.inr (.inr 11)] GF M7) GF (fun x9 M8 =>
    if x9 = 46 then
      q_c0 (orc 124 [.inr (.inr 11)] GF M8) GF (fun M10 =>
      q_cI (orc 121 [.inr (.inr 11)] GF M10) GF (fun x12 M11 =>
      if (q_w (x12 - 97)) < 0 then
        some (some (.inl ((-1))), GF, M11)
      else
        if (q_w (x12 - 97)) < 4 then
          q_c0 (orc 124 [.inr (.inr 11)] GF M11) GF (fun M13 =>
          q_cI (orc 29 [.inr (.inr 16), .inl (x2), .inl (x4), .inl (q_w (x12 - 97)), .inl (M13 41 4)] GF M13) GF (fun x15 M14 =>
          some (some (.inl (x15)), GF, M14)))
        else
          some (some (.inl ((-1))), GF, M11)))
    else
      some (some (.inl ((-1))), GF, M8)))))) := by
  rw [pr_st]; rfl
set_option maxRecDepth 20000 in
theorem sg_X4_isAlias_0 {sc : List Int} {orc : q_O} {M : q_M} {F : Nat} {a1 : Int} : pr sc orc 58 (F + 1) 0 [some (.inl (a1))] [] M =
  if a1 < 119 then
    some (some (.inl (0)), GF, M)
  else
    if 122 < a1 then
      some (some (.inl (0)), GF, M)
    else
      some (some (.inl (1)), GF, M) := by
  rw [pr_st]; rfl
set_option maxRecDepth 20000 in
theorem sg_X5_clear_0 {sc : List Int} {orc : q_O} {M : q_M} {F : Nat} : pr sc orc 60 (F + 1) 0 [some (.inr (.inr 15))] [] M =
  q_c0 (orc 27 [.inr (.inr 16)] GF M) GF (fun M1 =>
  q_c0 (orc 83 [.inr (.inr 24)] GF M1) GF (fun M2 =>
  some (none, GF, (q_up (q_up (q_up M2 15 7 0) 15 10 0) 15 12 0)))) := by
  rw [pr_st]; rfl
set_option maxRecDepth 20000 in
theorem sg_X5_settle_0 {sc : List Int} {orc : q_O} {M : q_M} {F : Nat} : pr sc orc 61 (F + 1) 0 [some (.inr (.inr 15))] [] M =
  q_c0 (orc 88 [.inr (.inr 24)] GF M) GF (fun M1 =>
  some (none, GF, M1)) := by
  rw [pr_st]; rfl
set_option maxRecDepth 20000 in
theorem sg_X5_operands_0 {sc : List Int} {orc : q_O} {M : q_M} {F : Nat} : pr sc orc 62 (F + 1) 0 [some (.inr (.inr 15))] [] M =
  some (some (.inr (.inr 16)), GF, M) := by
  rw [pr_st]; rfl
set_option maxRecDepth 20000 in
theorem sg_X5_steps_0 {sc : List Int} {orc : q_O} {M : q_M} {F : Nat} : pr sc orc 63 (F + 1) 0 [some (.inr (.inr 15))] [] M =
  some (some (.inr (.inr 24)), GF, M) := by
  rw [pr_st]; rfl
set_option maxRecDepth 20000 in
theorem sg_X5_addItem_0 {sc : List Int} {orc : q_O} {M : q_M} {F : Nat} {a1 a2 a3 a4 a5 : Int} : pr sc orc 64 (F + 1) 0 [some (.inr (.inr 15)), some (.inl (a1)), some (.inl (a2)), some (.inl (a3)), some (.inl (a4)), some (.inl (a5))] [] M =
  if (M 15 7) < 0 then
    some (none, GF, M)
  else
    if (M 15 7) < 3 then
      if 0 ≤ M 15 7 ∧ M 15 7 < ((3 : Nat) : Int) then
      if 0 ≤ M 15 7 ∧ M 15 7 < ((3 : Nat) : Int) then
      if 0 ≤ M 15 7 ∧ M 15 7 < ((3 : Nat) : Int) then
      if 0 ≤ M 15 7 ∧ M 15 7 < ((3 : Nat) : Int) then
      if 0 ≤ M 15 7 ∧ M 15 7 < ((3 : Nat) : Int) then
      if (1 : Nat) = 0 ∨ ((1 : Nat) = 1 ∧ (a5 = 0 ∨ a5 = 1)) ∨ ((1 : Nat) = 2 ∧ 0 ≤ a5 ∧ a5 < 65536) then
      some (none, GF, (q_up (q_up (q_up (q_up (q_up (q_up M 33 ((M 15 7 : Int).toNat) a1) 34 ((M 15 7 : Int).toNat) a2) 35 ((M 15 7 : Int).toNat) a3) 36 ((M 15 7 : Int).toNat) a4) 37 ((M 15 7 : Int).toNat) a5) 15 7 (q_w (M 15 7 + 1))))
      else none
      else none
      else none
      else none
      else none
      else none
    else
      some (none, GF, M) := by
  rw [pr_st]; rfl
set_option maxRecDepth 20000 in
theorem sg_X5_addOut_0 {sc : List Int} {orc : q_O} {M : q_M} {F : Nat} {a1 a2 : Int} : pr sc orc 65 (F + 1) 0 [some (.inr (.inr 15)), some (.inl (a1)), some (.inl (a2))] [] M =
  if (M 15 10) < 0 then
    some (none, GF, M)
  else
    if (M 15 10) < 4 then
      if 0 ≤ M 15 10 ∧ M 15 10 < ((4 : Nat) : Int) then
      if 0 ≤ M 15 10 ∧ M 15 10 < ((4 : Nat) : Int) then
      some (none, GF, (q_up (q_up (q_up M 38 ((M 15 10 : Int).toNat) a1) 39 ((M 15 10 : Int).toNat) a2) 15 10 (q_w (M 15 10 + 1))))
      else none
      else none
    else
      some (none, GF, M) := by
  rw [pr_st]; rfl
set_option maxRecDepth 20000 in
theorem sg_X5_addGrouped_0 {sc : List Int} {orc : q_O} {M : q_M} {F : Nat} {a1 : Int} : pr sc orc 66 (F + 1) 0 [some (.inr (.inr 15)), some (.inl (a1))] [] M =
  if (M 15 12) < 0 then
    some (none, GF, M)
  else
    if (M 15 12) < 3 then
      if 0 ≤ M 15 12 ∧ M 15 12 < ((3 : Nat) : Int) then
      some (none, GF, (q_up (q_up M 40 ((M 15 12 : Int).toNat) a1) 15 12 (q_w (M 15 12 + 1))))
      else none
    else
      some (none, GF, M) := by
  rw [pr_st]; rfl
set_option maxRecDepth 20000 in
theorem sg_X5_itemCount_0 {sc : List Int} {orc : q_O} {M : q_M} {F : Nat} : pr sc orc 67 (F + 1) 0 [some (.inr (.inr 15))] [] M =
  some (some (.inl (M 15 7)), GF, M) := by
  rw [pr_st]; rfl
set_option maxRecDepth 20000 in
theorem sg_X5_tableOf_0 {sc : List Int} {orc : q_O} {M : q_M} {F : Nat} {a1 : Int} : pr sc orc 68 (F + 1) 0 [some (.inr (.inr 15)), some (.inl (a1))] [] M =
  q_cI (orc 146 [.inr (.inr 33), .inl (a1)] GF M) GF (fun x2 M1 =>
  some (some (.inl (x2)), GF, M1)) := by
  rw [pr_st]; rfl
set_option maxRecDepth 20000 in
theorem sg_X5_tablePlaceOf_0 {sc : List Int} {orc : q_O} {M : q_M} {F : Nat} {a1 : Int} : pr sc orc 69 (F + 1) 0 [some (.inr (.inr 15)), some (.inl (a1))] [] M =
  q_cI (orc 146 [.inr (.inr 34), .inl (a1)] GF M) GF (fun x2 M1 =>
  some (some (.inl (x2)), GF, M1)) := by
  rw [pr_st]; rfl
set_option maxRecDepth 20000 in
theorem sg_X5_aliasOf_0 {sc : List Int} {orc : q_O} {M : q_M} {F : Nat} {a1 : Int} : pr sc orc 70 (F + 1) 0 [some (.inr (.inr 15)), some (.inl (a1))] [] M =
  q_cI (orc 146 [.inr (.inr 35), .inl (a1)] GF M) GF (fun x2 M1 =>
  some (some (.inl (x2)), GF, M1)) := by
  rw [pr_st]; rfl
set_option maxRecDepth 20000 in
theorem sg_X5_aliasPlaceOf_0 {sc : List Int} {orc : q_O} {M : q_M} {F : Nat} {a1 : Int} : pr sc orc 71 (F + 1) 0 [some (.inr (.inr 15)), some (.inl (a1))] [] M =
  q_cI (orc 146 [.inr (.inr 36), .inl (a1)] GF M) GF (fun x2 M1 =>
  some (some (.inl (x2)), GF, M1)) := by
  rw [pr_st]; rfl
set_option maxRecDepth 20000 in
theorem sg_X5_isLeft_0 {sc : List Int} {orc : q_O} {M : q_M} {F : Nat} {a1 : Int} : pr sc orc 72 (F + 1) 0 [some (.inr (.inr 15)), some (.inl (a1))] [] M =
  if a1 < 0 then
    some (some (.inl (0)), GF, M)
  else
    if a1 < 3 then
      if 0 ≤ a1 ∧ a1 < ((3 : Nat) : Int) then
      if (M 37 (a1 : Int).toNat) = 0 then
        some (some (.inl (0)), GF, M)
      else
        some (some (.inl (1)), GF, M)
      else none
    else
      some (some (.inl (0)), GF, M) := by
  rw [pr_st]; rfl
set_option maxRecDepth 20000 in
theorem sg_X5_itemWith_0 {sc : List Int} {orc : q_O} {M : q_M} {F : Nat} {a1 : Int} : pr sc orc 73 (F + 1) 0 [some (.inr (.inr 15)), some (.inl (a1)), none] [] M =
  pr sc orc 73 F 2 [some (.inr (.inr 15)), some (.inl (a1)), some (.inl (0))] [] M := by
  rw [pr_st]; rfl
set_option maxRecDepth 20000 in
theorem sg_X5_itemWith_2 {sc : List Int} {orc : q_O} {M : q_M} {F : Nat} {b1 b2 : Int} : pr sc orc 73 (F + 1) 2 [some (.inr (.inr 15)), some (.inl (b1)), some (.inl (b2))] [] M =
  if b2 < (M 15 7) then
    if b2 < 3 then
      if 0 ≤ b2 ∧ b2 < ((3 : Nat) : Int) then
      if (M 35 (b2 : Int).toNat) = b1 then
        some (some (.inl (b2)), GF, M)
      else
        pr sc orc 73 F 2 [some (.inr (.inr 15)), some (.inl (b1)), some (.inl (q_w (b2 + (1))))] [] M
      else none
    else
      some (some (.inl ((-1))), GF, M)
  else
    some (some (.inl ((-1))), GF, M) := by
  rw [pr_st]; rfl
set_option maxRecDepth 20000 in
theorem sg_X5_uses_0 {sc : List Int} {orc : q_O} {M : q_M} {F : Nat} {a1 : Int} : pr sc orc 74 (F + 1) 0 [some (.inr (.inr 15)), some (.inl (a1)), none] [] M =
  pr sc orc 74 F 2 [some (.inr (.inr 15)), some (.inl (a1)), some (.inl (0))] [] M := by
  rw [pr_st]; rfl
set_option maxRecDepth 20000 in
theorem sg_X5_uses_2 {sc : List Int} {orc : q_O} {M : q_M} {F : Nat} {b1 b2 : Int} : pr sc orc 74 (F + 1) 2 [some (.inr (.inr 15)), some (.inl (b1)), some (.inl (b2))] [] M =
  if b2 < (M 15 7) then
    if b2 < 3 then
      if 0 ≤ b2 ∧ b2 < ((3 : Nat) : Int) then
      if (M 33 (b2 : Int).toNat) = b1 then
        some (some (.inl (1)), GF, M)
      else
        pr sc orc 74 F 2 [some (.inr (.inr 15)), some (.inl (b1)), some (.inl (q_w (b2 + (1))))] [] M
      else none
    else
      some (some (.inl (0)), GF, M)
  else
    some (some (.inl (0)), GF, M) := by
  rw [pr_st]; rfl
set_option maxRecDepth 20000 in
theorem sg_X5_outCount_0 {sc : List Int} {orc : q_O} {M : q_M} {F : Nat} : pr sc orc 75 (F + 1) 0 [some (.inr (.inr 15))] [] M =
  some (some (.inl (M 15 10)), GF, M) := by
  rw [pr_st]; rfl
set_option maxRecDepth 20000 in
theorem sg_X5_outKind_0 {sc : List Int} {orc : q_O} {M : q_M} {F : Nat} {a1 : Int} : pr sc orc 76 (F + 1) 0 [some (.inr (.inr 15)), some (.inl (a1))] [] M =
  q_cI (orc 146 [.inr (.inr 38), .inl (a1)] GF M) GF (fun x2 M1 =>
  some (some (.inl (x2)), GF, M1)) := by
  rw [pr_st]; rfl
set_option maxRecDepth 20000 in
theorem sg_X5_outColumn_0 {sc : List Int} {orc : q_O} {M : q_M} {F : Nat} {a1 : Int} : pr sc orc 77 (F + 1) 0 [some (.inr (.inr 15)), some (.inl (a1))] [] M =
  q_cI (orc 146 [.inr (.inr 39), .inl (a1)] GF M) GF (fun x2 M1 =>
  some (some (.inl (x2)), GF, M1)) := by
  rw [pr_st]; rfl
set_option maxRecDepth 20000 in
theorem sg_X5_groupedCount_0 {sc : List Int} {orc : q_O} {M : q_M} {F : Nat} : pr sc orc 78 (F + 1) 0 [some (.inr (.inr 15))] [] M =
  some (some (.inl (M 15 12)), GF, M) := by
  rw [pr_st]; rfl
set_option maxRecDepth 20000 in
theorem sg_X5_groupColumn_0 {sc : List Int} {orc : q_O} {M : q_M} {F : Nat} {a1 : Int} : pr sc orc 79 (F + 1) 0 [some (.inr (.inr 15)), some (.inl (a1))] [] M =
  q_cI (orc 146 [.inr (.inr 40), .inl (a1)] GF M) GF (fun x2 M1 =>
  some (some (.inl (x2)), GF, M1)) := by
  rw [pr_st]; rfl
set_option maxRecDepth 20000 in
theorem sg_X5_groupsBy_0 {sc : List Int} {orc : q_O} {M : q_M} {F : Nat} {a1 : Int} : pr sc orc 80 (F + 1) 0 [some (.inr (.inr 15)), some (.inl (a1)), none] [] M =
  pr sc orc 80 F 2 [some (.inr (.inr 15)), some (.inl (a1)), some (.inl (0))] [] M := by
  rw [pr_st]; rfl
set_option maxRecDepth 20000 in
theorem sg_X5_groupsBy_2 {sc : List Int} {orc : q_O} {M : q_M} {F : Nat} {b1 b2 : Int} : pr sc orc 80 (F + 1) 2 [some (.inr (.inr 15)), some (.inl (b1)), some (.inl (b2))] [] M =
  if b2 < (M 15 12) then
    if b2 < 3 then
      if 0 ≤ b2 ∧ b2 < ((3 : Nat) : Int) then
      q_cI (orc 38 [.inr (.inr 16), .inl (M 40 (b2 : Int).toNat), .inl (b1)] GF M) GF (fun x2 M1 =>
      if x2 = 0 then
        pr sc orc 80 F 2 [some (.inr (.inr 15)), some (.inl (b1)), some (.inl (q_w (b2 + (1))))] [] M1
      else
        some (some (.inl (1)), GF, M1))
      else none
    else
      some (some (.inl (0)), GF, M)
  else
    some (some (.inl (0)), GF, M) := by
  rw [pr_st]; rfl
set_option maxRecDepth 20000 in
theorem sg_X5_gathers_0 {sc : List Int} {orc : q_O} {M : q_M} {F : Nat} : pr sc orc 81 (F + 1) 0 [some (.inr (.inr 15)), none] [] M =
  pr sc orc 81 F 2 [some (.inr (.inr 15)), some (.inl (0))] [] M := by
  rw [pr_st]; rfl
set_option maxRecDepth 20000 in
theorem sg_X5_gathers_2 {sc : List Int} {orc : q_O} {M : q_M} {F : Nat} {b1 : Int} : pr sc orc 81 (F + 1) 2 [some (.inr (.inr 15)), some (.inl (b1))] [] M =
  if b1 < (M 15 10) then
    if b1 < 4 then
      if 0 ≤ b1 ∧ b1 < ((4 : Nat) : Int) then
      if (M 38 (b1 : Int).toNat) = 275 then
        pr sc orc 81 F 2 [some (.inr (.inr 15)), some (.inl (q_w (b1 + (1))))] [] M
      else
        some (some (.inl (1)), GF, M)
      else none
    else
      if 0 < (M 15 12) then
        some (some (.inl (1)), GF, M)
      else
        some (some (.inl (0)), GF, M)
  else
    if 0 < (M 15 12) then
      some (some (.inl (1)), GF, M)
    else
      some (some (.inl (0)), GF, M) := by
  rw [pr_st]; rfl
set_option maxRecDepth 20000 in
theorem sg_X6_clear_0 {sc : List Int} {orc : q_O} {M : q_M} {F : Nat} : pr sc orc 83 (F + 1) 0 [some (.inr (.inr 24))] [] M =
  some (none, GF, (q_up (q_up M 24 4 0) 24 9 0)) := by
  rw [pr_st]; rfl
set_option maxRecDepth 20000 in
theorem sg_X6_count_0 {sc : List Int} {orc : q_O} {M : q_M} {F : Nat} : pr sc orc 84 (F + 1) 0 [some (.inr (.inr 24))] [] M =
  some (some (.inl (M 24 4)), GF, M) := by
  rw [pr_st]; rfl
set_option maxRecDepth 20000 in
theorem sg_X6_partCount_0 {sc : List Int} {orc : q_O} {M : q_M} {F : Nat} : pr sc orc 85 (F + 1) 0 [some (.inr (.inr 24))] [] M =
  some (some (.inl (M 24 9)), GF, M) := by
  rw [pr_st]; rfl
set_option maxRecDepth 20000 in
theorem sg_X6_add_0 {sc : List Int} {orc : q_O} {M : q_M} {F : Nat} {a1 a2 a3 : Int} : pr sc orc 86 (F + 1) 0 [some (.inr (.inr 24)), some (.inl (a1)), some (.inl (a2)), some (.inl (a3))] [] M =
  if (M 24 4) < 0 then
    some (none, GF, M)
  else
    if (M 24 4) < 130 then
      if 0 ≤ M 24 4 ∧ M 24 4 < ((130 : Nat) : Int) then
      if 0 ≤ M 24 4 ∧ M 24 4 < ((130 : Nat) : Int) then
      if 0 ≤ M 24 4 ∧ M 24 4 < ((130 : Nat) : Int) then
      some (none, GF, (q_up (q_up (q_up (q_up M 25 ((M 24 4 : Int).toNat) a1) 26 ((M 24 4 : Int).toNat) a2) 27 ((M 24 4 : Int).toNat) a3) 24 4 (q_w (M 24 4 + 1))))
      else none
      else none
      else none
    else
      some (none, GF, M) := by
  rw [pr_st]; rfl
set_option maxRecDepth 20000 in
theorem sg_X6_addPart_0 {sc : List Int} {orc : q_O} {M : q_M} {F : Nat} {a1 a2 a3 a4 : Int} : pr sc orc 87 (F + 1) 0 [some (.inr (.inr 24)), some (.inl (a1)), some (.inl (a2)), some (.inl (a3)), some (.inl (a4))] [] M =
  if a1 < 0 then
    some (none, GF, M)
  else
    if a1 < 130 then
      if 0 ≤ a1 ∧ a1 < ((130 : Nat) : Int) then
      if 0 ≤ a1 ∧ a1 < ((130 : Nat) : Int) then
      if 0 ≤ a1 ∧ a1 < ((130 : Nat) : Int) then
      if 0 ≤ a1 ∧ a1 < ((130 : Nat) : Int) then
      if (1 : Nat) = 0 ∨ ((1 : Nat) = 1 ∧ (a4 = 0 ∨ a4 = 1)) ∨ ((1 : Nat) = 2 ∧ 0 ≤ a4 ∧ a4 < 65536) then
      some (none, GF, (q_up (q_up (q_up (q_up (q_up M 28 ((a1 : Int).toNat) a2) 29 ((a1 : Int).toNat) (M 24 4)) 30 ((a1 : Int).toNat) a3) 31 ((a1 : Int).toNat) a4) 24 9 (q_w (a1 + 1))))
      else none
      else none
      else none
      else none
      else none
    else
      some (none, GF, M) := by
  rw [pr_st]; rfl
set_option maxRecDepth 20000 in
theorem sg_X6_settle_0 {sc : List Int} {orc : q_O} {M : q_M} {F : Nat} : pr sc orc 88 (F + 1) 0 [some (.inr (.inr 24)), none] [] M =
  pr sc orc 88 F 2 [some (.inr (.inr 24)), some (.inl (0))] [] M := by
  rw [pr_st]; rfl
set_option maxRecDepth 20000 in
theorem sg_X6_settle_2 {sc : List Int} {orc : q_O} {M : q_M} {F : Nat} {b1 : Int} : pr sc orc 88 (F + 1) 2 [some (.inr (.inr 24)), some (.inl (b1))] [] M =
  if b1 < (M 24 9) then
    if b1 < 130 then
      if 0 ≤ b1 ∧ b1 < ((130 : Nat) : Int) then
      if (M 31 (b1 : Int).toNat) = 0 then
        pr sc orc 88 F 2 [some (.inr (.inr 24)), some (.inl (q_w (b1 + (1))))] [] M
      else
        if 0 ≤ b1 ∧ b1 < ((130 : Nat) : Int) then
        if 0 ≤ b1 ∧ b1 < ((130 : Nat) : Int) then
        q_cI (orc 89 [.inr (.inr 24), .inl (M 28 (b1 : Int).toNat), .inl (M 29 (b1 : Int).toNat)] GF M) GF (fun x2 M1 =>
        if 0 ≤ b1 ∧ b1 < ((130 : Nat) : Int) then
        pr sc orc 88 F 2 [some (.inr (.inr 24)), some (.inl (q_w (b1 + (1))))] [] (q_up M1 30 ((b1 : Int).toNat) x2)
        else none)
        else none
        else none
      else none
    else
      some (none, GF, M)
  else
    some (none, GF, M) := by
  rw [pr_st]; rfl
set_option maxRecDepth 20000 in
theorem sg_X6_lastItemIn_0 {sc : List Int} {orc : q_O} {M : q_M} {F : Nat} {a1 a2 : Int} : pr sc orc 89 (F + 1) 0 [some (.inr (.inr 24)), some (.inl (a1)), some (.inl (a2)), none, none] [] M =
  q_cI (orc 225 [.inl (a1), .inl (0)] GF M) GF (fun x2 M1 =>
  pr sc orc 89 F 9 [some (.inr (.inr 24)), none, some (.inl (a2)), some (.inl (0)), some (.inl (x2))] [] M1) := by
  rw [pr_st]; rfl
set_option maxRecDepth 20000 in
theorem sg_X6_lastItemIn_9 {sc : List Int} {orc : q_O} {M : q_M} {F : Nat} {b2 b3 b4 : Int} : pr sc orc 89 (F + 1) 9 [some (.inr (.inr 24)), none, some (.inl (b2)), some (.inl (b3)), some (.inl (b4))] [] M =
  if b4 < b2 then
    if b4 < 130 then
      if 0 ≤ b4 ∧ b4 < ((130 : Nat) : Int) then
      q_cI (orc 36 [.inr (.inr 16), .inl (M 26 (b4 : Int).toNat)] GF M) GF (fun x2 M1 =>
      q_cI (orc 225 [.inl (b3), .inl (x2)] GF M1) GF (fun x4 M3 =>
      if 0 ≤ b4 ∧ b4 < ((130 : Nat) : Int) then
      q_cI (orc 36 [.inr (.inr 16), .inl (M3 27 (b4 : Int).toNat)] GF M3) GF (fun x6 M5 =>
      q_cI (orc 225 [.inl (x4), .inl (x6)] GF M5) GF (fun x8 M7 =>
      pr sc orc 89 F 9 [some (.inr (.inr 24)), none, some (.inl (b2)), some (.inl (x8)), some (.inl (q_w (b4 + (1))))] [] M7))
      else none))
      else none
    else
      some (some (.inl (b3)), GF, M)
  else
    some (some (.inl (b3)), GF, M) := by
  rw [pr_st]; rfl
set_option maxRecDepth 20000 in
theorem sg_X6_allTrue_0 {sc : List Int} {orc : q_O} {M : q_M} {F : Nat} {a1 a2 : Int} : pr sc orc 90 (F + 1) 0 [some (.inr (.inr 24)), some (.inl (a1)), some (.inl (a2)), none] [] M =
  pr sc orc 90 F 2 [some (.inr (.inr 24)), some (.inl (a1)), some (.inl (a2)), some (.inl (0))] [] M := by
  rw [pr_st]; rfl
set_option maxRecDepth 20000 in
theorem sg_X6_allTrue_2 {sc : List Int} {orc : q_O} {M : q_M} {F : Nat} {b1 b2 b3 : Int} : pr sc orc 90 (F + 1) 2 [some (.inr (.inr 24)), some (.inl (b1)), some (.inl (b2)), some (.inl (b3))] [] M =
  if b3 < (M 24 9) then
    if b3 < 130 then
      if 0 ≤ b3 ∧ b3 < ((130 : Nat) : Int) then
      if (M 30 (b3 : Int).toNat) = b1 then
        if 0 ≤ b3 ∧ b3 < ((130 : Nat) : Int) then
        if (M 31 (b3 : Int).toNat) = b2 then
          if 0 ≤ b3 ∧ b3 < ((130 : Nat) : Int) then
          if 0 ≤ b3 ∧ b3 < ((130 : Nat) : Int) then
          q_cI (orc 91 [.inr (.inr 24), .inl (M 28 (b3 : Int).toNat), .inl (M 29 (b3 : Int).toNat)] GF M) GF (fun x2 M1 =>
          if x2 = 2 then
            pr sc orc 90 F 2 [some (.inr (.inr 24)), some (.inl (b1)), some (.inl (b2)), some (.inl (q_w (b3 + (1))))] [] M1
          else
            some (some (.inl (0)), GF, M1))
          else none
          else none
        else
          pr sc orc 90 F 2 [some (.inr (.inr 24)), some (.inl (b1)), some (.inl (b2)), some (.inl (q_w (b3 + (1))))] [] M
        else none
      else
        pr sc orc 90 F 2 [some (.inr (.inr 24)), some (.inl (b1)), some (.inl (b2)), some (.inl (q_w (b3 + (1))))] [] M
      else none
    else
      some (some (.inl (1)), GF, M)
  else
    some (some (.inl (1)), GF, M) := by
  rw [pr_st]; rfl
set_option maxRecDepth 20000 in
theorem sg_X6_truthOf_0 {sc : List Int} {orc : q_O} {M : q_M} {F : Nat} {a1 a2 : Int} : pr sc orc 91 (F + 1) 0 [some (.inr (.inr 24)), some (.inl (a1)), some (.inl (a2)), none, none, none] [] M =
  q_cI (orc 225 [.inl (a1), .inl (0)] GF M) GF (fun x2 M1 =>
  pr sc orc 91 F 9 [some (.inr (.inr 24)), none, some (.inl (a2)), some (.inl (0)), some (.inl (x2)), none] [] M1) := by
  rw [pr_st]; rfl
set_option maxRecDepth 20000 in
theorem sg_X6_truthOf_9 {sc : List Int} {orc : q_O} {M : q_M} {F : Nat} {b2 b3 b4 : Int} : pr sc orc 91 (F + 1) 9 [some (.inr (.inr 24)), none, some (.inl (b2)), some (.inl (b3)), some (.inl (b4)), none] [] M =
  if b4 < b2 then
    if b4 < 130 then
      if 0 ≤ b4 ∧ b4 < ((130 : Nat) : Int) then
      if (M 25 (b4 : Int).toNat) = 272 then
        q_c0 (orc 92 [.inr (.inr 24), .inl (b3)] GF M) GF (fun M7 =>
        pr sc orc 91 F 9 [some (.inr (.inr 24)), none, some (.inl (b2)), some (.inl (b3)), some (.inl (q_w (b4 + (1)))), none] [] M7)
      else
        if (M 25 (b4 : Int).toNat) = 271 then
          q_cI (orc 93 [.inr (.inr 24), .inl (b3), .inl (M 25 (b4 : Int).toNat)] GF M) GF (fun x2 M1 =>
          pr sc orc 91 F 9 [some (.inr (.inr 24)), none, some (.inl (b2)), some (.inl (x2)), some (.inl (q_w (b4 + (1)))), none] [] M1)
        else
          if (M 25 (b4 : Int).toNat) = 270 then
            q_cI (orc 93 [.inr (.inr 24), .inl (b3), .inl (M 25 (b4 : Int).toNat)] GF M) GF (fun x6 M5 =>
            pr sc orc 91 F 9 [some (.inr (.inr 24)), none, some (.inl (b2)), some (.inl (x6)), some (.inl (q_w (b4 + (1)))), none] [] M5)
          else
            if b3 < 130 then
              if 0 ≤ b4 ∧ b4 < ((130 : Nat) : Int) then
              if 0 ≤ b4 ∧ b4 < ((130 : Nat) : Int) then
              q_cI (orc 94 [.inr (.inr 24), .inl (M 25 (b4 : Int).toNat), .inl (M 26 (b4 : Int).toNat), .inl (M 27 (b4 : Int).toNat)] GF M) GF (fun x4 M3 =>
              if 0 ≤ b3 ∧ b3 < ((130 : Nat) : Int) then
              pr sc orc 91 F 9 [some (.inr (.inr 24)), none, some (.inl (b2)), some (.inl (q_w (b3 + (1)))), some (.inl (q_w (b4 + (1)))), none] [] (q_up M3 32 ((b3 : Int).toNat) x4)
              else none)
              else none
              else none
            else
              pr sc orc 91 F 9 [some (.inr (.inr 24)), none, some (.inl (b2)), some (.inl (b3)), some (.inl (q_w (b4 + (1)))), none] [] M
      else none
    else
      if 0 < b3 then
        if 0 ≤ 0 ∧ 0 < ((130 : Nat) : Int) then
        some (some (.inl (M 32 (0 : Int).toNat)), GF, M)
        else none
      else
        some (some (.inl (1)), GF, M)
  else
    if 0 < b3 then
      if 0 ≤ 0 ∧ 0 < ((130 : Nat) : Int) then
      some (some (.inl (M 32 (0 : Int).toNat)), GF, M)
      else none
    else
      some (some (.inl (1)), GF, M) := by
  rw [pr_st]; rfl
set_option maxRecDepth 20000 in
theorem sg_X6_turnTop_0 {sc : List Int} {orc : q_O} {M : q_M} {F : Nat} {a1 : Int} : pr sc orc 92 (F + 1) 0 [some (.inr (.inr 24)), some (.inl (a1))] [] M =
  if 0 < a1 then
    if 130 < a1 then
      some (none, GF, M)
    else
      if 0 ≤ q_w (a1 - 1) ∧ q_w (a1 - 1) < ((130 : Nat) : Int) then
      if 0 ≤ q_w (a1 - 1) ∧ q_w (a1 - 1) < ((130 : Nat) : Int) then
      some (none, GF, (q_up M 32 ((q_w (a1 - 1) : Int).toNat) (q_w (2 - (M 32 (q_w (a1 - 1) : Int).toNat)))))
      else none
      else none
  else
    some (none, GF, M) := by
  rw [pr_st]; rfl
set_option maxRecDepth 20000 in
theorem sg_X6_joinTop_0 {sc : List Int} {orc : q_O} {M : q_M} {F : Nat} {a1 a2 : Int} : pr sc orc 93 (F + 1) 0 [some (.inr (.inr 24)), some (.inl (a1)), some (.inl (a2)), none, none] [] M =
  if a1 < 2 then
    some (some (.inl (a1)), GF, M)
  else
    if 130 < a1 then
      some (some (.inl (a1)), GF, M)
    else
      if 0 ≤ q_w (a1 - 2) ∧ q_w (a1 - 2) < ((130 : Nat) : Int) then
      if 0 ≤ q_w (a1 - 1) ∧ q_w (a1 - 1) < ((130 : Nat) : Int) then
      if a2 = 271 then
        q_cI (orc 227 [.inl (M 32 (q_w (a1 - 2) : Int).toNat), .inl (M 32 (q_w (a1 - 1) : Int).toNat)] GF M) GF (fun x4 M3 =>
        if 0 ≤ q_w (a1 - 2) ∧ q_w (a1 - 2) < ((130 : Nat) : Int) then
        some (some (.inl (q_w (a1 - 1))), GF, (q_up M3 32 ((q_w (a1 - 2) : Int).toNat) x4))
        else none)
      else
        q_cI (orc 225 [.inl (M 32 (q_w (a1 - 2) : Int).toNat), .inl (M 32 (q_w (a1 - 1) : Int).toNat)] GF M) GF (fun x2 M1 =>
        if 0 ≤ q_w (a1 - 2) ∧ q_w (a1 - 2) < ((130 : Nat) : Int) then
        some (some (.inl (q_w (a1 - 1))), GF, (q_up M1 32 ((q_w (a1 - 2) : Int).toNat) x2))
        else none)
      else none
      else none := by
  rw [pr_st]; rfl
set_option maxRecDepth 20000 in
theorem sg_X6_testOf_0 {sc : List Int} {orc : q_O} {M : q_M} {F : Nat} {a1 a2 a3 : Int} : pr sc orc 94 (F + 1) 0 [some (.inr (.inr 24)), some (.inl (a1)), some (.inl (a2)), some (.inl (a3)), none, none] [] M =
  if a1 = 273 then
    q_cI (orc 40 [.inr (.inr 16), .inl (a2)] GF M) GF (fun x12 M11 =>
    if x12 = 0 then
      some (some (.inl (0)), GF, M11)
    else
      some (some (.inl (2)), GF, M11))
  else
    q_cI (orc 40 [.inr (.inr 16), .inl (a2)] GF M) GF (fun x2 M1 =>
    if x2 = 0 then
      q_cI (orc 40 [.inr (.inr 16), .inl (a3)] GF M1) GF (fun x4 M3 =>
      if x4 = 0 then
        q_cI (orc 39 [.inr (.inr 16), .inl (a2)] GF M3) GF (fun x6 M5 =>
        q_cI (orc 39 [.inr (.inr 16), .inl (a3)] GF M5) GF (fun x8 M7 =>
        q_cI (orc 229 [.inl (x6), .inl (x8)] GF M7) GF (fun x10 M9 =>
        if a1 = 60 then
          if x10 < 0 then
            if 1 = 0 then
              some (some (.inl (0)), GF, M9)
            else
              some (some (.inl (2)), GF, M9)
          else
            if 0 = 0 then
              some (some (.inl (0)), GF, M9)
            else
              some (some (.inl (2)), GF, M9)
        else
          if a1 = 62 then
            if 0 < x10 then
              if 1 = 0 then
                some (some (.inl (0)), GF, M9)
              else
                some (some (.inl (2)), GF, M9)
            else
              if 0 = 0 then
                some (some (.inl (0)), GF, M9)
              else
                some (some (.inl (2)), GF, M9)
          else
            if x10 = 0 then
              if 1 = 0 then
                some (some (.inl (0)), GF, M9)
              else
                some (some (.inl (2)), GF, M9)
            else
              if 0 = 0 then
                some (some (.inl (0)), GF, M9)
              else
                some (some (.inl (2)), GF, M9))))
      else
        some (some (.inl (1)), GF, M3))
    else
      some (some (.inl (1)), GF, M1)) := by
  rw [pr_st]; rfl
end
section
set_option maxRecDepth 20000 in
theorem sg_X7_width_0 {sc : List Int} {orc : q_O} {M : q_M} {F : Nat} {a1 : Int} : pr sc orc 96 (F + 1) 0 [some (.inr (.inr 1)), some (.inl (a1))] [] M =
  if a1 < 0 then
    some (some (.inl (0)), GF, M)
  else
    if a1 < 3 then
      if 0 ≤ a1 ∧ a1 < ((3 : Nat) : Int) then
      some (some (.inl (M 2 (a1 : Int).toNat)), GF, M)
      else none
    else
      some (some (.inl (0)), GF, M) := by
  rw [pr_st]; rfl
set_option maxRecDepth 20000 in
theorem sg_X7_height_0 {sc : List Int} {orc : q_O} {M : q_M} {F : Nat} {a1 : Int} : pr sc orc 97 (F + 1) 0 [some (.inr (.inr 1)), some (.inl (a1))] [] M =
  if a1 < 0 then
    some (some (.inl (0)), GF, M)
  else
    if a1 < 3 then
      if 0 ≤ a1 ∧ a1 < ((3 : Nat) : Int) then
      some (some (.inl (M 3 (a1 : Int).toNat)), GF, M)
      else none
    else
      some (some (.inl (0)), GF, M) := by
  rw [pr_st]; rfl
set_option maxRecDepth 20000 in
theorem sg_X7_make_0 {sc : List Int} {orc : q_O} {M : q_M} {F : Nat} {a1 a2 : Int} : pr sc orc 98 (F + 1) 0 [some (.inr (.inr 1)), some (.inl (a1)), some (.inl (a2))] [] M =
  if a1 < 0 then
    some (some (.inl (0)), GF, M)
  else
    if a1 < 3 then
      if a2 < 1 then
        some (some (.inl (0)), GF, M)
      else
        if 4 < a2 then
          some (some (.inl (0)), GF, M)
        else
          if 0 ≤ a1 ∧ a1 < ((3 : Nat) : Int) then
          if 0 ≤ a1 ∧ a1 < ((3 : Nat) : Int) then
          some (some (.inl (1)), GF, (q_up (q_up M 2 ((a1 : Int).toNat) a2) 3 ((a1 : Int).toNat) 0))
          else none
          else none
    else
      some (some (.inl (0)), GF, M) := by
  rw [pr_st]; rfl
set_option maxRecDepth 20000 in
theorem sg_X7_append_0 {sc : List Int} {orc : q_O} {M : q_M} {F : Nat} {a1 : Int} : pr sc orc 99 (F + 1) 0 [some (.inr (.inr 1)), some (.inl (a1)), some (.inr (.inr 6)), none, none, none] [] M =
  q_cI (orc 97 [.inr (.inr 1), .inl (a1)] GF M) GF (fun x2 M1 =>
  if a1 < 0 then
    some (none, GF, M1)
  else
    if a1 < 3 then
      if x2 < 10 then
        if 0 ≤ a1 ∧ a1 < ((3 : Nat) : Int) then
        pr sc orc 99 F 34 [some (.inr (.inr 1)), some (.inl (a1)), some (.inr (.inr 6)), some (.inl (x2)), some (.inl (0)), none] [] (q_up M1 3 ((a1 : Int).toNat) (q_w (x2 + 1)))
        else none
      else
        some (none, GF, M1)
    else
      some (none, GF, M1)) := by
  rw [pr_st]; rfl
set_option maxRecDepth 20000 in
theorem sg_X7_append_34 {sc : List Int} {orc : q_O} {M : q_M} {F : Nat} {b1 b3 b4 : Int} : pr sc orc 99 (F + 1) 34 [some (.inr (.inr 1)), some (.inl (b1)), some (.inr (.inr 6)), some (.inl (b3)), some (.inl (b4)), none] [] M =
  if b4 < 4 then
    q_cI (orc 103 [.inr (.inr 1), .inl (b1), .inl (b3), .inl (b4)] GF M) GF (fun x2 M1 =>
    if x2 = (-1) then
      pr sc orc 99 F 34 [some (.inr (.inr 1)), some (.inl (b1)), some (.inr (.inr 6)), some (.inl (b3)), some (.inl (q_w (b4 + (1)))), none] [] M1
    else
      q_cI (orc 130 [.inr (.inr 6), .inl (b4)] GF M1) GF (fun x4 M3 =>
      if 0 ≤ x2 ∧ x2 < ((120 : Nat) : Int) then
      q_cI (orc 131 [.inr (.inr 6), .inl (b4)] GF (q_up M3 4 ((x2 : Int).toNat) x4)) GF (fun x6 M5 =>
      if 0 ≤ x2 ∧ x2 < ((120 : Nat) : Int) then
      if (1 : Nat) = 0 ∨ ((1 : Nat) = 1 ∧ (x6 = 0 ∨ x6 = 1)) ∨ ((1 : Nat) = 2 ∧ 0 ≤ x6 ∧ x6 < 65536) then
      pr sc orc 99 F 34 [some (.inr (.inr 1)), some (.inl (b1)), some (.inr (.inr 6)), some (.inl (b3)), some (.inl (q_w (b4 + (1)))), none] [] (q_up M5 5 ((x2 : Int).toNat) x6)
      else none
      else none)
      else none))
  else
    some (none, GF, M) := by
  rw [pr_st]; rfl
set_option maxRecDepth 20000 in
theorem sg_X7_dropFirst_0 {sc : List Int} {orc : q_O} {M : q_M} {F : Nat} {a1 : Int} : pr sc orc 100 (F + 1) 0 [some (.inr (.inr 1)), some (.inl (a1)), none, none, none] [] M =
  if a1 < 0 then
    some (some (.inl ((-1))), GF, M)
  else
    if a1 < 3 then
      if 0 ≤ a1 ∧ a1 < ((3 : Nat) : Int) then
      if 0 < (M 3 (a1 : Int).toNat) then
        pr sc orc 100 F 35 [some (.inr (.inr 1)), some (.inl (a1)), none, some (.inl (q_w (q_w (q_w (a1 * 10) * 4) + 36))), some (.inl (q_w (q_w (a1 * 10) * 4)))] [] M
      else
        some (some (.inl ((-1))), GF, M)
      else none
    else
      some (some (.inl ((-1))), GF, M) := by
  rw [pr_st]; rfl
set_option maxRecDepth 20000 in
theorem sg_X7_dropFirst_35 {sc : List Int} {orc : q_O} {M : q_M} {F : Nat} {b1 b3 b4 : Int} : pr sc orc 100 (F + 1) 35 [some (.inr (.inr 1)), some (.inl (b1)), none, some (.inl (b3)), some (.inl (b4))] [] M =
  if b4 < b3 then
    if 0 ≤ q_w (b4 + 4) ∧ q_w (b4 + 4) < ((120 : Nat) : Int) then
    if 0 ≤ b4 ∧ b4 < ((120 : Nat) : Int) then
    if 0 ≤ q_w (b4 + 4) ∧ q_w (b4 + 4) < ((120 : Nat) : Int) then
    if 0 ≤ b4 ∧ b4 < ((120 : Nat) : Int) then
    if (1 : Nat) = 0 ∨ ((1 : Nat) = 1 ∧ ((M 5 (q_w (b4 + 4) : Int).toNat) = 0 ∨ (M 5 (q_w (b4 + 4) : Int).toNat) = 1)) ∨ ((1 : Nat) = 2 ∧ 0 ≤ M 5 (q_w (b4 + 4) : Int).toNat ∧ M 5 (q_w (b4 + 4) : Int).toNat < 65536) then
    pr sc orc 100 F 35 [some (.inr (.inr 1)), some (.inl (b1)), none, some (.inl (b3)), some (.inl (q_w (b4 + (1))))] [] (q_up (q_up M 4 ((b4 : Int).toNat) (M 4 (q_w (b4 + 4) : Int).toNat)) 5 ((b4 : Int).toNat) (M 5 (q_w (b4 + 4) : Int).toNat))
    else none
    else none
    else none
    else none
    else none
  else
    if 0 ≤ b1 ∧ b1 < ((3 : Nat) : Int) then
    if 0 ≤ b1 ∧ b1 < ((3 : Nat) : Int) then
    if 0 ≤ b1 ∧ b1 < ((3 : Nat) : Int) then
    some (some (.inl ((q_up M 3 ((b1 : Int).toNat) (q_w (M 3 (b1 : Int).toNat - 1))) 3 (b1 : Int).toNat)), GF, (q_up M 3 ((b1 : Int).toNat) (q_w (M 3 (b1 : Int).toNat - 1))))
    else none
    else none
    else none := by
  rw [pr_st]; rfl
set_option maxRecDepth 20000 in
theorem sg_X7_numberAt_0 {sc : List Int} {orc : q_O} {M : q_M} {F : Nat} {a1 a2 a3 : Int} : pr sc orc 101 (F + 1) 0 [some (.inr (.inr 1)), some (.inl (a1)), some (.inl (a2)), some (.inl (a3)), none] [] M =
  q_cI (orc 103 [.inr (.inr 1), .inl (a1), .inl (a2), .inl (a3)] GF M) GF (fun x2 M1 =>
  if x2 = (-1) then
    some (some (.inl (0)), GF, M1)
  else
    if 0 ≤ x2 ∧ x2 < ((120 : Nat) : Int) then
    some (some (.inl (M1 4 (x2 : Int).toNat)), GF, M1)
    else none) := by
  rw [pr_st]; rfl
set_option maxRecDepth 20000 in
theorem sg_X7_unknownAt_0 {sc : List Int} {orc : q_O} {M : q_M} {F : Nat} {a1 a2 a3 : Int} : pr sc orc 102 (F + 1) 0 [some (.inr (.inr 1)), some (.inl (a1)), some (.inl (a2)), some (.inl (a3)), none] [] M =
  q_cI (orc 103 [.inr (.inr 1), .inl (a1), .inl (a2), .inl (a3)] GF M) GF (fun x2 M1 =>
  if x2 = (-1) then
    some (some (.inl (1)), GF, M1)
  else
    if 0 ≤ x2 ∧ x2 < ((120 : Nat) : Int) then
    if (M1 5 (x2 : Int).toNat) = 0 then
      some (some (.inl (0)), GF, M1)
    else
      some (some (.inl (1)), GF, M1)
    else none) := by
  rw [pr_st]; rfl
set_option maxRecDepth 20000 in
theorem sg_X7_cellOf_0 {sc : List Int} {orc : q_O} {M : q_M} {F : Nat} {a1 a2 a3 : Int} : pr sc orc 103 (F + 1) 0 [some (.inr (.inr 1)), some (.inl (a1)), some (.inl (a2)), some (.inl (a3))] [] M =
  if a1 < 0 then
    some (some (.inl ((-1))), GF, M)
  else
    if a1 < 3 then
      if a2 < 0 then
        some (some (.inl ((-1))), GF, M)
      else
        if a2 < 10 then
          if 0 ≤ a1 ∧ a1 < ((3 : Nat) : Int) then
          if a2 < (M 3 (a1 : Int).toNat) then
            if a3 < 0 then
              some (some (.inl ((-1))), GF, M)
            else
              if a3 < 4 then
                if 0 ≤ a1 ∧ a1 < ((3 : Nat) : Int) then
                if a3 < (M 2 (a1 : Int).toNat) then
                  some (some (.inl (q_w (q_w (q_w (q_w (a1 * 10) + a2) * 4) + a3))), GF, M)
                else
                  some (some (.inl ((-1))), GF, M)
                else none
              else
                some (some (.inl ((-1))), GF, M)
          else
            some (some (.inl ((-1))), GF, M)
          else none
        else
          some (some (.inl ((-1))), GF, M)
    else
      some (some (.inl ((-1))), GF, M) := by
  rw [pr_st]; rfl
set_option maxRecDepth 20000 in
theorem sg_X8_append_0 {sc : List Int} {orc : q_O} {M : q_M} {F : Nat} {a1 : Int} : pr sc orc 105 (F + 1) 0 [some (.inr (.inr 9)), some (.inl (a1))] [] M =
  if a1 < 32 then
    some (some (.inl (0)), GF, M)
  else
    if 126 < a1 then
      some (some (.inl (0)), GF, M)
    else
      if (M 9 1) < 0 then
        some (some (.inl (0)), GF, M)
      else
        if (M 9 1) < 130 then
          if 0 ≤ M 9 1 ∧ M 9 1 < ((130 : Nat) : Int) then
          if (2 : Nat) = 0 ∨ ((2 : Nat) = 1 ∧ (a1 = 0 ∨ a1 = 1)) ∨ ((2 : Nat) = 2 ∧ 0 ≤ a1 ∧ a1 < 65536) then
          some (some (.inl (1)), GF, (q_up (q_up M 10 ((M 9 1 : Int).toNat) a1) 9 1 (q_w (M 9 1 + 1))))
          else none
          else none
        else
          some (some (.inl (0)), GF, M) := by
  rw [pr_st]; rfl
set_option maxRecDepth 20000 in
theorem sg_X8_clear_0 {sc : List Int} {orc : q_O} {M : q_M} {F : Nat} : pr sc orc 106 (F + 1) 0 [some (.inr (.inr 9))] [] M =
  some (none, GF, (q_up M 9 1 0)) := by
  rw [pr_st]; rfl
set_option maxRecDepth 20000 in
theorem sg_X8_splitInto_0 {sc : List Int} {orc : q_O} {M : q_M} {F : Nat} : pr sc orc 107 (F + 1) 0 [some (.inr (.inr 9)), some (.inr (.inr 11)), none, none] [] M =
  q_c0 (orc 119 [.inr (.inr 11)] GF M) GF (fun M1 =>
  pr sc orc 107 F 8 [some (.inr (.inr 9)), some (.inr (.inr 11)), some (.inl (0)), some (.inl (0))] [] M1) := by
  rw [pr_st]; rfl
set_option maxRecDepth 20000 in
theorem sg_X8_splitInto_8 {sc : List Int} {orc : q_O} {M : q_M} {F : Nat} {b2 b3 : Int} : pr sc orc 107 (F + 1) 8 [some (.inr (.inr 9)), some (.inr (.inr 11)), some (.inl (b2)), some (.inl (b3))] [] M =
  if b3 < (M 9 1) then
    if b3 < b2 then
      pr sc orc 107 F 8 [some (.inr (.inr 9)), some (.inr (.inr 11)), some (.inl (b2)), some (.inl (q_w (b3 + (1))))] [] M
    else
      q_cI (orc 108 [.inr (.inr 9), .inl (b3)] GF M) GF (fun x3 M2 =>
      if x3 = 32 then
        pr sc orc 107 F 8 [some (.inr (.inr 9)), some (.inr (.inr 11)), some (.inl (b2)), some (.inl (q_w (b3 + (1))))] [] M2
      else
        q_cI (orc 109 [.inr (.inr 9), .inl (b3), .inr (.inr 11)] GF M2) GF (fun x5 M4 =>
        pr sc orc 107 F 8 [some (.inr (.inr 9)), some (.inr (.inr 11)), some (.inl (x5)), some (.inl (q_w (b3 + (1))))] [] M4))
  else
    q_c0 (orc 120 [.inr (.inr 11), .inl (256), .inl (M 9 1), .inl (0)] GF M) GF (fun M1 =>
    some (none, GF, M1)) := by
  rw [pr_st]; rfl
set_option maxRecDepth 20000 in
theorem sg_X8_codeAt_0 {sc : List Int} {orc : q_O} {M : q_M} {F : Nat} {a1 : Int} : pr sc orc 108 (F + 1) 0 [some (.inr (.inr 9)), some (.inl (a1))] [] M =
  if a1 < 0 then
    if 0 ≤ 32 ∧ 32 < 65536 then some (some (.inl (32)), GF, M) else none
  else
    if a1 < (M 9 1) then
      if a1 < 130 then
        if 0 ≤ a1 ∧ a1 < ((130 : Nat) : Int) then
        if 0 ≤ M 10 (a1 : Int).toNat ∧ M 10 (a1 : Int).toNat < 65536 then some (some (.inl (M 10 (a1 : Int).toNat)), GF, M) else none
        else none
      else
        if 0 ≤ 32 ∧ 32 < 65536 then some (some (.inl (32)), GF, M) else none
    else
      if 0 ≤ 32 ∧ 32 < 65536 then some (some (.inl (32)), GF, M) else none := by
  rw [pr_st]; rfl
set_option maxRecDepth 20000 in
theorem sg_X8_readToken_0 {sc : List Int} {orc : q_O} {M : q_M} {F : Nat} {a1 : Int} : pr sc orc 109 (F + 1) 0 [some (.inr (.inr 9)), some (.inl (a1)), some (.inr (.inr 11)), none, none, none] [] M =
  q_cI (orc 108 [.inr (.inr 9), .inl (a1)] GF M) GF (fun x2 M1 =>
  q_cI (orc 114 [.inl (x2)] GF M1) GF (fun x4 M3 =>
  if x4 = 0 then
    if x2 = 45 then
      q_cI (orc 111 [.inr (.inr 9), .inl (a1), .inr (.inr 11)] GF M3) GF (fun x6 M5 =>
      some (some (.inl (x6)), GF, M5))
    else
      q_cI (orc 116 [.inl (x2)] GF M3) GF (fun x8 M7 =>
      if x8 = 0 then
        q_cI (orc 115 [.inl (x2)] GF M7) GF (fun x10 M9 =>
        if x10 = 0 then
          q_cI (orc 117 [.inl (x2)] GF M9) GF (fun x13 M12 =>
          if x13 = 0 then
            q_c0 (orc 120 [.inr (.inr 11), .inl (257), .inl (a1), .inl (0)] GF M12) GF (fun M14 =>
            some (some (.inl (q_w (a1 + 1))), GF, M14))
          else
            q_c0 (orc 120 [.inr (.inr 11), .inl (x2), .inl (a1), .inl (0)] GF M12) GF (fun M15 =>
            some (some (.inl (q_w (a1 + 1))), GF, M15)))
        else
          q_c0 (orc 120 [.inr (.inr 11), .inl (x2), .inl (a1), .inl (0)] GF M9) GF (fun M11 =>
          some (some (.inl (q_w (a1 + 1))), GF, M11)))
      else
        q_cI (orc 111 [.inr (.inr 9), .inl (a1), .inr (.inr 11)] GF M7) GF (fun x17 M16 =>
        some (some (.inl (x17)), GF, M16)))
  else
    q_cI (orc 110 [.inr (.inr 9), .inl (a1)] GF M3) GF (fun x19 M18 =>
    if x19 = (q_w (a1 + 1)) then
      q_c0 (orc 120 [.inr (.inr 11), .inl (x2), .inl (a1), .inl (0)] GF M18) GF (fun M23 =>
      some (some (.inl (x19)), GF, M23))
    else
      q_cI (orc 112 [.inr (.inr 9), .inl (a1), .inl (x19)] GF M18) GF (fun x21 M20 =>
      q_c0 (orc 120 [.inr (.inr 11), .inl (x21), .inl (a1), .inl (0)] GF M20) GF (fun M22 =>
      some (some (.inl (x19)), GF, M22)))))) := by
  rw [pr_st]; rfl
set_option maxRecDepth 20000 in
theorem sg_X8_endOfWord_0 {sc : List Int} {orc : q_O} {M : q_M} {F : Nat} {a1 : Int} : pr sc orc 110 (F + 1) 0 [some (.inr (.inr 9)), some (.inl (a1)), none, none] [] M =
  pr sc orc 110 F 4 [some (.inr (.inr 9)), none, some (.inl (a1)), some (.inl (a1))] [] M := by
  rw [pr_st]; rfl
set_option maxRecDepth 20000 in
theorem sg_X8_endOfWord_4 {sc : List Int} {orc : q_O} {M : q_M} {F : Nat} {b2 b3 : Int} : pr sc orc 110 (F + 1) 4 [some (.inr (.inr 9)), none, some (.inl (b2)), some (.inl (b3))] [] M =
  if b3 < (M 9 1) then
    q_cI (orc 108 [.inr (.inr 9), .inl (b3)] GF M) GF (fun x2 M1 =>
    q_cI (orc 114 [.inl (x2)] GF M1) GF (fun x4 M3 =>
    if x4 = 0 then
      some (some (.inl (b2)), GF, M3)
    else
      pr sc orc 110 F 4 [some (.inr (.inr 9)), none, some (.inl (q_w (b3 + 1))), some (.inl (q_w (b3 + (1))))] [] M3))
  else
    some (some (.inl (b2)), GF, M) := by
  rw [pr_st]; rfl
set_option maxRecDepth 20000 in
theorem sg_X8_readNumeral_0 {sc : List Int} {orc : q_O} {M : q_M} {F : Nat} {a1 : Int} : pr sc orc 111 (F + 1) 0 [some (.inr (.inr 9)), some (.inl (a1)), some (.inr (.inr 11)), none, none, none, none, none] [] M =
  q_cI (orc 108 [.inr (.inr 9), .inl (a1)] GF M) GF (fun x2 M1 =>
  if x2 = 45 then
    if 1 = 0 then
      pr sc orc 111 F 40 [some (.inr (.inr 9)), some (.inl (a1)), some (.inr (.inr 11)), some (.inl (1)), some (.inl (a1)), some (.inl (a1)), some (.inl (0)), some (.inl (a1))] [] M1
    else
      pr sc orc 111 F 40 [some (.inr (.inr 9)), some (.inl (a1)), some (.inr (.inr 11)), some (.inl (1)), some (.inl (q_w (a1 + 1))), some (.inl (q_w (a1 + 1))), some (.inl (0)), some (.inl (q_w (a1 + 1)))] [] M1
  else
    if 0 = 0 then
      pr sc orc 111 F 40 [some (.inr (.inr 9)), some (.inl (a1)), some (.inr (.inr 11)), some (.inl (0)), some (.inl (a1)), some (.inl (a1)), some (.inl (0)), some (.inl (a1))] [] M1
    else
      pr sc orc 111 F 40 [some (.inr (.inr 9)), some (.inl (a1)), some (.inr (.inr 11)), some (.inl (0)), some (.inl (q_w (a1 + 1))), some (.inl (q_w (a1 + 1))), some (.inl (0)), some (.inl (q_w (a1 + 1)))] [] M1) := by
  rw [pr_st]; rfl
set_option maxRecDepth 20000 in
theorem sg_X8_readNumeral_40 {sc : List Int} {orc : q_O} {M : q_M} {F : Nat} {b1 b3 b4 b5 b6 b7 : Int} : pr sc orc 111 (F + 1) 40 [some (.inr (.inr 9)), some (.inl (b1)), some (.inr (.inr 11)), some (.inl (b3)), some (.inl (b4)), some (.inl (b5)), some (.inl (b6)), some (.inl (b7))] [] M =
  if b7 < (M 9 1) then
    q_cI (orc 108 [.inr (.inr 9), .inl (b7)] GF M) GF (fun x2 M1 =>
    q_cI (orc 116 [.inl (x2)] GF M1) GF (fun x4 M3 =>
    if x4 = 0 then
      if b4 < b5 then
        if 6 < (q_w (b5 - b4)) then
          pr sc orc 111 F 114 [none, some (.inl (b1)), some (.inr (.inr 11)), some (.inl (b3)), none, some (.inl (b5)), some (.inl (b6)), some (.inl (0))] [] M3
        else
          pr sc orc 111 F 114 [none, some (.inl (b1)), some (.inr (.inr 11)), some (.inl (b3)), none, some (.inl (b5)), some (.inl (b6)), some (.inl (1))] [] M3
      else
        pr sc orc 111 F 114 [none, some (.inl (b1)), some (.inr (.inr 11)), some (.inl (b3)), none, some (.inl (b5)), some (.inl (b6)), some (.inl (0))] [] M3
    else
      q_cI (orc 108 [.inr (.inr 9), .inl (b7)] GF M3) GF (fun x6 M5 =>
      pr sc orc 111 F 40 [some (.inr (.inr 9)), some (.inl (b1)), some (.inr (.inr 11)), some (.inl (b3)), some (.inl (b4)), some (.inl (q_w (b7 + 1))), some (.inl (q_w (q_w (b6 * 10) + (q_w (x6 - 48))))), some (.inl (q_w (b7 + (1))))] [] M5)))
  else
    if b4 < b5 then
      if 6 < (q_w (b5 - b4)) then
        pr sc orc 111 F 114 [none, some (.inl (b1)), some (.inr (.inr 11)), some (.inl (b3)), none, some (.inl (b5)), some (.inl (b6)), some (.inl (0))] [] M
      else
        pr sc orc 111 F 114 [none, some (.inl (b1)), some (.inr (.inr 11)), some (.inl (b3)), none, some (.inl (b5)), some (.inl (b6)), some (.inl (1))] [] M
    else
      pr sc orc 111 F 114 [none, some (.inl (b1)), some (.inr (.inr 11)), some (.inl (b3)), none, some (.inl (b5)), some (.inl (b6)), some (.inl (0))] [] M := by
  rw [pr_st]; rfl
set_option maxRecDepth 20000 in
theorem sg_X8_readNumeral_114 {sc : List Int} {orc : q_O} {M : q_M} {F : Nat} {b1 b3 b5 b6 b7 : Int} : pr sc orc 111 (F + 1) 114 [none, some (.inl (b1)), some (.inr (.inr 11)), some (.inl (b3)), none, some (.inl (b5)), some (.inl (b6)), some (.inl (b7))] [] M =
  if b7 = 0 then
    if b3 = 0 then
      q_c0 (orc 120 [.inr (.inr 11), .inl (257), .inl (b1), .inl (b6)] GF M) GF (fun M1 =>
      some (some (.inl (b5)), GF, M1))
    else
      q_c0 (orc 120 [.inr (.inr 11), .inl (257), .inl (b1), .inl (q_w (-b6))] GF M) GF (fun M2 =>
      some (some (.inl (b5)), GF, M2))
  else
    if b3 = 0 then
      q_c0 (orc 120 [.inr (.inr 11), .inl (258), .inl (b1), .inl (b6)] GF M) GF (fun M3 =>
      some (some (.inl (b5)), GF, M3))
    else
      q_c0 (orc 120 [.inr (.inr 11), .inl (258), .inl (b1), .inl (q_w (-b6))] GF M) GF (fun M4 =>
      some (some (.inl (b5)), GF, M4)) := by
  rw [pr_st]; rfl
set_option maxRecDepth 20000 in
theorem sg_X8_wordKind_0 {sc : List Int} {orc : q_O} {M : q_M} {F : Nat} {a1 a2 : Int} : pr sc orc 112 (F + 1) 0 [some (.inr (.inr 9)), some (.inl (a1)), some (.inl (a2))] [] M =
  q_cI (orc 113 [.inr (.inr 9), .inl (a1), .inl (a2), .inr (.inr 1002)] GF M) GF (fun x2 M1 =>
  if x2 = 0 then
    q_cI (orc 113 [.inr (.inr 9), .inl (a1), .inl (a2), .inr (.inr 1003)] GF M1) GF (fun x4 M3 =>
    if x4 = 0 then
      q_cI (orc 113 [.inr (.inr 9), .inl (a1), .inl (a2), .inr (.inr 1004)] GF M3) GF (fun x6 M5 =>
      if x6 = 0 then
        q_cI (orc 113 [.inr (.inr 9), .inl (a1), .inl (a2), .inr (.inr 1005)] GF M5) GF (fun x8 M7 =>
        if x8 = 0 then
          q_cI (orc 113 [.inr (.inr 9), .inl (a1), .inl (a2), .inr (.inr 1006)] GF M7) GF (fun x10 M9 =>
          if x10 = 0 then
            q_cI (orc 113 [.inr (.inr 9), .inl (a1), .inl (a2), .inr (.inr 1007)] GF M9) GF (fun x12 M11 =>
            if x12 = 0 then
              q_cI (orc 113 [.inr (.inr 9), .inl (a1), .inl (a2), .inr (.inr 1008)] GF M11) GF (fun x14 M13 =>
              if x14 = 0 then
                q_cI (orc 113 [.inr (.inr 9), .inl (a1), .inl (a2), .inr (.inr 1009)] GF M13) GF (fun x16 M15 =>
                if x16 = 0 then
                  q_cI (orc 113 [.inr (.inr 9), .inl (a1), .inl (a2), .inr (.inr 1010)] GF M15) GF (fun x18 M17 =>
                  if x18 = 0 then
                    q_cI (orc 113 [.inr (.inr 9), .inl (a1), .inl (a2), .inr (.inr 1011)] GF M17) GF (fun x20 M19 =>
                    if x20 = 0 then
                      q_cI (orc 113 [.inr (.inr 9), .inl (a1), .inl (a2), .inr (.inr 1012)] GF M19) GF (fun x22 M21 =>
                      if x22 = 0 then
                        q_cI (orc 113 [.inr (.inr 9), .inl (a1), .inl (a2), .inr (.inr 1013)] GF M21) GF (fun x24 M23 =>
                        if x24 = 0 then
                          q_cI (orc 113 [.inr (.inr 9), .inl (a1), .inl (a2), .inr (.inr 1014)] GF M23) GF (fun x26 M25 =>
                          if x26 = 0 then
                            q_cI (orc 113 [.inr (.inr 9), .inl (a1), .inl (a2), .inr (.inr 1015)] GF M25) GF (fun x28 M27 =>
                            if x28 = 0 then
                              q_cI (orc 113 [.inr (.inr 9), .inl (a1), .inl (a2), .inr (.inr 1016)] GF M27) GF (fun x30 M29 =>
                              if x30 = 0 then
                                q_cI (orc 113 [.inr (.inr 9), .inl (a1), .inl (a2), .inr (.inr 1017)] GF M29) GF (fun x32 M31 =>
                                if x32 = 0 then
                                  some (some (.inl (257)), GF, M31)
                                else
                                  some (some (.inl (274)), GF, M31))
                              else
                                some (some (.inl (273)), GF, M29))
                            else
                              some (some (.inl (272)), GF, M27))
                          else
                            some (some (.inl (271)), GF, M25))
                        else
                          some (some (.inl (270)), GF, M23))
                      else
                        some (some (.inl (269)), GF, M21))
                    else
                      some (some (.inl (268)), GF, M19))
                  else
                    some (some (.inl (267)), GF, M17))
                else
                  some (some (.inl (266)), GF, M15))
              else
                some (some (.inl (265)), GF, M13))
            else
              some (some (.inl (264)), GF, M11))
          else
            some (some (.inl (263)), GF, M9))
        else
          some (some (.inl (262)), GF, M7))
      else
        some (some (.inl (261)), GF, M5))
    else
      some (some (.inl (260)), GF, M3))
  else
    some (some (.inl (259)), GF, M1)) := by
  rw [pr_st]; rfl
set_option maxRecDepth 20000 in
theorem sg_X8_isSmall_0 {sc : List Int} {orc : q_O} {M : q_M} {F : Nat} {a1 : Int} : pr sc orc 114 (F + 1) 0 [some (.inl (a1))] [] M =
  if a1 < 97 then
    some (some (.inl (0)), GF, M)
  else
    if 122 < a1 then
      some (some (.inl (0)), GF, M)
    else
      some (some (.inl (1)), GF, M) := by
  rw [pr_st]; rfl
set_option maxRecDepth 20000 in
theorem sg_X8_isCapital_0 {sc : List Int} {orc : q_O} {M : q_M} {F : Nat} {a1 : Int} : pr sc orc 115 (F + 1) 0 [some (.inl (a1))] [] M =
  if a1 < 65 then
    some (some (.inl (0)), GF, M)
  else
    if 90 < a1 then
      some (some (.inl (0)), GF, M)
    else
      some (some (.inl (1)), GF, M) := by
  rw [pr_st]; rfl
set_option maxRecDepth 20000 in
theorem sg_X8_isDigit_0 {sc : List Int} {orc : q_O} {M : q_M} {F : Nat} {a1 : Int} : pr sc orc 116 (F + 1) 0 [some (.inl (a1))] [] M =
  if a1 < 48 then
    some (some (.inl (0)), GF, M)
  else
    if 57 < a1 then
      some (some (.inl (0)), GF, M)
    else
      some (some (.inl (1)), GF, M) := by
  rw [pr_st]; rfl
set_option maxRecDepth 20000 in
theorem sg_X8_isSign_0 {sc : List Int} {orc : q_O} {M : q_M} {F : Nat} {a1 : Int} : pr sc orc 117 (F + 1) 0 [some (.inl (a1))] [] M =
  q_cI (orc 218 [.inr (.inr 1018), .inl (a1)] GF M) GF (fun x2 M1 =>
  if x2 < 0 then
    some (some (.inl (0)), GF, M1)
  else
    some (some (.inl (1)), GF, M1)) := by
  rw [pr_st]; rfl
set_option maxRecDepth 20000 in
theorem sg_X9_clear_0 {sc : List Int} {orc : q_O} {M : q_M} {F : Nat} : pr sc orc 119 (F + 1) 0 [some (.inr (.inr 11))] [] M =
  some (none, GF, (q_up (q_up M 11 3 0) 11 4 0)) := by
  rw [pr_st]; rfl
set_option maxRecDepth 20000 in
theorem sg_X9_add_0 {sc : List Int} {orc : q_O} {M : q_M} {F : Nat} {a1 a2 a3 : Int} : pr sc orc 120 (F + 1) 0 [some (.inr (.inr 11)), some (.inl (a1)), some (.inl (a2)), some (.inl (a3))] [] M =
  if (M 11 3) < 0 then
    some (none, GF, M)
  else
    if (M 11 3) < ((131 : Nat) : Int) then
      if 0 ≤ M 11 3 ∧ M 11 3 < ((131 : Nat) : Int) then
      if 0 ≤ M 11 3 ∧ M 11 3 < ((131 : Nat) : Int) then
      if 0 ≤ M 11 3 ∧ M 11 3 < ((131 : Nat) : Int) then
      some (none, GF, (q_up (q_up (q_up (q_up M 12 ((M 11 3 : Int).toNat) a1) 13 ((M 11 3 : Int).toNat) a2) 14 ((M 11 3 : Int).toNat) a3) 11 3 (q_w (M 11 3 + 1))))
      else none
      else none
      else none
    else
      some (none, GF, M) := by
  rw [pr_st]; rfl
set_option maxRecDepth 20000 in
theorem sg_X9_nextKind_0 {sc : List Int} {orc : q_O} {M : q_M} {F : Nat} : pr sc orc 121 (F + 1) 0 [some (.inr (.inr 11))] [] M =
  if (M 11 4) < 0 then
    some (some (.inl (256)), GF, M)
  else
    if (M 11 4) < (M 11 3) then
      if (M 11 4) < ((131 : Nat) : Int) then
        if 0 ≤ M 11 4 ∧ M 11 4 < ((131 : Nat) : Int) then
        some (some (.inl (M 12 (M 11 4 : Int).toNat)), GF, M)
        else none
      else
        some (some (.inl (256)), GF, M)
    else
      some (some (.inl (256)), GF, M) := by
  rw [pr_st]; rfl
set_option maxRecDepth 20000 in
theorem sg_X9_nextPlace_0 {sc : List Int} {orc : q_O} {M : q_M} {F : Nat} : pr sc orc 122 (F + 1) 0 [some (.inr (.inr 11))] [] M =
  if (M 11 4) < 0 then
    some (some (.inl (0)), GF, M)
  else
    if (M 11 4) < (M 11 3) then
      if (M 11 4) < ((131 : Nat) : Int) then
        if 0 ≤ M 11 4 ∧ M 11 4 < ((131 : Nat) : Int) then
        some (some (.inl (M 13 (M 11 4 : Int).toNat)), GF, M)
        else none
      else
        some (some (.inl (0)), GF, M)
    else
      some (some (.inl (0)), GF, M) := by
  rw [pr_st]; rfl
set_option maxRecDepth 20000 in
theorem sg_X9_nextNumber_0 {sc : List Int} {orc : q_O} {M : q_M} {F : Nat} : pr sc orc 123 (F + 1) 0 [some (.inr (.inr 11))] [] M =
  if (M 11 4) < 0 then
    some (some (.inl (0)), GF, M)
  else
    if (M 11 4) < (M 11 3) then
      if (M 11 4) < ((131 : Nat) : Int) then
        if 0 ≤ M 11 4 ∧ M 11 4 < ((131 : Nat) : Int) then
        some (some (.inl (M 14 (M 11 4 : Int).toNat)), GF, M)
        else none
      else
        some (some (.inl (0)), GF, M)
    else
      some (some (.inl (0)), GF, M) := by
  rw [pr_st]; rfl
set_option maxRecDepth 20000 in
theorem sg_X9_advance_0 {sc : List Int} {orc : q_O} {M : q_M} {F : Nat} : pr sc orc 124 (F + 1) 0 [some (.inr (.inr 11))] [] M =
  if (M 11 4) < (q_w (M 11 3 - 1)) then
    some (none, GF, (q_up M 11 4 (q_w (M 11 4 + 1))))
  else
    some (none, GF, M) := by
  rw [pr_st]; rfl
end
section
set_option maxRecDepth 20000 in
theorem sg_X9_take_0 {sc : List Int} {orc : q_O} {M : q_M} {F : Nat} {a1 : Int} : pr sc orc 125 (F + 1) 0 [some (.inr (.inr 11)), some (.inl (a1))] [] M =
  q_cI (orc 121 [.inr (.inr 11)] GF M) GF (fun x2 M1 =>
  if x2 = a1 then
    q_c0 (orc 124 [.inr (.inr 11)] GF M1) GF (fun M3 =>
    some (some (.inl (1)), GF, M3))
  else
    some (some (.inl (0)), GF, M1)) := by
  rw [pr_st]; rfl
set_option maxRecDepth 20000 in
theorem sg_X10_size_0 {sc : List Int} {orc : q_O} {M : q_M} {F : Nat} : pr sc orc 127 (F + 1) 0 [some (.inr (.inr 6))] [] M =
  some (some (.inl (M 6 2)), GF, M) := by
  rw [pr_st]; rfl
set_option maxRecDepth 20000 in
theorem sg_X10_clear_0 {sc : List Int} {orc : q_O} {M : q_M} {F : Nat} : pr sc orc 128 (F + 1) 0 [some (.inr (.inr 6))] [] M =
  some (none, GF, (q_up M 6 2 0)) := by
  rw [pr_st]; rfl
set_option maxRecDepth 20000 in
theorem sg_X10_put_0 {sc : List Int} {orc : q_O} {M : q_M} {F : Nat} {a1 a2 : Int} : pr sc orc 129 (F + 1) 0 [some (.inr (.inr 6)), some (.inl (a1)), some (.inl (a2))] [] M =
  if (M 6 2) < 0 then
    some (some (.inl (0)), GF, M)
  else
    if (M 6 2) < 4 then
      if 0 ≤ M 6 2 ∧ M 6 2 < ((4 : Nat) : Int) then
      if 0 ≤ M 6 2 ∧ M 6 2 < ((4 : Nat) : Int) then
      if (1 : Nat) = 0 ∨ ((1 : Nat) = 1 ∧ (a2 = 0 ∨ a2 = 1)) ∨ ((1 : Nat) = 2 ∧ 0 ≤ a2 ∧ a2 < 65536) then
      some (some (.inl (1)), GF, (q_up (q_up (q_up M 7 ((M 6 2 : Int).toNat) a1) 8 ((M 6 2 : Int).toNat) a2) 6 2 (q_w (M 6 2 + 1))))
      else none
      else none
      else none
    else
      some (some (.inl (0)), GF, M) := by
  rw [pr_st]; rfl
set_option maxRecDepth 20000 in
theorem sg_X10_numberAt_0 {sc : List Int} {orc : q_O} {M : q_M} {F : Nat} {a1 : Int} : pr sc orc 130 (F + 1) 0 [some (.inr (.inr 6)), some (.inl (a1))] [] M =
  if a1 < 0 then
    some (some (.inl (0)), GF, M)
  else
    if a1 < 4 then
      if 0 ≤ a1 ∧ a1 < ((4 : Nat) : Int) then
      some (some (.inl (M 7 (a1 : Int).toNat)), GF, M)
      else none
    else
      some (some (.inl (0)), GF, M) := by
  rw [pr_st]; rfl
set_option maxRecDepth 20000 in
theorem sg_X10_unknownAt_0 {sc : List Int} {orc : q_O} {M : q_M} {F : Nat} {a1 : Int} : pr sc orc 131 (F + 1) 0 [some (.inr (.inr 6)), some (.inl (a1))] [] M =
  if a1 < 0 then
    some (some (.inl (0)), GF, M)
  else
    if a1 < 4 then
      if 0 ≤ a1 ∧ a1 < ((4 : Nat) : Int) then
      if (M 8 (a1 : Int).toNat) = 0 then
        some (some (.inl (0)), GF, M)
      else
        some (some (.inl (1)), GF, M)
      else none
    else
      some (some (.inl (0)), GF, M) := by
  rw [pr_st]; rfl
set_option maxRecDepth 20000 in
theorem sg_X11_declare_0 {sc : List Int} {orc : q_O} {M : q_M} {F : Nat} {a1 a2 : Int} : pr sc orc 133 (F + 1) 0 [some (.inr (.inr 0)), some (.inl (a1)), some (.inl (a2))] [] M =
  q_cI (orc 98 [.inr (.inr 1), .inl (a1), .inl (a2)] GF M) GF (fun x2 M1 =>
  if x2 = 0 then
    some (some (.inl (0)), GF, M1)
  else
    q_cI (orc 74 [.inr (.inr 15), .inl (a1)] GF M1) GF (fun x4 M3 =>
    if x4 = 0 then
      some (some (.inl (1)), GF, M3)
    else
      some (some (.inl (1)), GF, (q_up M3 0 9 0)))) := by
  rw [pr_st]; rfl
set_option maxRecDepth 20000 in
theorem sg_X11_value_0 {sc : List Int} {orc : q_O} {M : q_M} {F : Nat} {a1 : Int} : pr sc orc 134 (F + 1) 0 [some (.inr (.inr 0)), some (.inl (a1))] [] M =
  q_cI (orc 129 [.inr (.inr 6), .inl (a1), .inl (0)] GF M) GF (fun x2 M1 =>
  if x2 = 0 ∨ x2 = 1 then some (some (.inl (x2)), GF, M1) else none) := by
  rw [pr_st]; rfl
set_option maxRecDepth 20000 in
theorem sg_X11_nothing_0 {sc : List Int} {orc : q_O} {M : q_M} {F : Nat} : pr sc orc 135 (F + 1) 0 [some (.inr (.inr 0))] [] M =
  q_cI (orc 129 [.inr (.inr 6), .inl (0), .inl (1)] GF M) GF (fun x2 M1 =>
  if x2 = 0 ∨ x2 = 1 then some (some (.inl (x2)), GF, M1) else none) := by
  rw [pr_st]; rfl
set_option maxRecDepth 20000 in
theorem sg_X11_row_0 {sc : List Int} {orc : q_O} {M : q_M} {F : Nat} {a1 : Int} : pr sc orc 136 (F + 1) 0 [some (.inr (.inr 0)), some (.inl (a1)), none, none, none] [] M =
  q_cI (orc 96 [.inr (.inr 1), .inl (a1)] GF M) GF (fun x2 M1 =>
  if 0 < x2 then
    q_cI (orc 127 [.inr (.inr 6)] GF M1) GF (fun x6 M5 =>
    if x2 = x6 then
      q_cI (orc 97 [.inr (.inr 1), .inl (a1)] GF M5) GF (fun x10 M9 =>
      if x10 < 10 then
        pr sc orc 136 F 50 [some (.inr (.inr 0)), some (.inl (a1)), none, some (.inl (1)), some (.inl (0))] [] M9
      else
        pr sc orc 136 F 50 [some (.inr (.inr 0)), some (.inl (a1)), none, some (.inl (1)), some (.inl (1))] [] M9)
    else
      q_cI (orc 97 [.inr (.inr 1), .inl (a1)] GF M5) GF (fun x8 M7 =>
      if x8 < 10 then
        pr sc orc 136 F 50 [some (.inr (.inr 0)), some (.inl (a1)), none, some (.inl (0)), some (.inl (0))] [] M7
      else
        pr sc orc 136 F 50 [some (.inr (.inr 0)), some (.inl (a1)), none, some (.inl (0)), some (.inl (1))] [] M7))
  else
    q_cI (orc 97 [.inr (.inr 1), .inl (a1)] GF M1) GF (fun x4 M3 =>
    if x4 < 10 then
      pr sc orc 136 F 50 [some (.inr (.inr 0)), some (.inl (a1)), none, some (.inl (0)), some (.inl (0))] [] M3
    else
      pr sc orc 136 F 50 [some (.inr (.inr 0)), some (.inl (a1)), none, some (.inl (0)), some (.inl (1))] [] M3)) := by
  rw [pr_st]; rfl
set_option maxRecDepth 20000 in
theorem sg_X11_row_50 {sc : List Int} {orc : q_O} {M : q_M} {F : Nat} {b1 b3 b4 : Int} : pr sc orc 136 (F + 1) 50 [some (.inr (.inr 0)), some (.inl (b1)), none, some (.inl (b3)), some (.inl (b4))] [] M =
  if b3 = 0 then
    q_c0 (orc 128 [.inr (.inr 6)] GF M) GF (fun M1 =>
    if b3 = 0 then
      pr sc orc 136 F 82 [none, none, none, none, none] [] M1
    else
      if b4 = 0 then
        q_cI (orc 97 [.inr (.inr 1), .inl (b1)] GF M1) GF (fun x3 M2 =>
        some (some (.inl (x3)), GF, M2))
      else
        pr sc orc 136 F 97 [none, none, none, none, none] [] M1)
  else
    if b4 = 0 then
      q_c0 (orc 99 [.inr (.inr 1), .inl (b1), .inr (.inr 6)] GF M) GF (fun M7 =>
      q_c0 (orc 128 [.inr (.inr 6)] GF M7) GF (fun M8 =>
      if b3 = 0 then
        pr sc orc 136 F 82 [none, none, none, none, none] [] M8
      else
        if b4 = 0 then
          q_cI (orc 97 [.inr (.inr 1), .inl (b1)] GF M8) GF (fun x10 M9 =>
          some (some (.inl (x10)), GF, M9))
        else
          pr sc orc 136 F 97 [none, none, none, none, none] [] M8))
    else
      q_c0 (orc 128 [.inr (.inr 6)] GF M) GF (fun M4 =>
      if b3 = 0 then
        pr sc orc 136 F 82 [none, none, none, none, none] [] M4
      else
        if b4 = 0 then
          q_cI (orc 97 [.inr (.inr 1), .inl (b1)] GF M4) GF (fun x6 M5 =>
          some (some (.inl (x6)), GF, M5))
        else
          pr sc orc 136 F 97 [none, none, none, none, none] [] M4) := by
  rw [pr_st]; rfl
set_option maxRecDepth 20000 in
theorem sg_X11_drop_0 {sc : List Int} {orc : q_O} {M : q_M} {F : Nat} {a1 : Int} : pr sc orc 137 (F + 1) 0 [some (.inr (.inr 0)), some (.inl (a1))] [] M =
  q_cI (orc 100 [.inr (.inr 1), .inl (a1)] GF M) GF (fun x2 M1 =>
  some (some (.inl (x2)), GF, M1)) := by
  rw [pr_st]; rfl
set_option maxRecDepth 20000 in
theorem sg_X11_ask_0 {sc : List Int} {orc : q_O} {M : q_M} {F : Nat} {a1 : Int} : pr sc orc 138 (F + 1) 0 [some (.inr (.inr 0)), some (.inl (a1))] [] M =
  q_cI (orc 105 [.inr (.inr 9), .inl (a1)] GF M) GF (fun x2 M1 =>
  if x2 = 0 ∨ x2 = 1 then some (some (.inl (x2)), GF, M1) else none) := by
  rw [pr_st]; rfl
set_option maxRecDepth 20000 in
theorem sg_X11_compile_0 {sc : List Int} {orc : q_O} {M : q_M} {F : Nat} : pr sc orc 139 (F + 1) 0 [some (.inr (.inr 0))] [] M =
  q_c0 (orc 107 [.inr (.inr 9), .inr (.inr 11)] GF M) GF (fun M1 =>
  q_c0 (orc 106 [.inr (.inr 9)] GF M1) GF (fun M2 =>
  q_c0 (orc 1 [.inr (.inr 43), .inl (0)] GF M2) GF (fun M3 =>
  q_cI (orc 43 [.inr (.inr 41)] GF M3) GF (fun x5 M4 =>
  if x5 = 0 then
    q_cI (orc 122 [.inr (.inr 11)] GF M4) GF (fun x7 M6 =>
    if x7 = (-1) then
      if 1 = 0 then
        pr sc orc 139 F 81 [none] [] (q_up (q_up M6 0 10 x7) 0 9 1)
      else
        q_c0 (orc 61 [.inr (.inr 15)] GF (q_up (q_up M6 0 10 x7) 0 9 1)) GF (fun M11 =>
        q_cI (orc 67 [.inr (.inr 15)] GF M11) GF (fun x13 M12 =>
        some (some (.inl (x13)), GF, M12)))
    else
      if 0 = 0 then
        pr sc orc 139 F 81 [none] [] (q_up (q_up M6 0 10 x7) 0 9 0)
      else
        q_c0 (orc 61 [.inr (.inr 15)] GF (q_up (q_up M6 0 10 x7) 0 9 0)) GF (fun M8 =>
        q_cI (orc 67 [.inr (.inr 15)] GF M8) GF (fun x10 M9 =>
        some (some (.inl (x10)), GF, M9))))
  else
    q_cI (orc 9 [.inr (.inr 42)] GF M4) GF (fun x15 M14 =>
    if x15 = (-1) then
      if 1 = 0 then
        pr sc orc 139 F 81 [none] [] (q_up (q_up M14 0 10 x15) 0 9 1)
      else
        q_c0 (orc 61 [.inr (.inr 15)] GF (q_up (q_up M14 0 10 x15) 0 9 1)) GF (fun M19 =>
        q_cI (orc 67 [.inr (.inr 15)] GF M19) GF (fun x21 M20 =>
        some (some (.inl (x21)), GF, M20)))
    else
      if 0 = 0 then
        pr sc orc 139 F 81 [none] [] (q_up (q_up M14 0 10 x15) 0 9 0)
      else
        q_c0 (orc 61 [.inr (.inr 15)] GF (q_up (q_up M14 0 10 x15) 0 9 0)) GF (fun M16 =>
        q_cI (orc 67 [.inr (.inr 15)] GF M16) GF (fun x18 M17 =>
        some (some (.inl (x18)), GF, M17)))))))) := by
  rw [pr_st]; rfl
set_option maxRecDepth 20000 in
theorem sg_X11_place_0 {sc : List Int} {orc : q_O} {M : q_M} {F : Nat} : pr sc orc 140 (F + 1) 0 [some (.inr (.inr 0))] [] M =
  some (some (.inl (M 0 10)), GF, M) := by
  rw [pr_st]; rfl
set_option maxRecDepth 20000 in
theorem sg_X11_run_0 {sc : List Int} {orc : q_O} {M : q_M} {F : Nat} : pr sc orc 141 (F + 1) 0 [some (.inr (.inr 0))] [] M =
  if (M 0 9) = 0 then
    pr sc orc 141 F 7 [none] [] M
  else
    q_cI (orc 16 [.inr (.inr 46)] GF M) GF (fun x2 M1 =>
    if x2 = 0 then
      q_c0 (orc 1 [.inr (.inr 43), .inl (0)] GF M1) GF (fun M5 =>
      pr sc orc 141 F 35 [none] [] M5)
    else
      q_cI (orc 2 [.inr (.inr 43)] GF M1) GF (fun x4 M3 =>
      some (some (.inl (x4)), GF, M3))) := by
  rw [pr_st]; rfl
set_option maxRecDepth 20000 in
theorem sg_X11_looked_0 {sc : List Int} {orc : q_O} {M : q_M} {F : Nat} : pr sc orc 142 (F + 1) 0 [some (.inr (.inr 0))] [] M =
  q_cI (orc 15 [.inr (.inr 46)] GF M) GF (fun x2 M1 =>
  some (some (.inl (x2)), GF, M1)) := by
  rw [pr_st]; rfl
set_option maxRecDepth 20000 in
theorem sg_X11_rows_0 {sc : List Int} {orc : q_O} {M : q_M} {F : Nat} : pr sc orc 143 (F + 1) 0 [some (.inr (.inr 0))] [] M =
  q_cI (orc 2 [.inr (.inr 43)] GF M) GF (fun x2 M1 =>
  some (some (.inl (x2)), GF, M1)) := by
  rw [pr_st]; rfl
set_option maxRecDepth 20000 in
theorem sg_X11_isNull_0 {sc : List Int} {orc : q_O} {M : q_M} {F : Nat} {a1 a2 : Int} : pr sc orc 144 (F + 1) 0 [some (.inr (.inr 0)), some (.inl (a1)), some (.inl (a2))] [] M =
  q_cI (orc 4 [.inr (.inr 43), .inl (a1), .inl (a2)] GF M) GF (fun x2 M1 =>
  if x2 = 0 then
    some (some (.inl (0)), GF, M1)
  else
    q_cI (orc 5 [.inr (.inr 43), .inl (a1), .inl (a2)] GF M1) GF (fun x4 M3 =>
    if x4 = 0 then
      some (some (.inl (0)), GF, M3)
    else
      some (some (.inl (1)), GF, M3))) := by
  rw [pr_st]; rfl
set_option maxRecDepth 20000 in
theorem sg_X11_result_0 {sc : List Int} {orc : q_O} {M : q_M} {F : Nat} {a1 a2 : Int} : pr sc orc 145 (F + 1) 0 [some (.inr (.inr 0)), some (.inl (a1)), some (.inl (a2))] [] M =
  q_cI (orc 4 [.inr (.inr 43), .inl (a1), .inl (a2)] GF M) GF (fun x2 M1 =>
  if x2 = 0 then
    some (some (.inr (.inl (0))), GF, M1)
  else
    q_cL (orc 6 [.inr (.inr 43), .inl (a1), .inl (a2)] GF M1) GF (fun x4 M3 =>
    some (some (.inr (.inl (x4))), GF, M3))) := by
  rw [pr_st]; rfl
set_option maxRecDepth 20000 in
theorem sg_X12_thrown_0 {sc : List Int} {orc : q_O} {M : q_M} {F : Nat} : pr sc orc 148 (F + 1) 0 [some (.inr (.inr 49))] [] M =
  some (some (.inl (M 49 1)), GF, M) := by
  rw [pr_st]; rfl
set_option maxRecDepth 20000 in
theorem sg_X12_fail_0 {sc : List Int} {orc : q_O} {M : q_M} {F : Nat} {a1 : Int} : pr sc orc 149 (F + 1) 0 [some (.inr (.inr 49)), some (.inl (a1))] [] M =
  some (some (.inl (0)), GF, (q_up M 49 1 a1)) := by
  rw [pr_st]; rfl
set_option maxRecDepth 20000 in
theorem sg_X12_isTable_0 {sc : List Int} {orc : q_O} {M : q_M} {F : Nat} {a1 : Int} : pr sc orc 150 (F + 1) 0 [some (.inr (.inr 49)), some (.inl (a1))] [] M =
  if a1 < 0 then
    some (some (.inl (0)), GF, M)
  else
    if a1 < 3 then
      if 0 ≤ a1 ∧ a1 < ((3 : Nat) : Int) then
      if 0 < (M 51 (a1 : Int).toNat) then
        some (some (.inl (1)), GF, M)
      else
        some (some (.inl (0)), GF, M)
      else none
    else
      some (some (.inl (0)), GF, M) := by
  rw [pr_st]; rfl
set_option maxRecDepth 20000 in
theorem sg_X12_declare_0 {sc : List Int} {orc : q_O} {M : q_M} {F : Nat} {a1 a2 : Int} : pr sc orc 151 (F + 1) 0 [some (.inr (.inr 49)), some (.inl (a1)), some (.inl (a2)), none] [] M =
  if a1 < 0 then
    some (some (.inl (0)), GF, (q_up M 49 1 0))
  else
    if 2 < a1 then
      some (some (.inl (0)), GF, (q_up M 49 1 0))
    else
      if a2 < 1 then
        some (some (.inl (0)), GF, (q_up M 49 1 0))
      else
        if 4 < a2 then
          some (some (.inl (0)), GF, (q_up M 49 1 0))
        else
          if 0 ≤ a1 ∧ a1 < ((3 : Nat) : Int) then
          if 0 ≤ a1 ∧ a1 < ((3 : Nat) : Int) then
          pr sc orc 151 F 42 [some (.inr (.inr 49)), some (.inl (a1)), none, some (.inl (0))] [] (q_up (q_up (q_up M 49 1 0) 51 ((a1 : Int).toNat) a2) 52 ((a1 : Int).toNat) 0)
          else none
          else none := by
  rw [pr_st]; rfl
set_option maxRecDepth 20000 in
theorem sg_X12_declare_42 {sc : List Int} {orc : q_O} {M : q_M} {F : Nat} {b1 b3 : Int} : pr sc orc 151 (F + 1) 42 [some (.inr (.inr 49)), some (.inl (b1)), none, some (.inl (b3))] [] M =
  if b3 < (M 49 26) then
    if 0 ≤ b3 ∧ b3 < ((4 : Nat) : Int) then
    if (M 64 (b3 : Int).toNat) = b1 then
      pr sc orc 151 F 42 [some (.inr (.inr 49)), some (.inl (b1)), none, some (.inl (q_w (b3 + (1))))] [] (q_up M 49 22 0)
    else
      pr sc orc 151 F 42 [some (.inr (.inr 49)), some (.inl (b1)), none, some (.inl (q_w (b3 + (1))))] [] M
    else none
  else
    some (some (.inl (1)), GF, M) := by
  rw [pr_st]; rfl
set_option maxRecDepth 20000 in
theorem sg_X12_put_0 {sc : List Int} {orc : q_O} {M : q_M} {F : Nat} {a1 a2 : Int} : pr sc orc 152 (F + 1) 0 [some (.inr (.inr 49)), some (.inl (a1)), some (.inl (a2))] [] M =
  if (M 49 6) = 4 then
    some (some (.inl (0)), GF, M)
  else
    if 0 ≤ M 49 6 ∧ M 49 6 < ((4 : Nat) : Int) then
    if 0 ≤ M 49 6 ∧ M 49 6 < ((4 : Nat) : Int) then
    if (1 : Nat) = 0 ∨ ((1 : Nat) = 1 ∧ (a2 = 0 ∨ a2 = 1)) ∨ ((1 : Nat) = 2 ∧ 0 ≤ a2 ∧ a2 < 65536) then
    some (some (.inl (1)), GF, (q_up (q_up (q_up M 55 ((M 49 6 : Int).toNat) a1) 56 ((M 49 6 : Int).toNat) a2) 49 6 (q_w (M 49 6 + 1))))
    else none
    else none
    else none := by
  rw [pr_st]; rfl
set_option maxRecDepth 20000 in
theorem sg_X12_value_0 {sc : List Int} {orc : q_O} {M : q_M} {F : Nat} {a1 : Int} : pr sc orc 153 (F + 1) 0 [some (.inr (.inr 49)), some (.inl (a1))] [] M =
  q_cI (orc 152 [.inr (.inr 49), .inl (a1), .inl (0)] GF (q_up M 49 1 0)) GF (fun x2 M1 =>
  if x2 = 0 ∨ x2 = 1 then some (some (.inl (x2)), GF, M1) else none) := by
  rw [pr_st]; rfl
set_option maxRecDepth 20000 in
theorem sg_X12_nothing_0 {sc : List Int} {orc : q_O} {M : q_M} {F : Nat} : pr sc orc 154 (F + 1) 0 [some (.inr (.inr 49))] [] M =
  q_cI (orc 152 [.inr (.inr 49), .inl (0), .inl (1)] GF (q_up M 49 1 0)) GF (fun x2 M1 =>
  if x2 = 0 ∨ x2 = 1 then some (some (.inl (x2)), GF, M1) else none) := by
  rw [pr_st]; rfl
set_option maxRecDepth 20000 in
theorem sg_X12_row_0 {sc : List Int} {orc : q_O} {M : q_M} {F : Nat} {a1 : Int} : pr sc orc 155 (F + 1) 0 [some (.inr (.inr 49)), some (.inl (a1)), none, none] [] M =
  q_cI (orc 150 [.inr (.inr 49), .inl (a1)] GF (q_up (q_up M 49 1 0) 49 6 0)) GF (fun x2 M1 =>
  if x2 = 0 then
    q_cI (orc 149 [.inr (.inr 49), .inl (1)] GF M1) GF (fun x8 M7 =>
    some (some (.inl (x8)), GF, M7))
  else
    if 0 ≤ a1 ∧ a1 < ((3 : Nat) : Int) then
    if (M1 51 (a1 : Int).toNat) = (M 49 6) then
      if 0 ≤ a1 ∧ a1 < ((3 : Nat) : Int) then
      if (M1 52 (a1 : Int).toNat) = 10 then
        q_cI (orc 149 [.inr (.inr 49), .inl (2)] GF M1) GF (fun x4 M3 =>
        some (some (.inl (x4)), GF, M3))
      else
        pr sc orc 155 F 64 [some (.inr (.inr 49)), some (.inl (a1)), some (.inl (M 49 6)), some (.inl (0))] [] M1
      else none
    else
      q_cI (orc 149 [.inr (.inr 49), .inl (1)] GF M1) GF (fun x6 M5 =>
      some (some (.inl (x6)), GF, M5))
    else none) := by
  rw [pr_st]; rfl
set_option maxRecDepth 20000 in
theorem sg_X12_row_64 {sc : List Int} {orc : q_O} {M : q_M} {F : Nat} {b1 b2 b3 : Int} : pr sc orc 155 (F + 1) 64 [some (.inr (.inr 49)), some (.inl (b1)), some (.inl (b2)), some (.inl (b3))] [] M =
  if b3 < b2 then
    if 0 ≤ b1 ∧ b1 < ((3 : Nat) : Int) then
    if 0 ≤ b3 ∧ b3 < ((4 : Nat) : Int) then
    if 0 ≤ q_w (q_w (q_w (40 * b1) + (q_w (4 * (M 52 (b1 : Int).toNat)))) + b3) ∧ q_w (q_w (q_w (40 * b1) + (q_w (4 * (M 52 (b1 : Int).toNat)))) + b3) < ((120 : Nat) : Int) then
    if 0 ≤ b1 ∧ b1 < ((3 : Nat) : Int) then
    if 0 ≤ b3 ∧ b3 < ((4 : Nat) : Int) then
    if 0 ≤ q_w (q_w (q_w (40 * b1) + (q_w (4 * (M 52 (b1 : Int).toNat)))) + b3) ∧ q_w (q_w (q_w (40 * b1) + (q_w (4 * (M 52 (b1 : Int).toNat)))) + b3) < ((120 : Nat) : Int) then
    if (1 : Nat) = 0 ∨ ((1 : Nat) = 1 ∧ ((M 56 (b3 : Int).toNat) = 0 ∨ (M 56 (b3 : Int).toNat) = 1)) ∨ ((1 : Nat) = 2 ∧ 0 ≤ M 56 (b3 : Int).toNat ∧ M 56 (b3 : Int).toNat < 65536) then
    pr sc orc 155 F 64 [some (.inr (.inr 49)), some (.inl (b1)), some (.inl (b2)), some (.inl (q_w (b3 + (1))))] [] (q_up (q_up M 53 ((q_w (q_w (q_w (40 * b1) + (q_w (4 * (M 52 (b1 : Int).toNat)))) + b3) : Int).toNat) (M 55 (b3 : Int).toNat)) 54 ((q_w (q_w (q_w (40 * b1) + (q_w (4 * (M 52 (b1 : Int).toNat)))) + b3) : Int).toNat) (M 56 (b3 : Int).toNat))
    else none
    else none
    else none
    else none
    else none
    else none
    else none
  else
    if 0 ≤ b1 ∧ b1 < ((3 : Nat) : Int) then
    if 0 ≤ b1 ∧ b1 < ((3 : Nat) : Int) then
    if 0 ≤ b1 ∧ b1 < ((3 : Nat) : Int) then
    some (some (.inl ((q_up M 52 ((b1 : Int).toNat) (q_w (M 52 (b1 : Int).toNat + 1))) 52 (b1 : Int).toNat)), GF, (q_up M 52 ((b1 : Int).toNat) (q_w (M 52 (b1 : Int).toNat + 1))))
    else none
    else none
    else none := by
  rw [pr_st]; rfl
set_option maxRecDepth 20000 in
theorem sg_X12_drop_0 {sc : List Int} {orc : q_O} {M : q_M} {F : Nat} {a1 : Int} : pr sc orc 156 (F + 1) 0 [some (.inr (.inr 49)), some (.inl (a1)), none] [] M =
  q_cI (orc 150 [.inr (.inr 49), .inl (a1)] GF (q_up M 49 1 0)) GF (fun x2 M1 =>
  if x2 = 0 then
    some (some (.inl ((-1))), GF, M1)
  else
    if 0 ≤ a1 ∧ a1 < ((3 : Nat) : Int) then
    if (M1 52 (a1 : Int).toNat) = 0 then
      some (some (.inl ((-1))), GF, M1)
    else
      if 0 ≤ a1 ∧ a1 < ((3 : Nat) : Int) then
      if 0 ≤ a1 ∧ a1 < ((3 : Nat) : Int) then
      pr sc orc 156 F 41 [some (.inr (.inr 49)), some (.inl (a1)), some (.inl (q_w (40 * a1)))] [] (q_up M1 52 ((a1 : Int).toNat) (q_w (M1 52 (a1 : Int).toNat - 1)))
      else none
      else none
    else none) := by
  rw [pr_st]; rfl
set_option maxRecDepth 20000 in
theorem sg_X12_drop_41 {sc : List Int} {orc : q_O} {M : q_M} {F : Nat} {b1 b2 : Int} : pr sc orc 156 (F + 1) 41 [some (.inr (.inr 49)), some (.inl (b1)), some (.inl (b2))] [] M =
  if 0 ≤ b1 ∧ b1 < ((3 : Nat) : Int) then
  if b2 < (q_w (q_w (40 * b1) + (q_w (4 * (M 52 (b1 : Int).toNat))))) then
    if 0 ≤ q_w (b2 + 4) ∧ q_w (b2 + 4) < ((120 : Nat) : Int) then
    if 0 ≤ b2 ∧ b2 < ((120 : Nat) : Int) then
    if 0 ≤ q_w (b2 + 4) ∧ q_w (b2 + 4) < ((120 : Nat) : Int) then
    if 0 ≤ b2 ∧ b2 < ((120 : Nat) : Int) then
    if (1 : Nat) = 0 ∨ ((1 : Nat) = 1 ∧ ((M 54 (q_w (b2 + 4) : Int).toNat) = 0 ∨ (M 54 (q_w (b2 + 4) : Int).toNat) = 1)) ∨ ((1 : Nat) = 2 ∧ 0 ≤ M 54 (q_w (b2 + 4) : Int).toNat ∧ M 54 (q_w (b2 + 4) : Int).toNat < 65536) then
    pr sc orc 156 F 41 [some (.inr (.inr 49)), some (.inl (b1)), some (.inl (q_w (b2 + (1))))] [] (q_up (q_up M 53 ((b2 : Int).toNat) (M 53 (q_w (b2 + 4) : Int).toNat)) 54 ((b2 : Int).toNat) (M 54 (q_w (b2 + 4) : Int).toNat))
    else none
    else none
    else none
    else none
    else none
  else
    if 0 ≤ b1 ∧ b1 < ((3 : Nat) : Int) then
    some (some (.inl (M 52 (b1 : Int).toNat)), GF, M)
    else none
  else none := by
  rw [pr_st]; rfl
set_option maxRecDepth 20000 in
theorem sg_X12_ask_0 {sc : List Int} {orc : q_O} {M : q_M} {F : Nat} {a1 : Int} : pr sc orc 157 (F + 1) 0 [some (.inr (.inr 49)), some (.inl (a1))] [] M =
  if a1 < 32 then
    some (some (.inl (0)), GF, (q_up M 49 1 0))
  else
    if 126 < a1 then
      some (some (.inl (0)), GF, (q_up M 49 1 0))
    else
      if (M 49 9) = 130 then
        some (some (.inl (0)), GF, (q_up M 49 1 0))
      else
        if 0 ≤ M 49 9 ∧ M 49 9 < ((130 : Nat) : Int) then
        if (2 : Nat) = 0 ∨ ((2 : Nat) = 1 ∧ (a1 = 0 ∨ a1 = 1)) ∨ ((2 : Nat) = 2 ∧ 0 ≤ a1 ∧ a1 < 65536) then
        some (some (.inl (1)), GF, (q_up (q_up (q_up M 49 1 0) 57 ((M 49 9 : Int).toNat) a1) 49 9 (q_w (M 49 9 + 1))))
        else none
        else none := by
  rw [pr_st]; rfl
set_option maxRecDepth 20000 in
theorem sg_X12_at_0 {sc : List Int} {orc : q_O} {M : q_M} {F : Nat} {a1 : Int} : pr sc orc 158 (F + 1) 0 [some (.inr (.inr 49)), some (.inl (a1))] [] M =
  if a1 < (M 49 9) then
    if 0 ≤ a1 ∧ a1 < ((130 : Nat) : Int) then
    if 0 ≤ M 57 (a1 : Int).toNat ∧ M 57 (a1 : Int).toNat < 65536 then some (some (.inl (M 57 (a1 : Int).toNat)), GF, M) else none
    else none
  else
    if 0 ≤ 0 ∧ 0 < 65536 then some (some (.inl (0)), GF, M) else none := by
  rw [pr_st]; rfl
set_option maxRecDepth 20000 in
theorem sg_X12_isSmall_0 {sc : List Int} {orc : q_O} {M : q_M} {F : Nat} {a1 : Int} : pr sc orc 159 (F + 1) 0 [some (.inl (a1))] [] M =
  if a1 < 97 then
    some (some (.inl (0)), GF, M)
  else
    if 122 < a1 then
      some (some (.inl (0)), GF, M)
    else
      some (some (.inl (1)), GF, M) := by
  rw [pr_st]; rfl
set_option maxRecDepth 20000 in
theorem sg_X12_isDigit_0 {sc : List Int} {orc : q_O} {M : q_M} {F : Nat} {a1 : Int} : pr sc orc 160 (F + 1) 0 [some (.inl (a1))] [] M =
  if a1 < 48 then
    some (some (.inl (0)), GF, M)
  else
    if 57 < a1 then
      some (some (.inl (0)), GF, M)
    else
      some (some (.inl (1)), GF, M) := by
  rw [pr_st]; rfl
set_option maxRecDepth 20000 in
theorem sg_X12_stop_0 {sc : List Int} {orc : q_O} {M : q_M} {F : Nat} {a1 : Int} : pr sc orc 161 (F + 1) 0 [some (.inr (.inr 49)), some (.inl (a1))] [] M =
  if (M 49 12) = 0 then
    some (none, GF, (q_up (q_up M 49 13 a1) 49 12 1))
  else
    some (none, GF, (q_up M 49 12 1)) := by
  rw [pr_st]; rfl
set_option maxRecDepth 20000 in
theorem sg_X12_readWord_0 {sc : List Int} {orc : q_O} {M : q_M} {F : Nat} : pr sc orc 162 (F + 1) 0 [some (.inr (.inr 49)), none, none, none] [] M =
  pr sc orc 162 F 4 [some (.inr (.inr 49)), some (.inl (0)), some (.inl (0)), none] [] M := by
  rw [pr_st]; rfl
set_option maxRecDepth 20000 in
theorem sg_X12_readWord_4 {sc : List Int} {orc : q_O} {M : q_M} {F : Nat} {b1 b2 : Int} : pr sc orc 162 (F + 1) 4 [some (.inr (.inr 49)), some (.inl (b1)), some (.inl (b2)), none] [] M =
  q_cI (orc 158 [.inr (.inr 49), .inl (M 49 14)] GF M) GF (fun x2 M1 =>
  q_cI (orc 159 [.inl (x2)] GF M1) GF (fun x4 M3 =>
  if x4 = 0 then
    if b1 = 1 then
      if b2 < 23 then
        if b1 = 1 then
          if 4 < b2 then
            pr sc orc 162 F 101 [some (.inr (.inr 49)), some (.inl (b1)), some (.inl (b2)), some (.inl (0))] [] M3
          else
            some (some (.inl (q_w (q_w (230 + b2) - 1))), GF, M3)
        else
          pr sc orc 162 F 101 [some (.inr (.inr 49)), some (.inl (b1)), some (.inl (b2)), some (.inl (0))] [] M3
      else
        some (some (.inl (q_w (q_w (220 + b2) - 23))), GF, M3)
    else
      if b1 = 1 then
        if 4 < b2 then
          pr sc orc 162 F 101 [some (.inr (.inr 49)), some (.inl (b1)), some (.inl (b2)), some (.inl (0))] [] M3
        else
          some (some (.inl (q_w (q_w (230 + b2) - 1))), GF, M3)
      else
        pr sc orc 162 F 101 [some (.inr (.inr 49)), some (.inl (b1)), some (.inl (b2)), some (.inl (0))] [] M3
  else
    if b1 < 6 then
      q_cI (orc 158 [.inr (.inr 49), .inl (M3 49 14)] GF M3) GF (fun x6 M5 =>
      pr sc orc 162 F 4 [some (.inr (.inr 49)), some (.inl (q_w (b1 + (1)))), some (.inl (q_w (q_w (q_w (b2 * 32) + x6) - 96))), none] [] (q_up M5 49 14 (q_w (M5 49 14 + 1))))
    else
      pr sc orc 162 F 4 [some (.inr (.inr 49)), some (.inl (q_w (b1 + (1)))), some (.inl (0)), none] [] (q_up M3 49 14 (q_w (M3 49 14 + 1))))) := by
  rw [pr_st]; rfl
set_option maxRecDepth 20000 in
theorem sg_X12_readWord_101 {sc : List Int} {orc : q_O} {M : q_M} {F : Nat} {b1 b2 b3 : Int} : pr sc orc 162 (F + 1) 101 [some (.inr (.inr 49)), some (.inl (b1)), some (.inl (b2)), some (.inl (b3))] [] M =
  if b3 < 16 then
    if b1 < 7 then
      if 0 ≤ b3 ∧ b3 < ((16 : Nat) : Int) then
      if (M 50 (b3 : Int).toNat) = b2 then
        some (some (.inl (q_w (200 + b3))), GF, M)
      else
        pr sc orc 162 F 101 [some (.inr (.inr 49)), some (.inl (b1)), some (.inl (b2)), some (.inl (q_w (b3 + (1))))] [] M
      else none
    else
      pr sc orc 162 F 101 [some (.inr (.inr 49)), some (.inl (b1)), some (.inl (b2)), some (.inl (q_w (b3 + (1))))] [] M
  else
    some (some (.inl (240)), GF, M) := by
  rw [pr_st]; rfl
set_option maxRecDepth 20000 in
theorem sg_X12_readNumeral_0 {sc : List Int} {orc : q_O} {M : q_M} {F : Nat} {a1 : Int} : pr sc orc 163 (F + 1) 0 [some (.inr (.inr 49)), some (.inl (a1)), none, none, none] [] M =
  q_cI (orc 158 [.inr (.inr 49), .inl (M 49 14)] GF M) GF (fun x2 M1 =>
  if x2 = 45 then
    if 1 = 0 then
      pr sc orc 163 F 38 [some (.inr (.inr 49)), some (.inl (a1)), some (.inl (1)), some (.inl (0)), some (.inl (0))] [] M1
    else
      pr sc orc 163 F 38 [some (.inr (.inr 49)), some (.inl (a1)), some (.inl (1)), some (.inl (0)), some (.inl (0))] [] (q_up M1 49 14 (q_w (M1 49 14 + 1)))
  else
    if 0 = 0 then
      pr sc orc 163 F 38 [some (.inr (.inr 49)), some (.inl (a1)), some (.inl (0)), some (.inl (0)), some (.inl (0))] [] M1
    else
      pr sc orc 163 F 38 [some (.inr (.inr 49)), some (.inl (a1)), some (.inl (0)), some (.inl (0)), some (.inl (0))] [] (q_up M1 49 14 (q_w (M1 49 14 + 1)))) := by
  rw [pr_st]; rfl
set_option maxRecDepth 20000 in
theorem sg_X12_readNumeral_38 {sc : List Int} {orc : q_O} {M : q_M} {F : Nat} {b1 b2 b3 b4 : Int} : pr sc orc 163 (F + 1) 38 [some (.inr (.inr 49)), some (.inl (b1)), some (.inl (b2)), some (.inl (b3)), some (.inl (b4))] [] M =
  q_cI (orc 158 [.inr (.inr 49), .inl (M 49 14)] GF M) GF (fun x2 M1 =>
  q_cI (orc 160 [.inl (x2)] GF M1) GF (fun x4 M3 =>
  if x4 = 0 then
    if b4 = 0 then
      q_c0 (orc 161 [.inr (.inr 49), .inl (b1)] GF M3) GF (fun M5 =>
      if b2 = 0 then
        if 0 ≤ M5 49 15 ∧ M5 49 15 < ((132 : Nat) : Int) then
        some (some (.inl (1)), GF, (q_up M5 60 ((M5 49 15 : Int).toNat) b3))
        else none
      else
        if 0 ≤ M5 49 15 ∧ M5 49 15 < ((132 : Nat) : Int) then
        some (some (.inl (1)), GF, (q_up M5 60 ((M5 49 15 : Int).toNat) (q_w (-b3))))
        else none)
    else
      if 6 < b4 then
        q_c0 (orc 161 [.inr (.inr 49), .inl (b1)] GF M3) GF (fun M6 =>
        if b2 = 0 then
          if 0 ≤ M6 49 15 ∧ M6 49 15 < ((132 : Nat) : Int) then
          some (some (.inl (1)), GF, (q_up M6 60 ((M6 49 15 : Int).toNat) b3))
          else none
        else
          if 0 ≤ M6 49 15 ∧ M6 49 15 < ((132 : Nat) : Int) then
          some (some (.inl (1)), GF, (q_up M6 60 ((M6 49 15 : Int).toNat) (q_w (-b3))))
          else none)
      else
        if b2 = 0 then
          if 0 ≤ M3 49 15 ∧ M3 49 15 < ((132 : Nat) : Int) then
          some (some (.inl (1)), GF, (q_up M3 60 ((M3 49 15 : Int).toNat) b3))
          else none
        else
          if 0 ≤ M3 49 15 ∧ M3 49 15 < ((132 : Nat) : Int) then
          some (some (.inl (1)), GF, (q_up M3 60 ((M3 49 15 : Int).toNat) (q_w (-b3))))
          else none
  else
    if b4 < 6 then
      q_cI (orc 158 [.inr (.inr 49), .inl (M3 49 14)] GF M3) GF (fun x8 M7 =>
      pr sc orc 163 F 38 [some (.inr (.inr 49)), some (.inl (b1)), some (.inl (b2)), some (.inl (q_w (q_w (q_w (10 * b3) + x8) - 48))), some (.inl (q_w (b4 + (1))))] [] (q_up M7 49 14 (q_w (M7 49 14 + 1))))
    else
      pr sc orc 163 F 38 [some (.inr (.inr 49)), some (.inl (b1)), some (.inl (b2)), some (.inl (b3)), some (.inl (q_w (b4 + (1))))] [] (q_up M3 49 14 (q_w (M3 49 14 + 1))))) := by
  rw [pr_st]; rfl
end
section
set_option maxRecDepth 20000 in
theorem sg_X12_look_0 {sc : List Int} {orc : q_O} {M : q_M} {F : Nat} : pr sc orc 164 (F + 1) 0 [some (.inr (.inr 49)), none, none] [] M =
  if (M 49 16) < (M 49 15) then
    if (M 49 16) < (M 49 15) then
      if 0 ≤ M 49 16 ∧ M 49 16 < ((132 : Nat) : Int) then
      some (some (.inl (M 58 (M 49 16 : Int).toNat)), GF, M)
      else none
    else
      some (some (.inl (0)), GF, M)
  else
    if (M 49 12) = 0 then
      pr sc orc 164 F 43 [some (.inr (.inr 49)), none, none] [] M
    else
      if (M 49 16) < (M 49 15) then
        if 0 ≤ M 49 16 ∧ M 49 16 < ((132 : Nat) : Int) then
        some (some (.inl (M 58 (M 49 16 : Int).toNat)), GF, M)
        else none
      else
        some (some (.inl (0)), GF, M) := by
  rw [pr_st]; rfl
set_option maxRecDepth 20000 in
theorem sg_X12_look_43 {sc : List Int} {orc : q_O} {M : q_M} {F : Nat} : pr sc orc 164 (F + 1) 43 [some (.inr (.inr 49)), none, none] [] M =
  q_cI (orc 158 [.inr (.inr 49), .inl (M 49 14)] GF M) GF (fun x2 M1 =>
  if x2 = 32 then
    pr sc orc 164 F 43 [some (.inr (.inr 49)), none, none] [] (q_up M1 49 14 (q_w (M1 49 14 + 1)))
  else
    if 0 ≤ M1 49 15 ∧ M1 49 15 < ((132 : Nat) : Int) then
    q_cI (orc 158 [.inr (.inr 49), .inl (M1 49 14)] GF (q_up M1 59 ((M1 49 15 : Int).toNat) (M1 49 14))) GF (fun x4 M3 =>
    if x4 = 40 then
      pr sc orc 164 F 139 [some (.inr (.inr 49)), some (.inl (x4)), some (.inl (1))] [] M3
    else
      if x4 = 41 then
        pr sc orc 164 F 139 [some (.inr (.inr 49)), some (.inl (x4)), some (.inl (1))] [] M3
      else
        if x4 = 44 then
          pr sc orc 164 F 139 [some (.inr (.inr 49)), some (.inl (x4)), some (.inl (1))] [] M3
        else
          if x4 = 46 then
            pr sc orc 164 F 139 [some (.inr (.inr 49)), some (.inl (x4)), some (.inl (1))] [] M3
          else
            if x4 = 61 then
              pr sc orc 164 F 139 [some (.inr (.inr 49)), some (.inl (x4)), some (.inl (1))] [] M3
            else
              if x4 = 60 then
                pr sc orc 164 F 139 [some (.inr (.inr 49)), some (.inl (x4)), some (.inl (1))] [] M3
              else
                if x4 = 62 then
                  pr sc orc 164 F 139 [some (.inr (.inr 49)), some (.inl (x4)), some (.inl (1))] [] M3
                else
                  pr sc orc 164 F 139 [some (.inr (.inr 49)), some (.inl (x4)), some (.inl (0))] [] M3)
    else none) := by
  rw [pr_st]; rfl
set_option maxRecDepth 20000 in
theorem sg_X12_look_139 {sc : List Int} {orc : q_O} {M : q_M} {F : Nat} {b1 b2 : Int} : pr sc orc 164 (F + 1) 139 [some (.inr (.inr 49)), some (.inl (b1)), some (.inl (b2))] [] M =
  if b1 = 0 then
    if 0 ≤ M 49 15 ∧ M 49 15 < ((132 : Nat) : Int) then
    pr sc orc 164 F 259 [some (.inr (.inr 49)), none, none] [] (q_up M 58 ((M 49 15 : Int).toNat) 0)
    else none
  else
    q_cI (orc 159 [.inl (b1)] GF M) GF (fun x2 M1 =>
    if x2 = 0 then
      if b1 = 45 then
        q_cI (orc 163 [.inr (.inr 49), .inl (M1 49 14)] GF M1) GF (fun x4 M3 =>
        if 0 ≤ M1 49 15 ∧ M1 49 15 < ((132 : Nat) : Int) then
        pr sc orc 164 F 259 [some (.inr (.inr 49)), none, none] [] (q_up M3 58 ((M1 49 15 : Int).toNat) x4)
        else none)
      else
        q_cI (orc 160 [.inl (b1)] GF M1) GF (fun x6 M5 =>
        if x6 = 0 then
          if b2 = 0 then
            if b1 < 65 then
              q_c0 (orc 161 [.inr (.inr 49), .inl (M5 49 14)] GF M5) GF (fun M7 =>
              pr sc orc 164 F 259 [some (.inr (.inr 49)), none, none] [] M7)
            else
              if 90 < b1 then
                q_c0 (orc 161 [.inr (.inr 49), .inl (M5 49 14)] GF M5) GF (fun M8 =>
                pr sc orc 164 F 259 [some (.inr (.inr 49)), none, none] [] M8)
              else
                if 0 ≤ M5 49 15 ∧ M5 49 15 < ((132 : Nat) : Int) then
                pr sc orc 164 F 259 [some (.inr (.inr 49)), none, none] [] (q_up (q_up M5 58 ((M5 49 15 : Int).toNat) b1) 49 14 (q_w (M5 49 14 + 1)))
                else none
          else
            if 0 ≤ M5 49 15 ∧ M5 49 15 < ((132 : Nat) : Int) then
            pr sc orc 164 F 259 [some (.inr (.inr 49)), none, none] [] (q_up (q_up M5 58 ((M5 49 15 : Int).toNat) b1) 49 14 (q_w (M5 49 14 + 1)))
            else none
        else
          q_cI (orc 163 [.inr (.inr 49), .inl (M5 49 14)] GF M5) GF (fun x10 M9 =>
          if 0 ≤ M5 49 15 ∧ M5 49 15 < ((132 : Nat) : Int) then
          pr sc orc 164 F 259 [some (.inr (.inr 49)), none, none] [] (q_up M9 58 ((M5 49 15 : Int).toNat) x10)
          else none))
    else
      q_cI (orc 162 [.inr (.inr 49)] GF M1) GF (fun x12 M11 =>
      if 0 ≤ M1 49 15 ∧ M1 49 15 < ((132 : Nat) : Int) then
      pr sc orc 164 F 259 [some (.inr (.inr 49)), none, none] [] (q_up M11 58 ((M1 49 15 : Int).toNat) x12)
      else none)) := by
  rw [pr_st]; rfl
set_option maxRecDepth 20000 in
theorem sg_X12_look_259 {sc : List Int} {orc : q_O} {M : q_M} {F : Nat} : pr sc orc 164 (F + 1) 259 [some (.inr (.inr 49)), none, none] [] M =
  if (M 49 12) = 0 then
    if 0 ≤ M 49 16 ∧ M 49 16 < ((132 : Nat) : Int) then
    some (some (.inl (M 58 (M 49 16 : Int).toNat)), GF, (q_up M 49 15 (q_w (M 49 15 + 1))))
    else none
  else
    some (some (.inl (0)), GF, M) := by
  rw [pr_st]; rfl
set_option maxRecDepth 20000 in
theorem sg_X12_wrong_0 {sc : List Int} {orc : q_O} {M : q_M} {F : Nat} : pr sc orc 165 (F + 1) 0 [some (.inr (.inr 49))] [] M =
  q_cI (orc 164 [.inr (.inr 49)] GF M) GF (fun x2 M1 =>
  if (M1 49 12) = 0 then
    if 0 ≤ M1 49 16 ∧ M1 49 16 < ((132 : Nat) : Int) then
    q_c0 (orc 161 [.inr (.inr 49), .inl (M1 59 (M1 49 16 : Int).toNat)] GF M1) GF (fun M3 =>
    some (none, GF, M3))
    else none
  else
    some (none, GF, M1)) := by
  rw [pr_st]; rfl
set_option maxRecDepth 20000 in
theorem sg_X12_take_0 {sc : List Int} {orc : q_O} {M : q_M} {F : Nat} {a1 : Int} : pr sc orc 166 (F + 1) 0 [some (.inr (.inr 49)), some (.inl (a1))] [] M =
  q_cI (orc 164 [.inr (.inr 49)] GF M) GF (fun x2 M1 =>
  if x2 = a1 then
    if (M1 49 12) = 0 then
      some (some (.inl (1)), GF, (q_up M1 49 16 (q_w (M1 49 16 + 1))))
    else
      some (some (.inl (0)), GF, M1)
  else
    some (some (.inl (0)), GF, M1)) := by
  rw [pr_st]; rfl
set_option maxRecDepth 20000 in
theorem sg_X12_want_0 {sc : List Int} {orc : q_O} {M : q_M} {F : Nat} {a1 : Int} : pr sc orc 167 (F + 1) 0 [some (.inr (.inr 49)), some (.inl (a1))] [] M =
  q_cI (orc 166 [.inr (.inr 49), .inl (a1)] GF M) GF (fun x2 M1 =>
  if x2 = 0 then
    q_c0 (orc 165 [.inr (.inr 49)] GF M1) GF (fun M3 =>
    some (none, GF, M3))
  else
    some (none, GF, M1)) := by
  rw [pr_st]; rfl
set_option maxRecDepth 20000 in
theorem sg_X12_isIn_0 {sc : List Int} {orc : q_O} {M : q_M} {F : Nat} {a1 a2 a3 : Int} : pr sc orc 168 (F + 1) 0 [some (.inl (a1)), some (.inl (a2)), some (.inl (a3))] [] M =
  if a1 < a2 then
    some (some (.inl (0)), GF, M)
  else
    if a1 < (q_w (a2 + a3)) then
      some (some (.inl (1)), GF, M)
    else
      some (some (.inl (0)), GF, M) := by
  rw [pr_st]; rfl
set_option maxRecDepth 20000 in
theorem sg_X12_readColumn_0 {sc : List Int} {orc : q_O} {M : q_M} {F : Nat} : pr sc orc 169 (F + 1) 0 [some (.inr (.inr 49))] [] M =
  q_cI (orc 164 [.inr (.inr 49)] GF M) GF (fun x2 M1 =>
  q_cI (orc 168 [.inl (x2), .inl (220), .inl (4)] GF M1) GF (fun x4 M3 =>
  if x4 = 0 then
    q_c0 (orc 165 [.inr (.inr 49)] GF M3) GF (fun M5 =>
    if (M5 49 12) = 0 then
      q_c0 (orc 167 [.inr (.inr 49), .inl (46)] GF M5) GF (fun M11 =>
      if (M11 49 12) = 0 then
        q_cI (orc 164 [.inr (.inr 49)] GF M11) GF (fun x13 M12 =>
        q_cI (orc 168 [.inl (x13), .inl (230), .inl (4)] GF M12) GF (fun x15 M14 =>
        if x15 = 0 then
          q_c0 (orc 165 [.inr (.inr 49)] GF M14) GF (fun M16 =>
          some (none, GF, M16))
        else
          some (none, GF, (q_up M14 49 16 (q_w (M14 49 16 + 1))))))
      else
        some (none, GF, M11))
    else
      if (M5 49 12) = 0 then
        q_cI (orc 164 [.inr (.inr 49)] GF M5) GF (fun x7 M6 =>
        q_cI (orc 168 [.inl (x7), .inl (230), .inl (4)] GF M6) GF (fun x9 M8 =>
        if x9 = 0 then
          q_c0 (orc 165 [.inr (.inr 49)] GF M8) GF (fun M10 =>
          some (none, GF, M10))
        else
          some (none, GF, (q_up M8 49 16 (q_w (M8 49 16 + 1))))))
      else
        some (none, GF, M5))
  else
    if (M3 49 12) = 0 then
      q_c0 (orc 167 [.inr (.inr 49), .inl (46)] GF (q_up M3 49 16 (q_w (M3 49 16 + 1)))) GF (fun M22 =>
      if (M22 49 12) = 0 then
        q_cI (orc 164 [.inr (.inr 49)] GF M22) GF (fun x24 M23 =>
        q_cI (orc 168 [.inl (x24), .inl (230), .inl (4)] GF M23) GF (fun x26 M25 =>
        if x26 = 0 then
          q_c0 (orc 165 [.inr (.inr 49)] GF M25) GF (fun M27 =>
          some (none, GF, M27))
        else
          some (none, GF, (q_up M25 49 16 (q_w (M25 49 16 + 1))))))
      else
        some (none, GF, M22))
    else
      if (M3 49 12) = 0 then
        q_cI (orc 164 [.inr (.inr 49)] GF (q_up M3 49 16 (q_w (M3 49 16 + 1)))) GF (fun x18 M17 =>
        q_cI (orc 168 [.inl (x18), .inl (230), .inl (4)] GF M17) GF (fun x20 M19 =>
        if x20 = 0 then
          q_c0 (orc 165 [.inr (.inr 49)] GF M19) GF (fun M21 =>
          some (none, GF, M21))
        else
          some (none, GF, (q_up M19 49 16 (q_w (M19 49 16 + 1))))))
      else
        some (none, GF, (q_up M3 49 16 (q_w (M3 49 16 + 1)))))) := by
  rw [pr_st]; rfl
set_option maxRecDepth 20000 in
theorem sg_X12_readOut_0 {sc : List Int} {orc : q_O} {M : q_M} {F : Nat} : pr sc orc 170 (F + 1) 0 [some (.inr (.inr 49)), none] [] M =
  q_cI (orc 164 [.inr (.inr 49)] GF M) GF (fun x2 M1 =>
  if 0 ≤ M1 49 23 ∧ M1 49 23 < ((5 : Nat) : Int) then
  if 0 ≤ M1 49 23 ∧ M1 49 23 < ((5 : Nat) : Int) then
  q_cI (orc 168 [.inl (x2), .inl (207), .inl (4)] GF (q_up (q_up M1 63 ((M1 49 23 : Int).toNat) (M1 49 16)) 62 ((M1 49 23 : Int).toNat) 0)) GF (fun x4 M3 =>
  if x4 = 0 then
    q_c0 (orc 169 [.inr (.inr 49)] GF M3) GF (fun M5 =>
    some (none, GF, (q_up M5 49 23 (q_w (M5 49 23 + 1)))))
  else
    if 0 ≤ M3 49 23 ∧ M3 49 23 < ((5 : Nat) : Int) then
    if x2 = 207 then
      some (none, GF, (q_up (q_up (q_up M3 62 ((M3 49 23 : Int).toNat) x2) 49 16 (q_w (M3 49 16 + 1))) 49 23 (q_w (M3 49 23 + 1))))
    else
      q_c0 (orc 167 [.inr (.inr 49), .inl (40)] GF (q_up (q_up M3 62 ((M3 49 23 : Int).toNat) x2) 49 16 (q_w (M3 49 16 + 1)))) GF (fun M6 =>
      if 0 ≤ M6 49 23 ∧ M6 49 23 < ((5 : Nat) : Int) then
      if (M6 49 12) = 0 then
        q_c0 (orc 169 [.inr (.inr 49)] GF (q_up M6 63 ((M6 49 23 : Int).toNat) (M6 49 16))) GF (fun M8 =>
        if (M8 49 12) = 0 then
          q_c0 (orc 167 [.inr (.inr 49), .inl (41)] GF M8) GF (fun M9 =>
          some (none, GF, (q_up M9 49 23 (q_w (M9 49 23 + 1)))))
        else
          some (none, GF, (q_up M8 49 23 (q_w (M8 49 23 + 1)))))
      else
        if (M6 49 12) = 0 then
          q_c0 (orc 167 [.inr (.inr 49), .inl (41)] GF (q_up M6 63 ((M6 49 23 : Int).toNat) (M6 49 16))) GF (fun M7 =>
          some (none, GF, (q_up M7 49 23 (q_w (M7 49 23 + 1)))))
        else
          some (none, GF, (q_up (q_up M6 63 ((M6 49 23 : Int).toNat) (M6 49 16)) 49 23 (q_w (M6 49 23 + 1))))
      else none)
    else none)
  else none
  else none) := by
  rw [pr_st]; rfl
set_option maxRecDepth 20000 in
theorem sg_X12_readOuts_0 {sc : List Int} {orc : q_O} {M : q_M} {F : Nat} : pr sc orc 171 (F + 1) 0 [some (.inr (.inr 49))] [] M =
  q_c0 (orc 167 [.inr (.inr 49), .inl (200)] GF (q_up M 49 23 0)) GF (fun M1 =>
  if (M1 49 12) = 0 then
    q_c0 (orc 170 [.inr (.inr 49)] GF M1) GF (fun M2 =>
    pr sc orc 171 F 23 [some (.inr (.inr 49))] [] M2)
  else
    pr sc orc 171 F 23 [some (.inr (.inr 49))] [] M1) := by
  rw [pr_st]; rfl
set_option maxRecDepth 20000 in
theorem sg_X12_readOuts_23 {sc : List Int} {orc : q_O} {M : q_M} {F : Nat} : pr sc orc 171 (F + 1) 23 [some (.inr (.inr 49))] [] M =
  if (M 49 12) = 0 then
    if (M 49 23) < 4 then
      q_cI (orc 166 [.inr (.inr 49), .inl (44)] GF M) GF (fun x2 M1 =>
      if x2 = 0 then
        some (none, GF, M1)
      else
        q_c0 (orc 170 [.inr (.inr 49)] GF M1) GF (fun M3 =>
        pr sc orc 171 F 23 [some (.inr (.inr 49))] [] M3))
    else
      some (none, GF, M)
  else
    some (none, GF, M) := by
  rw [pr_st]; rfl
set_option maxRecDepth 20000 in
theorem sg_X12_readOperand_0 {sc : List Int} {orc : q_O} {M : q_M} {F : Nat} : pr sc orc 172 (F + 1) 0 [some (.inr (.inr 49)), none] [] M =
  q_cI (orc 164 [.inr (.inr 49)] GF M) GF (fun x2 M1 =>
  if x2 = 1 then
    some (none, GF, (q_up M1 49 16 (q_w (M1 49 16 + 1))))
  else
    if x2 = 215 then
      some (none, GF, (q_up M1 49 16 (q_w (M1 49 16 + 1))))
    else
      q_c0 (orc 169 [.inr (.inr 49)] GF M1) GF (fun M3 =>
      some (none, GF, M3))) := by
  rw [pr_st]; rfl
set_option maxRecDepth 20000 in
theorem sg_X12_readComparison_0 {sc : List Int} {orc : q_O} {M : q_M} {F : Nat} : pr sc orc 173 (F + 1) 0 [some (.inr (.inr 49)), none] [] M =
  q_c0 (orc 172 [.inr (.inr 49)] GF M) GF (fun M1 =>
  if (M1 49 12) = 0 then
    q_cI (orc 164 [.inr (.inr 49)] GF M1) GF (fun x3 M2 =>
    if x3 = 214 then
      q_c0 (orc 167 [.inr (.inr 49), .inl (215)] GF (q_up M2 49 16 (q_w (M2 49 16 + 1)))) GF (fun M8 =>
      some (none, GF, M8))
    else
      if x3 = 61 then
        q_c0 (orc 172 [.inr (.inr 49)] GF (q_up M2 49 16 (q_w (M2 49 16 + 1)))) GF (fun M4 =>
        some (none, GF, M4))
      else
        if x3 = 60 then
          q_c0 (orc 172 [.inr (.inr 49)] GF (q_up M2 49 16 (q_w (M2 49 16 + 1)))) GF (fun M5 =>
          some (none, GF, M5))
        else
          if x3 = 62 then
            q_c0 (orc 172 [.inr (.inr 49)] GF (q_up M2 49 16 (q_w (M2 49 16 + 1)))) GF (fun M7 =>
            some (none, GF, M7))
          else
            q_c0 (orc 165 [.inr (.inr 49)] GF M2) GF (fun M6 =>
            some (none, GF, M6)))
  else
    some (none, GF, M1)) := by
  rw [pr_st]; rfl
set_option maxRecDepth 20000 in
theorem sg_X12_closeNots_0 {sc : List Int} {orc : q_O} {M : q_M} {F : Nat} : pr sc orc 174 (F + 1) 0 [some (.inr (.inr 49))] [] M =
  if 0 < (M 49 20) then
    if 0 ≤ q_w (M 49 20 - 1) ∧ q_w (M 49 20 - 1) < ((8 : Nat) : Int) then
    if (M 61 (q_w (M 49 20 - 1) : Int).toNat) = 213 then
      pr sc orc 174 F 0 [some (.inr (.inr 49))] [] (q_up M 49 20 (q_w (M 49 20 - 1)))
    else
      some (none, GF, M)
    else none
  else
    some (none, GF, M) := by
  rw [pr_st]; rfl
set_option maxRecDepth 20000 in
theorem sg_X12_readCondition_0 {sc : List Int} {orc : q_O} {M : q_M} {F : Nat} : pr sc orc 175 (F + 1) 0 [some (.inr (.inr 49)), none, none] [] M =
  pr sc orc 175 F 7 [some (.inr (.inr 49)), some (.inl (1)), none] [] (q_up M 49 20 0) := by
  rw [pr_st]; rfl
set_option maxRecDepth 20000 in
theorem sg_X12_readCondition_7 {sc : List Int} {orc : q_O} {M : q_M} {F : Nat} {b1 : Int} : pr sc orc 175 (F + 1) 7 [some (.inr (.inr 49)), some (.inl (b1)), none] [] M =
  if (M 49 12) = 0 then
    if b1 = 0 then
      some (none, GF, M)
    else
      q_cI (orc 164 [.inr (.inr 49)] GF M) GF (fun x2 M1 =>
      if x2 = 213 then
        if (M1 49 20) = 4 then
          q_c0 (orc 165 [.inr (.inr 49)] GF M1) GF (fun M3 =>
          if 0 ≤ M3 49 20 ∧ M3 49 20 < ((8 : Nat) : Int) then
          pr sc orc 175 F 7 [some (.inr (.inr 49)), some (.inl (b1)), none] [] (q_up (q_up (q_up M3 61 ((M3 49 20 : Int).toNat) x2) 49 20 (q_w (M3 49 20 + 1))) 49 16 (q_w (M3 49 16 + 1)))
          else none)
        else
          if 0 ≤ M1 49 20 ∧ M1 49 20 < ((8 : Nat) : Int) then
          pr sc orc 175 F 7 [some (.inr (.inr 49)), some (.inl (b1)), none] [] (q_up (q_up (q_up M1 61 ((M1 49 20 : Int).toNat) x2) 49 20 (q_w (M1 49 20 + 1))) 49 16 (q_w (M1 49 16 + 1)))
          else none
      else
        if x2 = 40 then
          if (M1 49 20) = 4 then
            q_c0 (orc 165 [.inr (.inr 49)] GF M1) GF (fun M6 =>
            if 0 ≤ M6 49 20 ∧ M6 49 20 < ((8 : Nat) : Int) then
            pr sc orc 175 F 7 [some (.inr (.inr 49)), some (.inl (b1)), none] [] (q_up (q_up (q_up M6 61 ((M6 49 20 : Int).toNat) x2) 49 20 (q_w (M6 49 20 + 1))) 49 16 (q_w (M6 49 16 + 1)))
            else none)
          else
            if 0 ≤ M1 49 20 ∧ M1 49 20 < ((8 : Nat) : Int) then
            pr sc orc 175 F 7 [some (.inr (.inr 49)), some (.inl (b1)), none] [] (q_up (q_up (q_up M1 61 ((M1 49 20 : Int).toNat) x2) 49 20 (q_w (M1 49 20 + 1))) 49 16 (q_w (M1 49 16 + 1)))
            else none
        else
          q_c0 (orc 173 [.inr (.inr 49)] GF M1) GF (fun M4 =>
          q_c0 (orc 174 [.inr (.inr 49)] GF M4) GF (fun M5 =>
          pr sc orc 175 F 89 [some (.inr (.inr 49)), none, none] [] M5)))
  else
    some (none, GF, M) := by
  rw [pr_st]; rfl
set_option maxRecDepth 20000 in
theorem sg_X12_readCondition_89 {sc : List Int} {orc : q_O} {M : q_M} {F : Nat} : pr sc orc 175 (F + 1) 89 [some (.inr (.inr 49)), none, none] [] M =
  if (M 49 12) = 0 then
    if 0 < (M 49 20) then
      q_cI (orc 166 [.inr (.inr 49), .inl (41)] GF M) GF (fun x10 M9 =>
      if x10 = 0 then
        if (M9 49 12) = 0 then
          q_cI (orc 166 [.inr (.inr 49), .inl (212)] GF M9) GF (fun x12 M11 =>
          if x12 = 0 then
            q_cI (orc 166 [.inr (.inr 49), .inl (211)] GF M11) GF (fun x14 M13 =>
            if x14 = 0 then
              pr sc orc 175 F 162 [some (.inr (.inr 49)), some (.inl (0)), none] [] M13
            else
              pr sc orc 175 F 162 [some (.inr (.inr 49)), some (.inl (1)), none] [] M13)
          else
            pr sc orc 175 F 162 [some (.inr (.inr 49)), some (.inl (1)), none] [] M11)
        else
          pr sc orc 175 F 162 [some (.inr (.inr 49)), some (.inl (0)), none] [] M9
      else
        q_c0 (orc 174 [.inr (.inr 49)] GF (q_up M9 49 20 (q_w (M9 49 20 - 1)))) GF (fun M15 =>
        pr sc orc 175 F 89 [some (.inr (.inr 49)), none, none] [] M15))
    else
      if (M 49 12) = 0 then
        q_cI (orc 166 [.inr (.inr 49), .inl (212)] GF M) GF (fun x6 M5 =>
        if x6 = 0 then
          q_cI (orc 166 [.inr (.inr 49), .inl (211)] GF M5) GF (fun x8 M7 =>
          if x8 = 0 then
            pr sc orc 175 F 162 [some (.inr (.inr 49)), some (.inl (0)), none] [] M7
          else
            pr sc orc 175 F 162 [some (.inr (.inr 49)), some (.inl (1)), none] [] M7)
        else
          pr sc orc 175 F 162 [some (.inr (.inr 49)), some (.inl (1)), none] [] M5)
      else
        pr sc orc 175 F 162 [some (.inr (.inr 49)), some (.inl (0)), none] [] M
  else
    if (M 49 12) = 0 then
      q_cI (orc 166 [.inr (.inr 49), .inl (212)] GF M) GF (fun x2 M1 =>
      if x2 = 0 then
        q_cI (orc 166 [.inr (.inr 49), .inl (211)] GF M1) GF (fun x4 M3 =>
        if x4 = 0 then
          pr sc orc 175 F 162 [some (.inr (.inr 49)), some (.inl (0)), none] [] M3
        else
          pr sc orc 175 F 162 [some (.inr (.inr 49)), some (.inl (1)), none] [] M3)
      else
        pr sc orc 175 F 162 [some (.inr (.inr 49)), some (.inl (1)), none] [] M1)
    else
      pr sc orc 175 F 162 [some (.inr (.inr 49)), some (.inl (0)), none] [] M := by
  rw [pr_st]; rfl
set_option maxRecDepth 20000 in
theorem sg_X12_readCondition_162 {sc : List Int} {orc : q_O} {M : q_M} {F : Nat} {b1 : Int} : pr sc orc 175 (F + 1) 162 [some (.inr (.inr 49)), some (.inl (b1)), none] [] M =
  if (M 49 12) = 0 then
    if b1 = 0 then
      if 0 < (M 49 20) then
        q_c0 (orc 165 [.inr (.inr 49)] GF M) GF (fun M1 =>
        pr sc orc 175 F 7 [some (.inr (.inr 49)), some (.inl (b1)), none] [] M1)
      else
        pr sc orc 175 F 7 [some (.inr (.inr 49)), some (.inl (b1)), none] [] M
    else
      pr sc orc 175 F 7 [some (.inr (.inr 49)), some (.inl (b1)), none] [] M
  else
    pr sc orc 175 F 7 [some (.inr (.inr 49)), some (.inl (b1)), none] [] M := by
  rw [pr_st]; rfl
set_option maxRecDepth 20000 in
theorem sg_X12_readItem_0 {sc : List Int} {orc : q_O} {M : q_M} {F : Nat} {a1 : Int} : pr sc orc 176 (F + 1) 0 [some (.inr (.inr 49)), some (.inl (a1)), none] [] M =
  q_cI (orc 164 [.inr (.inr 49)] GF M) GF (fun x2 M1 =>
  if 0 ≤ M1 49 26 ∧ M1 49 26 < ((4 : Nat) : Int) then
  if 0 ≤ M1 49 26 ∧ M1 49 26 < ((4 : Nat) : Int) then
  if 0 ≤ M1 49 26 ∧ M1 49 26 < ((4 : Nat) : Int) then
  if (1 : Nat) = 0 ∨ ((1 : Nat) = 1 ∧ (a1 = 0 ∨ a1 = 1)) ∨ ((1 : Nat) = 2 ∧ 0 ≤ a1 ∧ a1 < 65536) then
  if x2 = 84 then
    pr sc orc 176 F 76 [some (.inr (.inr 49)), none, none] [] (q_up (q_up (q_up (q_up M1 65 ((M1 49 26 : Int).toNat) (M1 49 16)) 64 ((M1 49 26 : Int).toNat) (q_w (x2 - 84))) 66 ((M1 49 26 : Int).toNat) a1) 49 16 (q_w (M1 49 16 + 1)))
  else
    if x2 = 85 then
      pr sc orc 176 F 76 [some (.inr (.inr 49)), none, none] [] (q_up (q_up (q_up (q_up M1 65 ((M1 49 26 : Int).toNat) (M1 49 16)) 64 ((M1 49 26 : Int).toNat) (q_w (x2 - 84))) 66 ((M1 49 26 : Int).toNat) a1) 49 16 (q_w (M1 49 16 + 1)))
    else
      if x2 = 86 then
        pr sc orc 176 F 76 [some (.inr (.inr 49)), none, none] [] (q_up (q_up (q_up (q_up M1 65 ((M1 49 26 : Int).toNat) (M1 49 16)) 64 ((M1 49 26 : Int).toNat) (q_w (x2 - 84))) 66 ((M1 49 26 : Int).toNat) a1) 49 16 (q_w (M1 49 16 + 1)))
      else
        q_c0 (orc 165 [.inr (.inr 49)] GF (q_up (q_up (q_up M1 65 ((M1 49 26 : Int).toNat) (M1 49 16)) 64 ((M1 49 26 : Int).toNat) (q_w (x2 - 84))) 66 ((M1 49 26 : Int).toNat) a1)) GF (fun M3 =>
        pr sc orc 176 F 76 [some (.inr (.inr 49)), none, none] [] M3)
  else none
  else none
  else none
  else none) := by
  rw [pr_st]; rfl
set_option maxRecDepth 20000 in
theorem sg_X12_readItem_76 {sc : List Int} {orc : q_O} {M : q_M} {F : Nat} : pr sc orc 176 (F + 1) 76 [some (.inr (.inr 49)), none, none] [] M =
  if (M 49 12) = 0 then
    q_cI (orc 164 [.inr (.inr 49)] GF M) GF (fun x3 M2 =>
    q_cI (orc 168 [.inl (x3), .inl (220), .inl (4)] GF M2) GF (fun x5 M4 =>
    if x5 = 0 then
      q_c0 (orc 165 [.inr (.inr 49)] GF M4) GF (fun M6 =>
      pr sc orc 176 F 114 [some (.inr (.inr 49)), none, none] [] M6)
    else
      pr sc orc 176 F 114 [some (.inr (.inr 49)), none, none] [] (q_up M4 49 16 (q_w (M4 49 16 + 1)))))
  else
    q_c0 (orc 165 [.inr (.inr 49)] GF M) GF (fun M1 =>
    pr sc orc 176 F 114 [some (.inr (.inr 49)), none, none] [] M1) := by
  rw [pr_st]; rfl
set_option maxRecDepth 20000 in
theorem sg_X12_readItem_114 {sc : List Int} {orc : q_O} {M : q_M} {F : Nat} : pr sc orc 176 (F + 1) 114 [some (.inr (.inr 49)), none, none] [] M =
  if 0 < (M 49 26) then
    if (M 49 12) = 0 then
      q_c0 (orc 167 [.inr (.inr 49), .inl (204)] GF M) GF (fun M2 =>
      if 0 ≤ M2 49 26 ∧ M2 49 26 < ((4 : Nat) : Int) then
      if (M2 49 12) = 0 then
        q_c0 (orc 175 [.inr (.inr 49)] GF (q_up M2 67 ((M2 49 26 : Int).toNat) (M2 49 16))) GF (fun M3 =>
        if 0 ≤ M3 49 26 ∧ M3 49 26 < ((4 : Nat) : Int) then
        some (none, GF, (q_up (q_up M3 68 ((M3 49 26 : Int).toNat) (M3 49 16)) 49 26 (q_w (M3 49 26 + 1))))
        else none)
      else
        if 0 ≤ M2 49 26 ∧ M2 49 26 < ((4 : Nat) : Int) then
        some (none, GF, (q_up (q_up (q_up M2 67 ((M2 49 26 : Int).toNat) (M2 49 16)) 68 ((M2 49 26 : Int).toNat) (M2 49 16)) 49 26 (q_w (M2 49 26 + 1))))
        else none
      else none)
    else
      if 0 ≤ M 49 26 ∧ M 49 26 < ((4 : Nat) : Int) then
      if (M 49 12) = 0 then
        q_c0 (orc 175 [.inr (.inr 49)] GF (q_up M 67 ((M 49 26 : Int).toNat) (M 49 16))) GF (fun M1 =>
        if 0 ≤ M1 49 26 ∧ M1 49 26 < ((4 : Nat) : Int) then
        some (none, GF, (q_up (q_up M1 68 ((M1 49 26 : Int).toNat) (M1 49 16)) 49 26 (q_w (M1 49 26 + 1))))
        else none)
      else
        if 0 ≤ M 49 26 ∧ M 49 26 < ((4 : Nat) : Int) then
        some (none, GF, (q_up (q_up (q_up M 67 ((M 49 26 : Int).toNat) (M 49 16)) 68 ((M 49 26 : Int).toNat) (M 49 16)) 49 26 (q_w (M 49 26 + 1))))
        else none
      else none
  else
    some (none, GF, (q_up M 49 26 (q_w (M 49 26 + 1)))) := by
  rw [pr_st]; rfl
set_option maxRecDepth 20000 in
theorem sg_X12_readGroup_0 {sc : List Int} {orc : q_O} {M : q_M} {F : Nat} : pr sc orc 177 (F + 1) 0 [some (.inr (.inr 49)), none] [] M =
  if (M 49 12) = 0 then
    q_cI (orc 166 [.inr (.inr 49), .inl (206)] GF (q_up M 49 34 0)) GF (fun x2 M1 =>
    if x2 = 0 then
      some (none, GF, M1)
    else
      pr sc orc 177 F 25 [some (.inr (.inr 49)), some (.inl (1))] [] M1)
  else
    some (none, GF, (q_up M 49 34 0)) := by
  rw [pr_st]; rfl
set_option maxRecDepth 20000 in
theorem sg_X12_readGroup_25 {sc : List Int} {orc : q_O} {M : q_M} {F : Nat} {b1 : Int} : pr sc orc 177 (F + 1) 25 [some (.inr (.inr 49)), some (.inl (b1))] [] M =
  if b1 = 0 then
    some (none, GF, M)
  else
    if (M 49 12) = 0 then
      if 0 ≤ M 49 34 ∧ M 49 34 < ((4 : Nat) : Int) then
      q_c0 (orc 169 [.inr (.inr 49)] GF (q_up M 69 ((M 49 34 : Int).toNat) (M 49 16))) GF (fun M1 =>
      if (M1 49 12) = 0 then
        if (q_w (M1 49 34 + 1)) < 3 then
          q_cI (orc 166 [.inr (.inr 49), .inl (44)] GF (q_up M1 49 34 (q_w (M1 49 34 + 1)))) GF (fun x3 M2 =>
          if x3 = 0 then
            pr sc orc 177 F 25 [some (.inr (.inr 49)), some (.inl (0))] [] M2
          else
            pr sc orc 177 F 25 [some (.inr (.inr 49)), some (.inl (1))] [] M2)
        else
          pr sc orc 177 F 25 [some (.inr (.inr 49)), some (.inl (0))] [] (q_up M1 49 34 (q_w (M1 49 34 + 1)))
      else
        pr sc orc 177 F 25 [some (.inr (.inr 49)), some (.inl (0))] [] (q_up M1 49 34 (q_w (M1 49 34 + 1))))
      else none
    else
      some (none, GF, M) := by
  rw [pr_st]; rfl
set_option maxRecDepth 20000 in
theorem sg_X12_readQuery_0 {sc : List Int} {orc : q_O} {M : q_M} {F : Nat} : pr sc orc 178 (F + 1) 0 [some (.inr (.inr 49)), none, none] [] M =
  q_c0 (orc 171 [.inr (.inr 49)] GF M) GF (fun M1 =>
  if (M1 49 12) = 0 then
    q_c0 (orc 167 [.inr (.inr 49), .inl (201)] GF (q_up M1 49 26 0)) GF (fun M3 =>
    if (M3 49 12) = 0 then
      q_c0 (orc 176 [.inr (.inr 49), .inl (0)] GF M3) GF (fun M4 =>
      pr sc orc 178 F 37 [some (.inr (.inr 49)), some (.inl (1)), none] [] M4)
    else
      pr sc orc 178 F 37 [some (.inr (.inr 49)), some (.inl (1)), none] [] M3)
  else
    if (M1 49 12) = 0 then
      q_c0 (orc 176 [.inr (.inr 49), .inl (0)] GF (q_up M1 49 26 0)) GF (fun M2 =>
      pr sc orc 178 F 37 [some (.inr (.inr 49)), some (.inl (1)), none] [] M2)
    else
      pr sc orc 178 F 37 [some (.inr (.inr 49)), some (.inl (1)), none] [] (q_up M1 49 26 0)) := by
  rw [pr_st]; rfl
set_option maxRecDepth 20000 in
theorem sg_X12_readQuery_37 {sc : List Int} {orc : q_O} {M : q_M} {F : Nat} {b1 : Int} : pr sc orc 178 (F + 1) 37 [some (.inr (.inr 49)), some (.inl (b1)), none] [] M =
  if b1 = 0 then
    pr sc orc 178 F 110 [some (.inr (.inr 49)), none, none] [] M
  else
    if (M 49 12) = 0 then
      if (M 49 26) < 3 then
        q_cI (orc 164 [.inr (.inr 49)] GF M) GF (fun x2 M1 =>
        if x2 = 203 then
          q_cI (orc 166 [.inr (.inr 49), .inl (203)] GF M1) GF (fun x11 M10 =>
          if x11 = 0 then
            q_cI (orc 166 [.inr (.inr 49), .inl (202)] GF M10) GF (fun x14 M13 =>
            if x14 = 0 then
              if 0 = 0 then
                pr sc orc 178 F 37 [some (.inr (.inr 49)), some (.inl (0)), none] [] M13
              else
                q_c0 (orc 176 [.inr (.inr 49), .inl (1)] GF M13) GF (fun M15 =>
                pr sc orc 178 F 37 [some (.inr (.inr 49)), some (.inl (0)), none] [] M15)
            else
              if 1 = 0 then
                pr sc orc 178 F 37 [some (.inr (.inr 49)), some (.inl (1)), none] [] M13
              else
                q_c0 (orc 176 [.inr (.inr 49), .inl (1)] GF M13) GF (fun M16 =>
                pr sc orc 178 F 37 [some (.inr (.inr 49)), some (.inl (1)), none] [] M16))
          else
            if 1 = 0 then
              pr sc orc 178 F 37 [some (.inr (.inr 49)), some (.inl (1)), none] [] M10
            else
              q_c0 (orc 176 [.inr (.inr 49), .inl (1)] GF M10) GF (fun M12 =>
              pr sc orc 178 F 37 [some (.inr (.inr 49)), some (.inl (1)), none] [] M12))
        else
          q_cI (orc 166 [.inr (.inr 49), .inl (203)] GF M1) GF (fun x4 M3 =>
          if x4 = 0 then
            q_cI (orc 166 [.inr (.inr 49), .inl (202)] GF M3) GF (fun x7 M6 =>
            if x7 = 0 then
              if 0 = 0 then
                pr sc orc 178 F 37 [some (.inr (.inr 49)), some (.inl (0)), none] [] M6
              else
                q_c0 (orc 176 [.inr (.inr 49), .inl (0)] GF M6) GF (fun M8 =>
                pr sc orc 178 F 37 [some (.inr (.inr 49)), some (.inl (0)), none] [] M8)
            else
              if 1 = 0 then
                pr sc orc 178 F 37 [some (.inr (.inr 49)), some (.inl (1)), none] [] M6
              else
                q_c0 (orc 176 [.inr (.inr 49), .inl (0)] GF M6) GF (fun M9 =>
                pr sc orc 178 F 37 [some (.inr (.inr 49)), some (.inl (1)), none] [] M9))
          else
            if 1 = 0 then
              pr sc orc 178 F 37 [some (.inr (.inr 49)), some (.inl (1)), none] [] M3
            else
              q_c0 (orc 176 [.inr (.inr 49), .inl (0)] GF M3) GF (fun M5 =>
              pr sc orc 178 F 37 [some (.inr (.inr 49)), some (.inl (1)), none] [] M5)))
      else
        pr sc orc 178 F 110 [some (.inr (.inr 49)), none, none] [] M
    else
      pr sc orc 178 F 110 [some (.inr (.inr 49)), none, none] [] M := by
  rw [pr_st]; rfl
set_option maxRecDepth 20000 in
theorem sg_X12_readQuery_110 {sc : List Int} {orc : q_O} {M : q_M} {F : Nat} : pr sc orc 178 (F + 1) 110 [some (.inr (.inr 49)), none, none] [] M =
  if (M 49 12) = 0 then
    q_cI (orc 166 [.inr (.inr 49), .inl (205)] GF (q_up (q_up M 49 32 0) 49 33 0)) GF (fun x4 M3 =>
    if x4 = 0 then
      q_c0 (orc 177 [.inr (.inr 49)] GF M3) GF (fun M5 =>
      if (M5 49 12) = 0 then
        q_c0 (orc 167 [.inr (.inr 49), .inl (0)] GF M5) GF (fun M6 =>
        some (none, GF, M6))
      else
        some (none, GF, M5))
    else
      q_c0 (orc 175 [.inr (.inr 49)] GF (q_up M3 49 32 (M3 49 16))) GF (fun M7 =>
      q_c0 (orc 177 [.inr (.inr 49)] GF (q_up M7 49 33 (M7 49 16))) GF (fun M8 =>
      if (M8 49 12) = 0 then
        q_c0 (orc 167 [.inr (.inr 49), .inl (0)] GF M8) GF (fun M9 =>
        some (none, GF, M9))
      else
        some (none, GF, M8))))
  else
    q_c0 (orc 177 [.inr (.inr 49)] GF (q_up (q_up M 49 32 0) 49 33 0)) GF (fun M1 =>
    if (M1 49 12) = 0 then
      q_c0 (orc 167 [.inr (.inr 49), .inl (0)] GF M1) GF (fun M2 =>
      some (none, GF, M2))
    else
      some (none, GF, M1)) := by
  rw [pr_st]; rfl
end
section
set_option maxRecDepth 20000 in
theorem sg_X12_spot_0 {sc : List Int} {orc : q_O} {M : q_M} {F : Nat} {a1 : Int} : pr sc orc 179 (F + 1) 0 [some (.inr (.inr 49)), some (.inl (a1)), none] [] M =
  if 0 ≤ a1 ∧ a1 < ((132 : Nat) : Int) then
  if (M 49 12) = 0 then
    some (none, GF, (q_up (q_up M 49 13 (M 59 (a1 : Int).toNat)) 49 12 1))
  else
    if (M 59 (a1 : Int).toNat) < (M 49 13) then
      some (none, GF, (q_up (q_up M 49 13 (M 59 (a1 : Int).toNat)) 49 12 1))
    else
      some (none, GF, (q_up M 49 12 1))
  else none := by
  rw [pr_st]; rfl
set_option maxRecDepth 20000 in
theorem sg_X12_itemOf_0 {sc : List Int} {orc : q_O} {M : q_M} {F : Nat} {a1 : Int} : pr sc orc 180 (F + 1) 0 [some (.inr (.inr 49)), some (.inl (a1)), none] [] M =
  pr sc orc 180 F 2 [some (.inr (.inr 49)), some (.inl (a1)), some (.inl (0))] [] M := by
  rw [pr_st]; rfl
set_option maxRecDepth 20000 in
theorem sg_X12_itemOf_2 {sc : List Int} {orc : q_O} {M : q_M} {F : Nat} {b1 b2 : Int} : pr sc orc 180 (F + 1) 2 [some (.inr (.inr 49)), some (.inl (b1)), some (.inl (b2))] [] M =
  if b2 < (M 49 26) then
    if 0 ≤ b2 ∧ b2 < ((4 : Nat) : Int) then
    if 0 ≤ q_w (M 65 (b2 : Int).toNat + 1) ∧ q_w (M 65 (b2 : Int).toNat + 1) < ((132 : Nat) : Int) then
    if 0 ≤ b1 ∧ b1 < ((132 : Nat) : Int) then
    if (M 58 (q_w (M 65 (b2 : Int).toNat + 1) : Int).toNat) = (M 58 (b1 : Int).toNat) then
      some (some (.inl (b2)), GF, M)
    else
      pr sc orc 180 F 2 [some (.inr (.inr 49)), some (.inl (b1)), some (.inl (q_w (b2 + (1))))] [] M
    else none
    else none
    else none
  else
    some (some (.inl ((-1))), GF, M) := by
  rw [pr_st]; rfl
set_option maxRecDepth 20000 in
theorem sg_X12_columnOf_0 {sc : List Int} {orc : q_O} {M : q_M} {F : Nat} {a1 : Int} : pr sc orc 181 (F + 1) 0 [some (.inr (.inr 49)), some (.inl (a1))] [] M =
  if 0 ≤ q_w (a1 + 2) ∧ q_w (a1 + 2) < ((132 : Nat) : Int) then
  some (some (.inl (q_w (M 58 (q_w (a1 + 2) : Int).toNat - 230))), GF, M)
  else none := by
  rw [pr_st]; rfl
set_option maxRecDepth 20000 in
theorem sg_X12_checkColumn_0 {sc : List Int} {orc : q_O} {M : q_M} {F : Nat} {a1 a2 : Int} : pr sc orc 182 (F + 1) 0 [some (.inr (.inr 49)), some (.inl (a1)), some (.inl (a2)), none] [] M =
  q_cI (orc 180 [.inr (.inr 49), .inl (a1)] GF M) GF (fun x2 M1 =>
  if x2 < 0 then
    q_c0 (orc 179 [.inr (.inr 49), .inl (a1)] GF M1) GF (fun M7 =>
    some (none, GF, M7))
  else
    if a2 < x2 then
      q_c0 (orc 179 [.inr (.inr 49), .inl (a1)] GF M1) GF (fun M3 =>
      some (none, GF, M3))
    else
      q_cI (orc 181 [.inr (.inr 49), .inl (a1)] GF M1) GF (fun x5 M4 =>
      if 0 ≤ x2 ∧ x2 < ((4 : Nat) : Int) then
      if 0 ≤ M4 64 (x2 : Int).toNat ∧ M4 64 (x2 : Int).toNat < ((3 : Nat) : Int) then
      if x5 < (M4 51 (M4 64 (x2 : Int).toNat : Int).toNat) then
        some (none, GF, M4)
      else
        q_c0 (orc 179 [.inr (.inr 49), .inl (a1)] GF M4) GF (fun M6 =>
        some (none, GF, M6))
      else none
      else none)) := by
  rw [pr_st]; rfl
set_option maxRecDepth 20000 in
theorem sg_X12_checkRange_0 {sc : List Int} {orc : q_O} {M : q_M} {F : Nat} {a1 a2 a3 : Int} : pr sc orc 183 (F + 1) 0 [some (.inr (.inr 49)), some (.inl (a1)), some (.inl (a2)), some (.inl (a3)), none] [] M =
  pr sc orc 183 F 3 [some (.inr (.inr 49)), none, some (.inl (a2)), some (.inl (a3)), some (.inl (a1))] [] M := by
  rw [pr_st]; rfl
set_option maxRecDepth 20000 in
theorem sg_X12_checkRange_3 {sc : List Int} {orc : q_O} {M : q_M} {F : Nat} {b2 b3 b4 : Int} : pr sc orc 183 (F + 1) 3 [some (.inr (.inr 49)), none, some (.inl (b2)), some (.inl (b3)), some (.inl (b4))] [] M =
  if b4 < b2 then
    if 0 ≤ b4 ∧ b4 < ((132 : Nat) : Int) then
    q_cI (orc 168 [.inl (M 58 (b4 : Int).toNat), .inl (220), .inl (4)] GF M) GF (fun x2 M1 =>
    if x2 = 0 then
      pr sc orc 183 F 3 [some (.inr (.inr 49)), none, some (.inl (b2)), some (.inl (b3)), some (.inl (q_w (b4 + (1))))] [] M1
    else
      q_c0 (orc 182 [.inr (.inr 49), .inl (b4), .inl (b3)] GF M1) GF (fun M3 =>
      pr sc orc 183 F 3 [some (.inr (.inr 49)), none, some (.inl (b2)), some (.inl (b3)), some (.inl (q_w (b4 + (1))))] [] M3))
    else none
  else
    some (none, GF, M) := by
  rw [pr_st]; rfl
set_option maxRecDepth 20000 in
theorem sg_X12_isGrouped_0 {sc : List Int} {orc : q_O} {M : q_M} {F : Nat} {a1 : Int} : pr sc orc 184 (F + 1) 0 [some (.inr (.inr 49)), some (.inl (a1)), none, none] [] M =
  pr sc orc 184 F 4 [some (.inr (.inr 49)), some (.inl (a1)), some (.inl (0)), some (.inl (0))] [] M := by
  rw [pr_st]; rfl
set_option maxRecDepth 20000 in
theorem sg_X12_isGrouped_4 {sc : List Int} {orc : q_O} {M : q_M} {F : Nat} {b1 b2 b3 : Int} : pr sc orc 184 (F + 1) 4 [some (.inr (.inr 49)), some (.inl (b1)), some (.inl (b2)), some (.inl (b3))] [] M =
  if b3 < (M 49 34) then
    if b2 = 0 then
      if 0 ≤ b3 ∧ b3 < ((4 : Nat) : Int) then
      q_cI (orc 180 [.inr (.inr 49), .inl (M 69 (b3 : Int).toNat)] GF M) GF (fun x2 M1 =>
      q_cI (orc 180 [.inr (.inr 49), .inl (b1)] GF M1) GF (fun x4 M3 =>
      if x2 = x4 then
        if 0 ≤ b3 ∧ b3 < ((4 : Nat) : Int) then
        q_cI (orc 181 [.inr (.inr 49), .inl (M3 69 (b3 : Int).toNat)] GF M3) GF (fun x6 M5 =>
        q_cI (orc 181 [.inr (.inr 49), .inl (b1)] GF M5) GF (fun x8 M7 =>
        if x6 = x8 then
          pr sc orc 184 F 4 [some (.inr (.inr 49)), some (.inl (b1)), some (.inl (1)), some (.inl (q_w (b3 + (1))))] [] M7
        else
          pr sc orc 184 F 4 [some (.inr (.inr 49)), some (.inl (b1)), some (.inl (0)), some (.inl (q_w (b3 + (1))))] [] M7))
        else none
      else
        pr sc orc 184 F 4 [some (.inr (.inr 49)), some (.inl (b1)), some (.inl (0)), some (.inl (q_w (b3 + (1))))] [] M3))
      else none
    else
      pr sc orc 184 F 4 [some (.inr (.inr 49)), some (.inl (b1)), some (.inl (1)), some (.inl (q_w (b3 + (1))))] [] M
  else
    if b2 = 0 ∨ b2 = 1 then some (some (.inl (b2)), GF, M) else none := by
  rw [pr_st]; rfl
set_option maxRecDepth 20000 in
theorem sg_X12_checkAll_0 {sc : List Int} {orc : q_O} {M : q_M} {F : Nat} : pr sc orc 185 (F + 1) 0 [some (.inr (.inr 49)), none] [] M =
  if 0 < (M 49 34) then
    pr sc orc 185 F 18 [some (.inr (.inr 49)), some (.inl (0))] [] (q_up M 49 40 1)
  else
    pr sc orc 185 F 18 [some (.inr (.inr 49)), some (.inl (0))] [] (q_up M 49 40 0) := by
  rw [pr_st]; rfl
set_option maxRecDepth 20000 in
theorem sg_X12_checkAll_18 {sc : List Int} {orc : q_O} {M : q_M} {F : Nat} {b1 : Int} : pr sc orc 185 (F + 1) 18 [some (.inr (.inr 49)), some (.inl (b1))] [] M =
  if b1 < (M 49 23) then
    if (M 49 40) = 0 then
      if 0 ≤ b1 ∧ b1 < ((5 : Nat) : Int) then
      if (M 62 (b1 : Int).toNat) = 0 then
        pr sc orc 185 F 18 [some (.inr (.inr 49)), some (.inl (q_w (b1 + (1))))] [] (q_up M 49 40 0)
      else
        pr sc orc 185 F 18 [some (.inr (.inr 49)), some (.inl (q_w (b1 + (1))))] [] (q_up M 49 40 1)
      else none
    else
      pr sc orc 185 F 18 [some (.inr (.inr 49)), some (.inl (q_w (b1 + (1))))] [] (q_up M 49 40 1)
  else
    pr sc orc 185 F 59 [some (.inr (.inr 49)), some (.inl (0))] [] M := by
  rw [pr_st]; rfl
set_option maxRecDepth 20000 in
theorem sg_X12_checkAll_59 {sc : List Int} {orc : q_O} {M : q_M} {F : Nat} {b1 : Int} : pr sc orc 185 (F + 1) 59 [some (.inr (.inr 49)), some (.inl (b1))] [] M =
  if b1 < (M 49 23) then
    if 0 ≤ b1 ∧ b1 < ((5 : Nat) : Int) then
    if (M 62 (b1 : Int).toNat) = 207 then
      pr sc orc 185 F 59 [some (.inr (.inr 49)), some (.inl (q_w (b1 + (1))))] [] M
    else
      if 0 ≤ b1 ∧ b1 < ((5 : Nat) : Int) then
      q_c0 (orc 182 [.inr (.inr 49), .inl (M 63 (b1 : Int).toNat), .inl (M 49 26)] GF M) GF (fun M1 =>
      if (M1 49 40) = 0 then
        pr sc orc 185 F 59 [some (.inr (.inr 49)), some (.inl (q_w (b1 + (1))))] [] M1
      else
        if 0 ≤ b1 ∧ b1 < ((5 : Nat) : Int) then
        if (M1 62 (b1 : Int).toNat) = 0 then
          if 0 ≤ b1 ∧ b1 < ((5 : Nat) : Int) then
          q_cI (orc 184 [.inr (.inr 49), .inl (M1 63 (b1 : Int).toNat)] GF M1) GF (fun x3 M2 =>
          if x3 = 0 then
            if 0 ≤ b1 ∧ b1 < ((5 : Nat) : Int) then
            q_c0 (orc 179 [.inr (.inr 49), .inl (M2 63 (b1 : Int).toNat)] GF M2) GF (fun M4 =>
            pr sc orc 185 F 59 [some (.inr (.inr 49)), some (.inl (q_w (b1 + (1))))] [] M4)
            else none
          else
            pr sc orc 185 F 59 [some (.inr (.inr 49)), some (.inl (q_w (b1 + (1))))] [] M2)
          else none
        else
          pr sc orc 185 F 59 [some (.inr (.inr 49)), some (.inl (q_w (b1 + (1))))] [] M1
        else none)
      else none
    else none
  else
    pr sc orc 185 F 143 [some (.inr (.inr 49)), some (.inl (0))] [] M := by
  rw [pr_st]; rfl
set_option maxRecDepth 20000 in
theorem sg_X12_checkAll_143 {sc : List Int} {orc : q_O} {M : q_M} {F : Nat} {b1 : Int} : pr sc orc 185 (F + 1) 143 [some (.inr (.inr 49)), some (.inl (b1))] [] M =
  if b1 < (M 49 26) then
    if 0 ≤ b1 ∧ b1 < ((4 : Nat) : Int) then
    q_cI (orc 150 [.inr (.inr 49), .inl (M 64 (b1 : Int).toNat)] GF M) GF (fun x3 M2 =>
    if x3 = 0 then
      if 0 ≤ b1 ∧ b1 < ((4 : Nat) : Int) then
      q_c0 (orc 179 [.inr (.inr 49), .inl (M2 65 (b1 : Int).toNat)] GF M2) GF (fun M9 =>
      if 0 ≤ b1 ∧ b1 < ((4 : Nat) : Int) then
      q_cI (orc 180 [.inr (.inr 49), .inl (q_w (M9 65 (b1 : Int).toNat + 1))] GF M9) GF (fun x11 M10 =>
      if x11 < b1 then
        if 0 ≤ b1 ∧ b1 < ((4 : Nat) : Int) then
        q_c0 (orc 179 [.inr (.inr 49), .inl (q_w (M10 65 (b1 : Int).toNat + 1))] GF M10) GF (fun M13 =>
        if 0 < b1 then
          if 0 ≤ b1 ∧ b1 < ((4 : Nat) : Int) then
          if 0 ≤ b1 ∧ b1 < ((4 : Nat) : Int) then
          q_c0 (orc 183 [.inr (.inr 49), .inl (M13 67 (b1 : Int).toNat), .inl (M13 68 (b1 : Int).toNat), .inl (b1)] GF M13) GF (fun M14 =>
          pr sc orc 185 F 143 [some (.inr (.inr 49)), some (.inl (q_w (b1 + (1))))] [] M14)
          else none
          else none
        else
          pr sc orc 185 F 143 [some (.inr (.inr 49)), some (.inl (q_w (b1 + (1))))] [] M13)
        else none
      else
        if 0 < b1 then
          if 0 ≤ b1 ∧ b1 < ((4 : Nat) : Int) then
          if 0 ≤ b1 ∧ b1 < ((4 : Nat) : Int) then
          q_c0 (orc 183 [.inr (.inr 49), .inl (M10 67 (b1 : Int).toNat), .inl (M10 68 (b1 : Int).toNat), .inl (b1)] GF M10) GF (fun M12 =>
          pr sc orc 185 F 143 [some (.inr (.inr 49)), some (.inl (q_w (b1 + (1))))] [] M12)
          else none
          else none
        else
          pr sc orc 185 F 143 [some (.inr (.inr 49)), some (.inl (q_w (b1 + (1))))] [] M10)
      else none)
      else none
    else
      if 0 ≤ b1 ∧ b1 < ((4 : Nat) : Int) then
      q_cI (orc 180 [.inr (.inr 49), .inl (q_w (M2 65 (b1 : Int).toNat + 1))] GF M2) GF (fun x5 M4 =>
      if x5 < b1 then
        if 0 ≤ b1 ∧ b1 < ((4 : Nat) : Int) then
        q_c0 (orc 179 [.inr (.inr 49), .inl (q_w (M4 65 (b1 : Int).toNat + 1))] GF M4) GF (fun M7 =>
        if 0 < b1 then
          if 0 ≤ b1 ∧ b1 < ((4 : Nat) : Int) then
          if 0 ≤ b1 ∧ b1 < ((4 : Nat) : Int) then
          q_c0 (orc 183 [.inr (.inr 49), .inl (M7 67 (b1 : Int).toNat), .inl (M7 68 (b1 : Int).toNat), .inl (b1)] GF M7) GF (fun M8 =>
          pr sc orc 185 F 143 [some (.inr (.inr 49)), some (.inl (q_w (b1 + (1))))] [] M8)
          else none
          else none
        else
          pr sc orc 185 F 143 [some (.inr (.inr 49)), some (.inl (q_w (b1 + (1))))] [] M7)
        else none
      else
        if 0 < b1 then
          if 0 ≤ b1 ∧ b1 < ((4 : Nat) : Int) then
          if 0 ≤ b1 ∧ b1 < ((4 : Nat) : Int) then
          q_c0 (orc 183 [.inr (.inr 49), .inl (M4 67 (b1 : Int).toNat), .inl (M4 68 (b1 : Int).toNat), .inl (b1)] GF M4) GF (fun M6 =>
          pr sc orc 185 F 143 [some (.inr (.inr 49)), some (.inl (q_w (b1 + (1))))] [] M6)
          else none
          else none
        else
          pr sc orc 185 F 143 [some (.inr (.inr 49)), some (.inl (q_w (b1 + (1))))] [] M4)
      else none)
    else none
  else
    q_c0 (orc 183 [.inr (.inr 49), .inl (M 49 32), .inl (M 49 33), .inl (M 49 26)] GF M) GF (fun M1 =>
    pr sc orc 185 F 247 [some (.inr (.inr 49)), some (.inl (0))] [] M1) := by
  rw [pr_st]; rfl
set_option maxRecDepth 20000 in
theorem sg_X12_checkAll_247 {sc : List Int} {orc : q_O} {M : q_M} {F : Nat} {b1 : Int} : pr sc orc 185 (F + 1) 247 [some (.inr (.inr 49)), some (.inl (b1))] [] M =
  if b1 < (M 49 34) then
    if 0 ≤ b1 ∧ b1 < ((4 : Nat) : Int) then
    q_c0 (orc 182 [.inr (.inr 49), .inl (M 69 (b1 : Int).toNat), .inl (M 49 26)] GF M) GF (fun M1 =>
    pr sc orc 185 F 247 [some (.inr (.inr 49)), some (.inl (q_w (b1 + (1))))] [] M1)
    else none
  else
    some (none, GF, M) := by
  rw [pr_st]; rfl
set_option maxRecDepth 20000 in
theorem sg_X12_addPart_0 {sc : List Int} {orc : q_O} {M : q_M} {F : Nat} {a1 a2 : Int} : pr sc orc 186 (F + 1) 0 [some (.inr (.inr 49)), some (.inl (a1)), some (.inl (a2)), none, none] [] M =
  if 0 ≤ M 49 36 ∧ M 49 36 < ((40 : Nat) : Int) then
  if 0 ≤ M 49 36 ∧ M 49 36 < ((40 : Nat) : Int) then
  if 0 ≤ M 49 36 ∧ M 49 36 < ((40 : Nat) : Int) then
  pr sc orc 186 F 32 [some (.inr (.inr 49)), none, some (.inl (a2)), some (.inl (a1)), none] [] (q_up (q_up (q_up M 70 ((M 49 36 : Int).toNat) a1) 71 ((M 49 36 : Int).toNat) a2) 72 ((M 49 36 : Int).toNat) 0)
  else none
  else none
  else none := by
  rw [pr_st]; rfl
set_option maxRecDepth 20000 in
theorem sg_X12_addPart_32 {sc : List Int} {orc : q_O} {M : q_M} {F : Nat} {b2 b3 : Int} : pr sc orc 186 (F + 1) 32 [some (.inr (.inr 49)), none, some (.inl (b2)), some (.inl (b3)), none] [] M =
  if b3 < b2 then
    if 0 ≤ b3 ∧ b3 < ((132 : Nat) : Int) then
    q_cI (orc 168 [.inl (M 58 (b3 : Int).toNat), .inl (220), .inl (4)] GF M) GF (fun x2 M1 =>
    if x2 = 0 then
      pr sc orc 186 F 32 [some (.inr (.inr 49)), none, some (.inl (b2)), some (.inl (q_w (b3 + (1)))), none] [] M1
    else
      q_cI (orc 180 [.inr (.inr 49), .inl (b3)] GF M1) GF (fun x4 M3 =>
      if 0 ≤ M3 49 36 ∧ M3 49 36 < ((40 : Nat) : Int) then
      if (M3 72 (M3 49 36 : Int).toNat) < x4 then
        if 0 ≤ M3 49 36 ∧ M3 49 36 < ((40 : Nat) : Int) then
        pr sc orc 186 F 32 [some (.inr (.inr 49)), none, some (.inl (b2)), some (.inl (q_w (b3 + (1)))), none] [] (q_up M3 72 ((M3 49 36 : Int).toNat) x4)
        else none
      else
        if 0 ≤ M3 49 36 ∧ M3 49 36 < ((40 : Nat) : Int) then
        if 0 ≤ M3 49 36 ∧ M3 49 36 < ((40 : Nat) : Int) then
        pr sc orc 186 F 32 [some (.inr (.inr 49)), none, some (.inl (b2)), some (.inl (q_w (b3 + (1)))), none] [] (q_up M3 72 ((M3 49 36 : Int).toNat) (M3 72 (M3 49 36 : Int).toNat))
        else none
        else none
      else none))
    else none
  else
    some (none, GF, (q_up M 49 36 (q_w (M 49 36 + 1)))) := by
  rw [pr_st]; rfl
set_option maxRecDepth 20000 in
theorem sg_X12_findParts_0 {sc : List Int} {orc : q_O} {M : q_M} {F : Nat} : pr sc orc 187 (F + 1) 0 [some (.inr (.inr 49)), none, none, none, none] [] M =
  if (M 49 33) = (M 49 32) then
    some (none, GF, (q_up M 49 36 0))
  else
    pr sc orc 187 F 26 [some (.inr (.inr 49)), some (.inl (1)), some (.inl (0)), some (.inl (M 49 32)), none] [] (q_up M 49 36 0) := by
  rw [pr_st]; rfl
set_option maxRecDepth 20000 in
theorem sg_X12_findParts_26 {sc : List Int} {orc : q_O} {M : q_M} {F : Nat} {b1 b2 b3 : Int} : pr sc orc 187 (F + 1) 26 [some (.inr (.inr 49)), some (.inl (b1)), some (.inl (b2)), some (.inl (b3)), none] [] M =
  if b3 < (M 49 33) then
    if 0 ≤ b3 ∧ b3 < ((132 : Nat) : Int) then
    if (M 58 (b3 : Int).toNat) = 40 then
      if b1 = 0 then
        pr sc orc 187 F 26 [some (.inr (.inr 49)), some (.inl (0)), some (.inl (q_w (b2 + 1))), some (.inl (q_w (b3 + (1)))), none] [] M
      else
        if 0 < (q_w (b2 + 1)) then
          pr sc orc 187 F 26 [some (.inr (.inr 49)), some (.inl (1)), some (.inl (q_w (b2 + 1))), some (.inl (q_w (b3 + (1)))), none] [] M
        else
          if 0 ≤ b3 ∧ b3 < ((132 : Nat) : Int) then
          if (M 58 (b3 : Int).toNat) = 211 then
            pr sc orc 187 F 26 [some (.inr (.inr 49)), some (.inl (0)), some (.inl (q_w (b2 + 1))), some (.inl (q_w (b3 + (1)))), none] [] M
          else
            pr sc orc 187 F 26 [some (.inr (.inr 49)), some (.inl (1)), some (.inl (q_w (b2 + 1))), some (.inl (q_w (b3 + (1)))), none] [] M
          else none
    else
      if 0 ≤ b3 ∧ b3 < ((132 : Nat) : Int) then
      if (M 58 (b3 : Int).toNat) = 41 then
        if b1 = 0 then
          pr sc orc 187 F 26 [some (.inr (.inr 49)), some (.inl (0)), some (.inl (q_w (b2 - 1))), some (.inl (q_w (b3 + (1)))), none] [] M
        else
          if 0 < (q_w (b2 - 1)) then
            pr sc orc 187 F 26 [some (.inr (.inr 49)), some (.inl (1)), some (.inl (q_w (b2 - 1))), some (.inl (q_w (b3 + (1)))), none] [] M
          else
            if 0 ≤ b3 ∧ b3 < ((132 : Nat) : Int) then
            if (M 58 (b3 : Int).toNat) = 211 then
              pr sc orc 187 F 26 [some (.inr (.inr 49)), some (.inl (0)), some (.inl (q_w (b2 - 1))), some (.inl (q_w (b3 + (1)))), none] [] M
            else
              pr sc orc 187 F 26 [some (.inr (.inr 49)), some (.inl (1)), some (.inl (q_w (b2 - 1))), some (.inl (q_w (b3 + (1)))), none] [] M
            else none
      else
        if b1 = 0 then
          pr sc orc 187 F 26 [some (.inr (.inr 49)), some (.inl (0)), some (.inl (b2)), some (.inl (q_w (b3 + (1)))), none] [] M
        else
          if 0 < b2 then
            pr sc orc 187 F 26 [some (.inr (.inr 49)), some (.inl (1)), some (.inl (b2)), some (.inl (q_w (b3 + (1)))), none] [] M
          else
            if 0 ≤ b3 ∧ b3 < ((132 : Nat) : Int) then
            if (M 58 (b3 : Int).toNat) = 211 then
              pr sc orc 187 F 26 [some (.inr (.inr 49)), some (.inl (0)), some (.inl (b2)), some (.inl (q_w (b3 + (1)))), none] [] M
            else
              pr sc orc 187 F 26 [some (.inr (.inr 49)), some (.inl (1)), some (.inl (b2)), some (.inl (q_w (b3 + (1)))), none] [] M
            else none
      else none
    else none
  else
    pr sc orc 187 F 113 [some (.inr (.inr 49)), some (.inl (b1)), some (.inl (b2)), some (.inl (M 49 32)), some (.inl (M 49 32))] [] M := by
  rw [pr_st]; rfl
set_option maxRecDepth 20000 in
theorem sg_X12_findParts_113 {sc : List Int} {orc : q_O} {M : q_M} {F : Nat} {b1 b2 b3 b4 : Int} : pr sc orc 187 (F + 1) 113 [some (.inr (.inr 49)), some (.inl (b1)), some (.inl (b2)), some (.inl (b3)), some (.inl (b4))] [] M =
  if b4 < (M 49 33) then
    if b1 = 0 then
      q_c0 (orc 186 [.inr (.inr 49), .inl (b3), .inl (M 49 33)] GF M) GF (fun M2 =>
      some (none, GF, M2))
    else
      if 0 ≤ b4 ∧ b4 < ((132 : Nat) : Int) then
      if (M 58 (b4 : Int).toNat) = 40 then
        if (q_w (b2 + 1)) = 0 then
          if 0 ≤ b4 ∧ b4 < ((132 : Nat) : Int) then
          if (M 58 (b4 : Int).toNat) = 212 then
            q_c0 (orc 186 [.inr (.inr 49), .inl (b3), .inl (b4)] GF M) GF (fun M5 =>
            pr sc orc 187 F 113 [some (.inr (.inr 49)), some (.inl (b1)), some (.inl (q_w (b2 + 1))), some (.inl (q_w (b4 + 1))), some (.inl (q_w (b4 + (1))))] [] M5)
          else
            pr sc orc 187 F 113 [some (.inr (.inr 49)), some (.inl (b1)), some (.inl (q_w (b2 + 1))), some (.inl (b3)), some (.inl (q_w (b4 + (1))))] [] M
          else none
        else
          pr sc orc 187 F 113 [some (.inr (.inr 49)), some (.inl (b1)), some (.inl (q_w (b2 + 1))), some (.inl (b3)), some (.inl (q_w (b4 + (1))))] [] M
      else
        if 0 ≤ b4 ∧ b4 < ((132 : Nat) : Int) then
        if (M 58 (b4 : Int).toNat) = 41 then
          if (q_w (b2 - 1)) = 0 then
            if 0 ≤ b4 ∧ b4 < ((132 : Nat) : Int) then
            if (M 58 (b4 : Int).toNat) = 212 then
              q_c0 (orc 186 [.inr (.inr 49), .inl (b3), .inl (b4)] GF M) GF (fun M4 =>
              pr sc orc 187 F 113 [some (.inr (.inr 49)), some (.inl (b1)), some (.inl (q_w (b2 - 1))), some (.inl (q_w (b4 + 1))), some (.inl (q_w (b4 + (1))))] [] M4)
            else
              pr sc orc 187 F 113 [some (.inr (.inr 49)), some (.inl (b1)), some (.inl (q_w (b2 - 1))), some (.inl (b3)), some (.inl (q_w (b4 + (1))))] [] M
            else none
          else
            pr sc orc 187 F 113 [some (.inr (.inr 49)), some (.inl (b1)), some (.inl (q_w (b2 - 1))), some (.inl (b3)), some (.inl (q_w (b4 + (1))))] [] M
        else
          if b2 = 0 then
            if 0 ≤ b4 ∧ b4 < ((132 : Nat) : Int) then
            if (M 58 (b4 : Int).toNat) = 212 then
              q_c0 (orc 186 [.inr (.inr 49), .inl (b3), .inl (b4)] GF M) GF (fun M3 =>
              pr sc orc 187 F 113 [some (.inr (.inr 49)), some (.inl (b1)), some (.inl (b2)), some (.inl (q_w (b4 + 1))), some (.inl (q_w (b4 + (1))))] [] M3)
            else
              pr sc orc 187 F 113 [some (.inr (.inr 49)), some (.inl (b1)), some (.inl (b2)), some (.inl (b3)), some (.inl (q_w (b4 + (1))))] [] M
            else none
          else
            pr sc orc 187 F 113 [some (.inr (.inr 49)), some (.inl (b1)), some (.inl (b2)), some (.inl (b3)), some (.inl (q_w (b4 + (1))))] [] M
        else none
      else none
  else
    q_c0 (orc 186 [.inr (.inr 49), .inl (b3), .inl (M 49 33)] GF M) GF (fun M1 =>
    some (none, GF, M1)) := by
  rw [pr_st]; rfl
set_option maxRecDepth 20000 in
theorem sg_X12_compile_0 {sc : List Int} {orc : q_O} {M : q_M} {F : Nat} : pr sc orc 188 (F + 1) 0 [some (.inr (.inr 49))] [] M =
  q_c0 (orc 178 [.inr (.inr 49)] GF (q_up (q_up (q_up (q_up (q_up (q_up (q_up M 49 1 0) 49 22 0) 49 49 0) 49 12 0) 49 14 0) 49 15 0) 49 16 0)) GF (fun M1 =>
  if (M1 49 12) = 0 then
    q_c0 (orc 185 [.inr (.inr 49)] GF M1) GF (fun M8 =>
    if (M8 49 12) = 0 then
      if (M8 49 12) = 0 then
        q_c0 (orc 187 [.inr (.inr 49)] GF (q_up (q_up M8 49 9 0) 49 11 (-1))) GF (fun M9 =>
        some (some (.inl (M9 49 26)), GF, (q_up M9 49 22 1)))
      else
        q_cI (orc 149 [.inr (.inr 49), .inl (1)] GF (q_up (q_up M8 49 9 0) 49 11 (-1))) GF (fun x11 M10 =>
        some (some (.inl (x11)), GF, M10))
    else
      if (M8 49 12) = 0 then
        q_c0 (orc 187 [.inr (.inr 49)] GF (q_up (q_up M8 49 9 0) 49 11 (M8 49 13))) GF (fun M12 =>
        some (some (.inl (M12 49 26)), GF, (q_up M12 49 22 1)))
      else
        q_cI (orc 149 [.inr (.inr 49), .inl (1)] GF (q_up (q_up M8 49 9 0) 49 11 (M8 49 13))) GF (fun x14 M13 =>
        some (some (.inl (x14)), GF, M13)))
  else
    if (M1 49 12) = 0 then
      if (M1 49 12) = 0 then
        q_c0 (orc 187 [.inr (.inr 49)] GF (q_up (q_up M1 49 9 0) 49 11 (-1))) GF (fun M2 =>
        some (some (.inl (M2 49 26)), GF, (q_up M2 49 22 1)))
      else
        q_cI (orc 149 [.inr (.inr 49), .inl (1)] GF (q_up (q_up M1 49 9 0) 49 11 (-1))) GF (fun x4 M3 =>
        some (some (.inl (x4)), GF, M3))
    else
      if (M1 49 12) = 0 then
        q_c0 (orc 187 [.inr (.inr 49)] GF (q_up (q_up M1 49 9 0) 49 11 (M1 49 13))) GF (fun M5 =>
        some (some (.inl (M5 49 26)), GF, (q_up M5 49 22 1)))
      else
        q_cI (orc 149 [.inr (.inr 49), .inl (1)] GF (q_up (q_up M1 49 9 0) 49 11 (M1 49 13))) GF (fun x7 M6 =>
        some (some (.inl (x7)), GF, M6))) := by
  rw [pr_st]; rfl
set_option maxRecDepth 20000 in
theorem sg_X12_place_0 {sc : List Int} {orc : q_O} {M : q_M} {F : Nat} : pr sc orc 189 (F + 1) 0 [some (.inr (.inr 49))] [] M =
  some (some (.inl (M 49 11)), GF, (q_up M 49 1 0)) := by
  rw [pr_st]; rfl
set_option maxRecDepth 20000 in
theorem sg_X12_takeOperand_0 {sc : List Int} {orc : q_O} {M : q_M} {F : Nat} {a1 : Int} : pr sc orc 190 (F + 1) 0 [some (.inr (.inr 49)), some (.inl (a1)), none] [] M =
  if 0 ≤ a1 ∧ a1 < ((132 : Nat) : Int) then
  if (M 58 (a1 : Int).toNat) = 215 then
    if 1 = 0 then
      if 0 ≤ a1 ∧ a1 < ((132 : Nat) : Int) then
      if (M 58 (a1 : Int).toNat) = 1 then
        if 0 ≤ a1 ∧ a1 < ((132 : Nat) : Int) then
        some (some (.inl (1)), GF, (q_up (q_up (q_up M 49 44 1) 49 45 0) 49 45 (M 60 (a1 : Int).toNat)))
        else none
      else
        q_cI (orc 180 [.inr (.inr 49), .inl (a1)] GF (q_up (q_up M 49 44 1) 49 45 0)) GF (fun x7 M6 =>
        q_cI (orc 181 [.inr (.inr 49), .inl (a1)] GF M6) GF (fun x9 M8 =>
        q_c0 (orc 191 [.inr (.inr 49), .inl (x7), .inl (x9)] GF M8) GF (fun M10 =>
        some (some (.inl (3)), GF, M10))))
      else none
    else
      some (some (.inl (1)), GF, (q_up (q_up M 49 44 1) 49 45 0))
  else
    if 0 = 0 then
      if 0 ≤ a1 ∧ a1 < ((132 : Nat) : Int) then
      if (M 58 (a1 : Int).toNat) = 1 then
        if 0 ≤ a1 ∧ a1 < ((132 : Nat) : Int) then
        some (some (.inl (1)), GF, (q_up (q_up (q_up M 49 44 0) 49 45 0) 49 45 (M 60 (a1 : Int).toNat)))
        else none
      else
        q_cI (orc 180 [.inr (.inr 49), .inl (a1)] GF (q_up (q_up M 49 44 0) 49 45 0)) GF (fun x2 M1 =>
        q_cI (orc 181 [.inr (.inr 49), .inl (a1)] GF M1) GF (fun x4 M3 =>
        q_c0 (orc 191 [.inr (.inr 49), .inl (x2), .inl (x4)] GF M3) GF (fun M5 =>
        some (some (.inl (3)), GF, M5))))
      else none
    else
      some (some (.inl (1)), GF, (q_up (q_up M 49 44 0) 49 45 0))
  else none := by
  rw [pr_st]; rfl
set_option maxRecDepth 20000 in
theorem sg_X12_fetch_0 {sc : List Int} {orc : q_O} {M : q_M} {F : Nat} {a1 a2 : Int} : pr sc orc 191 (F + 1) 0 [some (.inr (.inr 49)), some (.inl (a1)), some (.inl (a2)), none] [] M =
  if 0 ≤ a1 ∧ a1 < ((3 : Nat) : Int) then
  if (M 76 (a1 : Int).toNat) < 0 then
    if 1 = 0 then
      if 0 ≤ a1 ∧ a1 < ((4 : Nat) : Int) then
      if 0 ≤ a1 ∧ a1 < ((3 : Nat) : Int) then
      pr sc orc 191 F 52 [some (.inr (.inr 49)), none, none, some (.inl (q_w (q_w (q_w (40 * (M 64 (a1 : Int).toNat)) + (q_w (4 * (M 76 (a1 : Int).toNat)))) + a2)))] [] (q_up (q_up M 49 44 1) 49 45 0)
      else none
      else none
    else
      some (none, GF, (q_up (q_up M 49 44 1) 49 45 0))
  else
    if 0 = 0 then
      if 0 ≤ a1 ∧ a1 < ((4 : Nat) : Int) then
      if 0 ≤ a1 ∧ a1 < ((3 : Nat) : Int) then
      pr sc orc 191 F 52 [some (.inr (.inr 49)), none, none, some (.inl (q_w (q_w (q_w (40 * (M 64 (a1 : Int).toNat)) + (q_w (4 * (M 76 (a1 : Int).toNat)))) + a2)))] [] (q_up (q_up M 49 44 0) 49 45 0)
      else none
      else none
    else
      some (none, GF, (q_up (q_up M 49 44 0) 49 45 0))
  else none := by
  rw [pr_st]; rfl
set_option maxRecDepth 20000 in
theorem sg_X12_fetch_52 {sc : List Int} {orc : q_O} {M : q_M} {F : Nat} {b3 : Int} : pr sc orc 191 (F + 1) 52 [some (.inr (.inr 49)), none, none, some (.inl (b3))] [] M =
  if 0 ≤ b3 ∧ b3 < ((120 : Nat) : Int) then
  if (M 54 (b3 : Int).toNat) = 0 ∨ (M 54 (b3 : Int).toNat) = 1 then
  if 0 ≤ b3 ∧ b3 < ((120 : Nat) : Int) then
  if (M 54 (b3 : Int).toNat) = 0 then
    if 0 ≤ b3 ∧ b3 < ((120 : Nat) : Int) then
    some (none, GF, (q_up (q_up M 49 44 (M 54 (b3 : Int).toNat)) 49 45 (M 53 (b3 : Int).toNat)))
    else none
  else
    some (none, GF, (q_up (q_up M 49 44 (M 54 (b3 : Int).toNat)) 49 45 0))
  else none
  else none
  else none := by
  rw [pr_st]; rfl
end
section
set_option maxRecDepth 20000 in
theorem sg_X12_not_0 {sc : List Int} {orc : q_O} {M : q_M} {F : Nat} {a1 : Int} : pr sc orc 192 (F + 1) 0 [some (.inl (a1))] [] M =
  if a1 = 2 then
    some (some (.inl (2)), GF, M)
  else
    some (some (.inl (q_w (1 - a1))), GF, M) := by
  rw [pr_st]; rfl
set_option maxRecDepth 20000 in
theorem sg_X12_both_0 {sc : List Int} {orc : q_O} {M : q_M} {F : Nat} {a1 a2 : Int} : pr sc orc 193 (F + 1) 0 [some (.inl (a1)), some (.inl (a2))] [] M =
  if a1 = 0 then
    some (some (.inl (0)), GF, M)
  else
    if a2 = 0 then
      some (some (.inl (0)), GF, M)
    else
      if a1 = 2 then
        some (some (.inl (2)), GF, M)
      else
        if a2 = 2 then
          some (some (.inl (2)), GF, M)
        else
          some (some (.inl (1)), GF, M) := by
  rw [pr_st]; rfl
set_option maxRecDepth 20000 in
theorem sg_X12_either_0 {sc : List Int} {orc : q_O} {M : q_M} {F : Nat} {a1 a2 : Int} : pr sc orc 194 (F + 1) 0 [some (.inl (a1)), some (.inl (a2))] [] M =
  if a1 = 1 then
    some (some (.inl (1)), GF, M)
  else
    if a2 = 1 then
      some (some (.inl (1)), GF, M)
    else
      if a1 = 2 then
        some (some (.inl (2)), GF, M)
      else
        if a2 = 2 then
          some (some (.inl (2)), GF, M)
        else
          some (some (.inl (0)), GF, M) := by
  rw [pr_st]; rfl
set_option maxRecDepth 20000 in
theorem sg_X12_compare_0 {sc : List Int} {orc : q_O} {M : q_M} {F : Nat} {a1 : Int} : pr sc orc 195 (F + 1) 0 [some (.inr (.inr 49)), some (.inl (a1)), none, none, none, none, none] [] M =
  q_cI (orc 190 [.inr (.inr 49), .inl (a1)] GF M) GF (fun x2 M1 =>
  if 0 ≤ q_w (a1 + x2) ∧ q_w (a1 + x2) < ((132 : Nat) : Int) then
  if (M1 58 (q_w (a1 + x2) : Int).toNat) = 214 then
    if (M1 49 44) = 0 then
      some (some (.inl (q_w (q_w (a1 + x2) + 2))), GF, (q_up M1 49 54 0))
    else
      some (some (.inl (q_w (q_w (a1 + x2) + 2))), GF, (q_up M1 49 54 1))
  else
    if 0 ≤ q_w (a1 + x2) ∧ q_w (a1 + x2) < ((132 : Nat) : Int) then
    q_cI (orc 190 [.inr (.inr 49), .inl (q_w (q_w (a1 + x2) + (1)))] GF M1) GF (fun x4 M3 =>
    if (M1 58 (q_w (a1 + x2) : Int).toNat) = 61 then
      if (M1 49 45) = (M3 49 45) then
        pr sc orc 195 F 131 [some (.inr (.inr 49)), none, some (.inl (q_w (q_w (q_w (a1 + x2) + (1)) + x4))), some (.inl (M1 49 44)), none, none, some (.inl (1))] [] M3
      else
        pr sc orc 195 F 131 [some (.inr (.inr 49)), none, some (.inl (q_w (q_w (q_w (a1 + x2) + (1)) + x4))), some (.inl (M1 49 44)), none, none, some (.inl (0))] [] M3
    else
      if (M1 58 (q_w (a1 + x2) : Int).toNat) = 60 then
        if (M1 49 45) < (M3 49 45) then
          pr sc orc 195 F 131 [some (.inr (.inr 49)), none, some (.inl (q_w (q_w (q_w (a1 + x2) + (1)) + x4))), some (.inl (M1 49 44)), none, none, some (.inl (1))] [] M3
        else
          pr sc orc 195 F 131 [some (.inr (.inr 49)), none, some (.inl (q_w (q_w (q_w (a1 + x2) + (1)) + x4))), some (.inl (M1 49 44)), none, none, some (.inl (0))] [] M3
      else
        if (M3 49 45) < (M1 49 45) then
          pr sc orc 195 F 131 [some (.inr (.inr 49)), none, some (.inl (q_w (q_w (q_w (a1 + x2) + (1)) + x4))), some (.inl (M1 49 44)), none, none, some (.inl (1))] [] M3
        else
          pr sc orc 195 F 131 [some (.inr (.inr 49)), none, some (.inl (q_w (q_w (q_w (a1 + x2) + (1)) + x4))), some (.inl (M1 49 44)), none, none, some (.inl (0))] [] M3)
    else none
  else none) := by
  rw [pr_st]; rfl
set_option maxRecDepth 20000 in
theorem sg_X12_compare_131 {sc : List Int} {orc : q_O} {M : q_M} {F : Nat} {b2 b3 b6 : Int} : pr sc orc 195 (F + 1) 131 [some (.inr (.inr 49)), none, some (.inl (b2)), some (.inl (b3)), none, none, some (.inl (b6))] [] M =
  if b3 = 0 then
    if (M 49 44) = 0 then
      if b6 = 0 then
        some (some (.inl (b2)), GF, (q_up M 49 54 0))
      else
        some (some (.inl (b2)), GF, (q_up M 49 54 1))
    else
      some (some (.inl (b2)), GF, (q_up M 49 54 2))
  else
    some (some (.inl (b2)), GF, (q_up M 49 54 2)) := by
  rw [pr_st]; rfl
set_option maxRecDepth 20000 in
theorem sg_X12_truthOf_0 {sc : List Int} {orc : q_O} {M : q_M} {F : Nat} {a1 a2 : Int} : pr sc orc 196 (F + 1) 0 [some (.inr (.inr 49)), some (.inl (a1)), some (.inl (a2)), none, none, none, none] [] M =
  if 0 ≤ 0 ∧ 0 < ((8 : Nat) : Int) then
  if 0 ≤ 0 ∧ 0 < ((8 : Nat) : Int) then
  pr sc orc 196 F 22 [some (.inr (.inr 49)), none, some (.inl (a2)), some (.inl (0)), some (.inl (0)), some (.inl (a1)), none] [] (q_up (q_up M 73 ((0 : Int).toNat) 0) 74 ((0 : Int).toNat) 1)
  else none
  else none := by
  rw [pr_st]; rfl
set_option maxRecDepth 20000 in
theorem sg_X12_truthOf_22 {sc : List Int} {orc : q_O} {M : q_M} {F : Nat} {b2 b3 b4 b5 : Int} : pr sc orc 196 (F + 1) 22 [some (.inr (.inr 49)), none, some (.inl (b2)), some (.inl (b3)), some (.inl (b4)), some (.inl (b5)), none] [] M =
  if b5 < b2 then
    if 0 ≤ b5 ∧ b5 < ((132 : Nat) : Int) then
    if (M 58 (b5 : Int).toNat) = 213 then
      pr sc orc 196 F 22 [some (.inr (.inr 49)), none, some (.inl (b2)), some (.inl (b3)), some (.inl (q_w (b4 + (1)))), some (.inl (q_w (b5 + (1)))), none] [] M
    else
      if (M 58 (b5 : Int).toNat) = 40 then
        if 0 ≤ b3 ∧ b3 < ((8 : Nat) : Int) then
        if 0 ≤ q_w (b3 + (1)) ∧ q_w (b3 + (1)) < ((8 : Nat) : Int) then
        if 0 ≤ q_w (b3 + (1)) ∧ q_w (b3 + (1)) < ((8 : Nat) : Int) then
        pr sc orc 196 F 22 [some (.inr (.inr 49)), none, some (.inl (b2)), some (.inl (q_w (b3 + (1)))), some (.inl (0)), some (.inl (q_w (b5 + (1)))), none] [] (q_up (q_up (q_up M 75 ((b3 : Int).toNat) b4) 73 ((q_w (b3 + (1)) : Int).toNat) 0) 74 ((q_w (b3 + (1)) : Int).toNat) 1)
        else none
        else none
        else none
      else
        if (M 58 (b5 : Int).toNat) = 211 then
          if 0 ≤ b3 ∧ b3 < ((8 : Nat) : Int) then
          if 0 ≤ b3 ∧ b3 < ((8 : Nat) : Int) then
          q_cI (orc 194 [.inl (M 73 (b3 : Int).toNat), .inl (M 74 (b3 : Int).toNat)] GF M) GF (fun x8 M7 =>
          if 0 ≤ b3 ∧ b3 < ((8 : Nat) : Int) then
          if 0 ≤ b3 ∧ b3 < ((8 : Nat) : Int) then
          pr sc orc 196 F 22 [some (.inr (.inr 49)), none, some (.inl (b2)), some (.inl (b3)), some (.inl (b4)), some (.inl (q_w (b5 + (1)))), none] [] (q_up (q_up M7 73 ((b3 : Int).toNat) x8) 74 ((b3 : Int).toNat) 1)
          else none
          else none)
          else none
          else none
        else
          if (M 58 (b5 : Int).toNat) = 212 then
            pr sc orc 196 F 22 [some (.inr (.inr 49)), none, some (.inl (b2)), some (.inl (b3)), some (.inl (b4)), some (.inl (q_w (b5 + (1)))), none] [] M
          else
            if (M 58 (b5 : Int).toNat) = 41 then
              if 0 ≤ b3 ∧ b3 < ((8 : Nat) : Int) then
              if 0 ≤ b3 ∧ b3 < ((8 : Nat) : Int) then
              q_cI (orc 194 [.inl (M 73 (b3 : Int).toNat), .inl (M 74 (b3 : Int).toNat)] GF M) GF (fun x6 M5 =>
              if 0 ≤ q_w (b3 + (-1)) ∧ q_w (b3 + (-1)) < ((8 : Nat) : Int) then
              pr sc orc 196 F 202 [some (.inr (.inr 49)), none, some (.inl (b2)), some (.inl (q_w (b3 + (-1)))), some (.inl (M5 75 (q_w (b3 + (-1)) : Int).toNat)), some (.inl (q_w (b5 + (1)))), none] [] (q_up M5 49 54 x6)
              else none)
              else none
              else none
            else
              q_cI (orc 195 [.inr (.inr 49), .inl (b5)] GF M) GF (fun x4 M3 =>
              pr sc orc 196 F 202 [some (.inr (.inr 49)), none, some (.inl (b2)), some (.inl (b3)), some (.inl (b4)), some (.inl (x4)), none] [] M3)
    else none
  else
    if 0 ≤ 0 ∧ 0 < ((8 : Nat) : Int) then
    if 0 ≤ 0 ∧ 0 < ((8 : Nat) : Int) then
    q_cI (orc 194 [.inl (M 73 (0 : Int).toNat), .inl (M 74 (0 : Int).toNat)] GF M) GF (fun x2 M1 =>
    some (some (.inl (x2)), GF, M1))
    else none
    else none := by
  rw [pr_st]; rfl
set_option maxRecDepth 20000 in
theorem sg_X12_truthOf_202 {sc : List Int} {orc : q_O} {M : q_M} {F : Nat} {b2 b3 b4 b5 : Int} : pr sc orc 196 (F + 1) 202 [some (.inr (.inr 49)), none, some (.inl (b2)), some (.inl (b3)), some (.inl (b4)), some (.inl (b5)), none] [] M =
  if (2 : Int) = 2 ∧ 0 ≤ b4 then
  if (b4 % 2) = 1 then
    q_cI (orc 192 [.inl (M 49 54)] GF M) GF (fun x4 M3 =>
    if 0 ≤ b3 ∧ b3 < ((8 : Nat) : Int) then
    q_cI (orc 193 [.inl (M3 74 (b3 : Int).toNat), .inl (x4)] GF (q_up M3 49 54 x4)) GF (fun x6 M5 =>
    if 0 ≤ b3 ∧ b3 < ((8 : Nat) : Int) then
    pr sc orc 196 F 22 [some (.inr (.inr 49)), none, some (.inl (b2)), some (.inl (b3)), some (.inl (0)), some (.inl (b5)), none] [] (q_up M5 74 ((b3 : Int).toNat) x6)
    else none)
    else none)
  else
    if 0 ≤ b3 ∧ b3 < ((8 : Nat) : Int) then
    q_cI (orc 193 [.inl (M 74 (b3 : Int).toNat), .inl (M 49 54)] GF M) GF (fun x2 M1 =>
    if 0 ≤ b3 ∧ b3 < ((8 : Nat) : Int) then
    pr sc orc 196 F 22 [some (.inr (.inr 49)), none, some (.inl (b2)), some (.inl (b3)), some (.inl (0)), some (.inl (b5)), none] [] (q_up M1 74 ((b3 : Int).toNat) x2)
    else none)
    else none
  else none := by
  rw [pr_st]; rfl
set_option maxRecDepth 20000 in
theorem sg_X12_passes_0 {sc : List Int} {orc : q_O} {M : q_M} {F : Nat} {a1 : Int} : pr sc orc 197 (F + 1) 0 [some (.inr (.inr 49)), some (.inl (a1)), none, none] [] M =
  pr sc orc 197 F 4 [some (.inr (.inr 49)), some (.inl (a1)), some (.inl (1)), some (.inl (0))] [] M := by
  rw [pr_st]; rfl
set_option maxRecDepth 20000 in
theorem sg_X12_passes_4 {sc : List Int} {orc : q_O} {M : q_M} {F : Nat} {b1 b2 b3 : Int} : pr sc orc 197 (F + 1) 4 [some (.inr (.inr 49)), some (.inl (b1)), some (.inl (b2)), some (.inl (b3))] [] M =
  if b3 < (M 49 36) then
    if 0 ≤ b3 ∧ b3 < ((40 : Nat) : Int) then
    if (M 72 (b3 : Int).toNat) = b1 then
      if b2 = 0 then
        pr sc orc 197 F 4 [some (.inr (.inr 49)), some (.inl (b1)), some (.inl (0)), some (.inl (q_w (b3 + (1))))] [] M
      else
        if 0 ≤ b3 ∧ b3 < ((40 : Nat) : Int) then
        if 0 ≤ b3 ∧ b3 < ((40 : Nat) : Int) then
        q_cI (orc 196 [.inr (.inr 49), .inl (M 70 (b3 : Int).toNat), .inl (M 71 (b3 : Int).toNat)] GF M) GF (fun x2 M1 =>
        if x2 = 1 then
          pr sc orc 197 F 4 [some (.inr (.inr 49)), some (.inl (b1)), some (.inl (1)), some (.inl (q_w (b3 + (1))))] [] M1
        else
          pr sc orc 197 F 4 [some (.inr (.inr 49)), some (.inl (b1)), some (.inl (0)), some (.inl (q_w (b3 + (1))))] [] M1)
        else none
        else none
    else
      pr sc orc 197 F 4 [some (.inr (.inr 49)), some (.inl (b1)), some (.inl (b2)), some (.inl (q_w (b3 + (1))))] [] M
    else none
  else
    if b2 = 0 ∨ b2 = 1 then some (some (.inl (b2)), GF, M) else none := by
  rw [pr_st]; rfl
set_option maxRecDepth 20000 in
theorem sg_X12_sameKey_0 {sc : List Int} {orc : q_O} {M : q_M} {F : Nat} {a1 : Int} : pr sc orc 198 (F + 1) 0 [some (.inr (.inr 49)), some (.inl (a1)), none] [] M =
  pr sc orc 198 F 2 [some (.inr (.inr 49)), some (.inl (a1)), some (.inl (0))] [] M := by
  rw [pr_st]; rfl
set_option maxRecDepth 20000 in
theorem sg_X12_sameKey_2 {sc : List Int} {orc : q_O} {M : q_M} {F : Nat} {b1 b2 : Int} : pr sc orc 198 (F + 1) 2 [some (.inr (.inr 49)), some (.inl (b1)), some (.inl (b2))] [] M =
  if b2 < (M 49 34) then
    if 0 ≤ b2 ∧ b2 < ((4 : Nat) : Int) then
    q_cI (orc 180 [.inr (.inr 49), .inl (M 69 (b2 : Int).toNat)] GF M) GF (fun x2 M1 =>
    if 0 ≤ b2 ∧ b2 < ((4 : Nat) : Int) then
    q_cI (orc 181 [.inr (.inr 49), .inl (M1 69 (b2 : Int).toNat)] GF M1) GF (fun x4 M3 =>
    q_c0 (orc 191 [.inr (.inr 49), .inl (x2), .inl (x4)] GF M3) GF (fun M5 =>
    if 0 ≤ q_w (q_w (3 * b1) + b2) ∧ q_w (q_w (3 * b1) + b2) < ((90 : Nat) : Int) then
    if (M5 79 (q_w (q_w (3 * b1) + b2) : Int).toNat) = (M5 49 44) then
      if 0 ≤ q_w (q_w (3 * b1) + b2) ∧ q_w (q_w (3 * b1) + b2) < ((90 : Nat) : Int) then
      if (M5 80 (q_w (q_w (3 * b1) + b2) : Int).toNat) = (M5 49 45) then
        pr sc orc 198 F 2 [some (.inr (.inr 49)), some (.inl (b1)), some (.inl (q_w (b2 + (1))))] [] M5
      else
        some (some (.inl (0)), GF, M5)
      else none
    else
      some (some (.inl (0)), GF, M5)
    else none))
    else none)
    else none
  else
    some (some (.inl (1)), GF, M) := by
  rw [pr_st]; rfl
set_option maxRecDepth 20000 in
theorem sg_X12_newRow_0 {sc : List Int} {orc : q_O} {M : q_M} {F : Nat} : pr sc orc 199 (F + 1) 0 [some (.inr (.inr 49)), none] [] M =
  if (M 49 49) = 30 then
    some (some (.inl (0)), GF, (q_up M 49 48 1))
  else
    pr sc orc 199 F 23 [some (.inr (.inr 49)), some (.inl (q_w (4 * (M 49 49))))] [] M := by
  rw [pr_st]; rfl
set_option maxRecDepth 20000 in
theorem sg_X12_newRow_23 {sc : List Int} {orc : q_O} {M : q_M} {F : Nat} {b1 : Int} : pr sc orc 199 (F + 1) 23 [some (.inr (.inr 49)), some (.inl (b1))] [] M =
  if b1 < (q_w (q_w (4 * (M 49 49)) + 4)) then
    if 0 ≤ b1 ∧ b1 < ((120 : Nat) : Int) then
    if 0 ≤ b1 ∧ b1 < ((120 : Nat) : Int) then
    pr sc orc 199 F 23 [some (.inr (.inr 49)), some (.inl (q_w (b1 + (1))))] [] (q_up (q_up M 77 ((b1 : Int).toNat) 1) 78 ((b1 : Int).toNat) 0)
    else none
    else none
  else
    pr sc orc 199 F 57 [some (.inr (.inr 49)), some (.inl (0))] [] M := by
  rw [pr_st]; rfl
set_option maxRecDepth 20000 in
theorem sg_X12_newRow_57 {sc : List Int} {orc : q_O} {M : q_M} {F : Nat} {b1 : Int} : pr sc orc 199 (F + 1) 57 [some (.inr (.inr 49)), some (.inl (b1))] [] M =
  if b1 < (M 49 23) then
    if 0 ≤ b1 ∧ b1 < ((5 : Nat) : Int) then
    if (M 62 (b1 : Int).toNat) = 207 then
      if 0 ≤ q_w (q_w (4 * (M 49 49)) + b1) ∧ q_w (q_w (4 * (M 49 49)) + b1) < ((120 : Nat) : Int) then
      pr sc orc 199 F 57 [some (.inr (.inr 49)), some (.inl (q_w (b1 + (1))))] [] (q_up M 77 ((q_w (q_w (4 * (M 49 49)) + b1) : Int).toNat) 0)
      else none
    else
      pr sc orc 199 F 57 [some (.inr (.inr 49)), some (.inl (q_w (b1 + (1))))] [] M
    else none
  else
    some (some (.inl (1)), GF, (q_up M 49 49 (q_w (M 49 49 + 1)))) := by
  rw [pr_st]; rfl
set_option maxRecDepth 20000 in
theorem sg_X12_groupRow_0 {sc : List Int} {orc : q_O} {M : q_M} {F : Nat} : pr sc orc 200 (F + 1) 0 [some (.inr (.inr 49)), none] [] M =
  pr sc orc 200 F 2 [some (.inr (.inr 49)), some (.inl (0))] [] M := by
  rw [pr_st]; rfl
set_option maxRecDepth 20000 in
theorem sg_X12_groupRow_2 {sc : List Int} {orc : q_O} {M : q_M} {F : Nat} {b1 : Int} : pr sc orc 200 (F + 1) 2 [some (.inr (.inr 49)), some (.inl (b1))] [] M =
  if b1 < (M 49 49) then
    q_cI (orc 198 [.inr (.inr 49), .inl (b1)] GF M) GF (fun x4 M3 =>
    if x4 = 0 then
      pr sc orc 200 F 2 [some (.inr (.inr 49)), some (.inl (q_w (b1 + (1))))] [] M3
    else
      some (some (.inl (b1)), GF, M3))
  else
    q_cI (orc 199 [.inr (.inr 49)] GF M) GF (fun x2 M1 =>
    if x2 = 0 then
      some (some (.inl ((-1))), GF, M1)
    else
      pr sc orc 200 F 37 [some (.inr (.inr 49)), some (.inl (0))] [] M1) := by
  rw [pr_st]; rfl
set_option maxRecDepth 20000 in
theorem sg_X12_groupRow_37 {sc : List Int} {orc : q_O} {M : q_M} {F : Nat} {b1 : Int} : pr sc orc 200 (F + 1) 37 [some (.inr (.inr 49)), some (.inl (b1))] [] M =
  if b1 < (M 49 34) then
    if 0 ≤ b1 ∧ b1 < ((4 : Nat) : Int) then
    q_cI (orc 180 [.inr (.inr 49), .inl (M 69 (b1 : Int).toNat)] GF M) GF (fun x2 M1 =>
    if 0 ≤ b1 ∧ b1 < ((4 : Nat) : Int) then
    q_cI (orc 181 [.inr (.inr 49), .inl (M1 69 (b1 : Int).toNat)] GF M1) GF (fun x4 M3 =>
    q_c0 (orc 191 [.inr (.inr 49), .inl (x2), .inl (x4)] GF M3) GF (fun M5 =>
    if 0 ≤ q_w (q_w (q_w (3 * (M5 49 49)) - 3) + b1) ∧ q_w (q_w (q_w (3 * (M5 49 49)) - 3) + b1) < ((90 : Nat) : Int) then
    if (1 : Nat) = 0 ∨ ((1 : Nat) = 1 ∧ ((M5 49 44) = 0 ∨ (M5 49 44) = 1)) ∨ ((1 : Nat) = 2 ∧ 0 ≤ M5 49 44 ∧ M5 49 44 < 65536) then
    if 0 ≤ q_w (q_w (q_w (3 * (M5 49 49)) - 3) + b1) ∧ q_w (q_w (q_w (3 * (M5 49 49)) - 3) + b1) < ((90 : Nat) : Int) then
    pr sc orc 200 F 37 [some (.inr (.inr 49)), some (.inl (q_w (b1 + (1))))] [] (q_up (q_up M5 79 ((q_w (q_w (q_w (3 * (M5 49 49)) - 3) + b1) : Int).toNat) (M5 49 44)) 80 ((q_w (q_w (q_w (3 * (M5 49 49)) - 3) + b1) : Int).toNat) (M5 49 45))
    else none
    else none
    else none))
    else none)
    else none
  else
    some (some (.inl (q_w (M 49 49 - 1))), GF, M) := by
  rw [pr_st]; rfl
set_option maxRecDepth 20000 in
theorem sg_X12_gather_0 {sc : List Int} {orc : q_O} {M : q_M} {F : Nat} {a1 a2 : Int} : pr sc orc 201 (F + 1) 0 [some (.inr (.inr 49)), some (.inl (a1)), some (.inl (a2)), none, none, none] [] M =
  if a2 = 207 then
    if 0 ≤ a1 ∧ a1 < ((120 : Nat) : Int) then
    if 0 ≤ a1 ∧ a1 < ((120 : Nat) : Int) then
    some (none, GF, (q_up M 78 ((a1 : Int).toNat) (q_w6 (M 78 (a1 : Int).toNat + 1))))
    else none
    else none
  else
    if (M 49 44) = 0 then
      if 0 ≤ a1 ∧ a1 < ((120 : Nat) : Int) then
      if 0 ≤ a1 ∧ a1 < ((120 : Nat) : Int) then
      if a2 = 208 then
        if 0 ≤ a1 ∧ a1 < ((120 : Nat) : Int) then
        if 0 ≤ a1 ∧ a1 < ((120 : Nat) : Int) then
        some (none, GF, (q_up (q_up M 77 ((a1 : Int).toNat) 0) 78 ((a1 : Int).toNat) (q_w6 (M 78 (a1 : Int).toNat + (M 49 45)))))
        else none
        else none
      else
        if (M 77 (a1 : Int).toNat) = 0 then
          if a2 = 0 then
            if 0 ≤ a1 ∧ a1 < ((120 : Nat) : Int) then
            some (none, GF, (q_up (q_up M 77 ((a1 : Int).toNat) 0) 78 ((a1 : Int).toNat) (M 49 45)))
            else none
          else
            if a2 = 209 then
              if 0 ≤ a1 ∧ a1 < ((120 : Nat) : Int) then
              if (if M 49 45 < M 78 (a1 : Int).toNat then -1 else if M 78 (a1 : Int).toNat < M 49 45 then 1 else 0) < 0 then
                if 0 ≤ a1 ∧ a1 < ((120 : Nat) : Int) then
                some (none, GF, (q_up (q_up M 77 ((a1 : Int).toNat) 0) 78 ((a1 : Int).toNat) (M 49 45)))
                else none
              else
                if a2 = 210 then
                  if 0 ≤ a1 ∧ a1 < ((120 : Nat) : Int) then
                  if 0 < (if M 49 45 < M 78 (a1 : Int).toNat then -1 else if M 78 (a1 : Int).toNat < M 49 45 then 1 else 0) then
                    if 0 ≤ a1 ∧ a1 < ((120 : Nat) : Int) then
                    some (none, GF, (q_up (q_up M 77 ((a1 : Int).toNat) 0) 78 ((a1 : Int).toNat) (M 49 45)))
                    else none
                  else
                    some (none, GF, (q_up M 77 ((a1 : Int).toNat) 0))
                  else none
                else
                  some (none, GF, (q_up M 77 ((a1 : Int).toNat) 0))
              else none
            else
              if a2 = 210 then
                if 0 ≤ a1 ∧ a1 < ((120 : Nat) : Int) then
                if 0 < (if M 49 45 < M 78 (a1 : Int).toNat then -1 else if M 78 (a1 : Int).toNat < M 49 45 then 1 else 0) then
                  if 0 ≤ a1 ∧ a1 < ((120 : Nat) : Int) then
                  some (none, GF, (q_up (q_up M 77 ((a1 : Int).toNat) 0) 78 ((a1 : Int).toNat) (M 49 45)))
                  else none
                else
                  some (none, GF, (q_up M 77 ((a1 : Int).toNat) 0))
                else none
              else
                some (none, GF, (q_up M 77 ((a1 : Int).toNat) 0))
        else
          if 0 ≤ a1 ∧ a1 < ((120 : Nat) : Int) then
          some (none, GF, (q_up (q_up M 77 ((a1 : Int).toNat) 0) 78 ((a1 : Int).toNat) (M 49 45)))
          else none
      else none
      else none
    else
      some (none, GF, M) := by
  rw [pr_st]; rfl
set_option maxRecDepth 20000 in
theorem sg_X12_found_0 {sc : List Int} {orc : q_O} {M : q_M} {F : Nat} : pr sc orc 202 (F + 1) 0 [some (.inr (.inr 49)), none, none] [] M =
  if (M 49 40) = 0 then
    q_cI (orc 199 [.inr (.inr 49)] GF M) GF (fun x2 M1 =>
    if x2 = 0 then
      some (none, GF, M1)
    else
      if (M 49 49) < 0 then
        some (none, GF, M1)
      else
        pr sc orc 202 F 35 [some (.inr (.inr 49)), some (.inl (M 49 49)), some (.inl (0))] [] M1)
  else
    q_cI (orc 200 [.inr (.inr 49)] GF M) GF (fun x4 M3 =>
    if x4 < 0 then
      some (none, GF, M3)
    else
      pr sc orc 202 F 35 [some (.inr (.inr 49)), some (.inl (x4)), some (.inl (0))] [] M3) := by
  rw [pr_st]; rfl
set_option maxRecDepth 20000 in
theorem sg_X12_found_35 {sc : List Int} {orc : q_O} {M : q_M} {F : Nat} {b1 b2 : Int} : pr sc orc 202 (F + 1) 35 [some (.inr (.inr 49)), some (.inl (b1)), some (.inl (b2))] [] M =
  if b2 < (M 49 23) then
    if 0 ≤ b2 ∧ b2 < ((5 : Nat) : Int) then
    if (M 62 (b2 : Int).toNat) = 207 then
      if 0 ≤ b2 ∧ b2 < ((5 : Nat) : Int) then
      q_c0 (orc 201 [.inr (.inr 49), .inl (q_w (q_w (4 * b1) + b2)), .inl (M 62 (b2 : Int).toNat)] GF M) GF (fun M1 =>
      pr sc orc 202 F 35 [some (.inr (.inr 49)), some (.inl (b1)), some (.inl (q_w (b2 + (1))))] [] M1)
      else none
    else
      if 0 ≤ b2 ∧ b2 < ((5 : Nat) : Int) then
      q_cI (orc 180 [.inr (.inr 49), .inl (M 63 (b2 : Int).toNat)] GF M) GF (fun x3 M2 =>
      if 0 ≤ b2 ∧ b2 < ((5 : Nat) : Int) then
      q_cI (orc 181 [.inr (.inr 49), .inl (M2 63 (b2 : Int).toNat)] GF M2) GF (fun x5 M4 =>
      q_c0 (orc 191 [.inr (.inr 49), .inl (x3), .inl (x5)] GF M4) GF (fun M6 =>
      if 0 ≤ b2 ∧ b2 < ((5 : Nat) : Int) then
      q_c0 (orc 201 [.inr (.inr 49), .inl (q_w (q_w (4 * b1) + b2)), .inl (M6 62 (b2 : Int).toNat)] GF M6) GF (fun M7 =>
      pr sc orc 202 F 35 [some (.inr (.inr 49)), some (.inl (b1)), some (.inl (q_w (b2 + (1))))] [] M7)
      else none))
      else none)
      else none
    else none
  else
    some (none, GF, M) := by
  rw [pr_st]; rfl
set_option maxRecDepth 20000 in
theorem sg_X12_fits_0 {sc : List Int} {orc : q_O} {M : q_M} {F : Nat} {a1 : Int} : pr sc orc 203 (F + 1) 0 [some (.inr (.inr 49)), some (.inl (a1))] [] M =
  if 0 ≤ a1 ∧ a1 < ((4 : Nat) : Int) then
  if 0 ≤ a1 ∧ a1 < ((4 : Nat) : Int) then
  q_cI (orc 196 [.inr (.inr 49), .inl (M 67 (a1 : Int).toNat), .inl (M 68 (a1 : Int).toNat)] GF M) GF (fun x2 M1 =>
  if x2 = 1 then
    some (some (.inl (1)), GF, M1)
  else
    some (some (.inl (0)), GF, M1))
  else none
  else none := by
  rw [pr_st]; rfl
set_option maxRecDepth 20000 in
theorem sg_X12_third_0 {sc : List Int} {orc : q_O} {M : q_M} {F : Nat} : pr sc orc 204 (F + 1) 0 [some (.inr (.inr 49)), none, none, none] [] M =
  pr sc orc 204 F 4 [some (.inr (.inr 49)), some (.inl (0)), some (.inl (0)), none] [] M := by
  rw [pr_st]; rfl
set_option maxRecDepth 20000 in
theorem sg_X12_third_4 {sc : List Int} {orc : q_O} {M : q_M} {F : Nat} {b1 b2 : Int} : pr sc orc 204 (F + 1) 4 [some (.inr (.inr 49)), some (.inl (b1)), some (.inl (b2)), none] [] M =
  if 0 ≤ 2 ∧ 2 < ((4 : Nat) : Int) then
  if 0 ≤ M 64 (2 : Int).toNat ∧ M 64 (2 : Int).toNat < ((3 : Nat) : Int) then
  if b2 < (M 52 (M 64 (2 : Int).toNat : Int).toNat) then
    if (M 49 48) = 0 then
      if 0 ≤ 2 ∧ 2 < ((3 : Nat) : Int) then
      q_cI (orc 203 [.inr (.inr 49), .inl (2)] GF (q_up (q_up M 76 ((2 : Int).toNat) b2) 49 47 (q_w (M 49 47 + 1)))) GF (fun x8 M7 =>
      if b1 = 0 then
        if x8 = 0 then
          pr sc orc 204 F 63 [some (.inr (.inr 49)), some (.inl (0)), some (.inl (b2)), some (.inl (x8))] [] M7
        else
          pr sc orc 204 F 63 [some (.inr (.inr 49)), some (.inl (1)), some (.inl (b2)), some (.inl (x8))] [] M7
      else
        pr sc orc 204 F 63 [some (.inr (.inr 49)), some (.inl (1)), some (.inl (b2)), some (.inl (x8))] [] M7)
      else none
    else
      if (M 49 48) = 0 then
        if 0 ≤ 2 ∧ 2 < ((4 : Nat) : Int) then
        if (M 66 (2 : Int).toNat) = 0 then
          some (none, GF, M)
        else
          if b1 = 0 then
            if 0 ≤ 2 ∧ 2 < ((3 : Nat) : Int) then
            q_cI (orc 197 [.inr (.inr 49), .inl (2)] GF (q_up M 76 ((2 : Int).toNat) (-1))) GF (fun x5 M4 =>
            if x5 = 0 then
              some (none, GF, M4)
            else
              q_c0 (orc 202 [.inr (.inr 49)] GF M4) GF (fun M6 =>
              some (none, GF, M6)))
            else none
          else
            some (none, GF, M)
        else none
      else
        some (none, GF, M)
  else
    if (M 49 48) = 0 then
      if 0 ≤ 2 ∧ 2 < ((4 : Nat) : Int) then
      if (M 66 (2 : Int).toNat) = 0 then
        some (none, GF, M)
      else
        if b1 = 0 then
          if 0 ≤ 2 ∧ 2 < ((3 : Nat) : Int) then
          q_cI (orc 197 [.inr (.inr 49), .inl (2)] GF (q_up M 76 ((2 : Int).toNat) (-1))) GF (fun x2 M1 =>
          if x2 = 0 then
            some (none, GF, M1)
          else
            q_c0 (orc 202 [.inr (.inr 49)] GF M1) GF (fun M3 =>
            some (none, GF, M3)))
          else none
        else
          some (none, GF, M)
      else none
    else
      some (none, GF, M)
  else none
  else none := by
  rw [pr_st]; rfl
set_option maxRecDepth 20000 in
theorem sg_X12_third_63 {sc : List Int} {orc : q_O} {M : q_M} {F : Nat} {b1 b2 b3 : Int} : pr sc orc 204 (F + 1) 63 [some (.inr (.inr 49)), some (.inl (b1)), some (.inl (b2)), some (.inl (b3))] [] M =
  if b3 = 0 then
    pr sc orc 204 F 4 [some (.inr (.inr 49)), some (.inl (b1)), some (.inl (q_w (b2 + (1)))), none] [] M
  else
    q_cI (orc 197 [.inr (.inr 49), .inl (2)] GF M) GF (fun x2 M1 =>
    if x2 = 0 then
      pr sc orc 204 F 4 [some (.inr (.inr 49)), some (.inl (b1)), some (.inl (q_w (b2 + (1)))), none] [] M1
    else
      q_c0 (orc 202 [.inr (.inr 49)] GF M1) GF (fun M3 =>
      pr sc orc 204 F 4 [some (.inr (.inr 49)), some (.inl (b1)), some (.inl (q_w (b2 + (1)))), none] [] M3)) := by
  rw [pr_st]; rfl
set_option maxRecDepth 20000 in
theorem sg_X12_afterSecond_0 {sc : List Int} {orc : q_O} {M : q_M} {F : Nat} : pr sc orc 205 (F + 1) 0 [some (.inr (.inr 49))] [] M =
  if (M 49 26) = 2 then
    q_c0 (orc 202 [.inr (.inr 49)] GF M) GF (fun M2 =>
    some (none, GF, M2))
  else
    q_c0 (orc 204 [.inr (.inr 49)] GF M) GF (fun M1 =>
    some (none, GF, M1)) := by
  rw [pr_st]; rfl
set_option maxRecDepth 20000 in
theorem sg_X12_second_0 {sc : List Int} {orc : q_O} {M : q_M} {F : Nat} : pr sc orc 206 (F + 1) 0 [some (.inr (.inr 49)), none, none, none] [] M =
  pr sc orc 206 F 4 [some (.inr (.inr 49)), some (.inl (0)), some (.inl (0)), none] [] M := by
  rw [pr_st]; rfl
set_option maxRecDepth 20000 in
theorem sg_X12_second_4 {sc : List Int} {orc : q_O} {M : q_M} {F : Nat} {b1 b2 : Int} : pr sc orc 206 (F + 1) 4 [some (.inr (.inr 49)), some (.inl (b1)), some (.inl (b2)), none] [] M =
  if 0 ≤ 1 ∧ 1 < ((4 : Nat) : Int) then
  if 0 ≤ M 64 (1 : Int).toNat ∧ M 64 (1 : Int).toNat < ((3 : Nat) : Int) then
  if b2 < (M 52 (M 64 (1 : Int).toNat : Int).toNat) then
    if (M 49 48) = 0 then
      if 0 ≤ 1 ∧ 1 < ((3 : Nat) : Int) then
      q_cI (orc 203 [.inr (.inr 49), .inl (1)] GF (q_up (q_up M 76 ((1 : Int).toNat) b2) 49 47 (q_w (M 49 47 + 1)))) GF (fun x8 M7 =>
      if b1 = 0 then
        if x8 = 0 then
          pr sc orc 206 F 63 [some (.inr (.inr 49)), some (.inl (0)), some (.inl (b2)), some (.inl (x8))] [] M7
        else
          pr sc orc 206 F 63 [some (.inr (.inr 49)), some (.inl (1)), some (.inl (b2)), some (.inl (x8))] [] M7
      else
        pr sc orc 206 F 63 [some (.inr (.inr 49)), some (.inl (1)), some (.inl (b2)), some (.inl (x8))] [] M7)
      else none
    else
      if (M 49 48) = 0 then
        if 0 ≤ 1 ∧ 1 < ((4 : Nat) : Int) then
        if (M 66 (1 : Int).toNat) = 0 then
          some (none, GF, M)
        else
          if b1 = 0 then
            if 0 ≤ 1 ∧ 1 < ((3 : Nat) : Int) then
            q_cI (orc 197 [.inr (.inr 49), .inl (1)] GF (q_up M 76 ((1 : Int).toNat) (-1))) GF (fun x5 M4 =>
            if x5 = 0 then
              some (none, GF, M4)
            else
              q_c0 (orc 205 [.inr (.inr 49)] GF M4) GF (fun M6 =>
              some (none, GF, M6)))
            else none
          else
            some (none, GF, M)
        else none
      else
        some (none, GF, M)
  else
    if (M 49 48) = 0 then
      if 0 ≤ 1 ∧ 1 < ((4 : Nat) : Int) then
      if (M 66 (1 : Int).toNat) = 0 then
        some (none, GF, M)
      else
        if b1 = 0 then
          if 0 ≤ 1 ∧ 1 < ((3 : Nat) : Int) then
          q_cI (orc 197 [.inr (.inr 49), .inl (1)] GF (q_up M 76 ((1 : Int).toNat) (-1))) GF (fun x2 M1 =>
          if x2 = 0 then
            some (none, GF, M1)
          else
            q_c0 (orc 205 [.inr (.inr 49)] GF M1) GF (fun M3 =>
            some (none, GF, M3)))
          else none
        else
          some (none, GF, M)
      else none
    else
      some (none, GF, M)
  else none
  else none := by
  rw [pr_st]; rfl
set_option maxRecDepth 20000 in
theorem sg_X12_second_63 {sc : List Int} {orc : q_O} {M : q_M} {F : Nat} {b1 b2 b3 : Int} : pr sc orc 206 (F + 1) 63 [some (.inr (.inr 49)), some (.inl (b1)), some (.inl (b2)), some (.inl (b3))] [] M =
  if b3 = 0 then
    pr sc orc 206 F 4 [some (.inr (.inr 49)), some (.inl (b1)), some (.inl (q_w (b2 + (1)))), none] [] M
  else
    q_cI (orc 197 [.inr (.inr 49), .inl (1)] GF M) GF (fun x2 M1 =>
    if x2 = 0 then
      pr sc orc 206 F 4 [some (.inr (.inr 49)), some (.inl (b1)), some (.inl (q_w (b2 + (1)))), none] [] M1
    else
      q_c0 (orc 205 [.inr (.inr 49)] GF M1) GF (fun M3 =>
      pr sc orc 206 F 4 [some (.inr (.inr 49)), some (.inl (b1)), some (.inl (q_w (b2 + (1)))), none] [] M3)) := by
  rw [pr_st]; rfl
end
section
set_option maxRecDepth 20000 in
theorem sg_X12_first_0 {sc : List Int} {orc : q_O} {M : q_M} {F : Nat} : pr sc orc 207 (F + 1) 0 [some (.inr (.inr 49)), none] [] M =
  pr sc orc 207 F 2 [some (.inr (.inr 49)), some (.inl (0))] [] M := by
  rw [pr_st]; rfl
set_option maxRecDepth 20000 in
theorem sg_X12_first_2 {sc : List Int} {orc : q_O} {M : q_M} {F : Nat} {b1 : Int} : pr sc orc 207 (F + 1) 2 [some (.inr (.inr 49)), some (.inl (b1))] [] M =
  if 0 ≤ 0 ∧ 0 < ((4 : Nat) : Int) then
  if 0 ≤ M 64 (0 : Int).toNat ∧ M 64 (0 : Int).toNat < ((3 : Nat) : Int) then
  if b1 < (M 52 (M 64 (0 : Int).toNat : Int).toNat) then
    if (M 49 48) = 0 then
      if 0 ≤ 0 ∧ 0 < ((3 : Nat) : Int) then
      q_cI (orc 197 [.inr (.inr 49), .inl (0)] GF (q_up (q_up M 76 ((0 : Int).toNat) b1) 49 47 (q_w (M 49 47 + 1)))) GF (fun x2 M1 =>
      if x2 = 0 then
        pr sc orc 207 F 2 [some (.inr (.inr 49)), some (.inl (q_w (b1 + (1))))] [] M1
      else
        if (M1 49 26) = 1 then
          q_c0 (orc 202 [.inr (.inr 49)] GF M1) GF (fun M4 =>
          pr sc orc 207 F 2 [some (.inr (.inr 49)), some (.inl (q_w (b1 + (1))))] [] M4)
        else
          q_c0 (orc 206 [.inr (.inr 49)] GF M1) GF (fun M3 =>
          pr sc orc 207 F 2 [some (.inr (.inr 49)), some (.inl (q_w (b1 + (1))))] [] M3))
      else none
    else
      some (none, GF, M)
  else
    some (none, GF, M)
  else none
  else none := by
  rw [pr_st]; rfl
set_option maxRecDepth 20000 in
theorem sg_X12_run_0 {sc : List Int} {orc : q_O} {M : q_M} {F : Nat} : pr sc orc 208 (F + 1) 0 [some (.inr (.inr 49))] [] M =
  if (M 49 22) = 0 then
    q_cI (orc 149 [.inr (.inr 49), .inl (1)] GF (q_up M 49 1 0)) GF (fun x13 M12 =>
    some (some (.inl (x13)), GF, M12))
  else
    if (M 49 40) = 0 then
      q_c0 (orc 207 [.inr (.inr 49)] GF (q_up (q_up (q_up (q_up M 49 1 0) 49 47 0) 49 49 0) 49 48 0)) GF (fun M1 =>
      if (M1 49 48) = 0 then
        some (some (.inl (M1 49 49)), GF, M1)
      else
        q_cI (orc 149 [.inr (.inr 49), .inl (2)] GF (q_up M1 49 49 0)) GF (fun x3 M2 =>
        some (some (.inl (x3)), GF, M2)))
    else
      if (M 49 34) = 0 then
        q_cI (orc 199 [.inr (.inr 49)] GF (q_up (q_up (q_up (q_up M 49 1 0) 49 47 0) 49 49 0) 49 48 0)) GF (fun x8 M7 =>
        q_c0 (orc 207 [.inr (.inr 49)] GF M7) GF (fun M9 =>
        if (M9 49 48) = 0 then
          some (some (.inl (M9 49 49)), GF, M9)
        else
          q_cI (orc 149 [.inr (.inr 49), .inl (2)] GF (q_up M9 49 49 0)) GF (fun x11 M10 =>
          some (some (.inl (x11)), GF, M10))))
      else
        q_c0 (orc 207 [.inr (.inr 49)] GF (q_up (q_up (q_up (q_up M 49 1 0) 49 47 0) 49 49 0) 49 48 0)) GF (fun M4 =>
        if (M4 49 48) = 0 then
          some (some (.inl (M4 49 49)), GF, M4)
        else
          q_cI (orc 149 [.inr (.inr 49), .inl (2)] GF (q_up M4 49 49 0)) GF (fun x6 M5 =>
          some (some (.inl (x6)), GF, M5))) := by
  rw [pr_st]; rfl
set_option maxRecDepth 20000 in
theorem sg_X12_looked_0 {sc : List Int} {orc : q_O} {M : q_M} {F : Nat} : pr sc orc 209 (F + 1) 0 [some (.inr (.inr 49))] [] M =
  some (some (.inl (M 49 47)), GF, (q_up M 49 1 0)) := by
  rw [pr_st]; rfl
set_option maxRecDepth 20000 in
theorem sg_X12_rows_0 {sc : List Int} {orc : q_O} {M : q_M} {F : Nat} : pr sc orc 210 (F + 1) 0 [some (.inr (.inr 49))] [] M =
  some (some (.inl (M 49 49)), GF, (q_up M 49 1 0)) := by
  rw [pr_st]; rfl
set_option maxRecDepth 20000 in
theorem sg_X12_isThere_0 {sc : List Int} {orc : q_O} {M : q_M} {F : Nat} {a1 a2 : Int} : pr sc orc 211 (F + 1) 0 [some (.inr (.inr 49)), some (.inl (a1)), some (.inl (a2))] [] M =
  if a1 < 0 then
    some (some (.inl (0)), GF, M)
  else
    if a1 < (M 49 49) then
      if a2 < 0 then
        some (some (.inl (0)), GF, M)
      else
        if a2 < (M 49 23) then
          some (some (.inl (1)), GF, M)
        else
          some (some (.inl (0)), GF, M)
    else
      some (some (.inl (0)), GF, M) := by
  rw [pr_st]; rfl
set_option maxRecDepth 20000 in
theorem sg_X12_isNull_0 {sc : List Int} {orc : q_O} {M : q_M} {F : Nat} {a1 a2 : Int} : pr sc orc 212 (F + 1) 0 [some (.inr (.inr 49)), some (.inl (a1)), some (.inl (a2))] [] M =
  q_cI (orc 211 [.inr (.inr 49), .inl (a1), .inl (a2)] GF (q_up M 49 1 0)) GF (fun x2 M1 =>
  if x2 = 0 then
    some (some (.inl (0)), GF, M1)
  else
    if 0 ≤ q_w (q_w (4 * a1) + a2) ∧ q_w (q_w (4 * a1) + a2) < ((120 : Nat) : Int) then
    if (M1 77 (q_w (q_w (4 * a1) + a2) : Int).toNat) = 0 then
      some (some (.inl (0)), GF, M1)
    else
      some (some (.inl (1)), GF, M1)
    else none) := by
  rw [pr_st]; rfl
set_option maxRecDepth 20000 in
theorem sg_X12_result_0 {sc : List Int} {orc : q_O} {M : q_M} {F : Nat} {a1 a2 : Int} : pr sc orc 213 (F + 1) 0 [some (.inr (.inr 49)), some (.inl (a1)), some (.inl (a2))] [] M =
  q_cI (orc 211 [.inr (.inr 49), .inl (a1), .inl (a2)] GF (q_up M 49 1 0)) GF (fun x2 M1 =>
  if x2 = 0 then
    some (some (.inr (.inl (0))), GF, M1)
  else
    if 0 ≤ q_w (q_w (4 * a1) + a2) ∧ q_w (q_w (4 * a1) + a2) < ((120 : Nat) : Int) then
    if (M1 77 (q_w (q_w (4 * a1) + a2) : Int).toNat) = 0 then
      if 0 ≤ q_w (q_w (4 * a1) + a2) ∧ q_w (q_w (4 * a1) + a2) < ((120 : Nat) : Int) then
      some (some (.inr (.inl (M1 78 (q_w (q_w (4 * a1) + a2) : Int).toNat))), GF, M1)
      else none
    else
      some (some (.inr (.inl (0))), GF, M1)
    else none) := by
  rw [pr_st]; rfl
end
section
set_option maxRecDepth 20000 in
theorem sg_X8_spells_0_s2 {sc : List Int} {orc : q_O} {M : q_M} {F : Nat} {a1 a2 : Int} : pr sc orc 113 (F + 1) 0 [some (.inr (.inr 9)), some (.inl (a1)), some (.inl (a2)), some (.inr (.inr 1002)), none] [] M =
  q_cI (orc 214 [.inr (.inr 1002)] GF M) GF (fun x2 M1 =>
  if (q_w (a2 - a1)) = x2 then
    pr sc orc 113 F 15 [some (.inr (.inr 9)), some (.inl (a1)), none, some (.inr (.inr 1002)), some (.inl (0))] [] M1
  else
    some (some (.inl (0)), GF, M1)) := by
  rw [pr_st]; rfl
set_option maxRecDepth 20000 in
theorem sg_X8_spells_15_s2 {sc : List Int} {orc : q_O} {M : q_M} {F : Nat} {b1 b4 : Int} : pr sc orc 113 (F + 1) 15 [some (.inr (.inr 9)), some (.inl (b1)), none, some (.inr (.inr 1002)), some (.inl (b4))] [] M =
  q_cI (orc 214 [.inr (.inr 1002)] GF M) GF (fun x2 M1 =>
  if b4 < x2 then
    q_cI (orc 108 [.inr (.inr 9), .inl (q_w (b1 + b4))] GF M1) GF (fun x4 M3 =>
    q_cI (orc 216 [.inr (.inr 1002), .inl (b4)] GF M3) GF (fun x6 M5 =>
    if x4 = x6 then
      pr sc orc 113 F 15 [some (.inr (.inr 9)), some (.inl (b1)), none, some (.inr (.inr 1002)), some (.inl (q_w (b4 + (1))))] [] M5
    else
      some (some (.inl (0)), GF, M5)))
  else
    some (some (.inl (1)), GF, M1)) := by
  rw [pr_st]; rfl
set_option maxRecDepth 20000 in
theorem sg_J0_length_8abf5_0_s2 {sc : List Int} {orc : q_O} {M : q_M} {F : Nat} : pr sc orc 214 (F + 1) 0 [some (.inr (.inr 1002))] [] M =
  q_cI (orc 215 [.inr (.inr 1002)] GF M) GF (fun x2 M1 =>
  if x2 = 0 then
  some (some (.inl (((6 : Nat) : Int))), GF, M1)
  else none) := by
  rw [pr_st]; rfl
set_option maxRecDepth 20000 in
theorem sg_J0_coder_7d493_0_s2 {sc : List Int} {orc : q_O} {M : q_M} {F : Nat} : pr sc orc 215 (F + 1) 0 [some (.inr (.inr 1002))] [] M =
  if 1 = 0 then
    some (some (.inl (1)), GF, M)
  else
    some (some (.inl (0)), GF, M) := by
  rw [pr_st]; rfl
set_option maxRecDepth 20000 in
theorem sg_J0_charAt_5068e_0_s2 {sc : List Int} {orc : q_O} {M : q_M} {F : Nat} {a1 : Int} : pr sc orc 216 (F + 1) 0 [some (.inr (.inr 1002)), some (.inl (a1))] [] M =
  q_cI (orc 217 [.inr (.inr 1002)] GF M) GF (fun x2 M1 =>
  if x2 = 0 then
    none
  else
    q_cI (orc 220 [.inr (.inr 2002), .inl (a1)] GF M1) GF (fun x4 M3 =>
    if 0 ≤ x4 ∧ x4 < 65536 then some (some (.inl (x4)), GF, M3) else none)) := by
  rw [pr_st]; rfl
set_option maxRecDepth 20000 in
theorem sg_J0_isLatin1_aae02_0_s2 {sc : List Int} {orc : q_O} {M : q_M} {F : Nat} : pr sc orc 217 (F + 1) 0 [some (.inr (.inr 1002))] [] M =
  if 1 = 0 then
    some (some (.inl (0)), GF, M)
  else
    if 0 = 0 then
      some (some (.inl (1)), GF, M)
    else
      some (some (.inl (0)), GF, M) := by
  rw [pr_st]; rfl
set_option maxRecDepth 20000 in
theorem sg_J1_charAt_3b067_0_s2 {sc : List Int} {orc : q_O} {M : q_M} {F : Nat} {a2 : Int} : pr sc orc 220 (F + 1) 0 [some (.inr (.inr 2002)), some (.inl (a2))] [] M =
  q_c0 (orc 224 [.inl (a2), .inl (((6 : Nat) : Int))] GF M) GF (fun M1 =>
  if 0 ≤ a2 ∧ a2 < ((6 : Nat) : Int) then
  if 0 ≤ ((([115, 101, 108, 101, 99, 116] : List Int).getD (a2 : Int).toNat 0) % 256) % 65536 ∧ ((([115, 101, 108, 101, 99, 116] : List Int).getD (a2 : Int).toNat 0) % 256) % 65536 < 65536 then some (some (.inl (((([115, 101, 108, 101, 99, 116] : List Int).getD (a2 : Int).toNat 0) % 256) % 65536)), GF, M1) else none
  else none) := by
  rw [pr_st]; rfl
set_option maxRecDepth 20000 in
theorem sg_X8_spells_0_s3 {sc : List Int} {orc : q_O} {M : q_M} {F : Nat} {a1 a2 : Int} : pr sc orc 113 (F + 1) 0 [some (.inr (.inr 9)), some (.inl (a1)), some (.inl (a2)), some (.inr (.inr 1003)), none] [] M =
  q_cI (orc 214 [.inr (.inr 1003)] GF M) GF (fun x2 M1 =>
  if (q_w (a2 - a1)) = x2 then
    pr sc orc 113 F 15 [some (.inr (.inr 9)), some (.inl (a1)), none, some (.inr (.inr 1003)), some (.inl (0))] [] M1
  else
    some (some (.inl (0)), GF, M1)) := by
  rw [pr_st]; rfl
set_option maxRecDepth 20000 in
theorem sg_X8_spells_15_s3 {sc : List Int} {orc : q_O} {M : q_M} {F : Nat} {b1 b4 : Int} : pr sc orc 113 (F + 1) 15 [some (.inr (.inr 9)), some (.inl (b1)), none, some (.inr (.inr 1003)), some (.inl (b4))] [] M =
  q_cI (orc 214 [.inr (.inr 1003)] GF M) GF (fun x2 M1 =>
  if b4 < x2 then
    q_cI (orc 108 [.inr (.inr 9), .inl (q_w (b1 + b4))] GF M1) GF (fun x4 M3 =>
    q_cI (orc 216 [.inr (.inr 1003), .inl (b4)] GF M3) GF (fun x6 M5 =>
    if x4 = x6 then
      pr sc orc 113 F 15 [some (.inr (.inr 9)), some (.inl (b1)), none, some (.inr (.inr 1003)), some (.inl (q_w (b4 + (1))))] [] M5
    else
      some (some (.inl (0)), GF, M5)))
  else
    some (some (.inl (1)), GF, M1)) := by
  rw [pr_st]; rfl
set_option maxRecDepth 20000 in
theorem sg_J0_length_8abf5_0_s3 {sc : List Int} {orc : q_O} {M : q_M} {F : Nat} : pr sc orc 214 (F + 1) 0 [some (.inr (.inr 1003))] [] M =
  q_cI (orc 215 [.inr (.inr 1003)] GF M) GF (fun x2 M1 =>
  if x2 = 0 then
  some (some (.inl (((4 : Nat) : Int))), GF, M1)
  else none) := by
  rw [pr_st]; rfl
set_option maxRecDepth 20000 in
theorem sg_J0_coder_7d493_0_s3 {sc : List Int} {orc : q_O} {M : q_M} {F : Nat} : pr sc orc 215 (F + 1) 0 [some (.inr (.inr 1003))] [] M =
  if 1 = 0 then
    some (some (.inl (1)), GF, M)
  else
    some (some (.inl (0)), GF, M) := by
  rw [pr_st]; rfl
set_option maxRecDepth 20000 in
theorem sg_J0_charAt_5068e_0_s3 {sc : List Int} {orc : q_O} {M : q_M} {F : Nat} {a1 : Int} : pr sc orc 216 (F + 1) 0 [some (.inr (.inr 1003)), some (.inl (a1))] [] M =
  q_cI (orc 217 [.inr (.inr 1003)] GF M) GF (fun x2 M1 =>
  if x2 = 0 then
    none
  else
    q_cI (orc 220 [.inr (.inr 2003), .inl (a1)] GF M1) GF (fun x4 M3 =>
    if 0 ≤ x4 ∧ x4 < 65536 then some (some (.inl (x4)), GF, M3) else none)) := by
  rw [pr_st]; rfl
set_option maxRecDepth 20000 in
theorem sg_J0_isLatin1_aae02_0_s3 {sc : List Int} {orc : q_O} {M : q_M} {F : Nat} : pr sc orc 217 (F + 1) 0 [some (.inr (.inr 1003))] [] M =
  if 1 = 0 then
    some (some (.inl (0)), GF, M)
  else
    if 0 = 0 then
      some (some (.inl (1)), GF, M)
    else
      some (some (.inl (0)), GF, M) := by
  rw [pr_st]; rfl
set_option maxRecDepth 20000 in
theorem sg_J1_charAt_3b067_0_s3 {sc : List Int} {orc : q_O} {M : q_M} {F : Nat} {a2 : Int} : pr sc orc 220 (F + 1) 0 [some (.inr (.inr 2003)), some (.inl (a2))] [] M =
  q_c0 (orc 224 [.inl (a2), .inl (((4 : Nat) : Int))] GF M) GF (fun M1 =>
  if 0 ≤ a2 ∧ a2 < ((4 : Nat) : Int) then
  if 0 ≤ ((([102, 114, 111, 109] : List Int).getD (a2 : Int).toNat 0) % 256) % 65536 ∧ ((([102, 114, 111, 109] : List Int).getD (a2 : Int).toNat 0) % 256) % 65536 < 65536 then some (some (.inl (((([102, 114, 111, 109] : List Int).getD (a2 : Int).toNat 0) % 256) % 65536)), GF, M1) else none
  else none) := by
  rw [pr_st]; rfl
set_option maxRecDepth 20000 in
theorem sg_X8_spells_0_s4 {sc : List Int} {orc : q_O} {M : q_M} {F : Nat} {a1 a2 : Int} : pr sc orc 113 (F + 1) 0 [some (.inr (.inr 9)), some (.inl (a1)), some (.inl (a2)), some (.inr (.inr 1004)), none] [] M =
  q_cI (orc 214 [.inr (.inr 1004)] GF M) GF (fun x2 M1 =>
  if (q_w (a2 - a1)) = x2 then
    pr sc orc 113 F 15 [some (.inr (.inr 9)), some (.inl (a1)), none, some (.inr (.inr 1004)), some (.inl (0))] [] M1
  else
    some (some (.inl (0)), GF, M1)) := by
  rw [pr_st]; rfl
set_option maxRecDepth 20000 in
theorem sg_X8_spells_15_s4 {sc : List Int} {orc : q_O} {M : q_M} {F : Nat} {b1 b4 : Int} : pr sc orc 113 (F + 1) 15 [some (.inr (.inr 9)), some (.inl (b1)), none, some (.inr (.inr 1004)), some (.inl (b4))] [] M =
  q_cI (orc 214 [.inr (.inr 1004)] GF M) GF (fun x2 M1 =>
  if b4 < x2 then
    q_cI (orc 108 [.inr (.inr 9), .inl (q_w (b1 + b4))] GF M1) GF (fun x4 M3 =>
    q_cI (orc 216 [.inr (.inr 1004), .inl (b4)] GF M3) GF (fun x6 M5 =>
    if x4 = x6 then
      pr sc orc 113 F 15 [some (.inr (.inr 9)), some (.inl (b1)), none, some (.inr (.inr 1004)), some (.inl (q_w (b4 + (1))))] [] M5
    else
      some (some (.inl (0)), GF, M5)))
  else
    some (some (.inl (1)), GF, M1)) := by
  rw [pr_st]; rfl
set_option maxRecDepth 20000 in
theorem sg_J0_length_8abf5_0_s4 {sc : List Int} {orc : q_O} {M : q_M} {F : Nat} : pr sc orc 214 (F + 1) 0 [some (.inr (.inr 1004))] [] M =
  q_cI (orc 215 [.inr (.inr 1004)] GF M) GF (fun x2 M1 =>
  if x2 = 0 then
  some (some (.inl (((4 : Nat) : Int))), GF, M1)
  else none) := by
  rw [pr_st]; rfl
set_option maxRecDepth 20000 in
theorem sg_J0_coder_7d493_0_s4 {sc : List Int} {orc : q_O} {M : q_M} {F : Nat} : pr sc orc 215 (F + 1) 0 [some (.inr (.inr 1004))] [] M =
  if 1 = 0 then
    some (some (.inl (1)), GF, M)
  else
    some (some (.inl (0)), GF, M) := by
  rw [pr_st]; rfl
set_option maxRecDepth 20000 in
theorem sg_J0_charAt_5068e_0_s4 {sc : List Int} {orc : q_O} {M : q_M} {F : Nat} {a1 : Int} : pr sc orc 216 (F + 1) 0 [some (.inr (.inr 1004)), some (.inl (a1))] [] M =
  q_cI (orc 217 [.inr (.inr 1004)] GF M) GF (fun x2 M1 =>
  if x2 = 0 then
    none
  else
    q_cI (orc 220 [.inr (.inr 2004), .inl (a1)] GF M1) GF (fun x4 M3 =>
    if 0 ≤ x4 ∧ x4 < 65536 then some (some (.inl (x4)), GF, M3) else none)) := by
  rw [pr_st]; rfl
set_option maxRecDepth 20000 in
theorem sg_J0_isLatin1_aae02_0_s4 {sc : List Int} {orc : q_O} {M : q_M} {F : Nat} : pr sc orc 217 (F + 1) 0 [some (.inr (.inr 1004))] [] M =
  if 1 = 0 then
    some (some (.inl (0)), GF, M)
  else
    if 0 = 0 then
      some (some (.inl (1)), GF, M)
    else
      some (some (.inl (0)), GF, M) := by
  rw [pr_st]; rfl
set_option maxRecDepth 20000 in
theorem sg_J1_charAt_3b067_0_s4 {sc : List Int} {orc : q_O} {M : q_M} {F : Nat} {a2 : Int} : pr sc orc 220 (F + 1) 0 [some (.inr (.inr 2004)), some (.inl (a2))] [] M =
  q_c0 (orc 224 [.inl (a2), .inl (((4 : Nat) : Int))] GF M) GF (fun M1 =>
  if 0 ≤ a2 ∧ a2 < ((4 : Nat) : Int) then
  if 0 ≤ ((([106, 111, 105, 110] : List Int).getD (a2 : Int).toNat 0) % 256) % 65536 ∧ ((([106, 111, 105, 110] : List Int).getD (a2 : Int).toNat 0) % 256) % 65536 < 65536 then some (some (.inl (((([106, 111, 105, 110] : List Int).getD (a2 : Int).toNat 0) % 256) % 65536)), GF, M1) else none
  else none) := by
  rw [pr_st]; rfl
set_option maxRecDepth 20000 in
theorem sg_X8_spells_0_s5 {sc : List Int} {orc : q_O} {M : q_M} {F : Nat} {a1 a2 : Int} : pr sc orc 113 (F + 1) 0 [some (.inr (.inr 9)), some (.inl (a1)), some (.inl (a2)), some (.inr (.inr 1005)), none] [] M =
  q_cI (orc 214 [.inr (.inr 1005)] GF M) GF (fun x2 M1 =>
  if (q_w (a2 - a1)) = x2 then
    pr sc orc 113 F 15 [some (.inr (.inr 9)), some (.inl (a1)), none, some (.inr (.inr 1005)), some (.inl (0))] [] M1
  else
    some (some (.inl (0)), GF, M1)) := by
  rw [pr_st]; rfl
set_option maxRecDepth 20000 in
theorem sg_X8_spells_15_s5 {sc : List Int} {orc : q_O} {M : q_M} {F : Nat} {b1 b4 : Int} : pr sc orc 113 (F + 1) 15 [some (.inr (.inr 9)), some (.inl (b1)), none, some (.inr (.inr 1005)), some (.inl (b4))] [] M =
  q_cI (orc 214 [.inr (.inr 1005)] GF M) GF (fun x2 M1 =>
  if b4 < x2 then
    q_cI (orc 108 [.inr (.inr 9), .inl (q_w (b1 + b4))] GF M1) GF (fun x4 M3 =>
    q_cI (orc 216 [.inr (.inr 1005), .inl (b4)] GF M3) GF (fun x6 M5 =>
    if x4 = x6 then
      pr sc orc 113 F 15 [some (.inr (.inr 9)), some (.inl (b1)), none, some (.inr (.inr 1005)), some (.inl (q_w (b4 + (1))))] [] M5
    else
      some (some (.inl (0)), GF, M5)))
  else
    some (some (.inl (1)), GF, M1)) := by
  rw [pr_st]; rfl
set_option maxRecDepth 20000 in
theorem sg_J0_length_8abf5_0_s5 {sc : List Int} {orc : q_O} {M : q_M} {F : Nat} : pr sc orc 214 (F + 1) 0 [some (.inr (.inr 1005))] [] M =
  q_cI (orc 215 [.inr (.inr 1005)] GF M) GF (fun x2 M1 =>
  if x2 = 0 then
  some (some (.inl (((4 : Nat) : Int))), GF, M1)
  else none) := by
  rw [pr_st]; rfl
set_option maxRecDepth 20000 in
theorem sg_J0_coder_7d493_0_s5 {sc : List Int} {orc : q_O} {M : q_M} {F : Nat} : pr sc orc 215 (F + 1) 0 [some (.inr (.inr 1005))] [] M =
  if 1 = 0 then
    some (some (.inl (1)), GF, M)
  else
    some (some (.inl (0)), GF, M) := by
  rw [pr_st]; rfl
set_option maxRecDepth 20000 in
theorem sg_J0_charAt_5068e_0_s5 {sc : List Int} {orc : q_O} {M : q_M} {F : Nat} {a1 : Int} : pr sc orc 216 (F + 1) 0 [some (.inr (.inr 1005)), some (.inl (a1))] [] M =
  q_cI (orc 217 [.inr (.inr 1005)] GF M) GF (fun x2 M1 =>
  if x2 = 0 then
    none
  else
    q_cI (orc 220 [.inr (.inr 2005), .inl (a1)] GF M1) GF (fun x4 M3 =>
    if 0 ≤ x4 ∧ x4 < 65536 then some (some (.inl (x4)), GF, M3) else none)) := by
  rw [pr_st]; rfl
set_option maxRecDepth 20000 in
theorem sg_J0_isLatin1_aae02_0_s5 {sc : List Int} {orc : q_O} {M : q_M} {F : Nat} : pr sc orc 217 (F + 1) 0 [some (.inr (.inr 1005))] [] M =
  if 1 = 0 then
    some (some (.inl (0)), GF, M)
  else
    if 0 = 0 then
      some (some (.inl (1)), GF, M)
    else
      some (some (.inl (0)), GF, M) := by
  rw [pr_st]; rfl
set_option maxRecDepth 20000 in
theorem sg_J1_charAt_3b067_0_s5 {sc : List Int} {orc : q_O} {M : q_M} {F : Nat} {a2 : Int} : pr sc orc 220 (F + 1) 0 [some (.inr (.inr 2005)), some (.inl (a2))] [] M =
  q_c0 (orc 224 [.inl (a2), .inl (((4 : Nat) : Int))] GF M) GF (fun M1 =>
  if 0 ≤ a2 ∧ a2 < ((4 : Nat) : Int) then
  if 0 ≤ ((([108, 101, 102, 116] : List Int).getD (a2 : Int).toNat 0) % 256) % 65536 ∧ ((([108, 101, 102, 116] : List Int).getD (a2 : Int).toNat 0) % 256) % 65536 < 65536 then some (some (.inl (((([108, 101, 102, 116] : List Int).getD (a2 : Int).toNat 0) % 256) % 65536)), GF, M1) else none
  else none) := by
  rw [pr_st]; rfl
set_option maxRecDepth 20000 in
theorem sg_X8_spells_0_s6 {sc : List Int} {orc : q_O} {M : q_M} {F : Nat} {a1 a2 : Int} : pr sc orc 113 (F + 1) 0 [some (.inr (.inr 9)), some (.inl (a1)), some (.inl (a2)), some (.inr (.inr 1006)), none] [] M =
  q_cI (orc 214 [.inr (.inr 1006)] GF M) GF (fun x2 M1 =>
  if (q_w (a2 - a1)) = x2 then
    pr sc orc 113 F 15 [some (.inr (.inr 9)), some (.inl (a1)), none, some (.inr (.inr 1006)), some (.inl (0))] [] M1
  else
    some (some (.inl (0)), GF, M1)) := by
  rw [pr_st]; rfl
set_option maxRecDepth 20000 in
theorem sg_X8_spells_15_s6 {sc : List Int} {orc : q_O} {M : q_M} {F : Nat} {b1 b4 : Int} : pr sc orc 113 (F + 1) 15 [some (.inr (.inr 9)), some (.inl (b1)), none, some (.inr (.inr 1006)), some (.inl (b4))] [] M =
  q_cI (orc 214 [.inr (.inr 1006)] GF M) GF (fun x2 M1 =>
  if b4 < x2 then
    q_cI (orc 108 [.inr (.inr 9), .inl (q_w (b1 + b4))] GF M1) GF (fun x4 M3 =>
    q_cI (orc 216 [.inr (.inr 1006), .inl (b4)] GF M3) GF (fun x6 M5 =>
    if x4 = x6 then
      pr sc orc 113 F 15 [some (.inr (.inr 9)), some (.inl (b1)), none, some (.inr (.inr 1006)), some (.inl (q_w (b4 + (1))))] [] M5
    else
      some (some (.inl (0)), GF, M5)))
  else
    some (some (.inl (1)), GF, M1)) := by
  rw [pr_st]; rfl
set_option maxRecDepth 20000 in
theorem sg_J0_length_8abf5_0_s6 {sc : List Int} {orc : q_O} {M : q_M} {F : Nat} : pr sc orc 214 (F + 1) 0 [some (.inr (.inr 1006))] [] M =
  q_cI (orc 215 [.inr (.inr 1006)] GF M) GF (fun x2 M1 =>
  if x2 = 0 then
  some (some (.inl (((2 : Nat) : Int))), GF, M1)
  else none) := by
  rw [pr_st]; rfl
set_option maxRecDepth 20000 in
theorem sg_J0_coder_7d493_0_s6 {sc : List Int} {orc : q_O} {M : q_M} {F : Nat} : pr sc orc 215 (F + 1) 0 [some (.inr (.inr 1006))] [] M =
  if 1 = 0 then
    some (some (.inl (1)), GF, M)
  else
    some (some (.inl (0)), GF, M) := by
  rw [pr_st]; rfl
set_option maxRecDepth 20000 in
theorem sg_J0_charAt_5068e_0_s6 {sc : List Int} {orc : q_O} {M : q_M} {F : Nat} {a1 : Int} : pr sc orc 216 (F + 1) 0 [some (.inr (.inr 1006)), some (.inl (a1))] [] M =
  q_cI (orc 217 [.inr (.inr 1006)] GF M) GF (fun x2 M1 =>
  if x2 = 0 then
    none
  else
    q_cI (orc 220 [.inr (.inr 2006), .inl (a1)] GF M1) GF (fun x4 M3 =>
    if 0 ≤ x4 ∧ x4 < 65536 then some (some (.inl (x4)), GF, M3) else none)) := by
  rw [pr_st]; rfl
set_option maxRecDepth 20000 in
theorem sg_J0_isLatin1_aae02_0_s6 {sc : List Int} {orc : q_O} {M : q_M} {F : Nat} : pr sc orc 217 (F + 1) 0 [some (.inr (.inr 1006))] [] M =
  if 1 = 0 then
    some (some (.inl (0)), GF, M)
  else
    if 0 = 0 then
      some (some (.inl (1)), GF, M)
    else
      some (some (.inl (0)), GF, M) := by
  rw [pr_st]; rfl
set_option maxRecDepth 20000 in
theorem sg_J1_charAt_3b067_0_s6 {sc : List Int} {orc : q_O} {M : q_M} {F : Nat} {a2 : Int} : pr sc orc 220 (F + 1) 0 [some (.inr (.inr 2006)), some (.inl (a2))] [] M =
  q_c0 (orc 224 [.inl (a2), .inl (((2 : Nat) : Int))] GF M) GF (fun M1 =>
  if 0 ≤ a2 ∧ a2 < ((2 : Nat) : Int) then
  if 0 ≤ ((([111, 110] : List Int).getD (a2 : Int).toNat 0) % 256) % 65536 ∧ ((([111, 110] : List Int).getD (a2 : Int).toNat 0) % 256) % 65536 < 65536 then some (some (.inl (((([111, 110] : List Int).getD (a2 : Int).toNat 0) % 256) % 65536)), GF, M1) else none
  else none) := by
  rw [pr_st]; rfl
set_option maxRecDepth 20000 in
theorem sg_X8_spells_0_s7 {sc : List Int} {orc : q_O} {M : q_M} {F : Nat} {a1 a2 : Int} : pr sc orc 113 (F + 1) 0 [some (.inr (.inr 9)), some (.inl (a1)), some (.inl (a2)), some (.inr (.inr 1007)), none] [] M =
  q_cI (orc 214 [.inr (.inr 1007)] GF M) GF (fun x2 M1 =>
  if (q_w (a2 - a1)) = x2 then
    pr sc orc 113 F 15 [some (.inr (.inr 9)), some (.inl (a1)), none, some (.inr (.inr 1007)), some (.inl (0))] [] M1
  else
    some (some (.inl (0)), GF, M1)) := by
  rw [pr_st]; rfl
set_option maxRecDepth 20000 in
theorem sg_X8_spells_15_s7 {sc : List Int} {orc : q_O} {M : q_M} {F : Nat} {b1 b4 : Int} : pr sc orc 113 (F + 1) 15 [some (.inr (.inr 9)), some (.inl (b1)), none, some (.inr (.inr 1007)), some (.inl (b4))] [] M =
  q_cI (orc 214 [.inr (.inr 1007)] GF M) GF (fun x2 M1 =>
  if b4 < x2 then
    q_cI (orc 108 [.inr (.inr 9), .inl (q_w (b1 + b4))] GF M1) GF (fun x4 M3 =>
    q_cI (orc 216 [.inr (.inr 1007), .inl (b4)] GF M3) GF (fun x6 M5 =>
    if x4 = x6 then
      pr sc orc 113 F 15 [some (.inr (.inr 9)), some (.inl (b1)), none, some (.inr (.inr 1007)), some (.inl (q_w (b4 + (1))))] [] M5
    else
      some (some (.inl (0)), GF, M5)))
  else
    some (some (.inl (1)), GF, M1)) := by
  rw [pr_st]; rfl
set_option maxRecDepth 20000 in
theorem sg_J0_length_8abf5_0_s7 {sc : List Int} {orc : q_O} {M : q_M} {F : Nat} : pr sc orc 214 (F + 1) 0 [some (.inr (.inr 1007))] [] M =
  q_cI (orc 215 [.inr (.inr 1007)] GF M) GF (fun x2 M1 =>
  if x2 = 0 then
  some (some (.inl (((5 : Nat) : Int))), GF, M1)
  else none) := by
  rw [pr_st]; rfl
set_option maxRecDepth 20000 in
theorem sg_J0_coder_7d493_0_s7 {sc : List Int} {orc : q_O} {M : q_M} {F : Nat} : pr sc orc 215 (F + 1) 0 [some (.inr (.inr 1007))] [] M =
  if 1 = 0 then
    some (some (.inl (1)), GF, M)
  else
    some (some (.inl (0)), GF, M) := by
  rw [pr_st]; rfl
set_option maxRecDepth 20000 in
theorem sg_J0_charAt_5068e_0_s7 {sc : List Int} {orc : q_O} {M : q_M} {F : Nat} {a1 : Int} : pr sc orc 216 (F + 1) 0 [some (.inr (.inr 1007)), some (.inl (a1))] [] M =
  q_cI (orc 217 [.inr (.inr 1007)] GF M) GF (fun x2 M1 =>
  if x2 = 0 then
    none
  else
    q_cI (orc 220 [.inr (.inr 2007), .inl (a1)] GF M1) GF (fun x4 M3 =>
    if 0 ≤ x4 ∧ x4 < 65536 then some (some (.inl (x4)), GF, M3) else none)) := by
  rw [pr_st]; rfl
set_option maxRecDepth 20000 in
theorem sg_J0_isLatin1_aae02_0_s7 {sc : List Int} {orc : q_O} {M : q_M} {F : Nat} : pr sc orc 217 (F + 1) 0 [some (.inr (.inr 1007))] [] M =
  if 1 = 0 then
    some (some (.inl (0)), GF, M)
  else
    if 0 = 0 then
      some (some (.inl (1)), GF, M)
    else
      some (some (.inl (0)), GF, M) := by
  rw [pr_st]; rfl
set_option maxRecDepth 20000 in
theorem sg_J1_charAt_3b067_0_s7 {sc : List Int} {orc : q_O} {M : q_M} {F : Nat} {a2 : Int} : pr sc orc 220 (F + 1) 0 [some (.inr (.inr 2007)), some (.inl (a2))] [] M =
  q_c0 (orc 224 [.inl (a2), .inl (((5 : Nat) : Int))] GF M) GF (fun M1 =>
  if 0 ≤ a2 ∧ a2 < ((5 : Nat) : Int) then
  if 0 ≤ ((([119, 104, 101, 114, 101] : List Int).getD (a2 : Int).toNat 0) % 256) % 65536 ∧ ((([119, 104, 101, 114, 101] : List Int).getD (a2 : Int).toNat 0) % 256) % 65536 < 65536 then some (some (.inl (((([119, 104, 101, 114, 101] : List Int).getD (a2 : Int).toNat 0) % 256) % 65536)), GF, M1) else none
  else none) := by
  rw [pr_st]; rfl
set_option maxRecDepth 20000 in
theorem sg_X8_spells_0_s8 {sc : List Int} {orc : q_O} {M : q_M} {F : Nat} {a1 a2 : Int} : pr sc orc 113 (F + 1) 0 [some (.inr (.inr 9)), some (.inl (a1)), some (.inl (a2)), some (.inr (.inr 1008)), none] [] M =
  q_cI (orc 214 [.inr (.inr 1008)] GF M) GF (fun x2 M1 =>
  if (q_w (a2 - a1)) = x2 then
    pr sc orc 113 F 15 [some (.inr (.inr 9)), some (.inl (a1)), none, some (.inr (.inr 1008)), some (.inl (0))] [] M1
  else
    some (some (.inl (0)), GF, M1)) := by
  rw [pr_st]; rfl
set_option maxRecDepth 20000 in
theorem sg_X8_spells_15_s8 {sc : List Int} {orc : q_O} {M : q_M} {F : Nat} {b1 b4 : Int} : pr sc orc 113 (F + 1) 15 [some (.inr (.inr 9)), some (.inl (b1)), none, some (.inr (.inr 1008)), some (.inl (b4))] [] M =
  q_cI (orc 214 [.inr (.inr 1008)] GF M) GF (fun x2 M1 =>
  if b4 < x2 then
    q_cI (orc 108 [.inr (.inr 9), .inl (q_w (b1 + b4))] GF M1) GF (fun x4 M3 =>
    q_cI (orc 216 [.inr (.inr 1008), .inl (b4)] GF M3) GF (fun x6 M5 =>
    if x4 = x6 then
      pr sc orc 113 F 15 [some (.inr (.inr 9)), some (.inl (b1)), none, some (.inr (.inr 1008)), some (.inl (q_w (b4 + (1))))] [] M5
    else
      some (some (.inl (0)), GF, M5)))
  else
    some (some (.inl (1)), GF, M1)) := by
  rw [pr_st]; rfl
set_option maxRecDepth 20000 in
theorem sg_J0_length_8abf5_0_s8 {sc : List Int} {orc : q_O} {M : q_M} {F : Nat} : pr sc orc 214 (F + 1) 0 [some (.inr (.inr 1008))] [] M =
  q_cI (orc 215 [.inr (.inr 1008)] GF M) GF (fun x2 M1 =>
  if x2 = 0 then
  some (some (.inl (((5 : Nat) : Int))), GF, M1)
  else none) := by
  rw [pr_st]; rfl
set_option maxRecDepth 20000 in
theorem sg_J0_coder_7d493_0_s8 {sc : List Int} {orc : q_O} {M : q_M} {F : Nat} : pr sc orc 215 (F + 1) 0 [some (.inr (.inr 1008))] [] M =
  if 1 = 0 then
    some (some (.inl (1)), GF, M)
  else
    some (some (.inl (0)), GF, M) := by
  rw [pr_st]; rfl
set_option maxRecDepth 20000 in
theorem sg_J0_charAt_5068e_0_s8 {sc : List Int} {orc : q_O} {M : q_M} {F : Nat} {a1 : Int} : pr sc orc 216 (F + 1) 0 [some (.inr (.inr 1008)), some (.inl (a1))] [] M =
  q_cI (orc 217 [.inr (.inr 1008)] GF M) GF (fun x2 M1 =>
  if x2 = 0 then
    none
  else
    q_cI (orc 220 [.inr (.inr 2008), .inl (a1)] GF M1) GF (fun x4 M3 =>
    if 0 ≤ x4 ∧ x4 < 65536 then some (some (.inl (x4)), GF, M3) else none)) := by
  rw [pr_st]; rfl
set_option maxRecDepth 20000 in
theorem sg_J0_isLatin1_aae02_0_s8 {sc : List Int} {orc : q_O} {M : q_M} {F : Nat} : pr sc orc 217 (F + 1) 0 [some (.inr (.inr 1008))] [] M =
  if 1 = 0 then
    some (some (.inl (0)), GF, M)
  else
    if 0 = 0 then
      some (some (.inl (1)), GF, M)
    else
      some (some (.inl (0)), GF, M) := by
  rw [pr_st]; rfl
set_option maxRecDepth 20000 in
theorem sg_J1_charAt_3b067_0_s8 {sc : List Int} {orc : q_O} {M : q_M} {F : Nat} {a2 : Int} : pr sc orc 220 (F + 1) 0 [some (.inr (.inr 2008)), some (.inl (a2))] [] M =
  q_c0 (orc 224 [.inl (a2), .inl (((5 : Nat) : Int))] GF M) GF (fun M1 =>
  if 0 ≤ a2 ∧ a2 < ((5 : Nat) : Int) then
  if 0 ≤ ((([103, 114, 111, 117, 112] : List Int).getD (a2 : Int).toNat 0) % 256) % 65536 ∧ ((([103, 114, 111, 117, 112] : List Int).getD (a2 : Int).toNat 0) % 256) % 65536 < 65536 then some (some (.inl (((([103, 114, 111, 117, 112] : List Int).getD (a2 : Int).toNat 0) % 256) % 65536)), GF, M1) else none
  else none) := by
  rw [pr_st]; rfl
set_option maxRecDepth 20000 in
theorem sg_X8_spells_0_s9 {sc : List Int} {orc : q_O} {M : q_M} {F : Nat} {a1 a2 : Int} : pr sc orc 113 (F + 1) 0 [some (.inr (.inr 9)), some (.inl (a1)), some (.inl (a2)), some (.inr (.inr 1009)), none] [] M =
  q_cI (orc 214 [.inr (.inr 1009)] GF M) GF (fun x2 M1 =>
  if (q_w (a2 - a1)) = x2 then
    pr sc orc 113 F 15 [some (.inr (.inr 9)), some (.inl (a1)), none, some (.inr (.inr 1009)), some (.inl (0))] [] M1
  else
    some (some (.inl (0)), GF, M1)) := by
  rw [pr_st]; rfl
set_option maxRecDepth 20000 in
theorem sg_X8_spells_15_s9 {sc : List Int} {orc : q_O} {M : q_M} {F : Nat} {b1 b4 : Int} : pr sc orc 113 (F + 1) 15 [some (.inr (.inr 9)), some (.inl (b1)), none, some (.inr (.inr 1009)), some (.inl (b4))] [] M =
  q_cI (orc 214 [.inr (.inr 1009)] GF M) GF (fun x2 M1 =>
  if b4 < x2 then
    q_cI (orc 108 [.inr (.inr 9), .inl (q_w (b1 + b4))] GF M1) GF (fun x4 M3 =>
    q_cI (orc 216 [.inr (.inr 1009), .inl (b4)] GF M3) GF (fun x6 M5 =>
    if x4 = x6 then
      pr sc orc 113 F 15 [some (.inr (.inr 9)), some (.inl (b1)), none, some (.inr (.inr 1009)), some (.inl (q_w (b4 + (1))))] [] M5
    else
      some (some (.inl (0)), GF, M5)))
  else
    some (some (.inl (1)), GF, M1)) := by
  rw [pr_st]; rfl
set_option maxRecDepth 20000 in
theorem sg_J0_length_8abf5_0_s9 {sc : List Int} {orc : q_O} {M : q_M} {F : Nat} : pr sc orc 214 (F + 1) 0 [some (.inr (.inr 1009))] [] M =
  q_cI (orc 215 [.inr (.inr 1009)] GF M) GF (fun x2 M1 =>
  if x2 = 0 then
  some (some (.inl (((5 : Nat) : Int))), GF, M1)
  else none) := by
  rw [pr_st]; rfl
set_option maxRecDepth 20000 in
theorem sg_J0_coder_7d493_0_s9 {sc : List Int} {orc : q_O} {M : q_M} {F : Nat} : pr sc orc 215 (F + 1) 0 [some (.inr (.inr 1009))] [] M =
  if 1 = 0 then
    some (some (.inl (1)), GF, M)
  else
    some (some (.inl (0)), GF, M) := by
  rw [pr_st]; rfl
set_option maxRecDepth 20000 in
theorem sg_J0_charAt_5068e_0_s9 {sc : List Int} {orc : q_O} {M : q_M} {F : Nat} {a1 : Int} : pr sc orc 216 (F + 1) 0 [some (.inr (.inr 1009)), some (.inl (a1))] [] M =
  q_cI (orc 217 [.inr (.inr 1009)] GF M) GF (fun x2 M1 =>
  if x2 = 0 then
    none
  else
    q_cI (orc 220 [.inr (.inr 2009), .inl (a1)] GF M1) GF (fun x4 M3 =>
    if 0 ≤ x4 ∧ x4 < 65536 then some (some (.inl (x4)), GF, M3) else none)) := by
  rw [pr_st]; rfl
set_option maxRecDepth 20000 in
theorem sg_J0_isLatin1_aae02_0_s9 {sc : List Int} {orc : q_O} {M : q_M} {F : Nat} : pr sc orc 217 (F + 1) 0 [some (.inr (.inr 1009))] [] M =
  if 1 = 0 then
    some (some (.inl (0)), GF, M)
  else
    if 0 = 0 then
      some (some (.inl (1)), GF, M)
    else
      some (some (.inl (0)), GF, M) := by
  rw [pr_st]; rfl
set_option maxRecDepth 20000 in
theorem sg_J1_charAt_3b067_0_s9 {sc : List Int} {orc : q_O} {M : q_M} {F : Nat} {a2 : Int} : pr sc orc 220 (F + 1) 0 [some (.inr (.inr 2009)), some (.inl (a2))] [] M =
  q_c0 (orc 224 [.inl (a2), .inl (((5 : Nat) : Int))] GF M) GF (fun M1 =>
  if 0 ≤ a2 ∧ a2 < ((5 : Nat) : Int) then
  if 0 ≤ ((([99, 111, 117, 110, 116] : List Int).getD (a2 : Int).toNat 0) % 256) % 65536 ∧ ((([99, 111, 117, 110, 116] : List Int).getD (a2 : Int).toNat 0) % 256) % 65536 < 65536 then some (some (.inl (((([99, 111, 117, 110, 116] : List Int).getD (a2 : Int).toNat 0) % 256) % 65536)), GF, M1) else none
  else none) := by
  rw [pr_st]; rfl
end
section
set_option maxRecDepth 20000 in
theorem sg_X8_spells_0_s10 {sc : List Int} {orc : q_O} {M : q_M} {F : Nat} {a1 a2 : Int} : pr sc orc 113 (F + 1) 0 [some (.inr (.inr 9)), some (.inl (a1)), some (.inl (a2)), some (.inr (.inr 1010)), none] [] M =
  q_cI (orc 214 [.inr (.inr 1010)] GF M) GF (fun x2 M1 =>
  if (q_w (a2 - a1)) = x2 then
    pr sc orc 113 F 15 [some (.inr (.inr 9)), some (.inl (a1)), none, some (.inr (.inr 1010)), some (.inl (0))] [] M1
  else
    some (some (.inl (0)), GF, M1)) := by
  rw [pr_st]; rfl
set_option maxRecDepth 20000 in
theorem sg_X8_spells_15_s10 {sc : List Int} {orc : q_O} {M : q_M} {F : Nat} {b1 b4 : Int} : pr sc orc 113 (F + 1) 15 [some (.inr (.inr 9)), some (.inl (b1)), none, some (.inr (.inr 1010)), some (.inl (b4))] [] M =
  q_cI (orc 214 [.inr (.inr 1010)] GF M) GF (fun x2 M1 =>
  if b4 < x2 then
    q_cI (orc 108 [.inr (.inr 9), .inl (q_w (b1 + b4))] GF M1) GF (fun x4 M3 =>
    q_cI (orc 216 [.inr (.inr 1010), .inl (b4)] GF M3) GF (fun x6 M5 =>
    if x4 = x6 then
      pr sc orc 113 F 15 [some (.inr (.inr 9)), some (.inl (b1)), none, some (.inr (.inr 1010)), some (.inl (q_w (b4 + (1))))] [] M5
    else
      some (some (.inl (0)), GF, M5)))
  else
    some (some (.inl (1)), GF, M1)) := by
  rw [pr_st]; rfl
set_option maxRecDepth 20000 in
theorem sg_J0_length_8abf5_0_s10 {sc : List Int} {orc : q_O} {M : q_M} {F : Nat} : pr sc orc 214 (F + 1) 0 [some (.inr (.inr 1010))] [] M =
  q_cI (orc 215 [.inr (.inr 1010)] GF M) GF (fun x2 M1 =>
  if x2 = 0 then
  some (some (.inl (((3 : Nat) : Int))), GF, M1)
  else none) := by
  rw [pr_st]; rfl
set_option maxRecDepth 20000 in
theorem sg_J0_coder_7d493_0_s10 {sc : List Int} {orc : q_O} {M : q_M} {F : Nat} : pr sc orc 215 (F + 1) 0 [some (.inr (.inr 1010))] [] M =
  if 1 = 0 then
    some (some (.inl (1)), GF, M)
  else
    some (some (.inl (0)), GF, M) := by
  rw [pr_st]; rfl
set_option maxRecDepth 20000 in
theorem sg_J0_charAt_5068e_0_s10 {sc : List Int} {orc : q_O} {M : q_M} {F : Nat} {a1 : Int} : pr sc orc 216 (F + 1) 0 [some (.inr (.inr 1010)), some (.inl (a1))] [] M =
  q_cI (orc 217 [.inr (.inr 1010)] GF M) GF (fun x2 M1 =>
  if x2 = 0 then
    none
  else
    q_cI (orc 220 [.inr (.inr 2010), .inl (a1)] GF M1) GF (fun x4 M3 =>
    if 0 ≤ x4 ∧ x4 < 65536 then some (some (.inl (x4)), GF, M3) else none)) := by
  rw [pr_st]; rfl
set_option maxRecDepth 20000 in
theorem sg_J0_isLatin1_aae02_0_s10 {sc : List Int} {orc : q_O} {M : q_M} {F : Nat} : pr sc orc 217 (F + 1) 0 [some (.inr (.inr 1010))] [] M =
  if 1 = 0 then
    some (some (.inl (0)), GF, M)
  else
    if 0 = 0 then
      some (some (.inl (1)), GF, M)
    else
      some (some (.inl (0)), GF, M) := by
  rw [pr_st]; rfl
set_option maxRecDepth 20000 in
theorem sg_J1_charAt_3b067_0_s10 {sc : List Int} {orc : q_O} {M : q_M} {F : Nat} {a2 : Int} : pr sc orc 220 (F + 1) 0 [some (.inr (.inr 2010)), some (.inl (a2))] [] M =
  q_c0 (orc 224 [.inl (a2), .inl (((3 : Nat) : Int))] GF M) GF (fun M1 =>
  if 0 ≤ a2 ∧ a2 < ((3 : Nat) : Int) then
  if 0 ≤ ((([115, 117, 109] : List Int).getD (a2 : Int).toNat 0) % 256) % 65536 ∧ ((([115, 117, 109] : List Int).getD (a2 : Int).toNat 0) % 256) % 65536 < 65536 then some (some (.inl (((([115, 117, 109] : List Int).getD (a2 : Int).toNat 0) % 256) % 65536)), GF, M1) else none
  else none) := by
  rw [pr_st]; rfl
set_option maxRecDepth 20000 in
theorem sg_X8_spells_0_s11 {sc : List Int} {orc : q_O} {M : q_M} {F : Nat} {a1 a2 : Int} : pr sc orc 113 (F + 1) 0 [some (.inr (.inr 9)), some (.inl (a1)), some (.inl (a2)), some (.inr (.inr 1011)), none] [] M =
  q_cI (orc 214 [.inr (.inr 1011)] GF M) GF (fun x2 M1 =>
  if (q_w (a2 - a1)) = x2 then
    pr sc orc 113 F 15 [some (.inr (.inr 9)), some (.inl (a1)), none, some (.inr (.inr 1011)), some (.inl (0))] [] M1
  else
    some (some (.inl (0)), GF, M1)) := by
  rw [pr_st]; rfl
set_option maxRecDepth 20000 in
theorem sg_X8_spells_15_s11 {sc : List Int} {orc : q_O} {M : q_M} {F : Nat} {b1 b4 : Int} : pr sc orc 113 (F + 1) 15 [some (.inr (.inr 9)), some (.inl (b1)), none, some (.inr (.inr 1011)), some (.inl (b4))] [] M =
  q_cI (orc 214 [.inr (.inr 1011)] GF M) GF (fun x2 M1 =>
  if b4 < x2 then
    q_cI (orc 108 [.inr (.inr 9), .inl (q_w (b1 + b4))] GF M1) GF (fun x4 M3 =>
    q_cI (orc 216 [.inr (.inr 1011), .inl (b4)] GF M3) GF (fun x6 M5 =>
    if x4 = x6 then
      pr sc orc 113 F 15 [some (.inr (.inr 9)), some (.inl (b1)), none, some (.inr (.inr 1011)), some (.inl (q_w (b4 + (1))))] [] M5
    else
      some (some (.inl (0)), GF, M5)))
  else
    some (some (.inl (1)), GF, M1)) := by
  rw [pr_st]; rfl
set_option maxRecDepth 20000 in
theorem sg_J0_length_8abf5_0_s11 {sc : List Int} {orc : q_O} {M : q_M} {F : Nat} : pr sc orc 214 (F + 1) 0 [some (.inr (.inr 1011))] [] M =
  q_cI (orc 215 [.inr (.inr 1011)] GF M) GF (fun x2 M1 =>
  if x2 = 0 then
  some (some (.inl (((3 : Nat) : Int))), GF, M1)
  else none) := by
  rw [pr_st]; rfl
set_option maxRecDepth 20000 in
theorem sg_J0_coder_7d493_0_s11 {sc : List Int} {orc : q_O} {M : q_M} {F : Nat} : pr sc orc 215 (F + 1) 0 [some (.inr (.inr 1011))] [] M =
  if 1 = 0 then
    some (some (.inl (1)), GF, M)
  else
    some (some (.inl (0)), GF, M) := by
  rw [pr_st]; rfl
set_option maxRecDepth 20000 in
theorem sg_J0_charAt_5068e_0_s11 {sc : List Int} {orc : q_O} {M : q_M} {F : Nat} {a1 : Int} : pr sc orc 216 (F + 1) 0 [some (.inr (.inr 1011)), some (.inl (a1))] [] M =
  q_cI (orc 217 [.inr (.inr 1011)] GF M) GF (fun x2 M1 =>
  if x2 = 0 then
    none
  else
    q_cI (orc 220 [.inr (.inr 2011), .inl (a1)] GF M1) GF (fun x4 M3 =>
    if 0 ≤ x4 ∧ x4 < 65536 then some (some (.inl (x4)), GF, M3) else none)) := by
  rw [pr_st]; rfl
set_option maxRecDepth 20000 in
theorem sg_J0_isLatin1_aae02_0_s11 {sc : List Int} {orc : q_O} {M : q_M} {F : Nat} : pr sc orc 217 (F + 1) 0 [some (.inr (.inr 1011))] [] M =
  if 1 = 0 then
    some (some (.inl (0)), GF, M)
  else
    if 0 = 0 then
      some (some (.inl (1)), GF, M)
    else
      some (some (.inl (0)), GF, M) := by
  rw [pr_st]; rfl
set_option maxRecDepth 20000 in
theorem sg_J1_charAt_3b067_0_s11 {sc : List Int} {orc : q_O} {M : q_M} {F : Nat} {a2 : Int} : pr sc orc 220 (F + 1) 0 [some (.inr (.inr 2011)), some (.inl (a2))] [] M =
  q_c0 (orc 224 [.inl (a2), .inl (((3 : Nat) : Int))] GF M) GF (fun M1 =>
  if 0 ≤ a2 ∧ a2 < ((3 : Nat) : Int) then
  if 0 ≤ ((([109, 105, 110] : List Int).getD (a2 : Int).toNat 0) % 256) % 65536 ∧ ((([109, 105, 110] : List Int).getD (a2 : Int).toNat 0) % 256) % 65536 < 65536 then some (some (.inl (((([109, 105, 110] : List Int).getD (a2 : Int).toNat 0) % 256) % 65536)), GF, M1) else none
  else none) := by
  rw [pr_st]; rfl
set_option maxRecDepth 20000 in
theorem sg_X8_spells_0_s12 {sc : List Int} {orc : q_O} {M : q_M} {F : Nat} {a1 a2 : Int} : pr sc orc 113 (F + 1) 0 [some (.inr (.inr 9)), some (.inl (a1)), some (.inl (a2)), some (.inr (.inr 1012)), none] [] M =
  q_cI (orc 214 [.inr (.inr 1012)] GF M) GF (fun x2 M1 =>
  if (q_w (a2 - a1)) = x2 then
    pr sc orc 113 F 15 [some (.inr (.inr 9)), some (.inl (a1)), none, some (.inr (.inr 1012)), some (.inl (0))] [] M1
  else
    some (some (.inl (0)), GF, M1)) := by
  rw [pr_st]; rfl
set_option maxRecDepth 20000 in
theorem sg_X8_spells_15_s12 {sc : List Int} {orc : q_O} {M : q_M} {F : Nat} {b1 b4 : Int} : pr sc orc 113 (F + 1) 15 [some (.inr (.inr 9)), some (.inl (b1)), none, some (.inr (.inr 1012)), some (.inl (b4))] [] M =
  q_cI (orc 214 [.inr (.inr 1012)] GF M) GF (fun x2 M1 =>
  if b4 < x2 then
    q_cI (orc 108 [.inr (.inr 9), .inl (q_w (b1 + b4))] GF M1) GF (fun x4 M3 =>
    q_cI (orc 216 [.inr (.inr 1012), .inl (b4)] GF M3) GF (fun x6 M5 =>
    if x4 = x6 then
      pr sc orc 113 F 15 [some (.inr (.inr 9)), some (.inl (b1)), none, some (.inr (.inr 1012)), some (.inl (q_w (b4 + (1))))] [] M5
    else
      some (some (.inl (0)), GF, M5)))
  else
    some (some (.inl (1)), GF, M1)) := by
  rw [pr_st]; rfl
set_option maxRecDepth 20000 in
theorem sg_J0_length_8abf5_0_s12 {sc : List Int} {orc : q_O} {M : q_M} {F : Nat} : pr sc orc 214 (F + 1) 0 [some (.inr (.inr 1012))] [] M =
  q_cI (orc 215 [.inr (.inr 1012)] GF M) GF (fun x2 M1 =>
  if x2 = 0 then
  some (some (.inl (((3 : Nat) : Int))), GF, M1)
  else none) := by
  rw [pr_st]; rfl
set_option maxRecDepth 20000 in
theorem sg_J0_coder_7d493_0_s12 {sc : List Int} {orc : q_O} {M : q_M} {F : Nat} : pr sc orc 215 (F + 1) 0 [some (.inr (.inr 1012))] [] M =
  if 1 = 0 then
    some (some (.inl (1)), GF, M)
  else
    some (some (.inl (0)), GF, M) := by
  rw [pr_st]; rfl
set_option maxRecDepth 20000 in
theorem sg_J0_charAt_5068e_0_s12 {sc : List Int} {orc : q_O} {M : q_M} {F : Nat} {a1 : Int} : pr sc orc 216 (F + 1) 0 [some (.inr (.inr 1012)), some (.inl (a1))] [] M =
  q_cI (orc 217 [.inr (.inr 1012)] GF M) GF (fun x2 M1 =>
  if x2 = 0 then
    none
  else
    q_cI (orc 220 [.inr (.inr 2012), .inl (a1)] GF M1) GF (fun x4 M3 =>
    if 0 ≤ x4 ∧ x4 < 65536 then some (some (.inl (x4)), GF, M3) else none)) := by
  rw [pr_st]; rfl
set_option maxRecDepth 20000 in
theorem sg_J0_isLatin1_aae02_0_s12 {sc : List Int} {orc : q_O} {M : q_M} {F : Nat} : pr sc orc 217 (F + 1) 0 [some (.inr (.inr 1012))] [] M =
  if 1 = 0 then
    some (some (.inl (0)), GF, M)
  else
    if 0 = 0 then
      some (some (.inl (1)), GF, M)
    else
      some (some (.inl (0)), GF, M) := by
  rw [pr_st]; rfl
set_option maxRecDepth 20000 in
theorem sg_J1_charAt_3b067_0_s12 {sc : List Int} {orc : q_O} {M : q_M} {F : Nat} {a2 : Int} : pr sc orc 220 (F + 1) 0 [some (.inr (.inr 2012)), some (.inl (a2))] [] M =
  q_c0 (orc 224 [.inl (a2), .inl (((3 : Nat) : Int))] GF M) GF (fun M1 =>
  if 0 ≤ a2 ∧ a2 < ((3 : Nat) : Int) then
  if 0 ≤ ((([109, 97, 120] : List Int).getD (a2 : Int).toNat 0) % 256) % 65536 ∧ ((([109, 97, 120] : List Int).getD (a2 : Int).toNat 0) % 256) % 65536 < 65536 then some (some (.inl (((([109, 97, 120] : List Int).getD (a2 : Int).toNat 0) % 256) % 65536)), GF, M1) else none
  else none) := by
  rw [pr_st]; rfl
set_option maxRecDepth 20000 in
theorem sg_X8_spells_0_s13 {sc : List Int} {orc : q_O} {M : q_M} {F : Nat} {a1 a2 : Int} : pr sc orc 113 (F + 1) 0 [some (.inr (.inr 9)), some (.inl (a1)), some (.inl (a2)), some (.inr (.inr 1013)), none] [] M =
  q_cI (orc 214 [.inr (.inr 1013)] GF M) GF (fun x2 M1 =>
  if (q_w (a2 - a1)) = x2 then
    pr sc orc 113 F 15 [some (.inr (.inr 9)), some (.inl (a1)), none, some (.inr (.inr 1013)), some (.inl (0))] [] M1
  else
    some (some (.inl (0)), GF, M1)) := by
  rw [pr_st]; rfl
set_option maxRecDepth 20000 in
theorem sg_X8_spells_15_s13 {sc : List Int} {orc : q_O} {M : q_M} {F : Nat} {b1 b4 : Int} : pr sc orc 113 (F + 1) 15 [some (.inr (.inr 9)), some (.inl (b1)), none, some (.inr (.inr 1013)), some (.inl (b4))] [] M =
  q_cI (orc 214 [.inr (.inr 1013)] GF M) GF (fun x2 M1 =>
  if b4 < x2 then
    q_cI (orc 108 [.inr (.inr 9), .inl (q_w (b1 + b4))] GF M1) GF (fun x4 M3 =>
    q_cI (orc 216 [.inr (.inr 1013), .inl (b4)] GF M3) GF (fun x6 M5 =>
    if x4 = x6 then
      pr sc orc 113 F 15 [some (.inr (.inr 9)), some (.inl (b1)), none, some (.inr (.inr 1013)), some (.inl (q_w (b4 + (1))))] [] M5
    else
      some (some (.inl (0)), GF, M5)))
  else
    some (some (.inl (1)), GF, M1)) := by
  rw [pr_st]; rfl
set_option maxRecDepth 20000 in
theorem sg_J0_length_8abf5_0_s13 {sc : List Int} {orc : q_O} {M : q_M} {F : Nat} : pr sc orc 214 (F + 1) 0 [some (.inr (.inr 1013))] [] M =
  q_cI (orc 215 [.inr (.inr 1013)] GF M) GF (fun x2 M1 =>
  if x2 = 0 then
  some (some (.inl (((2 : Nat) : Int))), GF, M1)
  else none) := by
  rw [pr_st]; rfl
set_option maxRecDepth 20000 in
theorem sg_J0_coder_7d493_0_s13 {sc : List Int} {orc : q_O} {M : q_M} {F : Nat} : pr sc orc 215 (F + 1) 0 [some (.inr (.inr 1013))] [] M =
  if 1 = 0 then
    some (some (.inl (1)), GF, M)
  else
    some (some (.inl (0)), GF, M) := by
  rw [pr_st]; rfl
set_option maxRecDepth 20000 in
theorem sg_J0_charAt_5068e_0_s13 {sc : List Int} {orc : q_O} {M : q_M} {F : Nat} {a1 : Int} : pr sc orc 216 (F + 1) 0 [some (.inr (.inr 1013)), some (.inl (a1))] [] M =
  q_cI (orc 217 [.inr (.inr 1013)] GF M) GF (fun x2 M1 =>
  if x2 = 0 then
    none
  else
    q_cI (orc 220 [.inr (.inr 2013), .inl (a1)] GF M1) GF (fun x4 M3 =>
    if 0 ≤ x4 ∧ x4 < 65536 then some (some (.inl (x4)), GF, M3) else none)) := by
  rw [pr_st]; rfl
set_option maxRecDepth 20000 in
theorem sg_J0_isLatin1_aae02_0_s13 {sc : List Int} {orc : q_O} {M : q_M} {F : Nat} : pr sc orc 217 (F + 1) 0 [some (.inr (.inr 1013))] [] M =
  if 1 = 0 then
    some (some (.inl (0)), GF, M)
  else
    if 0 = 0 then
      some (some (.inl (1)), GF, M)
    else
      some (some (.inl (0)), GF, M) := by
  rw [pr_st]; rfl
set_option maxRecDepth 20000 in
theorem sg_J1_charAt_3b067_0_s13 {sc : List Int} {orc : q_O} {M : q_M} {F : Nat} {a2 : Int} : pr sc orc 220 (F + 1) 0 [some (.inr (.inr 2013)), some (.inl (a2))] [] M =
  q_c0 (orc 224 [.inl (a2), .inl (((2 : Nat) : Int))] GF M) GF (fun M1 =>
  if 0 ≤ a2 ∧ a2 < ((2 : Nat) : Int) then
  if 0 ≤ ((([111, 114] : List Int).getD (a2 : Int).toNat 0) % 256) % 65536 ∧ ((([111, 114] : List Int).getD (a2 : Int).toNat 0) % 256) % 65536 < 65536 then some (some (.inl (((([111, 114] : List Int).getD (a2 : Int).toNat 0) % 256) % 65536)), GF, M1) else none
  else none) := by
  rw [pr_st]; rfl
set_option maxRecDepth 20000 in
theorem sg_X8_spells_0_s14 {sc : List Int} {orc : q_O} {M : q_M} {F : Nat} {a1 a2 : Int} : pr sc orc 113 (F + 1) 0 [some (.inr (.inr 9)), some (.inl (a1)), some (.inl (a2)), some (.inr (.inr 1014)), none] [] M =
  q_cI (orc 214 [.inr (.inr 1014)] GF M) GF (fun x2 M1 =>
  if (q_w (a2 - a1)) = x2 then
    pr sc orc 113 F 15 [some (.inr (.inr 9)), some (.inl (a1)), none, some (.inr (.inr 1014)), some (.inl (0))] [] M1
  else
    some (some (.inl (0)), GF, M1)) := by
  rw [pr_st]; rfl
set_option maxRecDepth 20000 in
theorem sg_X8_spells_15_s14 {sc : List Int} {orc : q_O} {M : q_M} {F : Nat} {b1 b4 : Int} : pr sc orc 113 (F + 1) 15 [some (.inr (.inr 9)), some (.inl (b1)), none, some (.inr (.inr 1014)), some (.inl (b4))] [] M =
  q_cI (orc 214 [.inr (.inr 1014)] GF M) GF (fun x2 M1 =>
  if b4 < x2 then
    q_cI (orc 108 [.inr (.inr 9), .inl (q_w (b1 + b4))] GF M1) GF (fun x4 M3 =>
    q_cI (orc 216 [.inr (.inr 1014), .inl (b4)] GF M3) GF (fun x6 M5 =>
    if x4 = x6 then
      pr sc orc 113 F 15 [some (.inr (.inr 9)), some (.inl (b1)), none, some (.inr (.inr 1014)), some (.inl (q_w (b4 + (1))))] [] M5
    else
      some (some (.inl (0)), GF, M5)))
  else
    some (some (.inl (1)), GF, M1)) := by
  rw [pr_st]; rfl
set_option maxRecDepth 20000 in
theorem sg_J0_length_8abf5_0_s14 {sc : List Int} {orc : q_O} {M : q_M} {F : Nat} : pr sc orc 214 (F + 1) 0 [some (.inr (.inr 1014))] [] M =
  q_cI (orc 215 [.inr (.inr 1014)] GF M) GF (fun x2 M1 =>
  if x2 = 0 then
  some (some (.inl (((3 : Nat) : Int))), GF, M1)
  else none) := by
  rw [pr_st]; rfl
set_option maxRecDepth 20000 in
theorem sg_J0_coder_7d493_0_s14 {sc : List Int} {orc : q_O} {M : q_M} {F : Nat} : pr sc orc 215 (F + 1) 0 [some (.inr (.inr 1014))] [] M =
  if 1 = 0 then
    some (some (.inl (1)), GF, M)
  else
    some (some (.inl (0)), GF, M) := by
  rw [pr_st]; rfl
set_option maxRecDepth 20000 in
theorem sg_J0_charAt_5068e_0_s14 {sc : List Int} {orc : q_O} {M : q_M} {F : Nat} {a1 : Int} : pr sc orc 216 (F + 1) 0 [some (.inr (.inr 1014)), some (.inl (a1))] [] M =
  q_cI (orc 217 [.inr (.inr 1014)] GF M) GF (fun x2 M1 =>
  if x2 = 0 then
    none
  else
    q_cI (orc 220 [.inr (.inr 2014), .inl (a1)] GF M1) GF (fun x4 M3 =>
    if 0 ≤ x4 ∧ x4 < 65536 then some (some (.inl (x4)), GF, M3) else none)) := by
  rw [pr_st]; rfl
set_option maxRecDepth 20000 in
theorem sg_J0_isLatin1_aae02_0_s14 {sc : List Int} {orc : q_O} {M : q_M} {F : Nat} : pr sc orc 217 (F + 1) 0 [some (.inr (.inr 1014))] [] M =
  if 1 = 0 then
    some (some (.inl (0)), GF, M)
  else
    if 0 = 0 then
      some (some (.inl (1)), GF, M)
    else
      some (some (.inl (0)), GF, M) := by
  rw [pr_st]; rfl
set_option maxRecDepth 20000 in
theorem sg_J1_charAt_3b067_0_s14 {sc : List Int} {orc : q_O} {M : q_M} {F : Nat} {a2 : Int} : pr sc orc 220 (F + 1) 0 [some (.inr (.inr 2014)), some (.inl (a2))] [] M =
  q_c0 (orc 224 [.inl (a2), .inl (((3 : Nat) : Int))] GF M) GF (fun M1 =>
  if 0 ≤ a2 ∧ a2 < ((3 : Nat) : Int) then
  if 0 ≤ ((([97, 110, 100] : List Int).getD (a2 : Int).toNat 0) % 256) % 65536 ∧ ((([97, 110, 100] : List Int).getD (a2 : Int).toNat 0) % 256) % 65536 < 65536 then some (some (.inl (((([97, 110, 100] : List Int).getD (a2 : Int).toNat 0) % 256) % 65536)), GF, M1) else none
  else none) := by
  rw [pr_st]; rfl
set_option maxRecDepth 20000 in
theorem sg_X8_spells_0_s15 {sc : List Int} {orc : q_O} {M : q_M} {F : Nat} {a1 a2 : Int} : pr sc orc 113 (F + 1) 0 [some (.inr (.inr 9)), some (.inl (a1)), some (.inl (a2)), some (.inr (.inr 1015)), none] [] M =
  q_cI (orc 214 [.inr (.inr 1015)] GF M) GF (fun x2 M1 =>
  if (q_w (a2 - a1)) = x2 then
    pr sc orc 113 F 15 [some (.inr (.inr 9)), some (.inl (a1)), none, some (.inr (.inr 1015)), some (.inl (0))] [] M1
  else
    some (some (.inl (0)), GF, M1)) := by
  rw [pr_st]; rfl
set_option maxRecDepth 20000 in
theorem sg_X8_spells_15_s15 {sc : List Int} {orc : q_O} {M : q_M} {F : Nat} {b1 b4 : Int} : pr sc orc 113 (F + 1) 15 [some (.inr (.inr 9)), some (.inl (b1)), none, some (.inr (.inr 1015)), some (.inl (b4))] [] M =
  q_cI (orc 214 [.inr (.inr 1015)] GF M) GF (fun x2 M1 =>
  if b4 < x2 then
    q_cI (orc 108 [.inr (.inr 9), .inl (q_w (b1 + b4))] GF M1) GF (fun x4 M3 =>
    q_cI (orc 216 [.inr (.inr 1015), .inl (b4)] GF M3) GF (fun x6 M5 =>
    if x4 = x6 then
      pr sc orc 113 F 15 [some (.inr (.inr 9)), some (.inl (b1)), none, some (.inr (.inr 1015)), some (.inl (q_w (b4 + (1))))] [] M5
    else
      some (some (.inl (0)), GF, M5)))
  else
    some (some (.inl (1)), GF, M1)) := by
  rw [pr_st]; rfl
set_option maxRecDepth 20000 in
theorem sg_J0_length_8abf5_0_s15 {sc : List Int} {orc : q_O} {M : q_M} {F : Nat} : pr sc orc 214 (F + 1) 0 [some (.inr (.inr 1015))] [] M =
  q_cI (orc 215 [.inr (.inr 1015)] GF M) GF (fun x2 M1 =>
  if x2 = 0 then
  some (some (.inl (((3 : Nat) : Int))), GF, M1)
  else none) := by
  rw [pr_st]; rfl
set_option maxRecDepth 20000 in
theorem sg_J0_coder_7d493_0_s15 {sc : List Int} {orc : q_O} {M : q_M} {F : Nat} : pr sc orc 215 (F + 1) 0 [some (.inr (.inr 1015))] [] M =
  if 1 = 0 then
    some (some (.inl (1)), GF, M)
  else
    some (some (.inl (0)), GF, M) := by
  rw [pr_st]; rfl
set_option maxRecDepth 20000 in
theorem sg_J0_charAt_5068e_0_s15 {sc : List Int} {orc : q_O} {M : q_M} {F : Nat} {a1 : Int} : pr sc orc 216 (F + 1) 0 [some (.inr (.inr 1015)), some (.inl (a1))] [] M =
  q_cI (orc 217 [.inr (.inr 1015)] GF M) GF (fun x2 M1 =>
  if x2 = 0 then
    none
  else
    q_cI (orc 220 [.inr (.inr 2015), .inl (a1)] GF M1) GF (fun x4 M3 =>
    if 0 ≤ x4 ∧ x4 < 65536 then some (some (.inl (x4)), GF, M3) else none)) := by
  rw [pr_st]; rfl
set_option maxRecDepth 20000 in
theorem sg_J0_isLatin1_aae02_0_s15 {sc : List Int} {orc : q_O} {M : q_M} {F : Nat} : pr sc orc 217 (F + 1) 0 [some (.inr (.inr 1015))] [] M =
  if 1 = 0 then
    some (some (.inl (0)), GF, M)
  else
    if 0 = 0 then
      some (some (.inl (1)), GF, M)
    else
      some (some (.inl (0)), GF, M) := by
  rw [pr_st]; rfl
set_option maxRecDepth 20000 in
theorem sg_J1_charAt_3b067_0_s15 {sc : List Int} {orc : q_O} {M : q_M} {F : Nat} {a2 : Int} : pr sc orc 220 (F + 1) 0 [some (.inr (.inr 2015)), some (.inl (a2))] [] M =
  q_c0 (orc 224 [.inl (a2), .inl (((3 : Nat) : Int))] GF M) GF (fun M1 =>
  if 0 ≤ a2 ∧ a2 < ((3 : Nat) : Int) then
  if 0 ≤ ((([110, 111, 116] : List Int).getD (a2 : Int).toNat 0) % 256) % 65536 ∧ ((([110, 111, 116] : List Int).getD (a2 : Int).toNat 0) % 256) % 65536 < 65536 then some (some (.inl (((([110, 111, 116] : List Int).getD (a2 : Int).toNat 0) % 256) % 65536)), GF, M1) else none
  else none) := by
  rw [pr_st]; rfl
set_option maxRecDepth 20000 in
theorem sg_X8_spells_0_s16 {sc : List Int} {orc : q_O} {M : q_M} {F : Nat} {a1 a2 : Int} : pr sc orc 113 (F + 1) 0 [some (.inr (.inr 9)), some (.inl (a1)), some (.inl (a2)), some (.inr (.inr 1016)), none] [] M =
  q_cI (orc 214 [.inr (.inr 1016)] GF M) GF (fun x2 M1 =>
  if (q_w (a2 - a1)) = x2 then
    pr sc orc 113 F 15 [some (.inr (.inr 9)), some (.inl (a1)), none, some (.inr (.inr 1016)), some (.inl (0))] [] M1
  else
    some (some (.inl (0)), GF, M1)) := by
  rw [pr_st]; rfl
set_option maxRecDepth 20000 in
theorem sg_X8_spells_15_s16 {sc : List Int} {orc : q_O} {M : q_M} {F : Nat} {b1 b4 : Int} : pr sc orc 113 (F + 1) 15 [some (.inr (.inr 9)), some (.inl (b1)), none, some (.inr (.inr 1016)), some (.inl (b4))] [] M =
  q_cI (orc 214 [.inr (.inr 1016)] GF M) GF (fun x2 M1 =>
  if b4 < x2 then
    q_cI (orc 108 [.inr (.inr 9), .inl (q_w (b1 + b4))] GF M1) GF (fun x4 M3 =>
    q_cI (orc 216 [.inr (.inr 1016), .inl (b4)] GF M3) GF (fun x6 M5 =>
    if x4 = x6 then
      pr sc orc 113 F 15 [some (.inr (.inr 9)), some (.inl (b1)), none, some (.inr (.inr 1016)), some (.inl (q_w (b4 + (1))))] [] M5
    else
      some (some (.inl (0)), GF, M5)))
  else
    some (some (.inl (1)), GF, M1)) := by
  rw [pr_st]; rfl
set_option maxRecDepth 20000 in
theorem sg_J0_length_8abf5_0_s16 {sc : List Int} {orc : q_O} {M : q_M} {F : Nat} : pr sc orc 214 (F + 1) 0 [some (.inr (.inr 1016))] [] M =
  q_cI (orc 215 [.inr (.inr 1016)] GF M) GF (fun x2 M1 =>
  if x2 = 0 then
  some (some (.inl (((2 : Nat) : Int))), GF, M1)
  else none) := by
  rw [pr_st]; rfl
set_option maxRecDepth 20000 in
theorem sg_J0_coder_7d493_0_s16 {sc : List Int} {orc : q_O} {M : q_M} {F : Nat} : pr sc orc 215 (F + 1) 0 [some (.inr (.inr 1016))] [] M =
  if 1 = 0 then
    some (some (.inl (1)), GF, M)
  else
    some (some (.inl (0)), GF, M) := by
  rw [pr_st]; rfl
set_option maxRecDepth 20000 in
theorem sg_J0_charAt_5068e_0_s16 {sc : List Int} {orc : q_O} {M : q_M} {F : Nat} {a1 : Int} : pr sc orc 216 (F + 1) 0 [some (.inr (.inr 1016)), some (.inl (a1))] [] M =
  q_cI (orc 217 [.inr (.inr 1016)] GF M) GF (fun x2 M1 =>
  if x2 = 0 then
    none
  else
    q_cI (orc 220 [.inr (.inr 2016), .inl (a1)] GF M1) GF (fun x4 M3 =>
    if 0 ≤ x4 ∧ x4 < 65536 then some (some (.inl (x4)), GF, M3) else none)) := by
  rw [pr_st]; rfl
set_option maxRecDepth 20000 in
theorem sg_J0_isLatin1_aae02_0_s16 {sc : List Int} {orc : q_O} {M : q_M} {F : Nat} : pr sc orc 217 (F + 1) 0 [some (.inr (.inr 1016))] [] M =
  if 1 = 0 then
    some (some (.inl (0)), GF, M)
  else
    if 0 = 0 then
      some (some (.inl (1)), GF, M)
    else
      some (some (.inl (0)), GF, M) := by
  rw [pr_st]; rfl
set_option maxRecDepth 20000 in
theorem sg_J1_charAt_3b067_0_s16 {sc : List Int} {orc : q_O} {M : q_M} {F : Nat} {a2 : Int} : pr sc orc 220 (F + 1) 0 [some (.inr (.inr 2016)), some (.inl (a2))] [] M =
  q_c0 (orc 224 [.inl (a2), .inl (((2 : Nat) : Int))] GF M) GF (fun M1 =>
  if 0 ≤ a2 ∧ a2 < ((2 : Nat) : Int) then
  if 0 ≤ ((([105, 115] : List Int).getD (a2 : Int).toNat 0) % 256) % 65536 ∧ ((([105, 115] : List Int).getD (a2 : Int).toNat 0) % 256) % 65536 < 65536 then some (some (.inl (((([105, 115] : List Int).getD (a2 : Int).toNat 0) % 256) % 65536)), GF, M1) else none
  else none) := by
  rw [pr_st]; rfl
set_option maxRecDepth 20000 in
theorem sg_X8_spells_0_s17 {sc : List Int} {orc : q_O} {M : q_M} {F : Nat} {a1 a2 : Int} : pr sc orc 113 (F + 1) 0 [some (.inr (.inr 9)), some (.inl (a1)), some (.inl (a2)), some (.inr (.inr 1017)), none] [] M =
  q_cI (orc 214 [.inr (.inr 1017)] GF M) GF (fun x2 M1 =>
  if (q_w (a2 - a1)) = x2 then
    pr sc orc 113 F 15 [some (.inr (.inr 9)), some (.inl (a1)), none, some (.inr (.inr 1017)), some (.inl (0))] [] M1
  else
    some (some (.inl (0)), GF, M1)) := by
  rw [pr_st]; rfl
set_option maxRecDepth 20000 in
theorem sg_X8_spells_15_s17 {sc : List Int} {orc : q_O} {M : q_M} {F : Nat} {b1 b4 : Int} : pr sc orc 113 (F + 1) 15 [some (.inr (.inr 9)), some (.inl (b1)), none, some (.inr (.inr 1017)), some (.inl (b4))] [] M =
  q_cI (orc 214 [.inr (.inr 1017)] GF M) GF (fun x2 M1 =>
  if b4 < x2 then
    q_cI (orc 108 [.inr (.inr 9), .inl (q_w (b1 + b4))] GF M1) GF (fun x4 M3 =>
    q_cI (orc 216 [.inr (.inr 1017), .inl (b4)] GF M3) GF (fun x6 M5 =>
    if x4 = x6 then
      pr sc orc 113 F 15 [some (.inr (.inr 9)), some (.inl (b1)), none, some (.inr (.inr 1017)), some (.inl (q_w (b4 + (1))))] [] M5
    else
      some (some (.inl (0)), GF, M5)))
  else
    some (some (.inl (1)), GF, M1)) := by
  rw [pr_st]; rfl
set_option maxRecDepth 20000 in
theorem sg_J0_length_8abf5_0_s17 {sc : List Int} {orc : q_O} {M : q_M} {F : Nat} : pr sc orc 214 (F + 1) 0 [some (.inr (.inr 1017))] [] M =
  q_cI (orc 215 [.inr (.inr 1017)] GF M) GF (fun x2 M1 =>
  if x2 = 0 then
  some (some (.inl (((4 : Nat) : Int))), GF, M1)
  else none) := by
  rw [pr_st]; rfl
set_option maxRecDepth 20000 in
theorem sg_J0_coder_7d493_0_s17 {sc : List Int} {orc : q_O} {M : q_M} {F : Nat} : pr sc orc 215 (F + 1) 0 [some (.inr (.inr 1017))] [] M =
  if 1 = 0 then
    some (some (.inl (1)), GF, M)
  else
    some (some (.inl (0)), GF, M) := by
  rw [pr_st]; rfl
set_option maxRecDepth 20000 in
theorem sg_J0_charAt_5068e_0_s17 {sc : List Int} {orc : q_O} {M : q_M} {F : Nat} {a1 : Int} : pr sc orc 216 (F + 1) 0 [some (.inr (.inr 1017)), some (.inl (a1))] [] M =
  q_cI (orc 217 [.inr (.inr 1017)] GF M) GF (fun x2 M1 =>
  if x2 = 0 then
    none
  else
    q_cI (orc 220 [.inr (.inr 2017), .inl (a1)] GF M1) GF (fun x4 M3 =>
    if 0 ≤ x4 ∧ x4 < 65536 then some (some (.inl (x4)), GF, M3) else none)) := by
  rw [pr_st]; rfl
set_option maxRecDepth 20000 in
theorem sg_J0_isLatin1_aae02_0_s17 {sc : List Int} {orc : q_O} {M : q_M} {F : Nat} : pr sc orc 217 (F + 1) 0 [some (.inr (.inr 1017))] [] M =
  if 1 = 0 then
    some (some (.inl (0)), GF, M)
  else
    if 0 = 0 then
      some (some (.inl (1)), GF, M)
    else
      some (some (.inl (0)), GF, M) := by
  rw [pr_st]; rfl
set_option maxRecDepth 20000 in
theorem sg_J1_charAt_3b067_0_s17 {sc : List Int} {orc : q_O} {M : q_M} {F : Nat} {a2 : Int} : pr sc orc 220 (F + 1) 0 [some (.inr (.inr 2017)), some (.inl (a2))] [] M =
  q_c0 (orc 224 [.inl (a2), .inl (((4 : Nat) : Int))] GF M) GF (fun M1 =>
  if 0 ≤ a2 ∧ a2 < ((4 : Nat) : Int) then
  if 0 ≤ ((([110, 117, 108, 108] : List Int).getD (a2 : Int).toNat 0) % 256) % 65536 ∧ ((([110, 117, 108, 108] : List Int).getD (a2 : Int).toNat 0) % 256) % 65536 < 65536 then some (some (.inl (((([110, 117, 108, 108] : List Int).getD (a2 : Int).toNat 0) % 256) % 65536)), GF, M1) else none
  else none) := by
  rw [pr_st]; rfl
end
section
set_option maxRecDepth 20000 in
theorem sg_J0_coder_7d493_0_s18 {sc : List Int} {orc : q_O} {M : q_M} {F : Nat} : pr sc orc 215 (F + 1) 0 [some (.inr (.inr 1018))] [] M =
  if 1 = 0 then
    some (some (.inl (1)), GF, M)
  else
    some (some (.inl (0)), GF, M) := by
  rw [pr_st]; rfl
set_option maxRecDepth 20000 in
theorem sg_J0_isLatin1_aae02_0_s18 {sc : List Int} {orc : q_O} {M : q_M} {F : Nat} : pr sc orc 217 (F + 1) 0 [some (.inr (.inr 1018))] [] M =
  if 1 = 0 then
    some (some (.inl (0)), GF, M)
  else
    if 0 = 0 then
      some (some (.inl (1)), GF, M)
    else
      some (some (.inl (0)), GF, M) := by
  rw [pr_st]; rfl
set_option maxRecDepth 20000 in
theorem sg_J0_indexOf_0f7a4_0_s18 {sc : List Int} {orc : q_O} {M : q_M} {F : Nat} {a1 : Int} : pr sc orc 218 (F + 1) 0 [some (.inr (.inr 1018)), some (.inl (a1))] [] M =
  q_cI (orc 219 [.inr (.inr 1018), .inl (a1), .inl (0)] GF M) GF (fun x2 M1 =>
  some (some (.inl (x2)), GF, M1)) := by
  rw [pr_st]; rfl
set_option maxRecDepth 20000 in
theorem sg_J0_indexOf_7cf53_0_s18 {sc : List Int} {orc : q_O} {M : q_M} {F : Nat} {a1 a2 : Int} : pr sc orc 219 (F + 1) 0 [some (.inr (.inr 1018)), some (.inl (a1)), some (.inl (a2))] [] M =
  q_cI (orc 217 [.inr (.inr 1018)] GF M) GF (fun x2 M1 =>
  if x2 = 0 then
    q_cI (orc 214 [.inr (.inr 1018)] GF M1) GF (fun x4 M3 =>
    none)
  else
    q_cI (orc 214 [.inr (.inr 1018)] GF M1) GF (fun x6 M5 =>
    q_cI (orc 222 [.inr (.inr 2018), .inl (a1), .inl (a2), .inl (x6)] GF M5) GF (fun x8 M7 =>
    some (some (.inl (x8)), GF, M7)))) := by
  rw [pr_st]; rfl
set_option maxRecDepth 20000 in
theorem sg_J1_indexOf_4cfef_0_s18 {sc : List Int} {orc : q_O} {M : q_M} {F : Nat} {a2 a3 a4 : Int} : pr sc orc 222 (F + 1) 0 [some (.inr (.inr 2018)), some (.inl (a2)), some (.inl (a3)), some (.inl (a4))] [] M =
  q_cI (orc 221 [.inl (a2)] GF M) GF (fun x2 M1 =>
  if x2 = 0 then
    some (some (.inl ((-1))), GF, M1)
  else
    q_cI (orc 225 [.inl (a3), .inl (0)] GF M1) GF (fun x4 M3 =>
    q_cI (orc 227 [.inl (a4), .inl (((7 : Nat) : Int))] GF M3) GF (fun x6 M5 =>
    if x4 < x6 then
      q_cI (orc 223 [.inr (.inr 2018), .inl (a2), .inl (x4), .inl (x6)] GF M5) GF (fun x8 M7 =>
      some (some (.inl (x8)), GF, M7))
    else
      some (some (.inl ((-1))), GF, M5)))) := by
  rw [pr_st]; rfl
set_option maxRecDepth 20000 in
theorem sg_J1_indexOfChar_4cfef_0_s18 {sc : List Int} {orc : q_O} {M : q_M} {F : Nat} {a2 a3 a4 : Int} : pr sc orc 223 (F + 1) 0 [some (.inr (.inr 2018)), some (.inl (a2)), some (.inl (a3)), some (.inl (a4)), none, none] [] M =
  if -128 ≤ a2 ∧ a2 < 128 then
  pr sc orc 223 F 7 [some (.inr (.inr 2018)), none, none, some (.inl (a4)), some (.inl (a2)), some (.inl (a3))] [] M
  else none := by
  rw [pr_st]; rfl
set_option maxRecDepth 20000 in
theorem sg_J1_indexOfChar_4cfef_7_s18 {sc : List Int} {orc : q_O} {M : q_M} {F : Nat} {b3 b4 b5 : Int} : pr sc orc 223 (F + 1) 7 [some (.inr (.inr 2018)), none, none, some (.inl (b3)), some (.inl (b4)), some (.inl (b5))] [] M =
  if b5 < b3 then
    if 0 ≤ b5 ∧ b5 < ((7 : Nat) : Int) then
    if (([40, 41, 44, 46, 61, 60, 62] : List Int).getD (b5 : Int).toNat 0) = b4 then
      some (some (.inl (b5)), GF, M)
    else
      pr sc orc 223 F 7 [some (.inr (.inr 2018)), none, none, some (.inl (b3)), some (.inl (b4)), some (.inl (q_w (b5 + (1))))] [] M
    else none
  else
    some (some (.inl ((-1))), GF, M) := by
  rw [pr_st]; rfl
set_option maxRecDepth 20000 in
theorem sg_J1_canEncode_9a6ad_0 {sc : List Int} {orc : q_O} {M : q_M} {F : Nat} {a1 : Int} : pr sc orc 221 (F + 1) 0 [some (.inl (a1))] [] M =
  if a1 < 0 then
    some (some (.inl (0)), GF, M)
  else
    if 255 < a1 then
      some (some (.inl (0)), GF, M)
    else
      some (some (.inl (1)), GF, M) := by
  rw [pr_st]; rfl
set_option maxRecDepth 20000 in
theorem sg_J9_max_7cf53_0 {sc : List Int} {orc : q_O} {M : q_M} {F : Nat} {a1 a2 : Int} : pr sc orc 225 (F + 1) 0 [some (.inl (a1)), some (.inl (a2))] [] M =
  if a1 < a2 then
    some (some (.inl (a2)), GF, M)
  else
    some (some (.inl (a1)), GF, M) := by
  rw [pr_st]; rfl
set_option maxRecDepth 20000 in
theorem sg_J9_max_f86c9_0 {sc : List Int} {orc : q_O} {M : q_M} {F : Nat} {a1 a2 : Int} : pr sc orc 226 (F + 1) 0 [some (.inr (.inl (a1))), none, some (.inr (.inl (a2))), none] [] M =
  if (if a1 < a2 then -1 else if a2 < a1 then 1 else 0) < 0 then
    some (some (.inr (.inl (a2))), GF, M)
  else
    some (some (.inr (.inl (a1))), GF, M) := by
  rw [pr_st]; rfl
set_option maxRecDepth 20000 in
theorem sg_J9_min_7cf53_0 {sc : List Int} {orc : q_O} {M : q_M} {F : Nat} {a1 a2 : Int} : pr sc orc 227 (F + 1) 0 [some (.inl (a1)), some (.inl (a2))] [] M =
  if a2 < a1 then
    some (some (.inl (a2)), GF, M)
  else
    some (some (.inl (a1)), GF, M) := by
  rw [pr_st]; rfl
set_option maxRecDepth 20000 in
theorem sg_J9_min_f86c9_0 {sc : List Int} {orc : q_O} {M : q_M} {F : Nat} {a1 a2 : Int} : pr sc orc 228 (F + 1) 0 [some (.inr (.inl (a1))), none, some (.inr (.inl (a2))), none] [] M =
  if 0 < (if a1 < a2 then -1 else if a2 < a1 then 1 else 0) then
    some (some (.inr (.inl (a2))), GF, M)
  else
    some (some (.inr (.inl (a1))), GF, M) := by
  rw [pr_st]; rfl
set_option maxRecDepth 20000 in
theorem sg_J6_compare_7cf53_0 {sc : List Int} {orc : q_O} {M : q_M} {F : Nat} {a1 a2 : Int} : pr sc orc 229 (F + 1) 0 [some (.inl (a1)), some (.inl (a2))] [] M =
  if a1 < a2 then
    some (some (.inl ((-1))), GF, M)
  else
    if a1 = a2 then
      some (some (.inl (0)), GF, M)
    else
      some (some (.inl (1)), GF, M) := by
  rw [pr_st]; rfl
set_option maxRecDepth 20000 in
theorem sg_X11_get_0_g17 {sc : List Int} {orc : q_O} {M : q_M} {F : Nat} {a2 : Int} : pr sc orc 146 (F + 1) 0 [some (.inr (.inr 17)), some (.inl (a2))] [] M =
  if a2 < 0 then
    some (some (.inl ((-1))), GF, M)
  else
    if a2 < ((130 : Nat) : Int) then
      if 0 ≤ a2 ∧ a2 < ((130 : Nat) : Int) then
      some (some (.inl (M 17 (a2 : Int).toNat)), GF, M)
      else none
    else
      some (some (.inl ((-1))), GF, M) := by
  rw [pr_st]; rfl
set_option maxRecDepth 20000 in
theorem sg_X11_get_0_g18 {sc : List Int} {orc : q_O} {M : q_M} {F : Nat} {a2 : Int} : pr sc orc 146 (F + 1) 0 [some (.inr (.inr 18)), some (.inl (a2))] [] M =
  if a2 < 0 then
    some (some (.inl ((-1))), GF, M)
  else
    if a2 < ((130 : Nat) : Int) then
      if 0 ≤ a2 ∧ a2 < ((130 : Nat) : Int) then
      some (some (.inl (M 18 (a2 : Int).toNat)), GF, M)
      else none
    else
      some (some (.inl ((-1))), GF, M) := by
  rw [pr_st]; rfl
set_option maxRecDepth 20000 in
theorem sg_X11_get_0_g19 {sc : List Int} {orc : q_O} {M : q_M} {F : Nat} {a2 : Int} : pr sc orc 146 (F + 1) 0 [some (.inr (.inr 19)), some (.inl (a2))] [] M =
  if a2 < 0 then
    some (some (.inl ((-1))), GF, M)
  else
    if a2 < ((130 : Nat) : Int) then
      if 0 ≤ a2 ∧ a2 < ((130 : Nat) : Int) then
      some (some (.inl (M 19 (a2 : Int).toNat)), GF, M)
      else none
    else
      some (some (.inl ((-1))), GF, M) := by
  rw [pr_st]; rfl
set_option maxRecDepth 20000 in
theorem sg_X11_get_0_g20 {sc : List Int} {orc : q_O} {M : q_M} {F : Nat} {a2 : Int} : pr sc orc 146 (F + 1) 0 [some (.inr (.inr 20)), some (.inl (a2))] [] M =
  if a2 < 0 then
    some (some (.inl ((-1))), GF, M)
  else
    if a2 < ((130 : Nat) : Int) then
      if 0 ≤ a2 ∧ a2 < ((130 : Nat) : Int) then
      some (some (.inl (M 20 (a2 : Int).toNat)), GF, M)
      else none
    else
      some (some (.inl ((-1))), GF, M) := by
  rw [pr_st]; rfl
set_option maxRecDepth 20000 in
theorem sg_X11_get_0_g21 {sc : List Int} {orc : q_O} {M : q_M} {F : Nat} {a2 : Int} : pr sc orc 146 (F + 1) 0 [some (.inr (.inr 21)), some (.inl (a2))] [] M =
  if a2 < 0 then
    some (some (.inl ((-1))), GF, M)
  else
    if a2 < ((130 : Nat) : Int) then
      if 0 ≤ a2 ∧ a2 < ((130 : Nat) : Int) then
      some (some (.inl (M 21 (a2 : Int).toNat)), GF, M)
      else none
    else
      some (some (.inl ((-1))), GF, M) := by
  rw [pr_st]; rfl
set_option maxRecDepth 20000 in
theorem sg_X11_get_0_g33 {sc : List Int} {orc : q_O} {M : q_M} {F : Nat} {a2 : Int} : pr sc orc 146 (F + 1) 0 [some (.inr (.inr 33)), some (.inl (a2))] [] M =
  if a2 < 0 then
    some (some (.inl ((-1))), GF, M)
  else
    if a2 < ((3 : Nat) : Int) then
      if 0 ≤ a2 ∧ a2 < ((3 : Nat) : Int) then
      some (some (.inl (M 33 (a2 : Int).toNat)), GF, M)
      else none
    else
      some (some (.inl ((-1))), GF, M) := by
  rw [pr_st]; rfl
set_option maxRecDepth 20000 in
theorem sg_X11_get_0_g34 {sc : List Int} {orc : q_O} {M : q_M} {F : Nat} {a2 : Int} : pr sc orc 146 (F + 1) 0 [some (.inr (.inr 34)), some (.inl (a2))] [] M =
  if a2 < 0 then
    some (some (.inl ((-1))), GF, M)
  else
    if a2 < ((3 : Nat) : Int) then
      if 0 ≤ a2 ∧ a2 < ((3 : Nat) : Int) then
      some (some (.inl (M 34 (a2 : Int).toNat)), GF, M)
      else none
    else
      some (some (.inl ((-1))), GF, M) := by
  rw [pr_st]; rfl
set_option maxRecDepth 20000 in
theorem sg_X11_get_0_g35 {sc : List Int} {orc : q_O} {M : q_M} {F : Nat} {a2 : Int} : pr sc orc 146 (F + 1) 0 [some (.inr (.inr 35)), some (.inl (a2))] [] M =
  if a2 < 0 then
    some (some (.inl ((-1))), GF, M)
  else
    if a2 < ((3 : Nat) : Int) then
      if 0 ≤ a2 ∧ a2 < ((3 : Nat) : Int) then
      some (some (.inl (M 35 (a2 : Int).toNat)), GF, M)
      else none
    else
      some (some (.inl ((-1))), GF, M) := by
  rw [pr_st]; rfl
set_option maxRecDepth 20000 in
theorem sg_X11_get_0_g36 {sc : List Int} {orc : q_O} {M : q_M} {F : Nat} {a2 : Int} : pr sc orc 146 (F + 1) 0 [some (.inr (.inr 36)), some (.inl (a2))] [] M =
  if a2 < 0 then
    some (some (.inl ((-1))), GF, M)
  else
    if a2 < ((3 : Nat) : Int) then
      if 0 ≤ a2 ∧ a2 < ((3 : Nat) : Int) then
      some (some (.inl (M 36 (a2 : Int).toNat)), GF, M)
      else none
    else
      some (some (.inl ((-1))), GF, M) := by
  rw [pr_st]; rfl
set_option maxRecDepth 20000 in
theorem sg_X11_get_0_g38 {sc : List Int} {orc : q_O} {M : q_M} {F : Nat} {a2 : Int} : pr sc orc 146 (F + 1) 0 [some (.inr (.inr 38)), some (.inl (a2))] [] M =
  if a2 < 0 then
    some (some (.inl ((-1))), GF, M)
  else
    if a2 < ((4 : Nat) : Int) then
      if 0 ≤ a2 ∧ a2 < ((4 : Nat) : Int) then
      some (some (.inl (M 38 (a2 : Int).toNat)), GF, M)
      else none
    else
      some (some (.inl ((-1))), GF, M) := by
  rw [pr_st]; rfl
set_option maxRecDepth 20000 in
theorem sg_X11_get_0_g39 {sc : List Int} {orc : q_O} {M : q_M} {F : Nat} {a2 : Int} : pr sc orc 146 (F + 1) 0 [some (.inr (.inr 39)), some (.inl (a2))] [] M =
  if a2 < 0 then
    some (some (.inl ((-1))), GF, M)
  else
    if a2 < ((4 : Nat) : Int) then
      if 0 ≤ a2 ∧ a2 < ((4 : Nat) : Int) then
      some (some (.inl (M 39 (a2 : Int).toNat)), GF, M)
      else none
    else
      some (some (.inl ((-1))), GF, M) := by
  rw [pr_st]; rfl
set_option maxRecDepth 20000 in
theorem sg_X11_get_0_g40 {sc : List Int} {orc : q_O} {M : q_M} {F : Nat} {a2 : Int} : pr sc orc 146 (F + 1) 0 [some (.inr (.inr 40)), some (.inl (a2))] [] M =
  if a2 < 0 then
    some (some (.inl ((-1))), GF, M)
  else
    if a2 < ((3 : Nat) : Int) then
      if 0 ≤ a2 ∧ a2 < ((3 : Nat) : Int) then
      some (some (.inl (M 40 (a2 : Int).toNat)), GF, M)
      else none
    else
      some (some (.inl ((-1))), GF, M) := by
  rw [pr_st]; rfl
end
section
/-! String.checkIndex: what lies behind its formatter isn't looked at -/
def px_wc : List Cond := .code yJ3_checkIndex_8e157 cJ3_checkIndex_8e157 3 (some .int) :: q_WT
theorem px_d0 : decode cJ3_checkIndex_8e157 0 = .ok (.iload_n 0, 1) := by decide +kernel
theorem px_d1 : decode cJ3_checkIndex_8e157 1 = .ok (.ifCond .lt 8, 3) := by decide +kernel
theorem px_d4 : decode cJ3_checkIndex_8e157 4 = .ok (.iload_n 0, 1) := by decide +kernel
theorem px_d5 : decode cJ3_checkIndex_8e157 5 = .ok (.iload_n 1, 1) := by decide +kernel
theorem px_d6 : decode cJ3_checkIndex_8e157 6 = .ok (.if_icmp .lt 10, 3) := by decide +kernel
theorem px_d16 : decode cJ3_checkIndex_8e157 16 = .ok (.iload_n 0, 1) := by decide +kernel
theorem px_d17 : decode cJ3_checkIndex_8e157 17 = .ok (.ireturn, 1) := by decide +kernel
theorem px_e0 : decode cJ0_checkIndex_df160 0 = .ok (.iload_n 0, 1) := by decide +kernel
theorem px_e1 : decode cJ0_checkIndex_df160 1 = .ok (.iload_n 1, 1) := by decide +kernel
theorem px_e2 : decode cJ0_checkIndex_df160 2 = .ok (.getstatic 1053, 3) := by decide +kernel
theorem px_e5 : decode cJ0_checkIndex_df160 5 = .ok (.invokestatic 1059, 3) := by decide +kernel
theorem px_e8 : decode cJ0_checkIndex_df160 8 = .ok (.pop, 1) := by decide +kernel
theorem px_e9 : decode cJ0_checkIndex_df160 9 = .ok (.return_, 1) := by decide +kernel
set_option maxHeartbeats 4000000 in
set_option maxRecDepth 100000 in
theorem px_chk (l0 : Launch) (i n : Int) (v : Value) (hv : v = .null ∨ ∃ t, v = .ref t) (h : 0 ≤ i ∧ i < n) (hi : q_r i) (hn : q_r n) : Met l0 yJ3_checkIndex_8e157 px_wc (q_rm 1 0 0) (va_Pc [.int (Int32.ofInt i), .int (Int32.ofInt n), v] (fun _ => True)) (vp_Si (fun r => r = Int32.ofInt i)) 0 0 (fun _ => False) := by
  refine va_MetF (cc := cJ3_checkIndex_8e157) (maxL := 3) (ret := some .int) (by decide +kernel) rfl ?_
  intro p e s m args below meth c s₁ B hml hvv
  obtain ⟨rfl, -⟩ := hvv
  have hx := B.exec
  have hb := B.bytes
  have hr := B.returns
  have hlocks := B.notSynchronized
  have hcat : v.category = 1 := by rcases hv with rfl | ⟨t, rfl⟩ <;> rfl
  have hl := lv_entry ([.int (Int32.ofInt i), .int (Int32.ofInt n), v]) (n := 3) (by rcases hv with rfl | ⟨t, rfl⟩ <;> exact Nat.le_of_ble_eq_true rfl)
  rw [lg_entry_eq]
  generalize (lg_sl ([.int (Int32.ofInt i), .int (Int32.ofInt n), v]) ++ List.replicate (3 - (lg_sl ([.int (Int32.ofInt i), .int (Int32.ofInt n), v])).length) Slot.unset).toArray = ls at hl ⊢
  have hl : lv_has ls 3 [(0, .int (Int32.ofInt i)), (1, .int (Int32.ofInt n)), (2, v)] := by rcases hv with rfl | ⟨t, rfl⟩ <;> exact hl
  refine lv_iload_n hx hb px_d0 rfl (lv_at hl 0 rfl) ?_
  refine q_if_s (tgt := 9) hx hb hi px_d1 (by decide) (fun c => absurd c (by show ¬ i < 0; omega)) (fun _ => ?_)
  refine lv_iload_n hx hb px_d4 rfl (lv_at hl 0 rfl) ?_
  refine lv_iload_n hx hb px_d5 rfl (lv_at hl 1 rfl) ?_
  refine q_icmp_s (tgt := 16) hx hb hi hn px_d6 (by decide) (fun _ => ?_) (fun c => absurd h.2 c)
  refine lv_iload_n hx hb px_d16 rfl (lv_at hl 0 rfl) ?_
  exact W.iret hx hb hr (fun t ht _ => ⟨_, rfl, rfl, ht⟩) (fun q hq => by cases hq) px_d17
set_option maxHeartbeats 4000000 in
set_option maxRecDepth 100000 in
theorem px_ci (l0 : Launch) (P : q_P) (NW : List (String × Nat × MethodName × String)) (SR : q_SRt) (d : Nat) (hd3 : 3 ≤ d) : q_Sd l0 P NW SR d 0 0 (yJ0_checkIndex_df160, cJ0_checkIndex_df160, 2, none) pg_ci := by
  intro D cT ad as G M r G' M' hf hG hM has sz
  unfold pg_ci at hf
  split at hf
  · next i n =>
    split at hf
    · next h =>
      cases hf
      have hi : q_r i := has _ List.mem_cons_self
      have hn : q_r n := has _ (List.mem_cons_of_mem _ List.mem_cons_self)
      refine va_MetF (cc := cJ0_checkIndex_df160) (maxL := 2) (ret := none) (ws' := q_WT) (by decide +kernel) rfl ?_
      intro p e s m args below meth c s₁ B hml hvv
      obtain ⟨rfl, hsz, hP, hK, hD0, hE⟩ := hvv
      subst hsz
      have hx := B.exec
      have hb := B.bytes
      have hr := B.returns
      have hlocks := B.notSynchronized
      have hts0 := atoms_spec (ws := q_mW (yJ0_checkIndex_df160, cJ0_checkIndex_df160, 2, none)) B.pre
      have hts : ∀ w ∈ q_WT, w.before ([(.inl i : q_V), .inl n].map (q_cv ad)).toArray s = true := fun w hw => hts0 w (List.mem_cons_of_mem _ hw)
      have hown : s.vm.findClass RJ0 = some m.cls := findClass_of_methodNamed B.named
      have hl := lv_entry ([(.inl i : q_V), .inl n].map (q_cv ad)) (n := 2) (Nat.le_of_ble_eq_true rfl)
      rw [lg_entry_eq]
      generalize (lg_sl ([(.inl i : q_V), .inl n].map (q_cv ad)) ++ List.replicate (2 - (lg_sl ([(.inl i : q_V), .inl n].map (q_cv ad))).length) Slot.unset).toArray = ls at hl ⊢
      have hl : lv_has ls 2 [(0, .int (Int32.ofInt i)), (1, .int (Int32.ofInt n))] := hl
      have hS : va_S (va_A (q_ws P cT ad G M) s.heap.size) s.heap s.heap [] := va_S.rf
      refine lv_iload_n hx hb px_e0 rfl (lv_at hl 0 rfl) ?_
      refine lv_iload_n hx hb px_e1 rfl (lv_at hl 1 rfl) ?_
      have hz := (hE.2.2.2.2.2.1 _ (List.mem_cons_self)).1
      have rest : ∀ v : Value, (v = .null ∨ ∃ t, v = .ref t) → W p l0 e (headSpec (q_mW (yJ0_checkIndex_df160, cJ0_checkIndex_df160, 2, none)) (q_rm d 0 0)).room s m ([(.inl i : q_V), .inl n].map (q_cv ad)).toArray below meth c s.heap [] 0 0 (MQ below (q_Post P D cT ad G M s.heap.size none G M) ([(.inl i : q_V), .inl n].map (q_cv ad)).toArray s 0 0 (va_A (q_ws P cT ad G M) s.heap.size)) (F0 m (2 + 3) ls [v, .int (Int32.ofInt n), .int (Int32.ofInt i)]) := by
        intro v hv
        refine vp_callSi (rest := []) (W.runS (As := [.int (Int32.ofInt i), .int (Int32.ofInt n), v]) ⟨hx, hb, hml, hown, hts⟩ (px_chk l0 i n v hv h hi hn) ⟨callB_of 3 hts (fun w hw => (List.mem_cons.mp hw).elim (fun e => e ▸ q_WT_good _ (pt_in_ok (i := 639) (by decide +kernel))) (fun h => q_WT_good w h)) rfl rfl rfl (hts _ (pt_in_ok (i := 21) (by decide +kernel))) (hts _ (pt_in_ok (i := 637) (by decide +kernel))) ⟨by decide +kernel, by decide +kernel, by decide +kernel⟩ ⟨by show 1 + 1 ≤ d; omega, by show 8 + (3 + 11) + 64 * 1 ≤ 64 * d; omega⟩, hts _ (pt_in_ok (i := 638) (by decide +kernel))⟩ ⟨fun a U g mk q => q, fun U hU hW => ⟨rfl, trivial⟩⟩ rfl rfl hl.1 rfl (lv_room (by simp)) px_e5 ⟨Nat.zero_le _, Nat.zero_le _⟩) (fun r hr9 => ?_)
        refine lv_pop hx hb px_e8 rfl ?_
        exact W.vret hx hb hr (fun t ht _ => ⟨⟨ad, q_adx.rf, rfl, by rw [ht]; exact hP, hD0.self, hG, hM, Nat.le_refl _, fun v hv => by cases hv⟩, hS.F ht⟩) hS.2.2 px_e9
      rcases hz with hz | ⟨t, hz⟩
      · exact va_gets hx hb hz hS hown (hts _ (pt_in_ok (i := 635) (by decide +kernel))) (fun _ h => h) px_e2 (rest .null (Or.inl rfl))
      · exact va_gets hx hb hz hS hown (hts _ (pt_in_ok (i := 635) (by decide +kernel))) (fun _ h => h) px_e2 (rest (.ref t) (Or.inr ⟨t, rfl⟩))
    · cases hf
  · cases hf
end
section
/-! methods that may throw: what the small machine comes to, or where it throws -/
abbrev q_Rx : Type := (Option q_V × q_G × q_M) ⊕ (Nat × q_G × q_M)
def q_drx (orc : q_O) (P : q_P) (rt : Option FieldType) (mr : q_R) (th : List Nat) : Nat → Nat → q_L → List q_V → q_G → q_M → Option q_Rx
  | 0, _, _, _, _, _ => none
  | F + 1, pc, l, st, G, M => match q_den orc P mr.2.1 0 0 mr.1 mr.2.2.2.1 (mr.2.2.2.2.map (·.1)) 1000 false (q_seek (pc : Int) mr.2.2.2.1) l st G M 0 0 with
    | none => none
    | some (pc', l', st', G', M', ca', sa') => if ca' = 0 ∧ sa' = 0 then (if pc' ∈ th then (if st' = [] then some (.inr (pc', G', M')) else none) else match q_seek (pc' : Int) mr.2.2.2.1 with
      | [] => none
      | (_, ins, _) :: _ => if q_isr ins = true then (match q_end rt ins st' with
          | some r => some (.inl (r, G', M'))
          | none => none)
        else q_drx orc P rt mr th F pc' (q_mask (((mr.2.2.2.2.find? (fun q => q.1 == pc')).map (·.2)).getD []) l') st' G' M') else none
section QF
variable {p : Program} {l0 : Launch} {e : Env} {R : Room} {s : State} {m : MethodId} {args : Array Value} {below : List Frame} {meth : Method} {c : Code}
variable {P : q_P} {NW : List (String × Nat × MethodName × String)} {SR : q_SRt} {Rn : Nat → String} {cc : ByteArray} {nL : Nat} {D : va_G} {cT : Nat → ClassId} {A : Nat → Prop} {d : Nat} {orc : q_O} {ym : q_ym} {mr : q_R} {rt : Option FieldType}
set_option maxHeartbeats 4000000 in
theorem q_drx_s {th : List Nat} {ad0 : Nat → Nat} {G0 : q_G} {rx : q_Rx} {Qc : Array Value → State → Outcome → State → Prop} {XC : String → State → State → Prop} (X : q_X p s m args meth c Rn mr.1 cc nL mr.2.1 D cT A) (hTb : q_Tb P ym NW SR Rn) (hO : ∀ mid, q_Sd l0 P NW SR d (q_mm P mid).2.1 (q_mm P mid).2.2 (ym mid) (orc mid)) (hRf : d + 1 ≤ R.frames) (hRl : 64 * (d + 1) ≤ R.locals) (hI : q_Iok cc mr.2.2.2.1) (hrt : meth.sig.returnType = rt) (hlocks : meth.locks = false)
    (hQ : ∀ (r : Option q_V) (G' : q_G) (M' : q_M), rx = .inl (r, G', M') → ∀ (t : State) (ad : Nat → Nat) (locs : List Loc), va_P D vwCl (q_ws P cT ad G' M') t.heap → va_D A (q_ws P cT ad G' M') → va_S A s.heap t.heap locs → q_oG P G' → q_oM G' M' → q_adx G0.length ad0 ad → G0.length ≤ G'.length → (∀ v, r = some v → q_ov G'.length v) → Qc args s (.returned (r.map (q_cv ad))) t)
    (hT : ∀ (pc' : Nat) (G' : q_G) (M' : q_M), rx = .inr (pc', G', M') → pc' ∈ th → ∀ (ad : Nat → Nat) (l : q_L) (H : Heap) (locs : List Loc) (ls : Array Slot), q_Y P NW SR s nL D cT A ad l [] G' M' H locs ls → q_adx G0.length ad0 ad → G0.length ≤ G'.length → W p l0 e R s m args below meth c H locs 0 0 (vx_MQ below Qc XC args s 1 6 A) (F0 m pc' ls [])) :
    ∀ (F pc : Nat) (l : q_L) (st : List q_V) (G : q_G) (M : q_M) (ad : Nat → Nat) (H : Heap) (locs : List Loc) (ls : Array Slot), q_Y P NW SR s nL D cT A ad l st G M H locs ls → q_adx G0.length ad0 ad → G0.length ≤ G.length → q_drx orc P rt mr th F pc l st G M = some rx → W p l0 e R s m args below meth c H locs 0 0 (vx_MQ below Qc XC args s 1 6 A) (F0 m pc ls (st.map (q_cv ad))) := by
  intro F
  induction F with
  | zero => intro pc l st G M ad H locs ls _ _ _ h; cases h
  | succ F ih =>
    intro pc l st G M ad H locs ls Y ha hle h
    unfold q_drx at h
    split at h
    · cases h
    · next pc' l' st' G1 M1 ca' sa' hden =>
      obtain ⟨a1, a2, a3⟩ := q_seek_ok (t := (pc : Int)) hI.1
      refine q_den_s X hTb hO hRf hRl (Nat.zero_le _) (Nat.zero_le _) hI 1000 false _ l st G M 0 0 ad H locs ls pc pc' _ a1 a2 (fun q l' hq => by have := a3 q l' hq; omega) Y hden (fun ad1 H1 locs1 ls1 ha1 hle1 Y1 => ?_)
      dsimp only at hle1 Y1 ⊢
      split at h
      · next h0 =>
        obtain ⟨rfl, rfl⟩ := h0
        split at h
        · next hth =>
          split at h
          · next hst =>
            subst hst
            cases h
            exact hT _ _ _ rfl hth ad1 l' H1 locs1 ls1 Y1 (ha.tr hle ha1) (Nat.le_trans hle hle1)
          · cases h
        · split at h
          · cases h
          · next p0 ins ln tl hsk =>
            obtain ⟨b1, b2, b3⟩ := q_seek_ok (t := (pc' : Int)) hI.1
            have hp0 : p0 = pc' := by have := b3 _ _ hsk; dsimp only at this; omega
            subst hp0
            obtain ⟨hd, hln, -⟩ := hI.2 _ (b2 _ (by rw [hsk]; exact List.mem_cons_self))
            dsimp only at hd hln
            split at h
            · next hr =>
              split at h
              · next r' he =>
                cases h
                refine W.widen (k := 1) (n := 6) (by omega) (by omega) ?_
                rw [q_isr_ln hr] at hln
                subst hln
                refine vx_ret ?_
                exact q_end_s X.1 X.2.1 hrt hlocks hd he Y1 (fun t ht hv => hQ _ _ _ rfl t ad1 locs1 (by rw [ht]; exact Y1.1) Y1.2.1 (by rw [ht]; exact Y1.2.2.1) Y1.2.2.2.1 Y1.2.2.2.2.1 (ha.tr hle ha1) (Nat.le_trans hle hle1) hv)
              · cases h
            · refine ih _ _ _ _ _ ad1 H1 locs1 ls1 ?_ (ha.tr hle ha1) (Nat.le_trans hle hle1) h
              exact Y1.lc Y1.2.2.2.2.2.2.2.1 ⟨by rw [q_mask_len]; exact Y1.2.2.2.2.2.1.1, Y1.2.2.2.2.2.1.2.1, fun i v hv => Y1.2.2.2.2.2.1.2.2 i v (q_mask_get hv)⟩ (fun v hv => by
                obtain ⟨i, hi⟩ := List.getElem?_of_mem hv
                exact Y1.2.2.2.2.2.2.1 v (List.mem_of_getElem? (q_mask_get hi))) (by rw [q_mask_len]; exact Y1.2.2.2.2.2.2.2.2.1)
      · cases h
/-- what a throw leaves: the class thrown, the world -/
def q_XC (P : q_P) (D : va_G) (cT : Nat → ClassId) (ad : Nat → Nat) (G : q_G) (M : q_M) (sz : Nat) (cls : String) (G' : q_G) (M' : q_M) : String → State → State → Prop := fun E st t => E = cls ∧ (∃ ad' : Nat → Nat, q_adx G.length ad ad' ∧ va_P D vwCl (q_ws P cT ad' G' M') t.heap ∧ va_D (va_A (q_ws P cT ad G M) sz) (q_ws P cT ad' G' M') ∧ q_oG P G' ∧ q_oM G' M' ∧ G.length ≤ G'.length) ∧ va_F (va_A (q_ws P cT ad G M) sz) st t
def q_nm2 : List String := ["java/lang/RuntimeException", "java/lang/Exception"]
/-- a throw's words -/
theorem q_hat (own cls : String) (ic : Nat) (hx : q_X p s m args meth c Rn mr.1 cc nL mr.2.1 D cT A) (hE : q_E9 P (0 : Nat) A s s.heap ∨ ∃ a, q_E9 P a A s s.heap) (hc : cls ∈ q_CL) (hall : (vx_atS own ic cls q_nm2).all (fun w => (goodWord w && decide (w ∈ tables_1)) || decide (w = .castable cls cls) || q_DL.any (fun y => decide (w = .declares y))) = true) : ∀ w ∈ vx_atS own ic cls q_nm2, w.before args s = true := by
  intro w hw
  have h := List.all_eq_true.mp hall w hw
  simp only [Bool.or_eq_true, Bool.and_eq_true, decide_eq_true_eq, List.any_eq_true] at h
  obtain ⟨a, hE⟩ : ∃ a, q_E9 P a A s s.heap := hE.elim (fun h => ⟨0, h⟩) id
  rcases h with (⟨h1, h2⟩ | h1) | ⟨y, hy, h1⟩
  · exact hx.2.2.2.2.1 w (List.mem_filter.mpr ⟨List.mem_append_right _ h2, h1⟩)
  · subst h1
    exact va_Nw.use rfl (hE.2.2.2.1 cls hc)
  · subst h1
    exact va_Nw.use rfl (hE.2.2.1 y hy)
end QF
end
section
/-- how a method that may throw ends -/
def q_QX (P : q_P) (D : va_G) (cT : Nat → ClassId) (ad : Nat → Nat) (G : q_G) (M : q_M) (sz : Nat) (rx : q_Rx) : Array Value → State → Outcome → State → Prop := match rx with
  | .inl (r, G', M') => q_Post P D cT ad G M sz r G' M'
  | .inr _ => fun _ _ _ _ => False
def q_XX (P : q_P) (D : va_G) (cT : Nat → ClassId) (ad : Nat → Nat) (G : q_G) (M : q_M) (sz : Nat) (cl : Nat → String) (rx : q_Rx) : String → State → State → Prop := match rx with
  | .inl _ => fun _ _ _ => False
  | .inr (pc, G', M') => q_XC P D cT ad G M sz (cl pc) G' M'
/-- a place where a method throws: new, dup, ldc, invokespecial, athrow -/
def q_site (cc : ByteArray) (own : String) (SR : q_SRt) (pc ik is ic : Nat) (cls : String) : Prop :=
  decode cc pc = .ok (.new ik, 3) ∧ decode cc (pc + 3) = .ok (.dup, 1) ∧ decode cc (pc + 4) = .ok (.ldc is, 2) ∧ decode cc (pc + 6) = .ok (.invokespecial ic, 3) ∧ decode cc (pc + 9) = .ok (.athrow, 1) ∧ (∃ (tx : String) (j : Nat), (own, is, tx, j) ∈ SR) ∧ Cond.classLink own ik cls ∈ q_WT ∧ Cond.initialized cls ∈ q_WT ∧ cls ∈ q_CL ∧
  (vx_atS own ic cls q_nm2).all (fun w => (goodWord w && decide (w ∈ tables_1)) || decide (w = .castable cls cls) || q_DL.any (fun y => decide (w = .declares y))) = true ∧ (∀ w ∈ Cond.classLink own ik cls :: Cond.initialized cls :: vx_atS own ic cls q_nm2, vx_ot w = true) ∧ Bundle.fit cls = true
theorem q_nm2_fit : ∀ n ∈ q_nm2, Bundle.fit n = true := by decide +kernel
section QG
variable {p : Program} {l0 : Launch} {e : Env} {R : Room} {s : State} {m : MethodId} {args : Array Value} {below : List Frame} {meth : Method} {c : Code}
variable {P : q_P} {NW : List (String × Nat × MethodName × String)} {SR : q_SRt} {Rn : Nat → String} {cc : ByteArray} {nL : Nat} {D : va_G} {cT : Nat → ClassId} {d : Nat} {orc : q_O} {ym : q_ym} {mr : q_R} {rt : Option FieldType}
set_option maxHeartbeats 4000000 in
theorem q_throw {ad0 : Nat → Nat} {G0 : q_G} {M0 : q_M} {Qc : Array Value → State → Outcome → State → Prop} {ad : Nat → Nat} {l : q_L} {G' : q_G} {M' : q_M} {H : Heap} {locs : List Loc} {ls : Array Slot} {pc ik is ic : Nat} {cls : String} (hl0 : l0.stackTraces = false) (X : q_X p s m args meth c Rn mr.1 cc nL mr.2.1 D cT (va_A (q_ws P cT ad0 G0 M0) s.heap.size)) (hsi : q_site cc (Rn mr.1) SR pc ik is ic cls) (hout : ∀ x ∈ c.exceptionTable.toList, False) (hRf : 10 ≤ R.frames) (hRl : 200 ≤ R.locals) (hRc : 1 ≤ R.cells) (hRs : 6 ≤ R.slots) (hlocks : meth.locks = false)
    (Y : q_Y P NW SR s nL D cT (va_A (q_ws P cT ad0 G0 M0) s.heap.size) ad l [] G' M' H locs ls) (ha : q_adx G0.length ad0 ad) (hle : G0.length ≤ G'.length) : W p l0 e R s m args below meth c H locs 0 0 (vx_MQ below Qc (q_XC P D cT ad0 G0 M0 s.heap.size cls G' M') args s 1 6 (va_A (q_ws P cT ad0 G0 M0) s.heap.size)) (F0 m pc ls []) := by
  obtain ⟨d0, d3, d4, d6, d9, ⟨tx, j, hm⟩, hk, hini, hcl, hall, hgood, hfit⟩ := hsi
  have hX := X
  obtain ⟨hx, hb, hml, hown, hts, hK, hA, hin⟩ := X
  have hE9 := Y.2.2.2.2.2.2.2.2.2.2.2.2.2
  refine vx_throwS (names := q_nm2) (A := va_A (q_ws P cT ad0 G0 M0) s.heap.size) hx hb hl0 hown hfit q_nm2_fit (hts _ hk) (hts _ hini) (Y.2.2.2.2.2.2.2.2.2.2.1 _ hm) (q_hat (Rn mr.1) cls ic hX (Or.inr ⟨_, hE9⟩) hcl hall) hgood ?_ ?_ Y.2.2.1 ?_ d0 d3 d4 d6 d9 (fun x hx => (hout x hx).elim) ?_ ?_ (by omega) (by omega) hlocks ?_ Y.2.2.1.2.2 (by omega) (by omega)
  · exact hE9.2.1 _ (List.mem_cons_of_mem _ List.mem_cons_self)
  · exact hE9.2.1 _ (List.mem_cons_of_mem _ (List.mem_cons_of_mem _ List.mem_cons_self))
  · rw [hml, Y.2.2.2.2.2.1.1]; exact Y.2.2.2.2.2.2.2.2.1
  · show 2 + 3 < R.frames; omega
  · show 0 + (13 * (2 + 1) + 43) ≤ R.locals; omega
  · intro t hal hsz hkp
    refine ⟨rfl, ⟨ad, ha, Y.1.kept (fun k q hq => ?_), Y.2.1, Y.2.2.2.1, Y.2.2.2.2.1, hle⟩, Nat.le_trans Y.2.2.1.1 hsz, fun q h1 h2 => ?_⟩
    · exact hkp _ (Y.1 k q hq).lt
    · rw [hkp q (Nat.lt_of_lt_of_le h1 Y.2.2.1.1)]
      exact Y.2.2.1.2.1 q h1 h2
set_option maxHeartbeats 4000000 in
/-- a method of the tables that may throw -/
theorem q_vmet {mid : Nat} {th : List Nat} {cl : Nat → String} {MT : Nat → q_R} (hl0 : l0.stackTraces = false) (hTb : q_Tb P ym NW SR Rn) (hO : ∀ mid, q_Sd l0 P NW SR d (q_mm P mid).2.1 (q_mm P mid).2.2 (ym mid) (orc mid)) (hd : 10 ≤ d) (hpl : plainName (ym mid).1.cls = true) (hhn : q_hh (ym mid).1 = none) (hI : q_Iok (ym mid).2.1 (MT mid).2.2.2.1) (hRn : Rn (MT mid).1 = (ym mid).1.cls) (hini : (MT mid).2.1 = false)
    (hsi : ∀ pc ∈ th, ∃ ik is ic : Nat, q_site (ym mid).2.1 (Rn (MT mid).1) SR pc ik is ic (cl pc))
    (D : va_G) (cT : Nat → ClassId) (ad : Nat → Nat) (as : List q_V) (G : q_G) (M : q_M) (rx : q_Rx) (hlen : (q_ent as).length ≤ (ym mid).2.2.1) (hF : ∃ F, q_drx orc P (ym mid).2.2.2 (MT mid) th F 0 (q_entry (ym mid).2.2.1 as) [] G M = some rx) (hG : q_oG P G) (hM : q_oM G M) (has : ∀ v ∈ as, q_ov G.length v) (sz : Nat) :
    vx_Met l0 (ym mid).1 (q_mW (ym mid)) (q_rm (d + 1) 1 6) (q_Pre P NW SR D cT ad as G M sz) (q_QX P D cT ad G M sz rx) (q_XX P D cT ad G M sz cl rx) 1 6 (va_A (q_ws P cT ad G M) sz) := by
  obtain ⟨F, hF⟩ := hF
  refine vx_ofW (cc := (ym mid).2.1) (maxL := (ym mid).2.2.1) (ret := (ym mid).2.2.2) (ws' := q_WT) hpl (by unfold q_mW q_cw; rw [hhn]) ?_
  intro p e s m args below meth c s₁ B hml hout hv
  obtain ⟨rfl, hsz, hP, hK, hD0, hE⟩ := hv
  subst hsz
  have hts := atoms_spec (ws := q_mW (ym mid)) B.pre
  have hown : s.vm.findClass (Rn (MT mid).1) = some m.cls := by rw [hRn]; exact findClass_of_methodNamed B.named
  have hA : ∀ q : Nat, s.heap.size ≤ q → va_A (q_ws P cT ad G M) s.heap.size q := fun q h => Or.inr h
  have X : q_X p s m (as.map (q_cv ad)).toArray meth c Rn (MT mid).1 (ym mid).2.1 (ym mid).2.2.1 (MT mid).2.1 D cT (va_A (q_ws P cT ad G M) s.heap.size) := ⟨B.exec, B.bytes, hml, hown, fun w hw => hts w (List.mem_cons_of_mem _ hw), hK, hA, fun h => by rw [hini] at h; cases h⟩
  rw [lg_entry_eq]
  obtain ⟨hl1, hl2, hl3⟩ := q_lc_entry (ad := ad) hlen
  generalize (lg_sl (as.map (q_cv ad)) ++ List.replicate ((ym mid).2.2.1 - (lg_sl (as.map (q_cv ad))).length) Slot.unset).toArray = ls at hl1 ⊢
  have Y : q_Y P NW SR s (ym mid).2.2.1 D cT (va_A (q_ws P cT ad G M) s.heap.size) ad (q_entry (ym mid).2.2.1 as) [] G M s.heap [] ls := ⟨hP, hD0.self, va_S.rf, hG, hM, hl1, fun v hv => has v (hl3 v hv), fun v hv => by simp at hv, hl2, hE⟩
  refine q_drx_s (th := th) (ad0 := ad) (G0 := G) (rx := rx) X hTb hO (Nat.le_refl _) (Nat.le_refl _) hI B.returns B.notSynchronized ?_ ?_ F 0 _ [] G M ad s.heap [] ls Y q_adx.rf (Nat.le_refl _) hF
  · rintro r G' M' rfl t ad' locs a1 a2 a3 a4 a5 a6 a7 a8
    exact ⟨⟨ad', a6, rfl, a1, a2, a4, a5, a7, a8⟩, a3.F rfl⟩
  · rintro pc' G' M' rfl hth ad' l H locs ls' Y' ha' hle'
    obtain ⟨ik, is, ic, hs⟩ := hsi pc' hth
    exact q_throw hl0 X hs hout (by show 10 ≤ d + 1; omega) (by show 200 ≤ 64 * (d + 1); omega) (Nat.le_refl 1) (Nat.le_refl 6) B.notSynchronized Y' ha' hle'
end QG
set_option maxRecDepth 100000 in
theorem ps_row82 : q_site cX11_row RX11 pg_SR 82 116 118 120 "java/lang/IllegalArgumentException" := ⟨by decide +kernel, by decide +kernel, by decide +kernel, by decide +kernel, by decide +kernel, ⟨_, 0, List.mem_cons_self⟩, pt_in_ok (i := 488) (by decide +kernel), pt_in_ok (i := 17) (by decide +kernel), by decide +kernel, by decide +kernel, by decide +kernel, by decide +kernel⟩
set_option maxRecDepth 100000 in
theorem ps_row97 : q_site cX11_row RX11 pg_SR 97 123 125 127 "java/lang/IllegalStateException" := ⟨by decide +kernel, by decide +kernel, by decide +kernel, by decide +kernel, by decide +kernel, ⟨"the table is full", 1, by decide +kernel⟩, pt_in_ok (i := 556) (by decide +kernel), pt_in_ok (i := 18) (by decide +kernel), by decide +kernel, by decide +kernel, by decide +kernel, by decide +kernel⟩
set_option maxRecDepth 100000 in
theorem ps_compile81 : q_site cX11_compile RX11 pg_SR 81 116 152 120 "java/lang/IllegalArgumentException" := ⟨by decide +kernel, by decide +kernel, by decide +kernel, by decide +kernel, by decide +kernel, ⟨"the text is ill", 19, by decide +kernel⟩, pt_in_ok (i := 488) (by decide +kernel), pt_in_ok (i := 17) (by decide +kernel), by decide +kernel, by decide +kernel, by decide +kernel, by decide +kernel⟩
set_option maxRecDepth 100000 in
theorem ps_run7 : q_site cX11_run RX11 pg_SR 7 123 160 127 "java/lang/IllegalStateException" := ⟨by decide +kernel, by decide +kernel, by decide +kernel, by decide +kernel, by decide +kernel, ⟨"there is no query", 20, by decide +kernel⟩, pt_in_ok (i := 556) (by decide +kernel), pt_in_ok (i := 18) (by decide +kernel), by decide +kernel, by decide +kernel, by decide +kernel, by decide +kernel⟩
set_option maxRecDepth 100000 in
theorem ps_run35 : q_site cX11_run RX11 pg_SR 35 165 167 169 "java/lang/UnsupportedOperationException" := ⟨by decide +kernel, by decide +kernel, by decide +kernel, by decide +kernel, by decide +kernel, ⟨"the result would have too many rows", 21, by decide +kernel⟩, pt_in_ok (i := 1146) (by decide +kernel), pt_in_ok (i := 26) (by decide +kernel), by decide +kernel, by decide +kernel, by decide +kernel, by decide +kernel⟩
end
section
/-! the law's own three methods: a call that may throw, in a try -/
theorem q_lc_dead {ad : Nat → Nat} {ls2 : Array Slot} {l : q_L} {k : Nat} {x : Value} (hsn : l[k]? = some none) (hnl : q_nl l k = true) (hc : lv_has ls2 l.length ((k, x) :: (q_as ad l).filter (fun q => !(q.1 == k) && !(q.1 + 1 == k && q.2.category == 2)))) : q_lc ad ls2 l := by
  refine ⟨hc.1, hc.2.1, fun i v' hv => ?_⟩
  have hik : i ≠ k := fun e => by rw [e, hsn] at hv; cases hv
  refine hc.2.2 (i, q_cv ad v') (List.mem_cons_of_mem _ (List.mem_filter.mpr ⟨q_as_mem.mpr ⟨i, v', hv, rfl⟩, ?_⟩))
  have h2 := fun e => q_nl_use hnl hv e
  simp only [Bool.and_eq_true, Bool.not_eq_true', beq_eq_false_iff_ne, ne_eq, Bool.and_eq_false_iff, q_cvcat]
  refine ⟨hik, ?_⟩
  by_cases e : i + 1 = k
  · exact Or.inr (h2 e)
  · exact Or.inl e
section QL
variable {l0 : Launch} {P : q_P} {NW : List (String × Nat × MethodName × String)} {SR : q_SRt} {Rn : Nat → String} {d : Nat} {orc : q_O} {ym : q_ym}
/-- a segment without calls, up to a return -/
theorem q_tail {p : Program} {e : Env} {R : Room} {s : State} {m : MethodId} {args : Array Value} {below : List Frame} {meth : Method} {c : Code} {cc : ByteArray} {nL : Nat} {D : va_G} {cT : Nat → ClassId} {A : Nat → Prop} {I : q_I} {ad : Nat → Nat} {l l2 : q_L} {st : List q_V} {G : q_G} {M M2 : q_M} {H : Heap} {locs : List Loc} {ls : Array Slot} {pc pcr : Nat} {k : Int} {Qc : Array Value → State → Outcome → State → Prop} (X : q_X p s m args meth c Rn 13 cc nL false D cT A) (hTb : q_Tb P ym NW SR Rn) (hO : ∀ mid, q_Sd l0 P NW SR d (q_mm P mid).2.1 (q_mm P mid).2.2 (ym mid) (orc mid)) (hRf : d + 1 ≤ R.frames) (hRl : 64 * (d + 1) ≤ R.locals) (hRc : 1 ≤ R.cells) (hRs : 6 ≤ R.slots) (hI : q_Iok cc I) (hrt : meth.sig.returnType = some .int) (hlocks : meth.locks = false)
    (Y : q_Y P NW SR s nL D cT A ad l st G M H locs ls) (hden : q_den orc P false 1 6 13 I [pcr] 1000 false (q_seek (pc : Int) I) l st G M 1 6 = some (pcr, l2, [.inl k], G, M2, 1, 6)) (hr : decode cc pcr = .ok (.ireturn, 1))
    (hQ : ∀ (t : State) (ad' : Nat → Nat) (locs : List Loc), va_P D vwCl (q_ws P cT ad' G M2) t.heap → va_D A (q_ws P cT ad' G M2) → va_S A s.heap t.heap locs → q_oG P G → q_oM G M2 → q_adx G.length ad ad' → q_ov G.length (.inl k) → Qc args s (.returned (some (.int (Int32.ofInt k)))) t) : W p l0 e R s m args below meth c H locs 1 6 (MQ below Qc args s 1 6 A) (F0 m pc ls (st.map (q_cv ad))) := by
  obtain ⟨a1, a2, a3⟩ := q_seek_ok (t := (pc : Int)) hI.1
  refine q_den_s X hTb hO hRf hRl hRc hRs hI 1000 false _ l st G M 1 6 ad H locs ls pc pcr _ a1 a2 (fun q l' hq => by have := a3 q l' hq; omega) Y hden (fun ad1 H1 locs1 ls1 ha1 hle1 Y1 => ?_)
  exact q_end_s (r := some (.inl k)) X.1 X.2.1 hrt hlocks hr rfl Y1 (fun t ht hv => hQ t ad1 locs1 (by rw [ht]; exact Y1.1) Y1.2.1 (by rw [ht]; exact Y1.2.2.1) Y1.2.2.2.1 Y1.2.2.2.2.1 ha1 (hv _ rfl))
set_option maxHeartbeats 4000000 in
theorem q_lmet {mid mx : Nat} {hh : List (Nat × Nat × Nat × Nat)} (hhh : q_hh (ym mid).1 = some hh) {I : q_I} (hI : q_Iok (ym mid).2.1 I) (hpl : plainName (ym mid).1.cls = true) (hRn : Rn 13 = (ym mid).1.cls) (hret0 : (ym mid).2.2.2 = some .int) (hTb : q_Tb P ym NW SR Rn) (hO : ∀ mid, q_Sd l0 P NW SR d (q_mm P mid).2.1 (q_mm P mid).2.2 (ym mid) (orc mid))
    {as as' rest : List q_V} {a : Nat} {G : q_G} {M M2 : q_M} {l1 : q_L} {pcC idx sl : Nat} {rs : List Nat} {rx : q_Rx} {cl : Nat → String} {k : Int} (hlen : (q_ent as).length ≤ (ym mid).2.2.1)
    (h1 : q_den orc P false 1 6 13 I [pcC] 1000 false (q_seek (0 : Int) I) (q_entry (ym mid).2.2.1 as) [] G M 0 0 = some (pcC, l1, (.inr (.inr a) :: as').reverse ++ rest, G, M, 0, 0)) (hcat : (rest.map q_cat).sum ≤ 8) (hGa : G[a]? = some (.inr (11, rs)))
    (hdc : decode (ym mid).2.1 pcC = .ok (.invokevirtual idx, 3)) (w1 : Cond.methodLink (Rn 13) idx (ym mx).1 ∈ q_WT) (w2 : Cond.instanceMethod (ym mx).1 ∈ q_WT) (w3 : Cond.selects (ym mx).1.cls (ym mx).1 (ym mx).1 ∈ q_WT) (w4 : Cond.initialized (ym mx).1.cls ∈ q_WT) (w5 : q_cw (ym mx) ∈ q_WT) (w6 : q_hh (ym mx).1 = none) (w7 : (ym mx).1.cls ≠ "java/lang/invoke/MethodHandle" ∧ (ym mx).1.cls ≠ "java/lang/invoke/VarHandle" ∧ (parseMethodDescriptor (ym mx).1.desc).map (fun d => d.parameters.length) = some as'.length) (w8 : (ym mx).2.2.1 ≤ 40) (w9 : (ym mx).1.cls = RX11)
    (hV : ∀ (D : va_G) (cT : Nat → ClassId) (ad : Nat → Nat) (sz : Nat), vx_Met l0 (ym mx).1 (q_mW (ym mx)) (q_rm (d + 1) 1 6) (q_Pre P NW SR D cT ad (.inr (.inr a) :: as') G M sz) (q_QX P D cT ad G M sz rx) (q_XX P D cT ad G M sz cl rx) 1 6 (va_A (q_ws P cT ad G M) sz))
    (hret : ∀ (r : Option q_V) (G1 : q_G) (M1 : q_M), rx = .inl (r, G1, M1) → G1 = G ∧ ∃ (x : Int) (pcr : Nat) (l2 : q_L), r = some (.inl x) ∧ q_den orc P false 1 6 13 I [pcr] 1000 false (q_seek ((pcC + 3 : Nat) : Int) I) l1 (.inl x :: rest) G M1 1 6 = some (pcr, l2, [.inl k], G, M2, 1, 6) ∧ decode (ym mid).2.1 pcr = .ok (.ireturn, 1))
    (hthr : ∀ (pcx : Nat) (G1 : q_G) (M1 : q_M), rx = .inr (pcx, G1, M1) → G1 = G ∧ ∃ (pre suf : List ExceptionTableEntry) (x : ExceptionTableEntry) (pcr : Nat) (l2 : q_L), tableOf hh = pre ++ x :: suf ∧ (∀ z ∈ pre, z.catchType ≠ 0 ∧ ∃ nm : String, Cond.classLink (Rn 13) z.catchType nm ∈ q_WT ∧ (cl pcx, nm) ∈ q_NC) ∧ covers x pcC = true ∧ x.catchType ≠ 0 ∧ Cond.classLink (Rn 13) x.catchType (cl pcx) ∈ q_WT ∧ cl pcx ∈ q_CL ∧ (∃ sl : Fin 4, decode (ym mid).2.1 x.handlerPc = .ok (.astore_n sl, 1) ∧ sl.val < l1.length ∧ l1[sl.val]? = some none ∧ q_nl l1 sl.val = true) ∧ q_den orc P false 1 6 13 I [pcr] 1000 false (q_seek ((x.handlerPc + 1 : Nat) : Int) I) l1 [] G M1 1 6 = some (pcr, l2, [.inl k], G, M2, 1, 6) ∧ decode (ym mid).2.1 pcr = .ok (.ireturn, 1))
    (D : va_G) (cT : Nat → ClassId) (ad : Nat → Nat) (hG : q_oG P G) (hM : q_oM G M) (has : ∀ v ∈ as, q_ov G.length v) (sz : Nat) : Met l0 (ym mid).1 (q_mW (ym mid)) (q_rm (d + 2) 1 6) (q_Pre P NW SR D cT ad as G M sz) (q_Post P D cT ad G M sz (some (.inl k)) G M2) 1 6 (va_A (q_ws P cT ad G M) sz) := by
  refine va_MetW (hh := hh) (cc := (ym mid).2.1) (maxL := (ym mid).2.2.1) (ret := (ym mid).2.2.2) (ws' := q_WT) hpl (by unfold q_mW q_cw; rw [hhh]) ?_
  intro p e s m args below meth c s₁ B hml hv
  obtain ⟨rfl, hsz, hP, hK, hD0, hE⟩ := hv
  subst hsz
  have hts0 := atoms_spec (ws := q_mW (ym mid)) B.pre
  have hts : ∀ w ∈ q_WT, w.before (as.map (q_cv ad)).toArray s = true := fun w hw => hts0 w (List.mem_cons_of_mem _ hw)
  have htab : c.exceptionTable.toList = tableOf hh := vx_table (x := (ym mid).1) (bytes := (ym mid).2.1) (maxL' := (ym mid).2.2.1) (ret' := (ym mid).2.2.2) B (by
    have := hts0 _ List.mem_cons_self
    unfold q_cw at this
    rw [hhh] at this
    exact this)
  have hown : s.vm.findClass (Rn 13) = some m.cls := by rw [hRn]; exact findClass_of_methodNamed B.named
  have hA : ∀ q : Nat, s.heap.size ≤ q → va_A (q_ws P cT ad G M) s.heap.size q := fun q h => Or.inr h
  have hx := B.exec
  have hb := B.bytes
  have hrt : meth.sig.returnType = some .int := by rw [← hret0]; exact B.returns
  have hlocks := B.notSynchronized
  have X : q_X p s m (as.map (q_cv ad)).toArray meth c Rn 13 (ym mid).2.1 (ym mid).2.2.1 false D cT (va_A (q_ws P cT ad G M) s.heap.size) := ⟨hx, hb, hml, hown, hts, hK, hA, fun h => by cases h⟩
  rw [lg_entry_eq]
  obtain ⟨hl1, hl2, hl3⟩ := q_lc_entry (ad := ad) hlen
  generalize (lg_sl (as.map (q_cv ad)) ++ List.replicate ((ym mid).2.2.1 - (lg_sl (as.map (q_cv ad))).length) Slot.unset).toArray = ls at hl1 ⊢
  have Y : q_Y P NW SR s (ym mid).2.2.1 D cT (va_A (q_ws P cT ad G M) s.heap.size) ad (q_entry (ym mid).2.2.1 as) [] G M s.heap [] ls := ⟨hP, hD0.self, va_S.rf, hG, hM, hl1, fun v hv => has v (hl3 v hv), fun v hv => by simp at hv, hl2, hE⟩
  obtain ⟨s1, s2, s3⟩ := q_seek_ok (t := (0 : Int)) hI.1
  have f1 : d + 1 ≤ (headSpec (q_mW (ym mid)) (q_rm (d + 2) 1 6)).room.frames := by show d + 1 ≤ d + 2; omega
  have f2 : 64 * (d + 1) ≤ (headSpec (q_mW (ym mid)) (q_rm (d + 2) 1 6)).room.locals := by show 64 * (d + 1) ≤ 64 * (d + 2); omega
  refine q_den_s X hTb hO f1 f2 (Nat.le_refl 1) (Nat.le_refl 6) hI 1000 false _ _ [] G M 0 0 ad s.heap [] ls 0 pcC _ s1 s2 (fun q l' hq => by have := s3 q l' hq; omega) Y h1 (fun ad1 H1 locs1 ls1 ha1 hle1 Y1 => ?_)
  dsimp only at Y1 ⊢
  have hrest : ∀ v ∈ rest, q_ov G.length v := fun v hv => Y1.2.2.2.2.2.2.2.1 v (List.mem_append_right _ hv)
  have hsz1 : ls1.size = (ym mid).2.2.1 := by rw [Y1.2.2.2.2.2.1.1]; exact Y1.2.2.2.2.2.2.2.2.1
  have hws1 : q_ws P cT ad1 G M = q_ws P cT ad G M := q_ws_ext hG ha1
  have hAA : ∀ q, va_A (q_ws P cT ad1 G M) H1.size q → va_A (q_ws P cT ad G M) s.heap.size q := by
    rintro q (⟨k, e0, h⟩ | h)
    · exact Y1.2.1.2 k _ h
    · exact hA q (Nat.le_trans Y1.2.2.1.1 h)
  have hrecv : ∃ cellB : Cell, H1[ad1 a]? = some cellB ∧ cellB.vm.isStatics = false ∧ s.vm.findClass (ym mx).1.cls = some cellB.cls := by
    rw [w9]
    exact va_recv hK Y1.1 (ci := 11) rfl (q_ws_get hGa)
  have hstk : (F0 m pcC ls1 (((.inr (.inr a) :: as').reverse ++ rest).map (q_cv ad1))).stack = (as'.map (q_cv ad1)).reverse ++ .ref (ad1 a) :: rest.map (q_cv ad1) := by
    show ((.inr (.inr a) :: as').reverse ++ rest).map (q_cv ad1) = _
    simp [q_cv]
  have hcw : q_mW (ym mx) = Cond.code (ym mx).1 (ym mx).2.1 (ym mx).2.2.1 (ym mx).2.2.2 :: q_WT := by unfold q_mW q_cw; rw [w6]
  have hgood : GoodIn q_WT (wsV (Rn 13) idx (ym mx).1.cls (ym mx).1 (q_mW (ym mx))) := by
    intro w hw
    rcases List.mem_append.mp hw with h | h
    · simp only [List.mem_cons, List.not_mem_nil, or_false] at h
      rcases h with rfl | rfl | rfl | rfl
      · exact q_WT_good _ w1
      · exact q_WT_good _ w2
      · exact q_WT_good _ w3
      · exact q_WT_good _ w4
    · exact q_mW_good w5 w h
  have hrun := vx_runV (m := m) (As := as'.map (q_cv ad1)) (rest := rest.map (q_cv ad1)) (g := F0 m pcC ls1 (((.inr (.inr a) :: as').reverse ++ rest).map (q_cv ad1))) (H := H1) (locs := locs1) (cells := 0) (slots := 0) (below := below) (meth := meth) (R := (headSpec (q_mW (ym mid)) (q_rm (d + 2) 1 6)).room) (e := e) ⟨hx, hb, hml, hown, hts⟩ (hV D cT ad1 H1.size) (cwV as'.length hts hgood hcw rfl rfl ⟨rfl, w7⟩ ⟨by show d + 1 + 1 ≤ d + 2; omega, by show 8 + ((ym mx).2.2.1 + 11) + 64 * (d + 1) ≤ 64 * (d + 2); omega⟩) ⟨q_Pre_blind, hrecv, q_PcU (as := .inr (.inr a) :: as') hK hA Y1⟩ rfl (by simp) hsz1 hstk (lv_room (by rw [q_cats]; exact hcat)) hdc ⟨Nat.le_refl 1, Nat.le_refl 6⟩
  intro T hT XT
  -- the world behind the call
  have hworld : ∀ (t T' st₀ : State) (L : List Loc) (ad' : Nat → Nat) (M1 : q_M) (st' : List q_V), st₀.heap = H1 → T'.heap = t.heap → (∀ q ∈ L, va_A (q_ws P cT ad1 G M) H1.size q.base) → q_adx G.length ad1 ad' → va_P D vwCl (q_ws P cT ad' G M1) t.heap → va_D (va_A (q_ws P cT ad1 G M) H1.size) (q_ws P cT ad' G M1) → q_oM G M1 → va_F (va_A (q_ws P cT ad1 G M) H1.size) st₀ t → (∀ v ∈ st', q_ov G.length v) → q_Y P NW SR s (ym mid).2.2.1 D cT (va_A (q_ws P cT ad G M) s.heap.size) ad' l1 st' G M1 T'.heap (locs1 ++ L) ls1 := by
    intro t T' st₀ L ad' M1 st' h0 e1 hL ha hP' hD' hM' hF hst
    obtain ⟨hz, hk⟩ := hF
    rw [h0] at hz hk
    refine ⟨by rw [e1]; exact hP', hD'.weaken (fun k q _ h => hAA _ h), ⟨Nat.le_trans Y1.2.2.1.1 (by rw [e1]; exact hz), fun q g1 g2 => by rw [e1, hk q (Nat.lt_of_lt_of_le g1 Y1.2.2.1.1) (fun z => g2 (hAA q z))]; exact Y1.2.2.1.2.1 q g1 g2, fun q hq => ?_⟩, hG, hM', Y1.2.2.2.2.2.1.ext ha Y1.2.2.2.2.2.2.1, Y1.2.2.2.2.2.2.1, hst, Y1.2.2.2.2.2.2.2.2.1, ?_⟩
    · rcases List.mem_append.mp hq with h | h
      · exact Y1.2.2.1.2.2 q h
      · exact hAA _ (hL q h)
    · obtain ⟨a1, a2, a3, a4⟩ := Y1.2.2.2.2.2.2.2.2.2
      have g1 : ∀ i, ad' (1000 + i) = ad1 (1000 + i) := fun i => ha _ (Or.inr (by omega))
      have g2 : ∀ i, ad' (2000 + i) = ad1 (2000 + i) := fun i => ha _ (Or.inr (by omega))
      refine ⟨a1, fun r hr => by rw [g1]; exact a2 r hr, ?_, a4.1, by rw [ha 3000 (Or.inr (by decide))]; exact a4.2⟩
      simp only [g1, g2]
      exact a3
  have hfinal : ∀ (ad' : Nat → Nat), q_adx G.length ad1 ad' → ∀ (t : State) (ad2 : Nat → Nat) (locs : List Loc), va_P D vwCl (q_ws P cT ad2 G M2) t.heap → va_D (va_A (q_ws P cT ad G M) s.heap.size) (q_ws P cT ad2 G M2) → va_S (va_A (q_ws P cT ad G M) s.heap.size) s.heap t.heap locs → q_oG P G → q_oM G M2 → q_adx G.length ad' ad2 → q_ov G.length (.inl k) → q_Post P D cT ad G M s.heap.size (some (.inl k)) G M2 (as.map (q_cv ad)).toArray s (.returned (some (.int (Int32.ofInt k)))) t := by
    intro ad' ha t ad2 locs b1 b2 b3 b4 b5 b6 b7
    exact ⟨⟨ad2, (ha1.tr (Nat.le_refl _) ha).tr (Nat.le_refl _) b6, rfl, b1, b2, b4, b5, Nat.le_refl _, fun v hv => by cases hv; exact b7⟩, b3.F rfl⟩
  rcases hrun T hT XT with ⟨v, st₀, t, T', L, h0, X', hL, e1, e2, hq, stp⟩ | ⟨q, st₀, t, T', L, E, ce, h0, X', hL, e1, e2, hxc, hce, hcv, hcl, stp⟩
  · rcases rx with ⟨r, G1, M1⟩ | z
    · obtain ⟨rfl, x, pcr, l2, rfl, hden, hdr⟩ := hret r G1 M1 rfl
      obtain ⟨⟨ad', ha, hv, hP', hD', hG', hM', hle, hrv⟩, hF⟩ := hq
      cases hv
      have Y2 := hworld t T' st₀ L ad' M1 (.inl x :: rest) h0 e1 hL ha hP' hD' hM' hF (q_cons (hrv _ rfl) hrest)
      have hW := q_tail (pc := pcC + 3) (below := below) (meth := meth) (R := (headSpec (q_mW (ym mid)) (q_rm (d + 2) 1 6)).room) (e := e) (l0 := l0) X hTb hO f1 f2 (Nat.le_refl 1) (Nat.le_refl 6) hI hrt hlocks Y2 hden hdr (hfinal ad' ha)
      obtain ⟨t2, c1, c2⟩ := hW T' rfl X'
      refine ⟨t2, stp t2 ?_, c2⟩
      have e9 : (.inl x :: rest : List q_V).map (q_cv ad') = (some (Value.int (Int32.ofInt x))).toList ++ rest.map (q_cv ad1) := by
        rw [List.map_cons, q_map_ext ha hrest]; rfl
      rw [e9] at c1
      exact c1
    · exact hq.elim
  · rcases rx with z | ⟨pcx, G1, M1⟩
    · exact hxc.elim
    · obtain ⟨rfl, pre, suf, x, pcr, l2, hsplit, hpass, hcov, hct, hlk, hCL, ⟨sl, hdh, hsl, hsn, hnl⟩, hden, hdr⟩ := hthr pcx G1 M1 rfl
      obtain ⟨rfl, ⟨ad', ha, hP', hD', hG', hM', hle⟩, hF⟩ := hxc
      have Y2 := hworld t T' st₀ L ad' M1 [] h0 e1 hL ha hP' hD' hM' hF (fun v hv => by cases hv)
      have hE9 := Y1.2.2.2.2.2.2.2.2.2.2.2.2.2
      have hW : vx_W p l0 e (headSpec (q_mW (ym mid)) (q_rm (d + 2) 1 6)).room s m (as.map (q_cv ad)).toArray below meth c T'.heap (locs1 ++ L) 1 6 (MQ below (q_Post P D cT ad G1 M s.heap.size (some (.inl k)) G1 M2) (as.map (q_cv ad)).toArray s 1 6 (va_A (q_ws P cT ad G1 M) s.heap.size)) (F0 m pcC ls1 (rest.map (q_cv ad1))) q := by
        refine vx_catch hown pre x suf (htab.trans hsplit) (fun z hz => Or.inr ⟨(hpass z hz).1, ?_⟩) hcov hct (hts _ hlk) (va_Nw.use rfl (hE9.2.2.2.1 _ hCL)) (by rw [e1]; exact hce) hcv hcl ?_
        · obtain ⟨-, nm, w, n⟩ := hpass z hz
          exact ⟨nm, hts _ w, hE9.2.2.2.2 _ n⟩
        · have hn := Y2.2.2.2.2.2.2.2.2.1
          refine lv_astore_n (nL := l1.length) hx hb hdh rfl Y2.2.2.2.2.2.1.has hsl rfl (fun ls2 hl9 => ?_)
          have Y3 := Y2.lc (st' := []) (fun v hv => by cases hv) (q_lc_dead hsn hnl hl9) Y2.2.2.2.2.2.2.1 hn
          exact q_tail (pc := x.handlerPc + 1) (l0 := l0) X hTb hO f1 f2 (Nat.le_refl 1) (Nat.le_refl 6) hI hrt hlocks Y3 hden hdr (hfinal ad' ha)
      obtain ⟨t2, c1, c2⟩ := hW T' rfl X'
      exact ⟨t2, stp.trans c1, c2⟩
end QL
end
