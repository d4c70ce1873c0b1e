section
-- ===== PART A: goes FIRST, ahead of the names: the tables' words, and 'selects' of the private methods out of them =====
/-- a private method of a class that the tables say can be made, by its rows of tables_1 -/
def lw_okq (q : MethodName × Nat) : Prop := (q.1.cls ≠ "java/lang/invoke/MethodHandle" ∧ q.1.cls ≠ "java/lang/invoke/VarHandle") ∧ Cond.instantiable q.1.cls q.2 ∈ tables_1 ∧ Cond.privateMethod q.1 ∈ tables_1 ∧ Cond.instanceMethod q.1 ∈ tables_1
theorem lw_p0 : lw_okq (⟨"PermitOffice$Tokens", "skipBlanks", "(I)I"⟩, 5) := ⟨⟨by decide +kernel, by decide +kernel⟩, List.mem_of_getElem? (i := 49) (by decide +kernel), List.mem_of_getElem? (i := 452) (by decide +kernel), List.mem_of_getElem? (i := 453) (by decide +kernel)⟩
theorem lw_p1 : lw_okq (⟨"PermitOffice$Tokens", "readRun", "()V"⟩, 5) := ⟨⟨by decide +kernel, by decide +kernel⟩, List.mem_of_getElem? (i := 49) (by decide +kernel), List.mem_of_getElem? (i := 469) (by decide +kernel), List.mem_of_getElem? (i := 470) (by decide +kernel)⟩
theorem lw_p2 : lw_okq (⟨"PermitOffice$Reader", "takeToken", "(LPermitOffice$Books;)Z"⟩, 10) := ⟨⟨by decide +kernel, by decide +kernel⟩, List.mem_of_getElem? (i := 47) (by decide +kernel), List.mem_of_getElem? (i := 473) (by decide +kernel), List.mem_of_getElem? (i := 474) (by decide +kernel)⟩
theorem lw_p3 : lw_okq (⟨"PermitOffice$Reader", "beginLine", "(LPermitOffice$Books;)Z"⟩, 10) := ⟨⟨by decide +kernel, by decide +kernel⟩, List.mem_of_getElem? (i := 47) (by decide +kernel), List.mem_of_getElem? (i := 477) (by decide +kernel), List.mem_of_getElem? (i := 478) (by decide +kernel)⟩
theorem lw_p4 : lw_okq (⟨"PermitOffice$Reader", "sortOfWord", "()I"⟩, 10) := ⟨⟨by decide +kernel, by decide +kernel⟩, List.mem_of_getElem? (i := 47) (by decide +kernel), List.mem_of_getElem? (i := 481) (by decide +kernel), List.mem_of_getElem? (i := 482) (by decide +kernel)⟩
theorem lw_p5 : lw_okq (⟨"PermitOffice$Reader", "refuse", "(I)Z"⟩, 10) := ⟨⟨by decide +kernel, by decide +kernel⟩, List.mem_of_getElem? (i := 47) (by decide +kernel), List.mem_of_getElem? (i := 541) (by decide +kernel), List.mem_of_getElem? (i := 542) (by decide +kernel)⟩
theorem lw_p6 : lw_okq (⟨"PermitOffice$Reader", "takeKind", "()Z"⟩, 10) := ⟨⟨by decide +kernel, by decide +kernel⟩, List.mem_of_getElem? (i := 47) (by decide +kernel), List.mem_of_getElem? (i := 545) (by decide +kernel), List.mem_of_getElem? (i := 546) (by decide +kernel)⟩
theorem lw_p7 : lw_okq (⟨"PermitOffice$Reader", "putNumber", "(I)V"⟩, 10) := ⟨⟨by decide +kernel, by decide +kernel⟩, List.mem_of_getElem? (i := 47) (by decide +kernel), List.mem_of_getElem? (i := 552) (by decide +kernel), List.mem_of_getElem? (i := 553) (by decide +kernel)⟩
theorem lw_p8 : lw_okq (⟨"PermitOffice$Reader", "isWhole", "()Z"⟩, 10) := ⟨⟨by decide +kernel, by decide +kernel⟩, List.mem_of_getElem? (i := 47) (by decide +kernel), List.mem_of_getElem? (i := 556) (by decide +kernel), List.mem_of_getElem? (i := 557) (by decide +kernel)⟩
theorem lw_p9 : lw_okq (⟨"PermitOffice$Reader", "meaningNow", "()I"⟩, 10) := ⟨⟨by decide +kernel, by decide +kernel⟩, List.mem_of_getElem? (i := 47) (by decide +kernel), List.mem_of_getElem? (i := 560) (by decide +kernel), List.mem_of_getElem? (i := 561) (by decide +kernel)⟩
theorem lw_p10 : lw_okq (⟨"PermitOffice$Reader", "endLine", "(LPermitOffice$Books;)Z"⟩, 10) := ⟨⟨by decide +kernel, by decide +kernel⟩, List.mem_of_getElem? (i := 47) (by decide +kernel), List.mem_of_getElem? (i := 565) (by decide +kernel), List.mem_of_getElem? (i := 566) (by decide +kernel)⟩
theorem lw_p11 : lw_okq (⟨"PermitOffice$Reader", "takeNumber", "(LPermitOffice$Lands;)Z"⟩, 10) := ⟨⟨by decide +kernel, by decide +kernel⟩, List.mem_of_getElem? (i := 47) (by decide +kernel), List.mem_of_getElem? (i := 589) (by decide +kernel), List.mem_of_getElem? (i := 590) (by decide +kernel)⟩
theorem lw_p12 : lw_okq (⟨"PermitOffice$Planner", "setPrices", "(LPermitOffice$Books;IJ)V"⟩, 9) := ⟨⟨by decide +kernel, by decide +kernel⟩, List.mem_of_getElem? (i := 113) (by decide +kernel), List.mem_of_getElem? (i := 698) (by decide +kernel), List.mem_of_getElem? (i := 699) (by decide +kernel)⟩
theorem lw_p13 : lw_okq (⟨"PermitOffice$Planner", "findChains", "(I)V"⟩, 9) := ⟨⟨by decide +kernel, by decide +kernel⟩, List.mem_of_getElem? (i := 113) (by decide +kernel), List.mem_of_getElem? (i := 714) (by decide +kernel), List.mem_of_getElem? (i := 715) (by decide +kernel)⟩
theorem lw_p14 : lw_okq (⟨"PermitOffice$Planner", "pushOn", "(I)Z"⟩, 9) := ⟨⟨by decide +kernel, by decide +kernel⟩, List.mem_of_getElem? (i := 113) (by decide +kernel), List.mem_of_getElem? (i := 718) (by decide +kernel), List.mem_of_getElem? (i := 719) (by decide +kernel)⟩
theorem lw_p15 : lw_okq (⟨"PermitOffice$Planner", "cheapestOpen", "()I"⟩, 9) := ⟨⟨by decide +kernel, by decide +kernel⟩, List.mem_of_getElem? (i := 113) (by decide +kernel), List.mem_of_getElem? (i := 722) (by decide +kernel), List.mem_of_getElem? (i := 723) (by decide +kernel)⟩
def lw_privs_1 : List (MethodName × Nat) := [(⟨"PermitOffice$Tokens", "skipBlanks", "(I)I"⟩, 5), (⟨"PermitOffice$Tokens", "readRun", "()V"⟩, 5), (⟨"PermitOffice$Reader", "takeToken", "(LPermitOffice$Books;)Z"⟩, 10), (⟨"PermitOffice$Reader", "beginLine", "(LPermitOffice$Books;)Z"⟩, 10), (⟨"PermitOffice$Reader", "sortOfWord", "()I"⟩, 10), (⟨"PermitOffice$Reader", "refuse", "(I)Z"⟩, 10), (⟨"PermitOffice$Reader", "takeKind", "()Z"⟩, 10), (⟨"PermitOffice$Reader", "putNumber", "(I)V"⟩, 10), (⟨"PermitOffice$Reader", "isWhole", "()Z"⟩, 10), (⟨"PermitOffice$Reader", "meaningNow", "()I"⟩, 10), (⟨"PermitOffice$Reader", "endLine", "(LPermitOffice$Books;)Z"⟩, 10), (⟨"PermitOffice$Reader", "takeNumber", "(LPermitOffice$Lands;)Z"⟩, 10), (⟨"PermitOffice$Planner", "setPrices", "(LPermitOffice$Books;IJ)V"⟩, 9), (⟨"PermitOffice$Planner", "findChains", "(I)V"⟩, 9), (⟨"PermitOffice$Planner", "pushOn", "(I)Z"⟩, 9), (⟨"PermitOffice$Planner", "cheapestOpen", "()I"⟩, 9)]
theorem lw_r1 : ∀ q ∈ lw_privs_1, lw_okq q := List.forall_mem_cons.mpr ⟨lw_p0, List.forall_mem_cons.mpr ⟨lw_p1, List.forall_mem_cons.mpr ⟨lw_p2, List.forall_mem_cons.mpr ⟨lw_p3, List.forall_mem_cons.mpr ⟨lw_p4, List.forall_mem_cons.mpr ⟨lw_p5, List.forall_mem_cons.mpr ⟨lw_p6, List.forall_mem_cons.mpr ⟨lw_p7, List.forall_mem_cons.mpr ⟨lw_p8, List.forall_mem_cons.mpr ⟨lw_p9, List.forall_mem_cons.mpr ⟨lw_p10, List.forall_mem_cons.mpr ⟨lw_p11, List.forall_mem_cons.mpr ⟨lw_p12, List.forall_mem_cons.mpr ⟨lw_p13, List.forall_mem_cons.mpr ⟨lw_p14, List.forall_mem_cons.mpr ⟨lw_p15, fun _ h => absurd h List.not_mem_nil⟩⟩⟩⟩⟩⟩⟩⟩⟩⟩⟩⟩⟩⟩⟩⟩
theorem lw_p16 : lw_okq (⟨"PermitOffice$Planner", "moveAlong", "(II)V"⟩, 9) := ⟨⟨by decide +kernel, by decide +kernel⟩, List.mem_of_getElem? (i := 113) (by decide +kernel), List.mem_of_getElem? (i := 726) (by decide +kernel), List.mem_of_getElem? (i := 727) (by decide +kernel)⟩
theorem lw_p17 : lw_okq (⟨"PermitOffice$Books", "takeBackTrip", "(I)V"⟩, 6) := ⟨⟨by decide +kernel, by decide +kernel⟩, List.mem_of_getElem? (i := 152) (by decide +kernel), List.mem_of_getElem? (i := 850) (by decide +kernel), List.mem_of_getElem? (i := 851) (by decide +kernel)⟩
theorem lw_p18 : lw_okq (⟨"PermitOffice$Books", "callBack", "(I)V"⟩, 6) := ⟨⟨by decide +kernel, by decide +kernel⟩, List.mem_of_getElem? (i := 152) (by decide +kernel), List.mem_of_getElem? (i := 854) (by decide +kernel), List.mem_of_getElem? (i := 855) (by decide +kernel)⟩
theorem lw_p19 : lw_okq (⟨"PermitOffice$Books", "waitAgain", "(I)V"⟩, 6) := ⟨⟨by decide +kernel, by decide +kernel⟩, List.mem_of_getElem? (i := 152) (by decide +kernel), List.mem_of_getElem? (i := 858) (by decide +kernel), List.mem_of_getElem? (i := 859) (by decide +kernel)⟩
theorem lw_p20 : lw_okq (⟨"PermitOffice$Books", "reopen", "(I)V"⟩, 6) := ⟨⟨by decide +kernel, by decide +kernel⟩, List.mem_of_getElem? (i := 152) (by decide +kernel), List.mem_of_getElem? (i := 862) (by decide +kernel), List.mem_of_getElem? (i := 863) (by decide +kernel)⟩
theorem lw_p21 : lw_okq (⟨"PermitOffice$Books", "takeBackMisuse", "(II)V"⟩, 6) := ⟨⟨by decide +kernel, by decide +kernel⟩, List.mem_of_getElem? (i := 152) (by decide +kernel), List.mem_of_getElem? (i := 866) (by decide +kernel), List.mem_of_getElem? (i := 867) (by decide +kernel)⟩
theorem lw_p22 : lw_okq (⟨"java/lang/Throwable", "fillInStackTrace", "(I)Ljava/lang/Throwable;"⟩, 6) := ⟨⟨by decide +kernel, by decide +kernel⟩, List.mem_of_getElem? (i := 915) (by decide +kernel), List.mem_of_getElem? (i := 913) (by decide +kernel), List.mem_of_getElem? (i := 914) (by decide +kernel)⟩
theorem lw_p23 : lw_okq (⟨"PermitOfficeModel", "lays", "(I)V"⟩, 25) := ⟨⟨by decide +kernel, by decide +kernel⟩, List.mem_of_getElem? (i := 964) (by decide +kernel), List.mem_of_getElem? (i := 962) (by decide +kernel), List.mem_of_getElem? (i := 963) (by decide +kernel)⟩
theorem lw_p24 : lw_okq (⟨"PermitOfficeModel", "go", "()V"⟩, 25) := ⟨⟨by decide +kernel, by decide +kernel⟩, List.mem_of_getElem? (i := 964) (by decide +kernel), List.mem_of_getElem? (i := 1057) (by decide +kernel), List.mem_of_getElem? (i := 1058) (by decide +kernel)⟩
theorem lw_p25 : lw_okq (⟨"PermitOfficeModel", "tapeAt", "(I)I"⟩, 25) := ⟨⟨by decide +kernel, by decide +kernel⟩, List.mem_of_getElem? (i := 964) (by decide +kernel), List.mem_of_getElem? (i := 1067) (by decide +kernel), List.mem_of_getElem? (i := 1068) (by decide +kernel)⟩
theorem lw_p26 : lw_okq (⟨"PermitOfficeModel", "readLine", "(Z)Z"⟩, 25) := ⟨⟨by decide +kernel, by decide +kernel⟩, List.mem_of_getElem? (i := 964) (by decide +kernel), List.mem_of_getElem? (i := 1073) (by decide +kernel), List.mem_of_getElem? (i := 1074) (by decide +kernel)⟩
theorem lw_p27 : lw_okq (⟨"PermitOfficeModel", "readLands", "()Z"⟩, 25) := ⟨⟨by decide +kernel, by decide +kernel⟩, List.mem_of_getElem? (i := 964) (by decide +kernel), List.mem_of_getElem? (i := 1077) (by decide +kernel), List.mem_of_getElem? (i := 1078) (by decide +kernel)⟩
theorem lw_p28 : lw_okq (⟨"PermitOfficeModel", "isWord", "(J)Z"⟩, 25) := ⟨⟨by decide +kernel, by decide +kernel⟩, List.mem_of_getElem? (i := 964) (by decide +kernel), List.mem_of_getElem? (i := 1087) (by decide +kernel), List.mem_of_getElem? (i := 1088) (by decide +kernel)⟩
theorem lw_p29 : lw_okq (⟨"PermitOfficeModel", "bad", "(I)Z"⟩, 25) := ⟨⟨by decide +kernel, by decide +kernel⟩, List.mem_of_getElem? (i := 964) (by decide +kernel), List.mem_of_getElem? (i := 1091) (by decide +kernel), List.mem_of_getElem? (i := 1092) (by decide +kernel)⟩
theorem lw_p30 : lw_okq (⟨"PermitOfficeModel", "told", "(III)Z"⟩, 25) := ⟨⟨by decide +kernel, by decide +kernel⟩, List.mem_of_getElem? (i := 964) (by decide +kernel), List.mem_of_getElem? (i := 1095) (by decide +kernel), List.mem_of_getElem? (i := 1096) (by decide +kernel)⟩
theorem lw_p31 : lw_okq (⟨"PermitOfficeModel", "readBorder", "()Z"⟩, 25) := ⟨⟨by decide +kernel, by decide +kernel⟩, List.mem_of_getElem? (i := 964) (by decide +kernel), List.mem_of_getElem? (i := 1105) (by decide +kernel), List.mem_of_getElem? (i := 1106) (by decide +kernel)⟩
def lw_privs_2 : List (MethodName × Nat) := [(⟨"PermitOffice$Planner", "moveAlong", "(II)V"⟩, 9), (⟨"PermitOffice$Books", "takeBackTrip", "(I)V"⟩, 6), (⟨"PermitOffice$Books", "callBack", "(I)V"⟩, 6), (⟨"PermitOffice$Books", "waitAgain", "(I)V"⟩, 6), (⟨"PermitOffice$Books", "reopen", "(I)V"⟩, 6), (⟨"PermitOffice$Books", "takeBackMisuse", "(II)V"⟩, 6), (⟨"java/lang/Throwable", "fillInStackTrace", "(I)Ljava/lang/Throwable;"⟩, 6), (⟨"PermitOfficeModel", "lays", "(I)V"⟩, 25), (⟨"PermitOfficeModel", "go", "()V"⟩, 25), (⟨"PermitOfficeModel", "tapeAt", "(I)I"⟩, 25), (⟨"PermitOfficeModel", "readLine", "(Z)Z"⟩, 25), (⟨"PermitOfficeModel", "readLands", "()Z"⟩, 25), (⟨"PermitOfficeModel", "isWord", "(J)Z"⟩, 25), (⟨"PermitOfficeModel", "bad", "(I)Z"⟩, 25), (⟨"PermitOfficeModel", "told", "(III)Z"⟩, 25), (⟨"PermitOfficeModel", "readBorder", "()Z"⟩, 25)]
theorem lw_r2 : ∀ q ∈ lw_privs_2, lw_okq q := List.forall_mem_cons.mpr ⟨lw_p16, List.forall_mem_cons.mpr ⟨lw_p17, List.forall_mem_cons.mpr ⟨lw_p18, List.forall_mem_cons.mpr ⟨lw_p19, List.forall_mem_cons.mpr ⟨lw_p20, List.forall_mem_cons.mpr ⟨lw_p21, List.forall_mem_cons.mpr ⟨lw_p22, List.forall_mem_cons.mpr ⟨lw_p23, List.forall_mem_cons.mpr ⟨lw_p24, List.forall_mem_cons.mpr ⟨lw_p25, List.forall_mem_cons.mpr ⟨lw_p26, List.forall_mem_cons.mpr ⟨lw_p27, List.forall_mem_cons.mpr ⟨lw_p28, List.forall_mem_cons.mpr ⟨lw_p29, List.forall_mem_cons.mpr ⟨lw_p30, List.forall_mem_cons.mpr ⟨lw_p31, fun _ h => absurd h List.not_mem_nil⟩⟩⟩⟩⟩⟩⟩⟩⟩⟩⟩⟩⟩⟩⟩⟩
theorem lw_p32 : lw_okq (⟨"PermitOfficeModel", "land", "(I)Z"⟩, 25) := ⟨⟨by decide +kernel, by decide +kernel⟩, List.mem_of_getElem? (i := 964) (by decide +kernel), List.mem_of_getElem? (i := 1109) (by decide +kernel), List.mem_of_getElem? (i := 1110) (by decide +kernel)⟩
theorem lw_p33 : lw_okq (⟨"PermitOfficeModel", "readType", "()Z"⟩, 25) := ⟨⟨by decide +kernel, by decide +kernel⟩, List.mem_of_getElem? (i := 964) (by decide +kernel), List.mem_of_getElem? (i := 1116) (by decide +kernel), List.mem_of_getElem? (i := 1117) (by decide +kernel)⟩
theorem lw_p34 : lw_okq (⟨"PermitOfficeModel", "readKind", "(I)Z"⟩, 25) := ⟨⟨by decide +kernel, by decide +kernel⟩, List.mem_of_getElem? (i := 964) (by decide +kernel), List.mem_of_getElem? (i := 1120) (by decide +kernel), List.mem_of_getElem? (i := 1121) (by decide +kernel)⟩
theorem lw_p35 : lw_okq (⟨"PermitOfficeModel", "readLorry", "()Z"⟩, 25) := ⟨⟨by decide +kernel, by decide +kernel⟩, List.mem_of_getElem? (i := 964) (by decide +kernel), List.mem_of_getElem? (i := 1124) (by decide +kernel), List.mem_of_getElem? (i := 1125) (by decide +kernel)⟩
theorem lw_p36 : lw_okq (⟨"PermitOfficeModel", "readEnd", "()Z"⟩, 25) := ⟨⟨by decide +kernel, by decide +kernel⟩, List.mem_of_getElem? (i := 964) (by decide +kernel), List.mem_of_getElem? (i := 1128) (by decide +kernel), List.mem_of_getElem? (i := 1129) (by decide +kernel)⟩
theorem lw_p37 : lw_okq (⟨"PermitOfficeModel", "having", "(I)I"⟩, 25) := ⟨⟨by decide +kernel, by decide +kernel⟩, List.mem_of_getElem? (i := 964) (by decide +kernel), List.mem_of_getElem? (i := 1140) (by decide +kernel), List.mem_of_getElem? (i := 1141) (by decide +kernel)⟩
theorem lw_p38 : lw_okq (⟨"PermitOfficeModel", "its", "(II)I"⟩, 25) := ⟨⟨by decide +kernel, by decide +kernel⟩, List.mem_of_getElem? (i := 964) (by decide +kernel), List.mem_of_getElem? (i := 1144) (by decide +kernel), List.mem_of_getElem? (i := 1145) (by decide +kernel)⟩
theorem lw_p39 : lw_okq (⟨"PermitOfficeModel", "borders", "()I"⟩, 25) := ⟨⟨by decide +kernel, by decide +kernel⟩, List.mem_of_getElem? (i := 964) (by decide +kernel), List.mem_of_getElem? (i := 1148) (by decide +kernel), List.mem_of_getElem? (i := 1149) (by decide +kernel)⟩
theorem lw_p40 : lw_okq (⟨"PermitOfficeModel", "misuses", "()I"⟩, 25) := ⟨⟨by decide +kernel, by decide +kernel⟩, List.mem_of_getElem? (i := 964) (by decide +kernel), List.mem_of_getElem? (i := 1152) (by decide +kernel), List.mem_of_getElem? (i := 1153) (by decide +kernel)⟩
theorem lw_p41 : lw_okq (⟨"PermitOfficeModel", "lorryOf", "(II)I"⟩, 25) := ⟨⟨by decide +kernel, by decide +kernel⟩, List.mem_of_getElem? (i := 964) (by decide +kernel), List.mem_of_getElem? (i := 1156) (by decide +kernel), List.mem_of_getElem? (i := 1157) (by decide +kernel)⟩
theorem lw_p42 : lw_okq (⟨"PermitOfficeModel", "isType", "(I)Z"⟩, 25) := ⟨⟨by decide +kernel, by decide +kernel⟩, List.mem_of_getElem? (i := 964) (by decide +kernel), List.mem_of_getElem? (i := 1164) (by decide +kernel), List.mem_of_getElem? (i := 1165) (by decide +kernel)⟩
theorem lw_p43 : lw_okq (⟨"PermitOfficeModel", "typed", "(II)I"⟩, 25) := ⟨⟨by decide +kernel, by decide +kernel⟩, List.mem_of_getElem? (i := 964) (by decide +kernel), List.mem_of_getElem? (i := 1168) (by decide +kernel), List.mem_of_getElem? (i := 1169) (by decide +kernel)⟩
theorem lw_p44 : lw_okq (⟨"PermitOfficeModel", "freeOf", "(I)I"⟩, 25) := ⟨⟨by decide +kernel, by decide +kernel⟩, List.mem_of_getElem? (i := 964) (by decide +kernel), List.mem_of_getElem? (i := 1172) (by decide +kernel), List.mem_of_getElem? (i := 1173) (by decide +kernel)⟩
theorem lw_p45 : lw_okq (⟨"PermitOfficeModel", "piecesIn", "(I)I"⟩, 25) := ⟨⟨by decide +kernel, by decide +kernel⟩, List.mem_of_getElem? (i := 964) (by decide +kernel), List.mem_of_getElem? (i := 1176) (by decide +kernel), List.mem_of_getElem? (i := 1177) (by decide +kernel)⟩
theorem lw_p46 : lw_okq (⟨"PermitOfficeModel", "piecesOut", "(I)I"⟩, 25) := ⟨⟨by decide +kernel, by decide +kernel⟩, List.mem_of_getElem? (i := 964) (by decide +kernel), List.mem_of_getElem? (i := 1180) (by decide +kernel), List.mem_of_getElem? (i := 1181) (by decide +kernel)⟩
theorem lw_p47 : lw_okq (⟨"PermitOfficeModel", "outBy", "(I)I"⟩, 25) := ⟨⟨by decide +kernel, by decide +kernel⟩, List.mem_of_getElem? (i := 964) (by decide +kernel), List.mem_of_getElem? (i := 1184) (by decide +kernel), List.mem_of_getElem? (i := 1185) (by decide +kernel)⟩
def lw_privs_3 : List (MethodName × Nat) := [(⟨"PermitOfficeModel", "land", "(I)Z"⟩, 25), (⟨"PermitOfficeModel", "readType", "()Z"⟩, 25), (⟨"PermitOfficeModel", "readKind", "(I)Z"⟩, 25), (⟨"PermitOfficeModel", "readLorry", "()Z"⟩, 25), (⟨"PermitOfficeModel", "readEnd", "()Z"⟩, 25), (⟨"PermitOfficeModel", "having", "(I)I"⟩, 25), (⟨"PermitOfficeModel", "its", "(II)I"⟩, 25), (⟨"PermitOfficeModel", "borders", "()I"⟩, 25), (⟨"PermitOfficeModel", "misuses", "()I"⟩, 25), (⟨"PermitOfficeModel", "lorryOf", "(II)I"⟩, 25), (⟨"PermitOfficeModel", "isType", "(I)Z"⟩, 25), (⟨"PermitOfficeModel", "typed", "(II)I"⟩, 25), (⟨"PermitOfficeModel", "freeOf", "(I)I"⟩, 25), (⟨"PermitOfficeModel", "piecesIn", "(I)I"⟩, 25), (⟨"PermitOfficeModel", "piecesOut", "(I)I"⟩, 25), (⟨"PermitOfficeModel", "outBy", "(I)I"⟩, 25)]
theorem lw_r3 : ∀ q ∈ lw_privs_3, lw_okq q := List.forall_mem_cons.mpr ⟨lw_p32, List.forall_mem_cons.mpr ⟨lw_p33, List.forall_mem_cons.mpr ⟨lw_p34, List.forall_mem_cons.mpr ⟨lw_p35, List.forall_mem_cons.mpr ⟨lw_p36, List.forall_mem_cons.mpr ⟨lw_p37, List.forall_mem_cons.mpr ⟨lw_p38, List.forall_mem_cons.mpr ⟨lw_p39, List.forall_mem_cons.mpr ⟨lw_p40, List.forall_mem_cons.mpr ⟨lw_p41, List.forall_mem_cons.mpr ⟨lw_p42, List.forall_mem_cons.mpr ⟨lw_p43, List.forall_mem_cons.mpr ⟨lw_p44, List.forall_mem_cons.mpr ⟨lw_p45, List.forall_mem_cons.mpr ⟨lw_p46, List.forall_mem_cons.mpr ⟨lw_p47, fun _ h => absurd h List.not_mem_nil⟩⟩⟩⟩⟩⟩⟩⟩⟩⟩⟩⟩⟩⟩⟩⟩
theorem lw_p48 : lw_okq (⟨"PermitOfficeModel", "isLorry", "(I)Z"⟩, 25) := ⟨⟨by decide +kernel, by decide +kernel⟩, List.mem_of_getElem? (i := 964) (by decide +kernel), List.mem_of_getElem? (i := 1196) (by decide +kernel), List.mem_of_getElem? (i := 1197) (by decide +kernel)⟩
theorem lw_p49 : lw_okq (⟨"PermitOfficeModel", "refuse", "()I"⟩, 25) := ⟨⟨by decide +kernel, by decide +kernel⟩, List.mem_of_getElem? (i := 964) (by decide +kernel), List.mem_of_getElem? (i := 1200) (by decide +kernel), List.mem_of_getElem? (i := 1201) (by decide +kernel)⟩
theorem lw_p50 : lw_okq (⟨"PermitOfficeModel", "tripOf", "(I)I"⟩, 25) := ⟨⟨by decide +kernel, by decide +kernel⟩, List.mem_of_getElem? (i := 964) (by decide +kernel), List.mem_of_getElem? (i := 1204) (by decide +kernel), List.mem_of_getElem? (i := 1205) (by decide +kernel)⟩
theorem lw_p51 : lw_okq (⟨"PermitOfficeModel", "doneBy", "(I)I"⟩, 25) := ⟨⟨by decide +kernel, by decide +kernel⟩, List.mem_of_getElem? (i := 964) (by decide +kernel), List.mem_of_getElem? (i := 1208) (by decide +kernel), List.mem_of_getElem? (i := 1209) (by decide +kernel)⟩
theorem lw_p52 : lw_okq (⟨"PermitOfficeModel", "isTrip", "(I)Z"⟩, 25) := ⟨⟨by decide +kernel, by decide +kernel⟩, List.mem_of_getElem? (i := 964) (by decide +kernel), List.mem_of_getElem? (i := 1216) (by decide +kernel), List.mem_of_getElem? (i := 1217) (by decide +kernel)⟩
theorem lw_p53 : lw_okq (⟨"PermitOfficeModel", "isFit", "(II)Z"⟩, 25) := ⟨⟨by decide +kernel, by decide +kernel⟩, List.mem_of_getElem? (i := 964) (by decide +kernel), List.mem_of_getElem? (i := 1224) (by decide +kernel), List.mem_of_getElem? (i := 1225) (by decide +kernel)⟩
theorem lw_p54 : lw_okq (⟨"PermitOfficeModel", "wayOf", "(I)I"⟩, 25) := ⟨⟨by decide +kernel, by decide +kernel⟩, List.mem_of_getElem? (i := 964) (by decide +kernel), List.mem_of_getElem? (i := 1228) (by decide +kernel), List.mem_of_getElem? (i := 1229) (by decide +kernel)⟩
theorem lw_p55 : lw_okq (⟨"PermitOfficeModel", "laysPlan", "()V"⟩, 25) := ⟨⟨by decide +kernel, by decide +kernel⟩, List.mem_of_getElem? (i := 964) (by decide +kernel), List.mem_of_getElem? (i := 1236) (by decide +kernel), List.mem_of_getElem? (i := 1237) (by decide +kernel)⟩
theorem lw_p56 : lw_okq (⟨"PermitOfficeModel", "laysFree", "()V"⟩, 25) := ⟨⟨by decide +kernel, by decide +kernel⟩, List.mem_of_getElem? (i := 964) (by decide +kernel), List.mem_of_getElem? (i := 1240) (by decide +kernel), List.mem_of_getElem? (i := 1241) (by decide +kernel)⟩
theorem lw_p57 : lw_okq (⟨"PermitOfficeModel", "opensAll", "()V"⟩, 25) := ⟨⟨by decide +kernel, by decide +kernel⟩, List.mem_of_getElem? (i := 964) (by decide +kernel), List.mem_of_getElem? (i := 1244) (by decide +kernel), List.mem_of_getElem? (i := 1245) (by decide +kernel)⟩
theorem lw_p58 : lw_okq (⟨"PermitOfficeModel", "serves", "()V"⟩, 25) := ⟨⟨by decide +kernel, by decide +kernel⟩, List.mem_of_getElem? (i := 964) (by decide +kernel), List.mem_of_getElem? (i := 1248) (by decide +kernel), List.mem_of_getElem? (i := 1249) (by decide +kernel)⟩
theorem lw_p59 : lw_okq (⟨"PermitOfficeModel", "isOpen", "(I)Z"⟩, 25) := ⟨⟨by decide +kernel, by decide +kernel⟩, List.mem_of_getElem? (i := 964) (by decide +kernel), List.mem_of_getElem? (i := 1252) (by decide +kernel), List.mem_of_getElem? (i := 1253) (by decide +kernel)⟩
theorem lw_p60 : lw_okq (⟨"PermitOfficeModel", "finds", "()I"⟩, 25) := ⟨⟨by decide +kernel, by decide +kernel⟩, List.mem_of_getElem? (i := 964) (by decide +kernel), List.mem_of_getElem? (i := 1256) (by decide +kernel), List.mem_of_getElem? (i := 1257) (by decide +kernel)⟩
theorem lw_p61 : lw_okq (⟨"PermitOfficeModel", "reaches", "(II)I"⟩, 25) := ⟨⟨by decide +kernel, by decide +kernel⟩, List.mem_of_getElem? (i := 964) (by decide +kernel), List.mem_of_getElem? (i := 1260) (by decide +kernel), List.mem_of_getElem? (i := 1261) (by decide +kernel)⟩
theorem lw_p62 : lw_okq (⟨"PermitOfficeModel", "isAsGood", "(IIII)Z"⟩, 25) := ⟨⟨by decide +kernel, by decide +kernel⟩, List.mem_of_getElem? (i := 964) (by decide +kernel), List.mem_of_getElem? (i := 1264) (by decide +kernel), List.mem_of_getElem? (i := 1265) (by decide +kernel)⟩
theorem lw_p63 : lw_okq (⟨"PermitOfficeModel", "servedWith", "(II)I"⟩, 25) := ⟨⟨by decide +kernel, by decide +kernel⟩, List.mem_of_getElem? (i := 964) (by decide +kernel), List.mem_of_getElem? (i := 1272) (by decide +kernel), List.mem_of_getElem? (i := 1273) (by decide +kernel)⟩
def lw_privs_4 : List (MethodName × Nat) := [(⟨"PermitOfficeModel", "isLorry", "(I)Z"⟩, 25), (⟨"PermitOfficeModel", "refuse", "()I"⟩, 25), (⟨"PermitOfficeModel", "tripOf", "(I)I"⟩, 25), (⟨"PermitOfficeModel", "doneBy", "(I)I"⟩, 25), (⟨"PermitOfficeModel", "isTrip", "(I)Z"⟩, 25), (⟨"PermitOfficeModel", "isFit", "(II)Z"⟩, 25), (⟨"PermitOfficeModel", "wayOf", "(I)I"⟩, 25), (⟨"PermitOfficeModel", "laysPlan", "()V"⟩, 25), (⟨"PermitOfficeModel", "laysFree", "()V"⟩, 25), (⟨"PermitOfficeModel", "opensAll", "()V"⟩, 25), (⟨"PermitOfficeModel", "serves", "()V"⟩, 25), (⟨"PermitOfficeModel", "isOpen", "(I)Z"⟩, 25), (⟨"PermitOfficeModel", "finds", "()I"⟩, 25), (⟨"PermitOfficeModel", "reaches", "(II)I"⟩, 25), (⟨"PermitOfficeModel", "isAsGood", "(IIII)Z"⟩, 25), (⟨"PermitOfficeModel", "servedWith", "(II)I"⟩, 25)]
theorem lw_r4 : ∀ q ∈ lw_privs_4, lw_okq q := List.forall_mem_cons.mpr ⟨lw_p48, List.forall_mem_cons.mpr ⟨lw_p49, List.forall_mem_cons.mpr ⟨lw_p50, List.forall_mem_cons.mpr ⟨lw_p51, List.forall_mem_cons.mpr ⟨lw_p52, List.forall_mem_cons.mpr ⟨lw_p53, List.forall_mem_cons.mpr ⟨lw_p54, List.forall_mem_cons.mpr ⟨lw_p55, List.forall_mem_cons.mpr ⟨lw_p56, List.forall_mem_cons.mpr ⟨lw_p57, List.forall_mem_cons.mpr ⟨lw_p58, List.forall_mem_cons.mpr ⟨lw_p59, List.forall_mem_cons.mpr ⟨lw_p60, List.forall_mem_cons.mpr ⟨lw_p61, List.forall_mem_cons.mpr ⟨lw_p62, List.forall_mem_cons.mpr ⟨lw_p63, fun _ h => absurd h List.not_mem_nil⟩⟩⟩⟩⟩⟩⟩⟩⟩⟩⟩⟩⟩⟩⟩⟩
theorem lw_p64 : lw_okq (⟨"PermitOfficeModel", "isLand", "(I)Z"⟩, 25) := ⟨⟨by decide +kernel, by decide +kernel⟩, List.mem_of_getElem? (i := 964) (by decide +kernel), List.mem_of_getElem? (i := 1284) (by decide +kernel), List.mem_of_getElem? (i := 1285) (by decide +kernel)⟩
theorem lw_p65 : lw_okq (⟨"PermitOfficeModel", "whyStopped", "(II)I"⟩, 25) := ⟨⟨by decide +kernel, by decide +kernel⟩, List.mem_of_getElem? (i := 964) (by decide +kernel), List.mem_of_getElem? (i := 1296) (by decide +kernel), List.mem_of_getElem? (i := 1297) (by decide +kernel)⟩
theorem lw_p66 : lw_okq (⟨"PermitOfficeModel", "canGo", "(III)Z"⟩, 25) := ⟨⟨by decide +kernel, by decide +kernel⟩, List.mem_of_getElem? (i := 964) (by decide +kernel), List.mem_of_getElem? (i := 1304) (by decide +kernel), List.mem_of_getElem? (i := 1305) (by decide +kernel)⟩
theorem lw_p67 : lw_okq (⟨"PermitOfficeModel", "snap", "()V"⟩, 25) := ⟨⟨by decide +kernel, by decide +kernel⟩, List.mem_of_getElem? (i := 964) (by decide +kernel), List.mem_of_getElem? (i := 1308) (by decide +kernel), List.mem_of_getElem? (i := 1309) (by decide +kernel)⟩
def lw_privs_5 : List (MethodName × Nat) := [(⟨"PermitOfficeModel", "isLand", "(I)Z"⟩, 25), (⟨"PermitOfficeModel", "whyStopped", "(II)I"⟩, 25), (⟨"PermitOfficeModel", "canGo", "(III)Z"⟩, 25), (⟨"PermitOfficeModel", "snap", "()V"⟩, 25)]
theorem lw_r5 : ∀ q ∈ lw_privs_5, lw_okq q := List.forall_mem_cons.mpr ⟨lw_p64, List.forall_mem_cons.mpr ⟨lw_p65, List.forall_mem_cons.mpr ⟨lw_p66, List.forall_mem_cons.mpr ⟨lw_p67, fun _ h => absurd h List.not_mem_nil⟩⟩⟩⟩
def lw_privs : List (MethodName × Nat) := lw_privs_1 ++ (lw_privs_2 ++ (lw_privs_3 ++ (lw_privs_4 ++ (lw_privs_5))))
def lw_tbl : List Cond := k2_sels lw_privs ++ tables_1
theorem lw_privs_ok : ∀ q ∈ lw_privs, lw_okq q := by
  show ∀ q ∈ lw_privs_1 ++ (lw_privs_2 ++ (lw_privs_3 ++ (lw_privs_4 ++ (lw_privs_5)))), lw_okq q
  exact List.forall_mem_append.mpr ⟨lw_r1, List.forall_mem_append.mpr ⟨lw_r2, List.forall_mem_append.mpr ⟨lw_r3, List.forall_mem_append.mpr ⟨lw_r4, lw_r5⟩⟩⟩⟩
end
section
def RX0 : String := "PermitOffice$Acts"
def TX0 : u_T := fun k => match k with
  | 0 => ("PermitOffice$Acts", "kinds", "[I", true)
  | 1 => ("PermitOffice$Acts", "whom", "[I", true)
  | 2 => ("PermitOffice$Acts", "amounts", "[I", true)
  | 3 => ("PermitOffice$Acts", "next", "I", false)
  | _ => ("PermitOffice$Acts", "kept", "I", false)
def tyX0 : Nat → FieldType := fun k => match k with
  | 0 => .array .int
  | 1 => .array .int
  | 2 => .array .int
  | 3 => .int
  | _ => .int
theorem nmX0 : ∀ a, a < 5 → ∀ b, b < 5 → a ≠ b → (TX0 a).2.1 ≠ (TX0 b).2.1 := by decide +kernel
theorem tyX0_ok : ∀ k, k < 5 → parseFieldDescriptor (TX0 k).2.2.1 = some (tyX0 k) := by decide +kernel
abbrev cX0_init : ByteArray := prog_2_method_1_code
def yX0_init : MethodName := ⟨RX0, "<init>", "()V"⟩
abbrev cX0_keep : ByteArray := prog_2_method_2_code
def yX0_keep : MethodName := ⟨RX0, "keep", "(III)V"⟩
abbrev cX0_takeLatest : ByteArray := prog_2_method_3_code
def yX0_takeLatest : MethodName := ⟨RX0, "takeLatest", "()I"⟩
def RX1 : String := "PermitOffice$Books"
def TX1 : u_T := fun k => match k with
  | 0 => ("PermitOffice$Books", "lands", "LPermitOffice$Lands;", true)
  | 1 => ("PermitOffice$Books", "permits", "LPermitOffice$Permits;", true)
  | 2 => ("PermitOffice$Books", "lorries", "LPermitOffice$Lorries;", true)
  | 3 => ("PermitOffice$Books", "trips", "LPermitOffice$Trips;", true)
  | 4 => ("PermitOffice$Books", "acts", "LPermitOffice$Acts;", true)
  | _ => ("PermitOffice$Books", "today", "I", false)
def tyX1 : Nat → FieldType := fun k => match k with
  | 0 => .object "PermitOffice$Lands"
  | 1 => .object "PermitOffice$Permits"
  | 2 => .object "PermitOffice$Lorries"
  | 3 => .object "PermitOffice$Trips"
  | 4 => .object "PermitOffice$Acts"
  | _ => .int
theorem nmX1 : ∀ a, a < 6 → ∀ b, b < 6 → a ≠ b → (TX1 a).2.1 ≠ (TX1 b).2.1 := by decide +kernel
theorem tyX1_ok : ∀ k, k < 6 → parseFieldDescriptor (TX1 k).2.2.1 = some (tyX1 k) := by decide +kernel
abbrev cX1_init : ByteArray := prog_3_method_1_code
def yX1_init : MethodName := ⟨RX1, "<init>", "()V"⟩
abbrev cX1_clear : ByteArray := prog_3_method_2_code
def yX1_clear : MethodName := ⟨RX1, "clear", "()V"⟩
abbrev cX1_suits : ByteArray := prog_3_method_3_code
def yX1_suits : MethodName := ⟨RX1, "suits", "(II)Z"⟩
abbrev cX1_isOut : ByteArray := prog_3_method_4_code
def yX1_isOut : MethodName := ⟨RX1, "isOut", "(I)Z"⟩
abbrev cX1_isLate : ByteArray := prog_3_method_5_code
def yX1_isLate : MethodName := ⟨RX1, "isLate", "(I)Z"⟩
abbrev cX1_judge : ByteArray := prog_3_method_6_code
def yX1_judge : MethodName := ⟨RX1, "judge", "(II)I"⟩
abbrev cX1_sendOut : ByteArray := prog_3_method_7_code
def yX1_sendOut : MethodName := ⟨RX1, "sendOut", "(II)I"⟩
abbrev cX1_finish : ByteArray := prog_3_method_8_code
def yX1_finish : MethodName := ⟨RX1, "finish", "(I)V"⟩
abbrev cX1_takeBack : ByteArray := prog_3_method_9_code
def yX1_takeBack : MethodName := ⟨RX1, "takeBack", "(III)V"⟩
abbrev cX1_takeBackTrip : ByteArray := prog_3_method_10_code
def yX1_takeBackTrip : MethodName := ⟨RX1, "takeBackTrip", "(I)V"⟩
abbrev cX1_takeBackMisuse : ByteArray := prog_3_method_11_code
def yX1_takeBackMisuse : MethodName := ⟨RX1, "takeBackMisuse", "(II)V"⟩
abbrev cX1_callBack : ByteArray := prog_3_method_12_code
def yX1_callBack : MethodName := ⟨RX1, "callBack", "(I)V"⟩
abbrev cX1_waitAgain : ByteArray := prog_3_method_13_code
def yX1_waitAgain : MethodName := ⟨RX1, "waitAgain", "(I)V"⟩
abbrev cX1_reopen : ByteArray := prog_3_method_14_code
def yX1_reopen : MethodName := ⟨RX1, "reopen", "(I)V"⟩
def RX2 : String := "PermitOffice$Lands"
def TX2 : u_T := fun k => match k with
  | 0 => ("PermitOffice$Lands", "neighbours", "[I", true)
  | 1 => ("PermitOffice$Lands", "count", "I", false)
  | _ => ("PermitOffice$Lands", "borders", "I", false)
def tyX2 : Nat → FieldType := fun k => match k with
  | 0 => .array .int
  | 1 => .int
  | _ => .int
theorem nmX2 : ∀ a, a < 3 → ∀ b, b < 3 → a ≠ b → (TX2 a).2.1 ≠ (TX2 b).2.1 := by decide +kernel
theorem tyX2_ok : ∀ k, k < 3 → parseFieldDescriptor (TX2 k).2.2.1 = some (tyX2 k) := by decide +kernel
abbrev cX2_init : ByteArray := prog_4_method_1_code
def yX2_init : MethodName := ⟨RX2, "<init>", "()V"⟩
abbrev cX2_clear : ByteArray := prog_4_method_2_code
def yX2_clear : MethodName := ⟨RX2, "clear", "()V"⟩
abbrev cX2_has : ByteArray := prog_4_method_3_code
def yX2_has : MethodName := ⟨RX2, "has", "(I)Z"⟩
abbrev cX2_areJoined : ByteArray := prog_4_method_4_code
def yX2_areJoined : MethodName := ⟨RX2, "areJoined", "(II)Z"⟩
abbrev cX2_addBorder : ByteArray := prog_4_method_5_code
def yX2_addBorder : MethodName := ⟨RX2, "addBorder", "(II)V"⟩
abbrev cX2_bitsOfRow : ByteArray := prog_4_method_6_code
def yX2_bitsOfRow : MethodName := ⟨RX2, "bitsOfRow", "(III)I"⟩
abbrev cX2_shortestRow : ByteArray := prog_4_method_7_code
def yX2_shortestRow : MethodName := ⟨RX2, "shortestRow", "(III)I"⟩
def RX3 : String := "PermitOffice$Lorries"
def TX3 : u_T := fun k => match k with
  | 0 => ("PermitOffice$Lorries", "homes", "[I", true)
  | 1 => ("PermitOffice$Lorries", "engines", "[I", true)
  | 2 => ("PermitOffice$Lorries", "tripNow", "[I", true)
  | 3 => ("PermitOffice$Lorries", "misuses", "[I", true)
  | 4 => ("PermitOffice$Lorries", "tripsDone", "[I", true)
  | _ => ("PermitOffice$Lorries", "count", "I", false)
def tyX3 : Nat → FieldType := fun k => match k with
  | 0 => .array .int
  | 1 => .array .int
  | 2 => .array .int
  | 3 => .array .int
  | 4 => .array .int
  | _ => .int
theorem nmX3 : ∀ a, a < 6 → ∀ b, b < 6 → a ≠ b → (TX3 a).2.1 ≠ (TX3 b).2.1 := by decide +kernel
theorem tyX3_ok : ∀ k, k < 6 → parseFieldDescriptor (TX3 k).2.2.1 = some (tyX3 k) := by decide +kernel
abbrev cX3_init : ByteArray := prog_5_method_1_code
def yX3_init : MethodName := ⟨RX3, "<init>", "()V"⟩
abbrev cX3_clear : ByteArray := prog_5_method_2_code
def yX3_clear : MethodName := ⟨RX3, "clear", "()V"⟩
abbrev cX3_add : ByteArray := prog_5_method_3_code
def yX3_add : MethodName := ⟨RX3, "add", "(II)V"⟩
abbrev cX3_has : ByteArray := prog_5_method_4_code
def yX3_has : MethodName := ⟨RX3, "has", "(I)Z"⟩
abbrev cX3_allMisuses : ByteArray := prog_5_method_5_code
def yX3_allMisuses : MethodName := ⟨RX3, "allMisuses", "()I"⟩
def RX4 : String := "PermitOffice$Permits"
def TX4 : u_T := fun k => match k with
  | 0 => ("PermitOffice$Permits", "kinds", "[I", true)
  | 1 => ("PermitOffice$Permits", "places", "[I", true)
  | 2 => ("PermitOffice$Permits", "engines", "[I", true)
  | 3 => ("PermitOffice$Permits", "costs", "[I", true)
  | 4 => ("PermitOffice$Permits", "pieces", "[I", true)
  | 5 => ("PermitOffice$Permits", "stays", "[I", true)
  | 6 => ("PermitOffice$Permits", "landBits", "[I", true)
  | 7 => ("PermitOffice$Permits", "holders", "[I", true)
  | 8 => ("PermitOffice$Permits", "spent", "[I", true)
  | 9 => ("PermitOffice$Permits", "lost", "[I", true)
  | 10 => ("PermitOffice$Permits", "back", "[I", true)
  | 11 => ("PermitOffice$Permits", "count", "I", false)
  | _ => ("PermitOffice$Permits", "reissue", "I", false)
def tyX4 : Nat → FieldType := fun k => match k with
  | 0 => .array .int
  | 1 => .array .int
  | 2 => .array .int
  | 3 => .array .int
  | 4 => .array .int
  | 5 => .array .int
  | 6 => .array .int
  | 7 => .array .int
  | 8 => .array .int
  | 9 => .array .int
  | 10 => .array .int
  | 11 => .int
  | _ => .int
theorem nmX4 : ∀ a, a < 13 → ∀ b, b < 13 → a ≠ b → (TX4 a).2.1 ≠ (TX4 b).2.1 := by decide +kernel
theorem tyX4_ok : ∀ k, k < 13 → parseFieldDescriptor (TX4 k).2.2.1 = some (tyX4 k) := by decide +kernel
abbrev cX4_init : ByteArray := prog_6_method_1_code
def yX4_init : MethodName := ⟨RX4, "<init>", "()V"⟩
abbrev cX4_clear : ByteArray := prog_6_method_2_code
def yX4_clear : MethodName := ⟨RX4, "clear", "()V"⟩
abbrev cX4_has : ByteArray := prog_6_method_3_code
def yX4_has : MethodName := ⟨RX4, "has", "(I)Z"⟩
abbrev cX4_add : ByteArray := prog_6_method_4_code
def yX4_add : MethodName := ⟨RX4, "add", "(I[II)V"⟩
abbrev cX4_isFor : ByteArray := prog_6_method_5_code
def yX4_isFor : MethodName := ⟨RX4, "isFor", "(II)Z"⟩
abbrev cX4_suitsEngine : ByteArray := prog_6_method_6_code
def yX4_suitsEngine : MethodName := ⟨RX4, "suitsEngine", "(II)Z"⟩
abbrev cX4_countOut : ByteArray := prog_6_method_7_code
def yX4_countOut : MethodName := ⟨RX4, "countOut", "(I)I"⟩
abbrev cX4_countReissued : ByteArray := prog_6_method_8_code
def yX4_countReissued : MethodName := ⟨RX4, "countReissued", "(I)I"⟩
abbrev cX4_countIn : ByteArray := prog_6_method_9_code
def yX4_countIn : MethodName := ⟨RX4, "countIn", "(I)I"⟩
abbrev cX4_countFree : ByteArray := prog_6_method_10_code
def yX4_countFree : MethodName := ⟨RX4, "countFree", "(I)I"⟩
abbrev cX4_giveUp : ByteArray := prog_6_method_11_code
def yX4_giveUp : MethodName := ⟨RX4, "giveUp", "(III)V"⟩
abbrev cX4_moveBack : ByteArray := prog_6_method_12_code
def yX4_moveBack : MethodName := ⟨RX4, "moveBack", "(II)V"⟩
def RX5 : String := "PermitOffice$Planner"
def TX5 : u_T := fun k => match k with
  | 0 => ("PermitOffice$Planner", "trips", "[I", true)
  | 1 => ("PermitOffice$Planner", "prices", "[J", true)
  | 2 => ("PermitOffice$Planner", "room", "[I", true)
  | 3 => ("PermitOffice$Planner", "left", "[I", true)
  | 4 => ("PermitOffice$Planner", "given", "[I", true)
  | 5 => ("PermitOffice$Planner", "dear", "[J", true)
  | 6 => ("PermitOffice$Planner", "mover", "[I", true)
  | 7 => ("PermitOffice$Planner", "waiting", "I", false)
  | _ => ("PermitOffice$Planner", "servedCount", "I", false)
def tyX5 : Nat → FieldType := fun k => match k with
  | 0 => .array .int
  | 1 => .array .long
  | 2 => .array .int
  | 3 => .array .int
  | 4 => .array .int
  | 5 => .array .long
  | 6 => .array .int
  | 7 => .int
  | _ => .int
theorem nmX5 : ∀ a, a < 9 → ∀ b, b < 9 → a ≠ b → (TX5 a).2.1 ≠ (TX5 b).2.1 := by decide +kernel
theorem tyX5_ok : ∀ k, k < 9 → parseFieldDescriptor (TX5 k).2.2.1 = some (tyX5 k) := by decide +kernel
abbrev cX5_init : ByteArray := prog_7_method_1_code
def yX5_init : MethodName := ⟨RX5, "<init>", "()V"⟩
abbrev cX5_setUp : ByteArray := prog_7_method_2_code
def yX5_setUp : MethodName := ⟨RX5, "setUp", "(LPermitOffice$Books;)V"⟩
abbrev cX5_setPrices : ByteArray := prog_7_method_3_code
def yX5_setPrices : MethodName := ⟨RX5, "setPrices", "(LPermitOffice$Books;IJ)V"⟩
abbrev cX5_addFree : ByteArray := prog_7_method_4_code
def yX5_addFree : MethodName := ⟨RX5, "addFree", "(II)V"⟩
abbrev cX5_solve : ByteArray := prog_7_method_5_code
def yX5_solve : MethodName := ⟨RX5, "solve", "()V"⟩
abbrev cX5_findChains : ByteArray := prog_7_method_6_code
def yX5_findChains : MethodName := ⟨RX5, "findChains", "(I)V"⟩
abbrev cX5_pushOn : ByteArray := prog_7_method_7_code
def yX5_pushOn : MethodName := ⟨RX5, "pushOn", "(I)Z"⟩
abbrev cX5_cheapestOpen : ByteArray := prog_7_method_8_code
def yX5_cheapestOpen : MethodName := ⟨RX5, "cheapestOpen", "()I"⟩
abbrev cX5_moveAlong : ByteArray := prog_7_method_9_code
def yX5_moveAlong : MethodName := ⟨RX5, "moveAlong", "(II)V"⟩
abbrev cX5_costTogether : ByteArray := prog_7_method_10_code
def yX5_costTogether : MethodName := ⟨RX5, "costTogether", "(LPermitOffice$Permits;)I"⟩
abbrev cX5_typeFor : ByteArray := prog_7_method_11_code
def yX5_typeFor : MethodName := ⟨RX5, "typeFor", "(I)I"⟩
def RX6 : String := "PermitOffice$Reader"
def TX6 : u_T := fun k => match k with
  | 0 => ("PermitOffice$Reader", "tokens", "LPermitOffice$Tokens;", true)
  | 1 => ("PermitOffice$Reader", "numbers", "[I", true)
  | 2 => ("PermitOffice$Reader", "sort", "I", false)
  | 3 => ("PermitOffice$Reader", "field", "I", false)
  | 4 => ("PermitOffice$Reader", "typeKind", "I", false)
  | 5 => ("PermitOffice$Reader", "landBits", "I", false)
  | 6 => ("PermitOffice$Reader", "lines", "I", false)
  | 7 => ("PermitOffice$Reader", "borderLines", "I", false)
  | 8 => ("PermitOffice$Reader", "faultKind", "I", false)
  | _ => ("PermitOffice$Reader", "faultPlace", "I", false)
def tyX6 : Nat → FieldType := fun k => match k with
  | 0 => .object "PermitOffice$Tokens"
  | 1 => .array .int
  | 2 => .int
  | 3 => .int
  | 4 => .int
  | 5 => .int
  | 6 => .int
  | 7 => .int
  | 8 => .int
  | _ => .int
theorem nmX6 : ∀ a, a < 10 → ∀ b, b < 10 → a ≠ b → (TX6 a).2.1 ≠ (TX6 b).2.1 := by decide +kernel
theorem tyX6_ok : ∀ k, k < 10 → parseFieldDescriptor (TX6 k).2.2.1 = some (tyX6 k) := by decide +kernel
abbrev cX6_init : ByteArray := prog_8_method_1_code
def yX6_init : MethodName := ⟨RX6, "<init>", "(LPermitOffice$Tokens;)V"⟩
abbrev cX6_readInto : ByteArray := prog_8_method_2_code
def yX6_readInto : MethodName := ⟨RX6, "readInto", "(LPermitOffice$Books;)Z"⟩
abbrev cX6_takeToken : ByteArray := prog_8_method_3_code
def yX6_takeToken : MethodName := ⟨RX6, "takeToken", "(LPermitOffice$Books;)Z"⟩
abbrev cX6_beginLine : ByteArray := prog_8_method_4_code
def yX6_beginLine : MethodName := ⟨RX6, "beginLine", "(LPermitOffice$Books;)Z"⟩
abbrev cX6_sortOfWord : ByteArray := prog_8_method_5_code
def yX6_sortOfWord : MethodName := ⟨RX6, "sortOfWord", "()I"⟩
abbrev cX6_takeKind : ByteArray := prog_8_method_6_code
def yX6_takeKind : MethodName := ⟨RX6, "takeKind", "()Z"⟩
abbrev cX6_isWhole : ByteArray := prog_8_method_7_code
def yX6_isWhole : MethodName := ⟨RX6, "isWhole", "()Z"⟩
abbrev cX6_meaningNow : ByteArray := prog_8_method_8_code
def yX6_meaningNow : MethodName := ⟨RX6, "meaningNow", "()I"⟩
abbrev cX6_takeNumber : ByteArray := prog_8_method_9_code
def yX6_takeNumber : MethodName := ⟨RX6, "takeNumber", "(LPermitOffice$Lands;)Z"⟩
abbrev cX6_isInRange : ByteArray := prog_8_method_10_code
def yX6_isInRange : MethodName := ⟨RX6, "isInRange", "(II)Z"⟩
abbrev cX6_putNumber : ByteArray := prog_8_method_11_code
def yX6_putNumber : MethodName := ⟨RX6, "putNumber", "(I)V"⟩
abbrev cX6_endLine : ByteArray := prog_8_method_12_code
def yX6_endLine : MethodName := ⟨RX6, "endLine", "(LPermitOffice$Books;)Z"⟩
abbrev cX6_refuse : ByteArray := prog_8_method_13_code
def yX6_refuse : MethodName := ⟨RX6, "refuse", "(I)Z"⟩
def RX7 : String := "PermitOffice$Tape"
def TX7 : u_T := fun k => match k with
  | 0 => ("PermitOffice$Tape", "bytes", "[B", true)
  | _ => ("PermitOffice$Tape", "length", "I", false)
def tyX7 : Nat → FieldType := fun k => match k with
  | 0 => .array .byte
  | _ => .int
theorem nmX7 : ∀ a, a < 2 → ∀ b, b < 2 → a ≠ b → (TX7 a).2.1 ≠ (TX7 b).2.1 := by decide +kernel
theorem tyX7_ok : ∀ k, k < 2 → parseFieldDescriptor (TX7 k).2.2.1 = some (tyX7 k) := by decide +kernel
abbrev cX7_init : ByteArray := prog_9_method_1_code
def yX7_init : MethodName := ⟨RX7, "<init>", "()V"⟩
abbrev cX7_putNumber : ByteArray := prog_9_method_2_code
def yX7_putNumber : MethodName := ⟨RX7, "putNumber", "(I)V"⟩
abbrev cX7_at : ByteArray := prog_9_method_3_code
def yX7_at : MethodName := ⟨RX7, "at", "(I)I"⟩
def RX8 : String := "PermitOffice$Tokens"
def TX8 : u_T := fun k => match k with
  | 0 => ("PermitOffice$Tokens", "tape", "LPermitOffice$Tape;", true)
  | 1 => ("PermitOffice$Tokens", "kind", "I", false)
  | 2 => ("PermitOffice$Tokens", "start", "I", false)
  | 3 => ("PermitOffice$Tokens", "behind", "I", false)
  | _ => ("PermitOffice$Tokens", "value", "I", false)
def tyX8 : Nat → FieldType := fun k => match k with
  | 0 => .object "PermitOffice$Tape"
  | 1 => .int
  | 2 => .int
  | 3 => .int
  | _ => .int
theorem nmX8 : ∀ a, a < 5 → ∀ b, b < 5 → a ≠ b → (TX8 a).2.1 ≠ (TX8 b).2.1 := by decide +kernel
theorem tyX8_ok : ∀ k, k < 5 → parseFieldDescriptor (TX8 k).2.2.1 = some (tyX8 k) := by decide +kernel
abbrev cX8_init : ByteArray := prog_10_method_1_code
def yX8_init : MethodName := ⟨RX8, "<init>", "(LPermitOffice$Tape;)V"⟩
abbrev cX8_restart : ByteArray := prog_10_method_2_code
def yX8_restart : MethodName := ⟨RX8, "restart", "()V"⟩
abbrev cX8_isTooLong : ByteArray := prog_10_method_3_code
def yX8_isTooLong : MethodName := ⟨RX8, "isTooLong", "()Z"⟩
abbrev cX8_advance : ByteArray := prog_10_method_4_code
def yX8_advance : MethodName := ⟨RX8, "advance", "()V"⟩
abbrev cX8_isWord : ByteArray := prog_10_method_5_code
def yX8_isWord : MethodName := ⟨RX8, "isWord", "(Ljava/lang/String;)Z"⟩
abbrev cX8_skipBlanks : ByteArray := prog_10_method_6_code
def yX8_skipBlanks : MethodName := ⟨RX8, "skipBlanks", "(I)I"⟩
abbrev cX8_readRun : ByteArray := prog_10_method_7_code
def yX8_readRun : MethodName := ⟨RX8, "readRun", "()V"⟩
abbrev cX8_isLetter : ByteArray := prog_10_method_8_code
def yX8_isLetter : MethodName := ⟨RX8, "isLetter", "(I)Z"⟩
abbrev cX8_isDigit : ByteArray := prog_10_method_9_code
def yX8_isDigit : MethodName := ⟨RX8, "isDigit", "(I)Z"⟩
def RX9 : String := "PermitOffice$Trips"
def TX9 : u_T := fun k => match k with
  | 0 => ("PermitOffice$Trips", "ofLorry", "[I", true)
  | 1 => ("PermitOffice$Trips", "sizes", "[I", true)
  | 2 => ("PermitOffice$Trips", "rows", "[I", true)
  | 3 => ("PermitOffice$Trips", "landBits", "[I", true)
  | 4 => ("PermitOffice$Trips", "states", "[I", true)
  | 5 => ("PermitOffice$Trips", "byType", "[I", true)
  | 6 => ("PermitOffice$Trips", "outDays", "[I", true)
  | 7 => ("PermitOffice$Trips", "doneDays", "[I", true)
  | 8 => ("PermitOffice$Trips", "late", "[I", true)
  | _ => ("PermitOffice$Trips", "count", "I", false)
def tyX9 : Nat → FieldType := fun k => match k with
  | 0 => .array .int
  | 1 => .array .int
  | 2 => .array .int
  | 3 => .array .int
  | 4 => .array .int
  | 5 => .array .int
  | 6 => .array .int
  | 7 => .array .int
  | 8 => .array .int
  | _ => .int
theorem nmX9 : ∀ a, a < 10 → ∀ b, b < 10 → a ≠ b → (TX9 a).2.1 ≠ (TX9 b).2.1 := by decide +kernel
theorem tyX9_ok : ∀ k, k < 10 → parseFieldDescriptor (TX9 k).2.2.1 = some (tyX9 k) := by decide +kernel
abbrev cX9_init : ByteArray := prog_11_method_1_code
def yX9_init : MethodName := ⟨RX9, "<init>", "()V"⟩
abbrev cX9_has : ByteArray := prog_11_method_2_code
def yX9_has : MethodName := ⟨RX9, "has", "(I)Z"⟩
abbrev cX9_add : ByteArray := prog_11_method_3_code
def yX9_add : MethodName := ⟨RX9, "add", "(IIII)I"⟩
abbrev cX9_landOf : ByteArray := prog_11_method_4_code
def yX9_landOf : MethodName := ⟨RX9, "landOf", "(II)I"⟩
abbrev cX9_countIn : ByteArray := prog_11_method_5_code
def yX9_countIn : MethodName := ⟨RX9, "countIn", "(I)I"⟩
def RX10 : String := "PermitOffice"
def TX10 : u_T := fun k => match k with
  | 0 => ("PermitOffice", "tape", "LPermitOffice$Tape;", true)
  | 1 => ("PermitOffice", "reader", "LPermitOffice$Reader;", true)
  | 2 => ("PermitOffice", "planner", "LPermitOffice$Planner;", true)
  | 3 => ("PermitOffice", "books", "LPermitOffice$Books;", false)
  | 4 => ("PermitOffice", "draft", "LPermitOffice$Books;", false)
  | _ => ("PermitOffice", "latestFault", "I", false)
def tyX10 : Nat → FieldType := fun k => match k with
  | 0 => .object "PermitOffice$Tape"
  | 1 => .object "PermitOffice$Reader"
  | 2 => .object "PermitOffice$Planner"
  | 3 => .object "PermitOffice$Books"
  | 4 => .object "PermitOffice$Books"
  | _ => .int
theorem nmX10 : ∀ a, a < 6 → ∀ b, b < 6 → a ≠ b → (TX10 a).2.1 ≠ (TX10 b).2.1 := by decide +kernel
theorem tyX10_ok : ∀ k, k < 6 → parseFieldDescriptor (TX10 k).2.2.1 = some (tyX10 k) := by decide +kernel
abbrev cX10_init : ByteArray := prog_1_method_1_code
def yX10_init : MethodName := ⟨RX10, "<init>", "()V"⟩
abbrev cX10_feed : ByteArray := prog_1_method_2_code
def yX10_feed : MethodName := ⟨RX10, "feed", "(IIIII)I"⟩
abbrev cX10_end : ByteArray := prog_1_method_3_code
def yX10_end : MethodName := ⟨RX10, "end", "(I)Z"⟩
abbrev cX10_text : ByteArray := prog_1_method_4_code
def yX10_text : MethodName := ⟨RX10, "text", "()I"⟩
abbrev cX10_fault : ByteArray := prog_1_method_5_code
def yX10_fault : MethodName := ⟨RX10, "fault", "()I"⟩
abbrev cX10_now : ByteArray := prog_1_method_6_code
def yX10_now : MethodName := ⟨RX10, "now", "(I)I"⟩
abbrev cX10_type : ByteArray := prog_1_method_7_code
def yX10_type : MethodName := ⟨RX10, "type", "(II)I"⟩
abbrev cX10_ledger : ByteArray := prog_1_method_8_code
def yX10_ledger : MethodName := ⟨RX10, "ledger", "(II)I"⟩
abbrev cX10_lorry : ByteArray := prog_1_method_9_code
def yX10_lorry : MethodName := ⟨RX10, "lorry", "(II)I"⟩
abbrev cX10_trip : ByteArray := prog_1_method_10_code
def yX10_trip : MethodName := ⟨RX10, "trip", "(II)I"⟩
abbrev cX10_fits : ByteArray := prog_1_method_11_code
def yX10_fits : MethodName := ⟨RX10, "fits", "(II)Z"⟩
abbrev cX10_plan : ByteArray := prog_1_method_12_code
def yX10_plan : MethodName := ⟨RX10, "plan", "(I)I"⟩
abbrev cX10_served : ByteArray := prog_1_method_13_code
def yX10_served : MethodName := ⟨RX10, "served", "(II)I"⟩
abbrev cX10_needs : ByteArray := prog_1_method_14_code
def yX10_needs : MethodName := ⟨RX10, "needs", "(I)I"⟩
abbrev cX10_free : ByteArray := prog_1_method_15_code
def yX10_free : MethodName := ⟨RX10, "free", "(II)I"⟩
abbrev cX10_shortest : ByteArray := prog_1_method_16_code
def yX10_shortest : MethodName := ⟨RX10, "shortest", "(II)I"⟩
abbrev cX10_lawful : ByteArray := prog_1_method_17_code
def yX10_lawful : MethodName := ⟨RX10, "lawful", "(II)I"⟩
abbrev cX10_ask : ByteArray := prog_1_method_18_code
def yX10_ask : MethodName := ⟨RX10, "ask", "(III)I"⟩
abbrev cX10_drop : ByteArray := prog_1_method_19_code
def yX10_drop : MethodName := ⟨RX10, "drop", "(I)Z"⟩
abbrev cX10_assign : ByteArray := prog_1_method_20_code
def yX10_assign : MethodName := ⟨RX10, "assign", "()I"⟩
abbrev cX10_home : ByteArray := prog_1_method_21_code
def yX10_home : MethodName := ⟨RX10, "home", "(I)I"⟩
abbrev cX10_stop : ByteArray := prog_1_method_22_code
def yX10_stop : MethodName := ⟨RX10, "stop", "(II)I"⟩
abbrev cX10_handBack : ByteArray := prog_1_method_23_code
def yX10_handBack : MethodName := ⟨RX10, "handBack", "(II)I"⟩
abbrev cX10_pass : ByteArray := prog_1_method_24_code
def yX10_pass : MethodName := ⟨RX10, "pass", "(I)I"⟩
abbrev cX10_undo : ByteArray := prog_1_method_25_code
def yX10_undo : MethodName := ⟨RX10, "undo", "()I"⟩
def RX11 : String := "PermitOfficeModel"
def TX11 : u_T := fun k => match k with
  | 0 => ("PermitOfficeModel", "thrown", "I", false)
  | 1 => ("PermitOfficeModel", "tape", "[I", true)
  | 2 => ("PermitOfficeModel", "taped", "I", false)
  | 3 => ("PermitOfficeModel", "size", "I", false)
  | 4 => ("PermitOfficeModel", "to", "I", false)
  | 5 => ("PermitOfficeModel", "from", "I", false)
  | 6 => ("PermitOfficeModel", "sort", "I", false)
  | 7 => ("PermitOfficeModel", "number", "I", false)
  | 8 => ("PermitOfficeModel", "fault", "I", false)
  | 9 => ("PermitOfficeModel", "place", "I", false)
  | 10 => ("PermitOfficeModel", "word", "J", false)
  | 11 => ("PermitOfficeModel", "now", "[I", true)
  | 12 => ("PermitOfficeModel", "read", "[I", true)
  | 13 => ("PermitOfficeModel", "snaps", "[I", true)
  | 14 => ("PermitOfficeModel", "snapMany", "I", false)
  | 15 => ("PermitOfficeModel", "got", "I", false)
  | 16 => ("PermitOfficeModel", "free", "[I", true)
  | 17 => ("PermitOfficeModel", "used", "[I", true)
  | 18 => ("PermitOfficeModel", "given", "[I", true)
  | 19 => ("PermitOfficeModel", "cameFrom", "[I", true)
  | 20 => ("PermitOfficeModel", "queue", "[I", true)
  | 21 => ("PermitOfficeModel", "settled", "[Z", true)
  | 22 => ("PermitOfficeModel", "servedMany", "I", false)
  | 23 => ("PermitOfficeModel", "servedCost", "I", false)
  | _ => ("PermitOfficeModel", "way", "[I", true)
def tyX11 : Nat → FieldType := fun k => match k with
  | 0 => .int
  | 1 => .array .int
  | 2 => .int
  | 3 => .int
  | 4 => .int
  | 5 => .int
  | 6 => .int
  | 7 => .int
  | 8 => .int
  | 9 => .int
  | 10 => .long
  | 11 => .array .int
  | 12 => .array .int
  | 13 => .array .int
  | 14 => .int
  | 15 => .int
  | 16 => .array .int
  | 17 => .array .int
  | 18 => .array .int
  | 19 => .array .int
  | 20 => .array .int
  | 21 => .array .boolean
  | 22 => .int
  | 23 => .int
  | _ => .array .int
theorem nmX11 : ∀ a, a < 25 → ∀ b, b < 25 → a ≠ b → (TX11 a).2.1 ≠ (TX11 b).2.1 := by decide +kernel
theorem tyX11_ok : ∀ k, k < 25 → parseFieldDescriptor (TX11 k).2.2.1 = some (tyX11 k) := by decide +kernel
abbrev cX11_thrown : ByteArray := prog_13_method_1_code
def yX11_thrown : MethodName := ⟨RX11, "thrown", "()I"⟩
abbrev cX11_refuse : ByteArray := prog_13_method_2_code
def yX11_refuse : MethodName := ⟨RX11, "refuse", "()I"⟩
abbrev cX11_isIn : ByteArray := prog_13_method_3_code
def yX11_isIn : MethodName := ⟨RX11, "isIn", "(III)Z"⟩
abbrev cX11_has : ByteArray := prog_13_method_4_code
def yX11_has : MethodName := ⟨RX11, "has", "(II)Z"⟩
abbrev cX11_lays : ByteArray := prog_13_method_5_code
def yX11_lays : MethodName := ⟨RX11, "lays", "(I)V"⟩
abbrev cX11_feed : ByteArray := prog_13_method_6_code
def yX11_feed : MethodName := ⟨RX11, "feed", "(IIIII)I"⟩
abbrev cX11_end : ByteArray := prog_13_method_7_code
def yX11_end : MethodName := ⟨RX11, "end", "(I)Z"⟩
abbrev cX11_tapeAt : ByteArray := prog_13_method_8_code
def yX11_tapeAt : MethodName := ⟨RX11, "tapeAt", "(I)I"⟩
abbrev cX11_isDigit : ByteArray := prog_13_method_9_code
def yX11_isDigit : MethodName := ⟨RX11, "isDigit", "(I)Z"⟩
abbrev cX11_isLetter : ByteArray := prog_13_method_10_code
def yX11_isLetter : MethodName := ⟨RX11, "isLetter", "(I)Z"⟩
abbrev cX11_go : ByteArray := prog_13_method_11_code
def yX11_go : MethodName := ⟨RX11, "go", "()V"⟩
abbrev cX11_four : ByteArray := prog_13_method_12_code
def yX11_four : MethodName := ⟨RX11, "four", "(IIII)J"⟩
abbrev cX11_five : ByteArray := prog_13_method_13_code
def yX11_five : MethodName := ⟨RX11, "five", "(IIIII)J"⟩
abbrev cX11_six : ByteArray := prog_13_method_14_code
def yX11_six : MethodName := ⟨RX11, "six", "(IIIIII)J"⟩
abbrev cX11_isWord : ByteArray := prog_13_method_15_code
def yX11_isWord : MethodName := ⟨RX11, "isWord", "(J)Z"⟩
abbrev cX11_bad : ByteArray := prog_13_method_16_code
def yX11_bad : MethodName := ⟨RX11, "bad", "(I)Z"⟩
abbrev cX11_init : ByteArray := prog_13_method_17_code
def yX11_init : MethodName := ⟨RX11, "<init>", "()V"⟩
abbrev cX11_told : ByteArray := prog_13_method_18_code
def yX11_told : MethodName := ⟨RX11, "told", "(III)Z"⟩
abbrev cX11_land : ByteArray := prog_13_method_19_code
def yX11_land : MethodName := ⟨RX11, "land", "(I)Z"⟩
abbrev cX11_readLands : ByteArray := prog_13_method_20_code
def yX11_readLands : MethodName := ⟨RX11, "readLands", "()Z"⟩
abbrev cX11_readBorder : ByteArray := prog_13_method_21_code
def yX11_readBorder : MethodName := ⟨RX11, "readBorder", "()Z"⟩
abbrev cX11_readKind : ByteArray := prog_13_method_22_code
def yX11_readKind : MethodName := ⟨RX11, "readKind", "(I)Z"⟩
abbrev cX11_readType : ByteArray := prog_13_method_23_code
def yX11_readType : MethodName := ⟨RX11, "readType", "()Z"⟩
abbrev cX11_readLorry : ByteArray := prog_13_method_24_code
def yX11_readLorry : MethodName := ⟨RX11, "readLorry", "()Z"⟩
abbrev cX11_readLine : ByteArray := prog_13_method_25_code
def yX11_readLine : MethodName := ⟨RX11, "readLine", "(Z)Z"⟩
abbrev cX11_readEnd : ByteArray := prog_13_method_26_code
def yX11_readEnd : MethodName := ⟨RX11, "readEnd", "()Z"⟩
abbrev cX11_text : ByteArray := prog_13_method_27_code
def yX11_text : MethodName := ⟨RX11, "text", "()I"⟩
abbrev cX11_fault : ByteArray := prog_13_method_28_code
def yX11_fault : MethodName := ⟨RX11, "fault", "()I"⟩
abbrev cX11_isLand : ByteArray := prog_13_method_29_code
def yX11_isLand : MethodName := ⟨RX11, "isLand", "(I)Z"⟩
abbrev cX11_isType : ByteArray := prog_13_method_30_code
def yX11_isType : MethodName := ⟨RX11, "isType", "(I)Z"⟩
abbrev cX11_isLorry : ByteArray := prog_13_method_31_code
def yX11_isLorry : MethodName := ⟨RX11, "isLorry", "(I)Z"⟩
abbrev cX11_isTrip : ByteArray := prog_13_method_32_code
def yX11_isTrip : MethodName := ⟨RX11, "isTrip", "(I)Z"⟩
abbrev cX11_typed : ByteArray := prog_13_method_33_code
def yX11_typed : MethodName := ⟨RX11, "typed", "(II)I"⟩
abbrev cX11_its : ByteArray := prog_13_method_34_code
def yX11_its : MethodName := ⟨RX11, "its", "(II)I"⟩
abbrev cX11_lorryOf : ByteArray := prog_13_method_35_code
def yX11_lorryOf : MethodName := ⟨RX11, "lorryOf", "(II)I"⟩
abbrev cX11_outBy : ByteArray := prog_13_method_36_code
def yX11_outBy : MethodName := ⟨RX11, "outBy", "(I)I"⟩
abbrev cX11_piecesOut : ByteArray := prog_13_method_37_code
def yX11_piecesOut : MethodName := ⟨RX11, "piecesOut", "(I)I"⟩
abbrev cX11_piecesIn : ByteArray := prog_13_method_38_code
def yX11_piecesIn : MethodName := ⟨RX11, "piecesIn", "(I)I"⟩
abbrev cX11_freeOf : ByteArray := prog_13_method_39_code
def yX11_freeOf : MethodName := ⟨RX11, "freeOf", "(I)I"⟩
abbrev cX11_having : ByteArray := prog_13_method_40_code
def yX11_having : MethodName := ⟨RX11, "having", "(I)I"⟩
abbrev cX11_borders : ByteArray := prog_13_method_41_code
def yX11_borders : MethodName := ⟨RX11, "borders", "()I"⟩
abbrev cX11_misuses : ByteArray := prog_13_method_42_code
def yX11_misuses : MethodName := ⟨RX11, "misuses", "()I"⟩
abbrev cX11_now : ByteArray := prog_13_method_43_code
def yX11_now : MethodName := ⟨RX11, "now", "(I)I"⟩
abbrev cX11_type : ByteArray := prog_13_method_44_code
def yX11_type : MethodName := ⟨RX11, "type", "(II)I"⟩
abbrev cX11_ledger : ByteArray := prog_13_method_45_code
def yX11_ledger : MethodName := ⟨RX11, "ledger", "(II)I"⟩
abbrev cX11_tripOf : ByteArray := prog_13_method_46_code
def yX11_tripOf : MethodName := ⟨RX11, "tripOf", "(I)I"⟩
abbrev cX11_doneBy : ByteArray := prog_13_method_47_code
def yX11_doneBy : MethodName := ⟨RX11, "doneBy", "(I)I"⟩
abbrev cX11_lorry : ByteArray := prog_13_method_48_code
def yX11_lorry : MethodName := ⟨RX11, "lorry", "(II)I"⟩
abbrev cX11_trip : ByteArray := prog_13_method_49_code
def yX11_trip : MethodName := ⟨RX11, "trip", "(II)I"⟩
abbrev cX11_wayOf : ByteArray := prog_13_method_50_code
def yX11_wayOf : MethodName := ⟨RX11, "wayOf", "(I)I"⟩
abbrev cX11_isFit : ByteArray := prog_13_method_51_code
def yX11_isFit : MethodName := ⟨RX11, "isFit", "(II)Z"⟩
abbrev cX11_fits : ByteArray := prog_13_method_52_code
def yX11_fits : MethodName := ⟨RX11, "fits", "(II)Z"⟩
abbrev cX11_laysFree : ByteArray := prog_13_method_53_code
def yX11_laysFree : MethodName := ⟨RX11, "laysFree", "()V"⟩
abbrev cX11_isOpen : ByteArray := prog_13_method_54_code
def yX11_isOpen : MethodName := ⟨RX11, "isOpen", "(I)Z"⟩
abbrev cX11_finds : ByteArray := prog_13_method_55_code
def yX11_finds : MethodName := ⟨RX11, "finds", "()I"⟩
abbrev cX11_reaches : ByteArray := prog_13_method_56_code
def yX11_reaches : MethodName := ⟨RX11, "reaches", "(II)I"⟩
abbrev cX11_serves : ByteArray := prog_13_method_57_code
def yX11_serves : MethodName := ⟨RX11, "serves", "()V"⟩
abbrev cX11_opensAll : ByteArray := prog_13_method_58_code
def yX11_opensAll : MethodName := ⟨RX11, "opensAll", "()V"⟩
abbrev cX11_isAsGood : ByteArray := prog_13_method_59_code
def yX11_isAsGood : MethodName := ⟨RX11, "isAsGood", "(IIII)Z"⟩
abbrev cX11_laysPlan : ByteArray := prog_13_method_60_code
def yX11_laysPlan : MethodName := ⟨RX11, "laysPlan", "()V"⟩
abbrev cX11_plan : ByteArray := prog_13_method_61_code
def yX11_plan : MethodName := ⟨RX11, "plan", "(I)I"⟩
abbrev cX11_servedWith : ByteArray := prog_13_method_62_code
def yX11_servedWith : MethodName := ⟨RX11, "servedWith", "(II)I"⟩
abbrev cX11_served : ByteArray := prog_13_method_63_code
def yX11_served : MethodName := ⟨RX11, "served", "(II)I"⟩
abbrev cX11_needs : ByteArray := prog_13_method_64_code
def yX11_needs : MethodName := ⟨RX11, "needs", "(I)I"⟩
abbrev cX11_free : ByteArray := prog_13_method_65_code
def yX11_free : MethodName := ⟨RX11, "free", "(II)I"⟩
abbrev cX11_shortest : ByteArray := prog_13_method_66_code
def yX11_shortest : MethodName := ⟨RX11, "shortest", "(II)I"⟩
abbrev cX11_whyStopped : ByteArray := prog_13_method_67_code
def yX11_whyStopped : MethodName := ⟨RX11, "whyStopped", "(II)I"⟩
abbrev cX11_lawful : ByteArray := prog_13_method_68_code
def yX11_lawful : MethodName := ⟨RX11, "lawful", "(II)I"⟩
abbrev cX11_snap : ByteArray := prog_13_method_69_code
def yX11_snap : MethodName := ⟨RX11, "snap", "()V"⟩
abbrev cX11_canGo : ByteArray := prog_13_method_70_code
def yX11_canGo : MethodName := ⟨RX11, "canGo", "(III)Z"⟩
abbrev cX11_ask : ByteArray := prog_13_method_71_code
def yX11_ask : MethodName := ⟨RX11, "ask", "(III)I"⟩
abbrev cX11_drop : ByteArray := prog_13_method_72_code
def yX11_drop : MethodName := ⟨RX11, "drop", "(I)Z"⟩
abbrev cX11_assign : ByteArray := prog_13_method_73_code
def yX11_assign : MethodName := ⟨RX11, "assign", "()I"⟩
abbrev cX11_home : ByteArray := prog_13_method_74_code
def yX11_home : MethodName := ⟨RX11, "home", "(I)I"⟩
abbrev cX11_stop : ByteArray := prog_13_method_75_code
def yX11_stop : MethodName := ⟨RX11, "stop", "(II)I"⟩
abbrev cX11_handBack : ByteArray := prog_13_method_76_code
def yX11_handBack : MethodName := ⟨RX11, "handBack", "(II)I"⟩
abbrev cX11_pass : ByteArray := prog_13_method_77_code
def yX11_pass : MethodName := ⟨RX11, "pass", "(I)I"⟩
abbrev cX11_undo : ByteArray := prog_13_method_78_code
def yX11_undo : MethodName := ⟨RX11, "undo", "()I"⟩
end
section
/-! THE ABSTRACT MACHINE. One heap of numbers for the class, the reference and the law's row: h.1 block cell slot (ints), h.2 (longs).
Blocks: 0 office, 1 and 2 the two Books, 3 the reference, 4 the law's row. -/
def gtbl : List Cond := lw_tbl.filter goodWord
theorem memI {w : Cond} (i : Nat) (h : lw_tbl[i]? = some w) (hg : goodWord w = true) : w ∈ gtbl := List.mem_filter.mpr ⟨List.mem_of_getElem? h, hg⟩
abbrev AH : Type := (Nat → Nat → Nat → Int32) × (Nat → Nat → Nat → Int64)
def ui (h : AH) (b k j : Nat) (v : Int32) : AH := (fun b' k' j' => if b' = b ∧ k' = k ∧ j' = j then v else h.1 b' k' j', h.2)
def ul (h : AH) (b k j : Nat) (v : Int64) : AH := (h.1, fun b' k' j' => if b' = b ∧ k' = k ∧ j' = j then v else h.2 b' k' j')
abbrev classes : List vw_C := [(RX0, TX0, 5), (RX1, TX1, 6), (RX2, TX2, 3), (RX3, TX3, 6), (RX4, TX4, 13), (RX5, TX5, 9), (RX6, TX6, 10), (RX7, TX7, 2), (RX8, TX8, 5), (RX9, TX9, 10), (RX10, TX10, 6), (RX11, TX11, 25)]
/-- the cells of a block: (0, class) an object, (1, n) ints, (2, n) bytes, (3, n) longs, (4, n) booleans -/
def k0l : List (Nat × Nat) := [(0, 10), (0, 7), (2, 740), (0, 8), (0, 6), (1, 5), (0, 5), (1, 8), (3, 56), (1, 7), (1, 7), (1, 8), (3, 7), (1, 7)]
def kBl : List (Nat × Nat) := [(0, 1), (0, 2), (1, 8), (0, 4), (1, 6), (1, 6), (1, 6), (1, 6), (1, 6), (1, 6), (1, 6), (1, 6), (1, 6), (1, 6), (1, 6), (0, 3), (1, 8), (1, 8), (1, 8), (1, 8), (1, 8), (0, 9), (1, 40), (1, 40), (1, 40), (1, 40), (1, 40), (1, 40), (1, 40), (1, 40), (1, 40), (0, 0), (1, 10), (1, 10), (1, 10)]
def kMl : List (Nat × Nat) := [(0, 11), (1, 740), (1, 631), (1, 631), (1, 6310), (1, 6), (1, 6), (1, 40), (1, 6), (1, 6), (4, 40), (1, 6)]
def kLl : List (Nat × Nat) := [(3, 1)]
def kd (b k : Nat) : Option (Nat × Nat) := match b with
  | 0 => k0l[k]?
  | 1 => kBl[k]?
  | 2 => kBl[k]?
  | 3 => kMl[k]?
  | 4 => kLl[k]?
  | _ => none
def isB (b : Nat) : Prop := b = 1 ∨ b = 2
theorem kdB {b k : Nat} {q : Nat × Nat} (hb : isB b) (h : kBl[k]? = some q) : kd b k = some q := by
  rcases hb with rfl | rfl <;> exact h
/-- the fields of a class: 0 an int, 1 a long, 2 one of the two Books (told by its block), t + 3 the cell t of the same block -/
def fkl : List (List Nat) := [[35, 36, 37, 0, 0], [4, 6, 18, 24, 34, 0], [5, 0, 0], [19, 20, 21, 22, 23, 0], [7, 8, 9, 10, 11, 12, 13, 14, 15, 16, 17, 0, 0], [10, 11, 12, 13, 14, 15, 16, 0, 0], [6, 8, 0, 0, 0, 0, 0, 0, 0, 0], [5, 0], [4, 0, 0, 0, 0], [25, 26, 27, 28, 29, 30, 31, 32, 33, 0], [4, 7, 9, 2, 2, 0], [0, 4, 0, 0, 0, 0, 0, 0, 0, 0, 1, 5, 6, 7, 0, 0, 8, 9, 10, 11, 12, 13, 0, 0, 14]]
def fk (ci j : Nat) : Nat := (fkl.getD ci []).getD j 0
def nf (ci : Nat) : Nat := (fkl.getD ci []).length
/-- the ghosts: addresses, where the law's own heap begins, class numbers, array classes, addresses of what was there before -/
abbrev GG : Type := (Nat → Nat → Nat) × Nat × va_G × (ClassId × ClassId × ClassId × ClassId) × (Nat → Nat)
def fval (ad : Nat → Nat → Nat) (h : AH) (b k ci j : Nat) : Value := match fk ci j with
  | 0 => .int (h.1 b k j)
  | 1 => .long (h.2 b k j)
  | 2 => .ref (ad (h.1 b k j).toNatClampNeg 0)
  | t + 3 => .ref (ad b t)
def fv (ad : Nat → Nat → Nat) (h : AH) (b k ci : Nat) : List Value := (List.range (nf ci)).map (fval ad h b k ci)
def cellE (ad : Nat → Nat → Nat) (c : ClassId × ClassId × ClassId × ClassId) (h : AH) (b k : Nat) (q : Nat × Nat) : va_E := match q.1 with
  | 0 => .inr (q.2, fv ad h b k q.2)
  | 1 => .inl (c.1, q.2, .inl (h.1 b k))
  | 2 => .inl (c.2.1, q.2, .inl (h.1 b k))
  | 3 => .inl (c.2.2.1, q.2, .inr (.inl (h.2 b k)))
  | _ => .inl (c.2.2.2, q.2, .inl (h.1 b k))
def Alo (G : GG) : Nat → Prop := fun q => G.2.1 ≤ q
def tysG (G : GG) : List (ClassId × FieldType) := [(G.2.2.2.1.1, .int), (G.2.2.2.1.2.1, .byte), (G.2.2.2.1.2.2.1, .long), (G.2.2.2.1.2.2.2, .boolean)]
def adI (G : GG) : Prop := (∀ b k q b' k' q', kd b k = some q → kd b' k' = some q' → G.1 b k = G.1 b' k' → b = b' ∧ k = k') ∧ ∀ b k q, kd b k = some q → G.2.1 ≤ G.1 b k
def Wd (G : GG) (h : AH) (H : Heap) : Prop := adI G ∧ ∀ b k q, kd b k = some q → va_at G.2.2.1 classes (G.1 b k, cellE G.1 G.2.2.2.1 h b k q) H
/-- what stood there before: the statics and the texts -/
def lstV : List Int32 := [1, 1, 2, 1, 0, 0, 0]
def mstV : List Int32 := [8, 9, 9, 6, 99, 9, 99]
def ownS (i : Nat) : String := if i < 7 then RX6 else RX10
def idxS : List Nat := [106, 111, 113, 115, 117, 119, 121, 175, 193, 288]
def txtS : List String := ["lands", "border", "type", "lorry", "single", "multi", "shared", "no such lorry", "no such what", "no trip that is out"]
def lenS : List Nat := [5, 6, 4, 5, 6, 5, 6, 13, 12, 19]
def bytS : List (List Int32) := [[108, 97, 110, 100, 115], [98, 111, 114, 100, 101, 114], [116, 121, 112, 101], [108, 111, 114, 114, 121], [115, 105, 110, 103, 108, 101], [109, 117, 108, 116, 105], [115, 104, 97, 114, 101, 100], [110, 111, 32, 115, 117, 99, 104, 32, 108, 111, 114, 114, 121], [110, 111, 32, 115, 117, 99, 104, 32, 119, 104, 97, 116], [110, 111, 32, 116, 114, 105, 112, 32, 116, 104, 97, 116, 32, 105, 115, 32, 111, 117, 116]]
def SF (G : GG) (U : State) : Prop :=
  va_Z "java/lang/String" "COMPACT_STRINGS" "Z" (.int 1) (Alo G) U U.heap ∧
  va_Z RX6 "LEAST" "[I" (.ref (G.2.2.2.2 0)) (Alo G) U U.heap ∧ va_Z RX6 "MOST" "[I" (.ref (G.2.2.2.2 1)) (Alo G) U U.heap ∧
  va_T .int (G.2.2.2.2 0) 7 (fun j => .int (lstV.getD j 0)) (Alo G) U U.heap ∧ va_T .int (G.2.2.2.2 1) 7 (fun j => .int (mstV.getD j 0)) (Alo G) U U.heap ∧
  va_Zq "jdk/internal/util/Preconditions" "SIOOBE_FORMATTER" "Ljava/util/function/BiFunction;" (Alo G) U U.heap ∧
  vk_S 10 lenS bytS (fun i => G.2.2.2.2 (2 + i)) (fun i => G.2.2.2.2 (12 + i)) (Alo G) U U.heap ∧
  ∀ i, i < 10 → vk_R (ownS i) (idxS.getD i 0) (txtS.getD i "") (G.2.2.2.2 (2 + i)) U
theorem SF.warm {G : GG} {s U : State} (hW : s.WarmedH U.vm) (hq : ∀ a : Nat, a < s.heap.size → ¬ Alo G a → U.heap[a]? = s.heap[a]?) (h : SF G s) : SF G U := by
  obtain ⟨h1, h2, h3, h4, h5, h6, h7, h8⟩ := h
  exact ⟨(va_Z.moved hW.alike h1).kept hq, (va_Z.moved hW.alike h2).kept hq, (va_Z.moved hW.alike h3).kept hq, (va_T.moved hW.alike h4).kept hq, (va_T.moved hW.alike h5).kept hq, (va_Zq.moved hW.alike h6).kept hq, (vk_S.moved hW.alike h7).kept hq, fun i hi => vk_R.warm hW (h8 i hi)⟩
theorem SF.blind {G : GG} {U : State} {g : JFrame} {mk : MethodId} {a : Array Value} (h : SF G U) : SF G (U.calling g mk a) := by
  obtain ⟨h1, h2, h3, h4, h5, h6, h7, h8⟩ := h
  have e : U.vm.Alike (U.calling g mk a).vm := Vm.Alike.refl U.vm
  exact ⟨va_Z.moved e h1, va_Z.moved e h2, va_Z.moved e h3, va_T.moved e h4, va_T.moved e h5, va_Zq.moved e h6, vk_S.moved e h7, fun i hi => vk_R.same rfl (h8 i hi)⟩
/-! locals -/
def lget : List (Option Value) → Nat → Option Value
  | [], _ => none
  | a :: _, 0 => a
  | _ :: l, n + 1 => lget l n
def lset : List (Option Value) → Nat → Option Value → List (Option Value)
  | [], 0, x => [x]
  | [], n + 1, x => none :: lset [] n x
  | _ :: l, 0, x => x :: l
  | a :: l, n + 1, x => a :: lset l n x
theorem lget_lset (l : List (Option Value)) (i : Nat) (x : Option Value) (j : Nat) : lget (lset l i x) j = if j = i then x else lget l j := by
  induction l generalizing i j with
  | nil =>
    induction i generalizing j with
    | zero => cases j <;> simp [lset, lget]
    | succ i ih => cases j with
      | zero => simp [lset, lget]
      | succ j => simp [lset, lget, ih]
  | cons a l ih =>
    cases i with
    | zero => cases j <;> simp [lset, lget]
    | succ i => cases j with
      | zero => simp [lset, lget]
      | succ j => simp [lset, lget, ih]
/-- the locals hold what is listed -/
def hv (ls : Array Slot) (nL : Nat) (lv : List (Option Value)) : Prop := ls.size = nL ∧ lv_wf ls ∧ ∀ i v, lget lv i = some v → ls[i]? = some (.val v)
def asc : Nat → List (Option Value) → List (Nat × Value)
  | _, [] => []
  | n, none :: l => asc (n + 1) l
  | n, some v :: l => (n, v) :: asc (n + 1) l
theorem mem_asc {j : Nat} {w : Value} : ∀ (lv : List (Option Value)) (n : Nat), (j, w) ∈ asc n lv ↔ n ≤ j ∧ lget lv (j - n) = some w := by
  intro lv
  induction lv with
  | nil => intro n; simp [asc, lget]
  | cons a l ih =>
    intro n
    have key : (n + 1 ≤ j ∧ lget l (j - (n + 1)) = some w) ↔ (n + 1 ≤ j ∧ lget (a :: l) (j - n) = some w) := by
      constructor
      · rintro ⟨h1, h2⟩
        refine ⟨h1, ?_⟩
        rw [show j - n = (j - (n + 1)) + 1 by omega]
        exact h2
      · rintro ⟨h1, h2⟩
        refine ⟨h1, ?_⟩
        rw [show j - n = (j - (n + 1)) + 1 by omega] at h2
        exact h2
    cases a with
    | none =>
      rw [asc, ih, key]
      constructor
      · rintro ⟨h1, h2⟩
        exact ⟨by omega, h2⟩
      · rintro ⟨h1, h2⟩
        rcases Nat.lt_or_ge n j with q | q
        · exact ⟨q, h2⟩
        · rw [show j - n = 0 by omega] at h2
          simp [lget] at h2
    | some v =>
      rw [asc, List.mem_cons, ih, key]
      constructor
      · rintro (h | ⟨h1, h2⟩)
        · cases h
          exact ⟨Nat.le_refl _, by rw [Nat.sub_self]; rfl⟩
        · exact ⟨by omega, h2⟩
      · rintro ⟨h1, h2⟩
        rcases Nat.lt_or_ge n j with q | q
        · exact Or.inr ⟨q, h2⟩
        · have hj : j = n := by omega
          subst hj
          rw [Nat.sub_self] at h2
          simp [lget] at h2
          exact Or.inl (by rw [h2])
theorem hv_iff {ls : Array Slot} {nL : Nat} {lv : List (Option Value)} : hv ls nL lv ↔ lv_has ls nL (asc 0 lv) := by
  constructor
  · rintro ⟨h1, h2, h3⟩
    refine ⟨h1, h2, ?_⟩
    rintro ⟨j, w⟩ hq
    exact h3 j w ((mem_asc lv 0).mp hq).2
  · rintro ⟨h1, h2, h3⟩
    exact ⟨h1, h2, fun i v h => h3 (i, v) ((mem_asc lv 0).mpr ⟨Nat.zero_le _, h⟩)⟩
/-- storing at i doesn't cut a long that stands before it -/
def okS (lv : List (Option Value)) : Nat → Bool
  | 0 => true
  | i + 1 => match lget lv i with
    | some (.long _) => false
    | some (.double _) => false
    | _ => true
theorem okS_spec {lv : List (Option Value)} {i j : Nat} {w : Value} (h : okS lv i = true) (hj : lget lv j = some w) : ¬ (j + 1 = i ∧ w.category = 2) := by
  rintro ⟨rfl, h2⟩
  rw [okS, hj] at h
  cases w <;> simp [Value.category] at h h2
theorem hv_store1 {ls : Array Slot} {nL i : Nat} {lv : List (Option Value)} {v : Value} (h : hv ls nL lv) (hi : i < nL) (hv1 : v.category = 1) (hk : okS lv i = true) : ∃ ls', storeLocals ls i v = some ls' ∧ hv ls' nL (lset lv i (some v)) := by
  obtain ⟨ls', e, h'⟩ := lv_store1 (hv_iff.mp h) hi hv1
  refine ⟨ls', e, h'.1, h'.2.1, fun j w hw => ?_⟩
  rw [lget_lset] at hw
  by_cases hj : j = i
  · rw [if_pos hj] at hw
    cases hw
    subst hj
    exact h'.2.2 _ List.mem_cons_self
  · rw [if_neg hj] at hw
    refine h'.2.2 (j, w) (List.mem_cons_of_mem _ (List.mem_filter.mpr ⟨(mem_asc lv 0).mpr ⟨Nat.zero_le _, hw⟩, ?_⟩))
    have := okS_spec hk hw
    simp [hj]
    omega
theorem hv_store2 {ls : Array Slot} {nL i : Nat} {lv : List (Option Value)} {v : Value} (h : hv ls nL lv) (hi : i + 1 < nL) (hv1 : v.category = 2) (hk : okS lv i = true) : ∃ ls', storeLocals ls i v = some ls' ∧ hv ls' nL (lset (lset lv i (some v)) (i + 1) none) := by
  obtain ⟨ls', e, h'⟩ := lv_store2 (hv_iff.mp h) hi hv1
  refine ⟨ls', e, h'.1, h'.2.1, fun j w hw => ?_⟩
  rw [lget_lset] at hw
  by_cases hj1 : j = i + 1
  · rw [if_pos hj1] at hw
    cases hw
  rw [if_neg hj1, lget_lset] at hw
  by_cases hj : j = i
  · rw [if_pos hj] at hw
    cases hw
    subst hj
    exact h'.2.2 _ List.mem_cons_self
  · rw [if_neg hj] at hw
    refine h'.2.2 (j, w) (List.mem_cons_of_mem _ (List.mem_filter.mpr ⟨(mem_asc lv 0).mpr ⟨Nat.zero_le _, hw⟩, ?_⟩))
    have := okS_spec hk hw
    simp [hj, hj1]
    omega
def ent : List Value → List (Option Value)
  | [] => []
  | .long x :: l => some (.long x) :: none :: ent l
  | .double x :: l => some (.double x) :: none :: ent l
  | v :: l => some v :: ent l
theorem ent_args : ∀ (vs : List Value) (n : Nat) (q : Nat × Value), q ∈ asc n (ent vs) → q ∈ lv_args n vs := by
  intro vs
  induction vs with
  | nil => intro n q h; simp [ent, asc] at h
  | cons v vs ih =>
    intro n q h
    cases v <;> simp [ent, asc] at h <;> rw [lv_args, List.mem_cons] <;> rcases h with h | h <;> first
      | exact Or.inl h
      | exact Or.inr (by simpa [Value.category] using ih _ q h)
/-! the judgement -/
def rmD (d : Nat) : Room := { frames := d, cells := 0, slots := 0, locals := 36 * d }
def QA (G : GG) (Q : Option Value → AH → Prop) : Array Value → State → Outcome → State → Prop := fun _ st o t => (∃ (v : Option Value) (h : AH), o = .returned v ∧ Q v h ∧ Wd G h t.heap) ∧ va_F (Alo G) st t
abbrev Cx (G : GG) (own : String) (cc : ByteArray) (nL : Nat) (ret : Option FieldType) (p : Program) (s : State) (m : MethodId) (args : Array Value) (meth : Method) (c : Code) : Prop :=
  p.tables.exec = Jvm.exec ∧ c.code = cc ∧ c.maxLocals = nL ∧ s.vm.findClass own = some m.cls ∧ (∀ w ∈ gtbl, w.before args s = true) ∧ meth.sig.returnType = ret ∧ meth.locks = false ∧ va_K G.2.2.1 classes (tysG G) s ∧ SF G s ∧ G.2.1 ≤ s.heap.size
def AW (l : Launch) (G : GG) (d : Nat) (own : String) (cc : ByteArray) (nL : Nat) (ret : Option FieldType) (pc : Nat) (lv : List (Option Value)) (st : List Value) (h : AH) (Q : Option Value → AH → Prop) : Prop :=
  ∀ (p : Program) (e : Env) (s : State) (m : MethodId) (args : Array Value) (below : List Frame) (meth : Method) (c : Code) (H : Heap) (locs : List Loc) (ls : Array Slot),
    Cx G own cc nL ret p s m args meth c → Wd G h H → va_S (Alo G) s.heap H locs → hv ls nL lv →
    W p l e (rmD d) s m args below meth c H locs 0 0 (MQ below (QA G Q) args s 0 0 (Alo G)) (F0 m pc ls st)
def preA (G : GG) (h : AH) (U : State) : Prop := G.2.1 ≤ U.heap.size ∧ Wd G h U.heap ∧ va_K G.2.2.1 classes (tysG G) U ∧ SF G U
/-- a method's contract: called with args at the heap h it returns, and Q holds of the answer and the heap -/
def Ct (l : Launch) (G : GG) (d : Nat) (y : MethodName) (cc : ByteArray) (nL : Nat) (ret : Option FieldType) (av : List Value) (h : AH) (Q : Option Value → AH → Prop) : Prop :=
  Met l y (Cond.code y cc nL ret :: gtbl) (rmD d) (va_Pc av (preA G h)) (QA G Q) 0 0 (Alo G)
theorem Ct.of {l : Launch} {G : GG} {d : Nat} {y : MethodName} {cc : ByteArray} {nL : Nat} {ret : Option FieldType} {av : List Value} {h : AH} {Q : Option Value → AH → Prop} (hy : plainName y.cls = true) (hn : (lg_sl av).length ≤ nL) (K : AW l G d y.cls cc nL ret 0 (ent av) [] h Q) : Ct l G d y cc nL ret av h Q := by
  refine Met.ofW (cc := cc) (maxL := nL) (ret := ret) hy rfl ?_
  intro p e s m args below meth c s₁ B hml hv0
  obtain ⟨rfl, hlo, hW, hK, hSF⟩ := hv0
  have hts := atoms_spec (ws := Cond.code y cc nL ret :: gtbl) B.pre
  have hl := lv_entry av (n := nL) hn
  rw [lg_entry_eq]
  refine K p e s m _ below meth c s.heap [] _ ⟨B.exec, B.bytes, hml, findClass_of_methodNamed B.named, fun w hw => hts w (List.mem_cons_of_mem _ hw), B.returns, B.notSynchronized, hK, hSF, hlo⟩ hW va_S.rf ?_
  exact hv_iff.mpr ⟨hl.1, hl.2.1, fun q hq => hl.2.2 q (ent_args av 0 q hq)⟩
end
section
/-! THE ROWS: an instruction each, goal first -/
section AROWS
variable {l : Launch} {G : GG} {d : Nat} {own : String} {cc : ByteArray} {nL : Nat} {ret : Option FieldType} {pc : Nat} {lv : List (Option Value)} {st : List Value} {h : AH} {Q : Option Value → AH → Prop}
theorem a_iconst {n : Int} {v : Int32} (hdg : decode cc pc = .ok (.iconst n, 1)) (hv : Int32.ofInt n = v) (k : AW l G d own cc nL ret (pc + 1) lv (.int v :: st) h Q) : AW l G d own cc nL ret pc lv st h Q := fun p e s m args below meth c H locs ls C hW hS hl => lv_iconst C.1 C.2.1 hdg hv (k p e s m args below meth c H locs ls C hW hS hl)
theorem a_bipush {n : Int} {v : Int32} (hdg : decode cc pc = .ok (.bipush n, 2)) (hv : (Int8.ofInt n).toInt32 = v) (k : AW l G d own cc nL ret (pc + 2) lv (.int v :: st) h Q) : AW l G d own cc nL ret pc lv st h Q := fun p e s m args below meth c H locs ls C hW hS hl => lv_bipush C.1 C.2.1 hdg hv (k p e s m args below meth c H locs ls C hW hS hl)
theorem a_sipush {n : Int} {v : Int32} (hdg : decode cc pc = .ok (.sipush n, 3)) (hv : (Int16.ofInt n).toInt32 = v) (k : AW l G d own cc nL ret (pc + 3) lv (.int v :: st) h Q) : AW l G d own cc nL ret pc lv st h Q := fun p e s m args below meth c H locs ls C hW hS hl => lv_sipush C.1 C.2.1 hdg hv (k p e s m args below meth c H locs ls C hW hS hl)
theorem a_lconst {n : Fin 2} {v : Int64} (hdg : decode cc pc = .ok (.lconst n, 1)) (hv : Int64.ofNat (n : Nat) = v) (k : AW l G d own cc nL ret (pc + 1) lv (.long v :: st) h Q) : AW l G d own cc nL ret pc lv st h Q := fun p e s m args below meth c H locs ls C hW hS hl => lv_lconst C.1 C.2.1 hdg hv (k p e s m args below meth c H locs ls C hW hS hl)
theorem a_iload_n {n : Fin 4} {x : Int32} (hdg : decode cc pc = .ok (.iload_n n, 1)) (hx : lget lv (n : Nat) = some (.int x)) (k : AW l G d own cc nL ret (pc + 1) lv (.int x :: st) h Q) : AW l G d own cc nL ret pc lv st h Q := fun p e s m args below meth c H locs ls C hW hS hl => lv_iload_n C.1 C.2.1 hdg rfl (hl.2.2 _ _ hx) (k p e s m args below meth c H locs ls C hW hS hl)
theorem a_iload {n : Nat} {x : Int32} (hdg : decode cc pc = .ok (.iload n, 2)) (hx : lget lv n = some (.int x)) (k : AW l G d own cc nL ret (pc + 2) lv (.int x :: st) h Q) : AW l G d own cc nL ret pc lv st h Q := fun p e s m args below meth c H locs ls C hW hS hl => lv_iload C.1 C.2.1 hdg (hl.2.2 _ _ hx) (k p e s m args below meth c H locs ls C hW hS hl)
theorem a_lload_n {n : Fin 4} {x : Int64} (hdg : decode cc pc = .ok (.lload_n n, 1)) (hx : lget lv (n : Nat) = some (.long x)) (k : AW l G d own cc nL ret (pc + 1) lv (.long x :: st) h Q) : AW l G d own cc nL ret pc lv st h Q := fun p e s m args below meth c H locs ls C hW hS hl => lv_lload_n C.1 C.2.1 hdg rfl (hl.2.2 _ _ hx) (k p e s m args below meth c H locs ls C hW hS hl)
theorem a_lload {n : Nat} {x : Int64} (hdg : decode cc pc = .ok (.lload n, 2)) (hx : lget lv n = some (.long x)) (k : AW l G d own cc nL ret (pc + 2) lv (.long x :: st) h Q) : AW l G d own cc nL ret pc lv st h Q := fun p e s m args below meth c H locs ls C hW hS hl => lv_lload C.1 C.2.1 hdg (hl.2.2 _ _ hx) (k p e s m args below meth c H locs ls C hW hS hl)
theorem a_aload_n {n : Fin 4} {x : Nat} (hdg : decode cc pc = .ok (.aload_n n, 1)) (hx : lget lv (n : Nat) = some (.ref x)) (k : AW l G d own cc nL ret (pc + 1) lv (.ref x :: st) h Q) : AW l G d own cc nL ret pc lv st h Q := fun p e s m args below meth c H locs ls C hW hS hl => lv_aload_n C.1 C.2.1 hdg rfl (hl.2.2 _ _ hx) (k p e s m args below meth c H locs ls C hW hS hl)
theorem a_aload {n : Nat} {x : Nat} (hdg : decode cc pc = .ok (.aload n, 2)) (hx : lget lv n = some (.ref x)) (k : AW l G d own cc nL ret (pc + 2) lv (.ref x :: st) h Q) : AW l G d own cc nL ret pc lv st h Q := fun p e s m args below meth c H locs ls C hW hS hl => lv_aload C.1 C.2.1 hdg (hl.2.2 _ _ hx) (k p e s m args below meth c H locs ls C hW hS hl)
theorem a_istore_n {n : Fin 4} {x : Int32} (hdg : decode cc pc = .ok (.istore_n n, 1)) (hn : (n : Nat) < nL) (hk : okS lv (n : Nat) = true) (k : AW l G d own cc nL ret (pc + 1) (lset lv (n : Nat) (some (.int x))) st h Q) : AW l G d own cc nL ret pc lv (.int x :: st) h Q := by
  intro p e s m args below meth c H locs ls C hW hS hl
  obtain ⟨ls', e', h'⟩ := hv_store1 (v := .int x) hl hn rfl hk
  have hexec := C.1
  have hb := C.2.1
  intro T hT X
  obtain ⟨t, a, b⟩ := k p e s m args below meth c H locs ls' C hW hS h' T hT X
  refine ⟨t, ?_, b⟩
  jvm_step X.here [X.here.top, ↓top_set X.here.top, hexec, hb, hdg, e', Value.isRef]
  exact a
theorem a_istore {n : Nat} {x : Int32} (hdg : decode cc pc = .ok (.istore n, 2)) (hn : n < nL) (hk : okS lv n = true) (k : AW l G d own cc nL ret (pc + 2) (lset lv n (some (.int x))) st h Q) : AW l G d own cc nL ret pc lv (.int x :: st) h Q := by
  intro p e s m args below meth c H locs ls C hW hS hl
  obtain ⟨ls', e', h'⟩ := hv_store1 (v := .int x) hl hn rfl hk
  have hexec := C.1
  have hb := C.2.1
  intro T hT X
  obtain ⟨t, a, b⟩ := k p e s m args below meth c H locs ls' C hW hS h' T hT X
  refine ⟨t, ?_, b⟩
  jvm_step X.here [X.here.top, ↓top_set X.here.top, hexec, hb, hdg, e', Value.isRef]
  exact a
theorem a_astore_n {n : Fin 4} {x : Nat} (hdg : decode cc pc = .ok (.astore_n n, 1)) (hn : (n : Nat) < nL) (hk : okS lv (n : Nat) = true) (k : AW l G d own cc nL ret (pc + 1) (lset lv (n : Nat) (some (.ref x))) st h Q) : AW l G d own cc nL ret pc lv (.ref x :: st) h Q := by
  intro p e s m args below meth c H locs ls C hW hS hl
  obtain ⟨ls', e', h'⟩ := hv_store1 (v := .ref x) hl hn rfl hk
  have hexec := C.1
  have hb := C.2.1
  intro T hT X
  obtain ⟨t, a, b⟩ := k p e s m args below meth c H locs ls' C hW hS h' T hT X
  refine ⟨t, ?_, b⟩
  jvm_step X.here [X.here.top, ↓top_set X.here.top, hexec, hb, hdg, e', Value.isRef]
  exact a
theorem a_astore {n : Nat} {x : Nat} (hdg : decode cc pc = .ok (.astore n, 2)) (hn : n < nL) (hk : okS lv n = true) (k : AW l G d own cc nL ret (pc + 2) (lset lv n (some (.ref x))) st h Q) : AW l G d own cc nL ret pc lv (.ref x :: st) h Q := by
  intro p e s m args below meth c H locs ls C hW hS hl
  obtain ⟨ls', e', h'⟩ := hv_store1 (v := .ref x) hl hn rfl hk
  have hexec := C.1
  have hb := C.2.1
  intro T hT X
  obtain ⟨t, a, b⟩ := k p e s m args below meth c H locs ls' C hW hS h' T hT X
  refine ⟨t, ?_, b⟩
  jvm_step X.here [X.here.top, ↓top_set X.here.top, hexec, hb, hdg, e', Value.isRef]
  exact a
theorem a_lstore_n {n : Fin 4} {x : Int64} (hdg : decode cc pc = .ok (.lstore_n n, 1)) (hn : (n : Nat) + 1 < nL) (hk : okS lv (n : Nat) = true) (k : AW l G d own cc nL ret (pc + 1) (lset (lset lv (n : Nat) (some (.long x))) ((n : Nat) + 1) none) st h Q) : AW l G d own cc nL ret pc lv (.long x :: st) h Q := by
  intro p e s m args below meth c H locs ls C hW hS hl
  obtain ⟨ls', e', h'⟩ := hv_store2 (v := .long x) hl hn rfl hk
  have hexec := C.1
  have hb := C.2.1
  intro T hT X
  obtain ⟨t, a, b⟩ := k p e s m args below meth c H locs ls' C hW hS h' T hT X
  refine ⟨t, ?_, b⟩
  jvm_step X.here [X.here.top, ↓top_set X.here.top, hexec, hb, hdg, e']
  exact a
theorem a_lstore {n : Nat} {x : Int64} (hdg : decode cc pc = .ok (.lstore n, 2)) (hn : n + 1 < nL) (hk : okS lv n = true) (k : AW l G d own cc nL ret (pc + 2) (lset (lset lv n (some (.long x))) (n + 1) none) st h Q) : AW l G d own cc nL ret pc lv (.long x :: st) h Q := by
  intro p e s m args below meth c H locs ls C hW hS hl
  obtain ⟨ls', e', h'⟩ := hv_store2 (v := .long x) hl hn rfl hk
  have hexec := C.1
  have hb := C.2.1
  intro T hT X
  obtain ⟨t, a, b⟩ := k p e s m args below meth c H locs ls' C hW hS h' T hT X
  refine ⟨t, ?_, b⟩
  jvm_step X.here [X.here.top, ↓top_set X.here.top, hexec, hb, hdg, e']
  exact a
theorem a_iinc {i : Nat} {n : Int} {x v : Int32} (hdg : decode cc pc = .ok (.iinc i n, 3)) (hx : lget lv i = some (.int x)) (hv2 : x + Int32.ofInt n = v) (hn : i < nL) (hk : okS lv i = true) (k : AW l G d own cc nL ret (pc + 3) (lset lv i (some (.int v))) st h Q) : AW l G d own cc nL ret pc lv st h Q := by
  intro p e s m args below meth c H locs ls C hW hS hl
  subst hv2
  have hg := hl.2.2 _ _ hx
  obtain ⟨ls', e', h'⟩ := hv_store1 (v := .int (x + Int32.ofInt n)) hl hn rfl hk
  have hexec := C.1
  have hb := C.2.1
  intro T hT X
  obtain ⟨t, a, b⟩ := k p e s m args below meth c H locs ls' C hW hS h' T hT X
  refine ⟨t, ?_, b⟩
  jvm_step X.here [X.here.top, ↓top_set X.here.top, hexec, hb, hdg, hg, e']
  exact a
theorem a_iadd {x y : Int32} (hdg : decode cc pc = .ok (.iadd, 1)) (k : AW l G d own cc nL ret (pc + 1) lv (.int (x + y) :: st) h Q) : AW l G d own cc nL ret pc lv (.int y :: .int x :: st) h Q := fun p e s m args below meth c H locs ls C hW hS hl => lv_iadd C.1 C.2.1 hdg (k p e s m args below meth c H locs ls C hW hS hl)
theorem a_isub {x y : Int32} (hdg : decode cc pc = .ok (.isub, 1)) (k : AW l G d own cc nL ret (pc + 1) lv (.int (x - y) :: st) h Q) : AW l G d own cc nL ret pc lv (.int y :: .int x :: st) h Q := fun p e s m args below meth c H locs ls C hW hS hl => lv_isub C.1 C.2.1 hdg (k p e s m args below meth c H locs ls C hW hS hl)
theorem a_imul {x y : Int32} (hdg : decode cc pc = .ok (.imul, 1)) (k : AW l G d own cc nL ret (pc + 1) lv (.int (x * y) :: st) h Q) : AW l G d own cc nL ret pc lv (.int y :: .int x :: st) h Q := fun p e s m args below meth c H locs ls C hW hS hl => lv_imul C.1 C.2.1 hdg (k p e s m args below meth c H locs ls C hW hS hl)
theorem a_iand {x y : Int32} (hdg : decode cc pc = .ok (.iand, 1)) (k : AW l G d own cc nL ret (pc + 1) lv (.int (x &&& y) :: st) h Q) : AW l G d own cc nL ret pc lv (.int y :: .int x :: st) h Q := fun p e s m args below meth c H locs ls C hW hS hl => lv_iand C.1 C.2.1 hdg (k p e s m args below meth c H locs ls C hW hS hl)
theorem a_ior {x y : Int32} (hdg : decode cc pc = .ok (.ior, 1)) (k : AW l G d own cc nL ret (pc + 1) lv (.int (x ||| y) :: st) h Q) : AW l G d own cc nL ret pc lv (.int y :: .int x :: st) h Q := fun p e s m args below meth c H locs ls C hW hS hl => lv_ior C.1 C.2.1 hdg (k p e s m args below meth c H locs ls C hW hS hl)
theorem a_ixor {x y : Int32} (hdg : decode cc pc = .ok (.ixor, 1)) (k : AW l G d own cc nL ret (pc + 1) lv (.int (x ^^^ y) :: st) h Q) : AW l G d own cc nL ret pc lv (.int y :: .int x :: st) h Q := fun p e s m args below meth c H locs ls C hW hS hl => lv_ixor C.1 C.2.1 hdg (k p e s m args below meth c H locs ls C hW hS hl)
theorem a_ishl {x y : Int32} (hdg : decode cc pc = .ok (.ishl, 1)) (k : AW l G d own cc nL ret (pc + 1) lv (.int (x <<< (y &&& 31)) :: st) h Q) : AW l G d own cc nL ret pc lv (.int y :: .int x :: st) h Q := fun p e s m args below meth c H locs ls C hW hS hl => lv_ishl C.1 C.2.1 hdg (k p e s m args below meth c H locs ls C hW hS hl)
theorem a_ishr {x y : Int32} (hdg : decode cc pc = .ok (.ishr, 1)) (k : AW l G d own cc nL ret (pc + 1) lv (.int (x >>> (y &&& 31)) :: st) h Q) : AW l G d own cc nL ret pc lv (.int y :: .int x :: st) h Q := fun p e s m args below meth c H locs ls C hW hS hl => lv_ishr C.1 C.2.1 hdg (k p e s m args below meth c H locs ls C hW hS hl)
theorem a_iushr {x y : Int32} (hdg : decode cc pc = .ok (.iushr, 1)) (k : AW l G d own cc nL ret (pc + 1) lv (.int ((x.toUInt32 >>> (y.toUInt32 &&& Int32.toUInt32 31)).toInt32) :: st) h Q) : AW l G d own cc nL ret pc lv (.int y :: .int x :: st) h Q := fun p e s m args below meth c H locs ls C hW hS hl => lv_iushr C.1 C.2.1 hdg rfl (k p e s m args below meth c H locs ls C hW hS hl)
theorem a_ineg {x : Int32} (hdg : decode cc pc = .ok (.ineg, 1)) (k : AW l G d own cc nL ret (pc + 1) lv (.int (-x) :: st) h Q) : AW l G d own cc nL ret pc lv (.int x :: st) h Q := fun p e s m args below meth c H locs ls C hW hS hl => lv_ineg C.1 C.2.1 hdg (k p e s m args below meth c H locs ls C hW hS hl)
theorem a_ladd {x y : Int64} (hdg : decode cc pc = .ok (.ladd, 1)) (k : AW l G d own cc nL ret (pc + 1) lv (.long (x + y) :: st) h Q) : AW l G d own cc nL ret pc lv (.long y :: .long x :: st) h Q := fun p e s m args below meth c H locs ls C hW hS hl => lv_ladd C.1 C.2.1 hdg (k p e s m args below meth c H locs ls C hW hS hl)
theorem a_lsub {x y : Int64} (hdg : decode cc pc = .ok (.lsub, 1)) (k : AW l G d own cc nL ret (pc + 1) lv (.long (x - y) :: st) h Q) : AW l G d own cc nL ret pc lv (.long y :: .long x :: st) h Q := fun p e s m args below meth c H locs ls C hW hS hl => lv_lsub C.1 C.2.1 hdg (k p e s m args below meth c H locs ls C hW hS hl)
theorem a_lmul {x y : Int64} (hdg : decode cc pc = .ok (.lmul, 1)) (k : AW l G d own cc nL ret (pc + 1) lv (.long (x * y) :: st) h Q) : AW l G d own cc nL ret pc lv (.long y :: .long x :: st) h Q := fun p e s m args below meth c H locs ls C hW hS hl => lv_lmul C.1 C.2.1 hdg (k p e s m args below meth c H locs ls C hW hS hl)
theorem a_i2l {x : Int32} (hdg : decode cc pc = .ok (.i2l, 1)) (k : AW l G d own cc nL ret (pc + 1) lv (.long x.toInt64 :: st) h Q) : AW l G d own cc nL ret pc lv (.int x :: st) h Q := fun p e s m args below meth c H locs ls C hW hS hl => lv_i2l C.1 C.2.1 hdg rfl (k p e s m args below meth c H locs ls C hW hS hl)
theorem a_i2b {x : Int32} (hdg : decode cc pc = .ok (.i2b, 1)) (k : AW l G d own cc nL ret (pc + 1) lv (.int x.toInt8.toInt32 :: st) h Q) : AW l G d own cc nL ret pc lv (.int x :: st) h Q := fun p e s m args below meth c H locs ls C hW hS hl => lv_i2b C.1 C.2.1 hdg rfl (k p e s m args below meth c H locs ls C hW hS hl)
theorem a_i2c {x : Int32} (hdg : decode cc pc = .ok (.i2c, 1)) (k : AW l G d own cc nL ret (pc + 1) lv (.int ((x.toUInt32 % 65536).toInt32) :: st) h Q) : AW l G d own cc nL ret pc lv (.int x :: st) h Q := fun p e s m args below meth c H locs ls C hW hS hl => lv_i2c C.1 C.2.1 hdg rfl (k p e s m args below meth c H locs ls C hW hS hl)
theorem a_lcmp {x y : Int64} (hdg : decode cc pc = .ok (.lcmp, 1)) (k : AW l G d own cc nL ret (pc + 1) lv (.int (lg_cmp x y) :: st) h Q) : AW l G d own cc nL ret pc lv (.long y :: .long x :: st) h Q := fun p e s m args below meth c H locs ls C hW hS hl => W.lcmp C.1 C.2.1 hdg (k p e s m args below meth c H locs ls C hW hS hl)
theorem a_dup {v : Value} (hdg : decode cc pc = .ok (.dup, 1)) (hv1 : v.category = 1) (k : AW l G d own cc nL ret (pc + 1) lv (v :: v :: st) h Q) : AW l G d own cc nL ret pc lv (v :: st) h Q := fun p e s m args below meth c H locs ls C hW hS hl => lv_dup C.1 C.2.1 hdg hv1 (k p e s m args below meth c H locs ls C hW hS hl)
theorem a_pop {v : Value} (hdg : decode cc pc = .ok (.pop, 1)) (hv1 : v.category = 1) (k : AW l G d own cc nL ret (pc + 1) lv st h Q) : AW l G d own cc nL ret pc lv (v :: st) h Q := fun p e s m args below meth c H locs ls C hW hS hl => lv_pop C.1 C.2.1 hdg hv1 (k p e s m args below meth c H locs ls C hW hS hl)
theorem a_dup2 {v w : Value} (hdg : decode cc pc = .ok (.dup2, 1)) (hv1 : v.category = 1) (hv2 : w.category = 1) (k : AW l G d own cc nL ret (pc + 1) lv (v :: w :: v :: w :: st) h Q) : AW l G d own cc nL ret pc lv (v :: w :: st) h Q := fun p e s m args below meth c H locs ls C hW hS hl => lv_dup2_11 C.1 C.2.1 hdg hv1 hv2 (k p e s m args below meth c H locs ls C hW hS hl)
theorem a_dup_x1 {v w : Value} (hdg : decode cc pc = .ok (.dup_x1, 1)) (hv1 : v.category = 1) (hv2 : w.category = 1) (k : AW l G d own cc nL ret (pc + 1) lv (v :: w :: v :: st) h Q) : AW l G d own cc nL ret pc lv (v :: w :: st) h Q := fun p e s m args below meth c H locs ls C hW hS hl => lv_dup_x1 C.1 C.2.1 hdg hv1 hv2 (k p e s m args below meth c H locs ls C hW hS hl)
theorem a_if_eq {x : Int32} {off : Int} {tgt : Nat} (hdg : decode cc pc = .ok (.ifCond .eq off, 3)) (ht : (pc : Int) + off = (tgt : Int)) (kt : x = 0 → AW l G d own cc nL ret tgt lv st h Q) (kf : ¬ x = 0 → AW l G d own cc nL ret (pc + 3) lv st h Q) : AW l G d own cc nL ret pc lv (.int x :: st) h Q := fun p e s m args below meth c H locs ls C hW hS hl => lv_if_eq C.1 C.2.1 hdg ht (fun q => kt q p e s m args below meth c H locs ls C hW hS hl) (fun q => kf q p e s m args below meth c H locs ls C hW hS hl)
theorem a_icmp_eq {x y : Int32} {off : Int} {tgt : Nat} (hdg : decode cc pc = .ok (.if_icmp .eq off, 3)) (ht : (pc : Int) + off = (tgt : Int)) (kt : x = y → AW l G d own cc nL ret tgt lv st h Q) (kf : ¬ x = y → AW l G d own cc nL ret (pc + 3) lv st h Q) : AW l G d own cc nL ret pc lv (.int y :: .int x :: st) h Q := fun p e s m args below meth c H locs ls C hW hS hl => lv_icmp_eq C.1 C.2.1 hdg ht (fun q => kt q p e s m args below meth c H locs ls C hW hS hl) (fun q => kf q p e s m args below meth c H locs ls C hW hS hl)
theorem a_if_lt {x : Int32} {off : Int} {tgt : Nat} (hdg : decode cc pc = .ok (.ifCond .lt off, 3)) (ht : (pc : Int) + off = (tgt : Int)) (kt : x < 0 → AW l G d own cc nL ret tgt lv st h Q) (kf : ¬ x < 0 → AW l G d own cc nL ret (pc + 3) lv st h Q) : AW l G d own cc nL ret pc lv (.int x :: st) h Q := fun p e s m args below meth c H locs ls C hW hS hl => lv_if_lt C.1 C.2.1 hdg ht (fun q => kt q p e s m args below meth c H locs ls C hW hS hl) (fun q => kf q p e s m args below meth c H locs ls C hW hS hl)
theorem a_icmp_lt {x y : Int32} {off : Int} {tgt : Nat} (hdg : decode cc pc = .ok (.if_icmp .lt off, 3)) (ht : (pc : Int) + off = (tgt : Int)) (kt : x < y → AW l G d own cc nL ret tgt lv st h Q) (kf : ¬ x < y → AW l G d own cc nL ret (pc + 3) lv st h Q) : AW l G d own cc nL ret pc lv (.int y :: .int x :: st) h Q := fun p e s m args below meth c H locs ls C hW hS hl => lv_icmp_lt C.1 C.2.1 hdg ht (fun q => kt q p e s m args below meth c H locs ls C hW hS hl) (fun q => kf q p e s m args below meth c H locs ls C hW hS hl)
theorem a_if_ge {x : Int32} {off : Int} {tgt : Nat} (hdg : decode cc pc = .ok (.ifCond .ge off, 3)) (ht : (pc : Int) + off = (tgt : Int)) (kt : 0 ≤ x → AW l G d own cc nL ret tgt lv st h Q) (kf : ¬ 0 ≤ x → AW l G d own cc nL ret (pc + 3) lv st h Q) : AW l G d own cc nL ret pc lv (.int x :: st) h Q := fun p e s m args below meth c H locs ls C hW hS hl => lv_if_ge C.1 C.2.1 hdg ht (fun q => kt q p e s m args below meth c H locs ls C hW hS hl) (fun q => kf q p e s m args below meth c H locs ls C hW hS hl)
theorem a_icmp_ge {x y : Int32} {off : Int} {tgt : Nat} (hdg : decode cc pc = .ok (.if_icmp .ge off, 3)) (ht : (pc : Int) + off = (tgt : Int)) (kt : y ≤ x → AW l G d own cc nL ret tgt lv st h Q) (kf : ¬ y ≤ x → AW l G d own cc nL ret (pc + 3) lv st h Q) : AW l G d own cc nL ret pc lv (.int y :: .int x :: st) h Q := fun p e s m args below meth c H locs ls C hW hS hl => lv_icmp_ge C.1 C.2.1 hdg ht (fun q => kt q p e s m args below meth c H locs ls C hW hS hl) (fun q => kf q p e s m args below meth c H locs ls C hW hS hl)
theorem a_if_gt {x : Int32} {off : Int} {tgt : Nat} (hdg : decode cc pc = .ok (.ifCond .gt off, 3)) (ht : (pc : Int) + off = (tgt : Int)) (kt : 0 < x → AW l G d own cc nL ret tgt lv st h Q) (kf : ¬ 0 < x → AW l G d own cc nL ret (pc + 3) lv st h Q) : AW l G d own cc nL ret pc lv (.int x :: st) h Q := fun p e s m args below meth c H locs ls C hW hS hl => lv_if_gt C.1 C.2.1 hdg ht (fun q => kt q p e s m args below meth c H locs ls C hW hS hl) (fun q => kf q p e s m args below meth c H locs ls C hW hS hl)
theorem a_icmp_gt {x y : Int32} {off : Int} {tgt : Nat} (hdg : decode cc pc = .ok (.if_icmp .gt off, 3)) (ht : (pc : Int) + off = (tgt : Int)) (kt : y < x → AW l G d own cc nL ret tgt lv st h Q) (kf : ¬ y < x → AW l G d own cc nL ret (pc + 3) lv st h Q) : AW l G d own cc nL ret pc lv (.int y :: .int x :: st) h Q := fun p e s m args below meth c H locs ls C hW hS hl => lv_icmp_gt C.1 C.2.1 hdg ht (fun q => kt q p e s m args below meth c H locs ls C hW hS hl) (fun q => kf q p e s m args below meth c H locs ls C hW hS hl)
theorem a_if_le {x : Int32} {off : Int} {tgt : Nat} (hdg : decode cc pc = .ok (.ifCond .le off, 3)) (ht : (pc : Int) + off = (tgt : Int)) (kt : x ≤ 0 → AW l G d own cc nL ret tgt lv st h Q) (kf : ¬ x ≤ 0 → AW l G d own cc nL ret (pc + 3) lv st h Q) : AW l G d own cc nL ret pc lv (.int x :: st) h Q := fun p e s m args below meth c H locs ls C hW hS hl => lv_if_le C.1 C.2.1 hdg ht (fun q => kt q p e s m args below meth c H locs ls C hW hS hl) (fun q => kf q p e s m args below meth c H locs ls C hW hS hl)
theorem a_icmp_le {x y : Int32} {off : Int} {tgt : Nat} (hdg : decode cc pc = .ok (.if_icmp .le off, 3)) (ht : (pc : Int) + off = (tgt : Int)) (kt : x ≤ y → AW l G d own cc nL ret tgt lv st h Q) (kf : ¬ x ≤ y → AW l G d own cc nL ret (pc + 3) lv st h Q) : AW l G d own cc nL ret pc lv (.int y :: .int x :: st) h Q := fun p e s m args below meth c H locs ls C hW hS hl => lv_icmp_le C.1 C.2.1 hdg ht (fun q => kt q p e s m args below meth c H locs ls C hW hS hl) (fun q => kf q p e s m args below meth c H locs ls C hW hS hl)
theorem a_if_ne {x : Int32} {off : Int} {tgt : Nat} (hdg : decode cc pc = .ok (.ifCond .ne off, 3)) (ht : (pc : Int) + off = (tgt : Int)) (kt : ¬ x = 0 → AW l G d own cc nL ret tgt lv st h Q) (kf : x = 0 → AW l G d own cc nL ret (pc + 3) lv st h Q) : AW l G d own cc nL ret pc lv (.int x :: st) h Q := fun p e s m args below meth c H locs ls C hW hS hl => lv_if_ne C.1 C.2.1 hdg ht (fun q => kt q p e s m args below meth c H locs ls C hW hS hl) (fun q => kf q p e s m args below meth c H locs ls C hW hS hl)
theorem a_icmp_ne {x y : Int32} {off : Int} {tgt : Nat} (hdg : decode cc pc = .ok (.if_icmp .ne off, 3)) (ht : (pc : Int) + off = (tgt : Int)) (kt : ¬ x = y → AW l G d own cc nL ret tgt lv st h Q) (kf : x = y → AW l G d own cc nL ret (pc + 3) lv st h Q) : AW l G d own cc nL ret pc lv (.int y :: .int x :: st) h Q := fun p e s m args below meth c H locs ls C hW hS hl => lv_icmp_ne C.1 C.2.1 hdg ht (fun q => kt q p e s m args below meth c H locs ls C hW hS hl) (fun q => kf q p e s m args below meth c H locs ls C hW hS hl)
theorem a_goto {off : Int} {tgt : Nat} (hdg : decode cc pc = .ok (.goto off, 3)) (ht : (pc : Int) + off = (tgt : Int)) (k : AW l G d own cc nL ret tgt lv st h Q) : AW l G d own cc nL ret pc lv st h Q := fun p e s m args below meth c H locs ls C hW hS hl => lv_goto C.1 C.2.1 hdg ht (k p e s m args below meth c H locs ls C hW hS hl)
theorem a_tableIn {dflt lo hi off : Int} {offs : Array Int} {len tgt : Nat} {x : Int32} (hdg : decode cc pc = .ok (.tableswitch dflt lo hi offs, len)) (h1 : ¬ x.toInt < lo) (h2 : ¬ hi < x.toInt) (ho : offs[(x.toInt - lo).toNat]? = some off) (ht : (pc : Int) + off = (tgt : Int)) (k : AW l G d own cc nL ret tgt lv st h Q) : AW l G d own cc nL ret pc lv (.int x :: st) h Q := fun p e s m args below meth c H locs ls C hW hS hl => lv_tableIn C.1 C.2.1 hdg h1 h2 ho ht (k p e s m args below meth c H locs ls C hW hS hl)
theorem a_tableOut {dflt lo hi : Int} {offs : Array Int} {len tgt : Nat} {x : Int32} (hdg : decode cc pc = .ok (.tableswitch dflt lo hi offs, len)) (hx : x.toInt < lo ∨ hi < x.toInt) (ht : (pc : Int) + dflt = (tgt : Int)) (k : AW l G d own cc nL ret tgt lv st h Q) : AW l G d own cc nL ret pc lv (.int x :: st) h Q := fun p e s m args below meth c H locs ls C hW hS hl => lv_tableOut C.1 C.2.1 hdg hx ht (k p e s m args below meth c H locs ls C hW hS hl)
theorem a_lookup {dflt off : Int} {ps : Array (Int × Int)} {len tgt : Nat} {x : Int32} (hdg : decode cc pc = .ok (.lookupswitch dflt ps, len)) (hp : (ps.toList.zip (ps.toList.drop 1)).all (fun (a, next) => a.1 < next.1) = true) (ho : Op.lookupswitch.offset ps.toList dflt x.toInt = off) (ht : (pc : Int) + off = (tgt : Int)) (k : AW l G d own cc nL ret tgt lv st h Q) : AW l G d own cc nL ret pc lv (.int x :: st) h Q := fun p e s m args below meth c H locs ls C hW hS hl => lv_lookup C.1 C.2.1 hdg hp ho ht (k p e s m args below meth c H locs ls C hW hS hl)
theorem a_idiv {x y : Int32} (hdg : decode cc pc = .ok (.idiv, 1)) (hne : ¬ y = 0) (k : AW l G d own cc nL ret (pc + 1) lv (.int (x / y) :: st) h Q) : AW l G d own cc nL ret pc lv (.int y :: .int x :: st) h Q := fun p e s m args below meth c H locs ls C hW hS hl => lv_idiv C.1 C.2.1 hdg hne (k p e s m args below meth c H locs ls C hW hS hl)
theorem a_irem {x y : Int32} (hdg : decode cc pc = .ok (.irem, 1)) (hne : ¬ y = 0) (k : AW l G d own cc nL ret (pc + 1) lv (.int (x - x / y * y) :: st) h Q) : AW l G d own cc nL ret pc lv (.int y :: .int x :: st) h Q := fun p e s m args below meth c H locs ls C hW hS hl => lv_irem C.1 C.2.1 hdg hne (k p e s m args below meth c H locs ls C hW hS hl)
theorem a_ldc2 {index : Nat} {v : Int64} (hw : Cond.constantLong own index v ∈ gtbl) (hdg : decode cc pc = .ok (.ldc2_w index, 3)) (k : AW l G d own cc nL ret (pc + 3) lv (.long v :: st) h Q) : AW l G d own cc nL ret pc lv st h Q := fun p e s m args below meth c H locs ls C hW hS hl => lv_ldc2 C.1 C.2.1 C.2.2.2.1 (C.2.2.2.2.1 _ hw) hdg (k p e s m args below meth c H locs ls C hW hS hl)
theorem a_iret {v : Int32} (hdg : decode cc pc = .ok (.ireturn, 1)) (hr : ret = some .int) (hq : Q (some (.int v)) h) : AW l G d own cc nL ret pc lv [.int v] h Q := fun p e s m args below meth c H locs ls C hW hS hl => W.iret C.1 C.2.1 (C.2.2.2.2.2.1.trans hr) (fun t ht _ => ⟨⟨some (.int v), h, rfl, hq, by rw [ht]; exact hW⟩, hS.F ht⟩) hS.2.2 hdg C.2.2.2.2.2.2.1
theorem a_zret {v : Int32} {ty : FieldType} (hdg : decode cc pc = .ok (.ireturn, 1)) (hr : ret = some ty) (hn : narrow ty (.int v) = .int v) (hq : Q (some (.int v)) h) : AW l G d own cc nL ret pc lv [.int v] h Q := fun p e s m args below meth c H locs ls C hW hS hl => W.zret C.1 C.2.1 (C.2.2.2.2.2.1.trans hr) hn (fun t ht _ => ⟨⟨some (.int v), h, rfl, hq, by rw [ht]; exact hW⟩, hS.F ht⟩) hS.2.2 hdg C.2.2.2.2.2.2.1
theorem a_lret {v : Int64} (hdg : decode cc pc = .ok (.lreturn, 1)) (hr : ret = some .long) (hq : Q (some (.long v)) h) : AW l G d own cc nL ret pc lv [.long v] h Q := fun p e s m args below meth c H locs ls C hW hS hl => W.lret C.1 C.2.1 (C.2.2.2.2.2.1.trans hr) (fun t ht _ => ⟨⟨some (.long v), h, rfl, hq, by rw [ht]; exact hW⟩, hS.F ht⟩) hS.2.2 hdg C.2.2.2.2.2.2.1
theorem a_vret (hdg : decode cc pc = .ok (.return_, 1)) (hr : ret = none) (hq : Q none h) : AW l G d own cc nL ret pc lv [] h Q := fun p e s m args below meth c H locs ls C hW hS hl => W.vret C.1 C.2.1 (C.2.2.2.2.2.1.trans hr) (fun t ht _ => ⟨⟨none, h, rfl, hq, by rw [ht]; exact hW⟩, hS.F ht⟩) hS.2.2 hdg C.2.2.2.2.2.2.1
theorem a_iaload {b k n : Nat} {i : Int32} (hdg : decode cc pc = .ok (.iaload, 1)) (hk : kd b k = some (1, n)) (hin : vp_in i n) (kk : AW l G d own cc nL ret (pc + 1) lv (.int (h.1 b k i.toNatClampNeg) :: st) h Q) : AW l G d own cc nL ret pc lv (.int i :: .ref (G.1 b k) :: st) h Q := by
  intro p e s m args below meth c H locs ls C hW hS hl
  have hat := hW.2 b k _ hk
  have hP : va_P G.2.2.1 classes [(G.1 b k, cellE G.1 G.2.2.2.1 h b k (1, n))] H := fun j q hj => by
    cases j with
    | zero => cases hj; exact hat
    | succ j => simp at hj
  exact va_iald C.1 C.2.1 C.2.2.2.2.2.2.2.1 hP 0 0 (n := n) (f := h.1 b k) rfl rfl hin hdg (kk p e s m args below meth c H locs ls C hW hS hl)
theorem a_baload {b k n : Nat} {i : Int32} (hdg : decode cc pc = .ok (.baload, 1)) (hk : kd b k = some (2, n)) (hin : vp_in i n) (kk : AW l G d own cc nL ret (pc + 1) lv (.int (h.1 b k i.toNatClampNeg) :: st) h Q) : AW l G d own cc nL ret pc lv (.int i :: .ref (G.1 b k) :: st) h Q := by
  intro p e s m args below meth c H locs ls C hW hS hl
  have hat := hW.2 b k _ hk
  have hP : va_P G.2.2.1 classes [(G.1 b k, cellE G.1 G.2.2.2.1 h b k (2, n))] H := fun j q hj => by
    cases j with
    | zero => cases hj; exact hat
    | succ j => simp at hj
  exact va_bald C.1 C.2.1 C.2.2.2.2.2.2.2.1 hP 0 1 (n := n) (f := h.1 b k) rfl rfl hin hdg (kk p e s m args below meth c H locs ls C hW hS hl)
theorem a_laload {b k n : Nat} {i : Int32} (hdg : decode cc pc = .ok (.laload, 1)) (hk : kd b k = some (3, n)) (hin : vp_in i n) (kk : AW l G d own cc nL ret (pc + 1) lv (.long (h.2 b k i.toNatClampNeg) :: st) h Q) : AW l G d own cc nL ret pc lv (.int i :: .ref (G.1 b k) :: st) h Q := by
  intro p e s m args below meth c H locs ls C hW hS hl
  have hat := hW.2 b k _ hk
  have hP : va_P G.2.2.1 classes [(G.1 b k, cellE G.1 G.2.2.2.1 h b k (3, n))] H := fun j q hj => by
    cases j with
    | zero => cases hj; exact hat
    | succ j => simp at hj
  exact va_lald C.1 C.2.1 C.2.2.2.2.2.2.2.1 hP 0 2 (n := n) (f := h.2 b k) rfl rfl hin hdg (kk p e s m args below meth c H locs ls C hW hS hl)
theorem a_zaload {b k n : Nat} {i : Int32} (hdg : decode cc pc = .ok (.baload, 1)) (hk : kd b k = some (4, n)) (hin : vp_in i n) (kk : AW l G d own cc nL ret (pc + 1) lv (.int (h.1 b k i.toNatClampNeg) :: st) h Q) : AW l G d own cc nL ret pc lv (.int i :: .ref (G.1 b k) :: st) h Q := by
  intro p e s m args below meth c H locs ls C hW hS hl
  have hat := hW.2 b k _ hk
  have hP : va_P G.2.2.1 classes [(G.1 b k, cellE G.1 G.2.2.2.1 h b k (4, n))] H := fun j q hj => by
    cases j with
    | zero => cases hj; exact hat
    | succ j => simp at hj
  exact va_zald C.1 C.2.1 C.2.2.2.2.2.2.2.1 hP 0 3 (n := n) (f := h.1 b k) rfl rfl hin hdg (kk p e s m args below meth c H locs ls C hW hS hl)
end AROWS
end
section
theorem mmax_st : Cond.static Lib.Math.max.name ∈ gtbl := memI 706 (by decide +kernel) (by decide +kernel)
theorem mmax_cd : Cond.code Lib.Math.max.name Lib.Math.max.code 2 (some .int) ∈ gtbl := memI 707 (by decide +kernel) (by decide +kernel)
theorem mmin_st : Cond.static Lib.Math.min.name ∈ gtbl := memI 528 (by decide +kernel) (by decide +kernel)
theorem mmin_cd : Cond.code Lib.Math.min.name Lib.Math.min.code 2 (some .int) ∈ gtbl := memI 529 (by decide +kernel) (by decide +kernel)
theorem math_in : Cond.initialized "java/lang/Math" ∈ gtbl := memI 81 (by decide +kernel) (by decide +kernel)
theorem memP {ws : List Cond} {ps : List Nat} (h : ws = ps.filterMap (fun i => lw_tbl[i]?)) (hg : ws.all goodWord = true) : ∀ w ∈ ws, w ∈ gtbl := by
  intro w hw
  have h9 := List.all_eq_true.mp hg w hw
  rw [h] at hw
  obtain ⟨i, -, hi⟩ := List.mem_filterMap.mp hw
  exact List.mem_filter.mpr ⟨List.mem_of_getElem? hi, h9⟩
theorem good_tbl {y : MethodName} {cy : ByteArray} {ny : Nat} {ry : Option FieldType} (hc : Cond.code y cy ny ry ∈ gtbl) : GoodIn gtbl (Cond.code y cy ny ry :: gtbl) := by
  have key : ∀ w ∈ gtbl, w ∈ gtbl ∧ ((w.onTables && w.keeps) = true ∨ ∃ ty, w = .arrayClass ty) := fun w hw => ⟨hw, good_of_word (List.mem_filter.mp hw).2⟩
  intro w hw
  rcases List.mem_cons.mp hw with rfl | h
  · exact key _ hc
  · exact key _ h
theorem inX0 : ∀ w ∈ u_ws RX0 TX0 5, w ∈ gtbl := memP (ps := [415, 417, 419, 421, 423]) (by decide +kernel) (by decide +kernel)
theorem inX1 : ∀ w ∈ u_ws RX1 TX1 6, w ∈ gtbl := memP (ps := [443, 445, 447, 449, 451, 453]) (by decide +kernel) (by decide +kernel)
theorem inX2 : ∀ w ∈ u_ws RX2 TX2 3, w ∈ gtbl := memP (ps := [237, 239, 241]) (by decide +kernel) (by decide +kernel)
theorem inX3 : ∀ w ∈ u_ws RX3 TX3 6, w ∈ gtbl := memP (ps := [331, 333, 335, 337, 339, 341]) (by decide +kernel) (by decide +kernel)
theorem inX4 : ∀ w ∈ u_ws RX4 TX4 13, w ∈ gtbl := memP (ps := [279, 281, 283, 285, 287, 289, 291, 293, 295, 297, 299, 301, 303]) (by decide +kernel) (by decide +kernel)
theorem inX5 : ∀ w ∈ u_ws RX5 TX5 9, w ∈ gtbl := memP (ps := [199, 201, 203, 205, 207, 209, 211, 213, 215]) (by decide +kernel) (by decide +kernel)
theorem inX6 : ∀ w ∈ u_ws RX6 TX6 10, w ∈ gtbl := memP (ps := [158, 160, 162, 164, 166, 168, 170, 172, 174, 176]) (by decide +kernel) (by decide +kernel)
theorem inX7 : ∀ w ∈ u_ws RX7 TX7 2, w ∈ gtbl := memP (ps := [108, 110]) (by decide +kernel) (by decide +kernel)
theorem inX8 : ∀ w ∈ u_ws RX8 TX8 5, w ∈ gtbl := memP (ps := [130, 132, 134, 136, 138]) (by decide +kernel) (by decide +kernel)
theorem inX9 : ∀ w ∈ u_ws RX9 TX9 10, w ∈ gtbl := memP (ps := [378, 380, 382, 384, 386, 388, 390, 392, 394, 396]) (by decide +kernel) (by decide +kernel)
theorem inX10 : ∀ w ∈ u_ws RX10 TX10 6, w ∈ gtbl := memP (ps := [462, 464, 466, 468, 470, 472]) (by decide +kernel) (by decide +kernel)
theorem inX11 : ∀ w ∈ u_ws RX11 TX11 25, w ∈ gtbl := memP (ps := [1068, 1070, 1072, 1074, 1076, 1078, 1080, 1082, 1084, 1086, 1088, 1090, 1092, 1094, 1096, 1098, 1100, 1102, 1104, 1106, 1108, 1110, 1112, 1114, 1116]) (by decide +kernel) (by decide +kernel)
theorem cls_ok (ci : Nat) (q : vw_C) (h : classes[ci]? = some q) : (∀ w ∈ u_ws q.1 q.2.1 q.2.2, w ∈ gtbl) ∧ (∃ ty : Nat → FieldType, ∀ k, k < q.2.2 → parseFieldDescriptor (q.2.1 k).2.2.1 = some (ty k)) ∧ (∀ a, a < q.2.2 → ∀ b, b < q.2.2 → a ≠ b → (q.2.1 a).2.1 ≠ (q.2.1 b).2.1) ∧ q.2.2 = nf ci := by
  match ci, h with
  | 0, h => cases h; exact ⟨inX0, ⟨tyX0, tyX0_ok⟩, nmX0, rfl⟩
  | 1, h => cases h; exact ⟨inX1, ⟨tyX1, tyX1_ok⟩, nmX1, rfl⟩
  | 2, h => cases h; exact ⟨inX2, ⟨tyX2, tyX2_ok⟩, nmX2, rfl⟩
  | 3, h => cases h; exact ⟨inX3, ⟨tyX3, tyX3_ok⟩, nmX3, rfl⟩
  | 4, h => cases h; exact ⟨inX4, ⟨tyX4, tyX4_ok⟩, nmX4, rfl⟩
  | 5, h => cases h; exact ⟨inX5, ⟨tyX5, tyX5_ok⟩, nmX5, rfl⟩
  | 6, h => cases h; exact ⟨inX6, ⟨tyX6, tyX6_ok⟩, nmX6, rfl⟩
  | 7, h => cases h; exact ⟨inX7, ⟨tyX7, tyX7_ok⟩, nmX7, rfl⟩
  | 8, h => cases h; exact ⟨inX8, ⟨tyX8, tyX8_ok⟩, nmX8, rfl⟩
  | 9, h => cases h; exact ⟨inX9, ⟨tyX9, tyX9_ok⟩, nmX9, rfl⟩
  | 10, h => cases h; exact ⟨inX10, ⟨tyX10, tyX10_ok⟩, nmX10, rfl⟩
  | 11, h => cases h; exact ⟨inX11, ⟨tyX11, tyX11_ok⟩, nmX11, rfl⟩
  | k + 12, h => simp [classes] at h
theorem cls_int0 : (List.range 12).all (fun ci => (List.range (nf ci)).all (fun j => fk ci j != 0 || (match classes[ci]? with | some q => decide (parseFieldDescriptor (q.2.1 j).2.2.1 = some .int) && !(q.2.1 j).2.2.2 | none => false))) = true := by decide +kernel
theorem cls_int {ci j N : Nat} {C0 : String} {T : u_T} (hc : classes[ci]? = some (C0, T, N)) (hci : ci < 12) (hj : j < nf ci) (hf : fk ci j = 0) : parseFieldDescriptor (T j).2.2.1 = some .int ∧ (T j).2.2.2 = false := by
  have h1 := List.all_eq_true.mp (List.all_eq_true.mp cls_int0 ci (List.mem_range.mpr hci)) j (List.mem_range.mpr hj)
  rw [hf, hc] at h1
  simpa using h1
theorem cls_lng0 : (List.range 12).all (fun ci => (List.range (nf ci)).all (fun j => fk ci j != 1 || (match classes[ci]? with | some q => decide (parseFieldDescriptor (q.2.1 j).2.2.1 = some .long) && !(q.2.1 j).2.2.2 | none => false))) = true := by decide +kernel
theorem cls_lng {ci j N : Nat} {C0 : String} {T : u_T} (hc : classes[ci]? = some (C0, T, N)) (hci : ci < 12) (hj : j < nf ci) (hf : fk ci j = 1) : parseFieldDescriptor (T j).2.2.1 = some .long ∧ (T j).2.2.2 = false := by
  have h1 := List.all_eq_true.mp (List.all_eq_true.mp cls_lng0 ci (List.mem_range.mpr hci)) j (List.mem_range.mpr hj)
  rw [hf, hc] at h1
  simpa using h1
theorem cls_dyn0 : (List.range 12).all (fun ci => (List.range (nf ci)).all (fun j => fk ci j != 2 || (match classes[ci]? with | some q => decide (parseFieldDescriptor (q.2.1 j).2.2.1 = some (.object "PermitOffice$Books")) && !(q.2.1 j).2.2.2 | none => false))) = true := by decide +kernel
theorem cls_dyn {ci j N : Nat} {C0 : String} {T : u_T} (hc : classes[ci]? = some (C0, T, N)) (hci : ci < 12) (hj : j < nf ci) (hf : fk ci j = 2) : parseFieldDescriptor (T j).2.2.1 = some (.object "PermitOffice$Books") ∧ (T j).2.2.2 = false := by
  have h1 := List.all_eq_true.mp (List.all_eq_true.mp cls_dyn0 ci (List.mem_range.mpr hci)) j (List.mem_range.mpr hj)
  rw [hf, hc] at h1
  simpa using h1
theorem fv_get {ad : Nat → Nat → Nat} {h : AH} {b k ci j : Nat} (hj : j < nf ci) : (fv ad h b k ci)[j]? = some (fval ad h b k ci j) := by
  simp [fv, hj]
theorem fv_len {ad : Nat → Nat → Nat} {h : AH} {b k ci : Nat} : (fv ad h b k ci).length = nf ci := by simp [fv]
theorem fv_set {ad : Nat → Nat → Nat} {h h2 : AH} {b k ci j : Nat} {v : Value} (hj : j < nf ci) (hv : fval ad h2 b k ci j = v) (ho : ∀ i, i ≠ j → fval ad h2 b k ci i = fval ad h b k ci i) : (fv ad h b k ci).set j v = fv ad h2 b k ci := by
  apply List.ext_getElem?
  intro i
  by_cases hi : i = j
  · subst hi
    rw [List.getElem?_set_self (by rw [fv_len]; exact hj), fv_get hj, hv]
  · rw [List.getElem?_set_ne (Ne.symm hi)]
    by_cases hl : i < nf ci
    · rw [fv_get hl, fv_get hl, ho i hi]
    · rw [List.getElem?_eq_none (by rw [fv_len]; omega), List.getElem?_eq_none (by rw [fv_len]; omega)]
theorem ui_ne {h : AH} {b k j b' k' : Nat} {v : Int32} (hn : ¬ (b' = b ∧ k' = k)) : (ui h b k j v).1 b' k' = h.1 b' k' := by
  funext j'
  simp only [ui]
  rw [if_neg]
  rintro ⟨h1, h2, -⟩
  exact hn ⟨h1, h2⟩
theorem ul_ne {h : AH} {b k j b' k' : Nat} {v : Int64} (hn : ¬ (b' = b ∧ k' = k)) : (ul h b k j v).2 b' k' = h.2 b' k' := by
  funext j'
  simp only [ul]
  rw [if_neg]
  rintro ⟨h1, h2, -⟩
  exact hn ⟨h1, h2⟩
theorem cellE_same {ad : Nat → Nat → Nat} {c : ClassId × ClassId × ClassId × ClassId} {h h2 : AH} {b k : Nat} {q : Nat × Nat} (h1 : h2.1 b k = h.1 b k) (hl : h2.2 b k = h.2 b k) : cellE ad c h2 b k q = cellE ad c h b k q := by
  have e : fv ad h2 b k q.2 = fv ad h b k q.2 := by
    unfold fv
    congr 1
    funext j
    simp only [fval, h1, hl]
  simp only [cellE, e, h1, hl]
theorem Wd.step {G : GG} {h h2 : AH} {H H1 : Heap} {b k : Nat} {q : Nat × Nat} (hW : Wd G h H) (hk : kd b k = some q) (hs : ∀ b' k', ¬ (b' = b ∧ k' = k) → h2.1 b' k' = h.1 b' k' ∧ h2.2 b' k' = h.2 b' k') (hat : va_at G.2.2.1 classes (G.1 b k, cellE G.1 G.2.2.2.1 h2 b k q) H1) (oq : ∀ x, x ≠ G.1 b k → H1[x]? = H[x]?) : Wd G h2 H1 := by
  refine ⟨hW.1, fun b' k' q' hk' => ?_⟩
  by_cases hn : b' = b ∧ k' = k
  · obtain ⟨rfl, rfl⟩ := hn
    cases hk.symm.trans hk'
    exact hat
  · obtain ⟨e1, e2⟩ := hs b' k' hn
    rw [cellE_same e1 e2]
    exact (hW.2 b' k' q' hk').kept (oq _ (fun e => hn (hW.1.1 b' k' q' b k q hk' hk e)))
theorem Wd.ui {G : GG} {h : AH} {H H1 : Heap} {b k j : Nat} {v : Int32} {q : Nat × Nat} (hW : Wd G h H) (hk : kd b k = some q) (hat : va_at G.2.2.1 classes (G.1 b k, cellE G.1 G.2.2.2.1 (ui h b k j v) b k q) H1) (oq : ∀ x, x ≠ G.1 b k → H1[x]? = H[x]?) : Wd G (ui h b k j v) H1 := hW.step hk (fun _ _ hn => ⟨ui_ne hn, rfl⟩) hat oq
theorem Wd.ul {G : GG} {h : AH} {H H1 : Heap} {b k j : Nat} {v : Int64} {q : Nat × Nat} (hW : Wd G h H) (hk : kd b k = some q) (hat : va_at G.2.2.1 classes (G.1 b k, cellE G.1 G.2.2.2.1 (ul h b k j v) b k q) H1) (oq : ∀ x, x ≠ G.1 b k → H1[x]? = H[x]?) : Wd G (ul h b k j v) H1 := hW.step hk (fun _ _ hn => ⟨rfl, ul_ne hn⟩) hat oq
theorem Wd.P {G : GG} {h : AH} {H : Heap} {b k : Nat} {q : Nat × Nat} (hW : Wd G h H) (hk : kd b k = some q) : va_P G.2.2.1 classes [(G.1 b k, cellE G.1 G.2.2.2.1 h b k q)] H := fun j q hj => by
  cases j with
  | zero => cases hj; exact hW.2 b k _ hk
  | succ j => simp at hj
theorem Wd.lo {G : GG} {h : AH} {H : Heap} {b k : Nat} {q : Nat × Nat} (hW : Wd G h H) (hk : kd b k = some q) : Alo G (G.1 b k) := hW.1.2 b k q hk
theorem ui_self {h : AH} {b k j : Nat} {v : Int32} : (ui h b k j v).1 b k = upd (h.1 b k) j v := by
  funext j'
  simp [ui, upd]
theorem ul_self {h : AH} {b k j : Nat} {v : Int64} : (ul h b k j v).2 b k = vp_updL (h.2 b k) j v := by
  funext j'
  simp [ul, vp_updL]
section AMEM
variable {l : Launch} {G : GG} {d : Nat} {own : String} {cc : ByteArray} {nL : Nat} {ret : Option FieldType} {pc : Nat} {lv : List (Option Value)} {st : List Value} {h : AH} {Q : Option Value → AH → Prop}
theorem a_iastore {b k n : Nat} {i : Int32} {x : Int32} (hdg : decode cc pc = .ok (.iastore, 1)) (hk : kd b k = some (1, n)) (hin : vp_in i n) (kk : AW l G d own cc nL ret (pc + 1) lv st (ui h b k i.toNatClampNeg x) Q) : AW l G d own cc nL ret pc lv (.int x :: .int i :: .ref (G.1 b k) :: st) h Q := by
  intro p e s m args below meth c H locs ls C hW hS hl
  have hat := hW.2 b k _ hk
  have hK := C.2.2.2.2.2.2.2.1
  refine W.iast C.1 C.2.1 hat ((hK.2 0 _ rfl).1 n (fun j => .int (h.1 b k j))) (fun q => by cases q) (by show ¬ (i < 0 ∨ (arrV _ _ _).slots.size ≤ _); rw [arrV_size]; exact hin) rfl rfl hdg fun H1 e1 z oq => ?_
  refine kk p e s m args below meth c H1 _ ls C (hW.ui hk ?_ oq) (hS.put z oq (hW.lo hk)) hl
  show H1[G.1 b k]? = some (vp_cell _ (n, _))
  rw [ui_self, e1]
  rw [vp_cell_i, vp_cell_i, arrV_store]
  congr 2
  funext q
  by_cases hq : q = i.toNatClampNeg
  · subst hq
    simp [updV, upd, vp_nar]
    try rfl
  · simp [updV, upd, hq]
theorem a_bastore {b k n : Nat} {i : Int32} {x : Int32} (hdg : decode cc pc = .ok (.bastore, 1)) (hk : kd b k = some (2, n)) (hin : vp_in i n) (kk : AW l G d own cc nL ret (pc + 1) lv st (ui h b k i.toNatClampNeg (vp_nar .byte x)) Q) : AW l G d own cc nL ret pc lv (.int x :: .int i :: .ref (G.1 b k) :: st) h Q := by
  intro p e s m args below meth c H locs ls C hW hS hl
  have hat := hW.2 b k _ hk
  have hK := C.2.2.2.2.2.2.2.1
  refine W.bast C.1 C.2.1 hat ((hK.2 1 _ rfl).1 n (fun j => .int (h.1 b k j))) (fun q => by cases q) (by show ¬ (i < 0 ∨ (arrV _ _ _).slots.size ≤ _); rw [arrV_size]; exact hin) rfl rfl hdg fun H1 e1 z oq => ?_
  refine kk p e s m args below meth c H1 _ ls C (hW.ui hk ?_ oq) (hS.put z oq (hW.lo hk)) hl
  show H1[G.1 b k]? = some (vp_cell _ (n, _))
  rw [ui_self, e1]
  rw [vp_cell_i, vp_cell_i, arrV_store]
  congr 2
  funext q
  by_cases hq : q = i.toNatClampNeg
  · subst hq
    simp [updV, upd, vp_nar]
    try rfl
  · simp [updV, upd, hq]
theorem a_lastore {b k n : Nat} {i : Int32} {x : Int64} (hdg : decode cc pc = .ok (.lastore, 1)) (hk : kd b k = some (3, n)) (hin : vp_in i n) (kk : AW l G d own cc nL ret (pc + 1) lv st (ul h b k i.toNatClampNeg x) Q) : AW l G d own cc nL ret pc lv (.long x :: .int i :: .ref (G.1 b k) :: st) h Q := by
  intro p e s m args below meth c H locs ls C hW hS hl
  have hat := hW.2 b k _ hk
  have hK := C.2.2.2.2.2.2.2.1
  refine W.last C.1 C.2.1 hat ((hK.2 2 _ rfl).1 n (fun j => .long (h.2 b k j))) (fun q => by cases q) (by show ¬ (i < 0 ∨ (arrV _ _ _).slots.size ≤ _); rw [arrV_size]; exact hin) rfl rfl hdg fun H1 e1 z oq => ?_
  refine kk p e s m args below meth c H1 _ ls C (hW.ul hk ?_ oq) (hS.put z oq (hW.lo hk)) hl
  show H1[G.1 b k]? = some (vp_cell _ (n, _))
  rw [ul_self, e1]
  rw [vp_cell_l, vp_cell_l, arrV_store]
  congr 2
  funext q
  by_cases hq : q = i.toNatClampNeg
  · subst hq
    simp [updV, vp_updL, vp_nar]
    try rfl
  · simp [updV, vp_updL, hq]
theorem a_zastore {b k n : Nat} {i : Int32} {x : Int32} (hdg : decode cc pc = .ok (.bastore, 1)) (hk : kd b k = some (4, n)) (hin : vp_in i n) (kk : AW l G d own cc nL ret (pc + 1) lv st (ui h b k i.toNatClampNeg (vp_nar .boolean x)) Q) : AW l G d own cc nL ret pc lv (.int x :: .int i :: .ref (G.1 b k) :: st) h Q := by
  intro p e s m args below meth c H locs ls C hW hS hl
  have hat := hW.2 b k _ hk
  have hK := C.2.2.2.2.2.2.2.1
  refine W.zast C.1 C.2.1 hat ((hK.2 3 _ rfl).1 n (fun j => .int (h.1 b k j))) (fun q => by cases q) (by show ¬ (i < 0 ∨ (arrV _ _ _).slots.size ≤ _); rw [arrV_size]; exact hin) rfl rfl hdg fun H1 e1 z oq => ?_
  refine kk p e s m args below meth c H1 _ ls C (hW.ui hk ?_ oq) (hS.put z oq (hW.lo hk)) hl
  show H1[G.1 b k]? = some (vp_cell _ (n, _))
  rw [ui_self, e1]
  rw [vp_cell_i, vp_cell_i, arrV_store]
  congr 2
  funext q
  by_cases hq : q = i.toNatClampNeg
  · subst hq
    simp [updV, upd, vp_nar]
    try rfl
  · simp [updV, upd, hq]
theorem a_alen {b k n t : Nat} {v : Int32} (hdg : decode cc pc = .ok (.arraylength, 1)) (hk : kd b k = some (t, n)) (ht : t = 1 ∨ t = 2) (hv : Int32.ofNat n = v) (kk : AW l G d own cc nL ret (pc + 1) lv (.int v :: st) h Q) : AW l G d own cc nL ret pc lv (.ref (G.1 b k) :: st) h Q := by
  intro p e s m args below meth c H locs ls C hW hS hl
  have hP := hW.P hk
  rcases ht with rfl | rfl
  · exact va_alen C.1 C.2.1 C.2.2.2.2.2.2.2.1 hP 0 0 rfl rfl hv hdg (kk p e s m args below meth c H locs ls C hW hS hl)
  · exact va_alen C.1 C.2.1 C.2.2.2.2.2.2.2.1 hP 0 1 rfl rfl hv hdg (kk p e s m args below meth c H locs ls C hW hS hl)
theorem a_getV {b k ci j index N : Nat} {C0 : String} {T : u_T} {v : Value} (hdg : decode cc pc = .ok (.getfield index, 3)) (hk : kd b k = some (0, ci)) (hc : classes[ci]? = some (C0, T, N)) (hj : j < nf ci) (hw : Cond.fieldLink own index (T j).1 (T j).2.1 (T j).2.2.1 ∈ gtbl) (hv : fval G.1 h b k ci j = v) (kk : AW l G d own cc nL ret (pc + 3) lv (v :: st) h Q) : AW l G d own cc nL ret pc lv (.ref (G.1 b k) :: st) h Q := by
  intro p e s m args below meth c H locs ls C hW hS hl
  obtain ⟨c1, -, -, c4⟩ := cls_ok ci _ hc
  exact va_get (C := C0) (T := T) (N := N) (ci := ci) (Ts := gtbl) (ref := (T j).1) (fs := fv G.1 h b k ci) C.1 C.2.1 C.2.2.2.2.1 c1 C.2.2.2.1 C.2.2.2.2.2.2.2.1 (hW.P hk) 0 rfl hc j (by rw [show N = nf ci from c4]; exact hj) (C.2.2.2.2.1 _ hw) (fun _ h9 => h9) (by rw [fv_get hj, hv]) hdg (kk p e s m args below meth c H locs ls C hW hS hl)
theorem a_getI {b k ci j index N : Nat} {C0 : String} {T : u_T} (hdg : decode cc pc = .ok (.getfield index, 3)) (hk : kd b k = some (0, ci)) (hc : classes[ci]? = some (C0, T, N)) (hj : j < nf ci) (hf : fk ci j = 0) (hw : Cond.fieldLink own index (T j).1 (T j).2.1 (T j).2.2.1 ∈ gtbl) (kk : AW l G d own cc nL ret (pc + 3) lv (.int (h.1 b k j) :: st) h Q) : AW l G d own cc nL ret pc lv (.ref (G.1 b k) :: st) h Q := a_getV hdg hk hc hj hw (by simp only [fval, hf]) kk
theorem a_getL {b k ci j index N : Nat} {C0 : String} {T : u_T} (hdg : decode cc pc = .ok (.getfield index, 3)) (hk : kd b k = some (0, ci)) (hc : classes[ci]? = some (C0, T, N)) (hj : j < nf ci) (hf : fk ci j = 1) (hw : Cond.fieldLink own index (T j).1 (T j).2.1 (T j).2.2.1 ∈ gtbl) (kk : AW l G d own cc nL ret (pc + 3) lv (.long (h.2 b k j) :: st) h Q) : AW l G d own cc nL ret pc lv (.ref (G.1 b k) :: st) h Q := a_getV hdg hk hc hj hw (by simp only [fval, hf]) kk
theorem a_getD {b k ci j index N : Nat} {C0 : String} {T : u_T} (hdg : decode cc pc = .ok (.getfield index, 3)) (hk : kd b k = some (0, ci)) (hc : classes[ci]? = some (C0, T, N)) (hj : j < nf ci) (hf : fk ci j = 2) (hw : Cond.fieldLink own index (T j).1 (T j).2.1 (T j).2.2.1 ∈ gtbl) {bb : Nat} (hbb : (h.1 b k j).toNatClampNeg = bb) (kk : AW l G d own cc nL ret (pc + 3) lv (.ref (G.1 bb 0) :: st) h Q) : AW l G d own cc nL ret pc lv (.ref (G.1 b k) :: st) h Q := a_getV hdg hk hc hj hw (by simp only [fval, hf, hbb]) kk
theorem a_getR {b k ci j index N t : Nat} {C0 : String} {T : u_T} (hdg : decode cc pc = .ok (.getfield index, 3)) (hk : kd b k = some (0, ci)) (hc : classes[ci]? = some (C0, T, N)) (hj : j < nf ci) (hf : fk ci j = t + 3) (hw : Cond.fieldLink own index (T j).1 (T j).2.1 (T j).2.2.1 ∈ gtbl) (kk : AW l G d own cc nL ret (pc + 3) lv (.ref (G.1 b t) :: st) h Q) : AW l G d own cc nL ret pc lv (.ref (G.1 b k) :: st) h Q := a_getV hdg hk hc hj hw (by simp only [fval, hf]) kk
theorem a_putV {b k ci j index N : Nat} {C0 : String} {T : u_T} {v : Value} {ty : FieldType} {h2 : AH} (hdg : decode cc pc = .ok (.putfield index, 3)) (hk : kd b k = some (0, ci)) (hc : classes[ci]? = some (C0, T, N)) (hj : j < nf ci) (hw : Cond.fieldLink own index (T j).1 (T j).2.1 (T j).2.2.1 ∈ gtbl) (hfin : (T j).2.2.2 = false) (hd : parseFieldDescriptor (T j).2.2.1 = some ty) (hn : narrow ty v = v) (hfit : fits ty v = true)
    (hs : ∀ b' k', ¬ (b' = b ∧ k' = k) → h2.1 b' k' = h.1 b' k' ∧ h2.2 b' k' = h.2 b' k') (hv : fval G.1 h2 b k ci j = v) (ho : ∀ i, i ≠ j → fval G.1 h2 b k ci i = fval G.1 h b k ci i) (kk : AW l G d own cc nL ret (pc + 3) lv st h2 Q) : AW l G d own cc nL ret pc lv (v :: .ref (G.1 b k) :: st) h Q := by
  intro p e s m args below meth c H locs ls C hW hS hl
  obtain ⟨hin, ⟨ty0, hty⟩, hnm, hN⟩ := cls_ok ci _ hc
  have hN : N = nf ci := hN
  have hk0 : j < N := by rw [hN]; exact hj
  have hK := C.2.2.2.2.2.2.2.1
  have hts := C.2.2.2.2.1
  have hap := va_apart (own := own) hts hin ty0 hty hnm hK hc
  obtain ⟨r, h1, cell, q1, q2, q3, q4⟩ := hW.2 b k _ hk
  have hr : r = (C0, T, N) := Option.some.inj (h1.symm.trans hc)
  subst hr
  obtain ⟨hSl, hfc, kC, hkC, hkind⟩ := hK.1 ci _ hc
  obtain ⟨cf, kf, fi, f, hi, hsl⟩ := hSl j hk0
  have hlay := hts _ (hin _ (u_in_lay hk0))
  unfold u_lay at hlay
  rw [if_neg (by rw [hfin]; decide)] at hlay
  have hst := (u_facts hfc hkC (u_lays hts hin hk0) hi).1
  have h6 := u_store hfc hkC hkind hlay hi hd hn hfit
  refine W.putK C.1 C.2.1 (f := f) ⟨C.2.2.2.1, hts _ hw, ⟨_, _, _, hi⟩, hst⟩ (by rw [q2]; exact h6) q1 q3 (by rw [hsl]; exact k2_hasslot (q4 j hk0)) rfl rfl hdg fun H' e1 e2 e3 => ?_
  rw [hsl] at e1 ⊢
  refine kk p e s m args below meth c H' _ ls C (hW.step hk hs ?_ e3) (hS.put e2 e3 (hW.lo hk)) hl
  refine ⟨_, hc, t_OB.to (V := updV (vp_V (fv G.1 h b k ci)) j v) ⟨_, e1, q2, q3, t_set q4 hap hk0 v⟩ (fun i _ => ?_)⟩
  rw [vp_updV_set (by rw [fv_len]; exact hj) v i, fv_set hj hv ho]
  try rfl
theorem a_putI {b k ci j index N : Nat} {C0 : String} {T : u_T} {x : Int32} (hdg : decode cc pc = .ok (.putfield index, 3)) (hk : kd b k = some (0, ci)) (hc : classes[ci]? = some (C0, T, N)) (hci : ci < 12) (hj : j < nf ci) (hf : fk ci j = 0) (hw : Cond.fieldLink own index (T j).1 (T j).2.1 (T j).2.2.1 ∈ gtbl) (kk : AW l G d own cc nL ret (pc + 3) lv st (ui h b k j x) Q) : AW l G d own cc nL ret pc lv (.int x :: .ref (G.1 b k) :: st) h Q := by
  obtain ⟨h1, h2⟩ := cls_int hc hci hj hf
  refine a_putV hdg hk hc hj hw h2 h1 rfl rfl (fun _ _ hn => ⟨ui_ne hn, rfl⟩) (by simp only [fval, hf, ui, and_self, if_true]) (fun i hi => ?_) kk
  have e : (ui h b k j x).1 b k i = h.1 b k i := by simp [ui, hi]
  simp only [fval, e]
  rfl
theorem a_putL {b k ci j index N : Nat} {C0 : String} {T : u_T} {x : Int64} (hdg : decode cc pc = .ok (.putfield index, 3)) (hk : kd b k = some (0, ci)) (hc : classes[ci]? = some (C0, T, N)) (hci : ci < 12) (hj : j < nf ci) (hf : fk ci j = 1) (hw : Cond.fieldLink own index (T j).1 (T j).2.1 (T j).2.2.1 ∈ gtbl) (kk : AW l G d own cc nL ret (pc + 3) lv st (ul h b k j x) Q) : AW l G d own cc nL ret pc lv (.long x :: .ref (G.1 b k) :: st) h Q := by
  obtain ⟨h1, h2⟩ := cls_lng hc hci hj hf
  refine a_putV (h2 := ul h b k j x) hdg hk hc hj hw h2 h1 rfl rfl (fun _ _ hn => ⟨rfl, ul_ne hn⟩) (by simp only [fval, hf, ul, and_self, if_true]) (fun i hi => ?_) kk
  have e : (ul h b k j x).2 b k i = h.2 b k i := by simp [ul, hi]
  have e2 : (ul h b k j x).1 = h.1 := rfl
  simp only [fval, e, e2]
theorem a_putD {b k ci j index N bb : Nat} {C0 : String} {T : u_T} (hdg : decode cc pc = .ok (.putfield index, 3)) (hk : kd b k = some (0, ci)) (hc : classes[ci]? = some (C0, T, N)) (hci : ci < 12) (hj : j < nf ci) (hf : fk ci j = 2) (hw : Cond.fieldLink own index (T j).1 (T j).2.1 (T j).2.2.1 ∈ gtbl) {x : Int32} (hx0 : x.toNatClampNeg = bb) (kk : AW l G d own cc nL ret (pc + 3) lv st (ui h b k j x) Q) : AW l G d own cc nL ret pc lv (.ref (G.1 bb 0) :: .ref (G.1 b k) :: st) h Q := by
  obtain ⟨h1, h2⟩ := cls_dyn hc hci hj hf
  refine a_putV hdg hk hc hj hw h2 h1 rfl rfl (fun _ _ hn => ⟨ui_ne hn, rfl⟩) (by simp only [fval, hf, ui, and_self, if_true, hx0]) (fun i hi => ?_) kk
  have e : (ui h b k j x).1 b k i = h.1 b k i := by simp [ui, hi]
  simp only [fval, e]
  rfl
/-- a method's own words -/
def WY (y : MethodName) (cy : ByteArray) (ny : Nat) (ry : Option FieldType) (n : Nat) : Prop := Cond.code y cy ny ry ∈ gtbl ∧ Cond.initialized y.cls ∈ gtbl ∧ ny ≤ 15 ∧ (y.cls ≠ "java/lang/invoke/MethodHandle" ∧ y.cls ≠ "java/lang/invoke/VarHandle" ∧ (parseMethodDescriptor y.desc).map (fun d => d.parameters.length) = some n)
def WV (y : MethodName) (cy : ByteArray) (ny : Nat) (ry : Option FieldType) (n : Nat) : Prop := WY y cy ny ry n ∧ Cond.instanceMethod y ∈ gtbl ∧ Cond.selects y.cls y y ∈ gtbl
def WS (y : MethodName) (cy : ByteArray) (ny : Nat) (ry : Option FieldType) (n : Nat) : Prop := WY y cy ny ry n ∧ Cond.static y ∈ gtbl
theorem preA_blind {G : GG} {h : AH} {av : List Value} : FrameBlind (va_Pc av (preA G h)) := fun a U g mk q => ⟨q.1, q.2.1, q.2.2.1, va_K.moved (u := U) (U := U.calling g mk a) (Vm.Alike.refl U.vm) q.2.2.2.1, q.2.2.2.2.blind⟩
theorem WY.callB {d d' : Nat} {s : State} {args : Array Value} {index n : Nat} {y : MethodName} {cy : ByteArray} {ny : Nat} {ry : Option FieldType} (h : WY y cy ny ry n) (hts : ∀ w ∈ gtbl, w.before args s = true) (hl : Cond.methodLink own index y ∈ gtbl) (hd : d' < d) : CallB (rmD d) s args own index y cy ny ry (Cond.code y cy ny ry :: gtbl) (rmD d') 0 0 n := by
  obtain ⟨h1, h2, h3, h4⟩ := h
  refine callB_of n hts (good_tbl h1) rfl rfl rfl (hts _ h2) (hts _ hl) h4 ⟨hd, ?_⟩
  show 8 + (ny + 11) + 36 * d' ≤ 36 * d
  omega
theorem preA_at {s U : State} {args : Array Value} {H : Heap} {locs : List Loc} {p : Program} {m : MethodId} {meth : Method} {c : Code} (C : Cx G own cc nL ret p s m args meth c) (hW : Wd G h H) (hS : va_S (Alo G) s.heap H locs) (hU : U.heap = H) (hw : s.WarmedH U.vm) : preA G h U := by
  obtain ⟨-, -, -, -, -, -, -, hK, hSF, hlo⟩ := C
  refine ⟨by rw [hU]; exact Nat.le_trans hlo hS.1, by rw [hU]; exact hW, va_K.moved hw.alike hK, hSF.warm hw (fun a h1 h2 => ?_)⟩
  rw [hU]
  exact hS.2.1 a h1 h2
theorem a_callG {d' mc0 : Nat} {rest : List Value} {P : Option Value → AH → Prop} {Av : Array Value} {st0 : List Value}
    (run : ∀ (p : Program) (e : Env) (s : State) (m : MethodId) (args : Array Value) (below : List Frame) (meth : Method) (c : Code) (H : Heap) (locs : List Loc) (ls : Array Slot), Cx G own cc nL ret p s m args meth c → Wd G h H → va_S (Alo G) s.heap H locs → hv ls nL lv →
      va_Run p l e (rmD d) s m args below meth c H locs 0 0 0 0 (F0 m pc ls st0) rest (QA G P Av) (Alo G))
    (kk : ∀ v h', P v h' → AW l G d own cc nL ret (pc + 3) lv (v.toList ++ rest) h' Q) : AW l G d own cc nL ret pc lv st0 h Q := by
  intro p e s m args below meth c H locs ls C hW hS hl T hT X
  obtain ⟨v, st₀, t, T', L, h0, X', hL, e1, e2, ⟨⟨v', h', hv', hP, hW'⟩, hF⟩, stp⟩ := run p e s m args below meth c H locs ls C hW hS hl T hT X
  cases hv'
  have hS' : va_S (Alo G) s.heap T'.heap (locs ++ L) := by
    obtain ⟨hz, hk⟩ := hF
    rw [h0] at hz hk
    refine ⟨Nat.le_trans hS.1 (by rw [e1]; exact hz), fun q h1 h2 => by rw [e1, hk q (Nat.lt_of_lt_of_le h1 hS.1) h2]; exact hS.2.1 q h1 h2, fun q hq => ?_⟩
    rcases List.mem_append.mp hq with h | h
    · exact hS.2.2 q h
    · exact hL q h
  obtain ⟨t2, a1, b1⟩ := kk v h' hP p e s m args below meth c T'.heap (locs ++ L) ls C (by rw [e1]; exact hW') hS' hl T' rfl X'
  exact ⟨t2, stp t2 a1, b1⟩
theorem a_callV {d' index b k ci N : Nat} {y : MethodName} {cy : ByteArray} {ny : Nat} {ry : Option FieldType} {As rest : List Value} {T : u_T} {P : Option Value → AH → Prop} (hdg : decode cc pc = .ok (.invokevirtual index, 3)) (hl : Cond.methodLink own index y ∈ gtbl) (hw : WV y cy ny ry As.length) (hk : kd b k = some (0, ci)) (hc : classes[ci]? = some (y.cls, T, N)) (hd : d' < d) (hr : (rest.map fun v => v.category).sum ≤ 8)
    (hM : Ct l G d' y cy ny ry (.ref (G.1 b k) :: As) h P) (kk : ∀ v h', P v h' → AW l G d own cc nL ret (pc + 3) lv (v.toList ++ rest) h' Q) : AW l G d own cc nL ret pc lv (As.reverse ++ .ref (G.1 b k) :: rest) h Q := by
  refine a_callG (Av := (Value.ref (G.1 b k) :: As).toArray) (P := P) (d' := d') (mc0 := 0) (fun p e s m args below meth c H locs ls C hW hS hlv => ?_) kk
  have hts := C.2.2.2.2.1
  exact va_runV (As := As) (rest := rest) ⟨C.1, C.2.1, C.2.2.1, C.2.2.2.1, hts⟩ hM ⟨hw.1.callB hts hl hd, hts _ hw.2.1, hts _ hw.2.2⟩ ⟨preA_blind, va_recv C.2.2.2.2.2.2.2.1 (hW.P hk) hc (q0 := 0) rfl, fun U hU hwU => ⟨rfl, preA_at C hW hS hU hwU⟩⟩ rfl rfl hlv.1 rfl (lv_room hr) hdg ⟨Nat.zero_le _, Nat.zero_le _⟩
theorem a_callS {d' index : Nat} {y : MethodName} {cy : ByteArray} {ny : Nat} {ry : Option FieldType} {As rest : List Value} {P : Option Value → AH → Prop} (hdg : decode cc pc = .ok (.invokestatic index, 3)) (hl : Cond.methodLink own index y ∈ gtbl) (hw : WS y cy ny ry As.length) (hd : d' < d) (hr : (rest.map fun v => v.category).sum ≤ 8)
    (hM : Ct l G d' y cy ny ry As h P) (kk : ∀ v h', P v h' → AW l G d own cc nL ret (pc + 3) lv (v.toList ++ rest) h' Q) : AW l G d own cc nL ret pc lv (As.reverse ++ rest) h Q := by
  refine a_callG (Av := As.toArray) (P := P) (d' := d') (mc0 := 0) (fun p e s m args below meth c H locs ls C hW hS hlv => ?_) kk
  have hts := C.2.2.2.2.1
  exact va_runS (As := As) (rest := rest) ⟨C.1, C.2.1, C.2.2.1, C.2.2.2.1, hts⟩ hM ⟨hw.1.callB hts hl hd, hts _ hw.2⟩ ⟨preA_blind, fun U hU hwU => ⟨rfl, preA_at C hW hS hU hwU⟩⟩ rfl rfl hlv.1 rfl (lv_room hr) hdg ⟨Nat.zero_le _, Nat.zero_le _⟩
theorem a_cV0 {d' index b k ci N : Nat} {y : MethodName} {cy : ByteArray} {ny : Nat} {ry : Option FieldType} {T : u_T} {rest : List Value} {P : Option Value → AH → Prop} (hdg : decode cc pc = .ok (.invokevirtual index, 3)) (hl : Cond.methodLink own index y ∈ gtbl) (hw : WV y cy ny ry 0) (hk : kd b k = some (0, ci)) (hc : classes[ci]? = some (y.cls, T, N)) (hd : d' < d) (hr : (rest.map fun v => v.category).sum ≤ 8) (hM : Ct l G d' y cy ny ry (.ref (G.1 b k) :: []) h P) (kk : ∀ v h', P v h' → AW l G d own cc nL ret (pc + 3) lv (v.toList ++ rest) h' Q) : AW l G d own cc nL ret pc lv (.ref (G.1 b k) :: rest) h Q := a_callV (As := []) hdg hl hw hk hc hd hr hM kk
theorem a_cV0i {d' index b k ci N : Nat} {y : MethodName} {cy : ByteArray} {ny : Nat} {ry : Option FieldType} {T : u_T} {rest : List Value} {r : Int32} {h2 : AH} (hdg : decode cc pc = .ok (.invokevirtual index, 3)) (hl : Cond.methodLink own index y ∈ gtbl) (hw : WV y cy ny ry 0) (hk : kd b k = some (0, ci)) (hc : classes[ci]? = some (y.cls, T, N)) (hd : d' < d) (hr : (rest.map fun v => v.category).sum ≤ 8) (hM : Ct l G d' y cy ny ry (.ref (G.1 b k) :: []) h (fun v h' => v = some (.int r) ∧ h' = h2)) (kk : AW l G d own cc nL ret (pc + 3) lv (.int r :: rest) h2 Q) : AW l G d own cc nL ret pc lv (.ref (G.1 b k) :: rest) h Q := a_callV (As := []) hdg hl hw hk hc hd hr hM (fun v h' q => by obtain ⟨rfl, rfl⟩ := q; exact kk)
theorem a_cV0l {d' index b k ci N : Nat} {y : MethodName} {cy : ByteArray} {ny : Nat} {ry : Option FieldType} {T : u_T} {rest : List Value} {r : Int64} {h2 : AH} (hdg : decode cc pc = .ok (.invokevirtual index, 3)) (hl : Cond.methodLink own index y ∈ gtbl) (hw : WV y cy ny ry 0) (hk : kd b k = some (0, ci)) (hc : classes[ci]? = some (y.cls, T, N)) (hd : d' < d) (hr : (rest.map fun v => v.category).sum ≤ 8) (hM : Ct l G d' y cy ny ry (.ref (G.1 b k) :: []) h (fun v h' => v = some (.long r) ∧ h' = h2)) (kk : AW l G d own cc nL ret (pc + 3) lv (.long r :: rest) h2 Q) : AW l G d own cc nL ret pc lv (.ref (G.1 b k) :: rest) h Q := a_callV (As := []) hdg hl hw hk hc hd hr hM (fun v h' q => by obtain ⟨rfl, rfl⟩ := q; exact kk)
theorem a_cV0v {d' index b k ci N : Nat} {y : MethodName} {cy : ByteArray} {ny : Nat} {ry : Option FieldType} {T : u_T} {rest : List Value} {h2 : AH} (hdg : decode cc pc = .ok (.invokevirtual index, 3)) (hl : Cond.methodLink own index y ∈ gtbl) (hw : WV y cy ny ry 0) (hk : kd b k = some (0, ci)) (hc : classes[ci]? = some (y.cls, T, N)) (hd : d' < d) (hr : (rest.map fun v => v.category).sum ≤ 8) (hM : Ct l G d' y cy ny ry (.ref (G.1 b k) :: []) h (fun v h' => v = none ∧ h' = h2)) (kk : AW l G d own cc nL ret (pc + 3) lv rest h2 Q) : AW l G d own cc nL ret pc lv (.ref (G.1 b k) :: rest) h Q := a_callV (As := []) hdg hl hw hk hc hd hr hM (fun v h' q => by obtain ⟨rfl, rfl⟩ := q; exact kk)
theorem a_cS0 {d' index : Nat} {y : MethodName} {cy : ByteArray} {ny : Nat} {ry : Option FieldType} {rest : List Value} {P : Option Value → AH → Prop} (hdg : decode cc pc = .ok (.invokestatic index, 3)) (hl : Cond.methodLink own index y ∈ gtbl) (hw : WS y cy ny ry 0) (hd : d' < d) (hr : (rest.map fun v => v.category).sum ≤ 8) (hM : Ct l G d' y cy ny ry [] h P) (kk : ∀ v h', P v h' → AW l G d own cc nL ret (pc + 3) lv (v.toList ++ rest) h' Q) : AW l G d own cc nL ret pc lv (rest) h Q := a_callS (As := []) hdg hl hw hd hr hM kk
theorem a_cS0i {d' index : Nat} {y : MethodName} {cy : ByteArray} {ny : Nat} {ry : Option FieldType} {rest : List Value} {r : Int32} {h2 : AH} (hdg : decode cc pc = .ok (.invokestatic index, 3)) (hl : Cond.methodLink own index y ∈ gtbl) (hw : WS y cy ny ry 0) (hd : d' < d) (hr : (rest.map fun v => v.category).sum ≤ 8) (hM : Ct l G d' y cy ny ry [] h (fun v h' => v = some (.int r) ∧ h' = h2)) (kk : AW l G d own cc nL ret (pc + 3) lv (.int r :: rest) h2 Q) : AW l G d own cc nL ret pc lv (rest) h Q := a_callS (As := []) hdg hl hw hd hr hM (fun v h' q => by obtain ⟨rfl, rfl⟩ := q; exact kk)
theorem a_cS0l {d' index : Nat} {y : MethodName} {cy : ByteArray} {ny : Nat} {ry : Option FieldType} {rest : List Value} {r : Int64} {h2 : AH} (hdg : decode cc pc = .ok (.invokestatic index, 3)) (hl : Cond.methodLink own index y ∈ gtbl) (hw : WS y cy ny ry 0) (hd : d' < d) (hr : (rest.map fun v => v.category).sum ≤ 8) (hM : Ct l G d' y cy ny ry [] h (fun v h' => v = some (.long r) ∧ h' = h2)) (kk : AW l G d own cc nL ret (pc + 3) lv (.long r :: rest) h2 Q) : AW l G d own cc nL ret pc lv (rest) h Q := a_callS (As := []) hdg hl hw hd hr hM (fun v h' q => by obtain ⟨rfl, rfl⟩ := q; exact kk)
theorem a_cS0v {d' index : Nat} {y : MethodName} {cy : ByteArray} {ny : Nat} {ry : Option FieldType} {rest : List Value} {h2 : AH} (hdg : decode cc pc = .ok (.invokestatic index, 3)) (hl : Cond.methodLink own index y ∈ gtbl) (hw : WS y cy ny ry 0) (hd : d' < d) (hr : (rest.map fun v => v.category).sum ≤ 8) (hM : Ct l G d' y cy ny ry [] h (fun v h' => v = none ∧ h' = h2)) (kk : AW l G d own cc nL ret (pc + 3) lv rest h2 Q) : AW l G d own cc nL ret pc lv (rest) h Q := a_callS (As := []) hdg hl hw hd hr hM (fun v h' q => by obtain ⟨rfl, rfl⟩ := q; exact kk)
theorem a_cV1 {d' index b k ci N : Nat} {y : MethodName} {cy : ByteArray} {ny : Nat} {ry : Option FieldType} {T : u_T} {x0 : Value} {rest : List Value} {P : Option Value → AH → Prop} (hdg : decode cc pc = .ok (.invokevirtual index, 3)) (hl : Cond.methodLink own index y ∈ gtbl) (hw : WV y cy ny ry 1) (hk : kd b k = some (0, ci)) (hc : classes[ci]? = some (y.cls, T, N)) (hd : d' < d) (hr : (rest.map fun v => v.category).sum ≤ 8) (hM : Ct l G d' y cy ny ry (.ref (G.1 b k) :: [x0]) h P) (kk : ∀ v h', P v h' → AW l G d own cc nL ret (pc + 3) lv (v.toList ++ rest) h' Q) : AW l G d own cc nL ret pc lv (x0 :: .ref (G.1 b k) :: rest) h Q := a_callV (As := [x0]) hdg hl hw hk hc hd hr hM kk
theorem a_cV1i {d' index b k ci N : Nat} {y : MethodName} {cy : ByteArray} {ny : Nat} {ry : Option FieldType} {T : u_T} {x0 : Value} {rest : List Value} {r : Int32} {h2 : AH} (hdg : decode cc pc = .ok (.invokevirtual index, 3)) (hl : Cond.methodLink own index y ∈ gtbl) (hw : WV y cy ny ry 1) (hk : kd b k = some (0, ci)) (hc : classes[ci]? = some (y.cls, T, N)) (hd : d' < d) (hr : (rest.map fun v => v.category).sum ≤ 8) (hM : Ct l G d' y cy ny ry (.ref (G.1 b k) :: [x0]) h (fun v h' => v = some (.int r) ∧ h' = h2)) (kk : AW l G d own cc nL ret (pc + 3) lv (.int r :: rest) h2 Q) : AW l G d own cc nL ret pc lv (x0 :: .ref (G.1 b k) :: rest) h Q := a_callV (As := [x0]) hdg hl hw hk hc hd hr hM (fun v h' q => by obtain ⟨rfl, rfl⟩ := q; exact kk)
theorem a_cV1l {d' index b k ci N : Nat} {y : MethodName} {cy : ByteArray} {ny : Nat} {ry : Option FieldType} {T : u_T} {x0 : Value} {rest : List Value} {r : Int64} {h2 : AH} (hdg : decode cc pc = .ok (.invokevirtual index, 3)) (hl : Cond.methodLink own index y ∈ gtbl) (hw : WV y cy ny ry 1) (hk : kd b k = some (0, ci)) (hc : classes[ci]? = some (y.cls, T, N)) (hd : d' < d) (hr : (rest.map fun v => v.category).sum ≤ 8) (hM : Ct l G d' y cy ny ry (.ref (G.1 b k) :: [x0]) h (fun v h' => v = some (.long r) ∧ h' = h2)) (kk : AW l G d own cc nL ret (pc + 3) lv (.long r :: rest) h2 Q) : AW l G d own cc nL ret pc lv (x0 :: .ref (G.1 b k) :: rest) h Q := a_callV (As := [x0]) hdg hl hw hk hc hd hr hM (fun v h' q => by obtain ⟨rfl, rfl⟩ := q; exact kk)
theorem a_cV1v {d' index b k ci N : Nat} {y : MethodName} {cy : ByteArray} {ny : Nat} {ry : Option FieldType} {T : u_T} {x0 : Value} {rest : List Value} {h2 : AH} (hdg : decode cc pc = .ok (.invokevirtual index, 3)) (hl : Cond.methodLink own index y ∈ gtbl) (hw : WV y cy ny ry 1) (hk : kd b k = some (0, ci)) (hc : classes[ci]? = some (y.cls, T, N)) (hd : d' < d) (hr : (rest.map fun v => v.category).sum ≤ 8) (hM : Ct l G d' y cy ny ry (.ref (G.1 b k) :: [x0]) h (fun v h' => v = none ∧ h' = h2)) (kk : AW l G d own cc nL ret (pc + 3) lv rest h2 Q) : AW l G d own cc nL ret pc lv (x0 :: .ref (G.1 b k) :: rest) h Q := a_callV (As := [x0]) hdg hl hw hk hc hd hr hM (fun v h' q => by obtain ⟨rfl, rfl⟩ := q; exact kk)
theorem a_cS1 {d' index : Nat} {y : MethodName} {cy : ByteArray} {ny : Nat} {ry : Option FieldType} {x0 : Value} {rest : List Value} {P : Option Value → AH → Prop} (hdg : decode cc pc = .ok (.invokestatic index, 3)) (hl : Cond.methodLink own index y ∈ gtbl) (hw : WS y cy ny ry 1) (hd : d' < d) (hr : (rest.map fun v => v.category).sum ≤ 8) (hM : Ct l G d' y cy ny ry [x0] h P) (kk : ∀ v h', P v h' → AW l G d own cc nL ret (pc + 3) lv (v.toList ++ rest) h' Q) : AW l G d own cc nL ret pc lv (x0 :: rest) h Q := a_callS (As := [x0]) hdg hl hw hd hr hM kk
theorem a_cS1i {d' index : Nat} {y : MethodName} {cy : ByteArray} {ny : Nat} {ry : Option FieldType} {x0 : Value} {rest : List Value} {r : Int32} {h2 : AH} (hdg : decode cc pc = .ok (.invokestatic index, 3)) (hl : Cond.methodLink own index y ∈ gtbl) (hw : WS y cy ny ry 1) (hd : d' < d) (hr : (rest.map fun v => v.category).sum ≤ 8) (hM : Ct l G d' y cy ny ry [x0] h (fun v h' => v = some (.int r) ∧ h' = h2)) (kk : AW l G d own cc nL ret (pc + 3) lv (.int r :: rest) h2 Q) : AW l G d own cc nL ret pc lv (x0 :: rest) h Q := a_callS (As := [x0]) hdg hl hw hd hr hM (fun v h' q => by obtain ⟨rfl, rfl⟩ := q; exact kk)
theorem a_cS1l {d' index : Nat} {y : MethodName} {cy : ByteArray} {ny : Nat} {ry : Option FieldType} {x0 : Value} {rest : List Value} {r : Int64} {h2 : AH} (hdg : decode cc pc = .ok (.invokestatic index, 3)) (hl : Cond.methodLink own index y ∈ gtbl) (hw : WS y cy ny ry 1) (hd : d' < d) (hr : (rest.map fun v => v.category).sum ≤ 8) (hM : Ct l G d' y cy ny ry [x0] h (fun v h' => v = some (.long r) ∧ h' = h2)) (kk : AW l G d own cc nL ret (pc + 3) lv (.long r :: rest) h2 Q) : AW l G d own cc nL ret pc lv (x0 :: rest) h Q := a_callS (As := [x0]) hdg hl hw hd hr hM (fun v h' q => by obtain ⟨rfl, rfl⟩ := q; exact kk)
theorem a_cS1v {d' index : Nat} {y : MethodName} {cy : ByteArray} {ny : Nat} {ry : Option FieldType} {x0 : Value} {rest : List Value} {h2 : AH} (hdg : decode cc pc = .ok (.invokestatic index, 3)) (hl : Cond.methodLink own index y ∈ gtbl) (hw : WS y cy ny ry 1) (hd : d' < d) (hr : (rest.map fun v => v.category).sum ≤ 8) (hM : Ct l G d' y cy ny ry [x0] h (fun v h' => v = none ∧ h' = h2)) (kk : AW l G d own cc nL ret (pc + 3) lv rest h2 Q) : AW l G d own cc nL ret pc lv (x0 :: rest) h Q := a_callS (As := [x0]) hdg hl hw hd hr hM (fun v h' q => by obtain ⟨rfl, rfl⟩ := q; exact kk)
theorem a_cV2 {d' index b k ci N : Nat} {y : MethodName} {cy : ByteArray} {ny : Nat} {ry : Option FieldType} {T : u_T} {x0 x1 : Value} {rest : List Value} {P : Option Value → AH → Prop} (hdg : decode cc pc = .ok (.invokevirtual index, 3)) (hl : Cond.methodLink own index y ∈ gtbl) (hw : WV y cy ny ry 2) (hk : kd b k = some (0, ci)) (hc : classes[ci]? = some (y.cls, T, N)) (hd : d' < d) (hr : (rest.map fun v => v.category).sum ≤ 8) (hM : Ct l G d' y cy ny ry (.ref (G.1 b k) :: [x0, x1]) h P) (kk : ∀ v h', P v h' → AW l G d own cc nL ret (pc + 3) lv (v.toList ++ rest) h' Q) : AW l G d own cc nL ret pc lv (x1 :: x0 :: .ref (G.1 b k) :: rest) h Q := a_callV (As := [x0, x1]) hdg hl hw hk hc hd hr hM kk
theorem a_cV2i {d' index b k ci N : Nat} {y : MethodName} {cy : ByteArray} {ny : Nat} {ry : Option FieldType} {T : u_T} {x0 x1 : Value} {rest : List Value} {r : Int32} {h2 : AH} (hdg : decode cc pc = .ok (.invokevirtual index, 3)) (hl : Cond.methodLink own index y ∈ gtbl) (hw : WV y cy ny ry 2) (hk : kd b k = some (0, ci)) (hc : classes[ci]? = some (y.cls, T, N)) (hd : d' < d) (hr : (rest.map fun v => v.category).sum ≤ 8) (hM : Ct l G d' y cy ny ry (.ref (G.1 b k) :: [x0, x1]) h (fun v h' => v = some (.int r) ∧ h' = h2)) (kk : AW l G d own cc nL ret (pc + 3) lv (.int r :: rest) h2 Q) : AW l G d own cc nL ret pc lv (x1 :: x0 :: .ref (G.1 b k) :: rest) h Q := a_callV (As := [x0, x1]) hdg hl hw hk hc hd hr hM (fun v h' q => by obtain ⟨rfl, rfl⟩ := q; exact kk)
theorem a_cV2l {d' index b k ci N : Nat} {y : MethodName} {cy : ByteArray} {ny : Nat} {ry : Option FieldType} {T : u_T} {x0 x1 : Value} {rest : List Value} {r : Int64} {h2 : AH} (hdg : decode cc pc = .ok (.invokevirtual index, 3)) (hl : Cond.methodLink own index y ∈ gtbl) (hw : WV y cy ny ry 2) (hk : kd b k = some (0, ci)) (hc : classes[ci]? = some (y.cls, T, N)) (hd : d' < d) (hr : (rest.map fun v => v.category).sum ≤ 8) (hM : Ct l G d' y cy ny ry (.ref (G.1 b k) :: [x0, x1]) h (fun v h' => v = some (.long r) ∧ h' = h2)) (kk : AW l G d own cc nL ret (pc + 3) lv (.long r :: rest) h2 Q) : AW l G d own cc nL ret pc lv (x1 :: x0 :: .ref (G.1 b k) :: rest) h Q := a_callV (As := [x0, x1]) hdg hl hw hk hc hd hr hM (fun v h' q => by obtain ⟨rfl, rfl⟩ := q; exact kk)
theorem a_cV2v {d' index b k ci N : Nat} {y : MethodName} {cy : ByteArray} {ny : Nat} {ry : Option FieldType} {T : u_T} {x0 x1 : Value} {rest : List Value} {h2 : AH} (hdg : decode cc pc = .ok (.invokevirtual index, 3)) (hl : Cond.methodLink own index y ∈ gtbl) (hw : WV y cy ny ry 2) (hk : kd b k = some (0, ci)) (hc : classes[ci]? = some (y.cls, T, N)) (hd : d' < d) (hr : (rest.map fun v => v.category).sum ≤ 8) (hM : Ct l G d' y cy ny ry (.ref (G.1 b k) :: [x0, x1]) h (fun v h' => v = none ∧ h' = h2)) (kk : AW l G d own cc nL ret (pc + 3) lv rest h2 Q) : AW l G d own cc nL ret pc lv (x1 :: x0 :: .ref (G.1 b k) :: rest) h Q := a_callV (As := [x0, x1]) hdg hl hw hk hc hd hr hM (fun v h' q => by obtain ⟨rfl, rfl⟩ := q; exact kk)
theorem a_cS2 {d' index : Nat} {y : MethodName} {cy : ByteArray} {ny : Nat} {ry : Option FieldType} {x0 x1 : Value} {rest : List Value} {P : Option Value → AH → Prop} (hdg : decode cc pc = .ok (.invokestatic index, 3)) (hl : Cond.methodLink own index y ∈ gtbl) (hw : WS y cy ny ry 2) (hd : d' < d) (hr : (rest.map fun v => v.category).sum ≤ 8) (hM : Ct l G d' y cy ny ry [x0, x1] h P) (kk : ∀ v h', P v h' → AW l G d own cc nL ret (pc + 3) lv (v.toList ++ rest) h' Q) : AW l G d own cc nL ret pc lv (x1 :: x0 :: rest) h Q := a_callS (As := [x0, x1]) hdg hl hw hd hr hM kk
theorem a_cS2i {d' index : Nat} {y : MethodName} {cy : ByteArray} {ny : Nat} {ry : Option FieldType} {x0 x1 : Value} {rest : List Value} {r : Int32} {h2 : AH} (hdg : decode cc pc = .ok (.invokestatic index, 3)) (hl : Cond.methodLink own index y ∈ gtbl) (hw : WS y cy ny ry 2) (hd : d' < d) (hr : (rest.map fun v => v.category).sum ≤ 8) (hM : Ct l G d' y cy ny ry [x0, x1] h (fun v h' => v = some (.int r) ∧ h' = h2)) (kk : AW l G d own cc nL ret (pc + 3) lv (.int r :: rest) h2 Q) : AW l G d own cc nL ret pc lv (x1 :: x0 :: rest) h Q := a_callS (As := [x0, x1]) hdg hl hw hd hr hM (fun v h' q => by obtain ⟨rfl, rfl⟩ := q; exact kk)
theorem a_cS2l {d' index : Nat} {y : MethodName} {cy : ByteArray} {ny : Nat} {ry : Option FieldType} {x0 x1 : Value} {rest : List Value} {r : Int64} {h2 : AH} (hdg : decode cc pc = .ok (.invokestatic index, 3)) (hl : Cond.methodLink own index y ∈ gtbl) (hw : WS y cy ny ry 2) (hd : d' < d) (hr : (rest.map fun v => v.category).sum ≤ 8) (hM : Ct l G d' y cy ny ry [x0, x1] h (fun v h' => v = some (.long r) ∧ h' = h2)) (kk : AW l G d own cc nL ret (pc + 3) lv (.long r :: rest) h2 Q) : AW l G d own cc nL ret pc lv (x1 :: x0 :: rest) h Q := a_callS (As := [x0, x1]) hdg hl hw hd hr hM (fun v h' q => by obtain ⟨rfl, rfl⟩ := q; exact kk)
theorem a_cS2v {d' index : Nat} {y : MethodName} {cy : ByteArray} {ny : Nat} {ry : Option FieldType} {x0 x1 : Value} {rest : List Value} {h2 : AH} (hdg : decode cc pc = .ok (.invokestatic index, 3)) (hl : Cond.methodLink own index y ∈ gtbl) (hw : WS y cy ny ry 2) (hd : d' < d) (hr : (rest.map fun v => v.category).sum ≤ 8) (hM : Ct l G d' y cy ny ry [x0, x1] h (fun v h' => v = none ∧ h' = h2)) (kk : AW l G d own cc nL ret (pc + 3) lv rest h2 Q) : AW l G d own cc nL ret pc lv (x1 :: x0 :: rest) h Q := a_callS (As := [x0, x1]) hdg hl hw hd hr hM (fun v h' q => by obtain ⟨rfl, rfl⟩ := q; exact kk)
theorem a_cV3 {d' index b k ci N : Nat} {y : MethodName} {cy : ByteArray} {ny : Nat} {ry : Option FieldType} {T : u_T} {x0 x1 x2 : Value} {rest : List Value} {P : Option Value → AH → Prop} (hdg : decode cc pc = .ok (.invokevirtual index, 3)) (hl : Cond.methodLink own index y ∈ gtbl) (hw : WV y cy ny ry 3) (hk : kd b k = some (0, ci)) (hc : classes[ci]? = some (y.cls, T, N)) (hd : d' < d) (hr : (rest.map fun v => v.category).sum ≤ 8) (hM : Ct l G d' y cy ny ry (.ref (G.1 b k) :: [x0, x1, x2]) h P) (kk : ∀ v h', P v h' → AW l G d own cc nL ret (pc + 3) lv (v.toList ++ rest) h' Q) : AW l G d own cc nL ret pc lv (x2 :: x1 :: x0 :: .ref (G.1 b k) :: rest) h Q := a_callV (As := [x0, x1, x2]) hdg hl hw hk hc hd hr hM kk
theorem a_cV3i {d' index b k ci N : Nat} {y : MethodName} {cy : ByteArray} {ny : Nat} {ry : Option FieldType} {T : u_T} {x0 x1 x2 : Value} {rest : List Value} {r : Int32} {h2 : AH} (hdg : decode cc pc = .ok (.invokevirtual index, 3)) (hl : Cond.methodLink own index y ∈ gtbl) (hw : WV y cy ny ry 3) (hk : kd b k = some (0, ci)) (hc : classes[ci]? = some (y.cls, T, N)) (hd : d' < d) (hr : (rest.map fun v => v.category).sum ≤ 8) (hM : Ct l G d' y cy ny ry (.ref (G.1 b k) :: [x0, x1, x2]) h (fun v h' => v = some (.int r) ∧ h' = h2)) (kk : AW l G d own cc nL ret (pc + 3) lv (.int r :: rest) h2 Q) : AW l G d own cc nL ret pc lv (x2 :: x1 :: x0 :: .ref (G.1 b k) :: rest) h Q := a_callV (As := [x0, x1, x2]) hdg hl hw hk hc hd hr hM (fun v h' q => by obtain ⟨rfl, rfl⟩ := q; exact kk)
theorem a_cV3l {d' index b k ci N : Nat} {y : MethodName} {cy : ByteArray} {ny : Nat} {ry : Option FieldType} {T : u_T} {x0 x1 x2 : Value} {rest : List Value} {r : Int64} {h2 : AH} (hdg : decode cc pc = .ok (.invokevirtual index, 3)) (hl : Cond.methodLink own index y ∈ gtbl) (hw : WV y cy ny ry 3) (hk : kd b k = some (0, ci)) (hc : classes[ci]? = some (y.cls, T, N)) (hd : d' < d) (hr : (rest.map fun v => v.category).sum ≤ 8) (hM : Ct l G d' y cy ny ry (.ref (G.1 b k) :: [x0, x1, x2]) h (fun v h' => v = some (.long r) ∧ h' = h2)) (kk : AW l G d own cc nL ret (pc + 3) lv (.long r :: rest) h2 Q) : AW l G d own cc nL ret pc lv (x2 :: x1 :: x0 :: .ref (G.1 b k) :: rest) h Q := a_callV (As := [x0, x1, x2]) hdg hl hw hk hc hd hr hM (fun v h' q => by obtain ⟨rfl, rfl⟩ := q; exact kk)
theorem a_cV3v {d' index b k ci N : Nat} {y : MethodName} {cy : ByteArray} {ny : Nat} {ry : Option FieldType} {T : u_T} {x0 x1 x2 : Value} {rest : List Value} {h2 : AH} (hdg : decode cc pc = .ok (.invokevirtual index, 3)) (hl : Cond.methodLink own index y ∈ gtbl) (hw : WV y cy ny ry 3) (hk : kd b k = some (0, ci)) (hc : classes[ci]? = some (y.cls, T, N)) (hd : d' < d) (hr : (rest.map fun v => v.category).sum ≤ 8) (hM : Ct l G d' y cy ny ry (.ref (G.1 b k) :: [x0, x1, x2]) h (fun v h' => v = none ∧ h' = h2)) (kk : AW l G d own cc nL ret (pc + 3) lv rest h2 Q) : AW l G d own cc nL ret pc lv (x2 :: x1 :: x0 :: .ref (G.1 b k) :: rest) h Q := a_callV (As := [x0, x1, x2]) hdg hl hw hk hc hd hr hM (fun v h' q => by obtain ⟨rfl, rfl⟩ := q; exact kk)
theorem a_cS3 {d' index : Nat} {y : MethodName} {cy : ByteArray} {ny : Nat} {ry : Option FieldType} {x0 x1 x2 : Value} {rest : List Value} {P : Option Value → AH → Prop} (hdg : decode cc pc = .ok (.invokestatic index, 3)) (hl : Cond.methodLink own index y ∈ gtbl) (hw : WS y cy ny ry 3) (hd : d' < d) (hr : (rest.map fun v => v.category).sum ≤ 8) (hM : Ct l G d' y cy ny ry [x0, x1, x2] h P) (kk : ∀ v h', P v h' → AW l G d own cc nL ret (pc + 3) lv (v.toList ++ rest) h' Q) : AW l G d own cc nL ret pc lv (x2 :: x1 :: x0 :: rest) h Q := a_callS (As := [x0, x1, x2]) hdg hl hw hd hr hM kk
theorem a_cS3i {d' index : Nat} {y : MethodName} {cy : ByteArray} {ny : Nat} {ry : Option FieldType} {x0 x1 x2 : Value} {rest : List Value} {r : Int32} {h2 : AH} (hdg : decode cc pc = .ok (.invokestatic index, 3)) (hl : Cond.methodLink own index y ∈ gtbl) (hw : WS y cy ny ry 3) (hd : d' < d) (hr : (rest.map fun v => v.category).sum ≤ 8) (hM : Ct l G d' y cy ny ry [x0, x1, x2] h (fun v h' => v = some (.int r) ∧ h' = h2)) (kk : AW l G d own cc nL ret (pc + 3) lv (.int r :: rest) h2 Q) : AW l G d own cc nL ret pc lv (x2 :: x1 :: x0 :: rest) h Q := a_callS (As := [x0, x1, x2]) hdg hl hw hd hr hM (fun v h' q => by obtain ⟨rfl, rfl⟩ := q; exact kk)
theorem a_cS3l {d' index : Nat} {y : MethodName} {cy : ByteArray} {ny : Nat} {ry : Option FieldType} {x0 x1 x2 : Value} {rest : List Value} {r : Int64} {h2 : AH} (hdg : decode cc pc = .ok (.invokestatic index, 3)) (hl : Cond.methodLink own index y ∈ gtbl) (hw : WS y cy ny ry 3) (hd : d' < d) (hr : (rest.map fun v => v.category).sum ≤ 8) (hM : Ct l G d' y cy ny ry [x0, x1, x2] h (fun v h' => v = some (.long r) ∧ h' = h2)) (kk : AW l G d own cc nL ret (pc + 3) lv (.long r :: rest) h2 Q) : AW l G d own cc nL ret pc lv (x2 :: x1 :: x0 :: rest) h Q := a_callS (As := [x0, x1, x2]) hdg hl hw hd hr hM (fun v h' q => by obtain ⟨rfl, rfl⟩ := q; exact kk)
theorem a_cS3v {d' index : Nat} {y : MethodName} {cy : ByteArray} {ny : Nat} {ry : Option FieldType} {x0 x1 x2 : Value} {rest : List Value} {h2 : AH} (hdg : decode cc pc = .ok (.invokestatic index, 3)) (hl : Cond.methodLink own index y ∈ gtbl) (hw : WS y cy ny ry 3) (hd : d' < d) (hr : (rest.map fun v => v.category).sum ≤ 8) (hM : Ct l G d' y cy ny ry [x0, x1, x2] h (fun v h' => v = none ∧ h' = h2)) (kk : AW l G d own cc nL ret (pc + 3) lv rest h2 Q) : AW l G d own cc nL ret pc lv (x2 :: x1 :: x0 :: rest) h Q := a_callS (As := [x0, x1, x2]) hdg hl hw hd hr hM (fun v h' q => by obtain ⟨rfl, rfl⟩ := q; exact kk)
theorem a_cV4 {d' index b k ci N : Nat} {y : MethodName} {cy : ByteArray} {ny : Nat} {ry : Option FieldType} {T : u_T} {x0 x1 x2 x3 : Value} {rest : List Value} {P : Option Value → AH → Prop} (hdg : decode cc pc = .ok (.invokevirtual index, 3)) (hl : Cond.methodLink own index y ∈ gtbl) (hw : WV y cy ny ry 4) (hk : kd b k = some (0, ci)) (hc : classes[ci]? = some (y.cls, T, N)) (hd : d' < d) (hr : (rest.map fun v => v.category).sum ≤ 8) (hM : Ct l G d' y cy ny ry (.ref (G.1 b k) :: [x0, x1, x2, x3]) h P) (kk : ∀ v h', P v h' → AW l G d own cc nL ret (pc + 3) lv (v.toList ++ rest) h' Q) : AW l G d own cc nL ret pc lv (x3 :: x2 :: x1 :: x0 :: .ref (G.1 b k) :: rest) h Q := a_callV (As := [x0, x1, x2, x3]) hdg hl hw hk hc hd hr hM kk
theorem a_cV4i {d' index b k ci N : Nat} {y : MethodName} {cy : ByteArray} {ny : Nat} {ry : Option FieldType} {T : u_T} {x0 x1 x2 x3 : Value} {rest : List Value} {r : Int32} {h2 : AH} (hdg : decode cc pc = .ok (.invokevirtual index, 3)) (hl : Cond.methodLink own index y ∈ gtbl) (hw : WV y cy ny ry 4) (hk : kd b k = some (0, ci)) (hc : classes[ci]? = some (y.cls, T, N)) (hd : d' < d) (hr : (rest.map fun v => v.category).sum ≤ 8) (hM : Ct l G d' y cy ny ry (.ref (G.1 b k) :: [x0, x1, x2, x3]) h (fun v h' => v = some (.int r) ∧ h' = h2)) (kk : AW l G d own cc nL ret (pc + 3) lv (.int r :: rest) h2 Q) : AW l G d own cc nL ret pc lv (x3 :: x2 :: x1 :: x0 :: .ref (G.1 b k) :: rest) h Q := a_callV (As := [x0, x1, x2, x3]) hdg hl hw hk hc hd hr hM (fun v h' q => by obtain ⟨rfl, rfl⟩ := q; exact kk)
theorem a_cV4l {d' index b k ci N : Nat} {y : MethodName} {cy : ByteArray} {ny : Nat} {ry : Option FieldType} {T : u_T} {x0 x1 x2 x3 : Value} {rest : List Value} {r : Int64} {h2 : AH} (hdg : decode cc pc = .ok (.invokevirtual index, 3)) (hl : Cond.methodLink own index y ∈ gtbl) (hw : WV y cy ny ry 4) (hk : kd b k = some (0, ci)) (hc : classes[ci]? = some (y.cls, T, N)) (hd : d' < d) (hr : (rest.map fun v => v.category).sum ≤ 8) (hM : Ct l G d' y cy ny ry (.ref (G.1 b k) :: [x0, x1, x2, x3]) h (fun v h' => v = some (.long r) ∧ h' = h2)) (kk : AW l G d own cc nL ret (pc + 3) lv (.long r :: rest) h2 Q) : AW l G d own cc nL ret pc lv (x3 :: x2 :: x1 :: x0 :: .ref (G.1 b k) :: rest) h Q := a_callV (As := [x0, x1, x2, x3]) hdg hl hw hk hc hd hr hM (fun v h' q => by obtain ⟨rfl, rfl⟩ := q; exact kk)
theorem a_cV4v {d' index b k ci N : Nat} {y : MethodName} {cy : ByteArray} {ny : Nat} {ry : Option FieldType} {T : u_T} {x0 x1 x2 x3 : Value} {rest : List Value} {h2 : AH} (hdg : decode cc pc = .ok (.invokevirtual index, 3)) (hl : Cond.methodLink own index y ∈ gtbl) (hw : WV y cy ny ry 4) (hk : kd b k = some (0, ci)) (hc : classes[ci]? = some (y.cls, T, N)) (hd : d' < d) (hr : (rest.map fun v => v.category).sum ≤ 8) (hM : Ct l G d' y cy ny ry (.ref (G.1 b k) :: [x0, x1, x2, x3]) h (fun v h' => v = none ∧ h' = h2)) (kk : AW l G d own cc nL ret (pc + 3) lv rest h2 Q) : AW l G d own cc nL ret pc lv (x3 :: x2 :: x1 :: x0 :: .ref (G.1 b k) :: rest) h Q := a_callV (As := [x0, x1, x2, x3]) hdg hl hw hk hc hd hr hM (fun v h' q => by obtain ⟨rfl, rfl⟩ := q; exact kk)
theorem a_cS4 {d' index : Nat} {y : MethodName} {cy : ByteArray} {ny : Nat} {ry : Option FieldType} {x0 x1 x2 x3 : Value} {rest : List Value} {P : Option Value → AH → Prop} (hdg : decode cc pc = .ok (.invokestatic index, 3)) (hl : Cond.methodLink own index y ∈ gtbl) (hw : WS y cy ny ry 4) (hd : d' < d) (hr : (rest.map fun v => v.category).sum ≤ 8) (hM : Ct l G d' y cy ny ry [x0, x1, x2, x3] h P) (kk : ∀ v h', P v h' → AW l G d own cc nL ret (pc + 3) lv (v.toList ++ rest) h' Q) : AW l G d own cc nL ret pc lv (x3 :: x2 :: x1 :: x0 :: rest) h Q := a_callS (As := [x0, x1, x2, x3]) hdg hl hw hd hr hM kk
theorem a_cS4i {d' index : Nat} {y : MethodName} {cy : ByteArray} {ny : Nat} {ry : Option FieldType} {x0 x1 x2 x3 : Value} {rest : List Value} {r : Int32} {h2 : AH} (hdg : decode cc pc = .ok (.invokestatic index, 3)) (hl : Cond.methodLink own index y ∈ gtbl) (hw : WS y cy ny ry 4) (hd : d' < d) (hr : (rest.map fun v => v.category).sum ≤ 8) (hM : Ct l G d' y cy ny ry [x0, x1, x2, x3] h (fun v h' => v = some (.int r) ∧ h' = h2)) (kk : AW l G d own cc nL ret (pc + 3) lv (.int r :: rest) h2 Q) : AW l G d own cc nL ret pc lv (x3 :: x2 :: x1 :: x0 :: rest) h Q := a_callS (As := [x0, x1, x2, x3]) hdg hl hw hd hr hM (fun v h' q => by obtain ⟨rfl, rfl⟩ := q; exact kk)
theorem a_cS4l {d' index : Nat} {y : MethodName} {cy : ByteArray} {ny : Nat} {ry : Option FieldType} {x0 x1 x2 x3 : Value} {rest : List Value} {r : Int64} {h2 : AH} (hdg : decode cc pc = .ok (.invokestatic index, 3)) (hl : Cond.methodLink own index y ∈ gtbl) (hw : WS y cy ny ry 4) (hd : d' < d) (hr : (rest.map fun v => v.category).sum ≤ 8) (hM : Ct l G d' y cy ny ry [x0, x1, x2, x3] h (fun v h' => v = some (.long r) ∧ h' = h2)) (kk : AW l G d own cc nL ret (pc + 3) lv (.long r :: rest) h2 Q) : AW l G d own cc nL ret pc lv (x3 :: x2 :: x1 :: x0 :: rest) h Q := a_callS (As := [x0, x1, x2, x3]) hdg hl hw hd hr hM (fun v h' q => by obtain ⟨rfl, rfl⟩ := q; exact kk)
theorem a_cS4v {d' index : Nat} {y : MethodName} {cy : ByteArray} {ny : Nat} {ry : Option FieldType} {x0 x1 x2 x3 : Value} {rest : List Value} {h2 : AH} (hdg : decode cc pc = .ok (.invokestatic index, 3)) (hl : Cond.methodLink own index y ∈ gtbl) (hw : WS y cy ny ry 4) (hd : d' < d) (hr : (rest.map fun v => v.category).sum ≤ 8) (hM : Ct l G d' y cy ny ry [x0, x1, x2, x3] h (fun v h' => v = none ∧ h' = h2)) (kk : AW l G d own cc nL ret (pc + 3) lv rest h2 Q) : AW l G d own cc nL ret pc lv (x3 :: x2 :: x1 :: x0 :: rest) h Q := a_callS (As := [x0, x1, x2, x3]) hdg hl hw hd hr hM (fun v h' q => by obtain ⟨rfl, rfl⟩ := q; exact kk)
theorem a_cV5 {d' index b k ci N : Nat} {y : MethodName} {cy : ByteArray} {ny : Nat} {ry : Option FieldType} {T : u_T} {x0 x1 x2 x3 x4 : Value} {rest : List Value} {P : Option Value → AH → Prop} (hdg : decode cc pc = .ok (.invokevirtual index, 3)) (hl : Cond.methodLink own index y ∈ gtbl) (hw : WV y cy ny ry 5) (hk : kd b k = some (0, ci)) (hc : classes[ci]? = some (y.cls, T, N)) (hd : d' < d) (hr : (rest.map fun v => v.category).sum ≤ 8) (hM : Ct l G d' y cy ny ry (.ref (G.1 b k) :: [x0, x1, x2, x3, x4]) h P) (kk : ∀ v h', P v h' → AW l G d own cc nL ret (pc + 3) lv (v.toList ++ rest) h' Q) : AW l G d own cc nL ret pc lv (x4 :: x3 :: x2 :: x1 :: x0 :: .ref (G.1 b k) :: rest) h Q := a_callV (As := [x0, x1, x2, x3, x4]) hdg hl hw hk hc hd hr hM kk
theorem a_cV5i {d' index b k ci N : Nat} {y : MethodName} {cy : ByteArray} {ny : Nat} {ry : Option FieldType} {T : u_T} {x0 x1 x2 x3 x4 : Value} {rest : List Value} {r : Int32} {h2 : AH} (hdg : decode cc pc = .ok (.invokevirtual index, 3)) (hl : Cond.methodLink own index y ∈ gtbl) (hw : WV y cy ny ry 5) (hk : kd b k = some (0, ci)) (hc : classes[ci]? = some (y.cls, T, N)) (hd : d' < d) (hr : (rest.map fun v => v.category).sum ≤ 8) (hM : Ct l G d' y cy ny ry (.ref (G.1 b k) :: [x0, x1, x2, x3, x4]) h (fun v h' => v = some (.int r) ∧ h' = h2)) (kk : AW l G d own cc nL ret (pc + 3) lv (.int r :: rest) h2 Q) : AW l G d own cc nL ret pc lv (x4 :: x3 :: x2 :: x1 :: x0 :: .ref (G.1 b k) :: rest) h Q := a_callV (As := [x0, x1, x2, x3, x4]) hdg hl hw hk hc hd hr hM (fun v h' q => by obtain ⟨rfl, rfl⟩ := q; exact kk)
theorem a_cV5l {d' index b k ci N : Nat} {y : MethodName} {cy : ByteArray} {ny : Nat} {ry : Option FieldType} {T : u_T} {x0 x1 x2 x3 x4 : Value} {rest : List Value} {r : Int64} {h2 : AH} (hdg : decode cc pc = .ok (.invokevirtual index, 3)) (hl : Cond.methodLink own index y ∈ gtbl) (hw : WV y cy ny ry 5) (hk : kd b k = some (0, ci)) (hc : classes[ci]? = some (y.cls, T, N)) (hd : d' < d) (hr : (rest.map fun v => v.category).sum ≤ 8) (hM : Ct l G d' y cy ny ry (.ref (G.1 b k) :: [x0, x1, x2, x3, x4]) h (fun v h' => v = some (.long r) ∧ h' = h2)) (kk : AW l G d own cc nL ret (pc + 3) lv (.long r :: rest) h2 Q) : AW l G d own cc nL ret pc lv (x4 :: x3 :: x2 :: x1 :: x0 :: .ref (G.1 b k) :: rest) h Q := a_callV (As := [x0, x1, x2, x3, x4]) hdg hl hw hk hc hd hr hM (fun v h' q => by obtain ⟨rfl, rfl⟩ := q; exact kk)
theorem a_cV5v {d' index b k ci N : Nat} {y : MethodName} {cy : ByteArray} {ny : Nat} {ry : Option FieldType} {T : u_T} {x0 x1 x2 x3 x4 : Value} {rest : List Value} {h2 : AH} (hdg : decode cc pc = .ok (.invokevirtual index, 3)) (hl : Cond.methodLink own index y ∈ gtbl) (hw : WV y cy ny ry 5) (hk : kd b k = some (0, ci)) (hc : classes[ci]? = some (y.cls, T, N)) (hd : d' < d) (hr : (rest.map fun v => v.category).sum ≤ 8) (hM : Ct l G d' y cy ny ry (.ref (G.1 b k) :: [x0, x1, x2, x3, x4]) h (fun v h' => v = none ∧ h' = h2)) (kk : AW l G d own cc nL ret (pc + 3) lv rest h2 Q) : AW l G d own cc nL ret pc lv (x4 :: x3 :: x2 :: x1 :: x0 :: .ref (G.1 b k) :: rest) h Q := a_callV (As := [x0, x1, x2, x3, x4]) hdg hl hw hk hc hd hr hM (fun v h' q => by obtain ⟨rfl, rfl⟩ := q; exact kk)
theorem a_cS5 {d' index : Nat} {y : MethodName} {cy : ByteArray} {ny : Nat} {ry : Option FieldType} {x0 x1 x2 x3 x4 : Value} {rest : List Value} {P : Option Value → AH → Prop} (hdg : decode cc pc = .ok (.invokestatic index, 3)) (hl : Cond.methodLink own index y ∈ gtbl) (hw : WS y cy ny ry 5) (hd : d' < d) (hr : (rest.map fun v => v.category).sum ≤ 8) (hM : Ct l G d' y cy ny ry [x0, x1, x2, x3, x4] h P) (kk : ∀ v h', P v h' → AW l G d own cc nL ret (pc + 3) lv (v.toList ++ rest) h' Q) : AW l G d own cc nL ret pc lv (x4 :: x3 :: x2 :: x1 :: x0 :: rest) h Q := a_callS (As := [x0, x1, x2, x3, x4]) hdg hl hw hd hr hM kk
theorem a_cS5i {d' index : Nat} {y : MethodName} {cy : ByteArray} {ny : Nat} {ry : Option FieldType} {x0 x1 x2 x3 x4 : Value} {rest : List Value} {r : Int32} {h2 : AH} (hdg : decode cc pc = .ok (.invokestatic index, 3)) (hl : Cond.methodLink own index y ∈ gtbl) (hw : WS y cy ny ry 5) (hd : d' < d) (hr : (rest.map fun v => v.category).sum ≤ 8) (hM : Ct l G d' y cy ny ry [x0, x1, x2, x3, x4] h (fun v h' => v = some (.int r) ∧ h' = h2)) (kk : AW l G d own cc nL ret (pc + 3) lv (.int r :: rest) h2 Q) : AW l G d own cc nL ret pc lv (x4 :: x3 :: x2 :: x1 :: x0 :: rest) h Q := a_callS (As := [x0, x1, x2, x3, x4]) hdg hl hw hd hr hM (fun v h' q => by obtain ⟨rfl, rfl⟩ := q; exact kk)
theorem a_cS5l {d' index : Nat} {y : MethodName} {cy : ByteArray} {ny : Nat} {ry : Option FieldType} {x0 x1 x2 x3 x4 : Value} {rest : List Value} {r : Int64} {h2 : AH} (hdg : decode cc pc = .ok (.invokestatic index, 3)) (hl : Cond.methodLink own index y ∈ gtbl) (hw : WS y cy ny ry 5) (hd : d' < d) (hr : (rest.map fun v => v.category).sum ≤ 8) (hM : Ct l G d' y cy ny ry [x0, x1, x2, x3, x4] h (fun v h' => v = some (.long r) ∧ h' = h2)) (kk : AW l G d own cc nL ret (pc + 3) lv (.long r :: rest) h2 Q) : AW l G d own cc nL ret pc lv (x4 :: x3 :: x2 :: x1 :: x0 :: rest) h Q := a_callS (As := [x0, x1, x2, x3, x4]) hdg hl hw hd hr hM (fun v h' q => by obtain ⟨rfl, rfl⟩ := q; exact kk)
theorem a_cS5v {d' index : Nat} {y : MethodName} {cy : ByteArray} {ny : Nat} {ry : Option FieldType} {x0 x1 x2 x3 x4 : Value} {rest : List Value} {h2 : AH} (hdg : decode cc pc = .ok (.invokestatic index, 3)) (hl : Cond.methodLink own index y ∈ gtbl) (hw : WS y cy ny ry 5) (hd : d' < d) (hr : (rest.map fun v => v.category).sum ≤ 8) (hM : Ct l G d' y cy ny ry [x0, x1, x2, x3, x4] h (fun v h' => v = none ∧ h' = h2)) (kk : AW l G d own cc nL ret (pc + 3) lv rest h2 Q) : AW l G d own cc nL ret pc lv (x4 :: x3 :: x2 :: x1 :: x0 :: rest) h Q := a_callS (As := [x0, x1, x2, x3, x4]) hdg hl hw hd hr hM (fun v h' q => by obtain ⟨rfl, rfl⟩ := q; exact kk)
theorem a_cS6 {d' index : Nat} {y : MethodName} {cy : ByteArray} {ny : Nat} {ry : Option FieldType} {x0 x1 x2 x3 x4 x5 : Value} {rest : List Value} {P : Option Value → AH → Prop} (hdg : decode cc pc = .ok (.invokestatic index, 3)) (hl : Cond.methodLink own index y ∈ gtbl) (hw : WS y cy ny ry 6) (hd : d' < d) (hr : (rest.map fun v => v.category).sum ≤ 8) (hM : Ct l G d' y cy ny ry [x0, x1, x2, x3, x4, x5] h P) (kk : ∀ v h', P v h' → AW l G d own cc nL ret (pc + 3) lv (v.toList ++ rest) h' Q) : AW l G d own cc nL ret pc lv (x5 :: x4 :: x3 :: x2 :: x1 :: x0 :: rest) h Q := a_callS (As := [x0, x1, x2, x3, x4, x5]) hdg hl hw hd hr hM kk
theorem a_cS6i {d' index : Nat} {y : MethodName} {cy : ByteArray} {ny : Nat} {ry : Option FieldType} {x0 x1 x2 x3 x4 x5 : Value} {rest : List Value} {r : Int32} {h2 : AH} (hdg : decode cc pc = .ok (.invokestatic index, 3)) (hl : Cond.methodLink own index y ∈ gtbl) (hw : WS y cy ny ry 6) (hd : d' < d) (hr : (rest.map fun v => v.category).sum ≤ 8) (hM : Ct l G d' y cy ny ry [x0, x1, x2, x3, x4, x5] h (fun v h' => v = some (.int r) ∧ h' = h2)) (kk : AW l G d own cc nL ret (pc + 3) lv (.int r :: rest) h2 Q) : AW l G d own cc nL ret pc lv (x5 :: x4 :: x3 :: x2 :: x1 :: x0 :: rest) h Q := a_callS (As := [x0, x1, x2, x3, x4, x5]) hdg hl hw hd hr hM (fun v h' q => by obtain ⟨rfl, rfl⟩ := q; exact kk)
theorem a_cS6l {d' index : Nat} {y : MethodName} {cy : ByteArray} {ny : Nat} {ry : Option FieldType} {x0 x1 x2 x3 x4 x5 : Value} {rest : List Value} {r : Int64} {h2 : AH} (hdg : decode cc pc = .ok (.invokestatic index, 3)) (hl : Cond.methodLink own index y ∈ gtbl) (hw : WS y cy ny ry 6) (hd : d' < d) (hr : (rest.map fun v => v.category).sum ≤ 8) (hM : Ct l G d' y cy ny ry [x0, x1, x2, x3, x4, x5] h (fun v h' => v = some (.long r) ∧ h' = h2)) (kk : AW l G d own cc nL ret (pc + 3) lv (.long r :: rest) h2 Q) : AW l G d own cc nL ret pc lv (x5 :: x4 :: x3 :: x2 :: x1 :: x0 :: rest) h Q := a_callS (As := [x0, x1, x2, x3, x4, x5]) hdg hl hw hd hr hM (fun v h' q => by obtain ⟨rfl, rfl⟩ := q; exact kk)
theorem a_cS6v {d' index : Nat} {y : MethodName} {cy : ByteArray} {ny : Nat} {ry : Option FieldType} {x0 x1 x2 x3 x4 x5 : Value} {rest : List Value} {h2 : AH} (hdg : decode cc pc = .ok (.invokestatic index, 3)) (hl : Cond.methodLink own index y ∈ gtbl) (hw : WS y cy ny ry 6) (hd : d' < d) (hr : (rest.map fun v => v.category).sum ≤ 8) (hM : Ct l G d' y cy ny ry [x0, x1, x2, x3, x4, x5] h (fun v h' => v = none ∧ h' = h2)) (kk : AW l G d own cc nL ret (pc + 3) lv rest h2 Q) : AW l G d own cc nL ret pc lv (x5 :: x4 :: x3 :: x2 :: x1 :: x0 :: rest) h Q := a_callS (As := [x0, x1, x2, x3, x4, x5]) hdg hl hw hd hr hM (fun v h' q => by obtain ⟨rfl, rfl⟩ := q; exact kk)
theorem a_mmax {index : Nat} {x y : Int32} (hdg : decode cc pc = .ok (.invokestatic index, 3)) (hl : Cond.methodLink own index Lib.Math.max.name ∈ gtbl) (hd : 0 < d) (hr : (st.map fun v => v.category).sum ≤ 8) (k : AW l G d own cc nL ret (pc + 3) lv (.int (if x < y then y else x) :: st) h Q) : AW l G d own cc nL ret pc lv (.int y :: .int x :: st) h Q := fun p e s m args below meth c H locs ls C hW hS hlv => va_mmax (R := rmD d) C.1 C.2.1 (by rw [hlv.1]; exact C.2.2.1) C.2.2.2.1 (C.2.2.2.2.1 _ hl) (C.2.2.2.2.1 _ mmax_st) (C.2.2.2.2.1 _ math_in) (C.2.2.2.2.1 _ mmax_cd) (show 1 ≤ (rmD d).frames from hd) (by show _ + 13 ≤ 36 * d; omega) (Nat.zero_le _) (Nat.zero_le _) hdg (k p e s m args below meth c H locs ls C hW hS hlv)
theorem a_mmin {index : Nat} {x y : Int32} (hdg : decode cc pc = .ok (.invokestatic index, 3)) (hl : Cond.methodLink own index Lib.Math.min.name ∈ gtbl) (hd : 0 < d) (hr : (st.map fun v => v.category).sum ≤ 8) (k : AW l G d own cc nL ret (pc + 3) lv (.int (if y < x then y else x) :: st) h Q) : AW l G d own cc nL ret pc lv (.int y :: .int x :: st) h Q := fun p e s m args below meth c H locs ls C hW hS hlv => va_mmin (R := rmD d) C.1 C.2.1 (by rw [hlv.1]; exact C.2.2.1) C.2.2.2.1 (C.2.2.2.2.1 _ hl) (C.2.2.2.2.1 _ mmin_st) (C.2.2.2.2.1 _ math_in) (C.2.2.2.2.1 _ mmin_cd) (show 1 ≤ (rmD d).frames from hd) (by show _ + 13 ≤ 36 * d; omega) (Nat.zero_le _) (Nat.zero_le _) hdg (k p e s m args below meth c H locs ls C hW hS hlv)
end AMEM
end
