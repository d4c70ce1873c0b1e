section
-- ===== PART A: goes FIRST, ahead of the names: the tables' words, and 'selects' of the private methods out of them =====
/-- a private method of a class that the tables say can be made, by its rows of tables_1 -/
def lw_okq (q : MethodName × Nat) : Prop := (q.1.cls ≠ "java/lang/invoke/MethodHandle" ∧ q.1.cls ≠ "java/lang/invoke/VarHandle") ∧ Cond.instantiable q.1.cls q.2 ∈ tables_1 ∧ Cond.privateMethod q.1 ∈ tables_1 ∧ Cond.instanceMethod q.1 ∈ tables_1
theorem lw_p0 : lw_okq (⟨"PermitOffice$Tokens", "skipBlanks", "(I)I"⟩, 5) := ⟨⟨by decide +kernel, by decide +kernel⟩, List.mem_of_getElem? (i := 49) (by decide +kernel), List.mem_of_getElem? (i := 452) (by decide +kernel), List.mem_of_getElem? (i := 453) (by decide +kernel)⟩
theorem lw_p1 : lw_okq (⟨"PermitOffice$Tokens", "readRun", "()V"⟩, 5) := ⟨⟨by decide +kernel, by decide +kernel⟩, List.mem_of_getElem? (i := 49) (by decide +kernel), List.mem_of_getElem? (i := 469) (by decide +kernel), List.mem_of_getElem? (i := 470) (by decide +kernel)⟩
theorem lw_p2 : lw_okq (⟨"PermitOffice$Reader", "takeToken", "(LPermitOffice$Books;)Z"⟩, 10) := ⟨⟨by decide +kernel, by decide +kernel⟩, List.mem_of_getElem? (i := 47) (by decide +kernel), List.mem_of_getElem? (i := 473) (by decide +kernel), List.mem_of_getElem? (i := 474) (by decide +kernel)⟩
theorem lw_p3 : lw_okq (⟨"PermitOffice$Reader", "beginLine", "(LPermitOffice$Books;)Z"⟩, 10) := ⟨⟨by decide +kernel, by decide +kernel⟩, List.mem_of_getElem? (i := 47) (by decide +kernel), List.mem_of_getElem? (i := 477) (by decide +kernel), List.mem_of_getElem? (i := 478) (by decide +kernel)⟩
theorem lw_p4 : lw_okq (⟨"PermitOffice$Reader", "sortOfWord", "()I"⟩, 10) := ⟨⟨by decide +kernel, by decide +kernel⟩, List.mem_of_getElem? (i := 47) (by decide +kernel), List.mem_of_getElem? (i := 481) (by decide +kernel), List.mem_of_getElem? (i := 482) (by decide +kernel)⟩
theorem lw_p5 : lw_okq (⟨"PermitOffice$Reader", "refuse", "(I)Z"⟩, 10) := ⟨⟨by decide +kernel, by decide +kernel⟩, List.mem_of_getElem? (i := 47) (by decide +kernel), List.mem_of_getElem? (i := 541) (by decide +kernel), List.mem_of_getElem? (i := 542) (by decide +kernel)⟩
theorem lw_p6 : lw_okq (⟨"PermitOffice$Reader", "takeKind", "()Z"⟩, 10) := ⟨⟨by decide +kernel, by decide +kernel⟩, List.mem_of_getElem? (i := 47) (by decide +kernel), List.mem_of_getElem? (i := 545) (by decide +kernel), List.mem_of_getElem? (i := 546) (by decide +kernel)⟩
theorem lw_p7 : lw_okq (⟨"PermitOffice$Reader", "putNumber", "(I)V"⟩, 10) := ⟨⟨by decide +kernel, by decide +kernel⟩, List.mem_of_getElem? (i := 47) (by decide +kernel), List.mem_of_getElem? (i := 552) (by decide +kernel), List.mem_of_getElem? (i := 553) (by decide +kernel)⟩
theorem lw_p8 : lw_okq (⟨"PermitOffice$Reader", "isWhole", "()Z"⟩, 10) := ⟨⟨by decide +kernel, by decide +kernel⟩, List.mem_of_getElem? (i := 47) (by decide +kernel), List.mem_of_getElem? (i := 556) (by decide +kernel), List.mem_of_getElem? (i := 557) (by decide +kernel)⟩
theorem lw_p9 : lw_okq (⟨"PermitOffice$Reader", "meaningNow", "()I"⟩, 10) := ⟨⟨by decide +kernel, by decide +kernel⟩, List.mem_of_getElem? (i := 47) (by decide +kernel), List.mem_of_getElem? (i := 560) (by decide +kernel), List.mem_of_getElem? (i := 561) (by decide +kernel)⟩
theorem lw_p10 : lw_okq (⟨"PermitOffice$Reader", "endLine", "(LPermitOffice$Books;)Z"⟩, 10) := ⟨⟨by decide +kernel, by decide +kernel⟩, List.mem_of_getElem? (i := 47) (by decide +kernel), List.mem_of_getElem? (i := 565) (by decide +kernel), List.mem_of_getElem? (i := 566) (by decide +kernel)⟩
theorem lw_p11 : lw_okq (⟨"PermitOffice$Reader", "takeNumber", "(LPermitOffice$Lands;)Z"⟩, 10) := ⟨⟨by decide +kernel, by decide +kernel⟩, List.mem_of_getElem? (i := 47) (by decide +kernel), List.mem_of_getElem? (i := 589) (by decide +kernel), List.mem_of_getElem? (i := 590) (by decide +kernel)⟩
theorem lw_p12 : lw_okq (⟨"PermitOffice$Planner", "setPrices", "(LPermitOffice$Books;IJ)V"⟩, 9) := ⟨⟨by decide +kernel, by decide +kernel⟩, List.mem_of_getElem? (i := 113) (by decide +kernel), List.mem_of_getElem? (i := 698) (by decide +kernel), List.mem_of_getElem? (i := 699) (by decide +kernel)⟩
theorem lw_p13 : lw_okq (⟨"PermitOffice$Planner", "findChains", "(I)V"⟩, 9) := ⟨⟨by decide +kernel, by decide +kernel⟩, List.mem_of_getElem? (i := 113) (by decide +kernel), List.mem_of_getElem? (i := 714) (by decide +kernel), List.mem_of_getElem? (i := 715) (by decide +kernel)⟩
theorem lw_p14 : lw_okq (⟨"PermitOffice$Planner", "pushOn", "(I)Z"⟩, 9) := ⟨⟨by decide +kernel, by decide +kernel⟩, List.mem_of_getElem? (i := 113) (by decide +kernel), List.mem_of_getElem? (i := 718) (by decide +kernel), List.mem_of_getElem? (i := 719) (by decide +kernel)⟩
theorem lw_p15 : lw_okq (⟨"PermitOffice$Planner", "cheapestOpen", "()I"⟩, 9) := ⟨⟨by decide +kernel, by decide +kernel⟩, List.mem_of_getElem? (i := 113) (by decide +kernel), List.mem_of_getElem? (i := 722) (by decide +kernel), List.mem_of_getElem? (i := 723) (by decide +kernel)⟩
def lw_privs_1 : List (MethodName × Nat) := [(⟨"PermitOffice$Tokens", "skipBlanks", "(I)I"⟩, 5), (⟨"PermitOffice$Tokens", "readRun", "()V"⟩, 5), (⟨"PermitOffice$Reader", "takeToken", "(LPermitOffice$Books;)Z"⟩, 10), (⟨"PermitOffice$Reader", "beginLine", "(LPermitOffice$Books;)Z"⟩, 10), (⟨"PermitOffice$Reader", "sortOfWord", "()I"⟩, 10), (⟨"PermitOffice$Reader", "refuse", "(I)Z"⟩, 10), (⟨"PermitOffice$Reader", "takeKind", "()Z"⟩, 10), (⟨"PermitOffice$Reader", "putNumber", "(I)V"⟩, 10), (⟨"PermitOffice$Reader", "isWhole", "()Z"⟩, 10), (⟨"PermitOffice$Reader", "meaningNow", "()I"⟩, 10), (⟨"PermitOffice$Reader", "endLine", "(LPermitOffice$Books;)Z"⟩, 10), (⟨"PermitOffice$Reader", "takeNumber", "(LPermitOffice$Lands;)Z"⟩, 10), (⟨"PermitOffice$Planner", "setPrices", "(LPermitOffice$Books;IJ)V"⟩, 9), (⟨"PermitOffice$Planner", "findChains", "(I)V"⟩, 9), (⟨"PermitOffice$Planner", "pushOn", "(I)Z"⟩, 9), (⟨"PermitOffice$Planner", "cheapestOpen", "()I"⟩, 9)]
theorem lw_r1 : ∀ q ∈ lw_privs_1, lw_okq q := List.forall_mem_cons.mpr ⟨lw_p0, List.forall_mem_cons.mpr ⟨lw_p1, List.forall_mem_cons.mpr ⟨lw_p2, List.forall_mem_cons.mpr ⟨lw_p3, List.forall_mem_cons.mpr ⟨lw_p4, List.forall_mem_cons.mpr ⟨lw_p5, List.forall_mem_cons.mpr ⟨lw_p6, List.forall_mem_cons.mpr ⟨lw_p7, List.forall_mem_cons.mpr ⟨lw_p8, List.forall_mem_cons.mpr ⟨lw_p9, List.forall_mem_cons.mpr ⟨lw_p10, List.forall_mem_cons.mpr ⟨lw_p11, List.forall_mem_cons.mpr ⟨lw_p12, List.forall_mem_cons.mpr ⟨lw_p13, List.forall_mem_cons.mpr ⟨lw_p14, List.forall_mem_cons.mpr ⟨lw_p15, fun _ h => absurd h List.not_mem_nil⟩⟩⟩⟩⟩⟩⟩⟩⟩⟩⟩⟩⟩⟩⟩⟩
theorem lw_p16 : lw_okq (⟨"PermitOffice$Planner", "moveAlong", "(II)V"⟩, 9) := ⟨⟨by decide +kernel, by decide +kernel⟩, List.mem_of_getElem? (i := 113) (by decide +kernel), List.mem_of_getElem? (i := 726) (by decide +kernel), List.mem_of_getElem? (i := 727) (by decide +kernel)⟩
theorem lw_p17 : lw_okq (⟨"PermitOffice$Books", "takeBackTrip", "(I)V"⟩, 6) := ⟨⟨by decide +kernel, by decide +kernel⟩, List.mem_of_getElem? (i := 152) (by decide +kernel), List.mem_of_getElem? (i := 850) (by decide +kernel), List.mem_of_getElem? (i := 851) (by decide +kernel)⟩
theorem lw_p18 : lw_okq (⟨"PermitOffice$Books", "callBack", "(I)V"⟩, 6) := ⟨⟨by decide +kernel, by decide +kernel⟩, List.mem_of_getElem? (i := 152) (by decide +kernel), List.mem_of_getElem? (i := 854) (by decide +kernel), List.mem_of_getElem? (i := 855) (by decide +kernel)⟩
theorem lw_p19 : lw_okq (⟨"PermitOffice$Books", "waitAgain", "(I)V"⟩, 6) := ⟨⟨by decide +kernel, by decide +kernel⟩, List.mem_of_getElem? (i := 152) (by decide +kernel), List.mem_of_getElem? (i := 858) (by decide +kernel), List.mem_of_getElem? (i := 859) (by decide +kernel)⟩
theorem lw_p20 : lw_okq (⟨"PermitOffice$Books", "reopen", "(I)V"⟩, 6) := ⟨⟨by decide +kernel, by decide +kernel⟩, List.mem_of_getElem? (i := 152) (by decide +kernel), List.mem_of_getElem? (i := 862) (by decide +kernel), List.mem_of_getElem? (i := 863) (by decide +kernel)⟩
theorem lw_p21 : lw_okq (⟨"PermitOffice$Books", "takeBackMisuse", "(II)V"⟩, 6) := ⟨⟨by decide +kernel, by decide +kernel⟩, List.mem_of_getElem? (i := 152) (by decide +kernel), List.mem_of_getElem? (i := 866) (by decide +kernel), List.mem_of_getElem? (i := 867) (by decide +kernel)⟩
theorem lw_p22 : lw_okq (⟨"java/lang/Throwable", "fillInStackTrace", "(I)Ljava/lang/Throwable;"⟩, 6) := ⟨⟨by decide +kernel, by decide +kernel⟩, List.mem_of_getElem? (i := 915) (by decide +kernel), List.mem_of_getElem? (i := 913) (by decide +kernel), List.mem_of_getElem? (i := 914) (by decide +kernel)⟩
theorem lw_p23 : lw_okq (⟨"PermitOfficeModel", "lays", "(I)V"⟩, 25) := ⟨⟨by decide +kernel, by decide +kernel⟩, List.mem_of_getElem? (i := 964) (by decide +kernel), List.mem_of_getElem? (i := 962) (by decide +kernel), List.mem_of_getElem? (i := 963) (by decide +kernel)⟩
theorem lw_p24 : lw_okq (⟨"PermitOfficeModel", "go", "()V"⟩, 25) := ⟨⟨by decide +kernel, by decide +kernel⟩, List.mem_of_getElem? (i := 964) (by decide +kernel), List.mem_of_getElem? (i := 1057) (by decide +kernel), List.mem_of_getElem? (i := 1058) (by decide +kernel)⟩
theorem lw_p25 : lw_okq (⟨"PermitOfficeModel", "tapeAt", "(I)I"⟩, 25) := ⟨⟨by decide +kernel, by decide +kernel⟩, List.mem_of_getElem? (i := 964) (by decide +kernel), List.mem_of_getElem? (i := 1067) (by decide +kernel), List.mem_of_getElem? (i := 1068) (by decide +kernel)⟩
theorem lw_p26 : lw_okq (⟨"PermitOfficeModel", "readLine", "(Z)Z"⟩, 25) := ⟨⟨by decide +kernel, by decide +kernel⟩, List.mem_of_getElem? (i := 964) (by decide +kernel), List.mem_of_getElem? (i := 1073) (by decide +kernel), List.mem_of_getElem? (i := 1074) (by decide +kernel)⟩
theorem lw_p27 : lw_okq (⟨"PermitOfficeModel", "readLands", "()Z"⟩, 25) := ⟨⟨by decide +kernel, by decide +kernel⟩, List.mem_of_getElem? (i := 964) (by decide +kernel), List.mem_of_getElem? (i := 1077) (by decide +kernel), List.mem_of_getElem? (i := 1078) (by decide +kernel)⟩
theorem lw_p28 : lw_okq (⟨"PermitOfficeModel", "isWord", "(J)Z"⟩, 25) := ⟨⟨by decide +kernel, by decide +kernel⟩, List.mem_of_getElem? (i := 964) (by decide +kernel), List.mem_of_getElem? (i := 1087) (by decide +kernel), List.mem_of_getElem? (i := 1088) (by decide +kernel)⟩
theorem lw_p29 : lw_okq (⟨"PermitOfficeModel", "bad", "(I)Z"⟩, 25) := ⟨⟨by decide +kernel, by decide +kernel⟩, List.mem_of_getElem? (i := 964) (by decide +kernel), List.mem_of_getElem? (i := 1091) (by decide +kernel), List.mem_of_getElem? (i := 1092) (by decide +kernel)⟩
theorem lw_p30 : lw_okq (⟨"PermitOfficeModel", "told", "(III)Z"⟩, 25) := ⟨⟨by decide +kernel, by decide +kernel⟩, List.mem_of_getElem? (i := 964) (by decide +kernel), List.mem_of_getElem? (i := 1095) (by decide +kernel), List.mem_of_getElem? (i := 1096) (by decide +kernel)⟩
theorem lw_p31 : lw_okq (⟨"PermitOfficeModel", "readBorder", "()Z"⟩, 25) := ⟨⟨by decide +kernel, by decide +kernel⟩, List.mem_of_getElem? (i := 964) (by decide +kernel), List.mem_of_getElem? (i := 1105) (by decide +kernel), List.mem_of_getElem? (i := 1106) (by decide +kernel)⟩
def lw_privs_2 : List (MethodName × Nat) := [(⟨"PermitOffice$Planner", "moveAlong", "(II)V"⟩, 9), (⟨"PermitOffice$Books", "takeBackTrip", "(I)V"⟩, 6), (⟨"PermitOffice$Books", "callBack", "(I)V"⟩, 6), (⟨"PermitOffice$Books", "waitAgain", "(I)V"⟩, 6), (⟨"PermitOffice$Books", "reopen", "(I)V"⟩, 6), (⟨"PermitOffice$Books", "takeBackMisuse", "(II)V"⟩, 6), (⟨"java/lang/Throwable", "fillInStackTrace", "(I)Ljava/lang/Throwable;"⟩, 6), (⟨"PermitOfficeModel", "lays", "(I)V"⟩, 25), (⟨"PermitOfficeModel", "go", "()V"⟩, 25), (⟨"PermitOfficeModel", "tapeAt", "(I)I"⟩, 25), (⟨"PermitOfficeModel", "readLine", "(Z)Z"⟩, 25), (⟨"PermitOfficeModel", "readLands", "()Z"⟩, 25), (⟨"PermitOfficeModel", "isWord", "(J)Z"⟩, 25), (⟨"PermitOfficeModel", "bad", "(I)Z"⟩, 25), (⟨"PermitOfficeModel", "told", "(III)Z"⟩, 25), (⟨"PermitOfficeModel", "readBorder", "()Z"⟩, 25)]
theorem lw_r2 : ∀ q ∈ lw_privs_2, lw_okq q := List.forall_mem_cons.mpr ⟨lw_p16, List.forall_mem_cons.mpr ⟨lw_p17, List.forall_mem_cons.mpr ⟨lw_p18, List.forall_mem_cons.mpr ⟨lw_p19, List.forall_mem_cons.mpr ⟨lw_p20, List.forall_mem_cons.mpr ⟨lw_p21, List.forall_mem_cons.mpr ⟨lw_p22, List.forall_mem_cons.mpr ⟨lw_p23, List.forall_mem_cons.mpr ⟨lw_p24, List.forall_mem_cons.mpr ⟨lw_p25, List.forall_mem_cons.mpr ⟨lw_p26, List.forall_mem_cons.mpr ⟨lw_p27, List.forall_mem_cons.mpr ⟨lw_p28, List.forall_mem_cons.mpr ⟨lw_p29, List.forall_mem_cons.mpr ⟨lw_p30, List.forall_mem_cons.mpr ⟨lw_p31, fun _ h => absurd h List.not_mem_nil⟩⟩⟩⟩⟩⟩⟩⟩⟩⟩⟩⟩⟩⟩⟩⟩
theorem lw_p32 : lw_okq (⟨"PermitOfficeModel", "land", "(I)Z"⟩, 25) := ⟨⟨by decide +kernel, by decide +kernel⟩, List.mem_of_getElem? (i := 964) (by decide +kernel), List.mem_of_getElem? (i := 1109) (by decide +kernel), List.mem_of_getElem? (i := 1110) (by decide +kernel)⟩
theorem lw_p33 : lw_okq (⟨"PermitOfficeModel", "readType", "()Z"⟩, 25) := ⟨⟨by decide +kernel, by decide +kernel⟩, List.mem_of_getElem? (i := 964) (by decide +kernel), List.mem_of_getElem? (i := 1116) (by decide +kernel), List.mem_of_getElem? (i := 1117) (by decide +kernel)⟩
theorem lw_p34 : lw_okq (⟨"PermitOfficeModel", "readKind", "(I)Z"⟩, 25) := ⟨⟨by decide +kernel, by decide +kernel⟩, List.mem_of_getElem? (i := 964) (by decide +kernel), List.mem_of_getElem? (i := 1120) (by decide +kernel), List.mem_of_getElem? (i := 1121) (by decide +kernel)⟩
theorem lw_p35 : lw_okq (⟨"PermitOfficeModel", "readLorry", "()Z"⟩, 25) := ⟨⟨by decide +kernel, by decide +kernel⟩, List.mem_of_getElem? (i := 964) (by decide +kernel), List.mem_of_getElem? (i := 1124) (by decide +kernel), List.mem_of_getElem? (i := 1125) (by decide +kernel)⟩
theorem lw_p36 : lw_okq (⟨"PermitOfficeModel", "readEnd", "()Z"⟩, 25) := ⟨⟨by decide +kernel, by decide +kernel⟩, List.mem_of_getElem? (i := 964) (by decide +kernel), List.mem_of_getElem? (i := 1128) (by decide +kernel), List.mem_of_getElem? (i := 1129) (by decide +kernel)⟩
theorem lw_p37 : lw_okq (⟨"PermitOfficeModel", "having", "(I)I"⟩, 25) := ⟨⟨by decide +kernel, by decide +kernel⟩, List.mem_of_getElem? (i := 964) (by decide +kernel), List.mem_of_getElem? (i := 1140) (by decide +kernel), List.mem_of_getElem? (i := 1141) (by decide +kernel)⟩
theorem lw_p38 : lw_okq (⟨"PermitOfficeModel", "its", "(II)I"⟩, 25) := ⟨⟨by decide +kernel, by decide +kernel⟩, List.mem_of_getElem? (i := 964) (by decide +kernel), List.mem_of_getElem? (i := 1144) (by decide +kernel), List.mem_of_getElem? (i := 1145) (by decide +kernel)⟩
theorem lw_p39 : lw_okq (⟨"PermitOfficeModel", "borders", "()I"⟩, 25) := ⟨⟨by decide +kernel, by decide +kernel⟩, List.mem_of_getElem? (i := 964) (by decide +kernel), List.mem_of_getElem? (i := 1148) (by decide +kernel), List.mem_of_getElem? (i := 1149) (by decide +kernel)⟩
theorem lw_p40 : lw_okq (⟨"PermitOfficeModel", "misuses", "()I"⟩, 25) := ⟨⟨by decide +kernel, by decide +kernel⟩, List.mem_of_getElem? (i := 964) (by decide +kernel), List.mem_of_getElem? (i := 1152) (by decide +kernel), List.mem_of_getElem? (i := 1153) (by decide +kernel)⟩
theorem lw_p41 : lw_okq (⟨"PermitOfficeModel", "lorryOf", "(II)I"⟩, 25) := ⟨⟨by decide +kernel, by decide +kernel⟩, List.mem_of_getElem? (i := 964) (by decide +kernel), List.mem_of_getElem? (i := 1156) (by decide +kernel), List.mem_of_getElem? (i := 1157) (by decide +kernel)⟩
theorem lw_p42 : lw_okq (⟨"PermitOfficeModel", "isType", "(I)Z"⟩, 25) := ⟨⟨by decide +kernel, by decide +kernel⟩, List.mem_of_getElem? (i := 964) (by decide +kernel), List.mem_of_getElem? (i := 1164) (by decide +kernel), List.mem_of_getElem? (i := 1165) (by decide +kernel)⟩
theorem lw_p43 : lw_okq (⟨"PermitOfficeModel", "typed", "(II)I"⟩, 25) := ⟨⟨by decide +kernel, by decide +kernel⟩, List.mem_of_getElem? (i := 964) (by decide +kernel), List.mem_of_getElem? (i := 1168) (by decide +kernel), List.mem_of_getElem? (i := 1169) (by decide +kernel)⟩
theorem lw_p44 : lw_okq (⟨"PermitOfficeModel", "freeOf", "(I)I"⟩, 25) := ⟨⟨by decide +kernel, by decide +kernel⟩, List.mem_of_getElem? (i := 964) (by decide +kernel), List.mem_of_getElem? (i := 1172) (by decide +kernel), List.mem_of_getElem? (i := 1173) (by decide +kernel)⟩
theorem lw_p45 : lw_okq (⟨"PermitOfficeModel", "piecesIn", "(I)I"⟩, 25) := ⟨⟨by decide +kernel, by decide +kernel⟩, List.mem_of_getElem? (i := 964) (by decide +kernel), List.mem_of_getElem? (i := 1176) (by decide +kernel), List.mem_of_getElem? (i := 1177) (by decide +kernel)⟩
theorem lw_p46 : lw_okq (⟨"PermitOfficeModel", "piecesOut", "(I)I"⟩, 25) := ⟨⟨by decide +kernel, by decide +kernel⟩, List.mem_of_getElem? (i := 964) (by decide +kernel), List.mem_of_getElem? (i := 1180) (by decide +kernel), List.mem_of_getElem? (i := 1181) (by decide +kernel)⟩
theorem lw_p47 : lw_okq (⟨"PermitOfficeModel", "outBy", "(I)I"⟩, 25) := ⟨⟨by decide +kernel, by decide +kernel⟩, List.mem_of_getElem? (i := 964) (by decide +kernel), List.mem_of_getElem? (i := 1184) (by decide +kernel), List.mem_of_getElem? (i := 1185) (by decide +kernel)⟩
def lw_privs_3 : List (MethodName × Nat) := [(⟨"PermitOfficeModel", "land", "(I)Z"⟩, 25), (⟨"PermitOfficeModel", "readType", "()Z"⟩, 25), (⟨"PermitOfficeModel", "readKind", "(I)Z"⟩, 25), (⟨"PermitOfficeModel", "readLorry", "()Z"⟩, 25), (⟨"PermitOfficeModel", "readEnd", "()Z"⟩, 25), (⟨"PermitOfficeModel", "having", "(I)I"⟩, 25), (⟨"PermitOfficeModel", "its", "(II)I"⟩, 25), (⟨"PermitOfficeModel", "borders", "()I"⟩, 25), (⟨"PermitOfficeModel", "misuses", "()I"⟩, 25), (⟨"PermitOfficeModel", "lorryOf", "(II)I"⟩, 25), (⟨"PermitOfficeModel", "isType", "(I)Z"⟩, 25), (⟨"PermitOfficeModel", "typed", "(II)I"⟩, 25), (⟨"PermitOfficeModel", "freeOf", "(I)I"⟩, 25), (⟨"PermitOfficeModel", "piecesIn", "(I)I"⟩, 25), (⟨"PermitOfficeModel", "piecesOut", "(I)I"⟩, 25), (⟨"PermitOfficeModel", "outBy", "(I)I"⟩, 25)]
theorem lw_r3 : ∀ q ∈ lw_privs_3, lw_okq q := List.forall_mem_cons.mpr ⟨lw_p32, List.forall_mem_cons.mpr ⟨lw_p33, List.forall_mem_cons.mpr ⟨lw_p34, List.forall_mem_cons.mpr ⟨lw_p35, List.forall_mem_cons.mpr ⟨lw_p36, List.forall_mem_cons.mpr ⟨lw_p37, List.forall_mem_cons.mpr ⟨lw_p38, List.forall_mem_cons.mpr ⟨lw_p39, List.forall_mem_cons.mpr ⟨lw_p40, List.forall_mem_cons.mpr ⟨lw_p41, List.forall_mem_cons.mpr ⟨lw_p42, List.forall_mem_cons.mpr ⟨lw_p43, List.forall_mem_cons.mpr ⟨lw_p44, List.forall_mem_cons.mpr ⟨lw_p45, List.forall_mem_cons.mpr ⟨lw_p46, List.forall_mem_cons.mpr ⟨lw_p47, fun _ h => absurd h List.not_mem_nil⟩⟩⟩⟩⟩⟩⟩⟩⟩⟩⟩⟩⟩⟩⟩⟩
theorem lw_p48 : lw_okq (⟨"PermitOfficeModel", "isLorry", "(I)Z"⟩, 25) := ⟨⟨by decide +kernel, by decide +kernel⟩, List.mem_of_getElem? (i := 964) (by decide +kernel), List.mem_of_getElem? (i := 1196) (by decide +kernel), List.mem_of_getElem? (i := 1197) (by decide +kernel)⟩
theorem lw_p49 : lw_okq (⟨"PermitOfficeModel", "refuse", "()I"⟩, 25) := ⟨⟨by decide +kernel, by decide +kernel⟩, List.mem_of_getElem? (i := 964) (by decide +kernel), List.mem_of_getElem? (i := 1200) (by decide +kernel), List.mem_of_getElem? (i := 1201) (by decide +kernel)⟩
theorem lw_p50 : lw_okq (⟨"PermitOfficeModel", "tripOf", "(I)I"⟩, 25) := ⟨⟨by decide +kernel, by decide +kernel⟩, List.mem_of_getElem? (i := 964) (by decide +kernel), List.mem_of_getElem? (i := 1204) (by decide +kernel), List.mem_of_getElem? (i := 1205) (by decide +kernel)⟩
theorem lw_p51 : lw_okq (⟨"PermitOfficeModel", "doneBy", "(I)I"⟩, 25) := ⟨⟨by decide +kernel, by decide +kernel⟩, List.mem_of_getElem? (i := 964) (by decide +kernel), List.mem_of_getElem? (i := 1208) (by decide +kernel), List.mem_of_getElem? (i := 1209) (by decide +kernel)⟩
theorem lw_p52 : lw_okq (⟨"PermitOfficeModel", "isTrip", "(I)Z"⟩, 25) := ⟨⟨by decide +kernel, by decide +kernel⟩, List.mem_of_getElem? (i := 964) (by decide +kernel), List.mem_of_getElem? (i := 1216) (by decide +kernel), List.mem_of_getElem? (i := 1217) (by decide +kernel)⟩
theorem lw_p53 : lw_okq (⟨"PermitOfficeModel", "isFit", "(II)Z"⟩, 25) := ⟨⟨by decide +kernel, by decide +kernel⟩, List.mem_of_getElem? (i := 964) (by decide +kernel), List.mem_of_getElem? (i := 1224) (by decide +kernel), List.mem_of_getElem? (i := 1225) (by decide +kernel)⟩
theorem lw_p54 : lw_okq (⟨"PermitOfficeModel", "wayOf", "(I)I"⟩, 25) := ⟨⟨by decide +kernel, by decide +kernel⟩, List.mem_of_getElem? (i := 964) (by decide +kernel), List.mem_of_getElem? (i := 1228) (by decide +kernel), List.mem_of_getElem? (i := 1229) (by decide +kernel)⟩
theorem lw_p55 : lw_okq (⟨"PermitOfficeModel", "laysPlan", "()V"⟩, 25) := ⟨⟨by decide +kernel, by decide +kernel⟩, List.mem_of_getElem? (i := 964) (by decide +kernel), List.mem_of_getElem? (i := 1236) (by decide +kernel), List.mem_of_getElem? (i := 1237) (by decide +kernel)⟩
theorem lw_p56 : lw_okq (⟨"PermitOfficeModel", "laysFree", "()V"⟩, 25) := ⟨⟨by decide +kernel, by decide +kernel⟩, List.mem_of_getElem? (i := 964) (by decide +kernel), List.mem_of_getElem? (i := 1240) (by decide +kernel), List.mem_of_getElem? (i := 1241) (by decide +kernel)⟩
theorem lw_p57 : lw_okq (⟨"PermitOfficeModel", "opensAll", "()V"⟩, 25) := ⟨⟨by decide +kernel, by decide +kernel⟩, List.mem_of_getElem? (i := 964) (by decide +kernel), List.mem_of_getElem? (i := 1244) (by decide +kernel), List.mem_of_getElem? (i := 1245) (by decide +kernel)⟩
theorem lw_p58 : lw_okq (⟨"PermitOfficeModel", "serves", "()V"⟩, 25) := ⟨⟨by decide +kernel, by decide +kernel⟩, List.mem_of_getElem? (i := 964) (by decide +kernel), List.mem_of_getElem? (i := 1248) (by decide +kernel), List.mem_of_getElem? (i := 1249) (by decide +kernel)⟩
theorem lw_p59 : lw_okq (⟨"PermitOfficeModel", "isOpen", "(I)Z"⟩, 25) := ⟨⟨by decide +kernel, by decide +kernel⟩, List.mem_of_getElem? (i := 964) (by decide +kernel), List.mem_of_getElem? (i := 1252) (by decide +kernel), List.mem_of_getElem? (i := 1253) (by decide +kernel)⟩
theorem lw_p60 : lw_okq (⟨"PermitOfficeModel", "finds", "()I"⟩, 25) := ⟨⟨by decide +kernel, by decide +kernel⟩, List.mem_of_getElem? (i := 964) (by decide +kernel), List.mem_of_getElem? (i := 1256) (by decide +kernel), List.mem_of_getElem? (i := 1257) (by decide +kernel)⟩
theorem lw_p61 : lw_okq (⟨"PermitOfficeModel", "reaches", "(II)I"⟩, 25) := ⟨⟨by decide +kernel, by decide +kernel⟩, List.mem_of_getElem? (i := 964) (by decide +kernel), List.mem_of_getElem? (i := 1260) (by decide +kernel), List.mem_of_getElem? (i := 1261) (by decide +kernel)⟩
theorem lw_p62 : lw_okq (⟨"PermitOfficeModel", "isAsGood", "(IIII)Z"⟩, 25) := ⟨⟨by decide +kernel, by decide +kernel⟩, List.mem_of_getElem? (i := 964) (by decide +kernel), List.mem_of_getElem? (i := 1264) (by decide +kernel), List.mem_of_getElem? (i := 1265) (by decide +kernel)⟩
theorem lw_p63 : lw_okq (⟨"PermitOfficeModel", "servedWith", "(II)I"⟩, 25) := ⟨⟨by decide +kernel, by decide +kernel⟩, List.mem_of_getElem? (i := 964) (by decide +kernel), List.mem_of_getElem? (i := 1272) (by decide +kernel), List.mem_of_getElem? (i := 1273) (by decide +kernel)⟩
def lw_privs_4 : List (MethodName × Nat) := [(⟨"PermitOfficeModel", "isLorry", "(I)Z"⟩, 25), (⟨"PermitOfficeModel", "refuse", "()I"⟩, 25), (⟨"PermitOfficeModel", "tripOf", "(I)I"⟩, 25), (⟨"PermitOfficeModel", "doneBy", "(I)I"⟩, 25), (⟨"PermitOfficeModel", "isTrip", "(I)Z"⟩, 25), (⟨"PermitOfficeModel", "isFit", "(II)Z"⟩, 25), (⟨"PermitOfficeModel", "wayOf", "(I)I"⟩, 25), (⟨"PermitOfficeModel", "laysPlan", "()V"⟩, 25), (⟨"PermitOfficeModel", "laysFree", "()V"⟩, 25), (⟨"PermitOfficeModel", "opensAll", "()V"⟩, 25), (⟨"PermitOfficeModel", "serves", "()V"⟩, 25), (⟨"PermitOfficeModel", "isOpen", "(I)Z"⟩, 25), (⟨"PermitOfficeModel", "finds", "()I"⟩, 25), (⟨"PermitOfficeModel", "reaches", "(II)I"⟩, 25), (⟨"PermitOfficeModel", "isAsGood", "(IIII)Z"⟩, 25), (⟨"PermitOfficeModel", "servedWith", "(II)I"⟩, 25)]
theorem lw_r4 : ∀ q ∈ lw_privs_4, lw_okq q := List.forall_mem_cons.mpr ⟨lw_p48, List.forall_mem_cons.mpr ⟨lw_p49, List.forall_mem_cons.mpr ⟨lw_p50, List.forall_mem_cons.mpr ⟨lw_p51, List.forall_mem_cons.mpr ⟨lw_p52, List.forall_mem_cons.mpr ⟨lw_p53, List.forall_mem_cons.mpr ⟨lw_p54, List.forall_mem_cons.mpr ⟨lw_p55, List.forall_mem_cons.mpr ⟨lw_p56, List.forall_mem_cons.mpr ⟨lw_p57, List.forall_mem_cons.mpr ⟨lw_p58, List.forall_mem_cons.mpr ⟨lw_p59, List.forall_mem_cons.mpr ⟨lw_p60, List.forall_mem_cons.mpr ⟨lw_p61, List.forall_mem_cons.mpr ⟨lw_p62, List.forall_mem_cons.mpr ⟨lw_p63, fun _ h => absurd h List.not_mem_nil⟩⟩⟩⟩⟩⟩⟩⟩⟩⟩⟩⟩⟩⟩⟩⟩
theorem lw_p64 : lw_okq (⟨"PermitOfficeModel", "isLand", "(I)Z"⟩, 25) := ⟨⟨by decide +kernel, by decide +kernel⟩, List.mem_of_getElem? (i := 964) (by decide +kernel), List.mem_of_getElem? (i := 1284) (by decide +kernel), List.mem_of_getElem? (i := 1285) (by decide +kernel)⟩
theorem lw_p65 : lw_okq (⟨"PermitOfficeModel", "whyStopped", "(II)I"⟩, 25) := ⟨⟨by decide +kernel, by decide +kernel⟩, List.mem_of_getElem? (i := 964) (by decide +kernel), List.mem_of_getElem? (i := 1296) (by decide +kernel), List.mem_of_getElem? (i := 1297) (by decide +kernel)⟩
theorem lw_p66 : lw_okq (⟨"PermitOfficeModel", "canGo", "(III)Z"⟩, 25) := ⟨⟨by decide +kernel, by decide +kernel⟩, List.mem_of_getElem? (i := 964) (by decide +kernel), List.mem_of_getElem? (i := 1304) (by decide +kernel), List.mem_of_getElem? (i := 1305) (by decide +kernel)⟩
theorem lw_p67 : lw_okq (⟨"PermitOfficeModel", "snap", "()V"⟩, 25) := ⟨⟨by decide +kernel, by decide +kernel⟩, List.mem_of_getElem? (i := 964) (by decide +kernel), List.mem_of_getElem? (i := 1308) (by decide +kernel), List.mem_of_getElem? (i := 1309) (by decide +kernel)⟩
def lw_privs_5 : List (MethodName × Nat) := [(⟨"PermitOfficeModel", "isLand", "(I)Z"⟩, 25), (⟨"PermitOfficeModel", "whyStopped", "(II)I"⟩, 25), (⟨"PermitOfficeModel", "canGo", "(III)Z"⟩, 25), (⟨"PermitOfficeModel", "snap", "()V"⟩, 25)]
theorem lw_r5 : ∀ q ∈ lw_privs_5, lw_okq q := List.forall_mem_cons.mpr ⟨lw_p64, List.forall_mem_cons.mpr ⟨lw_p65, List.forall_mem_cons.mpr ⟨lw_p66, List.forall_mem_cons.mpr ⟨lw_p67, fun _ h => absurd h List.not_mem_nil⟩⟩⟩⟩
def lw_privs : List (MethodName × Nat) := lw_privs_1 ++ (lw_privs_2 ++ (lw_privs_3 ++ (lw_privs_4 ++ (lw_privs_5))))
def lw_tbl : List Cond := k2_sels lw_privs ++ tables_1
theorem lw_privs_ok : ∀ q ∈ lw_privs, lw_okq q := by
  show ∀ q ∈ lw_privs_1 ++ (lw_privs_2 ++ (lw_privs_3 ++ (lw_privs_4 ++ (lw_privs_5)))), lw_okq q
  exact List.forall_mem_append.mpr ⟨lw_r1, List.forall_mem_append.mpr ⟨lw_r2, List.forall_mem_append.mpr ⟨lw_r3, List.forall_mem_append.mpr ⟨lw_r4, lw_r5⟩⟩⟩⟩
end
section
def RX0 : String := "PermitOffice$Acts"
def TX0 : u_T := fun k => match k with
  | 0 => ("PermitOffice$Acts", "kinds", "[I", true)
  | 1 => ("PermitOffice$Acts", "whom", "[I", true)
  | 2 => ("PermitOffice$Acts", "amounts", "[I", true)
  | 3 => ("PermitOffice$Acts", "next", "I", false)
  | _ => ("PermitOffice$Acts", "kept", "I", false)
def tyX0 : Nat → FieldType := fun k => match k with
  | 0 => .array .int
  | 1 => .array .int
  | 2 => .array .int
  | 3 => .int
  | _ => .int
theorem nmX0 : ∀ a, a < 5 → ∀ b, b < 5 → a ≠ b → (TX0 a).2.1 ≠ (TX0 b).2.1 := by decide +kernel
theorem tyX0_ok : ∀ k, k < 5 → parseFieldDescriptor (TX0 k).2.2.1 = some (tyX0 k) := by decide +kernel
abbrev cX0_init : ByteArray := prog_2_method_1_code
def yX0_init : MethodName := ⟨RX0, "<init>", "()V"⟩
abbrev cX0_keep : ByteArray := prog_2_method_2_code
def yX0_keep : MethodName := ⟨RX0, "keep", "(III)V"⟩
abbrev cX0_takeLatest : ByteArray := prog_2_method_3_code
def yX0_takeLatest : MethodName := ⟨RX0, "takeLatest", "()I"⟩
def RX1 : String := "PermitOffice$Books"
def TX1 : u_T := fun k => match k with
  | 0 => ("PermitOffice$Books", "lands", "LPermitOffice$Lands;", true)
  | 1 => ("PermitOffice$Books", "permits", "LPermitOffice$Permits;", true)
  | 2 => ("PermitOffice$Books", "lorries", "LPermitOffice$Lorries;", true)
  | 3 => ("PermitOffice$Books", "trips", "LPermitOffice$Trips;", true)
  | 4 => ("PermitOffice$Books", "acts", "LPermitOffice$Acts;", true)
  | _ => ("PermitOffice$Books", "today", "I", false)
def tyX1 : Nat → FieldType := fun k => match k with
  | 0 => .object "PermitOffice$Lands"
  | 1 => .object "PermitOffice$Permits"
  | 2 => .object "PermitOffice$Lorries"
  | 3 => .object "PermitOffice$Trips"
  | 4 => .object "PermitOffice$Acts"
  | _ => .int
theorem nmX1 : ∀ a, a < 6 → ∀ b, b < 6 → a ≠ b → (TX1 a).2.1 ≠ (TX1 b).2.1 := by decide +kernel
theorem tyX1_ok : ∀ k, k < 6 → parseFieldDescriptor (TX1 k).2.2.1 = some (tyX1 k) := by decide +kernel
abbrev cX1_init : ByteArray := prog_3_method_1_code
def yX1_init : MethodName := ⟨RX1, "<init>", "()V"⟩
abbrev cX1_clear : ByteArray := prog_3_method_2_code
def yX1_clear : MethodName := ⟨RX1, "clear", "()V"⟩
abbrev cX1_suits : ByteArray := prog_3_method_3_code
def yX1_suits : MethodName := ⟨RX1, "suits", "(II)Z"⟩
abbrev cX1_isOut : ByteArray := prog_3_method_4_code
def yX1_isOut : MethodName := ⟨RX1, "isOut", "(I)Z"⟩
abbrev cX1_isLate : ByteArray := prog_3_method_5_code
def yX1_isLate : MethodName := ⟨RX1, "isLate", "(I)Z"⟩
abbrev cX1_judge : ByteArray := prog_3_method_6_code
def yX1_judge : MethodName := ⟨RX1, "judge", "(II)I"⟩
abbrev cX1_sendOut : ByteArray := prog_3_method_7_code
def yX1_sendOut : MethodName := ⟨RX1, "sendOut", "(II)I"⟩
abbrev cX1_finish : ByteArray := prog_3_method_8_code
def yX1_finish : MethodName := ⟨RX1, "finish", "(I)V"⟩
abbrev cX1_takeBack : ByteArray := prog_3_method_9_code
def yX1_takeBack : MethodName := ⟨RX1, "takeBack", "(III)V"⟩
abbrev cX1_takeBackTrip : ByteArray := prog_3_method_10_code
def yX1_takeBackTrip : MethodName := ⟨RX1, "takeBackTrip", "(I)V"⟩
abbrev cX1_takeBackMisuse : ByteArray := prog_3_method_11_code
def yX1_takeBackMisuse : MethodName := ⟨RX1, "takeBackMisuse", "(II)V"⟩
abbrev cX1_callBack : ByteArray := prog_3_method_12_code
def yX1_callBack : MethodName := ⟨RX1, "callBack", "(I)V"⟩
abbrev cX1_waitAgain : ByteArray := prog_3_method_13_code
def yX1_waitAgain : MethodName := ⟨RX1, "waitAgain", "(I)V"⟩
abbrev cX1_reopen : ByteArray := prog_3_method_14_code
def yX1_reopen : MethodName := ⟨RX1, "reopen", "(I)V"⟩
def RX2 : String := "PermitOffice$Lands"
def TX2 : u_T := fun k => match k with
  | 0 => ("PermitOffice$Lands", "neighbours", "[I", true)
  | 1 => ("PermitOffice$Lands", "count", "I", false)
  | _ => ("PermitOffice$Lands", "borders", "I", false)
def tyX2 : Nat → FieldType := fun k => match k with
  | 0 => .array .int
  | 1 => .int
  | _ => .int
theorem nmX2 : ∀ a, a < 3 → ∀ b, b < 3 → a ≠ b → (TX2 a).2.1 ≠ (TX2 b).2.1 := by decide +kernel
theorem tyX2_ok : ∀ k, k < 3 → parseFieldDescriptor (TX2 k).2.2.1 = some (tyX2 k) := by decide +kernel
abbrev cX2_init : ByteArray := prog_4_method_1_code
def yX2_init : MethodName := ⟨RX2, "<init>", "()V"⟩
abbrev cX2_clear : ByteArray := prog_4_method_2_code
def yX2_clear : MethodName := ⟨RX2, "clear", "()V"⟩
abbrev cX2_has : ByteArray := prog_4_method_3_code
def yX2_has : MethodName := ⟨RX2, "has", "(I)Z"⟩
abbrev cX2_areJoined : ByteArray := prog_4_method_4_code
def yX2_areJoined : MethodName := ⟨RX2, "areJoined", "(II)Z"⟩
abbrev cX2_addBorder : ByteArray := prog_4_method_5_code
def yX2_addBorder : MethodName := ⟨RX2, "addBorder", "(II)V"⟩
abbrev cX2_bitsOfRow : ByteArray := prog_4_method_6_code
def yX2_bitsOfRow : MethodName := ⟨RX2, "bitsOfRow", "(III)I"⟩
abbrev cX2_shortestRow : ByteArray := prog_4_method_7_code
def yX2_shortestRow : MethodName := ⟨RX2, "shortestRow", "(III)I"⟩
def RX3 : String := "PermitOffice$Lorries"
def TX3 : u_T := fun k => match k with
  | 0 => ("PermitOffice$Lorries", "homes", "[I", true)
  | 1 => ("PermitOffice$Lorries", "engines", "[I", true)
  | 2 => ("PermitOffice$Lorries", "tripNow", "[I", true)
  | 3 => ("PermitOffice$Lorries", "misuses", "[I", true)
  | 4 => ("PermitOffice$Lorries", "tripsDone", "[I", true)
  | _ => ("PermitOffice$Lorries", "count", "I", false)
def tyX3 : Nat → FieldType := fun k => match k with
  | 0 => .array .int
  | 1 => .array .int
  | 2 => .array .int
  | 3 => .array .int
  | 4 => .array .int
  | _ => .int
theorem nmX3 : ∀ a, a < 6 → ∀ b, b < 6 → a ≠ b → (TX3 a).2.1 ≠ (TX3 b).2.1 := by decide +kernel
theorem tyX3_ok : ∀ k, k < 6 → parseFieldDescriptor (TX3 k).2.2.1 = some (tyX3 k) := by decide +kernel
abbrev cX3_init : ByteArray := prog_5_method_1_code
def yX3_init : MethodName := ⟨RX3, "<init>", "()V"⟩
abbrev cX3_clear : ByteArray := prog_5_method_2_code
def yX3_clear : MethodName := ⟨RX3, "clear", "()V"⟩
abbrev cX3_add : ByteArray := prog_5_method_3_code
def yX3_add : MethodName := ⟨RX3, "add", "(II)V"⟩
abbrev cX3_has : ByteArray := prog_5_method_4_code
def yX3_has : MethodName := ⟨RX3, "has", "(I)Z"⟩
abbrev cX3_allMisuses : ByteArray := prog_5_method_5_code
def yX3_allMisuses : MethodName := ⟨RX3, "allMisuses", "()I"⟩
def RX4 : String := "PermitOffice$Permits"
def TX4 : u_T := fun k => match k with
  | 0 => ("PermitOffice$Permits", "kinds", "[I", true)
  | 1 => ("PermitOffice$Permits", "places", "[I", true)
  | 2 => ("PermitOffice$Permits", "engines", "[I", true)
  | 3 => ("PermitOffice$Permits", "costs", "[I", true)
  | 4 => ("PermitOffice$Permits", "pieces", "[I", true)
  | 5 => ("PermitOffice$Permits", "stays", "[I", true)
  | 6 => ("PermitOffice$Permits", "landBits", "[I", true)
  | 7 => ("PermitOffice$Permits", "holders", "[I", true)
  | 8 => ("PermitOffice$Permits", "spent", "[I", true)
  | 9 => ("PermitOffice$Permits", "lost", "[I", true)
  | 10 => ("PermitOffice$Permits", "back", "[I", true)
  | 11 => ("PermitOffice$Permits", "count", "I", false)
  | _ => ("PermitOffice$Permits", "reissue", "I", false)
def tyX4 : Nat → FieldType := fun k => match k with
  | 0 => .array .int
  | 1 => .array .int
  | 2 => .array .int
  | 3 => .array .int
  | 4 => .array .int
  | 5 => .array .int
  | 6 => .array .int
  | 7 => .array .int
  | 8 => .array .int
  | 9 => .array .int
  | 10 => .array .int
  | 11 => .int
  | _ => .int
theorem nmX4 : ∀ a, a < 13 → ∀ b, b < 13 → a ≠ b → (TX4 a).2.1 ≠ (TX4 b).2.1 := by decide +kernel
theorem tyX4_ok : ∀ k, k < 13 → parseFieldDescriptor (TX4 k).2.2.1 = some (tyX4 k) := by decide +kernel
abbrev cX4_init : ByteArray := prog_6_method_1_code
def yX4_init : MethodName := ⟨RX4, "<init>", "()V"⟩
abbrev cX4_clear : ByteArray := prog_6_method_2_code
def yX4_clear : MethodName := ⟨RX4, "clear", "()V"⟩
abbrev cX4_has : ByteArray := prog_6_method_3_code
def yX4_has : MethodName := ⟨RX4, "has", "(I)Z"⟩
abbrev cX4_add : ByteArray := prog_6_method_4_code
def yX4_add : MethodName := ⟨RX4, "add", "(I[II)V"⟩
abbrev cX4_isFor : ByteArray := prog_6_method_5_code
def yX4_isFor : MethodName := ⟨RX4, "isFor", "(II)Z"⟩
abbrev cX4_suitsEngine : ByteArray := prog_6_method_6_code
def yX4_suitsEngine : MethodName := ⟨RX4, "suitsEngine", "(II)Z"⟩
abbrev cX4_countOut : ByteArray := prog_6_method_7_code
def yX4_countOut : MethodName := ⟨RX4, "countOut", "(I)I"⟩
abbrev cX4_countReissued : ByteArray := prog_6_method_8_code
def yX4_countReissued : MethodName := ⟨RX4, "countReissued", "(I)I"⟩
abbrev cX4_countIn : ByteArray := prog_6_method_9_code
def yX4_countIn : MethodName := ⟨RX4, "countIn", "(I)I"⟩
abbrev cX4_countFree : ByteArray := prog_6_method_10_code
def yX4_countFree : MethodName := ⟨RX4, "countFree", "(I)I"⟩
abbrev cX4_giveUp : ByteArray := prog_6_method_11_code
def yX4_giveUp : MethodName := ⟨RX4, "giveUp", "(III)V"⟩
abbrev cX4_moveBack : ByteArray := prog_6_method_12_code
def yX4_moveBack : MethodName := ⟨RX4, "moveBack", "(II)V"⟩
def RX5 : String := "PermitOffice$Planner"
def TX5 : u_T := fun k => match k with
  | 0 => ("PermitOffice$Planner", "trips", "[I", true)
  | 1 => ("PermitOffice$Planner", "prices", "[J", true)
  | 2 => ("PermitOffice$Planner", "room", "[I", true)
  | 3 => ("PermitOffice$Planner", "left", "[I", true)
  | 4 => ("PermitOffice$Planner", "given", "[I", true)
  | 5 => ("PermitOffice$Planner", "dear", "[J", true)
  | 6 => ("PermitOffice$Planner", "mover", "[I", true)
  | 7 => ("PermitOffice$Planner", "waiting", "I", false)
  | _ => ("PermitOffice$Planner", "servedCount", "I", false)
def tyX5 : Nat → FieldType := fun k => match k with
  | 0 => .array .int
  | 1 => .array .long
  | 2 => .array .int
  | 3 => .array .int
  | 4 => .array .int
  | 5 => .array .long
  | 6 => .array .int
  | 7 => .int
  | _ => .int
theorem nmX5 : ∀ a, a < 9 → ∀ b, b < 9 → a ≠ b → (TX5 a).2.1 ≠ (TX5 b).2.1 := by decide +kernel
theorem tyX5_ok : ∀ k, k < 9 → parseFieldDescriptor (TX5 k).2.2.1 = some (tyX5 k) := by decide +kernel
abbrev cX5_init : ByteArray := prog_7_method_1_code
def yX5_init : MethodName := ⟨RX5, "<init>", "()V"⟩
abbrev cX5_setUp : ByteArray := prog_7_method_2_code
def yX5_setUp : MethodName := ⟨RX5, "setUp", "(LPermitOffice$Books;)V"⟩
abbrev cX5_setPrices : ByteArray := prog_7_method_3_code
def yX5_setPrices : MethodName := ⟨RX5, "setPrices", "(LPermitOffice$Books;IJ)V"⟩
abbrev cX5_addFree : ByteArray := prog_7_method_4_code
def yX5_addFree : MethodName := ⟨RX5, "addFree", "(II)V"⟩
abbrev cX5_solve : ByteArray := prog_7_method_5_code
def yX5_solve : MethodName := ⟨RX5, "solve", "()V"⟩
abbrev cX5_findChains : ByteArray := prog_7_method_6_code
def yX5_findChains : MethodName := ⟨RX5, "findChains", "(I)V"⟩
abbrev cX5_pushOn : ByteArray := prog_7_method_7_code
def yX5_pushOn : MethodName := ⟨RX5, "pushOn", "(I)Z"⟩
abbrev cX5_cheapestOpen : ByteArray := prog_7_method_8_code
def yX5_cheapestOpen : MethodName := ⟨RX5, "cheapestOpen", "()I"⟩
abbrev cX5_moveAlong : ByteArray := prog_7_method_9_code
def yX5_moveAlong : MethodName := ⟨RX5, "moveAlong", "(II)V"⟩
abbrev cX5_costTogether : ByteArray := prog_7_method_10_code
def yX5_costTogether : MethodName := ⟨RX5, "costTogether", "(LPermitOffice$Permits;)I"⟩
abbrev cX5_typeFor : ByteArray := prog_7_method_11_code
def yX5_typeFor : MethodName := ⟨RX5, "typeFor", "(I)I"⟩
def RX6 : String := "PermitOffice$Reader"
def TX6 : u_T := fun k => match k with
  | 0 => ("PermitOffice$Reader", "tokens", "LPermitOffice$Tokens;", true)
  | 1 => ("PermitOffice$Reader", "numbers", "[I", true)
  | 2 => ("PermitOffice$Reader", "sort", "I", false)
  | 3 => ("PermitOffice$Reader", "field", "I", false)
  | 4 => ("PermitOffice$Reader", "typeKind", "I", false)
  | 5 => ("PermitOffice$Reader", "landBits", "I", false)
  | 6 => ("PermitOffice$Reader", "lines", "I", false)
  | 7 => ("PermitOffice$Reader", "borderLines", "I", false)
  | 8 => ("PermitOffice$Reader", "faultKind", "I", false)
  | _ => ("PermitOffice$Reader", "faultPlace", "I", false)
def tyX6 : Nat → FieldType := fun k => match k with
  | 0 => .object "PermitOffice$Tokens"
  | 1 => .array .int
  | 2 => .int
  | 3 => .int
  | 4 => .int
  | 5 => .int
  | 6 => .int
  | 7 => .int
  | 8 => .int
  | _ => .int
theorem nmX6 : ∀ a, a < 10 → ∀ b, b < 10 → a ≠ b → (TX6 a).2.1 ≠ (TX6 b).2.1 := by decide +kernel
theorem tyX6_ok : ∀ k, k < 10 → parseFieldDescriptor (TX6 k).2.2.1 = some (tyX6 k) := by decide +kernel
abbrev cX6_init : ByteArray := prog_8_method_1_code
def yX6_init : MethodName := ⟨RX6, "<init>", "(LPermitOffice$Tokens;)V"⟩
abbrev cX6_readInto : ByteArray := prog_8_method_2_code
def yX6_readInto : MethodName := ⟨RX6, "readInto", "(LPermitOffice$Books;)Z"⟩
abbrev cX6_takeToken : ByteArray := prog_8_method_3_code
def yX6_takeToken : MethodName := ⟨RX6, "takeToken", "(LPermitOffice$Books;)Z"⟩
abbrev cX6_beginLine : ByteArray := prog_8_method_4_code
def yX6_beginLine : MethodName := ⟨RX6, "beginLine", "(LPermitOffice$Books;)Z"⟩
abbrev cX6_sortOfWord : ByteArray := prog_8_method_5_code
def yX6_sortOfWord : MethodName := ⟨RX6, "sortOfWord", "()I"⟩
abbrev cX6_takeKind : ByteArray := prog_8_method_6_code
def yX6_takeKind : MethodName := ⟨RX6, "takeKind", "()Z"⟩
abbrev cX6_isWhole : ByteArray := prog_8_method_7_code
def yX6_isWhole : MethodName := ⟨RX6, "isWhole", "()Z"⟩
abbrev cX6_meaningNow : ByteArray := prog_8_method_8_code
def yX6_meaningNow : MethodName := ⟨RX6, "meaningNow", "()I"⟩
abbrev cX6_takeNumber : ByteArray := prog_8_method_9_code
def yX6_takeNumber : MethodName := ⟨RX6, "takeNumber", "(LPermitOffice$Lands;)Z"⟩
abbrev cX6_isInRange : ByteArray := prog_8_method_10_code
def yX6_isInRange : MethodName := ⟨RX6, "isInRange", "(II)Z"⟩
abbrev cX6_putNumber : ByteArray := prog_8_method_11_code
def yX6_putNumber : MethodName := ⟨RX6, "putNumber", "(I)V"⟩
abbrev cX6_endLine : ByteArray := prog_8_method_12_code
def yX6_endLine : MethodName := ⟨RX6, "endLine", "(LPermitOffice$Books;)Z"⟩
abbrev cX6_refuse : ByteArray := prog_8_method_13_code
def yX6_refuse : MethodName := ⟨RX6, "refuse", "(I)Z"⟩
def RX7 : String := "PermitOffice$Tape"
def TX7 : u_T := fun k => match k with
  | 0 => ("PermitOffice$Tape", "bytes", "[B", true)
  | _ => ("PermitOffice$Tape", "length", "I", false)
def tyX7 : Nat → FieldType := fun k => match k with
  | 0 => .array .byte
  | _ => .int
theorem nmX7 : ∀ a, a < 2 → ∀ b, b < 2 → a ≠ b → (TX7 a).2.1 ≠ (TX7 b).2.1 := by decide +kernel
theorem tyX7_ok : ∀ k, k < 2 → parseFieldDescriptor (TX7 k).2.2.1 = some (tyX7 k) := by decide +kernel
abbrev cX7_init : ByteArray := prog_9_method_1_code
def yX7_init : MethodName := ⟨RX7, "<init>", "()V"⟩
abbrev cX7_putNumber : ByteArray := prog_9_method_2_code
def yX7_putNumber : MethodName := ⟨RX7, "putNumber", "(I)V"⟩
abbrev cX7_at : ByteArray := prog_9_method_3_code
def yX7_at : MethodName := ⟨RX7, "at", "(I)I"⟩
def RX8 : String := "PermitOffice$Tokens"
def TX8 : u_T := fun k => match k with
  | 0 => ("PermitOffice$Tokens", "tape", "LPermitOffice$Tape;", true)
  | 1 => ("PermitOffice$Tokens", "kind", "I", false)
  | 2 => ("PermitOffice$Tokens", "start", "I", false)
  | 3 => ("PermitOffice$Tokens", "behind", "I", false)
  | _ => ("PermitOffice$Tokens", "value", "I", false)
def tyX8 : Nat → FieldType := fun k => match k with
  | 0 => .object "PermitOffice$Tape"
  | 1 => .int
  | 2 => .int
  | 3 => .int
  | _ => .int
theorem nmX8 : ∀ a, a < 5 → ∀ b, b < 5 → a ≠ b → (TX8 a).2.1 ≠ (TX8 b).2.1 := by decide +kernel
theorem tyX8_ok : ∀ k, k < 5 → parseFieldDescriptor (TX8 k).2.2.1 = some (tyX8 k) := by decide +kernel
abbrev cX8_init : ByteArray := prog_10_method_1_code
def yX8_init : MethodName := ⟨RX8, "<init>", "(LPermitOffice$Tape;)V"⟩
abbrev cX8_restart : ByteArray := prog_10_method_2_code
def yX8_restart : MethodName := ⟨RX8, "restart", "()V"⟩
abbrev cX8_isTooLong : ByteArray := prog_10_method_3_code
def yX8_isTooLong : MethodName := ⟨RX8, "isTooLong", "()Z"⟩
abbrev cX8_advance : ByteArray := prog_10_method_4_code
def yX8_advance : MethodName := ⟨RX8, "advance", "()V"⟩
abbrev cX8_isWord : ByteArray := prog_10_method_5_code
def yX8_isWord : MethodName := ⟨RX8, "isWord", "(Ljava/lang/String;)Z"⟩
abbrev cX8_skipBlanks : ByteArray := prog_10_method_6_code
def yX8_skipBlanks : MethodName := ⟨RX8, "skipBlanks", "(I)I"⟩
abbrev cX8_readRun : ByteArray := prog_10_method_7_code
def yX8_readRun : MethodName := ⟨RX8, "readRun", "()V"⟩
abbrev cX8_isLetter : ByteArray := prog_10_method_8_code
def yX8_isLetter : MethodName := ⟨RX8, "isLetter", "(I)Z"⟩
abbrev cX8_isDigit : ByteArray := prog_10_method_9_code
def yX8_isDigit : MethodName := ⟨RX8, "isDigit", "(I)Z"⟩
def RX9 : String := "PermitOffice$Trips"
def TX9 : u_T := fun k => match k with
  | 0 => ("PermitOffice$Trips", "ofLorry", "[I", true)
  | 1 => ("PermitOffice$Trips", "sizes", "[I", true)
  | 2 => ("PermitOffice$Trips", "rows", "[I", true)
  | 3 => ("PermitOffice$Trips", "landBits", "[I", true)
  | 4 => ("PermitOffice$Trips", "states", "[I", true)
  | 5 => ("PermitOffice$Trips", "byType", "[I", true)
  | 6 => ("PermitOffice$Trips", "outDays", "[I", true)
  | 7 => ("PermitOffice$Trips", "doneDays", "[I", true)
  | 8 => ("PermitOffice$Trips", "late", "[I", true)
  | _ => ("PermitOffice$Trips", "count", "I", false)
def tyX9 : Nat → FieldType := fun k => match k with
  | 0 => .array .int
  | 1 => .array .int
  | 2 => .array .int
  | 3 => .array .int
  | 4 => .array .int
  | 5 => .array .int
  | 6 => .array .int
  | 7 => .array .int
  | 8 => .array .int
  | _ => .int
theorem nmX9 : ∀ a, a < 10 → ∀ b, b < 10 → a ≠ b → (TX9 a).2.1 ≠ (TX9 b).2.1 := by decide +kernel
theorem tyX9_ok : ∀ k, k < 10 → parseFieldDescriptor (TX9 k).2.2.1 = some (tyX9 k) := by decide +kernel
abbrev cX9_init : ByteArray := prog_11_method_1_code
def yX9_init : MethodName := ⟨RX9, "<init>", "()V"⟩
abbrev cX9_has : ByteArray := prog_11_method_2_code
def yX9_has : MethodName := ⟨RX9, "has", "(I)Z"⟩
abbrev cX9_add : ByteArray := prog_11_method_3_code
def yX9_add : MethodName := ⟨RX9, "add", "(IIII)I"⟩
abbrev cX9_landOf : ByteArray := prog_11_method_4_code
def yX9_landOf : MethodName := ⟨RX9, "landOf", "(II)I"⟩
abbrev cX9_countIn : ByteArray := prog_11_method_5_code
def yX9_countIn : MethodName := ⟨RX9, "countIn", "(I)I"⟩
def RX10 : String := "PermitOffice"
def TX10 : u_T := fun k => match k with
  | 0 => ("PermitOffice", "tape", "LPermitOffice$Tape;", true)
  | 1 => ("PermitOffice", "reader", "LPermitOffice$Reader;", true)
  | 2 => ("PermitOffice", "planner", "LPermitOffice$Planner;", true)
  | 3 => ("PermitOffice", "books", "LPermitOffice$Books;", false)
  | 4 => ("PermitOffice", "draft", "LPermitOffice$Books;", false)
  | _ => ("PermitOffice", "latestFault", "I", false)
def tyX10 : Nat → FieldType := fun k => match k with
  | 0 => .object "PermitOffice$Tape"
  | 1 => .object "PermitOffice$Reader"
  | 2 => .object "PermitOffice$Planner"
  | 3 => .object "PermitOffice$Books"
  | 4 => .object "PermitOffice$Books"
  | _ => .int
theorem nmX10 : ∀ a, a < 6 → ∀ b, b < 6 → a ≠ b → (TX10 a).2.1 ≠ (TX10 b).2.1 := by decide +kernel
theorem tyX10_ok : ∀ k, k < 6 → parseFieldDescriptor (TX10 k).2.2.1 = some (tyX10 k) := by decide +kernel
abbrev cX10_init : ByteArray := prog_1_method_1_code
def yX10_init : MethodName := ⟨RX10, "<init>", "()V"⟩
abbrev cX10_feed : ByteArray := prog_1_method_2_code
def yX10_feed : MethodName := ⟨RX10, "feed", "(IIIII)I"⟩
abbrev cX10_end : ByteArray := prog_1_method_3_code
def yX10_end : MethodName := ⟨RX10, "end", "(I)Z"⟩
abbrev cX10_text : ByteArray := prog_1_method_4_code
def yX10_text : MethodName := ⟨RX10, "text", "()I"⟩
abbrev cX10_fault : ByteArray := prog_1_method_5_code
def yX10_fault : MethodName := ⟨RX10, "fault", "()I"⟩
abbrev cX10_now : ByteArray := prog_1_method_6_code
def yX10_now : MethodName := ⟨RX10, "now", "(I)I"⟩
abbrev cX10_type : ByteArray := prog_1_method_7_code
def yX10_type : MethodName := ⟨RX10, "type", "(II)I"⟩
abbrev cX10_ledger : ByteArray := prog_1_method_8_code
def yX10_ledger : MethodName := ⟨RX10, "ledger", "(II)I"⟩
abbrev cX10_lorry : ByteArray := prog_1_method_9_code
def yX10_lorry : MethodName := ⟨RX10, "lorry", "(II)I"⟩
abbrev cX10_trip : ByteArray := prog_1_method_10_code
def yX10_trip : MethodName := ⟨RX10, "trip", "(II)I"⟩
abbrev cX10_fits : ByteArray := prog_1_method_11_code
def yX10_fits : MethodName := ⟨RX10, "fits", "(II)Z"⟩
abbrev cX10_plan : ByteArray := prog_1_method_12_code
def yX10_plan : MethodName := ⟨RX10, "plan", "(I)I"⟩
abbrev cX10_served : ByteArray := prog_1_method_13_code
def yX10_served : MethodName := ⟨RX10, "served", "(II)I"⟩
abbrev cX10_needs : ByteArray := prog_1_method_14_code
def yX10_needs : MethodName := ⟨RX10, "needs", "(I)I"⟩
abbrev cX10_free : ByteArray := prog_1_method_15_code
def yX10_free : MethodName := ⟨RX10, "free", "(II)I"⟩
abbrev cX10_shortest : ByteArray := prog_1_method_16_code
def yX10_shortest : MethodName := ⟨RX10, "shortest", "(II)I"⟩
abbrev cX10_lawful : ByteArray := prog_1_method_17_code
def yX10_lawful : MethodName := ⟨RX10, "lawful", "(II)I"⟩
abbrev cX10_ask : ByteArray := prog_1_method_18_code
def yX10_ask : MethodName := ⟨RX10, "ask", "(III)I"⟩
abbrev cX10_drop : ByteArray := prog_1_method_19_code
def yX10_drop : MethodName := ⟨RX10, "drop", "(I)Z"⟩
abbrev cX10_assign : ByteArray := prog_1_method_20_code
def yX10_assign : MethodName := ⟨RX10, "assign", "()I"⟩
abbrev cX10_home : ByteArray := prog_1_method_21_code
def yX10_home : MethodName := ⟨RX10, "home", "(I)I"⟩
abbrev cX10_stop : ByteArray := prog_1_method_22_code
def yX10_stop : MethodName := ⟨RX10, "stop", "(II)I"⟩
abbrev cX10_handBack : ByteArray := prog_1_method_23_code
def yX10_handBack : MethodName := ⟨RX10, "handBack", "(II)I"⟩
abbrev cX10_pass : ByteArray := prog_1_method_24_code
def yX10_pass : MethodName := ⟨RX10, "pass", "(I)I"⟩
abbrev cX10_undo : ByteArray := prog_1_method_25_code
def yX10_undo : MethodName := ⟨RX10, "undo", "()I"⟩
def RX11 : String := "PermitOfficeModel"
def TX11 : u_T := fun k => match k with
  | 0 => ("PermitOfficeModel", "thrown", "I", false)
  | 1 => ("PermitOfficeModel", "tape", "[I", true)
  | 2 => ("PermitOfficeModel", "taped", "I", false)
  | 3 => ("PermitOfficeModel", "size", "I", false)
  | 4 => ("PermitOfficeModel", "to", "I", false)
  | 5 => ("PermitOfficeModel", "from", "I", false)
  | 6 => ("PermitOfficeModel", "sort", "I", false)
  | 7 => ("PermitOfficeModel", "number", "I", false)
  | 8 => ("PermitOfficeModel", "fault", "I", false)
  | 9 => ("PermitOfficeModel", "place", "I", false)
  | 10 => ("PermitOfficeModel", "word", "J", false)
  | 11 => ("PermitOfficeModel", "now", "[I", true)
  | 12 => ("PermitOfficeModel", "read", "[I", true)
  | 13 => ("PermitOfficeModel", "snaps", "[I", true)
  | 14 => ("PermitOfficeModel", "snapMany", "I", false)
  | 15 => ("PermitOfficeModel", "got", "I", false)
  | 16 => ("PermitOfficeModel", "free", "[I", true)
  | 17 => ("PermitOfficeModel", "used", "[I", true)
  | 18 => ("PermitOfficeModel", "given", "[I", true)
  | 19 => ("PermitOfficeModel", "cameFrom", "[I", true)
  | 20 => ("PermitOfficeModel", "queue", "[I", true)
  | 21 => ("PermitOfficeModel", "settled", "[Z", true)
  | 22 => ("PermitOfficeModel", "servedMany", "I", false)
  | 23 => ("PermitOfficeModel", "servedCost", "I", false)
  | _ => ("PermitOfficeModel", "way", "[I", true)
def tyX11 : Nat → FieldType := fun k => match k with
  | 0 => .int
  | 1 => .array .int
  | 2 => .int
  | 3 => .int
  | 4 => .int
  | 5 => .int
  | 6 => .int
  | 7 => .int
  | 8 => .int
  | 9 => .int
  | 10 => .long
  | 11 => .array .int
  | 12 => .array .int
  | 13 => .array .int
  | 14 => .int
  | 15 => .int
  | 16 => .array .int
  | 17 => .array .int
  | 18 => .array .int
  | 19 => .array .int
  | 20 => .array .int
  | 21 => .array .boolean
  | 22 => .int
  | 23 => .int
  | _ => .array .int
theorem nmX11 : ∀ a, a < 25 → ∀ b, b < 25 → a ≠ b → (TX11 a).2.1 ≠ (TX11 b).2.1 := by decide +kernel
theorem tyX11_ok : ∀ k, k < 25 → parseFieldDescriptor (TX11 k).2.2.1 = some (tyX11 k) := by decide +kernel
abbrev cX11_thrown : ByteArray := prog_13_method_1_code
def yX11_thrown : MethodName := ⟨RX11, "thrown", "()I"⟩
abbrev cX11_refuse : ByteArray := prog_13_method_2_code
def yX11_refuse : MethodName := ⟨RX11, "refuse", "()I"⟩
abbrev cX11_isIn : ByteArray := prog_13_method_3_code
def yX11_isIn : MethodName := ⟨RX11, "isIn", "(III)Z"⟩
abbrev cX11_has : ByteArray := prog_13_method_4_code
def yX11_has : MethodName := ⟨RX11, "has", "(II)Z"⟩
abbrev cX11_lays : ByteArray := prog_13_method_5_code
def yX11_lays : MethodName := ⟨RX11, "lays", "(I)V"⟩
abbrev cX11_feed : ByteArray := prog_13_method_6_code
def yX11_feed : MethodName := ⟨RX11, "feed", "(IIIII)I"⟩
abbrev cX11_end : ByteArray := prog_13_method_7_code
def yX11_end : MethodName := ⟨RX11, "end", "(I)Z"⟩
abbrev cX11_tapeAt : ByteArray := prog_13_method_8_code
def yX11_tapeAt : MethodName := ⟨RX11, "tapeAt", "(I)I"⟩
abbrev cX11_isDigit : ByteArray := prog_13_method_9_code
def yX11_isDigit : MethodName := ⟨RX11, "isDigit", "(I)Z"⟩
abbrev cX11_isLetter : ByteArray := prog_13_method_10_code
def yX11_isLetter : MethodName := ⟨RX11, "isLetter", "(I)Z"⟩
abbrev cX11_go : ByteArray := prog_13_method_11_code
def yX11_go : MethodName := ⟨RX11, "go", "()V"⟩
abbrev cX11_four : ByteArray := prog_13_method_12_code
def yX11_four : MethodName := ⟨RX11, "four", "(IIII)J"⟩
abbrev cX11_five : ByteArray := prog_13_method_13_code
def yX11_five : MethodName := ⟨RX11, "five", "(IIIII)J"⟩
abbrev cX11_six : ByteArray := prog_13_method_14_code
def yX11_six : MethodName := ⟨RX11, "six", "(IIIIII)J"⟩
abbrev cX11_isWord : ByteArray := prog_13_method_15_code
def yX11_isWord : MethodName := ⟨RX11, "isWord", "(J)Z"⟩
abbrev cX11_bad : ByteArray := prog_13_method_16_code
def yX11_bad : MethodName := ⟨RX11, "bad", "(I)Z"⟩
abbrev cX11_init : ByteArray := prog_13_method_17_code
def yX11_init : MethodName := ⟨RX11, "<init>", "()V"⟩
abbrev cX11_told : ByteArray := prog_13_method_18_code
def yX11_told : MethodName := ⟨RX11, "told", "(III)Z"⟩
abbrev cX11_land : ByteArray := prog_13_method_19_code
def yX11_land : MethodName := ⟨RX11, "land", "(I)Z"⟩
abbrev cX11_readLands : ByteArray := prog_13_method_20_code
def yX11_readLands : MethodName := ⟨RX11, "readLands", "()Z"⟩
abbrev cX11_readBorder : ByteArray := prog_13_method_21_code
def yX11_readBorder : MethodName := ⟨RX11, "readBorder", "()Z"⟩
abbrev cX11_readKind : ByteArray := prog_13_method_22_code
def yX11_readKind : MethodName := ⟨RX11, "readKind", "(I)Z"⟩
abbrev cX11_readType : ByteArray := prog_13_method_23_code
def yX11_readType : MethodName := ⟨RX11, "readType", "()Z"⟩
abbrev cX11_readLorry : ByteArray := prog_13_method_24_code
def yX11_readLorry : MethodName := ⟨RX11, "readLorry", "()Z"⟩
abbrev cX11_readLine : ByteArray := prog_13_method_25_code
def yX11_readLine : MethodName := ⟨RX11, "readLine", "(Z)Z"⟩
abbrev cX11_readEnd : ByteArray := prog_13_method_26_code
def yX11_readEnd : MethodName := ⟨RX11, "readEnd", "()Z"⟩
abbrev cX11_text : ByteArray := prog_13_method_27_code
def yX11_text : MethodName := ⟨RX11, "text", "()I"⟩
abbrev cX11_fault : ByteArray := prog_13_method_28_code
def yX11_fault : MethodName := ⟨RX11, "fault", "()I"⟩
abbrev cX11_isLand : ByteArray := prog_13_method_29_code
def yX11_isLand : MethodName := ⟨RX11, "isLand", "(I)Z"⟩
abbrev cX11_isType : ByteArray := prog_13_method_30_code
def yX11_isType : MethodName := ⟨RX11, "isType", "(I)Z"⟩
abbrev cX11_isLorry : ByteArray := prog_13_method_31_code
def yX11_isLorry : MethodName := ⟨RX11, "isLorry", "(I)Z"⟩
abbrev cX11_isTrip : ByteArray := prog_13_method_32_code
def yX11_isTrip : MethodName := ⟨RX11, "isTrip", "(I)Z"⟩
abbrev cX11_typed : ByteArray := prog_13_method_33_code
def yX11_typed : MethodName := ⟨RX11, "typed", "(II)I"⟩
abbrev cX11_its : ByteArray := prog_13_method_34_code
def yX11_its : MethodName := ⟨RX11, "its", "(II)I"⟩
abbrev cX11_lorryOf : ByteArray := prog_13_method_35_code
def yX11_lorryOf : MethodName := ⟨RX11, "lorryOf", "(II)I"⟩
abbrev cX11_outBy : ByteArray := prog_13_method_36_code
def yX11_outBy : MethodName := ⟨RX11, "outBy", "(I)I"⟩
abbrev cX11_piecesOut : ByteArray := prog_13_method_37_code
def yX11_piecesOut : MethodName := ⟨RX11, "piecesOut", "(I)I"⟩
abbrev cX11_piecesIn : ByteArray := prog_13_method_38_code
def yX11_piecesIn : MethodName := ⟨RX11, "piecesIn", "(I)I"⟩
abbrev cX11_freeOf : ByteArray := prog_13_method_39_code
def yX11_freeOf : MethodName := ⟨RX11, "freeOf", "(I)I"⟩
abbrev cX11_having : ByteArray := prog_13_method_40_code
def yX11_having : MethodName := ⟨RX11, "having", "(I)I"⟩
abbrev cX11_borders : ByteArray := prog_13_method_41_code
def yX11_borders : MethodName := ⟨RX11, "borders", "()I"⟩
abbrev cX11_misuses : ByteArray := prog_13_method_42_code
def yX11_misuses : MethodName := ⟨RX11, "misuses", "()I"⟩
abbrev cX11_now : ByteArray := prog_13_method_43_code
def yX11_now : MethodName := ⟨RX11, "now", "(I)I"⟩
abbrev cX11_type : ByteArray := prog_13_method_44_code
def yX11_type : MethodName := ⟨RX11, "type", "(II)I"⟩
abbrev cX11_ledger : ByteArray := prog_13_method_45_code
def yX11_ledger : MethodName := ⟨RX11, "ledger", "(II)I"⟩
abbrev cX11_tripOf : ByteArray := prog_13_method_46_code
def yX11_tripOf : MethodName := ⟨RX11, "tripOf", "(I)I"⟩
abbrev cX11_doneBy : ByteArray := prog_13_method_47_code
def yX11_doneBy : MethodName := ⟨RX11, "doneBy", "(I)I"⟩
abbrev cX11_lorry : ByteArray := prog_13_method_48_code
def yX11_lorry : MethodName := ⟨RX11, "lorry", "(II)I"⟩
abbrev cX11_trip : ByteArray := prog_13_method_49_code
def yX11_trip : MethodName := ⟨RX11, "trip", "(II)I"⟩
abbrev cX11_wayOf : ByteArray := prog_13_method_50_code
def yX11_wayOf : MethodName := ⟨RX11, "wayOf", "(I)I"⟩
abbrev cX11_isFit : ByteArray := prog_13_method_51_code
def yX11_isFit : MethodName := ⟨RX11, "isFit", "(II)Z"⟩
abbrev cX11_fits : ByteArray := prog_13_method_52_code
def yX11_fits : MethodName := ⟨RX11, "fits", "(II)Z"⟩
abbrev cX11_laysFree : ByteArray := prog_13_method_53_code
def yX11_laysFree : MethodName := ⟨RX11, "laysFree", "()V"⟩
abbrev cX11_isOpen : ByteArray := prog_13_method_54_code
def yX11_isOpen : MethodName := ⟨RX11, "isOpen", "(I)Z"⟩
abbrev cX11_finds : ByteArray := prog_13_method_55_code
def yX11_finds : MethodName := ⟨RX11, "finds", "()I"⟩
abbrev cX11_reaches : ByteArray := prog_13_method_56_code
def yX11_reaches : MethodName := ⟨RX11, "reaches", "(II)I"⟩
abbrev cX11_serves : ByteArray := prog_13_method_57_code
def yX11_serves : MethodName := ⟨RX11, "serves", "()V"⟩
abbrev cX11_opensAll : ByteArray := prog_13_method_58_code
def yX11_opensAll : MethodName := ⟨RX11, "opensAll", "()V"⟩
abbrev cX11_isAsGood : ByteArray := prog_13_method_59_code
def yX11_isAsGood : MethodName := ⟨RX11, "isAsGood", "(IIII)Z"⟩
abbrev cX11_laysPlan : ByteArray := prog_13_method_60_code
def yX11_laysPlan : MethodName := ⟨RX11, "laysPlan", "()V"⟩
abbrev cX11_plan : ByteArray := prog_13_method_61_code
def yX11_plan : MethodName := ⟨RX11, "plan", "(I)I"⟩
abbrev cX11_servedWith : ByteArray := prog_13_method_62_code
def yX11_servedWith : MethodName := ⟨RX11, "servedWith", "(II)I"⟩
abbrev cX11_served : ByteArray := prog_13_method_63_code
def yX11_served : MethodName := ⟨RX11, "served", "(II)I"⟩
abbrev cX11_needs : ByteArray := prog_13_method_64_code
def yX11_needs : MethodName := ⟨RX11, "needs", "(I)I"⟩
abbrev cX11_free : ByteArray := prog_13_method_65_code
def yX11_free : MethodName := ⟨RX11, "free", "(II)I"⟩
abbrev cX11_shortest : ByteArray := prog_13_method_66_code
def yX11_shortest : MethodName := ⟨RX11, "shortest", "(II)I"⟩
abbrev cX11_whyStopped : ByteArray := prog_13_method_67_code
def yX11_whyStopped : MethodName := ⟨RX11, "whyStopped", "(II)I"⟩
abbrev cX11_lawful : ByteArray := prog_13_method_68_code
def yX11_lawful : MethodName := ⟨RX11, "lawful", "(II)I"⟩
abbrev cX11_snap : ByteArray := prog_13_method_69_code
def yX11_snap : MethodName := ⟨RX11, "snap", "()V"⟩
abbrev cX11_canGo : ByteArray := prog_13_method_70_code
def yX11_canGo : MethodName := ⟨RX11, "canGo", "(III)Z"⟩
abbrev cX11_ask : ByteArray := prog_13_method_71_code
def yX11_ask : MethodName := ⟨RX11, "ask", "(III)I"⟩
abbrev cX11_drop : ByteArray := prog_13_method_72_code
def yX11_drop : MethodName := ⟨RX11, "drop", "(I)Z"⟩
abbrev cX11_assign : ByteArray := prog_13_method_73_code
def yX11_assign : MethodName := ⟨RX11, "assign", "()I"⟩
abbrev cX11_home : ByteArray := prog_13_method_74_code
def yX11_home : MethodName := ⟨RX11, "home", "(I)I"⟩
abbrev cX11_stop : ByteArray := prog_13_method_75_code
def yX11_stop : MethodName := ⟨RX11, "stop", "(II)I"⟩
abbrev cX11_handBack : ByteArray := prog_13_method_76_code
def yX11_handBack : MethodName := ⟨RX11, "handBack", "(II)I"⟩
abbrev cX11_pass : ByteArray := prog_13_method_77_code
def yX11_pass : MethodName := ⟨RX11, "pass", "(I)I"⟩
abbrev cX11_undo : ByteArray := prog_13_method_78_code
def yX11_undo : MethodName := ⟨RX11, "undo", "()I"⟩
end
section
/-! THE ABSTRACT MACHINE. One heap of numbers for the class, the reference and the law's row: h.1 block cell slot (ints), h.2 (longs).
Blocks: 0 office, 1 and 2 the two Books, 3 the reference, 4 the law's row. -/
def gtbl : List Cond := lw_tbl.filter goodWord
theorem memI {w : Cond} (i : Nat) (h : lw_tbl[i]? = some w) (hg : goodWord w = true) : w ∈ gtbl := List.mem_filter.mpr ⟨List.mem_of_getElem? h, hg⟩
abbrev AH : Type := (Nat → Nat → Nat → Int32) × (Nat → Nat → Nat → Int64)
def ui (h : AH) (b k j : Nat) (v : Int32) : AH := (fun b' k' j' => if b' = b ∧ k' = k ∧ j' = j then v else h.1 b' k' j', h.2)
def ul (h : AH) (b k j : Nat) (v : Int64) : AH := (h.1, fun b' k' j' => if b' = b ∧ k' = k ∧ j' = j then v else h.2 b' k' j')
abbrev classes : List vw_C := [(RX0, TX0, 5), (RX1, TX1, 6), (RX2, TX2, 3), (RX3, TX3, 6), (RX4, TX4, 13), (RX5, TX5, 9), (RX6, TX6, 10), (RX7, TX7, 2), (RX8, TX8, 5), (RX9, TX9, 10), (RX10, TX10, 6), (RX11, TX11, 25)]
/-- the cells of a block: (0, class) an object, (1, n) ints, (2, n) bytes, (3, n) longs, (4, n) booleans -/
def k0l : List (Nat × Nat) := [(0, 10), (0, 7), (2, 740), (0, 8), (0, 6), (1, 5), (0, 5), (1, 8), (3, 56), (1, 7), (1, 7), (1, 8), (3, 7), (1, 7)]
def kBl : List (Nat × Nat) := [(0, 1), (0, 2), (1, 8), (0, 4), (1, 6), (1, 6), (1, 6), (1, 6), (1, 6), (1, 6), (1, 6), (1, 6), (1, 6), (1, 6), (1, 6), (0, 3), (1, 8), (1, 8), (1, 8), (1, 8), (1, 8), (0, 9), (1, 40), (1, 40), (1, 40), (1, 40), (1, 40), (1, 40), (1, 40), (1, 40), (1, 40), (0, 0), (1, 10), (1, 10), (1, 10)]
def kMl : List (Nat × Nat) := [(0, 11), (1, 740), (1, 631), (1, 631), (1, 6310), (1, 6), (1, 6), (1, 40), (1, 6), (1, 6), (4, 40), (1, 6)]
def kLl : List (Nat × Nat) := [(3, 1)]
def kd (b k : Nat) : Option (Nat × Nat) := match b with
  | 0 => k0l[k]?
  | 1 => kBl[k]?
  | 2 => kBl[k]?
  | 3 => kMl[k]?
  | 4 => kLl[k]?
  | _ => none
def isB (b : Nat) : Prop := b = 1 ∨ b = 2
theorem kdB {b k : Nat} {q : Nat × Nat} (hb : isB b) (h : kBl[k]? = some q) : kd b k = some q := by
  rcases hb with rfl | rfl <;> exact h
/-- the fields of a class: 0 an int, 1 a long, 2 one of the two Books (told by its block), t + 3 the cell t of the same block -/
def fkl : List (List Nat) := [[35, 36, 37, 0, 0], [4, 6, 18, 24, 34, 0], [5, 0, 0], [19, 20, 21, 22, 23, 0], [7, 8, 9, 10, 11, 12, 13, 14, 15, 16, 17, 0, 0], [10, 11, 12, 13, 14, 15, 16, 0, 0], [6, 8, 0, 0, 0, 0, 0, 0, 0, 0], [5, 0], [4, 0, 0, 0, 0], [25, 26, 27, 28, 29, 30, 31, 32, 33, 0], [4, 7, 9, 2, 2, 0], [0, 4, 0, 0, 0, 0, 0, 0, 0, 0, 1, 5, 6, 7, 0, 0, 8, 9, 10, 11, 12, 13, 0, 0, 14]]
def fk (ci j : Nat) : Nat := (fkl.getD ci []).getD j 0
def nf (ci : Nat) : Nat := (fkl.getD ci []).length
/-- the ghosts: addresses, where the law's own heap begins, class numbers, array classes, addresses of what was there before -/
abbrev GG : Type := (Nat → Nat → Nat) × Nat × va_G × (ClassId × ClassId × ClassId × ClassId) × (Nat → Nat)
def fval (ad : Nat → Nat → Nat) (h : AH) (b k ci j : Nat) : Value := match fk ci j with
  | 0 => .int (h.1 b k j)
  | 1 => .long (h.2 b k j)
  | 2 => .ref (ad (h.1 b k j).toNatClampNeg 0)
  | t + 3 => .ref (ad b t)
def fv (ad : Nat → Nat → Nat) (h : AH) (b k ci : Nat) : List Value := (List.range (nf ci)).map (fval ad h b k ci)
def cellE (ad : Nat → Nat → Nat) (c : ClassId × ClassId × ClassId × ClassId) (h : AH) (b k : Nat) (q : Nat × Nat) : va_E := match q.1 with
  | 0 => .inr (q.2, fv ad h b k q.2)
  | 1 => .inl (c.1, q.2, .inl (h.1 b k))
  | 2 => .inl (c.2.1, q.2, .inl (h.1 b k))
  | 3 => .inl (c.2.2.1, q.2, .inr (.inl (h.2 b k)))
  | _ => .inl (c.2.2.2, q.2, .inl (h.1 b k))
def Alo (G : GG) : Nat → Prop := fun q => G.2.1 ≤ q
def tysG (G : GG) : List (ClassId × FieldType) := [(G.2.2.2.1.1, .int), (G.2.2.2.1.2.1, .byte), (G.2.2.2.1.2.2.1, .long), (G.2.2.2.1.2.2.2, .boolean)]
def adI (G : GG) : Prop := (∀ b k q b' k' q', kd b k = some q → kd b' k' = some q' → G.1 b k = G.1 b' k' → b = b' ∧ k = k') ∧ ∀ b k q, kd b k = some q → G.2.1 ≤ G.1 b k
def Wd (G : GG) (h : AH) (H : Heap) : Prop := adI G ∧ ∀ b k q, kd b k = some q → va_at G.2.2.1 classes (G.1 b k, cellE G.1 G.2.2.2.1 h b k q) H
/-- what stood there before: the statics and the texts -/
def lstV : List Int32 := [1, 1, 2, 1, 0, 0, 0]
def mstV : List Int32 := [8, 9, 9, 6, 99, 9, 99]
def ownS (i : Nat) : String := if i < 7 then RX6 else RX10
def idxS : List Nat := [106, 111, 113, 115, 117, 119, 121, 175, 193, 288]
def txtS : List String := ["lands", "border", "type", "lorry", "single", "multi", "shared", "no such lorry", "no such what", "no trip that is out"]
def lenS : List Nat := [5, 6, 4, 5, 6, 5, 6, 13, 12, 19]
def bytS : List (List Int32) := [[108, 97, 110, 100, 115], [98, 111, 114, 100, 101, 114], [116, 121, 112, 101], [108, 111, 114, 114, 121], [115, 105, 110, 103, 108, 101], [109, 117, 108, 116, 105], [115, 104, 97, 114, 101, 100], [110, 111, 32, 115, 117, 99, 104, 32, 108, 111, 114, 114, 121], [110, 111, 32, 115, 117, 99, 104, 32, 119, 104, 97, 116], [110, 111, 32, 116, 114, 105, 112, 32, 116, 104, 97, 116, 32, 105, 115, 32, 111, 117, 116]]
def SF (G : GG) (U : State) : Prop :=
  va_Z "java/lang/String" "COMPACT_STRINGS" "Z" (.int 1) (Alo G) U U.heap ∧
  va_Z RX6 "LEAST" "[I" (.ref (G.2.2.2.2 0)) (Alo G) U U.heap ∧ va_Z RX6 "MOST" "[I" (.ref (G.2.2.2.2 1)) (Alo G) U U.heap ∧
  va_T .int (G.2.2.2.2 0) 7 (fun j => .int (lstV.getD j 0)) (Alo G) U U.heap ∧ va_T .int (G.2.2.2.2 1) 7 (fun j => .int (mstV.getD j 0)) (Alo G) U U.heap ∧
  va_Zq "jdk/internal/util/Preconditions" "SIOOBE_FORMATTER" "Ljava/util/function/BiFunction;" (Alo G) U U.heap ∧
  vk_S 10 lenS bytS (fun i => G.2.2.2.2 (2 + i)) (fun i => G.2.2.2.2 (12 + i)) (Alo G) U U.heap ∧
  ∀ i, i < 10 → vk_R (ownS i) (idxS.getD i 0) (txtS.getD i "") (G.2.2.2.2 (2 + i)) U
theorem SF.warm {G : GG} {s U : State} (hW : s.WarmedH U.vm) (hq : ∀ a : Nat, a < s.heap.size → ¬ Alo G a → U.heap[a]? = s.heap[a]?) (h : SF G s) : SF G U := by
  obtain ⟨h1, h2, h3, h4, h5, h6, h7, h8⟩ := h
  exact ⟨(va_Z.moved hW.alike h1).kept hq, (va_Z.moved hW.alike h2).kept hq, (va_Z.moved hW.alike h3).kept hq, (va_T.moved hW.alike h4).kept hq, (va_T.moved hW.alike h5).kept hq, (va_Zq.moved hW.alike h6).kept hq, (vk_S.moved hW.alike h7).kept hq, fun i hi => vk_R.warm hW (h8 i hi)⟩
theorem SF.blind {G : GG} {U : State} {g : JFrame} {mk : MethodId} {a : Array Value} (h : SF G U) : SF G (U.calling g mk a) := by
  obtain ⟨h1, h2, h3, h4, h5, h6, h7, h8⟩ := h
  have e : U.vm.Alike (U.calling g mk a).vm := Vm.Alike.refl U.vm
  exact ⟨va_Z.moved e h1, va_Z.moved e h2, va_Z.moved e h3, va_T.moved e h4, va_T.moved e h5, va_Zq.moved e h6, vk_S.moved e h7, fun i hi => vk_R.same rfl (h8 i hi)⟩
/-! locals -/
def lget : List (Option Value) → Nat → Option Value
  | [], _ => none
  | a :: _, 0 => a
  | _ :: l, n + 1 => lget l n
def lset : List (Option Value) → Nat → Option Value → List (Option Value)
  | [], 0, x => [x]
  | [], n + 1, x => none :: lset [] n x
  | _ :: l, 0, x => x :: l
  | a :: l, n + 1, x => a :: lset l n x
theorem lget_lset (l : List (Option Value)) (i : Nat) (x : Option Value) (j : Nat) : lget (lset l i x) j = if j = i then x else lget l j := by
  induction l generalizing i j with
  | nil =>
    induction i generalizing j with
    | zero => cases j <;> simp [lset, lget]
    | succ i ih => cases j with
      | zero => simp [lset, lget]
      | succ j => simp [lset, lget, ih]
  | cons a l ih =>
    cases i with
    | zero => cases j <;> simp [lset, lget]
    | succ i => cases j with
      | zero => simp [lset, lget]
      | succ j => simp [lset, lget, ih]
/-- the locals hold what is listed -/
def hv (ls : Array Slot) (nL : Nat) (lv : List (Option Value)) : Prop := ls.size = nL ∧ lv_wf ls ∧ ∀ i v, lget lv i = some v → ls[i]? = some (.val v)
def asc : Nat → List (Option Value) → List (Nat × Value)
  | _, [] => []
  | n, none :: l => asc (n + 1) l
  | n, some v :: l => (n, v) :: asc (n + 1) l
theorem mem_asc {j : Nat} {w : Value} : ∀ (lv : List (Option Value)) (n : Nat), (j, w) ∈ asc n lv ↔ n ≤ j ∧ lget lv (j - n) = some w := by
  intro lv
  induction lv with
  | nil => intro n; simp [asc, lget]
  | cons a l ih =>
    intro n
    have key : (n + 1 ≤ j ∧ lget l (j - (n + 1)) = some w) ↔ (n + 1 ≤ j ∧ lget (a :: l) (j - n) = some w) := by
      constructor
      · rintro ⟨h1, h2⟩
        refine ⟨h1, ?_⟩
        rw [show j - n = (j - (n + 1)) + 1 by omega]
        exact h2
      · rintro ⟨h1, h2⟩
        refine ⟨h1, ?_⟩
        rw [show j - n = (j - (n + 1)) + 1 by omega] at h2
        exact h2
    cases a with
    | none =>
      rw [asc, ih, key]
      constructor
      · rintro ⟨h1, h2⟩
        exact ⟨by omega, h2⟩
      · rintro ⟨h1, h2⟩
        rcases Nat.lt_or_ge n j with q | q
        · exact ⟨q, h2⟩
        · rw [show j - n = 0 by omega] at h2
          simp [lget] at h2
    | some v =>
      rw [asc, List.mem_cons, ih, key]
      constructor
      · rintro (h | ⟨h1, h2⟩)
        · cases h
          exact ⟨Nat.le_refl _, by rw [Nat.sub_self]; rfl⟩
        · exact ⟨by omega, h2⟩
      · rintro ⟨h1, h2⟩
        rcases Nat.lt_or_ge n j with q | q
        · exact Or.inr ⟨q, h2⟩
        · have hj : j = n := by omega
          subst hj
          rw [Nat.sub_self] at h2
          simp [lget] at h2
          exact Or.inl (by rw [h2])
theorem hv_iff {ls : Array Slot} {nL : Nat} {lv : List (Option Value)} : hv ls nL lv ↔ lv_has ls nL (asc 0 lv) := by
  constructor
  · rintro ⟨h1, h2, h3⟩
    refine ⟨h1, h2, ?_⟩
    rintro ⟨j, w⟩ hq
    exact h3 j w ((mem_asc lv 0).mp hq).2
  · rintro ⟨h1, h2, h3⟩
    exact ⟨h1, h2, fun i v h => h3 (i, v) ((mem_asc lv 0).mpr ⟨Nat.zero_le _, h⟩)⟩
/-- storing at i doesn't cut a long that stands before it -/
def okS (lv : List (Option Value)) : Nat → Bool
  | 0 => true
  | i + 1 => match lget lv i with
    | some (.long _) => false
    | some (.double _) => false
    | _ => true
theorem okS_spec {lv : List (Option Value)} {i j : Nat} {w : Value} (h : okS lv i = true) (hj : lget lv j = some w) : ¬ (j + 1 = i ∧ w.category = 2) := by
  rintro ⟨rfl, h2⟩
  rw [okS, hj] at h
  cases w <;> simp [Value.category] at h h2
theorem hv_store1 {ls : Array Slot} {nL i : Nat} {lv : List (Option Value)} {v : Value} (h : hv ls nL lv) (hi : i < nL) (hv1 : v.category = 1) (hk : okS lv i = true) : ∃ ls', storeLocals ls i v = some ls' ∧ hv ls' nL (lset lv i (some v)) := by
  obtain ⟨ls', e, h'⟩ := lv_store1 (hv_iff.mp h) hi hv1
  refine ⟨ls', e, h'.1, h'.2.1, fun j w hw => ?_⟩
  rw [lget_lset] at hw
  by_cases hj : j = i
  · rw [if_pos hj] at hw
    cases hw
    subst hj
    exact h'.2.2 _ List.mem_cons_self
  · rw [if_neg hj] at hw
    refine h'.2.2 (j, w) (List.mem_cons_of_mem _ (List.mem_filter.mpr ⟨(mem_asc lv 0).mpr ⟨Nat.zero_le _, hw⟩, ?_⟩))
    have := okS_spec hk hw
    simp [hj]
    omega
theorem hv_store2 {ls : Array Slot} {nL i : Nat} {lv : List (Option Value)} {v : Value} (h : hv ls nL lv) (hi : i + 1 < nL) (hv1 : v.category = 2) (hk : okS lv i = true) : ∃ ls', storeLocals ls i v = some ls' ∧ hv ls' nL (lset (lset lv i (some v)) (i + 1) none) := by
  obtain ⟨ls', e, h'⟩ := lv_store2 (hv_iff.mp h) hi hv1
  refine ⟨ls', e, h'.1, h'.2.1, fun j w hw => ?_⟩
  rw [lget_lset] at hw
  by_cases hj1 : j = i + 1
  · rw [if_pos hj1] at hw
    cases hw
  rw [if_neg hj1, lget_lset] at hw
  by_cases hj : j = i
  · rw [if_pos hj] at hw
    cases hw
    subst hj
    exact h'.2.2 _ List.mem_cons_self
  · rw [if_neg hj] at hw
    refine h'.2.2 (j, w) (List.mem_cons_of_mem _ (List.mem_filter.mpr ⟨(mem_asc lv 0).mpr ⟨Nat.zero_le _, hw⟩, ?_⟩))
    have := okS_spec hk hw
    simp [hj, hj1]
    omega
def ent : List Value → List (Option Value)
  | [] => []
  | .long x :: l => some (.long x) :: none :: ent l
  | .double x :: l => some (.double x) :: none :: ent l
  | v :: l => some v :: ent l
theorem ent_args : ∀ (vs : List Value) (n : Nat) (q : Nat × Value), q ∈ asc n (ent vs) → q ∈ lv_args n vs := by
  intro vs
  induction vs with
  | nil => intro n q h; simp [ent, asc] at h
  | cons v vs ih =>
    intro n q h
    cases v <;> simp [ent, asc] at h <;> rw [lv_args, List.mem_cons] <;> rcases h with h | h <;> first
      | exact Or.inl h
      | exact Or.inr (by simpa [Value.category] using ih _ q h)
/-! the judgement -/
def rmD (d : Nat) : Room := { frames := d, cells := 0, slots := 0, locals := 36 * d }
def QA (G : GG) (Q : Option Value → AH → Prop) : Array Value → State → Outcome → State → Prop := fun _ st o t => (∃ (v : Option Value) (h : AH), o = .returned v ∧ Q v h ∧ Wd G h t.heap) ∧ va_F (Alo G) st t
abbrev Cx (G : GG) (own : String) (cc : ByteArray) (nL : Nat) (ret : Option FieldType) (p : Program) (s : State) (m : MethodId) (args : Array Value) (meth : Method) (c : Code) : Prop :=
  p.tables.exec = Jvm.exec ∧ c.code = cc ∧ c.maxLocals = nL ∧ s.vm.findClass own = some m.cls ∧ (∀ w ∈ gtbl, w.before args s = true) ∧ meth.sig.returnType = ret ∧ meth.locks = false ∧ va_K G.2.2.1 classes (tysG G) s ∧ SF G s ∧ G.2.1 ≤ s.heap.size
def AW (l : Launch) (G : GG) (d : Nat) (own : String) (cc : ByteArray) (nL : Nat) (ret : Option FieldType) (pc : Nat) (lv : List (Option Value)) (st : List Value) (h : AH) (Q : Option Value → AH → Prop) : Prop :=
  ∀ (p : Program) (e : Env) (s : State) (m : MethodId) (args : Array Value) (below : List Frame) (meth : Method) (c : Code) (H : Heap) (locs : List Loc) (ls : Array Slot),
    Cx G own cc nL ret p s m args meth c → Wd G h H → va_S (Alo G) s.heap H locs → hv ls nL lv →
    W p l e (rmD d) s m args below meth c H locs 0 0 (MQ below (QA G Q) args s 0 0 (Alo G)) (F0 m pc ls st)
def preA (G : GG) (h : AH) (U : State) : Prop := G.2.1 ≤ U.heap.size ∧ Wd G h U.heap ∧ va_K G.2.2.1 classes (tysG G) U ∧ SF G U
/-- a method's contract: called with args at the heap h it returns, and Q holds of the answer and the heap -/
def Ct (l : Launch) (G : GG) (d : Nat) (y : MethodName) (cc : ByteArray) (nL : Nat) (ret : Option FieldType) (av : List Value) (h : AH) (Q : Option Value → AH → Prop) : Prop :=
  Met l y (Cond.code y cc nL ret :: gtbl) (rmD d) (va_Pc av (preA G h)) (QA G Q) 0 0 (Alo G)
theorem Ct.of {l : Launch} {G : GG} {d : Nat} {y : MethodName} {cc : ByteArray} {nL : Nat} {ret : Option FieldType} {av : List Value} {h : AH} {Q : Option Value → AH → Prop} (hy : plainName y.cls = true) (hn : (lg_sl av).length ≤ nL) (K : AW l G d y.cls cc nL ret 0 (ent av) [] h Q) : Ct l G d y cc nL ret av h Q := by
  refine Met.ofW (cc := cc) (maxL := nL) (ret := ret) hy rfl ?_
  intro p e s m args below meth c s₁ B hml hv0
  obtain ⟨rfl, hlo, hW, hK, hSF⟩ := hv0
  have hts := atoms_spec (ws := Cond.code y cc nL ret :: gtbl) B.pre
  have hl := lv_entry av (n := nL) hn
  rw [lg_entry_eq]
  refine K p e s m _ below meth c s.heap [] _ ⟨B.exec, B.bytes, hml, findClass_of_methodNamed B.named, fun w hw => hts w (List.mem_cons_of_mem _ hw), B.returns, B.notSynchronized, hK, hSF, hlo⟩ hW va_S.rf ?_
  exact hv_iff.mpr ⟨hl.1, hl.2.1, fun q hq => hl.2.2 q (ent_args av 0 q hq)⟩
end
section
/-! THE ROWS: an instruction each, goal first -/
section AROWS
variable {l : Launch} {G : GG} {d : Nat} {own : String} {cc : ByteArray} {nL : Nat} {ret : Option FieldType} {pc : Nat} {lv : List (Option Value)} {st : List Value} {h : AH} {Q : Option Value → AH → Prop}
theorem a_iconst {n : Int} {v : Int32} (hdg : decode cc pc = .ok (.iconst n, 1)) (hv : Int32.ofInt n = v) (k : AW l G d own cc nL ret (pc + 1) lv (.int v :: st) h Q) : AW l G d own cc nL ret pc lv st h Q := fun p e s m args below meth c H locs ls C hW hS hl => lv_iconst C.1 C.2.1 hdg hv (k p e s m args below meth c H locs ls C hW hS hl)
theorem a_bipush {n : Int} {v : Int32} (hdg : decode cc pc = .ok (.bipush n, 2)) (hv : (Int8.ofInt n).toInt32 = v) (k : AW l G d own cc nL ret (pc + 2) lv (.int v :: st) h Q) : AW l G d own cc nL ret pc lv st h Q := fun p e s m args below meth c H locs ls C hW hS hl => lv_bipush C.1 C.2.1 hdg hv (k p e s m args below meth c H locs ls C hW hS hl)
theorem a_sipush {n : Int} {v : Int32} (hdg : decode cc pc = .ok (.sipush n, 3)) (hv : (Int16.ofInt n).toInt32 = v) (k : AW l G d own cc nL ret (pc + 3) lv (.int v :: st) h Q) : AW l G d own cc nL ret pc lv st h Q := fun p e s m args below meth c H locs ls C hW hS hl => lv_sipush C.1 C.2.1 hdg hv (k p e s m args below meth c H locs ls C hW hS hl)
theorem a_lconst {n : Fin 2} {v : Int64} (hdg : decode cc pc = .ok (.lconst n, 1)) (hv : Int64.ofNat (n : Nat) = v) (k : AW l G d own cc nL ret (pc + 1) lv (.long v :: st) h Q) : AW l G d own cc nL ret pc lv st h Q := fun p e s m args below meth c H locs ls C hW hS hl => lv_lconst C.1 C.2.1 hdg hv (k p e s m args below meth c H locs ls C hW hS hl)
theorem a_iload_n {n : Fin 4} {x : Int32} (hdg : decode cc pc = .ok (.iload_n n, 1)) (hx : lget lv (n : Nat) = some (.int x)) (k : AW l G d own cc nL ret (pc + 1) lv (.int x :: st) h Q) : AW l G d own cc nL ret pc lv st h Q := fun p e s m args below meth c H locs ls C hW hS hl => lv_iload_n C.1 C.2.1 hdg rfl (hl.2.2 _ _ hx) (k p e s m args below meth c H locs ls C hW hS hl)
theorem a_iload {n : Nat} {x : Int32} (hdg : decode cc pc = .ok (.iload n, 2)) (hx : lget lv n = some (.int x)) (k : AW l G d own cc nL ret (pc + 2) lv (.int x :: st) h Q) : AW l G d own cc nL ret pc lv st h Q := fun p e s m args below meth c H locs ls C hW hS hl => lv_iload C.1 C.2.1 hdg (hl.2.2 _ _ hx) (k p e s m args below meth c H locs ls C hW hS hl)
theorem a_lload_n {n : Fin 4} {x : Int64} (hdg : decode cc pc = .ok (.lload_n n, 1)) (hx : lget lv (n : Nat) = some (.long x)) (k : AW l G d own cc nL ret (pc + 1) lv (.long x :: st) h Q) : AW l G d own cc nL ret pc lv st h Q := fun p e s m args below meth c H locs ls C hW hS hl => lv_lload_n C.1 C.2.1 hdg rfl (hl.2.2 _ _ hx) (k p e s m args below meth c H locs ls C hW hS hl)
theorem a_lload {n : Nat} {x : Int64} (hdg : decode cc pc = .ok (.lload n, 2)) (hx : lget lv n = some (.long x)) (k : AW l G d own cc nL ret (pc + 2) lv (.long x :: st) h Q) : AW l G d own cc nL ret pc lv st h Q := fun p e s m args below meth c H locs ls C hW hS hl => lv_lload C.1 C.2.1 hdg (hl.2.2 _ _ hx) (k p e s m args below meth c H locs ls C hW hS hl)
theorem a_aload_n {n : Fin 4} {x : Nat} (hdg : decode cc pc = .ok (.aload_n n, 1)) (hx : lget lv (n : Nat) = some (.ref x)) (k : AW l G d own cc nL ret (pc + 1) lv (.ref x :: st) h Q) : AW l G d own cc nL ret pc lv st h Q := fun p e s m args below meth c H locs ls C hW hS hl => lv_aload_n C.1 C.2.1 hdg rfl (hl.2.2 _ _ hx) (k p e s m args below meth c H locs ls C hW hS hl)
theorem a_aload {n : Nat} {x : Nat} (hdg : decode cc pc = .ok (.aload n, 2)) (hx : lget lv n = some (.ref x)) (k : AW l G d own cc nL ret (pc + 2) lv (.ref x :: st) h Q) : AW l G d own cc nL ret pc lv st h Q := fun p e s m args below meth c H locs ls C hW hS hl => lv_aload C.1 C.2.1 hdg (hl.2.2 _ _ hx) (k p e s m args below meth c H locs ls C hW hS hl)
theorem a_istore_n {n : Fin 4} {x : Int32} (hdg : decode cc pc = .ok (.istore_n n, 1)) (hn : (n : Nat) < nL) (hk : okS lv (n : Nat) = true) (k : AW l G d own cc nL ret (pc + 1) (lset lv (n : Nat) (some (.int x))) st h Q) : AW l G d own cc nL ret pc lv (.int x :: st) h Q := by
  intro p e s m args below meth c H locs ls C hW hS hl
  obtain ⟨ls', e', h'⟩ := hv_store1 (v := .int x) hl hn rfl hk
  have hexec := C.1
  have hb := C.2.1
  intro T hT X
  obtain ⟨t, a, b⟩ := k p e s m args below meth c H locs ls' C hW hS h' T hT X
  refine ⟨t, ?_, b⟩
  jvm_step X.here [X.here.top, ↓top_set X.here.top, hexec, hb, hdg, e', Value.isRef]
  exact a
theorem a_istore {n : Nat} {x : Int32} (hdg : decode cc pc = .ok (.istore n, 2)) (hn : n < nL) (hk : okS lv n = true) (k : AW l G d own cc nL ret (pc + 2) (lset lv n (some (.int x))) st h Q) : AW l G d own cc nL ret pc lv (.int x :: st) h Q := by
  intro p e s m args below meth c H locs ls C hW hS hl
  obtain ⟨ls', e', h'⟩ := hv_store1 (v := .int x) hl hn rfl hk
  have hexec := C.1
  have hb := C.2.1
  intro T hT X
  obtain ⟨t, a, b⟩ := k p e s m args below meth c H locs ls' C hW hS h' T hT X
  refine ⟨t, ?_, b⟩
  jvm_step X.here [X.here.top, ↓top_set X.here.top, hexec, hb, hdg, e', Value.isRef]
  exact a
theorem a_astore_n {n : Fin 4} {x : Nat} (hdg : decode cc pc = .ok (.astore_n n, 1)) (hn : (n : Nat) < nL) (hk : okS lv (n : Nat) = true) (k : AW l G d own cc nL ret (pc + 1) (lset lv (n : Nat) (some (.ref x))) st h Q) : AW l G d own cc nL ret pc lv (.ref x :: st) h Q := by
  intro p e s m args below meth c H locs ls C hW hS hl
  obtain ⟨ls', e', h'⟩ := hv_store1 (v := .ref x) hl hn rfl hk
  have hexec := C.1
  have hb := C.2.1
  intro T hT X
  obtain ⟨t, a, b⟩ := k p e s m args below meth c H locs ls' C hW hS h' T hT X
  refine ⟨t, ?_, b⟩
  jvm_step X.here [X.here.top, ↓top_set X.here.top, hexec, hb, hdg, e', Value.isRef]
  exact a
theorem a_astore {n : Nat} {x : Nat} (hdg : decode cc pc = .ok (.astore n, 2)) (hn : n < nL) (hk : okS lv n = true) (k : AW l G d own cc nL ret (pc + 2) (lset lv n (some (.ref x))) st h Q) : AW l G d own cc nL ret pc lv (.ref x :: st) h Q := by
  intro p e s m args below meth c H locs ls C hW hS hl
  obtain ⟨ls', e', h'⟩ := hv_store1 (v := .ref x) hl hn rfl hk
  have hexec := C.1
  have hb := C.2.1
  intro T hT X
  obtain ⟨t, a, b⟩ := k p e s m args below meth c H locs ls' C hW hS h' T hT X
  refine ⟨t, ?_, b⟩
  jvm_step X.here [X.here.top, ↓top_set X.here.top, hexec, hb, hdg, e', Value.isRef]
  exact a
theorem a_lstore_n {n : Fin 4} {x : Int64} (hdg : decode cc pc = .ok (.lstore_n n, 1)) (hn : (n : Nat) + 1 < nL) (hk : okS lv (n : Nat) = true) (k : AW l G d own cc nL ret (pc + 1) (lset (lset lv (n : Nat) (some (.long x))) ((n : Nat) + 1) none) st h Q) : AW l G d own cc nL ret pc lv (.long x :: st) h Q := by
  intro p e s m args below meth c H locs ls C hW hS hl
  obtain ⟨ls', e', h'⟩ := hv_store2 (v := .long x) hl hn rfl hk
  have hexec := C.1
  have hb := C.2.1
  intro T hT X
  obtain ⟨t, a, b⟩ := k p e s m args below meth c H locs ls' C hW hS h' T hT X
  refine ⟨t, ?_, b⟩
  jvm_step X.here [X.here.top, ↓top_set X.here.top, hexec, hb, hdg, e']
  exact a
theorem a_lstore {n : Nat} {x : Int64} (hdg : decode cc pc = .ok (.lstore n, 2)) (hn : n + 1 < nL) (hk : okS lv n = true) (k : AW l G d own cc nL ret (pc + 2) (lset (lset lv n (some (.long x))) (n + 1) none) st h Q) : AW l G d own cc nL ret pc lv (.long x :: st) h Q := by
  intro p e s m args below meth c H locs ls C hW hS hl
  obtain ⟨ls', e', h'⟩ := hv_store2 (v := .long x) hl hn rfl hk
  have hexec := C.1
  have hb := C.2.1
  intro T hT X
  obtain ⟨t, a, b⟩ := k p e s m args below meth c H locs ls' C hW hS h' T hT X
  refine ⟨t, ?_, b⟩
  jvm_step X.here [X.here.top, ↓top_set X.here.top, hexec, hb, hdg, e']
  exact a
theorem a_iinc {i : Nat} {n : Int} {x v : Int32} (hdg : decode cc pc = .ok (.iinc i n, 3)) (hx : lget lv i = some (.int x)) (hv2 : x + Int32.ofInt n = v) (hn : i < nL) (hk : okS lv i = true) (k : AW l G d own cc nL ret (pc + 3) (lset lv i (some (.int v))) st h Q) : AW l G d own cc nL ret pc lv st h Q := by
  intro p e s m args below meth c H locs ls C hW hS hl
  subst hv2
  have hg := hl.2.2 _ _ hx
  obtain ⟨ls', e', h'⟩ := hv_store1 (v := .int (x + Int32.ofInt n)) hl hn rfl hk
  have hexec := C.1
  have hb := C.2.1
  intro T hT X
  obtain ⟨t, a, b⟩ := k p e s m args below meth c H locs ls' C hW hS h' T hT X
  refine ⟨t, ?_, b⟩
  jvm_step X.here [X.here.top, ↓top_set X.here.top, hexec, hb, hdg, hg, e']
  exact a
theorem a_iadd {x y : Int32} (hdg : decode cc pc = .ok (.iadd, 1)) (k : AW l G d own cc nL ret (pc + 1) lv (.int (x + y) :: st) h Q) : AW l G d own cc nL ret pc lv (.int y :: .int x :: st) h Q := fun p e s m args below meth c H locs ls C hW hS hl => lv_iadd C.1 C.2.1 hdg (k p e s m args below meth c H locs ls C hW hS hl)
theorem a_isub {x y : Int32} (hdg : decode cc pc = .ok (.isub, 1)) (k : AW l G d own cc nL ret (pc + 1) lv (.int (x - y) :: st) h Q) : AW l G d own cc nL ret pc lv (.int y :: .int x :: st) h Q := fun p e s m args below meth c H locs ls C hW hS hl => lv_isub C.1 C.2.1 hdg (k p e s m args below meth c H locs ls C hW hS hl)
theorem a_imul {x y : Int32} (hdg : decode cc pc = .ok (.imul, 1)) (k : AW l G d own cc nL ret (pc + 1) lv (.int (x * y) :: st) h Q) : AW l G d own cc nL ret pc lv (.int y :: .int x :: st) h Q := fun p e s m args below meth c H locs ls C hW hS hl => lv_imul C.1 C.2.1 hdg (k p e s m args below meth c H locs ls C hW hS hl)
theorem a_iand {x y : Int32} (hdg : decode cc pc = .ok (.iand, 1)) (k : AW l G d own cc nL ret (pc + 1) lv (.int (x &&& y) :: st) h Q) : AW l G d own cc nL ret pc lv (.int y :: .int x :: st) h Q := fun p e s m args below meth c H locs ls C hW hS hl => lv_iand C.1 C.2.1 hdg (k p e s m args below meth c H locs ls C hW hS hl)
theorem a_ior {x y : Int32} (hdg : decode cc pc = .ok (.ior, 1)) (k : AW l G d own cc nL ret (pc + 1) lv (.int (x ||| y) :: st) h Q) : AW l G d own cc nL ret pc lv (.int y :: .int x :: st) h Q := fun p e s m args below meth c H locs ls C hW hS hl => lv_ior C.1 C.2.1 hdg (k p e s m args below meth c H locs ls C hW hS hl)
theorem a_ixor {x y : Int32} (hdg : decode cc pc = .ok (.ixor, 1)) (k : AW l G d own cc nL ret (pc + 1) lv (.int (x ^^^ y) :: st) h Q) : AW l G d own cc nL ret pc lv (.int y :: .int x :: st) h Q := fun p e s m args below meth c H locs ls C hW hS hl => lv_ixor C.1 C.2.1 hdg (k p e s m args below meth c H locs ls C hW hS hl)
theorem a_ishl {x y : Int32} (hdg : decode cc pc = .ok (.ishl, 1)) (k : AW l G d own cc nL ret (pc + 1) lv (.int (x <<< (y &&& 31)) :: st) h Q) : AW l G d own cc nL ret pc lv (.int y :: .int x :: st) h Q := fun p e s m args below meth c H locs ls C hW hS hl => lv_ishl C.1 C.2.1 hdg (k p e s m args below meth c H locs ls C hW hS hl)
theorem a_ishr {x y : Int32} (hdg : decode cc pc = .ok (.ishr, 1)) (k : AW l G d own cc nL ret (pc + 1) lv (.int (x >>> (y &&& 31)) :: st) h Q) : AW l G d own cc nL ret pc lv (.int y :: .int x :: st) h Q := fun p e s m args below meth c H locs ls C hW hS hl => lv_ishr C.1 C.2.1 hdg (k p e s m args below meth c H locs ls C hW hS hl)
theorem a_iushr {x y : Int32} (hdg : decode cc pc = .ok (.iushr, 1)) (k : AW l G d own cc nL ret (pc + 1) lv (.int ((x.toUInt32 >>> (y.toUInt32 &&& Int32.toUInt32 31)).toInt32) :: st) h Q) : AW l G d own cc nL ret pc lv (.int y :: .int x :: st) h Q := fun p e s m args below meth c H locs ls C hW hS hl => lv_iushr C.1 C.2.1 hdg rfl (k p e s m args below meth c H locs ls C hW hS hl)
theorem a_ineg {x : Int32} (hdg : decode cc pc = .ok (.ineg, 1)) (k : AW l G d own cc nL ret (pc + 1) lv (.int (-x) :: st) h Q) : AW l G d own cc nL ret pc lv (.int x :: st) h Q := fun p e s m args below meth c H locs ls C hW hS hl => lv_ineg C.1 C.2.1 hdg (k p e s m args below meth c H locs ls C hW hS hl)
theorem a_ladd {x y : Int64} (hdg : decode cc pc = .ok (.ladd, 1)) (k : AW l G d own cc nL ret (pc + 1) lv (.long (x + y) :: st) h Q) : AW l G d own cc nL ret pc lv (.long y :: .long x :: st) h Q := fun p e s m args below meth c H locs ls C hW hS hl => lv_ladd C.1 C.2.1 hdg (k p e s m args below meth c H locs ls C hW hS hl)
theorem a_lsub {x y : Int64} (hdg : decode cc pc = .ok (.lsub, 1)) (k : AW l G d own cc nL ret (pc + 1) lv (.long (x - y) :: st) h Q) : AW l G d own cc nL ret pc lv (.long y :: .long x :: st) h Q := fun p e s m args below meth c H locs ls C hW hS hl => lv_lsub C.1 C.2.1 hdg (k p e s m args below meth c H locs ls C hW hS hl)
theorem a_lmul {x y : Int64} (hdg : decode cc pc = .ok (.lmul, 1)) (k : AW l G d own cc nL ret (pc + 1) lv (.long (x * y) :: st) h Q) : AW l G d own cc nL ret pc lv (.long y :: .long x :: st) h Q := fun p e s m args below meth c H locs ls C hW hS hl => lv_lmul C.1 C.2.1 hdg (k p e s m args below meth c H locs ls C hW hS hl)
theorem a_i2l {x : Int32} (hdg : decode cc pc = .ok (.i2l, 1)) (k : AW l G d own cc nL ret (pc + 1) lv (.long x.toInt64 :: st) h Q) : AW l G d own cc nL ret pc lv (.int x :: st) h Q := fun p e s m args below meth c H locs ls C hW hS hl => lv_i2l C.1 C.2.1 hdg rfl (k p e s m args below meth c H locs ls C hW hS hl)
theorem a_i2b {x : Int32} (hdg : decode cc pc = .ok (.i2b, 1)) (k : AW l G d own cc nL ret (pc + 1) lv (.int x.toInt8.toInt32 :: st) h Q) : AW l G d own cc nL ret pc lv (.int x :: st) h Q := fun p e s m args below meth c H locs ls C hW hS hl => lv_i2b C.1 C.2.1 hdg rfl (k p e s m args below meth c H locs ls C hW hS hl)
theorem a_i2c {x : Int32} (hdg : decode cc pc = .ok (.i2c, 1)) (k : AW l G d own cc nL ret (pc + 1) lv (.int ((x.toUInt32 % 65536).toInt32) :: st) h Q) : AW l G d own cc nL ret pc lv (.int x :: st) h Q := fun p e s m args below meth c H locs ls C hW hS hl => lv_i2c C.1 C.2.1 hdg rfl (k p e s m args below meth c H locs ls C hW hS hl)
theorem a_lcmp {x y : Int64} (hdg : decode cc pc = .ok (.lcmp, 1)) (k : AW l G d own cc nL ret (pc + 1) lv (.int (lg_cmp x y) :: st) h Q) : AW l G d own cc nL ret pc lv (.long y :: .long x :: st) h Q := fun p e s m args below meth c H locs ls C hW hS hl => W.lcmp C.1 C.2.1 hdg (k p e s m args below meth c H locs ls C hW hS hl)
theorem a_dup {v : Value} (hdg : decode cc pc = .ok (.dup, 1)) (hv1 : v.category = 1) (k : AW l G d own cc nL ret (pc + 1) lv (v :: v :: st) h Q) : AW l G d own cc nL ret pc lv (v :: st) h Q := fun p e s m args below meth c H locs ls C hW hS hl => lv_dup C.1 C.2.1 hdg hv1 (k p e s m args below meth c H locs ls C hW hS hl)
theorem a_pop {v : Value} (hdg : decode cc pc = .ok (.pop, 1)) (hv1 : v.category = 1) (k : AW l G d own cc nL ret (pc + 1) lv st h Q) : AW l G d own cc nL ret pc lv (v :: st) h Q := fun p e s m args below meth c H locs ls C hW hS hl => lv_pop C.1 C.2.1 hdg hv1 (k p e s m args below meth c H locs ls C hW hS hl)
theorem a_dup2 {v w : Value} (hdg : decode cc pc = .ok (.dup2, 1)) (hv1 : v.category = 1) (hv2 : w.category = 1) (k : AW l G d own cc nL ret (pc + 1) lv (v :: w :: v :: w :: st) h Q) : AW l G d own cc nL ret pc lv (v :: w :: st) h Q := fun p e s m args below meth c H locs ls C hW hS hl => lv_dup2_11 C.1 C.2.1 hdg hv1 hv2 (k p e s m args below meth c H locs ls C hW hS hl)
theorem a_dup_x1 {v w : Value} (hdg : decode cc pc = .ok (.dup_x1, 1)) (hv1 : v.category = 1) (hv2 : w.category = 1) (k : AW l G d own cc nL ret (pc + 1) lv (v :: w :: v :: st) h Q) : AW l G d own cc nL ret pc lv (v :: w :: st) h Q := fun p e s m args below meth c H locs ls C hW hS hl => lv_dup_x1 C.1 C.2.1 hdg hv1 hv2 (k p e s m args below meth c H locs ls C hW hS hl)
theorem a_if_eq {x : Int32} {off : Int} {tgt : Nat} (hdg : decode cc pc = .ok (.ifCond .eq off, 3)) (ht : (pc : Int) + off = (tgt : Int)) (kt : x = 0 → AW l G d own cc nL ret tgt lv st h Q) (kf : ¬ x = 0 → AW l G d own cc nL ret (pc + 3) lv st h Q) : AW l G d own cc nL ret pc lv (.int x :: st) h Q := fun p e s m args below meth c H locs ls C hW hS hl => lv_if_eq C.1 C.2.1 hdg ht (fun q => kt q p e s m args below meth c H locs ls C hW hS hl) (fun q => kf q p e s m args below meth c H locs ls C hW hS hl)
theorem a_icmp_eq {x y : Int32} {off : Int} {tgt : Nat} (hdg : decode cc pc = .ok (.if_icmp .eq off, 3)) (ht : (pc : Int) + off = (tgt : Int)) (kt : x = y → AW l G d own cc nL ret tgt lv st h Q) (kf : ¬ x = y → AW l G d own cc nL ret (pc + 3) lv st h Q) : AW l G d own cc nL ret pc lv (.int y :: .int x :: st) h Q := fun p e s m args below meth c H locs ls C hW hS hl => lv_icmp_eq C.1 C.2.1 hdg ht (fun q => kt q p e s m args below meth c H locs ls C hW hS hl) (fun q => kf q p e s m args below meth c H locs ls C hW hS hl)
theorem a_if_lt {x : Int32} {off : Int} {tgt : Nat} (hdg : decode cc pc = .ok (.ifCond .lt off, 3)) (ht : (pc : Int) + off = (tgt : Int)) (kt : x < 0 → AW l G d own cc nL ret tgt lv st h Q) (kf : ¬ x < 0 → AW l G d own cc nL ret (pc + 3) lv st h Q) : AW l G d own cc nL ret pc lv (.int x :: st) h Q := fun p e s m args below meth c H locs ls C hW hS hl => lv_if_lt C.1 C.2.1 hdg ht (fun q => kt q p e s m args below meth c H locs ls C hW hS hl) (fun q => kf q p e s m args below meth c H locs ls C hW hS hl)
theorem a_icmp_lt {x y : Int32} {off : Int} {tgt : Nat} (hdg : decode cc pc = .ok (.if_icmp .lt off, 3)) (ht : (pc : Int) + off = (tgt : Int)) (kt : x < y → AW l G d own cc nL ret tgt lv st h Q) (kf : ¬ x < y → AW l G d own cc nL ret (pc + 3) lv st h Q) : AW l G d own cc nL ret pc lv (.int y :: .int x :: st) h Q := fun p e s m args below meth c H locs ls C hW hS hl => lv_icmp_lt C.1 C.2.1 hdg ht (fun q => kt q p e s m args below meth c H locs ls C hW hS hl) (fun q => kf q p e s m args below meth c H locs ls C hW hS hl)
theorem a_if_ge {x : Int32} {off : Int} {tgt : Nat} (hdg : decode cc pc = .ok (.ifCond .ge off, 3)) (ht : (pc : Int) + off = (tgt : Int)) (kt : 0 ≤ x → AW l G d own cc nL ret tgt lv st h Q) (kf : ¬ 0 ≤ x → AW l G d own cc nL ret (pc + 3) lv st h Q) : AW l G d own cc nL ret pc lv (.int x :: st) h Q := fun p e s m args below meth c H locs ls C hW hS hl => lv_if_ge C.1 C.2.1 hdg ht (fun q => kt q p e s m args below meth c H locs ls C hW hS hl) (fun q => kf q p e s m args below meth c H locs ls C hW hS hl)
theorem a_icmp_ge {x y : Int32} {off : Int} {tgt : Nat} (hdg : decode cc pc = .ok (.if_icmp .ge off, 3)) (ht : (pc : Int) + off = (tgt : Int)) (kt : y ≤ x → AW l G d own cc nL ret tgt lv st h Q) (kf : ¬ y ≤ x → AW l G d own cc nL ret (pc + 3) lv st h Q) : AW l G d own cc nL ret pc lv (.int y :: .int x :: st) h Q := fun p e s m args below meth c H locs ls C hW hS hl => lv_icmp_ge C.1 C.2.1 hdg ht (fun q => kt q p e s m args below meth c H locs ls C hW hS hl) (fun q => kf q p e s m args below meth c H locs ls C hW hS hl)
theorem a_if_gt {x : Int32} {off : Int} {tgt : Nat} (hdg : decode cc pc = .ok (.ifCond .gt off, 3)) (ht : (pc : Int) + off = (tgt : Int)) (kt : 0 < x → AW l G d own cc nL ret tgt lv st h Q) (kf : ¬ 0 < x → AW l G d own cc nL ret (pc + 3) lv st h Q) : AW l G d own cc nL ret pc lv (.int x :: st) h Q := fun p e s m args below meth c H locs ls C hW hS hl => lv_if_gt C.1 C.2.1 hdg ht (fun q => kt q p e s m args below meth c H locs ls C hW hS hl) (fun q => kf q p e s m args below meth c H locs ls C hW hS hl)
theorem a_icmp_gt {x y : Int32} {off : Int} {tgt : Nat} (hdg : decode cc pc = .ok (.if_icmp .gt off, 3)) (ht : (pc : Int) + off = (tgt : Int)) (kt : y < x → AW l G d own cc nL ret tgt lv st h Q) (kf : ¬ y < x → AW l G d own cc nL ret (pc + 3) lv st h Q) : AW l G d own cc nL ret pc lv (.int y :: .int x :: st) h Q := fun p e s m args below meth c H locs ls C hW hS hl => lv_icmp_gt C.1 C.2.1 hdg ht (fun q => kt q p e s m args below meth c H locs ls C hW hS hl) (fun q => kf q p e s m args below meth c H locs ls C hW hS hl)
theorem a_if_le {x : Int32} {off : Int} {tgt : Nat} (hdg : decode cc pc = .ok (.ifCond .le off, 3)) (ht : (pc : Int) + off = (tgt : Int)) (kt : x ≤ 0 → AW l G d own cc nL ret tgt lv st h Q) (kf : ¬ x ≤ 0 → AW l G d own cc nL ret (pc + 3) lv st h Q) : AW l G d own cc nL ret pc lv (.int x :: st) h Q := fun p e s m args below meth c H locs ls C hW hS hl => lv_if_le C.1 C.2.1 hdg ht (fun q => kt q p e s m args below meth c H locs ls C hW hS hl) (fun q => kf q p e s m args below meth c H locs ls C hW hS hl)
theorem a_icmp_le {x y : Int32} {off : Int} {tgt : Nat} (hdg : decode cc pc = .ok (.if_icmp .le off, 3)) (ht : (pc : Int) + off = (tgt : Int)) (kt : x ≤ y → AW l G d own cc nL ret tgt lv st h Q) (kf : ¬ x ≤ y → AW l G d own cc nL ret (pc + 3) lv st h Q) : AW l G d own cc nL ret pc lv (.int y :: .int x :: st) h Q := fun p e s m args below meth c H locs ls C hW hS hl => lv_icmp_le C.1 C.2.1 hdg ht (fun q => kt q p e s m args below meth c H locs ls C hW hS hl) (fun q => kf q p e s m args below meth c H locs ls C hW hS hl)
theorem a_if_ne {x : Int32} {off : Int} {tgt : Nat} (hdg : decode cc pc = .ok (.ifCond .ne off, 3)) (ht : (pc : Int) + off = (tgt : Int)) (kt : ¬ x = 0 → AW l G d own cc nL ret tgt lv st h Q) (kf : x = 0 → AW l G d own cc nL ret (pc + 3) lv st h Q) : AW l G d own cc nL ret pc lv (.int x :: st) h Q := fun p e s m args below meth c H locs ls C hW hS hl => lv_if_ne C.1 C.2.1 hdg ht (fun q => kt q p e s m args below meth c H locs ls C hW hS hl) (fun q => kf q p e s m args below meth c H locs ls C hW hS hl)
theorem a_icmp_ne {x y : Int32} {off : Int} {tgt : Nat} (hdg : decode cc pc = .ok (.if_icmp .ne off, 3)) (ht : (pc : Int) + off = (tgt : Int)) (kt : ¬ x = y → AW l G d own cc nL ret tgt lv st h Q) (kf : x = y → AW l G d own cc nL ret (pc + 3) lv st h Q) : AW l G d own cc nL ret pc lv (.int y :: .int x :: st) h Q := fun p e s m args below meth c H locs ls C hW hS hl => lv_icmp_ne C.1 C.2.1 hdg ht (fun q => kt q p e s m args below meth c H locs ls C hW hS hl) (fun q => kf q p e s m args below meth c H locs ls C hW hS hl)
theorem a_goto {off : Int} {tgt : Nat} (hdg : decode cc pc = .ok (.goto off, 3)) (ht : (pc : Int) + off = (tgt : Int)) (k : AW l G d own cc nL ret tgt lv st h Q) : AW l G d own cc nL ret pc lv st h Q := fun p e s m args below meth c H locs ls C hW hS hl => lv_goto C.1 C.2.1 hdg ht (k p e s m args below meth c H locs ls C hW hS hl)
theorem a_tableIn {dflt lo hi off : Int} {offs : Array Int} {len tgt : Nat} {x : Int32} (hdg : decode cc pc = .ok (.tableswitch dflt lo hi offs, len)) (h1 : ¬ x.toInt < lo) (h2 : ¬ hi < x.toInt) (ho : offs[(x.toInt - lo).toNat]? = some off) (ht : (pc : Int) + off = (tgt : Int)) (k : AW l G d own cc nL ret tgt lv st h Q) : AW l G d own cc nL ret pc lv (.int x :: st) h Q := fun p e s m args below meth c H locs ls C hW hS hl => lv_tableIn C.1 C.2.1 hdg h1 h2 ho ht (k p e s m args below meth c H locs ls C hW hS hl)
theorem a_tableOut {dflt lo hi : Int} {offs : Array Int} {len tgt : Nat} {x : Int32} (hdg : decode cc pc = .ok (.tableswitch dflt lo hi offs, len)) (hx : x.toInt < lo ∨ hi < x.toInt) (ht : (pc : Int) + dflt = (tgt : Int)) (k : AW l G d own cc nL ret tgt lv st h Q) : AW l G d own cc nL ret pc lv (.int x :: st) h Q := fun p e s m args below meth c H locs ls C hW hS hl => lv_tableOut C.1 C.2.1 hdg hx ht (k p e s m args below meth c H locs ls C hW hS hl)
theorem a_lookup {dflt off : Int} {ps : Array (Int × Int)} {len tgt : Nat} {x : Int32} (hdg : decode cc pc = .ok (.lookupswitch dflt ps, len)) (hp : (ps.toList.zip (ps.toList.drop 1)).all (fun (a, next) => a.1 < next.1) = true) (ho : Op.lookupswitch.offset ps.toList dflt x.toInt = off) (ht : (pc : Int) + off = (tgt : Int)) (k : AW l G d own cc nL ret tgt lv st h Q) : AW l G d own cc nL ret pc lv (.int x :: st) h Q := fun p e s m args below meth c H locs ls C hW hS hl => lv_lookup C.1 C.2.1 hdg hp ho ht (k p e s m args below meth c H locs ls C hW hS hl)
theorem a_idiv {x y : Int32} (hdg : decode cc pc = .ok (.idiv, 1)) (hne : ¬ y = 0) (k : AW l G d own cc nL ret (pc + 1) lv (.int (x / y) :: st) h Q) : AW l G d own cc nL ret pc lv (.int y :: .int x :: st) h Q := fun p e s m args below meth c H locs ls C hW hS hl => lv_idiv C.1 C.2.1 hdg hne (k p e s m args below meth c H locs ls C hW hS hl)
theorem a_irem {x y : Int32} (hdg : decode cc pc = .ok (.irem, 1)) (hne : ¬ y = 0) (k : AW l G d own cc nL ret (pc + 1) lv (.int (x - x / y * y) :: st) h Q) : AW l G d own cc nL ret pc lv (.int y :: .int x :: st) h Q := fun p e s m args below meth c H locs ls C hW hS hl => lv_irem C.1 C.2.1 hdg hne (k p e s m args below meth c H locs ls C hW hS hl)
theorem a_ldc2 {index : Nat} {v : Int64} (hw : Cond.constantLong own index v ∈ gtbl) (hdg : decode cc pc = .ok (.ldc2_w index, 3)) (k : AW l G d own cc nL ret (pc + 3) lv (.long v :: st) h Q) : AW l G d own cc nL ret pc lv st h Q := fun p e s m args below meth c H locs ls C hW hS hl => lv_ldc2 C.1 C.2.1 C.2.2.2.1 (C.2.2.2.2.1 _ hw) hdg (k p e s m args below meth c H locs ls C hW hS hl)
theorem a_iret {v : Int32} (hdg : decode cc pc = .ok (.ireturn, 1)) (hr : ret = some .int) (hq : Q (some (.int v)) h) : AW l G d own cc nL ret pc lv [.int v] h Q := fun p e s m args below meth c H locs ls C hW hS hl => W.iret C.1 C.2.1 (C.2.2.2.2.2.1.trans hr) (fun t ht _ => ⟨⟨some (.int v), h, rfl, hq, by rw [ht]; exact hW⟩, hS.F ht⟩) hS.2.2 hdg C.2.2.2.2.2.2.1
theorem a_zret {v : Int32} {ty : FieldType} (hdg : decode cc pc = .ok (.ireturn, 1)) (hr : ret = some ty) (hn : narrow ty (.int v) = .int v) (hq : Q (some (.int v)) h) : AW l G d own cc nL ret pc lv [.int v] h Q := fun p e s m args below meth c H locs ls C hW hS hl => W.zret C.1 C.2.1 (C.2.2.2.2.2.1.trans hr) hn (fun t ht _ => ⟨⟨some (.int v), h, rfl, hq, by rw [ht]; exact hW⟩, hS.F ht⟩) hS.2.2 hdg C.2.2.2.2.2.2.1
theorem a_lret {v : Int64} (hdg : decode cc pc = .ok (.lreturn, 1)) (hr : ret = some .long) (hq : Q (some (.long v)) h) : AW l G d own cc nL ret pc lv [.long v] h Q := fun p e s m args below meth c H locs ls C hW hS hl => W.lret C.1 C.2.1 (C.2.2.2.2.2.1.trans hr) (fun t ht _ => ⟨⟨some (.long v), h, rfl, hq, by rw [ht]; exact hW⟩, hS.F ht⟩) hS.2.2 hdg C.2.2.2.2.2.2.1
theorem a_vret (hdg : decode cc pc = .ok (.return_, 1)) (hr : ret = none) (hq : Q none h) : AW l G d own cc nL ret pc lv [] h Q := fun p e s m args below meth c H locs ls C hW hS hl => W.vret C.1 C.2.1 (C.2.2.2.2.2.1.trans hr) (fun t ht _ => ⟨⟨none, h, rfl, hq, by rw [ht]; exact hW⟩, hS.F ht⟩) hS.2.2 hdg C.2.2.2.2.2.2.1
theorem a_iaload {b k n : Nat} {i : Int32} (hdg : decode cc pc = .ok (.iaload, 1)) (hk : kd b k = some (1, n)) (hin : vp_in i n) (kk : AW l G d own cc nL ret (pc + 1) lv (.int (h.1 b k i.toNatClampNeg) :: st) h Q) : AW l G d own cc nL ret pc lv (.int i :: .ref (G.1 b k) :: st) h Q := by
  intro p e s m args below meth c H locs ls C hW hS hl
  have hat := hW.2 b k _ hk
  have hP : va_P G.2.2.1 classes [(G.1 b k, cellE G.1 G.2.2.2.1 h b k (1, n))] H := fun j q hj => by
    cases j with
    | zero => cases hj; exact hat
    | succ j => simp at hj
  exact va_iald C.1 C.2.1 C.2.2.2.2.2.2.2.1 hP 0 0 (n := n) (f := h.1 b k) rfl rfl hin hdg (kk p e s m args below meth c H locs ls C hW hS hl)
theorem a_baload {b k n : Nat} {i : Int32} (hdg : decode cc pc = .ok (.baload, 1)) (hk : kd b k = some (2, n)) (hin : vp_in i n) (kk : AW l G d own cc nL ret (pc + 1) lv (.int (h.1 b k i.toNatClampNeg) :: st) h Q) : AW l G d own cc nL ret pc lv (.int i :: .ref (G.1 b k) :: st) h Q := by
  intro p e s m args below meth c H locs ls C hW hS hl
  have hat := hW.2 b k _ hk
  have hP : va_P G.2.2.1 classes [(G.1 b k, cellE G.1 G.2.2.2.1 h b k (2, n))] H := fun j q hj => by
    cases j with
    | zero => cases hj; exact hat
    | succ j => simp at hj
  exact va_bald C.1 C.2.1 C.2.2.2.2.2.2.2.1 hP 0 1 (n := n) (f := h.1 b k) rfl rfl hin hdg (kk p e s m args below meth c H locs ls C hW hS hl)
theorem a_laload {b k n : Nat} {i : Int32} (hdg : decode cc pc = .ok (.laload, 1)) (hk : kd b k = some (3, n)) (hin : vp_in i n) (kk : AW l G d own cc nL ret (pc + 1) lv (.long (h.2 b k i.toNatClampNeg) :: st) h Q) : AW l G d own cc nL ret pc lv (.int i :: .ref (G.1 b k) :: st) h Q := by
  intro p e s m args below meth c H locs ls C hW hS hl
  have hat := hW.2 b k _ hk
  have hP : va_P G.2.2.1 classes [(G.1 b k, cellE G.1 G.2.2.2.1 h b k (3, n))] H := fun j q hj => by
    cases j with
    | zero => cases hj; exact hat
    | succ j => simp at hj
  exact va_lald C.1 C.2.1 C.2.2.2.2.2.2.2.1 hP 0 2 (n := n) (f := h.2 b k) rfl rfl hin hdg (kk p e s m args below meth c H locs ls C hW hS hl)
theorem a_zaload {b k n : Nat} {i : Int32} (hdg : decode cc pc = .ok (.baload, 1)) (hk : kd b k = some (4, n)) (hin : vp_in i n) (kk : AW l G d own cc nL ret (pc + 1) lv (.int (h.1 b k i.toNatClampNeg) :: st) h Q) : AW l G d own cc nL ret pc lv (.int i :: .ref (G.1 b k) :: st) h Q := by
  intro p e s m args below meth c H locs ls C hW hS hl
  have hat := hW.2 b k _ hk
  have hP : va_P G.2.2.1 classes [(G.1 b k, cellE G.1 G.2.2.2.1 h b k (4, n))] H := fun j q hj => by
    cases j with
    | zero => cases hj; exact hat
    | succ j => simp at hj
  exact va_zald C.1 C.2.1 C.2.2.2.2.2.2.2.1 hP 0 3 (n := n) (f := h.1 b k) rfl rfl hin hdg (kk p e s m args below meth c H locs ls C hW hS hl)
end AROWS
end
section
theorem mmax_st : Cond.static Lib.Math.max.name ∈ gtbl := memI 706 (by decide +kernel) (by decide +kernel)
theorem mmax_cd : Cond.code Lib.Math.max.name Lib.Math.max.code 2 (some .int) ∈ gtbl := memI 707 (by decide +kernel) (by decide +kernel)
theorem mmin_st : Cond.static Lib.Math.min.name ∈ gtbl := memI 528 (by decide +kernel) (by decide +kernel)
theorem mmin_cd : Cond.code Lib.Math.min.name Lib.Math.min.code 2 (some .int) ∈ gtbl := memI 529 (by decide +kernel) (by decide +kernel)
theorem math_in : Cond.initialized "java/lang/Math" ∈ gtbl := memI 81 (by decide +kernel) (by decide +kernel)
theorem memP {ws : List Cond} {ps : List Nat} (h : ws = ps.filterMap (fun i => lw_tbl[i]?)) (hg : ws.all goodWord = true) : ∀ w ∈ ws, w ∈ gtbl := by
  intro w hw
  have h9 := List.all_eq_true.mp hg w hw
  rw [h] at hw
  obtain ⟨i, -, hi⟩ := List.mem_filterMap.mp hw
  exact List.mem_filter.mpr ⟨List.mem_of_getElem? hi, h9⟩
theorem good_tbl {y : MethodName} {cy : ByteArray} {ny : Nat} {ry : Option FieldType} (hc : Cond.code y cy ny ry ∈ gtbl) : GoodIn gtbl (Cond.code y cy ny ry :: gtbl) := by
  have key : ∀ w ∈ gtbl, w ∈ gtbl ∧ ((w.onTables && w.keeps) = true ∨ ∃ ty, w = .arrayClass ty) := fun w hw => ⟨hw, good_of_word (List.mem_filter.mp hw).2⟩
  intro w hw
  rcases List.mem_cons.mp hw with rfl | h
  · exact key _ hc
  · exact key _ h
theorem inX0 : ∀ w ∈ u_ws RX0 TX0 5, w ∈ gtbl := memP (ps := [415, 417, 419, 421, 423]) (by decide +kernel) (by decide +kernel)
theorem inX1 : ∀ w ∈ u_ws RX1 TX1 6, w ∈ gtbl := memP (ps := [443, 445, 447, 449, 451, 453]) (by decide +kernel) (by decide +kernel)
theorem inX2 : ∀ w ∈ u_ws RX2 TX2 3, w ∈ gtbl := memP (ps := [237, 239, 241]) (by decide +kernel) (by decide +kernel)
theorem inX3 : ∀ w ∈ u_ws RX3 TX3 6, w ∈ gtbl := memP (ps := [331, 333, 335, 337, 339, 341]) (by decide +kernel) (by decide +kernel)
theorem inX4 : ∀ w ∈ u_ws RX4 TX4 13, w ∈ gtbl := memP (ps := [279, 281, 283, 285, 287, 289, 291, 293, 295, 297, 299, 301, 303]) (by decide +kernel) (by decide +kernel)
theorem inX5 : ∀ w ∈ u_ws RX5 TX5 9, w ∈ gtbl := memP (ps := [199, 201, 203, 205, 207, 209, 211, 213, 215]) (by decide +kernel) (by decide +kernel)
theorem inX6 : ∀ w ∈ u_ws RX6 TX6 10, w ∈ gtbl := memP (ps := [158, 160, 162, 164, 166, 168, 170, 172, 174, 176]) (by decide +kernel) (by decide +kernel)
theorem inX7 : ∀ w ∈ u_ws RX7 TX7 2, w ∈ gtbl := memP (ps := [108, 110]) (by decide +kernel) (by decide +kernel)
theorem inX8 : ∀ w ∈ u_ws RX8 TX8 5, w ∈ gtbl := memP (ps := [130, 132, 134, 136, 138]) (by decide +kernel) (by decide +kernel)
theorem inX9 : ∀ w ∈ u_ws RX9 TX9 10, w ∈ gtbl := memP (ps := [378, 380, 382, 384, 386, 388, 390, 392, 394, 396]) (by decide +kernel) (by decide +kernel)
theorem inX10 : ∀ w ∈ u_ws RX10 TX10 6, w ∈ gtbl := memP (ps := [462, 464, 466, 468, 470, 472]) (by decide +kernel) (by decide +kernel)
theorem inX11 : ∀ w ∈ u_ws RX11 TX11 25, w ∈ gtbl := memP (ps := [1068, 1070, 1072, 1074, 1076, 1078, 1080, 1082, 1084, 1086, 1088, 1090, 1092, 1094, 1096, 1098, 1100, 1102, 1104, 1106, 1108, 1110, 1112, 1114, 1116]) (by decide +kernel) (by decide +kernel)
theorem cls_ok (ci : Nat) (q : vw_C) (h : classes[ci]? = some q) : (∀ w ∈ u_ws q.1 q.2.1 q.2.2, w ∈ gtbl) ∧ (∃ ty : Nat → FieldType, ∀ k, k < q.2.2 → parseFieldDescriptor (q.2.1 k).2.2.1 = some (ty k)) ∧ (∀ a, a < q.2.2 → ∀ b, b < q.2.2 → a ≠ b → (q.2.1 a).2.1 ≠ (q.2.1 b).2.1) ∧ q.2.2 = nf ci := by
  match ci, h with
  | 0, h => cases h; exact ⟨inX0, ⟨tyX0, tyX0_ok⟩, nmX0, rfl⟩
  | 1, h => cases h; exact ⟨inX1, ⟨tyX1, tyX1_ok⟩, nmX1, rfl⟩
  | 2, h => cases h; exact ⟨inX2, ⟨tyX2, tyX2_ok⟩, nmX2, rfl⟩
  | 3, h => cases h; exact ⟨inX3, ⟨tyX3, tyX3_ok⟩, nmX3, rfl⟩
  | 4, h => cases h; exact ⟨inX4, ⟨tyX4, tyX4_ok⟩, nmX4, rfl⟩
  | 5, h => cases h; exact ⟨inX5, ⟨tyX5, tyX5_ok⟩, nmX5, rfl⟩
  | 6, h => cases h; exact ⟨inX6, ⟨tyX6, tyX6_ok⟩, nmX6, rfl⟩
  | 7, h => cases h; exact ⟨inX7, ⟨tyX7, tyX7_ok⟩, nmX7, rfl⟩
  | 8, h => cases h; exact ⟨inX8, ⟨tyX8, tyX8_ok⟩, nmX8, rfl⟩
  | 9, h => cases h; exact ⟨inX9, ⟨tyX9, tyX9_ok⟩, nmX9, rfl⟩
  | 10, h => cases h; exact ⟨inX10, ⟨tyX10, tyX10_ok⟩, nmX10, rfl⟩
  | 11, h => cases h; exact ⟨inX11, ⟨tyX11, tyX11_ok⟩, nmX11, rfl⟩
  | k + 12, h => simp [classes] at h
theorem cls_int0 : (List.range 12).all (fun ci => (List.range (nf ci)).all (fun j => fk ci j != 0 || (match classes[ci]? with | some q => decide (parseFieldDescriptor (q.2.1 j).2.2.1 = some .int) && !(q.2.1 j).2.2.2 | none => false))) = true := by decide +kernel
theorem cls_int {ci j N : Nat} {C0 : String} {T : u_T} (hc : classes[ci]? = some (C0, T, N)) (hci : ci < 12) (hj : j < nf ci) (hf : fk ci j = 0) : parseFieldDescriptor (T j).2.2.1 = some .int ∧ (T j).2.2.2 = false := by
  have h1 := List.all_eq_true.mp (List.all_eq_true.mp cls_int0 ci (List.mem_range.mpr hci)) j (List.mem_range.mpr hj)
  rw [hf, hc] at h1
  simpa using h1
theorem cls_lng0 : (List.range 12).all (fun ci => (List.range (nf ci)).all (fun j => fk ci j != 1 || (match classes[ci]? with | some q => decide (parseFieldDescriptor (q.2.1 j).2.2.1 = some .long) && !(q.2.1 j).2.2.2 | none => false))) = true := by decide +kernel
theorem cls_lng {ci j N : Nat} {C0 : String} {T : u_T} (hc : classes[ci]? = some (C0, T, N)) (hci : ci < 12) (hj : j < nf ci) (hf : fk ci j = 1) : parseFieldDescriptor (T j).2.2.1 = some .long ∧ (T j).2.2.2 = false := by
  have h1 := List.all_eq_true.mp (List.all_eq_true.mp cls_lng0 ci (List.mem_range.mpr hci)) j (List.mem_range.mpr hj)
  rw [hf, hc] at h1
  simpa using h1
theorem cls_dyn0 : (List.range 12).all (fun ci => (List.range (nf ci)).all (fun j => fk ci j != 2 || (match classes[ci]? with | some q => decide (parseFieldDescriptor (q.2.1 j).2.2.1 = some (.object "PermitOffice$Books")) && !(q.2.1 j).2.2.2 | none => false))) = true := by decide +kernel
theorem cls_dyn {ci j N : Nat} {C0 : String} {T : u_T} (hc : classes[ci]? = some (C0, T, N)) (hci : ci < 12) (hj : j < nf ci) (hf : fk ci j = 2) : parseFieldDescriptor (T j).2.2.1 = some (.object "PermitOffice$Books") ∧ (T j).2.2.2 = false := by
  have h1 := List.all_eq_true.mp (List.all_eq_true.mp cls_dyn0 ci (List.mem_range.mpr hci)) j (List.mem_range.mpr hj)
  rw [hf, hc] at h1
  simpa using h1
theorem fv_get {ad : Nat → Nat → Nat} {h : AH} {b k ci j : Nat} (hj : j < nf ci) : (fv ad h b k ci)[j]? = some (fval ad h b k ci j) := by
  simp [fv, hj]
theorem fv_len {ad : Nat → Nat → Nat} {h : AH} {b k ci : Nat} : (fv ad h b k ci).length = nf ci := by simp [fv]
theorem fv_set {ad : Nat → Nat → Nat} {h h2 : AH} {b k ci j : Nat} {v : Value} (hj : j < nf ci) (hv : fval ad h2 b k ci j = v) (ho : ∀ i, i ≠ j → fval ad h2 b k ci i = fval ad h b k ci i) : (fv ad h b k ci).set j v = fv ad h2 b k ci := by
  apply List.ext_getElem?
  intro i
  by_cases hi : i = j
  · subst hi
    rw [List.getElem?_set_self (by rw [fv_len]; exact hj), fv_get hj, hv]
  · rw [List.getElem?_set_ne (Ne.symm hi)]
    by_cases hl : i < nf ci
    · rw [fv_get hl, fv_get hl, ho i hi]
    · rw [List.getElem?_eq_none (by rw [fv_len]; omega), List.getElem?_eq_none (by rw [fv_len]; omega)]
theorem ui_ne {h : AH} {b k j b' k' : Nat} {v : Int32} (hn : ¬ (b' = b ∧ k' = k)) : (ui h b k j v).1 b' k' = h.1 b' k' := by
  funext j'
  simp only [ui]
  rw [if_neg]
  rintro ⟨h1, h2, -⟩
  exact hn ⟨h1, h2⟩
theorem ul_ne {h : AH} {b k j b' k' : Nat} {v : Int64} (hn : ¬ (b' = b ∧ k' = k)) : (ul h b k j v).2 b' k' = h.2 b' k' := by
  funext j'
  simp only [ul]
  rw [if_neg]
  rintro ⟨h1, h2, -⟩
  exact hn ⟨h1, h2⟩
theorem cellE_same {ad : Nat → Nat → Nat} {c : ClassId × ClassId × ClassId × ClassId} {h h2 : AH} {b k : Nat} {q : Nat × Nat} (h1 : h2.1 b k = h.1 b k) (hl : h2.2 b k = h.2 b k) : cellE ad c h2 b k q = cellE ad c h b k q := by
  have e : fv ad h2 b k q.2 = fv ad h b k q.2 := by
    unfold fv
    congr 1
    funext j
    simp only [fval, h1, hl]
  simp only [cellE, e, h1, hl]
theorem Wd.step {G : GG} {h h2 : AH} {H H1 : Heap} {b k : Nat} {q : Nat × Nat} (hW : Wd G h H) (hk : kd b k = some q) (hs : ∀ b' k', ¬ (b' = b ∧ k' = k) → h2.1 b' k' = h.1 b' k' ∧ h2.2 b' k' = h.2 b' k') (hat : va_at G.2.2.1 classes (G.1 b k, cellE G.1 G.2.2.2.1 h2 b k q) H1) (oq : ∀ x, x ≠ G.1 b k → H1[x]? = H[x]?) : Wd G h2 H1 := by
  refine ⟨hW.1, fun b' k' q' hk' => ?_⟩
  by_cases hn : b' = b ∧ k' = k
  · obtain ⟨rfl, rfl⟩ := hn
    cases hk.symm.trans hk'
    exact hat
  · obtain ⟨e1, e2⟩ := hs b' k' hn
    rw [cellE_same e1 e2]
    exact (hW.2 b' k' q' hk').kept (oq _ (fun e => hn (hW.1.1 b' k' q' b k q hk' hk e)))
theorem Wd.ui {G : GG} {h : AH} {H H1 : Heap} {b k j : Nat} {v : Int32} {q : Nat × Nat} (hW : Wd G h H) (hk : kd b k = some q) (hat : va_at G.2.2.1 classes (G.1 b k, cellE G.1 G.2.2.2.1 (ui h b k j v) b k q) H1) (oq : ∀ x, x ≠ G.1 b k → H1[x]? = H[x]?) : Wd G (ui h b k j v) H1 := hW.step hk (fun _ _ hn => ⟨ui_ne hn, rfl⟩) hat oq
theorem Wd.ul {G : GG} {h : AH} {H H1 : Heap} {b k j : Nat} {v : Int64} {q : Nat × Nat} (hW : Wd G h H) (hk : kd b k = some q) (hat : va_at G.2.2.1 classes (G.1 b k, cellE G.1 G.2.2.2.1 (ul h b k j v) b k q) H1) (oq : ∀ x, x ≠ G.1 b k → H1[x]? = H[x]?) : Wd G (ul h b k j v) H1 := hW.step hk (fun _ _ hn => ⟨rfl, ul_ne hn⟩) hat oq
theorem Wd.P {G : GG} {h : AH} {H : Heap} {b k : Nat} {q : Nat × Nat} (hW : Wd G h H) (hk : kd b k = some q) : va_P G.2.2.1 classes [(G.1 b k, cellE G.1 G.2.2.2.1 h b k q)] H := fun j q hj => by
  cases j with
  | zero => cases hj; exact hW.2 b k _ hk
  | succ j => simp at hj
theorem Wd.lo {G : GG} {h : AH} {H : Heap} {b k : Nat} {q : Nat × Nat} (hW : Wd G h H) (hk : kd b k = some q) : Alo G (G.1 b k) := hW.1.2 b k q hk
theorem ui_self {h : AH} {b k j : Nat} {v : Int32} : (ui h b k j v).1 b k = upd (h.1 b k) j v := by
  funext j'
  simp [ui, upd]
theorem ul_self {h : AH} {b k j : Nat} {v : Int64} : (ul h b k j v).2 b k = vp_updL (h.2 b k) j v := by
  funext j'
  simp [ul, vp_updL]
section AMEM
variable {l : Launch} {G : GG} {d : Nat} {own : String} {cc : ByteArray} {nL : Nat} {ret : Option FieldType} {pc : Nat} {lv : List (Option Value)} {st : List Value} {h : AH} {Q : Option Value → AH → Prop}
theorem a_iastore {b k n : Nat} {i : Int32} {x : Int32} (hdg : decode cc pc = .ok (.iastore, 1)) (hk : kd b k = some (1, n)) (hin : vp_in i n) (kk : AW l G d own cc nL ret (pc + 1) lv st (ui h b k i.toNatClampNeg x) Q) : AW l G d own cc nL ret pc lv (.int x :: .int i :: .ref (G.1 b k) :: st) h Q := by
  intro p e s m args below meth c H locs ls C hW hS hl
  have hat := hW.2 b k _ hk
  have hK := C.2.2.2.2.2.2.2.1
  refine W.iast C.1 C.2.1 hat ((hK.2 0 _ rfl).1 n (fun j => .int (h.1 b k j))) (fun q => by cases q) (by show ¬ (i < 0 ∨ (arrV _ _ _).slots.size ≤ _); rw [arrV_size]; exact hin) rfl rfl hdg fun H1 e1 z oq => ?_
  refine kk p e s m args below meth c H1 _ ls C (hW.ui hk ?_ oq) (hS.put z oq (hW.lo hk)) hl
  show H1[G.1 b k]? = some (vp_cell _ (n, _))
  rw [ui_self, e1]
  rw [vp_cell_i, vp_cell_i, arrV_store]
  congr 2
  funext q
  by_cases hq : q = i.toNatClampNeg
  · subst hq
    simp [updV, upd, vp_nar]
    try rfl
  · simp [updV, upd, hq]
theorem a_bastore {b k n : Nat} {i : Int32} {x : Int32} (hdg : decode cc pc = .ok (.bastore, 1)) (hk : kd b k = some (2, n)) (hin : vp_in i n) (kk : AW l G d own cc nL ret (pc + 1) lv st (ui h b k i.toNatClampNeg (vp_nar .byte x)) Q) : AW l G d own cc nL ret pc lv (.int x :: .int i :: .ref (G.1 b k) :: st) h Q := by
  intro p e s m args below meth c H locs ls C hW hS hl
  have hat := hW.2 b k _ hk
  have hK := C.2.2.2.2.2.2.2.1
  refine W.bast C.1 C.2.1 hat ((hK.2 1 _ rfl).1 n (fun j => .int (h.1 b k j))) (fun q => by cases q) (by show ¬ (i < 0 ∨ (arrV _ _ _).slots.size ≤ _); rw [arrV_size]; exact hin) rfl rfl hdg fun H1 e1 z oq => ?_
  refine kk p e s m args below meth c H1 _ ls C (hW.ui hk ?_ oq) (hS.put z oq (hW.lo hk)) hl
  show H1[G.1 b k]? = some (vp_cell _ (n, _))
  rw [ui_self, e1]
  rw [vp_cell_i, vp_cell_i, arrV_store]
  congr 2
  funext q
  by_cases hq : q = i.toNatClampNeg
  · subst hq
    simp [updV, upd, vp_nar]
    try rfl
  · simp [updV, upd, hq]
theorem a_lastore {b k n : Nat} {i : Int32} {x : Int64} (hdg : decode cc pc = .ok (.lastore, 1)) (hk : kd b k = some (3, n)) (hin : vp_in i n) (kk : AW l G d own cc nL ret (pc + 1) lv st (ul h b k i.toNatClampNeg x) Q) : AW l G d own cc nL ret pc lv (.long x :: .int i :: .ref (G.1 b k) :: st) h Q := by
  intro p e s m args below meth c H locs ls C hW hS hl
  have hat := hW.2 b k _ hk
  have hK := C.2.2.2.2.2.2.2.1
  refine W.last C.1 C.2.1 hat ((hK.2 2 _ rfl).1 n (fun j => .long (h.2 b k j))) (fun q => by cases q) (by show ¬ (i < 0 ∨ (arrV _ _ _).slots.size ≤ _); rw [arrV_size]; exact hin) rfl rfl hdg fun H1 e1 z oq => ?_
  refine kk p e s m args below meth c H1 _ ls C (hW.ul hk ?_ oq) (hS.put z oq (hW.lo hk)) hl
  show H1[G.1 b k]? = some (vp_cell _ (n, _))
  rw [ul_self, e1]
  rw [vp_cell_l, vp_cell_l, arrV_store]
  congr 2
  funext q
  by_cases hq : q = i.toNatClampNeg
  · subst hq
    simp [updV, vp_updL, vp_nar]
    try rfl
  · simp [updV, vp_updL, hq]
theorem a_zastore {b k n : Nat} {i : Int32} {x : Int32} (hdg : decode cc pc = .ok (.bastore, 1)) (hk : kd b k = some (4, n)) (hin : vp_in i n) (kk : AW l G d own cc nL ret (pc + 1) lv st (ui h b k i.toNatClampNeg (vp_nar .boolean x)) Q) : AW l G d own cc nL ret pc lv (.int x :: .int i :: .ref (G.1 b k) :: st) h Q := by
  intro p e s m args below meth c H locs ls C hW hS hl
  have hat := hW.2 b k _ hk
  have hK := C.2.2.2.2.2.2.2.1
  refine W.zast C.1 C.2.1 hat ((hK.2 3 _ rfl).1 n (fun j => .int (h.1 b k j))) (fun q => by cases q) (by show ¬ (i < 0 ∨ (arrV _ _ _).slots.size ≤ _); rw [arrV_size]; exact hin) rfl rfl hdg fun H1 e1 z oq => ?_
  refine kk p e s m args below meth c H1 _ ls C (hW.ui hk ?_ oq) (hS.put z oq (hW.lo hk)) hl
  show H1[G.1 b k]? = some (vp_cell _ (n, _))
  rw [ui_self, e1]
  rw [vp_cell_i, vp_cell_i, arrV_store]
  congr 2
  funext q
  by_cases hq : q = i.toNatClampNeg
  · subst hq
    simp [updV, upd, vp_nar]
    try rfl
  · simp [updV, upd, hq]
theorem a_alen {b k n t : Nat} {v : Int32} (hdg : decode cc pc = .ok (.arraylength, 1)) (hk : kd b k = some (t, n)) (ht : t = 1 ∨ t = 2) (hv : Int32.ofNat n = v) (kk : AW l G d own cc nL ret (pc + 1) lv (.int v :: st) h Q) : AW l G d own cc nL ret pc lv (.ref (G.1 b k) :: st) h Q := by
  intro p e s m args below meth c H locs ls C hW hS hl
  have hP := hW.P hk
  rcases ht with rfl | rfl
  · exact va_alen C.1 C.2.1 C.2.2.2.2.2.2.2.1 hP 0 0 rfl rfl hv hdg (kk p e s m args below meth c H locs ls C hW hS hl)
  · exact va_alen C.1 C.2.1 C.2.2.2.2.2.2.2.1 hP 0 1 rfl rfl hv hdg (kk p e s m args below meth c H locs ls C hW hS hl)
theorem a_getV {b k ci j index N : Nat} {C0 : String} {T : u_T} {v : Value} (hdg : decode cc pc = .ok (.getfield index, 3)) (hk : kd b k = some (0, ci)) (hc : classes[ci]? = some (C0, T, N)) (hj : j < nf ci) (hw : Cond.fieldLink own index (T j).1 (T j).2.1 (T j).2.2.1 ∈ gtbl) (hv : fval G.1 h b k ci j = v) (kk : AW l G d own cc nL ret (pc + 3) lv (v :: st) h Q) : AW l G d own cc nL ret pc lv (.ref (G.1 b k) :: st) h Q := by
  intro p e s m args below meth c H locs ls C hW hS hl
  obtain ⟨c1, -, -, c4⟩ := cls_ok ci _ hc
  exact va_get (C := C0) (T := T) (N := N) (ci := ci) (Ts := gtbl) (ref := (T j).1) (fs := fv G.1 h b k ci) C.1 C.2.1 C.2.2.2.2.1 c1 C.2.2.2.1 C.2.2.2.2.2.2.2.1 (hW.P hk) 0 rfl hc j (by rw [show N = nf ci from c4]; exact hj) (C.2.2.2.2.1 _ hw) (fun _ h9 => h9) (by rw [fv_get hj, hv]) hdg (kk p e s m args below meth c H locs ls C hW hS hl)
theorem a_getI {b k ci j index N : Nat} {C0 : String} {T : u_T} (hdg : decode cc pc = .ok (.getfield index, 3)) (hk : kd b k = some (0, ci)) (hc : classes[ci]? = some (C0, T, N)) (hj : j < nf ci) (hf : fk ci j = 0) (hw : Cond.fieldLink own index (T j).1 (T j).2.1 (T j).2.2.1 ∈ gtbl) (kk : AW l G d own cc nL ret (pc + 3) lv (.int (h.1 b k j) :: st) h Q) : AW l G d own cc nL ret pc lv (.ref (G.1 b k) :: st) h Q := a_getV hdg hk hc hj hw (by simp only [fval, hf]) kk
theorem a_getL {b k ci j index N : Nat} {C0 : String} {T : u_T} (hdg : decode cc pc = .ok (.getfield index, 3)) (hk : kd b k = some (0, ci)) (hc : classes[ci]? = some (C0, T, N)) (hj : j < nf ci) (hf : fk ci j = 1) (hw : Cond.fieldLink own index (T j).1 (T j).2.1 (T j).2.2.1 ∈ gtbl) (kk : AW l G d own cc nL ret (pc + 3) lv (.long (h.2 b k j) :: st) h Q) : AW l G d own cc nL ret pc lv (.ref (G.1 b k) :: st) h Q := a_getV hdg hk hc hj hw (by simp only [fval, hf]) kk
theorem a_getD {b k ci j index N : Nat} {C0 : String} {T : u_T} (hdg : decode cc pc = .ok (.getfield index, 3)) (hk : kd b k = some (0, ci)) (hc : classes[ci]? = some (C0, T, N)) (hj : j < nf ci) (hf : fk ci j = 2) (hw : Cond.fieldLink own index (T j).1 (T j).2.1 (T j).2.2.1 ∈ gtbl) {bb : Nat} (hbb : (h.1 b k j).toNatClampNeg = bb) (kk : AW l G d own cc nL ret (pc + 3) lv (.ref (G.1 bb 0) :: st) h Q) : AW l G d own cc nL ret pc lv (.ref (G.1 b k) :: st) h Q := a_getV hdg hk hc hj hw (by simp only [fval, hf, hbb]) kk
theorem a_getR {b k ci j index N t : Nat} {C0 : String} {T : u_T} (hdg : decode cc pc = .ok (.getfield index, 3)) (hk : kd b k = some (0, ci)) (hc : classes[ci]? = some (C0, T, N)) (hj : j < nf ci) (hf : fk ci j = t + 3) (hw : Cond.fieldLink own index (T j).1 (T j).2.1 (T j).2.2.1 ∈ gtbl) (kk : AW l G d own cc nL ret (pc + 3) lv (.ref (G.1 b t) :: st) h Q) : AW l G d own cc nL ret pc lv (.ref (G.1 b k) :: st) h Q := a_getV hdg hk hc hj hw (by simp only [fval, hf]) kk
theorem a_putV {b k ci j index N : Nat} {C0 : String} {T : u_T} {v : Value} {ty : FieldType} {h2 : AH} (hdg : decode cc pc = .ok (.putfield index, 3)) (hk : kd b k = some (0, ci)) (hc : classes[ci]? = some (C0, T, N)) (hj : j < nf ci) (hw : Cond.fieldLink own index (T j).1 (T j).2.1 (T j).2.2.1 ∈ gtbl) (hfin : (T j).2.2.2 = false) (hd : parseFieldDescriptor (T j).2.2.1 = some ty) (hn : narrow ty v = v) (hfit : fits ty v = true)
    (hs : ∀ b' k', ¬ (b' = b ∧ k' = k) → h2.1 b' k' = h.1 b' k' ∧ h2.2 b' k' = h.2 b' k') (hv : fval G.1 h2 b k ci j = v) (ho : ∀ i, i ≠ j → fval G.1 h2 b k ci i = fval G.1 h b k ci i) (kk : AW l G d own cc nL ret (pc + 3) lv st h2 Q) : AW l G d own cc nL ret pc lv (v :: .ref (G.1 b k) :: st) h Q := by
  intro p e s m args below meth c H locs ls C hW hS hl
  obtain ⟨hin, ⟨ty0, hty⟩, hnm, hN⟩ := cls_ok ci _ hc
  have hN : N = nf ci := hN
  have hk0 : j < N := by rw [hN]; exact hj
  have hK := C.2.2.2.2.2.2.2.1
  have hts := C.2.2.2.2.1
  have hap := va_apart (own := own) hts hin ty0 hty hnm hK hc
  obtain ⟨r, h1, cell, q1, q2, q3, q4⟩ := hW.2 b k _ hk
  have hr : r = (C0, T, N) := Option.some.inj (h1.symm.trans hc)
  subst hr
  obtain ⟨hSl, hfc, kC, hkC, hkind⟩ := hK.1 ci _ hc
  obtain ⟨cf, kf, fi, f, hi, hsl⟩ := hSl j hk0
  have hlay := hts _ (hin _ (u_in_lay hk0))
  unfold u_lay at hlay
  rw [if_neg (by rw [hfin]; decide)] at hlay
  have hst := (u_facts hfc hkC (u_lays hts hin hk0) hi).1
  have h6 := u_store hfc hkC hkind hlay hi hd hn hfit
  refine W.putK C.1 C.2.1 (f := f) ⟨C.2.2.2.1, hts _ hw, ⟨_, _, _, hi⟩, hst⟩ (by rw [q2]; exact h6) q1 q3 (by rw [hsl]; exact k2_hasslot (q4 j hk0)) rfl rfl hdg fun H' e1 e2 e3 => ?_
  rw [hsl] at e1 ⊢
  refine kk p e s m args below meth c H' _ ls C (hW.step hk hs ?_ e3) (hS.put e2 e3 (hW.lo hk)) hl
  refine ⟨_, hc, t_OB.to (V := updV (vp_V (fv G.1 h b k ci)) j v) ⟨_, e1, q2, q3, t_set q4 hap hk0 v⟩ (fun i _ => ?_)⟩
  rw [vp_updV_set (by rw [fv_len]; exact hj) v i, fv_set hj hv ho]
  try rfl
theorem a_putI {b k ci j index N : Nat} {C0 : String} {T : u_T} {x : Int32} (hdg : decode cc pc = .ok (.putfield index, 3)) (hk : kd b k = some (0, ci)) (hc : classes[ci]? = some (C0, T, N)) (hci : ci < 12) (hj : j < nf ci) (hf : fk ci j = 0) (hw : Cond.fieldLink own index (T j).1 (T j).2.1 (T j).2.2.1 ∈ gtbl) (kk : AW l G d own cc nL ret (pc + 3) lv st (ui h b k j x) Q) : AW l G d own cc nL ret pc lv (.int x :: .ref (G.1 b k) :: st) h Q := by
  obtain ⟨h1, h2⟩ := cls_int hc hci hj hf
  refine a_putV hdg hk hc hj hw h2 h1 rfl rfl (fun _ _ hn => ⟨ui_ne hn, rfl⟩) (by simp only [fval, hf, ui, and_self, if_true]) (fun i hi => ?_) kk
  have e : (ui h b k j x).1 b k i = h.1 b k i := by simp [ui, hi]
  simp only [fval, e]
  rfl
theorem a_putL {b k ci j index N : Nat} {C0 : String} {T : u_T} {x : Int64} (hdg : decode cc pc = .ok (.putfield index, 3)) (hk : kd b k = some (0, ci)) (hc : classes[ci]? = some (C0, T, N)) (hci : ci < 12) (hj : j < nf ci) (hf : fk ci j = 1) (hw : Cond.fieldLink own index (T j).1 (T j).2.1 (T j).2.2.1 ∈ gtbl) (kk : AW l G d own cc nL ret (pc + 3) lv st (ul h b k j x) Q) : AW l G d own cc nL ret pc lv (.long x :: .ref (G.1 b k) :: st) h Q := by
  obtain ⟨h1, h2⟩ := cls_lng hc hci hj hf
  refine a_putV (h2 := ul h b k j x) hdg hk hc hj hw h2 h1 rfl rfl (fun _ _ hn => ⟨rfl, ul_ne hn⟩) (by simp only [fval, hf, ul, and_self, if_true]) (fun i hi => ?_) kk
  have e : (ul h b k j x).2 b k i = h.2 b k i := by simp [ul, hi]
  have e2 : (ul h b k j x).1 = h.1 := rfl
  simp only [fval, e, e2]
theorem a_putD {b k ci j index N bb : Nat} {C0 : String} {T : u_T} (hdg : decode cc pc = .ok (.putfield index, 3)) (hk : kd b k = some (0, ci)) (hc : classes[ci]? = some (C0, T, N)) (hci : ci < 12) (hj : j < nf ci) (hf : fk ci j = 2) (hw : Cond.fieldLink own index (T j).1 (T j).2.1 (T j).2.2.1 ∈ gtbl) {x : Int32} (hx0 : x.toNatClampNeg = bb) (kk : AW l G d own cc nL ret (pc + 3) lv st (ui h b k j x) Q) : AW l G d own cc nL ret pc lv (.ref (G.1 bb 0) :: .ref (G.1 b k) :: st) h Q := by
  obtain ⟨h1, h2⟩ := cls_dyn hc hci hj hf
  refine a_putV hdg hk hc hj hw h2 h1 rfl rfl (fun _ _ hn => ⟨ui_ne hn, rfl⟩) (by simp only [fval, hf, ui, and_self, if_true, hx0]) (fun i hi => ?_) kk
  have e : (ui h b k j x).1 b k i = h.1 b k i := by simp [ui, hi]
  simp only [fval, e]
  rfl
/-- a method's own words -/
def WY (y : MethodName) (cy : ByteArray) (ny : Nat) (ry : Option FieldType) (n : Nat) : Prop := Cond.code y cy ny ry ∈ gtbl ∧ Cond.initialized y.cls ∈ gtbl ∧ ny ≤ 15 ∧ (y.cls ≠ "java/lang/invoke/MethodHandle" ∧ y.cls ≠ "java/lang/invoke/VarHandle" ∧ (parseMethodDescriptor y.desc).map (fun d => d.parameters.length) = some n)
def WV (y : MethodName) (cy : ByteArray) (ny : Nat) (ry : Option FieldType) (n : Nat) : Prop := WY y cy ny ry n ∧ Cond.instanceMethod y ∈ gtbl ∧ Cond.selects y.cls y y ∈ gtbl
def WS (y : MethodName) (cy : ByteArray) (ny : Nat) (ry : Option FieldType) (n : Nat) : Prop := WY y cy ny ry n ∧ Cond.static y ∈ gtbl
theorem preA_blind {G : GG} {h : AH} {av : List Value} : FrameBlind (va_Pc av (preA G h)) := fun a U g mk q => ⟨q.1, q.2.1, q.2.2.1, va_K.moved (u := U) (U := U.calling g mk a) (Vm.Alike.refl U.vm) q.2.2.2.1, q.2.2.2.2.blind⟩
theorem WY.callB {d d' : Nat} {s : State} {args : Array Value} {index n : Nat} {y : MethodName} {cy : ByteArray} {ny : Nat} {ry : Option FieldType} (h : WY y cy ny ry n) (hts : ∀ w ∈ gtbl, w.before args s = true) (hl : Cond.methodLink own index y ∈ gtbl) (hd : d' < d) : CallB (rmD d) s args own index y cy ny ry (Cond.code y cy ny ry :: gtbl) (rmD d') 0 0 n := by
  obtain ⟨h1, h2, h3, h4⟩ := h
  refine callB_of n hts (good_tbl h1) rfl rfl rfl (hts _ h2) (hts _ hl) h4 ⟨hd, ?_⟩
  show 8 + (ny + 11) + 36 * d' ≤ 36 * d
  omega
theorem preA_at {s U : State} {args : Array Value} {H : Heap} {locs : List Loc} {p : Program} {m : MethodId} {meth : Method} {c : Code} (C : Cx G own cc nL ret p s m args meth c) (hW : Wd G h H) (hS : va_S (Alo G) s.heap H locs) (hU : U.heap = H) (hw : s.WarmedH U.vm) : preA G h U := by
  obtain ⟨-, -, -, -, -, -, -, hK, hSF, hlo⟩ := C
  refine ⟨by rw [hU]; exact Nat.le_trans hlo hS.1, by rw [hU]; exact hW, va_K.moved hw.alike hK, hSF.warm hw (fun a h1 h2 => ?_)⟩
  rw [hU]
  exact hS.2.1 a h1 h2
theorem a_callG {d' mc0 : Nat} {rest : List Value} {P : Option Value → AH → Prop} {Av : Array Value} {st0 : List Value}
    (run : ∀ (p : Program) (e : Env) (s : State) (m : MethodId) (args : Array Value) (below : List Frame) (meth : Method) (c : Code) (H : Heap) (locs : List Loc) (ls : Array Slot), Cx G own cc nL ret p s m args meth c → Wd G h H → va_S (Alo G) s.heap H locs → hv ls nL lv →
      va_Run p l e (rmD d) s m args below meth c H locs 0 0 0 0 (F0 m pc ls st0) rest (QA G P Av) (Alo G))
    (kk : ∀ v h', P v h' → AW l G d own cc nL ret (pc + 3) lv (v.toList ++ rest) h' Q) : AW l G d own cc nL ret pc lv st0 h Q := by
  intro p e s m args below meth c H locs ls C hW hS hl T hT X
  obtain ⟨v, st₀, t, T', L, h0, X', hL, e1, e2, ⟨⟨v', h', hv', hP, hW'⟩, hF⟩, stp⟩ := run p e s m args below meth c H locs ls C hW hS hl T hT X
  cases hv'
  have hS' : va_S (Alo G) s.heap T'.heap (locs ++ L) := by
    obtain ⟨hz, hk⟩ := hF
    rw [h0] at hz hk
    refine ⟨Nat.le_trans hS.1 (by rw [e1]; exact hz), fun q h1 h2 => by rw [e1, hk q (Nat.lt_of_lt_of_le h1 hS.1) h2]; exact hS.2.1 q h1 h2, fun q hq => ?_⟩
    rcases List.mem_append.mp hq with h | h
    · exact hS.2.2 q h
    · exact hL q h
  obtain ⟨t2, a1, b1⟩ := kk v h' hP p e s m args below meth c T'.heap (locs ++ L) ls C (by rw [e1]; exact hW') hS' hl T' rfl X'
  exact ⟨t2, stp t2 a1, b1⟩
theorem a_callV {d' index b k ci N : Nat} {y : MethodName} {cy : ByteArray} {ny : Nat} {ry : Option FieldType} {As rest : List Value} {T : u_T} {P : Option Value → AH → Prop} (hdg : decode cc pc = .ok (.invokevirtual index, 3)) (hl : Cond.methodLink own index y ∈ gtbl) (hw : WV y cy ny ry As.length) (hk : kd b k = some (0, ci)) (hc : classes[ci]? = some (y.cls, T, N)) (hd : d' < d) (hr : (rest.map fun v => v.category).sum ≤ 8)
    (hM : Ct l G d' y cy ny ry (.ref (G.1 b k) :: As) h P) (kk : ∀ v h', P v h' → AW l G d own cc nL ret (pc + 3) lv (v.toList ++ rest) h' Q) : AW l G d own cc nL ret pc lv (As.reverse ++ .ref (G.1 b k) :: rest) h Q := by
  refine a_callG (Av := (Value.ref (G.1 b k) :: As).toArray) (P := P) (d' := d') (mc0 := 0) (fun p e s m args below meth c H locs ls C hW hS hlv => ?_) kk
  have hts := C.2.2.2.2.1
  exact va_runV (As := As) (rest := rest) ⟨C.1, C.2.1, C.2.2.1, C.2.2.2.1, hts⟩ hM ⟨hw.1.callB hts hl hd, hts _ hw.2.1, hts _ hw.2.2⟩ ⟨preA_blind, va_recv C.2.2.2.2.2.2.2.1 (hW.P hk) hc (q0 := 0) rfl, fun U hU hwU => ⟨rfl, preA_at C hW hS hU hwU⟩⟩ rfl rfl hlv.1 rfl (lv_room hr) hdg ⟨Nat.zero_le _, Nat.zero_le _⟩
theorem a_callS {d' index : Nat} {y : MethodName} {cy : ByteArray} {ny : Nat} {ry : Option FieldType} {As rest : List Value} {P : Option Value → AH → Prop} (hdg : decode cc pc = .ok (.invokestatic index, 3)) (hl : Cond.methodLink own index y ∈ gtbl) (hw : WS y cy ny ry As.length) (hd : d' < d) (hr : (rest.map fun v => v.category).sum ≤ 8)
    (hM : Ct l G d' y cy ny ry As h P) (kk : ∀ v h', P v h' → AW l G d own cc nL ret (pc + 3) lv (v.toList ++ rest) h' Q) : AW l G d own cc nL ret pc lv (As.reverse ++ rest) h Q := by
  refine a_callG (Av := As.toArray) (P := P) (d' := d') (mc0 := 0) (fun p e s m args below meth c H locs ls C hW hS hlv => ?_) kk
  have hts := C.2.2.2.2.1
  exact va_runS (As := As) (rest := rest) ⟨C.1, C.2.1, C.2.2.1, C.2.2.2.1, hts⟩ hM ⟨hw.1.callB hts hl hd, hts _ hw.2⟩ ⟨preA_blind, fun U hU hwU => ⟨rfl, preA_at C hW hS hU hwU⟩⟩ rfl rfl hlv.1 rfl (lv_room hr) hdg ⟨Nat.zero_le _, Nat.zero_le _⟩
theorem a_cV0 {d' index b k ci N : Nat} {y : MethodName} {cy : ByteArray} {ny : Nat} {ry : Option FieldType} {T : u_T} {rest : List Value} {P : Option Value → AH → Prop} (hdg : decode cc pc = .ok (.invokevirtual index, 3)) (hl : Cond.methodLink own index y ∈ gtbl) (hw : WV y cy ny ry 0) (hk : kd b k = some (0, ci)) (hc : classes[ci]? = some (y.cls, T, N)) (hd : d' < d) (hr : (rest.map fun v => v.category).sum ≤ 8) (hM : Ct l G d' y cy ny ry (.ref (G.1 b k) :: []) h P) (kk : ∀ v h', P v h' → AW l G d own cc nL ret (pc + 3) lv (v.toList ++ rest) h' Q) : AW l G d own cc nL ret pc lv (.ref (G.1 b k) :: rest) h Q := a_callV (As := []) hdg hl hw hk hc hd hr hM kk
theorem a_cV0i {d' index b k ci N : Nat} {y : MethodName} {cy : ByteArray} {ny : Nat} {ry : Option FieldType} {T : u_T} {rest : List Value} {r : Int32} {h2 : AH} (hdg : decode cc pc = .ok (.invokevirtual index, 3)) (hl : Cond.methodLink own index y ∈ gtbl) (hw : WV y cy ny ry 0) (hk : kd b k = some (0, ci)) (hc : classes[ci]? = some (y.cls, T, N)) (hd : d' < d) (hr : (rest.map fun v => v.category).sum ≤ 8) (hM : Ct l G d' y cy ny ry (.ref (G.1 b k) :: []) h (fun v h' => v = some (.int r) ∧ h' = h2)) (kk : AW l G d own cc nL ret (pc + 3) lv (.int r :: rest) h2 Q) : AW l G d own cc nL ret pc lv (.ref (G.1 b k) :: rest) h Q := a_callV (As := []) hdg hl hw hk hc hd hr hM (fun v h' q => by obtain ⟨rfl, rfl⟩ := q; exact kk)
theorem a_cV0l {d' index b k ci N : Nat} {y : MethodName} {cy : ByteArray} {ny : Nat} {ry : Option FieldType} {T : u_T} {rest : List Value} {r : Int64} {h2 : AH} (hdg : decode cc pc = .ok (.invokevirtual index, 3)) (hl : Cond.methodLink own index y ∈ gtbl) (hw : WV y cy ny ry 0) (hk : kd b k = some (0, ci)) (hc : classes[ci]? = some (y.cls, T, N)) (hd : d' < d) (hr : (rest.map fun v => v.category).sum ≤ 8) (hM : Ct l G d' y cy ny ry (.ref (G.1 b k) :: []) h (fun v h' => v = some (.long r) ∧ h' = h2)) (kk : AW l G d own cc nL ret (pc + 3) lv (.long r :: rest) h2 Q) : AW l G d own cc nL ret pc lv (.ref (G.1 b k) :: rest) h Q := a_callV (As := []) hdg hl hw hk hc hd hr hM (fun v h' q => by obtain ⟨rfl, rfl⟩ := q; exact kk)
theorem a_cV0v {d' index b k ci N : Nat} {y : MethodName} {cy : ByteArray} {ny : Nat} {ry : Option FieldType} {T : u_T} {rest : List Value} {h2 : AH} (hdg : decode cc pc = .ok (.invokevirtual index, 3)) (hl : Cond.methodLink own index y ∈ gtbl) (hw : WV y cy ny ry 0) (hk : kd b k = some (0, ci)) (hc : classes[ci]? = some (y.cls, T, N)) (hd : d' < d) (hr : (rest.map fun v => v.category).sum ≤ 8) (hM : Ct l G d' y cy ny ry (.ref (G.1 b k) :: []) h (fun v h' => v = none ∧ h' = h2)) (kk : AW l G d own cc nL ret (pc + 3) lv rest h2 Q) : AW l G d own cc nL ret pc lv (.ref (G.1 b k) :: rest) h Q := a_callV (As := []) hdg hl hw hk hc hd hr hM (fun v h' q => by obtain ⟨rfl, rfl⟩ := q; exact kk)
theorem a_cS0 {d' index : Nat} {y : MethodName} {cy : ByteArray} {ny : Nat} {ry : Option FieldType} {rest : List Value} {P : Option Value → AH → Prop} (hdg : decode cc pc = .ok (.invokestatic index, 3)) (hl : Cond.methodLink own index y ∈ gtbl) (hw : WS y cy ny ry 0) (hd : d' < d) (hr : (rest.map fun v => v.category).sum ≤ 8) (hM : Ct l G d' y cy ny ry [] h P) (kk : ∀ v h', P v h' → AW l G d own cc nL ret (pc + 3) lv (v.toList ++ rest) h' Q) : AW l G d own cc nL ret pc lv (rest) h Q := a_callS (As := []) hdg hl hw hd hr hM kk
theorem a_cS0i {d' index : Nat} {y : MethodName} {cy : ByteArray} {ny : Nat} {ry : Option FieldType} {rest : List Value} {r : Int32} {h2 : AH} (hdg : decode cc pc = .ok (.invokestatic index, 3)) (hl : Cond.methodLink own index y ∈ gtbl) (hw : WS y cy ny ry 0) (hd : d' < d) (hr : (rest.map fun v => v.category).sum ≤ 8) (hM : Ct l G d' y cy ny ry [] h (fun v h' => v = some (.int r) ∧ h' = h2)) (kk : AW l G d own cc nL ret (pc + 3) lv (.int r :: rest) h2 Q) : AW l G d own cc nL ret pc lv (rest) h Q := a_callS (As := []) hdg hl hw hd hr hM (fun v h' q => by obtain ⟨rfl, rfl⟩ := q; exact kk)
theorem a_cS0l {d' index : Nat} {y : MethodName} {cy : ByteArray} {ny : Nat} {ry : Option FieldType} {rest : List Value} {r : Int64} {h2 : AH} (hdg : decode cc pc = .ok (.invokestatic index, 3)) (hl : Cond.methodLink own index y ∈ gtbl) (hw : WS y cy ny ry 0) (hd : d' < d) (hr : (rest.map fun v => v.category).sum ≤ 8) (hM : Ct l G d' y cy ny ry [] h (fun v h' => v = some (.long r) ∧ h' = h2)) (kk : AW l G d own cc nL ret (pc + 3) lv (.long r :: rest) h2 Q) : AW l G d own cc nL ret pc lv (rest) h Q := a_callS (As := []) hdg hl hw hd hr hM (fun v h' q => by obtain ⟨rfl, rfl⟩ := q; exact kk)
theorem a_cS0v {d' index : Nat} {y : MethodName} {cy : ByteArray} {ny : Nat} {ry : Option FieldType} {rest : List Value} {h2 : AH} (hdg : decode cc pc = .ok (.invokestatic index, 3)) (hl : Cond.methodLink own index y ∈ gtbl) (hw : WS y cy ny ry 0) (hd : d' < d) (hr : (rest.map fun v => v.category).sum ≤ 8) (hM : Ct l G d' y cy ny ry [] h (fun v h' => v = none ∧ h' = h2)) (kk : AW l G d own cc nL ret (pc + 3) lv rest h2 Q) : AW l G d own cc nL ret pc lv (rest) h Q := a_callS (As := []) hdg hl hw hd hr hM (fun v h' q => by obtain ⟨rfl, rfl⟩ := q; exact kk)
theorem a_cV1 {d' index b k ci N : Nat} {y : MethodName} {cy : ByteArray} {ny : Nat} {ry : Option FieldType} {T : u_T} {x0 : Value} {rest : List Value} {P : Option Value → AH → Prop} (hdg : decode cc pc = .ok (.invokevirtual index, 3)) (hl : Cond.methodLink own index y ∈ gtbl) (hw : WV y cy ny ry 1) (hk : kd b k = some (0, ci)) (hc : classes[ci]? = some (y.cls, T, N)) (hd : d' < d) (hr : (rest.map fun v => v.category).sum ≤ 8) (hM : Ct l G d' y cy ny ry (.ref (G.1 b k) :: [x0]) h P) (kk : ∀ v h', P v h' → AW l G d own cc nL ret (pc + 3) lv (v.toList ++ rest) h' Q) : AW l G d own cc nL ret pc lv (x0 :: .ref (G.1 b k) :: rest) h Q := a_callV (As := [x0]) hdg hl hw hk hc hd hr hM kk
theorem a_cV1i {d' index b k ci N : Nat} {y : MethodName} {cy : ByteArray} {ny : Nat} {ry : Option FieldType} {T : u_T} {x0 : Value} {rest : List Value} {r : Int32} {h2 : AH} (hdg : decode cc pc = .ok (.invokevirtual index, 3)) (hl : Cond.methodLink own index y ∈ gtbl) (hw : WV y cy ny ry 1) (hk : kd b k = some (0, ci)) (hc : classes[ci]? = some (y.cls, T, N)) (hd : d' < d) (hr : (rest.map fun v => v.category).sum ≤ 8) (hM : Ct l G d' y cy ny ry (.ref (G.1 b k) :: [x0]) h (fun v h' => v = some (.int r) ∧ h' = h2)) (kk : AW l G d own cc nL ret (pc + 3) lv (.int r :: rest) h2 Q) : AW l G d own cc nL ret pc lv (x0 :: .ref (G.1 b k) :: rest) h Q := a_callV (As := [x0]) hdg hl hw hk hc hd hr hM (fun v h' q => by obtain ⟨rfl, rfl⟩ := q; exact kk)
theorem a_cV1l {d' index b k ci N : Nat} {y : MethodName} {cy : ByteArray} {ny : Nat} {ry : Option FieldType} {T : u_T} {x0 : Value} {rest : List Value} {r : Int64} {h2 : AH} (hdg : decode cc pc = .ok (.invokevirtual index, 3)) (hl : Cond.methodLink own index y ∈ gtbl) (hw : WV y cy ny ry 1) (hk : kd b k = some (0, ci)) (hc : classes[ci]? = some (y.cls, T, N)) (hd : d' < d) (hr : (rest.map fun v => v.category).sum ≤ 8) (hM : Ct l G d' y cy ny ry (.ref (G.1 b k) :: [x0]) h (fun v h' => v = some (.long r) ∧ h' = h2)) (kk : AW l G d own cc nL ret (pc + 3) lv (.long r :: rest) h2 Q) : AW l G d own cc nL ret pc lv (x0 :: .ref (G.1 b k) :: rest) h Q := a_callV (As := [x0]) hdg hl hw hk hc hd hr hM (fun v h' q => by obtain ⟨rfl, rfl⟩ := q; exact kk)
theorem a_cV1v {d' index b k ci N : Nat} {y : MethodName} {cy : ByteArray} {ny : Nat} {ry : Option FieldType} {T : u_T} {x0 : Value} {rest : List Value} {h2 : AH} (hdg : decode cc pc = .ok (.invokevirtual index, 3)) (hl : Cond.methodLink own index y ∈ gtbl) (hw : WV y cy ny ry 1) (hk : kd b k = some (0, ci)) (hc : classes[ci]? = some (y.cls, T, N)) (hd : d' < d) (hr : (rest.map fun v => v.category).sum ≤ 8) (hM : Ct l G d' y cy ny ry (.ref (G.1 b k) :: [x0]) h (fun v h' => v = none ∧ h' = h2)) (kk : AW l G d own cc nL ret (pc + 3) lv rest h2 Q) : AW l G d own cc nL ret pc lv (x0 :: .ref (G.1 b k) :: rest) h Q := a_callV (As := [x0]) hdg hl hw hk hc hd hr hM (fun v h' q => by obtain ⟨rfl, rfl⟩ := q; exact kk)
theorem a_cS1 {d' index : Nat} {y : MethodName} {cy : ByteArray} {ny : Nat} {ry : Option FieldType} {x0 : Value} {rest : List Value} {P : Option Value → AH → Prop} (hdg : decode cc pc = .ok (.invokestatic index, 3)) (hl : Cond.methodLink own index y ∈ gtbl) (hw : WS y cy ny ry 1) (hd : d' < d) (hr : (rest.map fun v => v.category).sum ≤ 8) (hM : Ct l G d' y cy ny ry [x0] h P) (kk : ∀ v h', P v h' → AW l G d own cc nL ret (pc + 3) lv (v.toList ++ rest) h' Q) : AW l G d own cc nL ret pc lv (x0 :: rest) h Q := a_callS (As := [x0]) hdg hl hw hd hr hM kk
theorem a_cS1i {d' index : Nat} {y : MethodName} {cy : ByteArray} {ny : Nat} {ry : Option FieldType} {x0 : Value} {rest : List Value} {r : Int32} {h2 : AH} (hdg : decode cc pc = .ok (.invokestatic index, 3)) (hl : Cond.methodLink own index y ∈ gtbl) (hw : WS y cy ny ry 1) (hd : d' < d) (hr : (rest.map fun v => v.category).sum ≤ 8) (hM : Ct l G d' y cy ny ry [x0] h (fun v h' => v = some (.int r) ∧ h' = h2)) (kk : AW l G d own cc nL ret (pc + 3) lv (.int r :: rest) h2 Q) : AW l G d own cc nL ret pc lv (x0 :: rest) h Q := a_callS (As := [x0]) hdg hl hw hd hr hM (fun v h' q => by obtain ⟨rfl, rfl⟩ := q; exact kk)
theorem a_cS1l {d' index : Nat} {y : MethodName} {cy : ByteArray} {ny : Nat} {ry : Option FieldType} {x0 : Value} {rest : List Value} {r : Int64} {h2 : AH} (hdg : decode cc pc = .ok (.invokestatic index, 3)) (hl : Cond.methodLink own index y ∈ gtbl) (hw : WS y cy ny ry 1) (hd : d' < d) (hr : (rest.map fun v => v.category).sum ≤ 8) (hM : Ct l G d' y cy ny ry [x0] h (fun v h' => v = some (.long r) ∧ h' = h2)) (kk : AW l G d own cc nL ret (pc + 3) lv (.long r :: rest) h2 Q) : AW l G d own cc nL ret pc lv (x0 :: rest) h Q := a_callS (As := [x0]) hdg hl hw hd hr hM (fun v h' q => by obtain ⟨rfl, rfl⟩ := q; exact kk)
theorem a_cS1v {d' index : Nat} {y : MethodName} {cy : ByteArray} {ny : Nat} {ry : Option FieldType} {x0 : Value} {rest : List Value} {h2 : AH} (hdg : decode cc pc = .ok (.invokestatic index, 3)) (hl : Cond.methodLink own index y ∈ gtbl) (hw : WS y cy ny ry 1) (hd : d' < d) (hr : (rest.map fun v => v.category).sum ≤ 8) (hM : Ct l G d' y cy ny ry [x0] h (fun v h' => v = none ∧ h' = h2)) (kk : AW l G d own cc nL ret (pc + 3) lv rest h2 Q) : AW l G d own cc nL ret pc lv (x0 :: rest) h Q := a_callS (As := [x0]) hdg hl hw hd hr hM (fun v h' q => by obtain ⟨rfl, rfl⟩ := q; exact kk)
theorem a_cV2 {d' index b k ci N : Nat} {y : MethodName} {cy : ByteArray} {ny : Nat} {ry : Option FieldType} {T : u_T} {x0 x1 : Value} {rest : List Value} {P : Option Value → AH → Prop} (hdg : decode cc pc = .ok (.invokevirtual index, 3)) (hl : Cond.methodLink own index y ∈ gtbl) (hw : WV y cy ny ry 2) (hk : kd b k = some (0, ci)) (hc : classes[ci]? = some (y.cls, T, N)) (hd : d' < d) (hr : (rest.map fun v => v.category).sum ≤ 8) (hM : Ct l G d' y cy ny ry (.ref (G.1 b k) :: [x0, x1]) h P) (kk : ∀ v h', P v h' → AW l G d own cc nL ret (pc + 3) lv (v.toList ++ rest) h' Q) : AW l G d own cc nL ret pc lv (x1 :: x0 :: .ref (G.1 b k) :: rest) h Q := a_callV (As := [x0, x1]) hdg hl hw hk hc hd hr hM kk
theorem a_cV2i {d' index b k ci N : Nat} {y : MethodName} {cy : ByteArray} {ny : Nat} {ry : Option FieldType} {T : u_T} {x0 x1 : Value} {rest : List Value} {r : Int32} {h2 : AH} (hdg : decode cc pc = .ok (.invokevirtual index, 3)) (hl : Cond.methodLink own index y ∈ gtbl) (hw : WV y cy ny ry 2) (hk : kd b k = some (0, ci)) (hc : classes[ci]? = some (y.cls, T, N)) (hd : d' < d) (hr : (rest.map fun v => v.category).sum ≤ 8) (hM : Ct l G d' y cy ny ry (.ref (G.1 b k) :: [x0, x1]) h (fun v h' => v = some (.int r) ∧ h' = h2)) (kk : AW l G d own cc nL ret (pc + 3) lv (.int r :: rest) h2 Q) : AW l G d own cc nL ret pc lv (x1 :: x0 :: .ref (G.1 b k) :: rest) h Q := a_callV (As := [x0, x1]) hdg hl hw hk hc hd hr hM (fun v h' q => by obtain ⟨rfl, rfl⟩ := q; exact kk)
theorem a_cV2l {d' index b k ci N : Nat} {y : MethodName} {cy : ByteArray} {ny : Nat} {ry : Option FieldType} {T : u_T} {x0 x1 : Value} {rest : List Value} {r : Int64} {h2 : AH} (hdg : decode cc pc = .ok (.invokevirtual index, 3)) (hl : Cond.methodLink own index y ∈ gtbl) (hw : WV y cy ny ry 2) (hk : kd b k = some (0, ci)) (hc : classes[ci]? = some (y.cls, T, N)) (hd : d' < d) (hr : (rest.map fun v => v.category).sum ≤ 8) (hM : Ct l G d' y cy ny ry (.ref (G.1 b k) :: [x0, x1]) h (fun v h' => v = some (.long r) ∧ h' = h2)) (kk : AW l G d own cc nL ret (pc + 3) lv (.long r :: rest) h2 Q) : AW l G d own cc nL ret pc lv (x1 :: x0 :: .ref (G.1 b k) :: rest) h Q := a_callV (As := [x0, x1]) hdg hl hw hk hc hd hr hM (fun v h' q => by obtain ⟨rfl, rfl⟩ := q; exact kk)
theorem a_cV2v {d' index b k ci N : Nat} {y : MethodName} {cy : ByteArray} {ny : Nat} {ry : Option FieldType} {T : u_T} {x0 x1 : Value} {rest : List Value} {h2 : AH} (hdg : decode cc pc = .ok (.invokevirtual index, 3)) (hl : Cond.methodLink own index y ∈ gtbl) (hw : WV y cy ny ry 2) (hk : kd b k = some (0, ci)) (hc : classes[ci]? = some (y.cls, T, N)) (hd : d' < d) (hr : (rest.map fun v => v.category).sum ≤ 8) (hM : Ct l G d' y cy ny ry (.ref (G.1 b k) :: [x0, x1]) h (fun v h' => v = none ∧ h' = h2)) (kk : AW l G d own cc nL ret (pc + 3) lv rest h2 Q) : AW l G d own cc nL ret pc lv (x1 :: x0 :: .ref (G.1 b k) :: rest) h Q := a_callV (As := [x0, x1]) hdg hl hw hk hc hd hr hM (fun v h' q => by obtain ⟨rfl, rfl⟩ := q; exact kk)
theorem a_cS2 {d' index : Nat} {y : MethodName} {cy : ByteArray} {ny : Nat} {ry : Option FieldType} {x0 x1 : Value} {rest : List Value} {P : Option Value → AH → Prop} (hdg : decode cc pc = .ok (.invokestatic index, 3)) (hl : Cond.methodLink own index y ∈ gtbl) (hw : WS y cy ny ry 2) (hd : d' < d) (hr : (rest.map fun v => v.category).sum ≤ 8) (hM : Ct l G d' y cy ny ry [x0, x1] h P) (kk : ∀ v h', P v h' → AW l G d own cc nL ret (pc + 3) lv (v.toList ++ rest) h' Q) : AW l G d own cc nL ret pc lv (x1 :: x0 :: rest) h Q := a_callS (As := [x0, x1]) hdg hl hw hd hr hM kk
theorem a_cS2i {d' index : Nat} {y : MethodName} {cy : ByteArray} {ny : Nat} {ry : Option FieldType} {x0 x1 : Value} {rest : List Value} {r : Int32} {h2 : AH} (hdg : decode cc pc = .ok (.invokestatic index, 3)) (hl : Cond.methodLink own index y ∈ gtbl) (hw : WS y cy ny ry 2) (hd : d' < d) (hr : (rest.map fun v => v.category).sum ≤ 8) (hM : Ct l G d' y cy ny ry [x0, x1] h (fun v h' => v = some (.int r) ∧ h' = h2)) (kk : AW l G d own cc nL ret (pc + 3) lv (.int r :: rest) h2 Q) : AW l G d own cc nL ret pc lv (x1 :: x0 :: rest) h Q := a_callS (As := [x0, x1]) hdg hl hw hd hr hM (fun v h' q => by obtain ⟨rfl, rfl⟩ := q; exact kk)
theorem a_cS2l {d' index : Nat} {y : MethodName} {cy : ByteArray} {ny : Nat} {ry : Option FieldType} {x0 x1 : Value} {rest : List Value} {r : Int64} {h2 : AH} (hdg : decode cc pc = .ok (.invokestatic index, 3)) (hl : Cond.methodLink own index y ∈ gtbl) (hw : WS y cy ny ry 2) (hd : d' < d) (hr : (rest.map fun v => v.category).sum ≤ 8) (hM : Ct l G d' y cy ny ry [x0, x1] h (fun v h' => v = some (.long r) ∧ h' = h2)) (kk : AW l G d own cc nL ret (pc + 3) lv (.long r :: rest) h2 Q) : AW l G d own cc nL ret pc lv (x1 :: x0 :: rest) h Q := a_callS (As := [x0, x1]) hdg hl hw hd hr hM (fun v h' q => by obtain ⟨rfl, rfl⟩ := q; exact kk)
theorem a_cS2v {d' index : Nat} {y : MethodName} {cy : ByteArray} {ny : Nat} {ry : Option FieldType} {x0 x1 : Value} {rest : List Value} {h2 : AH} (hdg : decode cc pc = .ok (.invokestatic index, 3)) (hl : Cond.methodLink own index y ∈ gtbl) (hw : WS y cy ny ry 2) (hd : d' < d) (hr : (rest.map fun v => v.category).sum ≤ 8) (hM : Ct l G d' y cy ny ry [x0, x1] h (fun v h' => v = none ∧ h' = h2)) (kk : AW l G d own cc nL ret (pc + 3) lv rest h2 Q) : AW l G d own cc nL ret pc lv (x1 :: x0 :: rest) h Q := a_callS (As := [x0, x1]) hdg hl hw hd hr hM (fun v h' q => by obtain ⟨rfl, rfl⟩ := q; exact kk)
theorem a_cV3 {d' index b k ci N : Nat} {y : MethodName} {cy : ByteArray} {ny : Nat} {ry : Option FieldType} {T : u_T} {x0 x1 x2 : Value} {rest : List Value} {P : Option Value → AH → Prop} (hdg : decode cc pc = .ok (.invokevirtual index, 3)) (hl : Cond.methodLink own index y ∈ gtbl) (hw : WV y cy ny ry 3) (hk : kd b k = some (0, ci)) (hc : classes[ci]? = some (y.cls, T, N)) (hd : d' < d) (hr : (rest.map fun v => v.category).sum ≤ 8) (hM : Ct l G d' y cy ny ry (.ref (G.1 b k) :: [x0, x1, x2]) h P) (kk : ∀ v h', P v h' → AW l G d own cc nL ret (pc + 3) lv (v.toList ++ rest) h' Q) : AW l G d own cc nL ret pc lv (x2 :: x1 :: x0 :: .ref (G.1 b k) :: rest) h Q := a_callV (As := [x0, x1, x2]) hdg hl hw hk hc hd hr hM kk
theorem a_cV3i {d' index b k ci N : Nat} {y : MethodName} {cy : ByteArray} {ny : Nat} {ry : Option FieldType} {T : u_T} {x0 x1 x2 : Value} {rest : List Value} {r : Int32} {h2 : AH} (hdg : decode cc pc = .ok (.invokevirtual index, 3)) (hl : Cond.methodLink own index y ∈ gtbl) (hw : WV y cy ny ry 3) (hk : kd b k = some (0, ci)) (hc : classes[ci]? = some (y.cls, T, N)) (hd : d' < d) (hr : (rest.map fun v => v.category).sum ≤ 8) (hM : Ct l G d' y cy ny ry (.ref (G.1 b k) :: [x0, x1, x2]) h (fun v h' => v = some (.int r) ∧ h' = h2)) (kk : AW l G d own cc nL ret (pc + 3) lv (.int r :: rest) h2 Q) : AW l G d own cc nL ret pc lv (x2 :: x1 :: x0 :: .ref (G.1 b k) :: rest) h Q := a_callV (As := [x0, x1, x2]) hdg hl hw hk hc hd hr hM (fun v h' q => by obtain ⟨rfl, rfl⟩ := q; exact kk)
theorem a_cV3l {d' index b k ci N : Nat} {y : MethodName} {cy : ByteArray} {ny : Nat} {ry : Option FieldType} {T : u_T} {x0 x1 x2 : Value} {rest : List Value} {r : Int64} {h2 : AH} (hdg : decode cc pc = .ok (.invokevirtual index, 3)) (hl : Cond.methodLink own index y ∈ gtbl) (hw : WV y cy ny ry 3) (hk : kd b k = some (0, ci)) (hc : classes[ci]? = some (y.cls, T, N)) (hd : d' < d) (hr : (rest.map fun v => v.category).sum ≤ 8) (hM : Ct l G d' y cy ny ry (.ref (G.1 b k) :: [x0, x1, x2]) h (fun v h' => v = some (.long r) ∧ h' = h2)) (kk : AW l G d own cc nL ret (pc + 3) lv (.long r :: rest) h2 Q) : AW l G d own cc nL ret pc lv (x2 :: x1 :: x0 :: .ref (G.1 b k) :: rest) h Q := a_callV (As := [x0, x1, x2]) hdg hl hw hk hc hd hr hM (fun v h' q => by obtain ⟨rfl, rfl⟩ := q; exact kk)
theorem a_cV3v {d' index b k ci N : Nat} {y : MethodName} {cy : ByteArray} {ny : Nat} {ry : Option FieldType} {T : u_T} {x0 x1 x2 : Value} {rest : List Value} {h2 : AH} (hdg : decode cc pc = .ok (.invokevirtual index, 3)) (hl : Cond.methodLink own index y ∈ gtbl) (hw : WV y cy ny ry 3) (hk : kd b k = some (0, ci)) (hc : classes[ci]? = some (y.cls, T, N)) (hd : d' < d) (hr : (rest.map fun v => v.category).sum ≤ 8) (hM : Ct l G d' y cy ny ry (.ref (G.1 b k) :: [x0, x1, x2]) h (fun v h' => v = none ∧ h' = h2)) (kk : AW l G d own cc nL ret (pc + 3) lv rest h2 Q) : AW l G d own cc nL ret pc lv (x2 :: x1 :: x0 :: .ref (G.1 b k) :: rest) h Q := a_callV (As := [x0, x1, x2]) hdg hl hw hk hc hd hr hM (fun v h' q => by obtain ⟨rfl, rfl⟩ := q; exact kk)
theorem a_cS3 {d' index : Nat} {y : MethodName} {cy : ByteArray} {ny : Nat} {ry : Option FieldType} {x0 x1 x2 : Value} {rest : List Value} {P : Option Value → AH → Prop} (hdg : decode cc pc = .ok (.invokestatic index, 3)) (hl : Cond.methodLink own index y ∈ gtbl) (hw : WS y cy ny ry 3) (hd : d' < d) (hr : (rest.map fun v => v.category).sum ≤ 8) (hM : Ct l G d' y cy ny ry [x0, x1, x2] h P) (kk : ∀ v h', P v h' → AW l G d own cc nL ret (pc + 3) lv (v.toList ++ rest) h' Q) : AW l G d own cc nL ret pc lv (x2 :: x1 :: x0 :: rest) h Q := a_callS (As := [x0, x1, x2]) hdg hl hw hd hr hM kk
theorem a_cS3i {d' index : Nat} {y : MethodName} {cy : ByteArray} {ny : Nat} {ry : Option FieldType} {x0 x1 x2 : Value} {rest : List Value} {r : Int32} {h2 : AH} (hdg : decode cc pc = .ok (.invokestatic index, 3)) (hl : Cond.methodLink own index y ∈ gtbl) (hw : WS y cy ny ry 3) (hd : d' < d) (hr : (rest.map fun v => v.category).sum ≤ 8) (hM : Ct l G d' y cy ny ry [x0, x1, x2] h (fun v h' => v = some (.int r) ∧ h' = h2)) (kk : AW l G d own cc nL ret (pc + 3) lv (.int r :: rest) h2 Q) : AW l G d own cc nL ret pc lv (x2 :: x1 :: x0 :: rest) h Q := a_callS (As := [x0, x1, x2]) hdg hl hw hd hr hM (fun v h' q => by obtain ⟨rfl, rfl⟩ := q; exact kk)
theorem a_cS3l {d' index : Nat} {y : MethodName} {cy : ByteArray} {ny : Nat} {ry : Option FieldType} {x0 x1 x2 : Value} {rest : List Value} {r : Int64} {h2 : AH} (hdg : decode cc pc = .ok (.invokestatic index, 3)) (hl : Cond.methodLink own index y ∈ gtbl) (hw : WS y cy ny ry 3) (hd : d' < d) (hr : (rest.map fun v => v.category).sum ≤ 8) (hM : Ct l G d' y cy ny ry [x0, x1, x2] h (fun v h' => v = some (.long r) ∧ h' = h2)) (kk : AW l G d own cc nL ret (pc + 3) lv (.long r :: rest) h2 Q) : AW l G d own cc nL ret pc lv (x2 :: x1 :: x0 :: rest) h Q := a_callS (As := [x0, x1, x2]) hdg hl hw hd hr hM (fun v h' q => by obtain ⟨rfl, rfl⟩ := q; exact kk)
theorem a_cS3v {d' index : Nat} {y : MethodName} {cy : ByteArray} {ny : Nat} {ry : Option FieldType} {x0 x1 x2 : Value} {rest : List Value} {h2 : AH} (hdg : decode cc pc = .ok (.invokestatic index, 3)) (hl : Cond.methodLink own index y ∈ gtbl) (hw : WS y cy ny ry 3) (hd : d' < d) (hr : (rest.map fun v => v.category).sum ≤ 8) (hM : Ct l G d' y cy ny ry [x0, x1, x2] h (fun v h' => v = none ∧ h' = h2)) (kk : AW l G d own cc nL ret (pc + 3) lv rest h2 Q) : AW l G d own cc nL ret pc lv (x2 :: x1 :: x0 :: rest) h Q := a_callS (As := [x0, x1, x2]) hdg hl hw hd hr hM (fun v h' q => by obtain ⟨rfl, rfl⟩ := q; exact kk)
theorem a_cV4 {d' index b k ci N : Nat} {y : MethodName} {cy : ByteArray} {ny : Nat} {ry : Option FieldType} {T : u_T} {x0 x1 x2 x3 : Value} {rest : List Value} {P : Option Value → AH → Prop} (hdg : decode cc pc = .ok (.invokevirtual index, 3)) (hl : Cond.methodLink own index y ∈ gtbl) (hw : WV y cy ny ry 4) (hk : kd b k = some (0, ci)) (hc : classes[ci]? = some (y.cls, T, N)) (hd : d' < d) (hr : (rest.map fun v => v.category).sum ≤ 8) (hM : Ct l G d' y cy ny ry (.ref (G.1 b k) :: [x0, x1, x2, x3]) h P) (kk : ∀ v h', P v h' → AW l G d own cc nL ret (pc + 3) lv (v.toList ++ rest) h' Q) : AW l G d own cc nL ret pc lv (x3 :: x2 :: x1 :: x0 :: .ref (G.1 b k) :: rest) h Q := a_callV (As := [x0, x1, x2, x3]) hdg hl hw hk hc hd hr hM kk
theorem a_cV4i {d' index b k ci N : Nat} {y : MethodName} {cy : ByteArray} {ny : Nat} {ry : Option FieldType} {T : u_T} {x0 x1 x2 x3 : Value} {rest : List Value} {r : Int32} {h2 : AH} (hdg : decode cc pc = .ok (.invokevirtual index, 3)) (hl : Cond.methodLink own index y ∈ gtbl) (hw : WV y cy ny ry 4) (hk : kd b k = some (0, ci)) (hc : classes[ci]? = some (y.cls, T, N)) (hd : d' < d) (hr : (rest.map fun v => v.category).sum ≤ 8) (hM : Ct l G d' y cy ny ry (.ref (G.1 b k) :: [x0, x1, x2, x3]) h (fun v h' => v = some (.int r) ∧ h' = h2)) (kk : AW l G d own cc nL ret (pc + 3) lv (.int r :: rest) h2 Q) : AW l G d own cc nL ret pc lv (x3 :: x2 :: x1 :: x0 :: .ref (G.1 b k) :: rest) h Q := a_callV (As := [x0, x1, x2, x3]) hdg hl hw hk hc hd hr hM (fun v h' q => by obtain ⟨rfl, rfl⟩ := q; exact kk)
theorem a_cV4l {d' index b k ci N : Nat} {y : MethodName} {cy : ByteArray} {ny : Nat} {ry : Option FieldType} {T : u_T} {x0 x1 x2 x3 : Value} {rest : List Value} {r : Int64} {h2 : AH} (hdg : decode cc pc = .ok (.invokevirtual index, 3)) (hl : Cond.methodLink own index y ∈ gtbl) (hw : WV y cy ny ry 4) (hk : kd b k = some (0, ci)) (hc : classes[ci]? = some (y.cls, T, N)) (hd : d' < d) (hr : (rest.map fun v => v.category).sum ≤ 8) (hM : Ct l G d' y cy ny ry (.ref (G.1 b k) :: [x0, x1, x2, x3]) h (fun v h' => v = some (.long r) ∧ h' = h2)) (kk : AW l G d own cc nL ret (pc + 3) lv (.long r :: rest) h2 Q) : AW l G d own cc nL ret pc lv (x3 :: x2 :: x1 :: x0 :: .ref (G.1 b k) :: rest) h Q := a_callV (As := [x0, x1, x2, x3]) hdg hl hw hk hc hd hr hM (fun v h' q => by obtain ⟨rfl, rfl⟩ := q; exact kk)
theorem a_cV4v {d' index b k ci N : Nat} {y : MethodName} {cy : ByteArray} {ny : Nat} {ry : Option FieldType} {T : u_T} {x0 x1 x2 x3 : Value} {rest : List Value} {h2 : AH} (hdg : decode cc pc = .ok (.invokevirtual index, 3)) (hl : Cond.methodLink own index y ∈ gtbl) (hw : WV y cy ny ry 4) (hk : kd b k = some (0, ci)) (hc : classes[ci]? = some (y.cls, T, N)) (hd : d' < d) (hr : (rest.map fun v => v.category).sum ≤ 8) (hM : Ct l G d' y cy ny ry (.ref (G.1 b k) :: [x0, x1, x2, x3]) h (fun v h' => v = none ∧ h' = h2)) (kk : AW l G d own cc nL ret (pc + 3) lv rest h2 Q) : AW l G d own cc nL ret pc lv (x3 :: x2 :: x1 :: x0 :: .ref (G.1 b k) :: rest) h Q := a_callV (As := [x0, x1, x2, x3]) hdg hl hw hk hc hd hr hM (fun v h' q => by obtain ⟨rfl, rfl⟩ := q; exact kk)
theorem a_cS4 {d' index : Nat} {y : MethodName} {cy : ByteArray} {ny : Nat} {ry : Option FieldType} {x0 x1 x2 x3 : Value} {rest : List Value} {P : Option Value → AH → Prop} (hdg : decode cc pc = .ok (.invokestatic index, 3)) (hl : Cond.methodLink own index y ∈ gtbl) (hw : WS y cy ny ry 4) (hd : d' < d) (hr : (rest.map fun v => v.category).sum ≤ 8) (hM : Ct l G d' y cy ny ry [x0, x1, x2, x3] h P) (kk : ∀ v h', P v h' → AW l G d own cc nL ret (pc + 3) lv (v.toList ++ rest) h' Q) : AW l G d own cc nL ret pc lv (x3 :: x2 :: x1 :: x0 :: rest) h Q := a_callS (As := [x0, x1, x2, x3]) hdg hl hw hd hr hM kk
theorem a_cS4i {d' index : Nat} {y : MethodName} {cy : ByteArray} {ny : Nat} {ry : Option FieldType} {x0 x1 x2 x3 : Value} {rest : List Value} {r : Int32} {h2 : AH} (hdg : decode cc pc = .ok (.invokestatic index, 3)) (hl : Cond.methodLink own index y ∈ gtbl) (hw : WS y cy ny ry 4) (hd : d' < d) (hr : (rest.map fun v => v.category).sum ≤ 8) (hM : Ct l G d' y cy ny ry [x0, x1, x2, x3] h (fun v h' => v = some (.int r) ∧ h' = h2)) (kk : AW l G d own cc nL ret (pc + 3) lv (.int r :: rest) h2 Q) : AW l G d own cc nL ret pc lv (x3 :: x2 :: x1 :: x0 :: rest) h Q := a_callS (As := [x0, x1, x2, x3]) hdg hl hw hd hr hM (fun v h' q => by obtain ⟨rfl, rfl⟩ := q; exact kk)
theorem a_cS4l {d' index : Nat} {y : MethodName} {cy : ByteArray} {ny : Nat} {ry : Option FieldType} {x0 x1 x2 x3 : Value} {rest : List Value} {r : Int64} {h2 : AH} (hdg : decode cc pc = .ok (.invokestatic index, 3)) (hl : Cond.methodLink own index y ∈ gtbl) (hw : WS y cy ny ry 4) (hd : d' < d) (hr : (rest.map fun v => v.category).sum ≤ 8) (hM : Ct l G d' y cy ny ry [x0, x1, x2, x3] h (fun v h' => v = some (.long r) ∧ h' = h2)) (kk : AW l G d own cc nL ret (pc + 3) lv (.long r :: rest) h2 Q) : AW l G d own cc nL ret pc lv (x3 :: x2 :: x1 :: x0 :: rest) h Q := a_callS (As := [x0, x1, x2, x3]) hdg hl hw hd hr hM (fun v h' q => by obtain ⟨rfl, rfl⟩ := q; exact kk)
theorem a_cS4v {d' index : Nat} {y : MethodName} {cy : ByteArray} {ny : Nat} {ry : Option FieldType} {x0 x1 x2 x3 : Value} {rest : List Value} {h2 : AH} (hdg : decode cc pc = .ok (.invokestatic index, 3)) (hl : Cond.methodLink own index y ∈ gtbl) (hw : WS y cy ny ry 4) (hd : d' < d) (hr : (rest.map fun v => v.category).sum ≤ 8) (hM : Ct l G d' y cy ny ry [x0, x1, x2, x3] h (fun v h' => v = none ∧ h' = h2)) (kk : AW l G d own cc nL ret (pc + 3) lv rest h2 Q) : AW l G d own cc nL ret pc lv (x3 :: x2 :: x1 :: x0 :: rest) h Q := a_callS (As := [x0, x1, x2, x3]) hdg hl hw hd hr hM (fun v h' q => by obtain ⟨rfl, rfl⟩ := q; exact kk)
theorem a_cV5 {d' index b k ci N : Nat} {y : MethodName} {cy : ByteArray} {ny : Nat} {ry : Option FieldType} {T : u_T} {x0 x1 x2 x3 x4 : Value} {rest : List Value} {P : Option Value → AH → Prop} (hdg : decode cc pc = .ok (.invokevirtual index, 3)) (hl : Cond.methodLink own index y ∈ gtbl) (hw : WV y cy ny ry 5) (hk : kd b k = some (0, ci)) (hc : classes[ci]? = some (y.cls, T, N)) (hd : d' < d) (hr : (rest.map fun v => v.category).sum ≤ 8) (hM : Ct l G d' y cy ny ry (.ref (G.1 b k) :: [x0, x1, x2, x3, x4]) h P) (kk : ∀ v h', P v h' → AW l G d own cc nL ret (pc + 3) lv (v.toList ++ rest) h' Q) : AW l G d own cc nL ret pc lv (x4 :: x3 :: x2 :: x1 :: x0 :: .ref (G.1 b k) :: rest) h Q := a_callV (As := [x0, x1, x2, x3, x4]) hdg hl hw hk hc hd hr hM kk
theorem a_cV5i {d' index b k ci N : Nat} {y : MethodName} {cy : ByteArray} {ny : Nat} {ry : Option FieldType} {T : u_T} {x0 x1 x2 x3 x4 : Value} {rest : List Value} {r : Int32} {h2 : AH} (hdg : decode cc pc = .ok (.invokevirtual index, 3)) (hl : Cond.methodLink own index y ∈ gtbl) (hw : WV y cy ny ry 5) (hk : kd b k = some (0, ci)) (hc : classes[ci]? = some (y.cls, T, N)) (hd : d' < d) (hr : (rest.map fun v => v.category).sum ≤ 8) (hM : Ct l G d' y cy ny ry (.ref (G.1 b k) :: [x0, x1, x2, x3, x4]) h (fun v h' => v = some (.int r) ∧ h' = h2)) (kk : AW l G d own cc nL ret (pc + 3) lv (.int r :: rest) h2 Q) : AW l G d own cc nL ret pc lv (x4 :: x3 :: x2 :: x1 :: x0 :: .ref (G.1 b k) :: rest) h Q := a_callV (As := [x0, x1, x2, x3, x4]) hdg hl hw hk hc hd hr hM (fun v h' q => by obtain ⟨rfl, rfl⟩ := q; exact kk)
theorem a_cV5l {d' index b k ci N : Nat} {y : MethodName} {cy : ByteArray} {ny : Nat} {ry : Option FieldType} {T : u_T} {x0 x1 x2 x3 x4 : Value} {rest : List Value} {r : Int64} {h2 : AH} (hdg : decode cc pc = .ok (.invokevirtual index, 3)) (hl : Cond.methodLink own index y ∈ gtbl) (hw : WV y cy ny ry 5) (hk : kd b k = some (0, ci)) (hc : classes[ci]? = some (y.cls, T, N)) (hd : d' < d) (hr : (rest.map fun v => v.category).sum ≤ 8) (hM : Ct l G d' y cy ny ry (.ref (G.1 b k) :: [x0, x1, x2, x3, x4]) h (fun v h' => v = some (.long r) ∧ h' = h2)) (kk : AW l G d own cc nL ret (pc + 3) lv (.long r :: rest) h2 Q) : AW l G d own cc nL ret pc lv (x4 :: x3 :: x2 :: x1 :: x0 :: .ref (G.1 b k) :: rest) h Q := a_callV (As := [x0, x1, x2, x3, x4]) hdg hl hw hk hc hd hr hM (fun v h' q => by obtain ⟨rfl, rfl⟩ := q; exact kk)
theorem a_cV5v {d' index b k ci N : Nat} {y : MethodName} {cy : ByteArray} {ny : Nat} {ry : Option FieldType} {T : u_T} {x0 x1 x2 x3 x4 : Value} {rest : List Value} {h2 : AH} (hdg : decode cc pc = .ok (.invokevirtual index, 3)) (hl : Cond.methodLink own index y ∈ gtbl) (hw : WV y cy ny ry 5) (hk : kd b k = some (0, ci)) (hc : classes[ci]? = some (y.cls, T, N)) (hd : d' < d) (hr : (rest.map fun v => v.category).sum ≤ 8) (hM : Ct l G d' y cy ny ry (.ref (G.1 b k) :: [x0, x1, x2, x3, x4]) h (fun v h' => v = none ∧ h' = h2)) (kk : AW l G d own cc nL ret (pc + 3) lv rest h2 Q) : AW l G d own cc nL ret pc lv (x4 :: x3 :: x2 :: x1 :: x0 :: .ref (G.1 b k) :: rest) h Q := a_callV (As := [x0, x1, x2, x3, x4]) hdg hl hw hk hc hd hr hM (fun v h' q => by obtain ⟨rfl, rfl⟩ := q; exact kk)
theorem a_cS5 {d' index : Nat} {y : MethodName} {cy : ByteArray} {ny : Nat} {ry : Option FieldType} {x0 x1 x2 x3 x4 : Value} {rest : List Value} {P : Option Value → AH → Prop} (hdg : decode cc pc = .ok (.invokestatic index, 3)) (hl : Cond.methodLink own index y ∈ gtbl) (hw : WS y cy ny ry 5) (hd : d' < d) (hr : (rest.map fun v => v.category).sum ≤ 8) (hM : Ct l G d' y cy ny ry [x0, x1, x2, x3, x4] h P) (kk : ∀ v h', P v h' → AW l G d own cc nL ret (pc + 3) lv (v.toList ++ rest) h' Q) : AW l G d own cc nL ret pc lv (x4 :: x3 :: x2 :: x1 :: x0 :: rest) h Q := a_callS (As := [x0, x1, x2, x3, x4]) hdg hl hw hd hr hM kk
theorem a_cS5i {d' index : Nat} {y : MethodName} {cy : ByteArray} {ny : Nat} {ry : Option FieldType} {x0 x1 x2 x3 x4 : Value} {rest : List Value} {r : Int32} {h2 : AH} (hdg : decode cc pc = .ok (.invokestatic index, 3)) (hl : Cond.methodLink own index y ∈ gtbl) (hw : WS y cy ny ry 5) (hd : d' < d) (hr : (rest.map fun v => v.category).sum ≤ 8) (hM : Ct l G d' y cy ny ry [x0, x1, x2, x3, x4] h (fun v h' => v = some (.int r) ∧ h' = h2)) (kk : AW l G d own cc nL ret (pc + 3) lv (.int r :: rest) h2 Q) : AW l G d own cc nL ret pc lv (x4 :: x3 :: x2 :: x1 :: x0 :: rest) h Q := a_callS (As := [x0, x1, x2, x3, x4]) hdg hl hw hd hr hM (fun v h' q => by obtain ⟨rfl, rfl⟩ := q; exact kk)
theorem a_cS5l {d' index : Nat} {y : MethodName} {cy : ByteArray} {ny : Nat} {ry : Option FieldType} {x0 x1 x2 x3 x4 : Value} {rest : List Value} {r : Int64} {h2 : AH} (hdg : decode cc pc = .ok (.invokestatic index, 3)) (hl : Cond.methodLink own index y ∈ gtbl) (hw : WS y cy ny ry 5) (hd : d' < d) (hr : (rest.map fun v => v.category).sum ≤ 8) (hM : Ct l G d' y cy ny ry [x0, x1, x2, x3, x4] h (fun v h' => v = some (.long r) ∧ h' = h2)) (kk : AW l G d own cc nL ret (pc + 3) lv (.long r :: rest) h2 Q) : AW l G d own cc nL ret pc lv (x4 :: x3 :: x2 :: x1 :: x0 :: rest) h Q := a_callS (As := [x0, x1, x2, x3, x4]) hdg hl hw hd hr hM (fun v h' q => by obtain ⟨rfl, rfl⟩ := q; exact kk)
theorem a_cS5v {d' index : Nat} {y : MethodName} {cy : ByteArray} {ny : Nat} {ry : Option FieldType} {x0 x1 x2 x3 x4 : Value} {rest : List Value} {h2 : AH} (hdg : decode cc pc = .ok (.invokestatic index, 3)) (hl : Cond.methodLink own index y ∈ gtbl) (hw : WS y cy ny ry 5) (hd : d' < d) (hr : (rest.map fun v => v.category).sum ≤ 8) (hM : Ct l G d' y cy ny ry [x0, x1, x2, x3, x4] h (fun v h' => v = none ∧ h' = h2)) (kk : AW l G d own cc nL ret (pc + 3) lv rest h2 Q) : AW l G d own cc nL ret pc lv (x4 :: x3 :: x2 :: x1 :: x0 :: rest) h Q := a_callS (As := [x0, x1, x2, x3, x4]) hdg hl hw hd hr hM (fun v h' q => by obtain ⟨rfl, rfl⟩ := q; exact kk)
theorem a_cS6 {d' index : Nat} {y : MethodName} {cy : ByteArray} {ny : Nat} {ry : Option FieldType} {x0 x1 x2 x3 x4 x5 : Value} {rest : List Value} {P : Option Value → AH → Prop} (hdg : decode cc pc = .ok (.invokestatic index, 3)) (hl : Cond.methodLink own index y ∈ gtbl) (hw : WS y cy ny ry 6) (hd : d' < d) (hr : (rest.map fun v => v.category).sum ≤ 8) (hM : Ct l G d' y cy ny ry [x0, x1, x2, x3, x4, x5] h P) (kk : ∀ v h', P v h' → AW l G d own cc nL ret (pc + 3) lv (v.toList ++ rest) h' Q) : AW l G d own cc nL ret pc lv (x5 :: x4 :: x3 :: x2 :: x1 :: x0 :: rest) h Q := a_callS (As := [x0, x1, x2, x3, x4, x5]) hdg hl hw hd hr hM kk
theorem a_cS6i {d' index : Nat} {y : MethodName} {cy : ByteArray} {ny : Nat} {ry : Option FieldType} {x0 x1 x2 x3 x4 x5 : Value} {rest : List Value} {r : Int32} {h2 : AH} (hdg : decode cc pc = .ok (.invokestatic index, 3)) (hl : Cond.methodLink own index y ∈ gtbl) (hw : WS y cy ny ry 6) (hd : d' < d) (hr : (rest.map fun v => v.category).sum ≤ 8) (hM : Ct l G d' y cy ny ry [x0, x1, x2, x3, x4, x5] h (fun v h' => v = some (.int r) ∧ h' = h2)) (kk : AW l G d own cc nL ret (pc + 3) lv (.int r :: rest) h2 Q) : AW l G d own cc nL ret pc lv (x5 :: x4 :: x3 :: x2 :: x1 :: x0 :: rest) h Q := a_callS (As := [x0, x1, x2, x3, x4, x5]) hdg hl hw hd hr hM (fun v h' q => by obtain ⟨rfl, rfl⟩ := q; exact kk)
theorem a_cS6l {d' index : Nat} {y : MethodName} {cy : ByteArray} {ny : Nat} {ry : Option FieldType} {x0 x1 x2 x3 x4 x5 : Value} {rest : List Value} {r : Int64} {h2 : AH} (hdg : decode cc pc = .ok (.invokestatic index, 3)) (hl : Cond.methodLink own index y ∈ gtbl) (hw : WS y cy ny ry 6) (hd : d' < d) (hr : (rest.map fun v => v.category).sum ≤ 8) (hM : Ct l G d' y cy ny ry [x0, x1, x2, x3, x4, x5] h (fun v h' => v = some (.long r) ∧ h' = h2)) (kk : AW l G d own cc nL ret (pc + 3) lv (.long r :: rest) h2 Q) : AW l G d own cc nL ret pc lv (x5 :: x4 :: x3 :: x2 :: x1 :: x0 :: rest) h Q := a_callS (As := [x0, x1, x2, x3, x4, x5]) hdg hl hw hd hr hM (fun v h' q => by obtain ⟨rfl, rfl⟩ := q; exact kk)
theorem a_cS6v {d' index : Nat} {y : MethodName} {cy : ByteArray} {ny : Nat} {ry : Option FieldType} {x0 x1 x2 x3 x4 x5 : Value} {rest : List Value} {h2 : AH} (hdg : decode cc pc = .ok (.invokestatic index, 3)) (hl : Cond.methodLink own index y ∈ gtbl) (hw : WS y cy ny ry 6) (hd : d' < d) (hr : (rest.map fun v => v.category).sum ≤ 8) (hM : Ct l G d' y cy ny ry [x0, x1, x2, x3, x4, x5] h (fun v h' => v = none ∧ h' = h2)) (kk : AW l G d own cc nL ret (pc + 3) lv rest h2 Q) : AW l G d own cc nL ret pc lv (x5 :: x4 :: x3 :: x2 :: x1 :: x0 :: rest) h Q := a_callS (As := [x0, x1, x2, x3, x4, x5]) hdg hl hw hd hr hM (fun v h' q => by obtain ⟨rfl, rfl⟩ := q; exact kk)
theorem a_mmax {index : Nat} {x y : Int32} (hdg : decode cc pc = .ok (.invokestatic index, 3)) (hl : Cond.methodLink own index Lib.Math.max.name ∈ gtbl) (hd : 0 < d) (hr : (st.map fun v => v.category).sum ≤ 8) (k : AW l G d own cc nL ret (pc + 3) lv (.int (if x < y then y else x) :: st) h Q) : AW l G d own cc nL ret pc lv (.int y :: .int x :: st) h Q := fun p e s m args below meth c H locs ls C hW hS hlv => va_mmax (R := rmD d) C.1 C.2.1 (by rw [hlv.1]; exact C.2.2.1) C.2.2.2.1 (C.2.2.2.2.1 _ hl) (C.2.2.2.2.1 _ mmax_st) (C.2.2.2.2.1 _ math_in) (C.2.2.2.2.1 _ mmax_cd) (show 1 ≤ (rmD d).frames from hd) (by show _ + 13 ≤ 36 * d; omega) (Nat.zero_le _) (Nat.zero_le _) hdg (k p e s m args below meth c H locs ls C hW hS hlv)
theorem a_mmin {index : Nat} {x y : Int32} (hdg : decode cc pc = .ok (.invokestatic index, 3)) (hl : Cond.methodLink own index Lib.Math.min.name ∈ gtbl) (hd : 0 < d) (hr : (st.map fun v => v.category).sum ≤ 8) (k : AW l G d own cc nL ret (pc + 3) lv (.int (if y < x then y else x) :: st) h Q) : AW l G d own cc nL ret pc lv (.int y :: .int x :: st) h Q := fun p e s m args below meth c H locs ls C hW hS hlv => va_mmin (R := rmD d) C.1 C.2.1 (by rw [hlv.1]; exact C.2.2.1) C.2.2.2.1 (C.2.2.2.2.1 _ hl) (C.2.2.2.2.1 _ mmin_st) (C.2.2.2.2.1 _ math_in) (C.2.2.2.2.1 _ mmin_cd) (show 1 ≤ (rmD d).frames from hd) (by show _ + 13 ≤ 36 * d; omega) (Nat.zero_le _) (Nat.zero_le _) hdg (k p e s m args below meth c H locs ls C hW hS hlv)
end AMEM
end
section
theorem a_inc {l : Launch} {G : GG} {d : Nat} {own : String} {cc : ByteArray} {nL : Nat} {ret : Option FieldType} {pc : Nat} {lv : List (Option Value)} {st : List Value} {h : AH} {Q : Option Value → AH → Prop} {i : Nat} {n : Int} {x c : Int32} (hdg : decode cc pc = .ok (.iinc i n, 3)) (hx : lget lv i = some (.int x)) (hc : Int32.ofInt n = c) (hn : i < nL) (hk : okS lv i = true) (k : AW l G d own cc nL ret (pc + 3) (lset lv i (some (.int (x + c)))) st h Q) : AW l G d own cc nL ret pc lv st h Q := a_iinc hdg hx (by rw [hc]) hn hk k
theorem ui_eq {h : AH} {b k j : Nat} {v : Int32} : (ui h b k j v).1 b k j = v := by simp [ui]
theorem ui_k {h : AH} {b k j b' k' j' : Nat} {v : Int32} (hn : k' ≠ k) : (ui h b k j v).1 b' k' j' = h.1 b' k' j' := by simp [ui, hn]
theorem ui_b {h : AH} {b k j b' k' j' : Nat} {v : Int32} (hn : b' ≠ b) : (ui h b k j v).1 b' k' j' = h.1 b' k' j' := by simp [ui, hn]
theorem ui_j {h : AH} {b k j b' k' j' : Nat} {v : Int32} (hn : j' ≠ j) : (ui h b k j v).1 b' k' j' = h.1 b' k' j' := by simp [ui, hn]
theorem ui_2 {h : AH} {b k j : Nat} {v : Int32} : (ui h b k j v).2 = h.2 := rfl
theorem ul_1 {h : AH} {b k j : Nat} {v : Int64} : (ul h b k j v).1 = h.1 := rfl
theorem ul_eq {h : AH} {b k j : Nat} {v : Int64} : (ul h b k j v).2 b k j = v := by simp [ul]
theorem ul_k {h : AH} {b k j b' k' j' : Nat} {v : Int64} (hn : k' ≠ k) : (ul h b k j v).2 b' k' j' = h.2 b' k' j' := by simp [ul, hn]
theorem ul_b {h : AH} {b k j b' k' j' : Nat} {v : Int64} (hn : b' ≠ b) : (ul h b k j v).2 b' k' j' = h.2 b' k' j' := by simp [ul, hn]
theorem ul_j {h : AH} {b k j b' k' j' : Nat} {v : Int64} (hn : j' ≠ j) : (ul h b k j v).2 b' k' j' = h.2 b' k' j' := by simp [ul, hn]
theorem lt_of_nle {a b : Nat} (h : ¬ nI b ≤ nI a) (ha : a < 2 ^ 31) (hb : b < 2 ^ 31) : a < b := by
  rw [nI_leI hb ha] at h
  omega
theorem le_of_le {a b : Nat} (h : nI b ≤ nI a) (ha : a < 2 ^ 31) (hb : b < 2 ^ 31) : b ≤ a := (nI_leI hb ha).mp h
/-- the class's has(): 0 ≤ x < c -/
def hasI (c x : Int32) : Int32 := if x < 0 then 0 else if c ≤ x then 0 else 1
theorem hasI_ne {c x : Int32} (h : ¬ hasI c x = 0) : ¬ x < 0 ∧ ¬ c ≤ x := by
  unfold hasI at h
  split at h
  · exact absurd rfl h
  · split at h
    · exact absurd rfl h
    · exact ⟨by assumption, by assumption⟩
theorem hasI_eq {c x : Int32} (h : hasI c x = 0) : x < 0 ∨ c ≤ x := by
  unfold hasI at h
  split at h
  · exact Or.inl (by assumption)
  · split at h
    · exact Or.inr (by assumption)
    · exact absurd h (by decide)
theorem hasI_in {c x : Int32} {N : Nat} (h : ¬ hasI c x = 0) (hc : c.toInt ≤ N) : vp_in x N := by
  obtain ⟨h1, h2⟩ := hasI_ne h
  rw [Int32.lt_iff_toInt_lt] at h1
  rw [Int32.le_iff_toInt_le] at h2
  rw [vp_in_iff]
  have : (0 : Int32).toInt = 0 := by decide
  omega
def sumI (f : Nat → Int32) : Nat → Int32
  | 0 => 0
  | n + 1 => sumI f n + f n
def cntI (f : Nat → Int32) (x : Int32) : Nat → Int32
  | 0 => 0
  | n + 1 => if f n = x then cntI f x n + 1 else cntI f x n
theorem max1_ne (x : Int32) : ¬ (if (1 : Int32) < x then x else 1) = 0 := by
  split
  · rename_i h1
    intro q
    subst q
    exact absurd h1 (by decide)
  · decide
end
section
theorem fl_10_10 : Cond.fieldLink RX10 10 (TX10 0).1 (TX10 0).2.1 (TX10 0).2.2.1 ∈ gtbl := memI 456 (by decide +kernel) (by decide +kernel)
theorem fl_10_47 : Cond.fieldLink RX10 47 (TX7 1).1 (TX7 1).2.1 (TX7 1).2.2.1 ∈ gtbl := memI 105 (by decide +kernel) (by decide +kernel)
theorem ml_10_51 : Cond.methodLink RX10 51 yX7_putNumber ∈ gtbl := memI 479 (by decide +kernel) (by decide +kernel)
theorem wv_7_putNumber : WV yX7_putNumber cX7_putNumber 3 none 1 := ⟨⟨memI 482 (by decide +kernel) (by decide +kernel), memI 70 (by decide +kernel) (by decide +kernel), by decide, by decide +kernel⟩, memI 480 (by decide +kernel) (by decide +kernel), memI 481 (by decide +kernel) (by decide +kernel)⟩
theorem fl_10_44 : Cond.fieldLink RX10 44 (TX10 4).1 (TX10 4).2.1 (TX10 4).2.2.1 ∈ gtbl := memI 460 (by decide +kernel) (by decide +kernel)
theorem ml_10_55 : Cond.methodLink RX10 55 yX1_clear ∈ gtbl := memI 491 (by decide +kernel) (by decide +kernel)
theorem wv_1_clear : WV yX1_clear cX1_clear 1 none 0 := ⟨⟨memI 494 (by decide +kernel) (by decide +kernel), memI 74 (by decide +kernel) (by decide +kernel), by decide, by decide +kernel⟩, memI 492 (by decide +kernel) (by decide +kernel), memI 493 (by decide +kernel) (by decide +kernel)⟩
theorem fl_10_26 : Cond.fieldLink RX10 26 (TX10 1).1 (TX10 1).2.1 (TX10 1).2.2.1 ∈ gtbl := memI 457 (by decide +kernel) (by decide +kernel)
theorem ml_10_58 : Cond.methodLink RX10 58 yX6_readInto ∈ gtbl := memI 507 (by decide +kernel) (by decide +kernel)
theorem wv_6_readInto : WV yX6_readInto cX6_readInto 4 (some .boolean) 1 := ⟨⟨memI 510 (by decide +kernel) (by decide +kernel), memI 71 (by decide +kernel) (by decide +kernel), by decide, by decide +kernel⟩, memI 508 (by decide +kernel) (by decide +kernel), memI 509 (by decide +kernel) (by decide +kernel)⟩
theorem fl_10_62 : Cond.fieldLink RX10 62 (TX6 8).1 (TX6 8).2.1 (TX6 8).2.2.1 ∈ gtbl := memI 155 (by decide +kernel) (by decide +kernel)
theorem fl_10_65 : Cond.fieldLink RX10 65 (TX10 5).1 (TX10 5).2.1 (TX10 5).2.2.1 ∈ gtbl := memI 461 (by decide +kernel) (by decide +kernel)
theorem fl_10_68 : Cond.fieldLink RX10 68 (TX6 9).1 (TX6 9).2.1 (TX6 9).2.2.1 ∈ gtbl := memI 156 (by decide +kernel) (by decide +kernel)
theorem fl_10_40 : Cond.fieldLink RX10 40 (TX10 3).1 (TX10 3).2.1 (TX10 3).2.2.1 ∈ gtbl := memI 459 (by decide +kernel) (by decide +kernel)
theorem fl_10_71 : Cond.fieldLink RX10 71 (TX6 6).1 (TX6 6).2.1 (TX6 6).2.2.1 ∈ gtbl := memI 152 (by decide +kernel) (by decide +kernel)
theorem fl_10_74 : Cond.fieldLink RX10 74 (TX1 5).1 (TX1 5).2.1 (TX1 5).2.2.1 ∈ gtbl := memI 442 (by decide +kernel) (by decide +kernel)
theorem fl_10_77 : Cond.fieldLink RX10 77 (TX1 0).1 (TX1 0).2.1 (TX1 0).2.2.1 ∈ gtbl := memI 428 (by decide +kernel) (by decide +kernel)
theorem fl_10_81 : Cond.fieldLink RX10 81 (TX2 1).1 (TX2 1).2.1 (TX2 1).2.2.1 ∈ gtbl := memI 233 (by decide +kernel) (by decide +kernel)
theorem fl_10_86 : Cond.fieldLink RX10 86 (TX1 1).1 (TX1 1).2.1 (TX1 1).2.2.1 ∈ gtbl := memI 432 (by decide +kernel) (by decide +kernel)
theorem fl_10_90 : Cond.fieldLink RX10 90 (TX4 11).1 (TX4 11).2.1 (TX4 11).2.2.1 ∈ gtbl := memI 276 (by decide +kernel) (by decide +kernel)
theorem fl_10_93 : Cond.fieldLink RX10 93 (TX1 2).1 (TX1 2).2.1 (TX1 2).2.2.1 ∈ gtbl := memI 435 (by decide +kernel) (by decide +kernel)
theorem fl_10_97 : Cond.fieldLink RX10 97 (TX3 5).1 (TX3 5).2.1 (TX3 5).2.2.1 ∈ gtbl := memI 329 (by decide +kernel) (by decide +kernel)
theorem fl_10_100 : Cond.fieldLink RX10 100 (TX1 3).1 (TX1 3).2.1 (TX1 3).2.2.1 ∈ gtbl := memI 438 (by decide +kernel) (by decide +kernel)
theorem fl_10_104 : Cond.fieldLink RX10 104 (TX9 9).1 (TX9 9).2.1 (TX9 9).2.2.1 ∈ gtbl := memI 377 (by decide +kernel) (by decide +kernel)
theorem ml_10_107 : Cond.methodLink RX10 107 yX9_countIn ∈ gtbl := memI 681 (by decide +kernel) (by decide +kernel)
theorem wv_9_countIn : WV yX9_countIn cX9_countIn 4 (some .int) 1 := ⟨⟨memI 684 (by decide +kernel) (by decide +kernel), memI 78 (by decide +kernel) (by decide +kernel), by decide, by decide +kernel⟩, memI 682 (by decide +kernel) (by decide +kernel), memI 683 (by decide +kernel) (by decide +kernel)⟩
theorem fl_10_111 : Cond.fieldLink RX10 111 (TX2 2).1 (TX2 2).2.1 (TX2 2).2.2.1 ∈ gtbl := memI 236 (by decide +kernel) (by decide +kernel)
theorem ml_10_114 : Cond.methodLink RX10 114 yX3_allMisuses ∈ gtbl := memI 685 (by decide +kernel) (by decide +kernel)
theorem wv_3_allMisuses : WV yX3_allMisuses cX3_allMisuses 3 (some .int) 0 := ⟨⟨memI 688 (by decide +kernel) (by decide +kernel), memI 77 (by decide +kernel) (by decide +kernel), by decide, by decide +kernel⟩, memI 686 (by decide +kernel) (by decide +kernel), memI 687 (by decide +kernel) (by decide +kernel)⟩
theorem fl_10_118 : Cond.fieldLink RX10 118 (TX1 4).1 (TX1 4).2.1 (TX1 4).2.2.1 ∈ gtbl := memI 440 (by decide +kernel) (by decide +kernel)
theorem fl_10_122 : Cond.fieldLink RX10 122 (TX0 4).1 (TX0 4).2.1 (TX0 4).2.2.1 ∈ gtbl := memI 414 (by decide +kernel) (by decide +kernel)
theorem ml_10_127 : Cond.methodLink RX10 127 yX4_has ∈ gtbl := memI 693 (by decide +kernel) (by decide +kernel)
theorem wv_4_has : WV yX4_has cX4_has 2 (some .boolean) 1 := ⟨⟨memI 696 (by decide +kernel) (by decide +kernel), memI 76 (by decide +kernel) (by decide +kernel), by decide, by decide +kernel⟩, memI 694 (by decide +kernel) (by decide +kernel), memI 695 (by decide +kernel) (by decide +kernel)⟩
theorem fl_10_131 : Cond.fieldLink RX10 131 (TX4 0).1 (TX4 0).2.1 (TX4 0).2.2.1 ∈ gtbl := memI 251 (by decide +kernel) (by decide +kernel)
theorem fl_10_135 : Cond.fieldLink RX10 135 (TX4 1).1 (TX4 1).2.1 (TX4 1).2.2.1 ∈ gtbl := memI 253 (by decide +kernel) (by decide +kernel)
theorem fl_10_138 : Cond.fieldLink RX10 138 (TX4 2).1 (TX4 2).2.1 (TX4 2).2.2.1 ∈ gtbl := memI 255 (by decide +kernel) (by decide +kernel)
theorem fl_10_141 : Cond.fieldLink RX10 141 (TX4 3).1 (TX4 3).2.1 (TX4 3).2.2.1 ∈ gtbl := memI 258 (by decide +kernel) (by decide +kernel)
theorem fl_10_144 : Cond.fieldLink RX10 144 (TX4 4).1 (TX4 4).2.1 (TX4 4).2.2.1 ∈ gtbl := memI 260 (by decide +kernel) (by decide +kernel)
theorem fl_10_147 : Cond.fieldLink RX10 147 (TX4 5).1 (TX4 5).2.1 (TX4 5).2.2.1 ∈ gtbl := memI 263 (by decide +kernel) (by decide +kernel)
theorem fl_10_150 : Cond.fieldLink RX10 150 (TX4 6).1 (TX4 6).2.1 (TX4 6).2.2.1 ∈ gtbl := memI 265 (by decide +kernel) (by decide +kernel)
theorem ml_10_153 : Cond.methodLink RX10 153 yX4_countFree ∈ gtbl := memI 697 (by decide +kernel) (by decide +kernel)
theorem wv_4_countFree : WV yX4_countFree cX4_countFree 3 (some .int) 1 := ⟨⟨memI 700 (by decide +kernel) (by decide +kernel), memI 76 (by decide +kernel) (by decide +kernel), by decide, by decide +kernel⟩, memI 698 (by decide +kernel) (by decide +kernel), memI 699 (by decide +kernel) (by decide +kernel)⟩
theorem ml_10_156 : Cond.methodLink RX10 156 yX4_countIn ∈ gtbl := memI 720 (by decide +kernel) (by decide +kernel)
theorem wv_4_countIn : WV yX4_countIn cX4_countIn 2 (some .int) 1 := ⟨⟨memI 711 (by decide +kernel) (by decide +kernel), memI 76 (by decide +kernel) (by decide +kernel), by decide, by decide +kernel⟩, memI 709 (by decide +kernel) (by decide +kernel), memI 710 (by decide +kernel) (by decide +kernel)⟩
theorem ml_10_157 : Cond.methodLink RX10 157 yX4_countOut ∈ gtbl := memI 721 (by decide +kernel) (by decide +kernel)
theorem wv_4_countOut : WV yX4_countOut cX4_countOut 3 (some .int) 1 := ⟨⟨memI 704 (by decide +kernel) (by decide +kernel), memI 76 (by decide +kernel) (by decide +kernel), by decide, by decide +kernel⟩, memI 702 (by decide +kernel) (by decide +kernel), memI 703 (by decide +kernel) (by decide +kernel)⟩
theorem fl_10_160 : Cond.fieldLink RX10 160 (TX4 8).1 (TX4 8).2.1 (TX4 8).2.2.1 ∈ gtbl := memI 269 (by decide +kernel) (by decide +kernel)
theorem fl_10_163 : Cond.fieldLink RX10 163 (TX4 9).1 (TX4 9).2.1 (TX4 9).2.2.1 ∈ gtbl := memI 271 (by decide +kernel) (by decide +kernel)
theorem fl_10_166 : Cond.fieldLink RX10 166 (TX4 10).1 (TX4 10).2.1 (TX4 10).2.2.1 ∈ gtbl := memI 273 (by decide +kernel) (by decide +kernel)
theorem ml_10_169 : Cond.methodLink RX10 169 yX4_countReissued ∈ gtbl := memI 722 (by decide +kernel) (by decide +kernel)
theorem wv_4_countReissued : WV yX4_countReissued cX4_countReissued 2 (some .int) 1 := ⟨⟨memI 715 (by decide +kernel) (by decide +kernel), memI 76 (by decide +kernel) (by decide +kernel), by decide, by decide +kernel⟩, memI 713 (by decide +kernel) (by decide +kernel), memI 714 (by decide +kernel) (by decide +kernel)⟩
theorem ml_10_172 : Cond.methodLink RX10 172 yX3_has ∈ gtbl := memI 829 (by decide +kernel) (by decide +kernel)
theorem wv_3_has : WV yX3_has cX3_has 2 (some .boolean) 1 := ⟨⟨memI 748 (by decide +kernel) (by decide +kernel), memI 77 (by decide +kernel) (by decide +kernel), by decide, by decide +kernel⟩, memI 746 (by decide +kernel) (by decide +kernel), memI 747 (by decide +kernel) (by decide +kernel)⟩
theorem fl_10_180 : Cond.fieldLink RX10 180 (TX3 0).1 (TX3 0).2.1 (TX3 0).2.2.1 ∈ gtbl := memI 314 (by decide +kernel) (by decide +kernel)
theorem fl_10_183 : Cond.fieldLink RX10 183 (TX3 1).1 (TX3 1).2.1 (TX3 1).2.2.1 ∈ gtbl := memI 317 (by decide +kernel) (by decide +kernel)
theorem fl_10_184 : Cond.fieldLink RX10 184 (TX3 2).1 (TX3 2).2.1 (TX3 2).2.2.1 ∈ gtbl := memI 320 (by decide +kernel) (by decide +kernel)
theorem fl_10_187 : Cond.fieldLink RX10 187 (TX3 3).1 (TX3 3).2.1 (TX3 3).2.2.1 ∈ gtbl := memI 323 (by decide +kernel) (by decide +kernel)
theorem fl_10_190 : Cond.fieldLink RX10 190 (TX3 4).1 (TX3 4).2.1 (TX3 4).2.2.1 ∈ gtbl := memI 326 (by decide +kernel) (by decide +kernel)
theorem ml_10_195 : Cond.methodLink RX10 195 yX9_has ∈ gtbl := memI 727 (by decide +kernel) (by decide +kernel)
theorem wv_9_has : WV yX9_has cX9_has 2 (some .boolean) 1 := ⟨⟨memI 730 (by decide +kernel) (by decide +kernel), memI 78 (by decide +kernel) (by decide +kernel), by decide, by decide +kernel⟩, memI 728 (by decide +kernel) (by decide +kernel), memI 729 (by decide +kernel) (by decide +kernel)⟩
theorem fl_10_196 : Cond.fieldLink RX10 196 (TX9 0).1 (TX9 0).2.1 (TX9 0).2.2.1 ∈ gtbl := memI 352 (by decide +kernel) (by decide +kernel)
theorem fl_10_199 : Cond.fieldLink RX10 199 (TX9 1).1 (TX9 1).2.1 (TX9 1).2.2.1 ∈ gtbl := memI 354 (by decide +kernel) (by decide +kernel)
theorem fl_10_202 : Cond.fieldLink RX10 202 (TX9 4).1 (TX9 4).2.1 (TX9 4).2.2.1 ∈ gtbl := memI 361 (by decide +kernel) (by decide +kernel)
theorem fl_10_205 : Cond.fieldLink RX10 205 (TX9 5).1 (TX9 5).2.1 (TX9 5).2.2.1 ∈ gtbl := memI 364 (by decide +kernel) (by decide +kernel)
theorem fl_10_208 : Cond.fieldLink RX10 208 (TX9 6).1 (TX9 6).2.1 (TX9 6).2.2.1 ∈ gtbl := memI 367 (by decide +kernel) (by decide +kernel)
theorem fl_10_211 : Cond.fieldLink RX10 211 (TX9 7).1 (TX9 7).2.1 (TX9 7).2.2.1 ∈ gtbl := memI 370 (by decide +kernel) (by decide +kernel)
theorem fl_10_214 : Cond.fieldLink RX10 214 (TX9 8).1 (TX9 8).2.1 (TX9 8).2.2.1 ∈ gtbl := memI 373 (by decide +kernel) (by decide +kernel)
theorem ml_10_217 : Cond.methodLink RX10 217 yX9_landOf ∈ gtbl := memI 731 (by decide +kernel) (by decide +kernel)
theorem wv_9_landOf : WV yX9_landOf cX9_landOf 5 (some .int) 2 := ⟨⟨memI 734 (by decide +kernel) (by decide +kernel), memI 78 (by decide +kernel) (by decide +kernel), by decide, by decide +kernel⟩, memI 732 (by decide +kernel) (by decide +kernel), memI 733 (by decide +kernel) (by decide +kernel)⟩
theorem ml_10_221 : Cond.methodLink RX10 221 yX1_suits ∈ gtbl := memI 739 (by decide +kernel) (by decide +kernel)
theorem wv_1_suits : WV yX1_suits cX1_suits 5 (some .boolean) 2 := ⟨⟨memI 742 (by decide +kernel) (by decide +kernel), memI 74 (by decide +kernel) (by decide +kernel), by decide, by decide +kernel⟩, memI 740 (by decide +kernel) (by decide +kernel), memI 741 (by decide +kernel) (by decide +kernel)⟩
theorem fl_10_33 : Cond.fieldLink RX10 33 (TX10 2).1 (TX10 2).2.1 (TX10 2).2.2.1 ∈ gtbl := memI 458 (by decide +kernel) (by decide +kernel)
theorem ml_10_225 : Cond.methodLink RX10 225 yX5_setUp ∈ gtbl := memI 761 (by decide +kernel) (by decide +kernel)
theorem wv_5_setUp : WV yX5_setUp cX5_setUp 5 none 1 := ⟨⟨memI 764 (by decide +kernel) (by decide +kernel), memI 73 (by decide +kernel) (by decide +kernel), by decide, by decide +kernel⟩, memI 762 (by decide +kernel) (by decide +kernel), memI 763 (by decide +kernel) (by decide +kernel)⟩
theorem ml_10_229 : Cond.methodLink RX10 229 yX5_solve ∈ gtbl := memI 777 (by decide +kernel) (by decide +kernel)
theorem wv_5_solve : WV yX5_solve cX5_solve 2 none 0 := ⟨⟨memI 780 (by decide +kernel) (by decide +kernel), memI 73 (by decide +kernel) (by decide +kernel), by decide, by decide +kernel⟩, memI 778 (by decide +kernel) (by decide +kernel), memI 779 (by decide +kernel) (by decide +kernel)⟩
theorem fl_10_232 : Cond.fieldLink RX10 232 (TX5 8).1 (TX5 8).2.1 (TX5 8).2.2.1 ∈ gtbl := memI 198 (by decide +kernel) (by decide +kernel)
theorem ml_10_235 : Cond.methodLink RX10 235 yX5_costTogether ∈ gtbl := memI 797 (by decide +kernel) (by decide +kernel)
theorem wv_5_costTogether : WV yX5_costTogether cX5_costTogether 4 (some .int) 1 := ⟨⟨memI 800 (by decide +kernel) (by decide +kernel), memI 73 (by decide +kernel) (by decide +kernel), by decide, by decide +kernel⟩, memI 798 (by decide +kernel) (by decide +kernel), memI 799 (by decide +kernel) (by decide +kernel)⟩
theorem ml_10_239 : Cond.methodLink RX10 239 yX5_typeFor ∈ gtbl := memI 801 (by decide +kernel) (by decide +kernel)
theorem wv_5_typeFor : WV yX5_typeFor cX5_typeFor 3 (some .int) 1 := ⟨⟨memI 804 (by decide +kernel) (by decide +kernel), memI 73 (by decide +kernel) (by decide +kernel), by decide, by decide +kernel⟩, memI 802 (by decide +kernel) (by decide +kernel), memI 803 (by decide +kernel) (by decide +kernel)⟩
theorem ml_10_242 : Cond.methodLink RX10 242 yX5_addFree ∈ gtbl := memI 809 (by decide +kernel) (by decide +kernel)
theorem wv_5_addFree : WV yX5_addFree cX5_addFree 3 none 2 := ⟨⟨memI 812 (by decide +kernel) (by decide +kernel), memI 73 (by decide +kernel) (by decide +kernel), by decide, by decide +kernel⟩, memI 810 (by decide +kernel) (by decide +kernel), memI 811 (by decide +kernel) (by decide +kernel)⟩
theorem fl_10_246 : Cond.fieldLink RX10 246 (TX5 7).1 (TX5 7).2.1 (TX5 7).2.2.1 ∈ gtbl := memI 196 (by decide +kernel) (by decide +kernel)
theorem ml_10_249 : Cond.methodLink RX10 249 yX2_has ∈ gtbl := memI 822 (by decide +kernel) (by decide +kernel)
theorem wv_2_has : WV yX2_has cX2_has 2 (some .boolean) 1 := ⟨⟨memI 643 (by decide +kernel) (by decide +kernel), memI 75 (by decide +kernel) (by decide +kernel), by decide, by decide +kernel⟩, memI 641 (by decide +kernel) (by decide +kernel), memI 642 (by decide +kernel) (by decide +kernel)⟩
theorem ml_10_250 : Cond.methodLink RX10 250 yX4_isFor ∈ gtbl := memI 823 (by decide +kernel) (by decide +kernel)
theorem wv_4_isFor : WV yX4_isFor cX4_isFor 3 (some .boolean) 2 := ⟨⟨memI 752 (by decide +kernel) (by decide +kernel), memI 76 (by decide +kernel) (by decide +kernel), by decide, by decide +kernel⟩, memI 750 (by decide +kernel) (by decide +kernel), memI 751 (by decide +kernel) (by decide +kernel)⟩
theorem ml_10_253 : Cond.methodLink RX10 253 yX4_suitsEngine ∈ gtbl := memI 824 (by decide +kernel) (by decide +kernel)
theorem wv_4_suitsEngine : WV yX4_suitsEngine cX4_suitsEngine 3 (some .boolean) 2 := ⟨⟨memI 756 (by decide +kernel) (by decide +kernel), memI 76 (by decide +kernel) (by decide +kernel), by decide, by decide +kernel⟩, memI 754 (by decide +kernel) (by decide +kernel), memI 755 (by decide +kernel) (by decide +kernel)⟩
theorem ml_10_256 : Cond.methodLink RX10 256 yX2_shortestRow ∈ gtbl := memI 830 (by decide +kernel) (by decide +kernel)
theorem wv_2_shortestRow : WV yX2_shortestRow cX2_shortestRow 8 (some .int) 3 := ⟨⟨memI 833 (by decide +kernel) (by decide +kernel), memI 75 (by decide +kernel) (by decide +kernel), by decide, by decide +kernel⟩, memI 831 (by decide +kernel) (by decide +kernel), memI 832 (by decide +kernel) (by decide +kernel)⟩
theorem ml_10_260 : Cond.methodLink RX10 260 yX1_judge ∈ gtbl := memI 838 (by decide +kernel) (by decide +kernel)
theorem wv_1_judge : WV yX1_judge cX1_judge 4 (some .int) 2 := ⟨⟨memI 841 (by decide +kernel) (by decide +kernel), memI 74 (by decide +kernel) (by decide +kernel), by decide, by decide +kernel⟩, memI 839 (by decide +kernel) (by decide +kernel), memI 840 (by decide +kernel) (by decide +kernel)⟩
theorem ml_10_263 : Cond.methodLink RX10 263 yX2_bitsOfRow ∈ gtbl := memI 854 (by decide +kernel) (by decide +kernel)
theorem wv_2_bitsOfRow : WV yX2_bitsOfRow cX2_bitsOfRow 9 (some .int) 3 := ⟨⟨memI 857 (by decide +kernel) (by decide +kernel), memI 75 (by decide +kernel) (by decide +kernel), by decide, by decide +kernel⟩, memI 855 (by decide +kernel) (by decide +kernel), memI 856 (by decide +kernel) (by decide +kernel)⟩
theorem ml_10_266 : Cond.methodLink RX10 266 yX9_add ∈ gtbl := memI 858 (by decide +kernel) (by decide +kernel)
theorem wv_9_add : WV yX9_add cX9_add 6 (some .int) 4 := ⟨⟨memI 861 (by decide +kernel) (by decide +kernel), memI 78 (by decide +kernel) (by decide +kernel), by decide, by decide +kernel⟩, memI 859 (by decide +kernel) (by decide +kernel), memI 860 (by decide +kernel) (by decide +kernel)⟩
theorem ml_10_270 : Cond.methodLink RX10 270 yX0_keep ∈ gtbl := memI 862 (by decide +kernel) (by decide +kernel)
theorem wv_0_keep : WV yX0_keep cX0_keep 4 none 3 := ⟨⟨memI 865 (by decide +kernel) (by decide +kernel), memI 79 (by decide +kernel) (by decide +kernel), by decide, by decide +kernel⟩, memI 863 (by decide +kernel) (by decide +kernel), memI 864 (by decide +kernel) (by decide +kernel)⟩
theorem ml_10_274 : Cond.methodLink RX10 274 yX1_finish ∈ gtbl := memI 871 (by decide +kernel) (by decide +kernel)
theorem wv_1_finish : WV yX1_finish cX1_finish 4 none 1 := ⟨⟨memI 874 (by decide +kernel) (by decide +kernel), memI 74 (by decide +kernel) (by decide +kernel), by decide, by decide +kernel⟩, memI 872 (by decide +kernel) (by decide +kernel), memI 873 (by decide +kernel) (by decide +kernel)⟩
theorem fl_10_277 : Cond.fieldLink RX10 277 (TX5 0).1 (TX5 0).2.1 (TX5 0).2.2.1 ∈ gtbl := memI 187 (by decide +kernel) (by decide +kernel)
theorem fl_10_279 : Cond.fieldLink RX10 279 (TX5 4).1 (TX5 4).2.1 (TX5 4).2.2.1 ∈ gtbl := memI 192 (by decide +kernel) (by decide +kernel)
theorem ml_10_282 : Cond.methodLink RX10 282 yX1_sendOut ∈ gtbl := memI 884 (by decide +kernel) (by decide +kernel)
theorem wv_1_sendOut : WV yX1_sendOut cX1_sendOut 3 (some .int) 2 := ⟨⟨memI 887 (by decide +kernel) (by decide +kernel), memI 74 (by decide +kernel) (by decide +kernel), by decide, by decide +kernel⟩, memI 885 (by decide +kernel) (by decide +kernel), memI 886 (by decide +kernel) (by decide +kernel)⟩
theorem ml_10_285 : Cond.methodLink RX10 285 yX1_isOut ∈ gtbl := memI 1019 (by decide +kernel) (by decide +kernel)
theorem wv_1_isOut : WV yX1_isOut cX1_isOut 3 (some .boolean) 1 := ⟨⟨memI 845 (by decide +kernel) (by decide +kernel), memI 74 (by decide +kernel) (by decide +kernel), by decide, by decide +kernel⟩, memI 843 (by decide +kernel) (by decide +kernel), memI 844 (by decide +kernel) (by decide +kernel)⟩
theorem ml_10_290 : Cond.methodLink RX10 290 yX4_moveBack ∈ gtbl := memI 896 (by decide +kernel) (by decide +kernel)
theorem wv_4_moveBack : WV yX4_moveBack cX4_moveBack 3 none 2 := ⟨⟨memI 899 (by decide +kernel) (by decide +kernel), memI 76 (by decide +kernel) (by decide +kernel), by decide, by decide +kernel⟩, memI 897 (by decide +kernel) (by decide +kernel), memI 898 (by decide +kernel) (by decide +kernel)⟩
theorem ml_10_293 : Cond.methodLink RX10 293 yX0_takeLatest ∈ gtbl := memI 908 (by decide +kernel) (by decide +kernel)
theorem wv_0_takeLatest : WV yX0_takeLatest cX0_takeLatest 1 (some .int) 0 := ⟨⟨memI 911 (by decide +kernel) (by decide +kernel), memI 79 (by decide +kernel) (by decide +kernel), by decide, by decide +kernel⟩, memI 909 (by decide +kernel) (by decide +kernel), memI 910 (by decide +kernel) (by decide +kernel)⟩
theorem fl_10_296 : Cond.fieldLink RX10 296 (TX0 0).1 (TX0 0).2.1 (TX0 0).2.2.1 ∈ gtbl := memI 406 (by decide +kernel) (by decide +kernel)
theorem fl_10_297 : Cond.fieldLink RX10 297 (TX0 1).1 (TX0 1).2.1 (TX0 1).2.2.1 ∈ gtbl := memI 408 (by decide +kernel) (by decide +kernel)
theorem fl_10_300 : Cond.fieldLink RX10 300 (TX0 2).1 (TX0 2).2.1 (TX0 2).2.2.1 ∈ gtbl := memI 410 (by decide +kernel) (by decide +kernel)
theorem ml_10_303 : Cond.methodLink RX10 303 yX1_takeBack ∈ gtbl := memI 913 (by decide +kernel) (by decide +kernel)
theorem wv_1_takeBack : WV yX1_takeBack cX1_takeBack 4 none 3 := ⟨⟨memI 916 (by decide +kernel) (by decide +kernel), memI 74 (by decide +kernel) (by decide +kernel), by decide, by decide +kernel⟩, memI 914 (by decide +kernel) (by decide +kernel), memI 915 (by decide +kernel) (by decide +kernel)⟩
theorem fl_11_1 : Cond.fieldLink RX11 1 (TX11 0).1 (TX11 0).2.1 (TX11 0).2.2.1 ∈ gtbl := memI 1043 (by decide +kernel) (by decide +kernel)
theorem fl_11_7 : Cond.fieldLink RX11 7 (TX11 1).1 (TX11 1).2.1 (TX11 1).2.2.1 ∈ gtbl := memI 1044 (by decide +kernel) (by decide +kernel)
theorem fl_11_11 : Cond.fieldLink RX11 11 (TX11 2).1 (TX11 2).2.1 (TX11 2).2.2.1 ∈ gtbl := memI 1045 (by decide +kernel) (by decide +kernel)
theorem ml_11_14 : Cond.methodLink RX11 14 yX11_lays ∈ gtbl := memI 1029 (by decide +kernel) (by decide +kernel)
theorem wv_11_lays : WV yX11_lays cX11_lays 3 none 1 := ⟨⟨memI 1033 (by decide +kernel) (by decide +kernel), memI 80 (by decide +kernel) (by decide +kernel), by decide, by decide +kernel⟩, memI 1031 (by decide +kernel) (by decide +kernel), memI 23 (by decide +kernel) (by decide +kernel)⟩
theorem fl_11_18 : Cond.fieldLink RX11 18 (TX11 3).1 (TX11 3).2.1 (TX11 3).2.2.1 ∈ gtbl := memI 1046 (by decide +kernel) (by decide +kernel)
theorem fl_11_21 : Cond.fieldLink RX11 21 (TX11 4).1 (TX11 4).2.1 (TX11 4).2.2.1 ∈ gtbl := memI 1047 (by decide +kernel) (by decide +kernel)
theorem fl_11_24 : Cond.fieldLink RX11 24 (TX11 5).1 (TX11 5).2.1 (TX11 5).2.2.1 ∈ gtbl := memI 1048 (by decide +kernel) (by decide +kernel)
theorem fl_11_27 : Cond.fieldLink RX11 27 (TX11 6).1 (TX11 6).2.1 (TX11 6).2.2.1 ∈ gtbl := memI 1049 (by decide +kernel) (by decide +kernel)
theorem ml_11_30 : Cond.methodLink RX11 30 yX11_isLetter ∈ gtbl := memI 1128 (by decide +kernel) (by decide +kernel)
theorem ws_11_isLetter : WS yX11_isLetter cX11_isLetter 1 (some .boolean) 1 := ⟨⟨memI 1130 (by decide +kernel) (by decide +kernel), memI 80 (by decide +kernel) (by decide +kernel), by decide, by decide +kernel⟩, memI 1129 (by decide +kernel) (by decide +kernel)⟩
theorem ml_11_34 : Cond.methodLink RX11 34 yX11_isDigit ∈ gtbl := memI 1131 (by decide +kernel) (by decide +kernel)
theorem ws_11_isDigit : WS yX11_isDigit cX11_isDigit 1 (some .boolean) 1 := ⟨⟨memI 1133 (by decide +kernel) (by decide +kernel), memI 80 (by decide +kernel) (by decide +kernel), by decide, by decide +kernel⟩, memI 1132 (by decide +kernel) (by decide +kernel)⟩
theorem fl_11_37 : Cond.fieldLink RX11 37 (TX11 10).1 (TX11 10).2.1 (TX11 10).2.2.1 ∈ gtbl := memI 1053 (by decide +kernel) (by decide +kernel)
theorem fl_11_41 : Cond.fieldLink RX11 41 (TX11 7).1 (TX11 7).2.1 (TX11 7).2.2.1 ∈ gtbl := memI 1050 (by decide +kernel) (by decide +kernel)
theorem ml_11_44 : Cond.methodLink RX11 44 yX11_tapeAt ∈ gtbl := memI 1134 (by decide +kernel) (by decide +kernel)
theorem wv_11_tapeAt : WV yX11_tapeAt cX11_tapeAt 2 (some .int) 1 := ⟨⟨memI 1137 (by decide +kernel) (by decide +kernel), memI 80 (by decide +kernel) (by decide +kernel), by decide, by decide +kernel⟩, memI 1136 (by decide +kernel) (by decide +kernel), memI 25 (by decide +kernel) (by decide +kernel)⟩
theorem kl_11_48 : Cond.constantLong RX11 48 27 ∈ gtbl := memI 1138 (by decide +kernel) (by decide +kernel)
theorem kl_11_50 : Cond.constantLong RX11 50 96 ∈ gtbl := memI 1139 (by decide +kernel) (by decide +kernel)
theorem ml_11_52 : Cond.methodLink RX11 52 yX11_four ∈ gtbl := memI 1151 (by decide +kernel) (by decide +kernel)
theorem ws_11_four : WS yX11_four cX11_four 4 (some .long) 4 := ⟨⟨memI 1153 (by decide +kernel) (by decide +kernel), memI 80 (by decide +kernel) (by decide +kernel), by decide, by decide +kernel⟩, memI 1152 (by decide +kernel) (by decide +kernel)⟩
theorem ml_11_56 : Cond.methodLink RX11 56 yX11_five ∈ gtbl := memI 1148 (by decide +kernel) (by decide +kernel)
theorem ws_11_five : WS yX11_five cX11_five 5 (some .long) 5 := ⟨⟨memI 1150 (by decide +kernel) (by decide +kernel), memI 80 (by decide +kernel) (by decide +kernel), by decide, by decide +kernel⟩, memI 1149 (by decide +kernel) (by decide +kernel)⟩
theorem fl_11_60 : Cond.fieldLink RX11 60 (TX11 8).1 (TX11 8).2.1 (TX11 8).2.2.1 ∈ gtbl := memI 1051 (by decide +kernel) (by decide +kernel)
theorem fl_11_63 : Cond.fieldLink RX11 63 (TX11 9).1 (TX11 9).2.1 (TX11 9).2.2.1 ∈ gtbl := memI 1052 (by decide +kernel) (by decide +kernel)
theorem ml_11_103 : Cond.methodLink RX11 103 yX11_bad ∈ gtbl := memI 1158 (by decide +kernel) (by decide +kernel)
theorem wv_11_bad : WV yX11_bad cX11_bad 2 (some .boolean) 1 := ⟨⟨memI 1161 (by decide +kernel) (by decide +kernel), memI 80 (by decide +kernel) (by decide +kernel), by decide, by decide +kernel⟩, memI 1160 (by decide +kernel) (by decide +kernel), memI 29 (by decide +kernel) (by decide +kernel)⟩
theorem ml_11_106 : Cond.methodLink RX11 106 yX11_isIn ∈ gtbl := memI 1166 (by decide +kernel) (by decide +kernel)
theorem ws_11_isIn : WS yX11_isIn cX11_isIn 3 (some .boolean) 3 := ⟨⟨memI 1168 (by decide +kernel) (by decide +kernel), memI 80 (by decide +kernel) (by decide +kernel), by decide, by decide +kernel⟩, memI 1167 (by decide +kernel) (by decide +kernel)⟩
theorem fl_11_75 : Cond.fieldLink RX11 75 (TX11 12).1 (TX11 12).2.1 (TX11 12).2.2.1 ∈ gtbl := memI 1055 (by decide +kernel) (by decide +kernel)
theorem ml_11_110 : Cond.methodLink RX11 110 yX11_go ∈ gtbl := memI 1124 (by decide +kernel) (by decide +kernel)
theorem wv_11_go : WV yX11_go cX11_go 5 none 0 := ⟨⟨memI 1127 (by decide +kernel) (by decide +kernel), memI 80 (by decide +kernel) (by decide +kernel), by decide, by decide +kernel⟩, memI 1126 (by decide +kernel) (by decide +kernel), memI 24 (by decide +kernel) (by decide +kernel)⟩
theorem ml_11_113 : Cond.methodLink RX11 113 yX11_has ∈ gtbl := memI 1180 (by decide +kernel) (by decide +kernel)
theorem ws_11_has : WS yX11_has cX11_has 2 (some .boolean) 2 := ⟨⟨memI 1182 (by decide +kernel) (by decide +kernel), memI 80 (by decide +kernel) (by decide +kernel), by decide, by decide +kernel⟩, memI 1181 (by decide +kernel) (by decide +kernel)⟩
theorem fl_11_117 : Cond.fieldLink RX11 117 (TX11 15).1 (TX11 15).2.1 (TX11 15).2.2.1 ∈ gtbl := memI 1058 (by decide +kernel) (by decide +kernel)
theorem ml_11_120 : Cond.methodLink RX11 120 yX11_isWord ∈ gtbl := memI 1154 (by decide +kernel) (by decide +kernel)
theorem wv_11_isWord : WV yX11_isWord cX11_isWord 3 (some .boolean) 1 := ⟨⟨memI 1157 (by decide +kernel) (by decide +kernel), memI 80 (by decide +kernel) (by decide +kernel), by decide, by decide +kernel⟩, memI 1156 (by decide +kernel) (by decide +kernel), memI 28 (by decide +kernel) (by decide +kernel)⟩
theorem ml_11_124 : Cond.methodLink RX11 124 yX11_told ∈ gtbl := memI 1162 (by decide +kernel) (by decide +kernel)
theorem wv_11_told : WV yX11_told cX11_told 4 (some .boolean) 3 := ⟨⟨memI 1165 (by decide +kernel) (by decide +kernel), memI 80 (by decide +kernel) (by decide +kernel), by decide, by decide +kernel⟩, memI 1164 (by decide +kernel) (by decide +kernel), memI 30 (by decide +kernel) (by decide +kernel)⟩
theorem ml_11_127 : Cond.methodLink RX11 127 yX11_land ∈ gtbl := memI 1176 (by decide +kernel) (by decide +kernel)
theorem wv_11_land : WV yX11_land cX11_land 2 (some .boolean) 1 := ⟨⟨memI 1179 (by decide +kernel) (by decide +kernel), memI 80 (by decide +kernel) (by decide +kernel), by decide, by decide +kernel⟩, memI 1178 (by decide +kernel) (by decide +kernel), memI 32 (by decide +kernel) (by decide +kernel)⟩
theorem ml_11_130 : Cond.methodLink RX11 130 yX11_six ∈ gtbl := memI 1169 (by decide +kernel) (by decide +kernel)
theorem ws_11_six : WS yX11_six cX11_six 6 (some .long) 6 := ⟨⟨memI 1171 (by decide +kernel) (by decide +kernel), memI 80 (by decide +kernel) (by decide +kernel), by decide, by decide +kernel⟩, memI 1170 (by decide +kernel) (by decide +kernel)⟩
theorem ml_11_134 : Cond.methodLink RX11 134 yX11_readKind ∈ gtbl := memI 1187 (by decide +kernel) (by decide +kernel)
theorem wv_11_readKind : WV yX11_readKind cX11_readKind 4 (some .boolean) 1 := ⟨⟨memI 1190 (by decide +kernel) (by decide +kernel), memI 80 (by decide +kernel) (by decide +kernel), by decide, by decide +kernel⟩, memI 1189 (by decide +kernel) (by decide +kernel), memI 34 (by decide +kernel) (by decide +kernel)⟩
theorem ml_11_137 : Cond.methodLink RX11 137 yX11_readLands ∈ gtbl := memI 1144 (by decide +kernel) (by decide +kernel)
theorem wv_11_readLands : WV yX11_readLands cX11_readLands 1 (some .boolean) 0 := ⟨⟨memI 1147 (by decide +kernel) (by decide +kernel), memI 80 (by decide +kernel) (by decide +kernel), by decide, by decide +kernel⟩, memI 1146 (by decide +kernel) (by decide +kernel), memI 27 (by decide +kernel) (by decide +kernel)⟩
theorem ml_11_141 : Cond.methodLink RX11 141 yX11_readBorder ∈ gtbl := memI 1172 (by decide +kernel) (by decide +kernel)
theorem wv_11_readBorder : WV yX11_readBorder cX11_readBorder 2 (some .boolean) 0 := ⟨⟨memI 1175 (by decide +kernel) (by decide +kernel), memI 80 (by decide +kernel) (by decide +kernel), by decide, by decide +kernel⟩, memI 1174 (by decide +kernel) (by decide +kernel), memI 31 (by decide +kernel) (by decide +kernel)⟩
theorem ml_11_144 : Cond.methodLink RX11 144 yX11_readType ∈ gtbl := memI 1183 (by decide +kernel) (by decide +kernel)
theorem wv_11_readType : WV yX11_readType cX11_readType 2 (some .boolean) 0 := ⟨⟨memI 1186 (by decide +kernel) (by decide +kernel), memI 80 (by decide +kernel) (by decide +kernel), by decide, by decide +kernel⟩, memI 1185 (by decide +kernel) (by decide +kernel), memI 33 (by decide +kernel) (by decide +kernel)⟩
theorem ml_11_147 : Cond.methodLink RX11 147 yX11_readLorry ∈ gtbl := memI 1191 (by decide +kernel) (by decide +kernel)
theorem wv_11_readLorry : WV yX11_readLorry cX11_readLorry 2 (some .boolean) 0 := ⟨⟨memI 1194 (by decide +kernel) (by decide +kernel), memI 80 (by decide +kernel) (by decide +kernel), by decide, by decide +kernel⟩, memI 1193 (by decide +kernel) (by decide +kernel), memI 35 (by decide +kernel) (by decide +kernel)⟩
theorem ml_11_150 : Cond.methodLink RX11 150 yX11_readLine ∈ gtbl := memI 1140 (by decide +kernel) (by decide +kernel)
theorem wv_11_readLine : WV yX11_readLine cX11_readLine 2 (some .boolean) 1 := ⟨⟨memI 1143 (by decide +kernel) (by decide +kernel), memI 80 (by decide +kernel) (by decide +kernel), by decide, by decide +kernel⟩, memI 1142 (by decide +kernel) (by decide +kernel), memI 26 (by decide +kernel) (by decide +kernel)⟩
theorem ml_11_154 : Cond.methodLink RX11 154 yX11_readEnd ∈ gtbl := memI 1195 (by decide +kernel) (by decide +kernel)
theorem wv_11_readEnd : WV yX11_readEnd cX11_readEnd 1 (some .boolean) 0 := ⟨⟨memI 1198 (by decide +kernel) (by decide +kernel), memI 80 (by decide +kernel) (by decide +kernel), by decide, by decide +kernel⟩, memI 1197 (by decide +kernel) (by decide +kernel), memI 36 (by decide +kernel) (by decide +kernel)⟩
theorem fl_11_72 : Cond.fieldLink RX11 72 (TX11 11).1 (TX11 11).2.1 (TX11 11).2.2.1 ∈ gtbl := memI 1054 (by decide +kernel) (by decide +kernel)
theorem fl_11_157 : Cond.fieldLink RX11 157 (TX11 14).1 (TX11 14).2.1 (TX11 14).2.2.1 ∈ gtbl := memI 1057 (by decide +kernel) (by decide +kernel)
theorem ml_11_160 : Cond.methodLink RX11 160 yX11_its ∈ gtbl := memI 1211 (by decide +kernel) (by decide +kernel)
theorem wv_11_its : WV yX11_its cX11_its 3 (some .int) 2 := ⟨⟨memI 1214 (by decide +kernel) (by decide +kernel), memI 80 (by decide +kernel) (by decide +kernel), by decide, by decide +kernel⟩, memI 1213 (by decide +kernel) (by decide +kernel), memI 38 (by decide +kernel) (by decide +kernel)⟩
theorem ml_11_164 : Cond.methodLink RX11 164 yX11_outBy ∈ gtbl := memI 1251 (by decide +kernel) (by decide +kernel)
theorem wv_11_outBy : WV yX11_outBy cX11_outBy 4 (some .int) 1 := ⟨⟨memI 1254 (by decide +kernel) (by decide +kernel), memI 80 (by decide +kernel) (by decide +kernel), by decide, by decide +kernel⟩, memI 1253 (by decide +kernel) (by decide +kernel), memI 47 (by decide +kernel) (by decide +kernel)⟩
theorem ml_11_167 : Cond.methodLink RX11 167 yX11_typed ∈ gtbl := memI 1235 (by decide +kernel) (by decide +kernel)
theorem wv_11_typed : WV yX11_typed cX11_typed 3 (some .int) 2 := ⟨⟨memI 1238 (by decide +kernel) (by decide +kernel), memI 80 (by decide +kernel) (by decide +kernel), by decide, by decide +kernel⟩, memI 1237 (by decide +kernel) (by decide +kernel), memI 43 (by decide +kernel) (by decide +kernel)⟩
theorem ml_11_170 : Cond.methodLink RX11 170 yX11_piecesOut ∈ gtbl := memI 1247 (by decide +kernel) (by decide +kernel)
theorem wv_11_piecesOut : WV yX11_piecesOut cX11_piecesOut 2 (some .int) 1 := ⟨⟨memI 1250 (by decide +kernel) (by decide +kernel), memI 80 (by decide +kernel) (by decide +kernel), by decide, by decide +kernel⟩, memI 1249 (by decide +kernel) (by decide +kernel), memI 46 (by decide +kernel) (by decide +kernel)⟩
theorem ml_11_173 : Cond.methodLink RX11 173 yX11_piecesIn ∈ gtbl := memI 1243 (by decide +kernel) (by decide +kernel)
theorem wv_11_piecesIn : WV yX11_piecesIn cX11_piecesIn 2 (some .int) 1 := ⟨⟨memI 1246 (by decide +kernel) (by decide +kernel), memI 80 (by decide +kernel) (by decide +kernel), by decide, by decide +kernel⟩, memI 1245 (by decide +kernel) (by decide +kernel), memI 45 (by decide +kernel) (by decide +kernel)⟩
theorem ml_11_176 : Cond.methodLink RX11 176 yX11_lorryOf ∈ gtbl := memI 1223 (by decide +kernel) (by decide +kernel)
theorem wv_11_lorryOf : WV yX11_lorryOf cX11_lorryOf 3 (some .int) 2 := ⟨⟨memI 1226 (by decide +kernel) (by decide +kernel), memI 80 (by decide +kernel) (by decide +kernel), by decide, by decide +kernel⟩, memI 1225 (by decide +kernel) (by decide +kernel), memI 41 (by decide +kernel) (by decide +kernel)⟩
theorem ml_11_179 : Cond.methodLink RX11 179 yX11_having ∈ gtbl := memI 1207 (by decide +kernel) (by decide +kernel)
theorem wv_11_having : WV yX11_having cX11_having 4 (some .int) 1 := ⟨⟨memI 1210 (by decide +kernel) (by decide +kernel), memI 80 (by decide +kernel) (by decide +kernel), by decide, by decide +kernel⟩, memI 1209 (by decide +kernel) (by decide +kernel), memI 37 (by decide +kernel) (by decide +kernel)⟩
theorem ml_11_182 : Cond.methodLink RX11 182 yX11_borders ∈ gtbl := memI 1215 (by decide +kernel) (by decide +kernel)
theorem wv_11_borders : WV yX11_borders cX11_borders 4 (some .int) 0 := ⟨⟨memI 1218 (by decide +kernel) (by decide +kernel), memI 80 (by decide +kernel) (by decide +kernel), by decide, by decide +kernel⟩, memI 1217 (by decide +kernel) (by decide +kernel), memI 39 (by decide +kernel) (by decide +kernel)⟩
theorem ml_11_186 : Cond.methodLink RX11 186 yX11_misuses ∈ gtbl := memI 1219 (by decide +kernel) (by decide +kernel)
theorem wv_11_misuses : WV yX11_misuses cX11_misuses 3 (some .int) 0 := ⟨⟨memI 1222 (by decide +kernel) (by decide +kernel), memI 80 (by decide +kernel) (by decide +kernel), by decide, by decide +kernel⟩, memI 1221 (by decide +kernel) (by decide +kernel), memI 40 (by decide +kernel) (by decide +kernel)⟩
theorem ml_11_189 : Cond.methodLink RX11 189 yX11_isType ∈ gtbl := memI 1231 (by decide +kernel) (by decide +kernel)
theorem wv_11_isType : WV yX11_isType cX11_isType 2 (some .boolean) 1 := ⟨⟨memI 1234 (by decide +kernel) (by decide +kernel), memI 80 (by decide +kernel) (by decide +kernel), by decide, by decide +kernel⟩, memI 1233 (by decide +kernel) (by decide +kernel), memI 42 (by decide +kernel) (by decide +kernel)⟩
theorem ml_11_192 : Cond.methodLink RX11 192 yX11_freeOf ∈ gtbl := memI 1239 (by decide +kernel) (by decide +kernel)
theorem wv_11_freeOf : WV yX11_freeOf cX11_freeOf 2 (some .int) 1 := ⟨⟨memI 1242 (by decide +kernel) (by decide +kernel), memI 80 (by decide +kernel) (by decide +kernel), by decide, by decide +kernel⟩, memI 1241 (by decide +kernel) (by decide +kernel), memI 44 (by decide +kernel) (by decide +kernel)⟩
theorem ml_11_195 : Cond.methodLink RX11 195 yX11_isLorry ∈ gtbl := memI 1263 (by decide +kernel) (by decide +kernel)
theorem wv_11_isLorry : WV yX11_isLorry cX11_isLorry 2 (some .boolean) 1 := ⟨⟨memI 1266 (by decide +kernel) (by decide +kernel), memI 80 (by decide +kernel) (by decide +kernel), by decide, by decide +kernel⟩, memI 1265 (by decide +kernel) (by decide +kernel), memI 48 (by decide +kernel) (by decide +kernel)⟩
theorem ml_11_198 : Cond.methodLink RX11 198 yX11_refuse ∈ gtbl := memI 1267 (by decide +kernel) (by decide +kernel)
theorem wv_11_refuse : WV yX11_refuse cX11_refuse 1 (some .int) 0 := ⟨⟨memI 1270 (by decide +kernel) (by decide +kernel), memI 80 (by decide +kernel) (by decide +kernel), by decide, by decide +kernel⟩, memI 1269 (by decide +kernel) (by decide +kernel), memI 49 (by decide +kernel) (by decide +kernel)⟩
theorem ml_11_201 : Cond.methodLink RX11 201 yX11_tripOf ∈ gtbl := memI 1271 (by decide +kernel) (by decide +kernel)
theorem wv_11_tripOf : WV yX11_tripOf cX11_tripOf 3 (some .int) 1 := ⟨⟨memI 1274 (by decide +kernel) (by decide +kernel), memI 80 (by decide +kernel) (by decide +kernel), by decide, by decide +kernel⟩, memI 1273 (by decide +kernel) (by decide +kernel), memI 50 (by decide +kernel) (by decide +kernel)⟩
theorem ml_11_204 : Cond.methodLink RX11 204 yX11_doneBy ∈ gtbl := memI 1275 (by decide +kernel) (by decide +kernel)
theorem wv_11_doneBy : WV yX11_doneBy cX11_doneBy 4 (some .int) 1 := ⟨⟨memI 1278 (by decide +kernel) (by decide +kernel), memI 80 (by decide +kernel) (by decide +kernel), by decide, by decide +kernel⟩, memI 1277 (by decide +kernel) (by decide +kernel), memI 51 (by decide +kernel) (by decide +kernel)⟩
theorem ml_11_207 : Cond.methodLink RX11 207 yX11_isTrip ∈ gtbl := memI 1283 (by decide +kernel) (by decide +kernel)
theorem wv_11_isTrip : WV yX11_isTrip cX11_isTrip 2 (some .boolean) 1 := ⟨⟨memI 1286 (by decide +kernel) (by decide +kernel), memI 80 (by decide +kernel) (by decide +kernel), by decide, by decide +kernel⟩, memI 1285 (by decide +kernel) (by decide +kernel), memI 52 (by decide +kernel) (by decide +kernel)⟩
theorem ml_11_210 : Cond.methodLink RX11 210 yX11_wayOf ∈ gtbl := memI 1295 (by decide +kernel) (by decide +kernel)
theorem wv_11_wayOf : WV yX11_wayOf cX11_wayOf 4 (some .int) 1 := ⟨⟨memI 1298 (by decide +kernel) (by decide +kernel), memI 80 (by decide +kernel) (by decide +kernel), by decide, by decide +kernel⟩, memI 1297 (by decide +kernel) (by decide +kernel), memI 54 (by decide +kernel) (by decide +kernel)⟩
theorem ml_11_213 : Cond.methodLink RX11 213 yX11_isFit ∈ gtbl := memI 1291 (by decide +kernel) (by decide +kernel)
theorem wv_11_isFit : WV yX11_isFit cX11_isFit 4 (some .boolean) 2 := ⟨⟨memI 1294 (by decide +kernel) (by decide +kernel), memI 80 (by decide +kernel) (by decide +kernel), by decide, by decide +kernel⟩, memI 1293 (by decide +kernel) (by decide +kernel), memI 53 (by decide +kernel) (by decide +kernel)⟩
theorem fl_11_81 : Cond.fieldLink RX11 81 (TX11 16).1 (TX11 16).2.1 (TX11 16).2.2.1 ∈ gtbl := memI 1059 (by decide +kernel) (by decide +kernel)
theorem fl_11_96 : Cond.fieldLink RX11 96 (TX11 21).1 (TX11 21).2.1 (TX11 21).2.2.1 ∈ gtbl := memI 1064 (by decide +kernel) (by decide +kernel)
theorem fl_11_90 : Cond.fieldLink RX11 90 (TX11 19).1 (TX11 19).2.1 (TX11 19).2.2.1 ∈ gtbl := memI 1062 (by decide +kernel) (by decide +kernel)
theorem ml_11_216 : Cond.methodLink RX11 216 yX11_isOpen ∈ gtbl := memI 1319 (by decide +kernel) (by decide +kernel)
theorem wv_11_isOpen : WV yX11_isOpen cX11_isOpen 2 (some .boolean) 1 := ⟨⟨memI 1322 (by decide +kernel) (by decide +kernel), memI 80 (by decide +kernel) (by decide +kernel), by decide, by decide +kernel⟩, memI 1321 (by decide +kernel) (by decide +kernel), memI 59 (by decide +kernel) (by decide +kernel)⟩
theorem fl_11_87 : Cond.fieldLink RX11 87 (TX11 18).1 (TX11 18).2.1 (TX11 18).2.2.1 ∈ gtbl := memI 1061 (by decide +kernel) (by decide +kernel)
theorem ml_11_219 : Cond.methodLink RX11 219 yX11_reaches ∈ gtbl := memI 1327 (by decide +kernel) (by decide +kernel)
theorem wv_11_reaches : WV yX11_reaches cX11_reaches 5 (some .int) 2 := ⟨⟨memI 1330 (by decide +kernel) (by decide +kernel), memI 80 (by decide +kernel) (by decide +kernel), by decide, by decide +kernel⟩, memI 1329 (by decide +kernel) (by decide +kernel), memI 61 (by decide +kernel) (by decide +kernel)⟩
theorem fl_11_93 : Cond.fieldLink RX11 93 (TX11 20).1 (TX11 20).2.1 (TX11 20).2.2.1 ∈ gtbl := memI 1063 (by decide +kernel) (by decide +kernel)
theorem fl_11_84 : Cond.fieldLink RX11 84 (TX11 17).1 (TX11 17).2.1 (TX11 17).2.2.1 ∈ gtbl := memI 1060 (by decide +kernel) (by decide +kernel)
theorem ml_11_222 : Cond.methodLink RX11 222 yX11_finds ∈ gtbl := memI 1323 (by decide +kernel) (by decide +kernel)
theorem wv_11_finds : WV yX11_finds cX11_finds 6 (some .int) 0 := ⟨⟨memI 1326 (by decide +kernel) (by decide +kernel), memI 80 (by decide +kernel) (by decide +kernel), by decide, by decide +kernel⟩, memI 1325 (by decide +kernel) (by decide +kernel), memI 60 (by decide +kernel) (by decide +kernel)⟩
theorem fl_11_225 : Cond.fieldLink RX11 225 (TX11 22).1 (TX11 22).2.1 (TX11 22).2.2.1 ∈ gtbl := memI 1065 (by decide +kernel) (by decide +kernel)
theorem fl_11_228 : Cond.fieldLink RX11 228 (TX11 23).1 (TX11 23).2.1 (TX11 23).2.2.1 ∈ gtbl := memI 1066 (by decide +kernel) (by decide +kernel)
theorem ml_11_231 : Cond.methodLink RX11 231 yX11_serves ∈ gtbl := memI 1315 (by decide +kernel) (by decide +kernel)
theorem wv_11_serves : WV yX11_serves cX11_serves 5 none 0 := ⟨⟨memI 1318 (by decide +kernel) (by decide +kernel), memI 80 (by decide +kernel) (by decide +kernel), by decide, by decide +kernel⟩, memI 1317 (by decide +kernel) (by decide +kernel), memI 58 (by decide +kernel) (by decide +kernel)⟩
theorem ml_11_234 : Cond.methodLink RX11 234 yX11_laysFree ∈ gtbl := memI 1307 (by decide +kernel) (by decide +kernel)
theorem wv_11_laysFree : WV yX11_laysFree cX11_laysFree 2 none 0 := ⟨⟨memI 1310 (by decide +kernel) (by decide +kernel), memI 80 (by decide +kernel) (by decide +kernel), by decide, by decide +kernel⟩, memI 1309 (by decide +kernel) (by decide +kernel), memI 56 (by decide +kernel) (by decide +kernel)⟩
theorem ml_11_237 : Cond.methodLink RX11 237 yX11_opensAll ∈ gtbl := memI 1311 (by decide +kernel) (by decide +kernel)
theorem wv_11_opensAll : WV yX11_opensAll cX11_opensAll 2 none 0 := ⟨⟨memI 1314 (by decide +kernel) (by decide +kernel), memI 80 (by decide +kernel) (by decide +kernel), by decide, by decide +kernel⟩, memI 1313 (by decide +kernel) (by decide +kernel), memI 57 (by decide +kernel) (by decide +kernel)⟩
theorem ml_11_240 : Cond.methodLink RX11 240 yX11_isAsGood ∈ gtbl := memI 1331 (by decide +kernel) (by decide +kernel)
theorem wv_11_isAsGood : WV yX11_isAsGood cX11_isAsGood 6 (some .boolean) 4 := ⟨⟨memI 1334 (by decide +kernel) (by decide +kernel), memI 80 (by decide +kernel) (by decide +kernel), by decide, by decide +kernel⟩, memI 1333 (by decide +kernel) (by decide +kernel), memI 62 (by decide +kernel) (by decide +kernel)⟩
theorem ml_11_244 : Cond.methodLink RX11 244 yX11_laysPlan ∈ gtbl := memI 1303 (by decide +kernel) (by decide +kernel)
theorem wv_11_laysPlan : WV yX11_laysPlan cX11_laysPlan 5 none 0 := ⟨⟨memI 1306 (by decide +kernel) (by decide +kernel), memI 80 (by decide +kernel) (by decide +kernel), by decide, by decide +kernel⟩, memI 1305 (by decide +kernel) (by decide +kernel), memI 55 (by decide +kernel) (by decide +kernel)⟩
theorem ml_11_247 : Cond.methodLink RX11 247 yX11_servedWith ∈ gtbl := memI 1339 (by decide +kernel) (by decide +kernel)
theorem wv_11_servedWith : WV yX11_servedWith cX11_servedWith 3 (some .int) 2 := ⟨⟨memI 1342 (by decide +kernel) (by decide +kernel), memI 80 (by decide +kernel) (by decide +kernel), by decide, by decide +kernel⟩, memI 1341 (by decide +kernel) (by decide +kernel), memI 63 (by decide +kernel) (by decide +kernel)⟩
theorem ml_11_250 : Cond.methodLink RX11 250 yX11_isLand ∈ gtbl := memI 1351 (by decide +kernel) (by decide +kernel)
theorem wv_11_isLand : WV yX11_isLand cX11_isLand 2 (some .boolean) 1 := ⟨⟨memI 1354 (by decide +kernel) (by decide +kernel), memI 80 (by decide +kernel) (by decide +kernel), by decide, by decide +kernel⟩, memI 1353 (by decide +kernel) (by decide +kernel), memI 64 (by decide +kernel) (by decide +kernel)⟩
theorem ml_11_253 : Cond.methodLink RX11 253 yX11_whyStopped ∈ gtbl := memI 1363 (by decide +kernel) (by decide +kernel)
theorem wv_11_whyStopped : WV yX11_whyStopped cX11_whyStopped 4 (some .int) 2 := ⟨⟨memI 1366 (by decide +kernel) (by decide +kernel), memI 80 (by decide +kernel) (by decide +kernel), by decide, by decide +kernel⟩, memI 1365 (by decide +kernel) (by decide +kernel), memI 65 (by decide +kernel) (by decide +kernel)⟩
theorem fl_11_78 : Cond.fieldLink RX11 78 (TX11 13).1 (TX11 13).2.1 (TX11 13).2.2.1 ∈ gtbl := memI 1056 (by decide +kernel) (by decide +kernel)
theorem fl_11_100 : Cond.fieldLink RX11 100 (TX11 24).1 (TX11 24).2.1 (TX11 24).2.2.1 ∈ gtbl := memI 1067 (by decide +kernel) (by decide +kernel)
theorem ml_11_256 : Cond.methodLink RX11 256 yX11_canGo ∈ gtbl := memI 1371 (by decide +kernel) (by decide +kernel)
theorem wv_11_canGo : WV yX11_canGo cX11_canGo 7 (some .boolean) 3 := ⟨⟨memI 1374 (by decide +kernel) (by decide +kernel), memI 80 (by decide +kernel) (by decide +kernel), by decide, by decide +kernel⟩, memI 1373 (by decide +kernel) (by decide +kernel), memI 66 (by decide +kernel) (by decide +kernel)⟩
theorem ml_11_259 : Cond.methodLink RX11 259 yX11_snap ∈ gtbl := memI 1375 (by decide +kernel) (by decide +kernel)
theorem wv_11_snap : WV yX11_snap cX11_snap 2 none 0 := ⟨⟨memI 1378 (by decide +kernel) (by decide +kernel), memI 80 (by decide +kernel) (by decide +kernel), by decide, by decide +kernel⟩, memI 1377 (by decide +kernel) (by decide +kernel), memI 67 (by decide +kernel) (by decide +kernel)⟩
theorem fl_0_21 : Cond.fieldLink RX0 21 (TX0 3).1 (TX0 3).2.1 (TX0 3).2.2.1 ∈ gtbl := memI 411 (by decide +kernel) (by decide +kernel)
theorem fl_0_9 : Cond.fieldLink RX0 9 (TX0 0).1 (TX0 0).2.1 (TX0 0).2.2.1 ∈ gtbl := memI 405 (by decide +kernel) (by decide +kernel)
theorem fl_0_15 : Cond.fieldLink RX0 15 (TX0 1).1 (TX0 1).2.1 (TX0 1).2.2.1 ∈ gtbl := memI 407 (by decide +kernel) (by decide +kernel)
theorem fl_0_18 : Cond.fieldLink RX0 18 (TX0 2).1 (TX0 2).2.1 (TX0 2).2.2.1 ∈ gtbl := memI 409 (by decide +kernel) (by decide +kernel)
theorem fl_0_25 : Cond.fieldLink RX0 25 (TX0 4).1 (TX0 4).2.1 (TX0 4).2.2.1 ∈ gtbl := memI 413 (by decide +kernel) (by decide +kernel)
theorem ml_0_28 : Cond.methodLink RX0 28 Lib.Math.min.name ∈ gtbl := memI 866 (by decide +kernel) (by decide +kernel)
theorem ml_0_34 : Cond.methodLink RX0 34 Lib.Math.max.name ∈ gtbl := memI 912 (by decide +kernel) (by decide +kernel)
theorem fl_1_12 : Cond.fieldLink RX1 12 (TX1 0).1 (TX1 0).2.1 (TX1 0).2.2.1 ∈ gtbl := memI 426 (by decide +kernel) (by decide +kernel)
theorem ml_1_46 : Cond.methodLink RX1 46 yX2_clear ∈ gtbl := memI 495 (by decide +kernel) (by decide +kernel)
theorem wv_2_clear : WV yX2_clear cX2_clear 2 none 0 := ⟨⟨memI 498 (by decide +kernel) (by decide +kernel), memI 75 (by decide +kernel) (by decide +kernel), by decide, by decide +kernel⟩, memI 496 (by decide +kernel) (by decide +kernel), memI 497 (by decide +kernel) (by decide +kernel)⟩
theorem fl_1_21 : Cond.fieldLink RX1 21 (TX1 1).1 (TX1 1).2.1 (TX1 1).2.2.1 ∈ gtbl := memI 429 (by decide +kernel) (by decide +kernel)
theorem ml_1_49 : Cond.methodLink RX1 49 yX4_clear ∈ gtbl := memI 499 (by decide +kernel) (by decide +kernel)
theorem wv_4_clear : WV yX4_clear cX4_clear 2 none 0 := ⟨⟨memI 502 (by decide +kernel) (by decide +kernel), memI 76 (by decide +kernel) (by decide +kernel), by decide, by decide +kernel⟩, memI 500 (by decide +kernel) (by decide +kernel), memI 501 (by decide +kernel) (by decide +kernel)⟩
theorem fl_1_28 : Cond.fieldLink RX1 28 (TX1 2).1 (TX1 2).2.1 (TX1 2).2.2.1 ∈ gtbl := memI 433 (by decide +kernel) (by decide +kernel)
theorem ml_1_50 : Cond.methodLink RX1 50 yX3_clear ∈ gtbl := memI 503 (by decide +kernel) (by decide +kernel)
theorem wv_3_clear : WV yX3_clear cX3_clear 2 none 0 := ⟨⟨memI 506 (by decide +kernel) (by decide +kernel), memI 77 (by decide +kernel) (by decide +kernel), by decide, by decide +kernel⟩, memI 504 (by decide +kernel) (by decide +kernel), memI 505 (by decide +kernel) (by decide +kernel)⟩
theorem fl_1_35 : Cond.fieldLink RX1 35 (TX1 3).1 (TX1 3).2.1 (TX1 3).2.2.1 ∈ gtbl := memI 436 (by decide +kernel) (by decide +kernel)
theorem fl_1_51 : Cond.fieldLink RX1 51 (TX9 9).1 (TX9 9).2.1 (TX9 9).2.2.1 ∈ gtbl := memI 376 (by decide +kernel) (by decide +kernel)
theorem fl_1_42 : Cond.fieldLink RX1 42 (TX1 4).1 (TX1 4).2.1 (TX1 4).2.2.1 ∈ gtbl := memI 439 (by decide +kernel) (by decide +kernel)
theorem fl_1_55 : Cond.fieldLink RX1 55 (TX0 4).1 (TX0 4).2.1 (TX0 4).2.2.1 ∈ gtbl := memI 412 (by decide +kernel) (by decide +kernel)
theorem fl_1_58 : Cond.fieldLink RX1 58 (TX1 5).1 (TX1 5).2.1 (TX1 5).2.2.1 ∈ gtbl := memI 441 (by decide +kernel) (by decide +kernel)
theorem ml_1_61 : Cond.methodLink RX1 61 yX4_has ∈ gtbl := memI 743 (by decide +kernel) (by decide +kernel)
theorem ml_1_65 : Cond.methodLink RX1 65 yX9_has ∈ gtbl := memI 744 (by decide +kernel) (by decide +kernel)
theorem fl_1_66 : Cond.fieldLink RX1 66 (TX9 0).1 (TX9 0).2.1 (TX9 0).2.2.1 ∈ gtbl := memI 351 (by decide +kernel) (by decide +kernel)
theorem ml_1_70 : Cond.methodLink RX1 70 yX3_has ∈ gtbl := memI 745 (by decide +kernel) (by decide +kernel)
theorem fl_1_71 : Cond.fieldLink RX1 71 (TX9 3).1 (TX9 3).2.1 (TX9 3).2.2.1 ∈ gtbl := memI 357 (by decide +kernel) (by decide +kernel)
theorem fl_1_74 : Cond.fieldLink RX1 74 (TX3 0).1 (TX3 0).2.1 (TX3 0).2.2.1 ∈ gtbl := memI 313 (by decide +kernel) (by decide +kernel)
theorem ml_1_77 : Cond.methodLink RX1 77 yX4_isFor ∈ gtbl := memI 749 (by decide +kernel) (by decide +kernel)
theorem fl_1_81 : Cond.fieldLink RX1 81 (TX3 1).1 (TX3 1).2.1 (TX3 1).2.2.1 ∈ gtbl := memI 316 (by decide +kernel) (by decide +kernel)
theorem ml_1_84 : Cond.methodLink RX1 84 yX4_suitsEngine ∈ gtbl := memI 753 (by decide +kernel) (by decide +kernel)
theorem fl_1_87 : Cond.fieldLink RX1 87 (TX3 2).1 (TX3 2).2.1 (TX3 2).2.2.1 ∈ gtbl := memI 319 (by decide +kernel) (by decide +kernel)
theorem fl_1_90 : Cond.fieldLink RX1 90 (TX9 4).1 (TX9 4).2.1 (TX9 4).2.2.1 ∈ gtbl := memI 360 (by decide +kernel) (by decide +kernel)
theorem fl_1_93 : Cond.fieldLink RX1 93 (TX9 5).1 (TX9 5).2.1 (TX9 5).2.2.1 ∈ gtbl := memI 363 (by decide +kernel) (by decide +kernel)
theorem fl_1_96 : Cond.fieldLink RX1 96 (TX9 6).1 (TX9 6).2.1 (TX9 6).2.2.1 ∈ gtbl := memI 366 (by decide +kernel) (by decide +kernel)
theorem fl_1_99 : Cond.fieldLink RX1 99 (TX4 5).1 (TX4 5).2.1 (TX4 5).2.2.1 ∈ gtbl := memI 262 (by decide +kernel) (by decide +kernel)
theorem ml_1_102 : Cond.methodLink RX1 102 yX1_isOut ∈ gtbl := memI 842 (by decide +kernel) (by decide +kernel)
theorem ml_1_105 : Cond.methodLink RX1 105 yX1_isLate ∈ gtbl := memI 846 (by decide +kernel) (by decide +kernel)
theorem wv_1_isLate : WV yX1_isLate cX1_isLate 2 (some .boolean) 1 := ⟨⟨memI 849 (by decide +kernel) (by decide +kernel), memI 74 (by decide +kernel) (by decide +kernel), by decide, by decide +kernel⟩, memI 847 (by decide +kernel) (by decide +kernel), memI 848 (by decide +kernel) (by decide +kernel)⟩
theorem fl_1_108 : Cond.fieldLink RX1 108 (TX4 7).1 (TX4 7).2.1 (TX4 7).2.2.1 ∈ gtbl := memI 267 (by decide +kernel) (by decide +kernel)
theorem fl_1_111 : Cond.fieldLink RX1 111 (TX9 7).1 (TX9 7).2.1 (TX9 7).2.2.1 ∈ gtbl := memI 369 (by decide +kernel) (by decide +kernel)
theorem fl_1_114 : Cond.fieldLink RX1 114 (TX9 8).1 (TX9 8).2.1 (TX9 8).2.2.1 ∈ gtbl := memI 372 (by decide +kernel) (by decide +kernel)
theorem ml_1_117 : Cond.methodLink RX1 117 yX4_giveUp ∈ gtbl := memI 875 (by decide +kernel) (by decide +kernel)
theorem wv_4_giveUp : WV yX4_giveUp cX4_giveUp 4 none 3 := ⟨⟨memI 878 (by decide +kernel) (by decide +kernel), memI 76 (by decide +kernel) (by decide +kernel), by decide, by decide +kernel⟩, memI 876 (by decide +kernel) (by decide +kernel), memI 877 (by decide +kernel) (by decide +kernel)⟩
theorem fl_1_121 : Cond.fieldLink RX1 121 (TX3 3).1 (TX3 3).2.1 (TX3 3).2.2.1 ∈ gtbl := memI 322 (by decide +kernel) (by decide +kernel)
theorem fl_1_124 : Cond.fieldLink RX1 124 (TX3 4).1 (TX3 4).2.1 (TX3 4).2.2.1 ∈ gtbl := memI 325 (by decide +kernel) (by decide +kernel)
theorem ml_1_127 : Cond.methodLink RX1 127 yX1_takeBackTrip ∈ gtbl := memI 917 (by decide +kernel) (by decide +kernel)
theorem wv_1_takeBackTrip : WV yX1_takeBackTrip cX1_takeBackTrip 2 none 1 := ⟨⟨memI 920 (by decide +kernel) (by decide +kernel), memI 74 (by decide +kernel) (by decide +kernel), by decide, by decide +kernel⟩, memI 919 (by decide +kernel) (by decide +kernel), memI 17 (by decide +kernel) (by decide +kernel)⟩
theorem ml_1_131 : Cond.methodLink RX1 131 yX1_callBack ∈ gtbl := memI 921 (by decide +kernel) (by decide +kernel)
theorem wv_1_callBack : WV yX1_callBack cX1_callBack 3 none 1 := ⟨⟨memI 924 (by decide +kernel) (by decide +kernel), memI 74 (by decide +kernel) (by decide +kernel), by decide, by decide +kernel⟩, memI 923 (by decide +kernel) (by decide +kernel), memI 18 (by decide +kernel) (by decide +kernel)⟩
theorem ml_1_134 : Cond.methodLink RX1 134 yX1_reopen ∈ gtbl := memI 929 (by decide +kernel) (by decide +kernel)
theorem wv_1_reopen : WV yX1_reopen cX1_reopen 4 none 1 := ⟨⟨memI 932 (by decide +kernel) (by decide +kernel), memI 74 (by decide +kernel) (by decide +kernel), by decide, by decide +kernel⟩, memI 931 (by decide +kernel) (by decide +kernel), memI 20 (by decide +kernel) (by decide +kernel)⟩
theorem ml_1_137 : Cond.methodLink RX1 137 yX1_takeBackMisuse ∈ gtbl := memI 933 (by decide +kernel) (by decide +kernel)
theorem wv_1_takeBackMisuse : WV yX1_takeBackMisuse cX1_takeBackMisuse 3 none 2 := ⟨⟨memI 936 (by decide +kernel) (by decide +kernel), memI 74 (by decide +kernel) (by decide +kernel), by decide, by decide +kernel⟩, memI 935 (by decide +kernel) (by decide +kernel), memI 21 (by decide +kernel) (by decide +kernel)⟩
theorem ml_1_141 : Cond.methodLink RX1 141 yX4_moveBack ∈ gtbl := memI 937 (by decide +kernel) (by decide +kernel)
theorem fl_1_144 : Cond.fieldLink RX1 144 (TX3 5).1 (TX3 5).2.1 (TX3 5).2.2.1 ∈ gtbl := memI 330 (by decide +kernel) (by decide +kernel)
theorem ml_1_145 : Cond.methodLink RX1 145 yX1_waitAgain ∈ gtbl := memI 925 (by decide +kernel) (by decide +kernel)
theorem wv_1_waitAgain : WV yX1_waitAgain cX1_waitAgain 2 none 1 := ⟨⟨memI 928 (by decide +kernel) (by decide +kernel), memI 74 (by decide +kernel) (by decide +kernel), by decide, by decide +kernel⟩, memI 927 (by decide +kernel) (by decide +kernel), memI 19 (by decide +kernel) (by decide +kernel)⟩
theorem fl_2_9 : Cond.fieldLink RX2 9 (TX2 0).1 (TX2 0).2.1 (TX2 0).2.2.1 ∈ gtbl := memI 231 (by decide +kernel) (by decide +kernel)
theorem fl_2_15 : Cond.fieldLink RX2 15 (TX2 1).1 (TX2 1).2.1 (TX2 1).2.2.1 ∈ gtbl := memI 232 (by decide +kernel) (by decide +kernel)
theorem fl_2_19 : Cond.fieldLink RX2 19 (TX2 2).1 (TX2 2).2.1 (TX2 2).2.2.1 ∈ gtbl := memI 235 (by decide +kernel) (by decide +kernel)
theorem ml_2_22 : Cond.methodLink RX2 22 yX2_has ∈ gtbl := memI 640 (by decide +kernel) (by decide +kernel)
theorem ml_2_26 : Cond.methodLink RX2 26 yX2_areJoined ∈ gtbl := memI 644 (by decide +kernel) (by decide +kernel)
theorem wv_2_areJoined : WV yX2_areJoined cX2_areJoined 3 (some .boolean) 2 := ⟨⟨memI 647 (by decide +kernel) (by decide +kernel), memI 75 (by decide +kernel) (by decide +kernel), by decide, by decide +kernel⟩, memI 645 (by decide +kernel) (by decide +kernel), memI 646 (by decide +kernel) (by decide +kernel)⟩
theorem fl_3_27 : Cond.fieldLink RX3 27 (TX3 5).1 (TX3 5).2.1 (TX3 5).2.2.1 ∈ gtbl := memI 327 (by decide +kernel) (by decide +kernel)
theorem fl_3_18 : Cond.fieldLink RX3 18 (TX3 2).1 (TX3 2).2.1 (TX3 2).2.2.1 ∈ gtbl := memI 318 (by decide +kernel) (by decide +kernel)
theorem fl_3_21 : Cond.fieldLink RX3 21 (TX3 3).1 (TX3 3).2.1 (TX3 3).2.2.1 ∈ gtbl := memI 321 (by decide +kernel) (by decide +kernel)
theorem fl_3_24 : Cond.fieldLink RX3 24 (TX3 4).1 (TX3 4).2.1 (TX3 4).2.2.1 ∈ gtbl := memI 324 (by decide +kernel) (by decide +kernel)
theorem fl_3_9 : Cond.fieldLink RX3 9 (TX3 0).1 (TX3 0).2.1 (TX3 0).2.2.1 ∈ gtbl := memI 312 (by decide +kernel) (by decide +kernel)
theorem fl_3_15 : Cond.fieldLink RX3 15 (TX3 1).1 (TX3 1).2.1 (TX3 1).2.2.1 ∈ gtbl := memI 315 (by decide +kernel) (by decide +kernel)
theorem fl_4_49 : Cond.fieldLink RX4 49 (TX4 11).1 (TX4 11).2.1 (TX4 11).2.2.1 ∈ gtbl := memI 274 (by decide +kernel) (by decide +kernel)
theorem fl_4_45 : Cond.fieldLink RX4 45 (TX4 12).1 (TX4 12).2.1 (TX4 12).2.2.1 ∈ gtbl := memI 277 (by decide +kernel) (by decide +kernel)
theorem fl_4_33 : Cond.fieldLink RX4 33 (TX4 7).1 (TX4 7).2.1 (TX4 7).2.2.1 ∈ gtbl := memI 266 (by decide +kernel) (by decide +kernel)
theorem fl_4_36 : Cond.fieldLink RX4 36 (TX4 8).1 (TX4 8).2.1 (TX4 8).2.2.1 ∈ gtbl := memI 268 (by decide +kernel) (by decide +kernel)
theorem fl_4_39 : Cond.fieldLink RX4 39 (TX4 9).1 (TX4 9).2.1 (TX4 9).2.2.1 ∈ gtbl := memI 270 (by decide +kernel) (by decide +kernel)
theorem fl_4_42 : Cond.fieldLink RX4 42 (TX4 10).1 (TX4 10).2.1 (TX4 10).2.2.1 ∈ gtbl := memI 272 (by decide +kernel) (by decide +kernel)
theorem fl_4_9 : Cond.fieldLink RX4 9 (TX4 0).1 (TX4 0).2.1 (TX4 0).2.2.1 ∈ gtbl := memI 250 (by decide +kernel) (by decide +kernel)
theorem fl_4_15 : Cond.fieldLink RX4 15 (TX4 1).1 (TX4 1).2.1 (TX4 1).2.2.1 ∈ gtbl := memI 252 (by decide +kernel) (by decide +kernel)
theorem fl_4_18 : Cond.fieldLink RX4 18 (TX4 2).1 (TX4 2).2.1 (TX4 2).2.2.1 ∈ gtbl := memI 254 (by decide +kernel) (by decide +kernel)
theorem fl_4_21 : Cond.fieldLink RX4 21 (TX4 3).1 (TX4 3).2.1 (TX4 3).2.2.1 ∈ gtbl := memI 256 (by decide +kernel) (by decide +kernel)
theorem fl_4_24 : Cond.fieldLink RX4 24 (TX4 4).1 (TX4 4).2.1 (TX4 4).2.2.1 ∈ gtbl := memI 259 (by decide +kernel) (by decide +kernel)
theorem fl_4_27 : Cond.fieldLink RX4 27 (TX4 5).1 (TX4 5).2.1 (TX4 5).2.2.1 ∈ gtbl := memI 261 (by decide +kernel) (by decide +kernel)
theorem fl_4_30 : Cond.fieldLink RX4 30 (TX4 6).1 (TX4 6).2.1 (TX4 6).2.2.1 ∈ gtbl := memI 264 (by decide +kernel) (by decide +kernel)
theorem ml_4_52 : Cond.methodLink RX4 52 Lib.Math.max.name ∈ gtbl := memI 705 (by decide +kernel) (by decide +kernel)
theorem ml_4_58 : Cond.methodLink RX4 58 yX4_countReissued ∈ gtbl := memI 712 (by decide +kernel) (by decide +kernel)
theorem ml_4_62 : Cond.methodLink RX4 62 yX4_countOut ∈ gtbl := memI 701 (by decide +kernel) (by decide +kernel)
theorem ml_4_65 : Cond.methodLink RX4 65 yX4_countIn ∈ gtbl := memI 708 (by decide +kernel) (by decide +kernel)
theorem ml_4_68 : Cond.methodLink RX4 68 yX4_has ∈ gtbl := memI 879 (by decide +kernel) (by decide +kernel)
theorem fl_5_34 : Cond.fieldLink RX5 34 (TX5 7).1 (TX5 7).2.1 (TX5 7).2.2.1 ∈ gtbl := memI 195 (by decide +kernel) (by decide +kernel)
theorem fl_5_38 : Cond.fieldLink RX5 38 (TX1 3).1 (TX1 3).2.1 (TX1 3).2.2.1 ∈ gtbl := memI 437 (by decide +kernel) (by decide +kernel)
theorem fl_5_43 : Cond.fieldLink RX5 43 (TX9 9).1 (TX9 9).2.1 (TX9 9).2.2.1 ∈ gtbl := memI 375 (by decide +kernel) (by decide +kernel)
theorem fl_5_48 : Cond.fieldLink RX5 48 (TX9 4).1 (TX9 4).2.1 (TX9 4).2.2.1 ∈ gtbl := memI 359 (by decide +kernel) (by decide +kernel)
theorem fl_5_11 : Cond.fieldLink RX5 11 (TX5 0).1 (TX5 0).2.1 (TX5 0).2.2.1 ∈ gtbl := memI 186 (by decide +kernel) (by decide +kernel)
theorem ml_5_51 : Cond.methodLink RX5 51 yX5_setPrices ∈ gtbl := memI 765 (by decide +kernel) (by decide +kernel)
theorem wv_5_setPrices : WV yX5_setPrices cX5_setPrices 6 none 3 := ⟨⟨memI 768 (by decide +kernel) (by decide +kernel), memI 73 (by decide +kernel) (by decide +kernel), by decide, by decide +kernel⟩, memI 767 (by decide +kernel) (by decide +kernel), memI 12 (by decide +kernel) (by decide +kernel)⟩
theorem kl_5_55 : Cond.constantLong RX5 55 7 ∈ gtbl := memI 774 (by decide +kernel) (by decide +kernel)
theorem fl_5_19 : Cond.fieldLink RX5 19 (TX5 2).1 (TX5 2).2.1 (TX5 2).2.2.1 ∈ gtbl := memI 189 (by decide +kernel) (by decide +kernel)
theorem fl_5_57 : Cond.fieldLink RX5 57 (TX1 1).1 (TX1 1).2.1 (TX1 1).2.2.1 ∈ gtbl := memI 430 (by decide +kernel) (by decide +kernel)
theorem ml_5_61 : Cond.methodLink RX5 61 yX4_has ∈ gtbl := memI 775 (by decide +kernel) (by decide +kernel)
theorem ml_5_67 : Cond.methodLink RX5 67 yX4_countFree ∈ gtbl := memI 776 (by decide +kernel) (by decide +kernel)
theorem fl_5_15 : Cond.fieldLink RX5 15 (TX5 1).1 (TX5 1).2.1 (TX5 1).2.2.1 ∈ gtbl := memI 188 (by decide +kernel) (by decide +kernel)
theorem ml_5_71 : Cond.methodLink RX5 71 yX1_suits ∈ gtbl := memI 769 (by decide +kernel) (by decide +kernel)
theorem fl_5_75 : Cond.fieldLink RX5 75 (TX4 3).1 (TX4 3).2.1 (TX4 3).2.2.1 ∈ gtbl := memI 257 (by decide +kernel) (by decide +kernel)
theorem kl_5_78 : Cond.constantLong RX5 78 5764801 ∈ gtbl := memI 770 (by decide +kernel) (by decide +kernel)
theorem kl_5_80 : Cond.constantLong RX5 80 5764801000000 ∈ gtbl := memI 771 (by decide +kernel) (by decide +kernel)
theorem kl_5_82 : Cond.constantLong RX5 82 5764801000 ∈ gtbl := memI 772 (by decide +kernel) (by decide +kernel)
theorem kl_5_84 : Cond.constantLong RX5 84 6 ∈ gtbl := memI 773 (by decide +kernel) (by decide +kernel)
theorem ml_5_86 : Cond.methodLink RX5 86 Lib.Math.max.name ∈ gtbl := memI 813 (by decide +kernel) (by decide +kernel)
theorem fl_5_22 : Cond.fieldLink RX5 22 (TX5 3).1 (TX5 3).2.1 (TX5 3).2.2.1 ∈ gtbl := memI 190 (by decide +kernel) (by decide +kernel)
theorem fl_5_25 : Cond.fieldLink RX5 25 (TX5 4).1 (TX5 4).2.1 (TX5 4).2.2.1 ∈ gtbl := memI 191 (by decide +kernel) (by decide +kernel)
theorem ml_5_92 : Cond.methodLink RX5 92 yX5_findChains ∈ gtbl := memI 781 (by decide +kernel) (by decide +kernel)
theorem wv_5_findChains : WV yX5_findChains cX5_findChains 5 none 1 := ⟨⟨memI 784 (by decide +kernel) (by decide +kernel), memI 73 (by decide +kernel) (by decide +kernel), by decide, by decide +kernel⟩, memI 783 (by decide +kernel) (by decide +kernel), memI 13 (by decide +kernel) (by decide +kernel)⟩
theorem ml_5_96 : Cond.methodLink RX5 96 yX5_cheapestOpen ∈ gtbl := memI 789 (by decide +kernel) (by decide +kernel)
theorem wv_5_cheapestOpen : WV yX5_cheapestOpen cX5_cheapestOpen 3 (some .int) 0 := ⟨⟨memI 792 (by decide +kernel) (by decide +kernel), memI 73 (by decide +kernel) (by decide +kernel), by decide, by decide +kernel⟩, memI 791 (by decide +kernel) (by decide +kernel), memI 15 (by decide +kernel) (by decide +kernel)⟩
theorem ml_5_100 : Cond.methodLink RX5 100 yX5_moveAlong ∈ gtbl := memI 793 (by decide +kernel) (by decide +kernel)
theorem wv_5_moveAlong : WV yX5_moveAlong cX5_moveAlong 7 none 2 := ⟨⟨memI 796 (by decide +kernel) (by decide +kernel), memI 73 (by decide +kernel) (by decide +kernel), by decide, by decide +kernel⟩, memI 795 (by decide +kernel) (by decide +kernel), memI 16 (by decide +kernel) (by decide +kernel)⟩
theorem fl_5_104 : Cond.fieldLink RX5 104 (TX5 8).1 (TX5 8).2.1 (TX5 8).2.2.1 ∈ gtbl := memI 197 (by decide +kernel) (by decide +kernel)
theorem fl_5_28 : Cond.fieldLink RX5 28 (TX5 5).1 (TX5 5).2.1 (TX5 5).2.2.1 ∈ gtbl := memI 193 (by decide +kernel) (by decide +kernel)
theorem fl_5_31 : Cond.fieldLink RX5 31 (TX5 6).1 (TX5 6).2.1 (TX5 6).2.2.1 ∈ gtbl := memI 194 (by decide +kernel) (by decide +kernel)
theorem ml_5_107 : Cond.methodLink RX5 107 yX5_pushOn ∈ gtbl := memI 785 (by decide +kernel) (by decide +kernel)
theorem wv_5_pushOn : WV yX5_pushOn cX5_pushOn 9 (some .boolean) 1 := ⟨⟨memI 788 (by decide +kernel) (by decide +kernel), memI 73 (by decide +kernel) (by decide +kernel), by decide, by decide +kernel⟩, memI 787 (by decide +kernel) (by decide +kernel), memI 14 (by decide +kernel) (by decide +kernel)⟩
theorem fl_6_19 : Cond.fieldLink RX6 19 (TX6 2).1 (TX6 2).2.1 (TX6 2).2.2.1 ∈ gtbl := memI 147 (by decide +kernel) (by decide +kernel)
theorem fl_6_23 : Cond.fieldLink RX6 23 (TX6 6).1 (TX6 6).2.1 (TX6 6).2.2.1 ∈ gtbl := memI 151 (by decide +kernel) (by decide +kernel)
theorem fl_6_26 : Cond.fieldLink RX6 26 (TX6 7).1 (TX6 7).2.1 (TX6 7).2.2.1 ∈ gtbl := memI 153 (by decide +kernel) (by decide +kernel)
theorem fl_6_29 : Cond.fieldLink RX6 29 (TX6 8).1 (TX6 8).2.1 (TX6 8).2.2.1 ∈ gtbl := memI 154 (by decide +kernel) (by decide +kernel)
theorem fl_6_15 : Cond.fieldLink RX6 15 (TX6 0).1 (TX6 0).2.1 (TX6 0).2.2.1 ∈ gtbl := memI 145 (by decide +kernel) (by decide +kernel)
theorem ml_6_32 : Cond.methodLink RX6 32 yX8_restart ∈ gtbl := memI 511 (by decide +kernel) (by decide +kernel)
theorem wv_8_restart : WV yX8_restart cX8_restart 1 none 0 := ⟨⟨memI 514 (by decide +kernel) (by decide +kernel), memI 72 (by decide +kernel) (by decide +kernel), by decide, by decide +kernel⟩, memI 512 (by decide +kernel) (by decide +kernel), memI 513 (by decide +kernel) (by decide +kernel)⟩
theorem fl_6_37 : Cond.fieldLink RX6 37 (TX8 1).1 (TX8 1).2.1 (TX8 1).2.2.1 ∈ gtbl := memI 123 (by decide +kernel) (by decide +kernel)
theorem ml_6_40 : Cond.methodLink RX6 40 yX6_takeToken ∈ gtbl := memI 540 (by decide +kernel) (by decide +kernel)
theorem wv_6_takeToken : WV yX6_takeToken cX6_takeToken 2 (some .boolean) 1 := ⟨⟨memI 543 (by decide +kernel) (by decide +kernel), memI 71 (by decide +kernel) (by decide +kernel), by decide, by decide +kernel⟩, memI 542 (by decide +kernel) (by decide +kernel), memI 2 (by decide +kernel) (by decide +kernel)⟩
theorem ml_6_44 : Cond.methodLink RX6 44 yX8_advance ∈ gtbl := memI 668 (by decide +kernel) (by decide +kernel)
theorem wv_8_advance : WV yX8_advance cX8_advance 3 none 0 := ⟨⟨memI 518 (by decide +kernel) (by decide +kernel), memI 72 (by decide +kernel) (by decide +kernel), by decide, by decide +kernel⟩, memI 516 (by decide +kernel) (by decide +kernel), memI 517 (by decide +kernel) (by decide +kernel)⟩
theorem ml_6_47 : Cond.methodLink RX6 47 yX8_isTooLong ∈ gtbl := memI 669 (by decide +kernel) (by decide +kernel)
theorem wv_8_isTooLong : WV yX8_isTooLong cX8_isTooLong 1 (some .boolean) 0 := ⟨⟨memI 672 (by decide +kernel) (by decide +kernel), memI 72 (by decide +kernel) (by decide +kernel), by decide, by decide +kernel⟩, memI 670 (by decide +kernel) (by decide +kernel), memI 671 (by decide +kernel) (by decide +kernel)⟩
theorem ml_6_51 : Cond.methodLink RX6 51 yX6_refuse ∈ gtbl := memI 608 (by decide +kernel) (by decide +kernel)
theorem wv_6_refuse : WV yX6_refuse cX6_refuse 2 (some .boolean) 1 := ⟨⟨memI 611 (by decide +kernel) (by decide +kernel), memI 71 (by decide +kernel) (by decide +kernel), by decide, by decide +kernel⟩, memI 610 (by decide +kernel) (by decide +kernel), memI 5 (by decide +kernel) (by decide +kernel)⟩
theorem ml_6_55 : Cond.methodLink RX6 55 yX6_beginLine ∈ gtbl := memI 544 (by decide +kernel) (by decide +kernel)
theorem wv_6_beginLine : WV yX6_beginLine cX6_beginLine 3 (some .boolean) 1 := ⟨⟨memI 547 (by decide +kernel) (by decide +kernel), memI 71 (by decide +kernel) (by decide +kernel), by decide, by decide +kernel⟩, memI 546 (by decide +kernel) (by decide +kernel), memI 3 (by decide +kernel) (by decide +kernel)⟩
theorem fl_6_58 : Cond.fieldLink RX6 58 (TX6 4).1 (TX6 4).2.1 (TX6 4).2.2.1 ∈ gtbl := memI 149 (by decide +kernel) (by decide +kernel)
theorem ml_6_61 : Cond.methodLink RX6 61 yX6_takeKind ∈ gtbl := memI 612 (by decide +kernel) (by decide +kernel)
theorem wv_6_takeKind : WV yX6_takeKind cX6_takeKind 1 (some .boolean) 0 := ⟨⟨memI 615 (by decide +kernel) (by decide +kernel), memI 71 (by decide +kernel) (by decide +kernel), by decide, by decide +kernel⟩, memI 614 (by decide +kernel) (by decide +kernel), memI 6 (by decide +kernel) (by decide +kernel)⟩
theorem ml_6_64 : Cond.methodLink RX6 64 yX6_isWhole ∈ gtbl := memI 623 (by decide +kernel) (by decide +kernel)
theorem wv_6_isWhole : WV yX6_isWhole cX6_isWhole 1 (some .boolean) 0 := ⟨⟨memI 626 (by decide +kernel) (by decide +kernel), memI 71 (by decide +kernel) (by decide +kernel), by decide, by decide +kernel⟩, memI 625 (by decide +kernel) (by decide +kernel), memI 8 (by decide +kernel) (by decide +kernel)⟩
theorem ml_6_67 : Cond.methodLink RX6 67 yX6_endLine ∈ gtbl := memI 632 (by decide +kernel) (by decide +kernel)
theorem wv_6_endLine : WV yX6_endLine cX6_endLine 2 (some .boolean) 1 := ⟨⟨memI 635 (by decide +kernel) (by decide +kernel), memI 71 (by decide +kernel) (by decide +kernel), by decide, by decide +kernel⟩, memI 634 (by decide +kernel) (by decide +kernel), memI 10 (by decide +kernel) (by decide +kernel)⟩
theorem fl_6_70 : Cond.fieldLink RX6 70 (TX1 0).1 (TX1 0).2.1 (TX1 0).2.2.1 ∈ gtbl := memI 427 (by decide +kernel) (by decide +kernel)
theorem ml_6_76 : Cond.methodLink RX6 76 yX6_takeNumber ∈ gtbl := memI 656 (by decide +kernel) (by decide +kernel)
theorem wv_6_takeNumber : WV yX6_takeNumber cX6_takeNumber 4 (some .boolean) 1 := ⟨⟨memI 659 (by decide +kernel) (by decide +kernel), memI 71 (by decide +kernel) (by decide +kernel), by decide, by decide +kernel⟩, memI 658 (by decide +kernel) (by decide +kernel), memI 11 (by decide +kernel) (by decide +kernel)⟩
theorem ml_6_80 : Cond.methodLink RX6 80 yX6_sortOfWord ∈ gtbl := memI 548 (by decide +kernel) (by decide +kernel)
theorem wv_6_sortOfWord : WV yX6_sortOfWord cX6_sortOfWord 1 (some .int) 0 := ⟨⟨memI 551 (by decide +kernel) (by decide +kernel), memI 71 (by decide +kernel) (by decide +kernel), by decide, by decide +kernel⟩, memI 550 (by decide +kernel) (by decide +kernel), memI 4 (by decide +kernel) (by decide +kernel)⟩
theorem fl_6_84 : Cond.fieldLink RX6 84 (TX1 1).1 (TX1 1).2.1 (TX1 1).2.2.1 ∈ gtbl := memI 431 (by decide +kernel) (by decide +kernel)
theorem fl_6_88 : Cond.fieldLink RX6 88 (TX4 11).1 (TX4 11).2.1 (TX4 11).2.2.1 ∈ gtbl := memI 275 (by decide +kernel) (by decide +kernel)
theorem fl_6_93 : Cond.fieldLink RX6 93 (TX1 2).1 (TX1 2).2.1 (TX1 2).2.2.1 ∈ gtbl := memI 434 (by decide +kernel) (by decide +kernel)
theorem fl_6_97 : Cond.fieldLink RX6 97 (TX3 5).1 (TX3 5).2.1 (TX3 5).2.2.1 ∈ gtbl := memI 328 (by decide +kernel) (by decide +kernel)
theorem fl_6_100 : Cond.fieldLink RX6 100 (TX6 3).1 (TX6 3).2.1 (TX6 3).2.2.1 ∈ gtbl := memI 148 (by decide +kernel) (by decide +kernel)
theorem fl_6_103 : Cond.fieldLink RX6 103 (TX6 5).1 (TX6 5).2.1 (TX6 5).2.2.1 ∈ gtbl := memI 150 (by decide +kernel) (by decide +kernel)
theorem ml_6_107 : Cond.methodLink RX6 107 yX8_isWord ∈ gtbl := memI 553 (by decide +kernel) (by decide +kernel)
theorem wv_8_isWord : WV yX8_isWord cX8_isWord 3 (some .boolean) 1 := ⟨⟨memI 556 (by decide +kernel) (by decide +kernel), memI 72 (by decide +kernel) (by decide +kernel), by decide, by decide +kernel⟩, memI 554 (by decide +kernel) (by decide +kernel), memI 555 (by decide +kernel) (by decide +kernel)⟩
theorem ml_6_123 : Cond.methodLink RX6 123 yX6_putNumber ∈ gtbl := memI 619 (by decide +kernel) (by decide +kernel)
theorem wv_6_putNumber : WV yX6_putNumber cX6_putNumber 2 none 1 := ⟨⟨memI 622 (by decide +kernel) (by decide +kernel), memI 71 (by decide +kernel) (by decide +kernel), by decide, by decide +kernel⟩, memI 621 (by decide +kernel) (by decide +kernel), memI 7 (by decide +kernel) (by decide +kernel)⟩
theorem ml_6_127 : Cond.methodLink RX6 127 yX6_meaningNow ∈ gtbl := memI 627 (by decide +kernel) (by decide +kernel)
theorem wv_6_meaningNow : WV yX6_meaningNow cX6_meaningNow 1 (some .int) 0 := ⟨⟨memI 630 (by decide +kernel) (by decide +kernel), memI 71 (by decide +kernel) (by decide +kernel), by decide, by decide +kernel⟩, memI 629 (by decide +kernel) (by decide +kernel), memI 9 (by decide +kernel) (by decide +kernel)⟩
theorem ml_6_130 : Cond.methodLink RX6 130 Lib.Math.min.name ∈ gtbl := memI 631 (by decide +kernel) (by decide +kernel)
theorem fl_6_136 : Cond.fieldLink RX6 136 (TX8 4).1 (TX8 4).2.1 (TX8 4).2.2.1 ∈ gtbl := memI 129 (by decide +kernel) (by decide +kernel)
theorem ml_6_139 : Cond.methodLink RX6 139 yX2_has ∈ gtbl := memI 660 (by decide +kernel) (by decide +kernel)
theorem ml_6_144 : Cond.methodLink RX6 144 yX6_isInRange ∈ gtbl := memI 661 (by decide +kernel) (by decide +kernel)
theorem ws_6_isInRange : WS yX6_isInRange cX6_isInRange 2 (some .boolean) 2 := ⟨⟨memI 663 (by decide +kernel) (by decide +kernel), memI 71 (by decide +kernel) (by decide +kernel), by decide, by decide +kernel⟩, memI 662 (by decide +kernel) (by decide +kernel)⟩
theorem fl_6_9 : Cond.fieldLink RX6 9 (TX6 1).1 (TX6 1).2.1 (TX6 1).2.2.1 ∈ gtbl := memI 146 (by decide +kernel) (by decide +kernel)
theorem fl_6_154 : Cond.fieldLink RX6 154 (TX2 1).1 (TX2 1).2.1 (TX2 1).2.2.1 ∈ gtbl := memI 234 (by decide +kernel) (by decide +kernel)
theorem fl_6_155 : Cond.fieldLink RX6 155 (TX4 12).1 (TX4 12).2.1 (TX4 12).2.2.1 ∈ gtbl := memI 278 (by decide +kernel) (by decide +kernel)
theorem ml_6_158 : Cond.methodLink RX6 158 yX2_addBorder ∈ gtbl := memI 636 (by decide +kernel) (by decide +kernel)
theorem wv_2_addBorder : WV yX2_addBorder cX2_addBorder 3 none 2 := ⟨⟨memI 639 (by decide +kernel) (by decide +kernel), memI 75 (by decide +kernel) (by decide +kernel), by decide, by decide +kernel⟩, memI 637 (by decide +kernel) (by decide +kernel), memI 638 (by decide +kernel) (by decide +kernel)⟩
theorem ml_6_162 : Cond.methodLink RX6 162 yX3_add ∈ gtbl := memI 648 (by decide +kernel) (by decide +kernel)
theorem wv_3_add : WV yX3_add cX3_add 3 none 2 := ⟨⟨memI 651 (by decide +kernel) (by decide +kernel), memI 77 (by decide +kernel) (by decide +kernel), by decide, by decide +kernel⟩, memI 649 (by decide +kernel) (by decide +kernel), memI 650 (by decide +kernel) (by decide +kernel)⟩
theorem ml_6_165 : Cond.methodLink RX6 165 yX4_add ∈ gtbl := memI 652 (by decide +kernel) (by decide +kernel)
theorem wv_4_add : WV yX4_add cX4_add 4 none 3 := ⟨⟨memI 655 (by decide +kernel) (by decide +kernel), memI 76 (by decide +kernel) (by decide +kernel), by decide, by decide +kernel⟩, memI 653 (by decide +kernel) (by decide +kernel), memI 654 (by decide +kernel) (by decide +kernel)⟩
theorem fl_6_168 : Cond.fieldLink RX6 168 (TX8 2).1 (TX8 2).2.1 (TX8 2).2.2.1 ∈ gtbl := memI 126 (by decide +kernel) (by decide +kernel)
theorem fl_6_171 : Cond.fieldLink RX6 171 (TX6 9).1 (TX6 9).2.1 (TX6 9).2.2.1 ∈ gtbl := memI 157 (by decide +kernel) (by decide +kernel)
theorem fl_7_15 : Cond.fieldLink RX7 15 (TX7 1).1 (TX7 1).2.1 (TX7 1).2.2.1 ∈ gtbl := memI 106 (by decide +kernel) (by decide +kernel)
theorem fl_7_9 : Cond.fieldLink RX7 9 (TX7 0).1 (TX7 0).2.1 (TX7 0).2.2.1 ∈ gtbl := memI 104 (by decide +kernel) (by decide +kernel)
theorem fl_8_15 : Cond.fieldLink RX8 15 (TX8 3).1 (TX8 3).2.1 (TX8 3).2.2.1 ∈ gtbl := memI 127 (by decide +kernel) (by decide +kernel)
theorem ml_8_19 : Cond.methodLink RX8 19 yX8_advance ∈ gtbl := memI 515 (by decide +kernel) (by decide +kernel)
theorem fl_8_9 : Cond.fieldLink RX8 9 (TX8 0).1 (TX8 0).2.1 (TX8 0).2.2.1 ∈ gtbl := memI 122 (by decide +kernel) (by decide +kernel)
theorem fl_8_22 : Cond.fieldLink RX8 22 (TX7 1).1 (TX7 1).2.1 (TX7 1).2.2.1 ∈ gtbl := memI 107 (by decide +kernel) (by decide +kernel)
theorem ml_8_27 : Cond.methodLink RX8 27 yX8_skipBlanks ∈ gtbl := memI 519 (by decide +kernel) (by decide +kernel)
theorem wv_8_skipBlanks : WV yX8_skipBlanks cX8_skipBlanks 3 (some .int) 1 := ⟨⟨memI 522 (by decide +kernel) (by decide +kernel), memI 72 (by decide +kernel) (by decide +kernel), by decide, by decide +kernel⟩, memI 521 (by decide +kernel) (by decide +kernel), memI 0 (by decide +kernel) (by decide +kernel)⟩
theorem fl_8_31 : Cond.fieldLink RX8 31 (TX8 2).1 (TX8 2).2.1 (TX8 2).2.2.1 ∈ gtbl := memI 125 (by decide +kernel) (by decide +kernel)
theorem ml_8_34 : Cond.methodLink RX8 34 Lib.Math.min.name ∈ gtbl := memI 527 (by decide +kernel) (by decide +kernel)
theorem fl_8_40 : Cond.fieldLink RX8 40 (TX8 1).1 (TX8 1).2.1 (TX8 1).2.2.1 ∈ gtbl := memI 124 (by decide +kernel) (by decide +kernel)
theorem ml_8_43 : Cond.methodLink RX8 43 yX7_at ∈ gtbl := memI 523 (by decide +kernel) (by decide +kernel)
theorem wv_7_at : WV yX7_at cX7_at 2 (some .int) 1 := ⟨⟨memI 526 (by decide +kernel) (by decide +kernel), memI 70 (by decide +kernel) (by decide +kernel), by decide, by decide +kernel⟩, memI 524 (by decide +kernel) (by decide +kernel), memI 525 (by decide +kernel) (by decide +kernel)⟩
theorem ml_8_46 : Cond.methodLink RX8 46 yX8_isLetter ∈ gtbl := memI 530 (by decide +kernel) (by decide +kernel)
theorem ws_8_isLetter : WS yX8_isLetter cX8_isLetter 1 (some .boolean) 1 := ⟨⟨memI 532 (by decide +kernel) (by decide +kernel), memI 72 (by decide +kernel) (by decide +kernel), by decide, by decide +kernel⟩, memI 531 (by decide +kernel) (by decide +kernel)⟩
theorem ml_8_50 : Cond.methodLink RX8 50 yX8_isDigit ∈ gtbl := memI 533 (by decide +kernel) (by decide +kernel)
theorem ws_8_isDigit : WS yX8_isDigit cX8_isDigit 1 (some .boolean) 1 := ⟨⟨memI 535 (by decide +kernel) (by decide +kernel), memI 72 (by decide +kernel) (by decide +kernel), by decide, by decide +kernel⟩, memI 534 (by decide +kernel) (by decide +kernel)⟩
theorem ml_8_53 : Cond.methodLink RX8 53 yX8_readRun ∈ gtbl := memI 536 (by decide +kernel) (by decide +kernel)
theorem wv_8_readRun : WV yX8_readRun cX8_readRun 6 none 0 := ⟨⟨memI 539 (by decide +kernel) (by decide +kernel), memI 72 (by decide +kernel) (by decide +kernel), by decide, by decide +kernel⟩, memI 538 (by decide +kernel) (by decide +kernel), memI 1 (by decide +kernel) (by decide +kernel)⟩
theorem fl_8_65 : Cond.fieldLink RX8 65 (TX8 4).1 (TX8 4).2.1 (TX8 4).2.2.1 ∈ gtbl := memI 128 (by decide +kernel) (by decide +kernel)
theorem fl_9_39 : Cond.fieldLink RX9 39 (TX9 9).1 (TX9 9).2.1 (TX9 9).2.2.1 ∈ gtbl := memI 374 (by decide +kernel) (by decide +kernel)
theorem fl_9_9 : Cond.fieldLink RX9 9 (TX9 0).1 (TX9 0).2.1 (TX9 0).2.2.1 ∈ gtbl := memI 350 (by decide +kernel) (by decide +kernel)
theorem fl_9_18 : Cond.fieldLink RX9 18 (TX9 2).1 (TX9 2).2.1 (TX9 2).2.2.1 ∈ gtbl := memI 355 (by decide +kernel) (by decide +kernel)
theorem fl_9_15 : Cond.fieldLink RX9 15 (TX9 1).1 (TX9 1).2.1 (TX9 1).2.2.1 ∈ gtbl := memI 353 (by decide +kernel) (by decide +kernel)
theorem fl_9_21 : Cond.fieldLink RX9 21 (TX9 3).1 (TX9 3).2.1 (TX9 3).2.2.1 ∈ gtbl := memI 356 (by decide +kernel) (by decide +kernel)
theorem fl_9_24 : Cond.fieldLink RX9 24 (TX9 4).1 (TX9 4).2.1 (TX9 4).2.2.1 ∈ gtbl := memI 358 (by decide +kernel) (by decide +kernel)
theorem fl_9_27 : Cond.fieldLink RX9 27 (TX9 5).1 (TX9 5).2.1 (TX9 5).2.2.1 ∈ gtbl := memI 362 (by decide +kernel) (by decide +kernel)
theorem fl_9_30 : Cond.fieldLink RX9 30 (TX9 6).1 (TX9 6).2.1 (TX9 6).2.2.1 ∈ gtbl := memI 365 (by decide +kernel) (by decide +kernel)
theorem fl_9_33 : Cond.fieldLink RX9 33 (TX9 7).1 (TX9 7).2.1 (TX9 7).2.2.1 ∈ gtbl := memI 368 (by decide +kernel) (by decide +kernel)
theorem fl_9_36 : Cond.fieldLink RX9 36 (TX9 8).1 (TX9 8).2.1 (TX9 8).2.2.1 ∈ gtbl := memI 371 (by decide +kernel) (by decide +kernel)
end
section
theorem dX0_keep_0 : decode cX0_keep 0 = .ok (.aload_n 0, 1) := by decide +kernel
theorem dX0_keep_1 : decode cX0_keep 1 = .ok (.getfield 21, 3) := by decide +kernel
theorem dX0_keep_4 : decode cX0_keep 4 = .ok (.ifCond .lt 12, 3) := by decide +kernel
theorem dX0_keep_7 : decode cX0_keep 7 = .ok (.aload_n 0, 1) := by decide +kernel
theorem dX0_keep_8 : decode cX0_keep 8 = .ok (.getfield 21, 3) := by decide +kernel
theorem dX0_keep_11 : decode cX0_keep 11 = .ok (.bipush 10, 2) := by decide +kernel
theorem dX0_keep_13 : decode cX0_keep 13 = .ok (.if_icmp .lt 8, 3) := by decide +kernel
theorem dX0_keep_16 : decode cX0_keep 16 = .ok (.aload_n 0, 1) := by decide +kernel
theorem dX0_keep_17 : decode cX0_keep 17 = .ok (.iconst 0, 1) := by decide +kernel
theorem dX0_keep_18 : decode cX0_keep 18 = .ok (.putfield 21, 3) := by decide +kernel
theorem dX0_keep_21 : decode cX0_keep 21 = .ok (.aload_n 0, 1) := by decide +kernel
theorem dX0_keep_22 : decode cX0_keep 22 = .ok (.getfield 9, 3) := by decide +kernel
theorem dX0_keep_25 : decode cX0_keep 25 = .ok (.aload_n 0, 1) := by decide +kernel
theorem dX0_keep_26 : decode cX0_keep 26 = .ok (.getfield 21, 3) := by decide +kernel
theorem dX0_keep_29 : decode cX0_keep 29 = .ok (.iload_n 1, 1) := by decide +kernel
theorem dX0_keep_30 : decode cX0_keep 30 = .ok (.iastore, 1) := by decide +kernel
theorem dX0_keep_31 : decode cX0_keep 31 = .ok (.aload_n 0, 1) := by decide +kernel
theorem dX0_keep_32 : decode cX0_keep 32 = .ok (.getfield 15, 3) := by decide +kernel
theorem dX0_keep_35 : decode cX0_keep 35 = .ok (.aload_n 0, 1) := by decide +kernel
theorem dX0_keep_36 : decode cX0_keep 36 = .ok (.getfield 21, 3) := by decide +kernel
theorem dX0_keep_39 : decode cX0_keep 39 = .ok (.iload_n 2, 1) := by decide +kernel
theorem dX0_keep_40 : decode cX0_keep 40 = .ok (.iastore, 1) := by decide +kernel
theorem dX0_keep_41 : decode cX0_keep 41 = .ok (.aload_n 0, 1) := by decide +kernel
theorem dX0_keep_42 : decode cX0_keep 42 = .ok (.getfield 18, 3) := by decide +kernel
theorem dX0_keep_45 : decode cX0_keep 45 = .ok (.aload_n 0, 1) := by decide +kernel
theorem dX0_keep_46 : decode cX0_keep 46 = .ok (.getfield 21, 3) := by decide +kernel
theorem dX0_keep_49 : decode cX0_keep 49 = .ok (.iload_n 3, 1) := by decide +kernel
theorem dX0_keep_50 : decode cX0_keep 50 = .ok (.iastore, 1) := by decide +kernel
theorem dX0_keep_51 : decode cX0_keep 51 = .ok (.aload_n 0, 1) := by decide +kernel
theorem dX0_keep_52 : decode cX0_keep 52 = .ok (.aload_n 0, 1) := by decide +kernel
theorem dX0_keep_53 : decode cX0_keep 53 = .ok (.getfield 21, 3) := by decide +kernel
theorem dX0_keep_56 : decode cX0_keep 56 = .ok (.iconst 1, 1) := by decide +kernel
theorem dX0_keep_57 : decode cX0_keep 57 = .ok (.iadd, 1) := by decide +kernel
theorem dX0_keep_58 : decode cX0_keep 58 = .ok (.bipush 10, 2) := by decide +kernel
theorem dX0_keep_60 : decode cX0_keep 60 = .ok (.irem, 1) := by decide +kernel
theorem dX0_keep_61 : decode cX0_keep 61 = .ok (.putfield 21, 3) := by decide +kernel
theorem dX0_keep_64 : decode cX0_keep 64 = .ok (.aload_n 0, 1) := by decide +kernel
theorem dX0_keep_65 : decode cX0_keep 65 = .ok (.aload_n 0, 1) := by decide +kernel
theorem dX0_keep_66 : decode cX0_keep 66 = .ok (.getfield 25, 3) := by decide +kernel
theorem dX0_keep_69 : decode cX0_keep 69 = .ok (.iconst 1, 1) := by decide +kernel
theorem dX0_keep_70 : decode cX0_keep 70 = .ok (.iadd, 1) := by decide +kernel
theorem dX0_keep_71 : decode cX0_keep 71 = .ok (.bipush 10, 2) := by decide +kernel
theorem dX0_keep_73 : decode cX0_keep 73 = .ok (.invokestatic 28, 3) := by decide +kernel
theorem dX0_keep_76 : decode cX0_keep 76 = .ok (.putfield 25, 3) := by decide +kernel
theorem dX0_keep_79 : decode cX0_keep 79 = .ok (.return_, 1) := by decide +kernel
theorem dX0_takeLatest_0 : decode cX0_takeLatest 0 = .ok (.aload_n 0, 1) := by decide +kernel
theorem dX0_takeLatest_1 : decode cX0_takeLatest 1 = .ok (.iconst 0, 1) := by decide +kernel
theorem dX0_takeLatest_2 : decode cX0_takeLatest 2 = .ok (.aload_n 0, 1) := by decide +kernel
theorem dX0_takeLatest_3 : decode cX0_takeLatest 3 = .ok (.getfield 21, 3) := by decide +kernel
theorem dX0_takeLatest_6 : decode cX0_takeLatest 6 = .ok (.invokestatic 34, 3) := by decide +kernel
theorem dX0_takeLatest_9 : decode cX0_takeLatest 9 = .ok (.bipush 10, 2) := by decide +kernel
theorem dX0_takeLatest_11 : decode cX0_takeLatest 11 = .ok (.iadd, 1) := by decide +kernel
theorem dX0_takeLatest_12 : decode cX0_takeLatest 12 = .ok (.iconst 1, 1) := by decide +kernel
theorem dX0_takeLatest_13 : decode cX0_takeLatest 13 = .ok (.isub, 1) := by decide +kernel
theorem dX0_takeLatest_14 : decode cX0_takeLatest 14 = .ok (.bipush 10, 2) := by decide +kernel
theorem dX0_takeLatest_16 : decode cX0_takeLatest 16 = .ok (.irem, 1) := by decide +kernel
theorem dX0_takeLatest_17 : decode cX0_takeLatest 17 = .ok (.putfield 21, 3) := by decide +kernel
theorem dX0_takeLatest_20 : decode cX0_takeLatest 20 = .ok (.aload_n 0, 1) := by decide +kernel
theorem dX0_takeLatest_21 : decode cX0_takeLatest 21 = .ok (.dup, 1) := by decide +kernel
theorem dX0_takeLatest_22 : decode cX0_takeLatest 22 = .ok (.getfield 25, 3) := by decide +kernel
theorem dX0_takeLatest_25 : decode cX0_takeLatest 25 = .ok (.iconst 1, 1) := by decide +kernel
theorem dX0_takeLatest_26 : decode cX0_takeLatest 26 = .ok (.isub, 1) := by decide +kernel
theorem dX0_takeLatest_27 : decode cX0_takeLatest 27 = .ok (.putfield 25, 3) := by decide +kernel
theorem dX0_takeLatest_30 : decode cX0_takeLatest 30 = .ok (.aload_n 0, 1) := by decide +kernel
theorem dX0_takeLatest_31 : decode cX0_takeLatest 31 = .ok (.getfield 21, 3) := by decide +kernel
theorem dX0_takeLatest_34 : decode cX0_takeLatest 34 = .ok (.ireturn, 1) := by decide +kernel
end
section
theorem dX1_callBack_0 : decode cX1_callBack 0 = .ok (.iconst 0, 1) := by decide +kernel
theorem dX1_callBack_1 : decode cX1_callBack 1 = .ok (.istore_n 2, 1) := by decide +kernel
theorem dX1_callBack_2 : decode cX1_callBack 2 = .ok (.iload_n 2, 1) := by decide +kernel
theorem dX1_callBack_3 : decode cX1_callBack 3 = .ok (.aload_n 0, 1) := by decide +kernel
theorem dX1_callBack_4 : decode cX1_callBack 4 = .ok (.getfield 28, 3) := by decide +kernel
theorem dX1_callBack_7 : decode cX1_callBack 7 = .ok (.getfield 144, 3) := by decide +kernel
theorem dX1_callBack_10 : decode cX1_callBack 10 = .ok (.if_icmp .ge 38, 3) := by decide +kernel
theorem dX1_callBack_13 : decode cX1_callBack 13 = .ok (.iload_n 1, 1) := by decide +kernel
theorem dX1_callBack_14 : decode cX1_callBack 14 = .ok (.iload_n 2, 1) := by decide +kernel
theorem dX1_callBack_15 : decode cX1_callBack 15 = .ok (.ishr, 1) := by decide +kernel
theorem dX1_callBack_16 : decode cX1_callBack 16 = .ok (.iconst 1, 1) := by decide +kernel
theorem dX1_callBack_17 : decode cX1_callBack 17 = .ok (.iand, 1) := by decide +kernel
theorem dX1_callBack_18 : decode cX1_callBack 18 = .ok (.ifCond .eq 24, 3) := by decide +kernel
theorem dX1_callBack_21 : decode cX1_callBack 21 = .ok (.aload_n 0, 1) := by decide +kernel
theorem dX1_callBack_22 : decode cX1_callBack 22 = .ok (.iload_n 2, 1) := by decide +kernel
theorem dX1_callBack_23 : decode cX1_callBack 23 = .ok (.invokevirtual 102, 3) := by decide +kernel
theorem dX1_callBack_26 : decode cX1_callBack 26 = .ok (.ifCond .eq 16, 3) := by decide +kernel
theorem dX1_callBack_29 : decode cX1_callBack 29 = .ok (.aload_n 0, 1) := by decide +kernel
theorem dX1_callBack_30 : decode cX1_callBack 30 = .ok (.aload_n 0, 1) := by decide +kernel
theorem dX1_callBack_31 : decode cX1_callBack 31 = .ok (.getfield 28, 3) := by decide +kernel
theorem dX1_callBack_34 : decode cX1_callBack 34 = .ok (.getfield 87, 3) := by decide +kernel
theorem dX1_callBack_37 : decode cX1_callBack 37 = .ok (.iload_n 2, 1) := by decide +kernel
theorem dX1_callBack_38 : decode cX1_callBack 38 = .ok (.iaload, 1) := by decide +kernel
theorem dX1_callBack_39 : decode cX1_callBack 39 = .ok (.invokevirtual 145, 3) := by decide +kernel
theorem dX1_callBack_42 : decode cX1_callBack 42 = .ok (.iinc 2 1, 3) := by decide +kernel
theorem dX1_callBack_45 : decode cX1_callBack 45 = .ok (.goto (-43), 3) := by decide +kernel
theorem dX1_callBack_48 : decode cX1_callBack 48 = .ok (.return_, 1) := by decide +kernel
theorem dX1_clear_0 : decode cX1_clear 0 = .ok (.aload_n 0, 1) := by decide +kernel
theorem dX1_clear_1 : decode cX1_clear 1 = .ok (.getfield 12, 3) := by decide +kernel
theorem dX1_clear_4 : decode cX1_clear 4 = .ok (.invokevirtual 46, 3) := by decide +kernel
theorem dX1_clear_7 : decode cX1_clear 7 = .ok (.aload_n 0, 1) := by decide +kernel
theorem dX1_clear_8 : decode cX1_clear 8 = .ok (.getfield 21, 3) := by decide +kernel
theorem dX1_clear_11 : decode cX1_clear 11 = .ok (.invokevirtual 49, 3) := by decide +kernel
theorem dX1_clear_14 : decode cX1_clear 14 = .ok (.aload_n 0, 1) := by decide +kernel
theorem dX1_clear_15 : decode cX1_clear 15 = .ok (.getfield 28, 3) := by decide +kernel
theorem dX1_clear_18 : decode cX1_clear 18 = .ok (.invokevirtual 50, 3) := by decide +kernel
theorem dX1_clear_21 : decode cX1_clear 21 = .ok (.aload_n 0, 1) := by decide +kernel
theorem dX1_clear_22 : decode cX1_clear 22 = .ok (.getfield 35, 3) := by decide +kernel
theorem dX1_clear_25 : decode cX1_clear 25 = .ok (.iconst 0, 1) := by decide +kernel
theorem dX1_clear_26 : decode cX1_clear 26 = .ok (.putfield 51, 3) := by decide +kernel
theorem dX1_clear_29 : decode cX1_clear 29 = .ok (.aload_n 0, 1) := by decide +kernel
theorem dX1_clear_30 : decode cX1_clear 30 = .ok (.getfield 42, 3) := by decide +kernel
theorem dX1_clear_33 : decode cX1_clear 33 = .ok (.iconst 0, 1) := by decide +kernel
theorem dX1_clear_34 : decode cX1_clear 34 = .ok (.putfield 55, 3) := by decide +kernel
theorem dX1_clear_37 : decode cX1_clear 37 = .ok (.aload_n 0, 1) := by decide +kernel
theorem dX1_clear_38 : decode cX1_clear 38 = .ok (.iconst 0, 1) := by decide +kernel
theorem dX1_clear_39 : decode cX1_clear 39 = .ok (.putfield 58, 3) := by decide +kernel
theorem dX1_clear_42 : decode cX1_clear 42 = .ok (.return_, 1) := by decide +kernel
theorem dX1_finish_0 : decode cX1_finish 0 = .ok (.aload_n 0, 1) := by decide +kernel
theorem dX1_finish_1 : decode cX1_finish 1 = .ok (.getfield 35, 3) := by decide +kernel
theorem dX1_finish_4 : decode cX1_finish 4 = .ok (.iload_n 1, 1) := by decide +kernel
theorem dX1_finish_5 : decode cX1_finish 5 = .ok (.invokevirtual 65, 3) := by decide +kernel
theorem dX1_finish_8 : decode cX1_finish 8 = .ok (.ifCond .eq 22, 3) := by decide +kernel
theorem dX1_finish_11 : decode cX1_finish 11 = .ok (.aload_n 0, 1) := by decide +kernel
theorem dX1_finish_12 : decode cX1_finish 12 = .ok (.getfield 28, 3) := by decide +kernel
theorem dX1_finish_15 : decode cX1_finish 15 = .ok (.aload_n 0, 1) := by decide +kernel
theorem dX1_finish_16 : decode cX1_finish 16 = .ok (.getfield 35, 3) := by decide +kernel
theorem dX1_finish_19 : decode cX1_finish 19 = .ok (.getfield 66, 3) := by decide +kernel
theorem dX1_finish_22 : decode cX1_finish 22 = .ok (.iload_n 1, 1) := by decide +kernel
theorem dX1_finish_23 : decode cX1_finish 23 = .ok (.iaload, 1) := by decide +kernel
theorem dX1_finish_24 : decode cX1_finish 24 = .ok (.invokevirtual 70, 3) := by decide +kernel
theorem dX1_finish_27 : decode cX1_finish 27 = .ok (.ifCond .ne 4, 3) := by decide +kernel
theorem dX1_finish_30 : decode cX1_finish 30 = .ok (.return_, 1) := by decide +kernel
theorem dX1_finish_31 : decode cX1_finish 31 = .ok (.aload_n 0, 1) := by decide +kernel
theorem dX1_finish_32 : decode cX1_finish 32 = .ok (.getfield 35, 3) := by decide +kernel
theorem dX1_finish_35 : decode cX1_finish 35 = .ok (.getfield 66, 3) := by decide +kernel
theorem dX1_finish_38 : decode cX1_finish 38 = .ok (.iload_n 1, 1) := by decide +kernel
theorem dX1_finish_39 : decode cX1_finish 39 = .ok (.iaload, 1) := by decide +kernel
theorem dX1_finish_40 : decode cX1_finish 40 = .ok (.istore_n 2, 1) := by decide +kernel
theorem dX1_finish_41 : decode cX1_finish 41 = .ok (.aload_n 0, 1) := by decide +kernel
theorem dX1_finish_42 : decode cX1_finish 42 = .ok (.iload_n 1, 1) := by decide +kernel
theorem dX1_finish_43 : decode cX1_finish 43 = .ok (.invokevirtual 105, 3) := by decide +kernel
theorem dX1_finish_46 : decode cX1_finish 46 = .ok (.ifCond .eq 7, 3) := by decide +kernel
theorem dX1_finish_49 : decode cX1_finish 49 = .ok (.iconst 1, 1) := by decide +kernel
theorem dX1_finish_50 : decode cX1_finish 50 = .ok (.goto 4, 3) := by decide +kernel
theorem dX1_finish_53 : decode cX1_finish 53 = .ok (.iconst 0, 1) := by decide +kernel
theorem dX1_finish_54 : decode cX1_finish 54 = .ok (.istore_n 3, 1) := by decide +kernel
theorem dX1_finish_55 : decode cX1_finish 55 = .ok (.aload_n 0, 1) := by decide +kernel
theorem dX1_finish_56 : decode cX1_finish 56 = .ok (.getfield 35, 3) := by decide +kernel
theorem dX1_finish_59 : decode cX1_finish 59 = .ok (.getfield 90, 3) := by decide +kernel
theorem dX1_finish_62 : decode cX1_finish 62 = .ok (.iload_n 1, 1) := by decide +kernel
theorem dX1_finish_63 : decode cX1_finish 63 = .ok (.iconst 2, 1) := by decide +kernel
theorem dX1_finish_64 : decode cX1_finish 64 = .ok (.iastore, 1) := by decide +kernel
theorem dX1_finish_65 : decode cX1_finish 65 = .ok (.aload_n 0, 1) := by decide +kernel
theorem dX1_finish_66 : decode cX1_finish 66 = .ok (.getfield 35, 3) := by decide +kernel
theorem dX1_finish_69 : decode cX1_finish 69 = .ok (.getfield 111, 3) := by decide +kernel
theorem dX1_finish_72 : decode cX1_finish 72 = .ok (.iload_n 1, 1) := by decide +kernel
theorem dX1_finish_73 : decode cX1_finish 73 = .ok (.aload_n 0, 1) := by decide +kernel
theorem dX1_finish_74 : decode cX1_finish 74 = .ok (.getfield 58, 3) := by decide +kernel
theorem dX1_finish_77 : decode cX1_finish 77 = .ok (.iastore, 1) := by decide +kernel
theorem dX1_finish_78 : decode cX1_finish 78 = .ok (.aload_n 0, 1) := by decide +kernel
theorem dX1_finish_79 : decode cX1_finish 79 = .ok (.getfield 35, 3) := by decide +kernel
theorem dX1_finish_82 : decode cX1_finish 82 = .ok (.getfield 114, 3) := by decide +kernel
theorem dX1_finish_85 : decode cX1_finish 85 = .ok (.iload_n 1, 1) := by decide +kernel
theorem dX1_finish_86 : decode cX1_finish 86 = .ok (.iload_n 3, 1) := by decide +kernel
theorem dX1_finish_87 : decode cX1_finish 87 = .ok (.iastore, 1) := by decide +kernel
theorem dX1_finish_88 : decode cX1_finish 88 = .ok (.aload_n 0, 1) := by decide +kernel
theorem dX1_finish_89 : decode cX1_finish 89 = .ok (.getfield 21, 3) := by decide +kernel
theorem dX1_finish_92 : decode cX1_finish 92 = .ok (.aload_n 0, 1) := by decide +kernel
theorem dX1_finish_93 : decode cX1_finish 93 = .ok (.getfield 35, 3) := by decide +kernel
theorem dX1_finish_96 : decode cX1_finish 96 = .ok (.getfield 93, 3) := by decide +kernel
theorem dX1_finish_99 : decode cX1_finish 99 = .ok (.iload_n 1, 1) := by decide +kernel
theorem dX1_finish_100 : decode cX1_finish 100 = .ok (.iaload, 1) := by decide +kernel
theorem dX1_finish_101 : decode cX1_finish 101 = .ok (.iload_n 3, 1) := by decide +kernel
theorem dX1_finish_102 : decode cX1_finish 102 = .ok (.iconst 1, 1) := by decide +kernel
theorem dX1_finish_103 : decode cX1_finish 103 = .ok (.invokevirtual 117, 3) := by decide +kernel
theorem dX1_finish_106 : decode cX1_finish 106 = .ok (.aload_n 0, 1) := by decide +kernel
theorem dX1_finish_107 : decode cX1_finish 107 = .ok (.getfield 28, 3) := by decide +kernel
theorem dX1_finish_110 : decode cX1_finish 110 = .ok (.getfield 121, 3) := by decide +kernel
theorem dX1_finish_113 : decode cX1_finish 113 = .ok (.iload_n 2, 1) := by decide +kernel
theorem dX1_finish_114 : decode cX1_finish 114 = .ok (.dup2, 1) := by decide +kernel
theorem dX1_finish_115 : decode cX1_finish 115 = .ok (.iaload, 1) := by decide +kernel
theorem dX1_finish_116 : decode cX1_finish 116 = .ok (.iload_n 3, 1) := by decide +kernel
theorem dX1_finish_117 : decode cX1_finish 117 = .ok (.iadd, 1) := by decide +kernel
theorem dX1_finish_118 : decode cX1_finish 118 = .ok (.iastore, 1) := by decide +kernel
theorem dX1_finish_119 : decode cX1_finish 119 = .ok (.aload_n 0, 1) := by decide +kernel
theorem dX1_finish_120 : decode cX1_finish 120 = .ok (.getfield 28, 3) := by decide +kernel
theorem dX1_finish_123 : decode cX1_finish 123 = .ok (.getfield 87, 3) := by decide +kernel
theorem dX1_finish_126 : decode cX1_finish 126 = .ok (.iload_n 2, 1) := by decide +kernel
theorem dX1_finish_127 : decode cX1_finish 127 = .ok (.iconst (-1), 1) := by decide +kernel
theorem dX1_finish_128 : decode cX1_finish 128 = .ok (.iastore, 1) := by decide +kernel
theorem dX1_finish_129 : decode cX1_finish 129 = .ok (.aload_n 0, 1) := by decide +kernel
theorem dX1_finish_130 : decode cX1_finish 130 = .ok (.getfield 28, 3) := by decide +kernel
theorem dX1_finish_133 : decode cX1_finish 133 = .ok (.getfield 124, 3) := by decide +kernel
theorem dX1_finish_136 : decode cX1_finish 136 = .ok (.iload_n 2, 1) := by decide +kernel
theorem dX1_finish_137 : decode cX1_finish 137 = .ok (.dup2, 1) := by decide +kernel
theorem dX1_finish_138 : decode cX1_finish 138 = .ok (.iaload, 1) := by decide +kernel
theorem dX1_finish_139 : decode cX1_finish 139 = .ok (.iconst 1, 1) := by decide +kernel
theorem dX1_finish_140 : decode cX1_finish 140 = .ok (.iadd, 1) := by decide +kernel
theorem dX1_finish_141 : decode cX1_finish 141 = .ok (.iastore, 1) := by decide +kernel
theorem dX1_finish_142 : decode cX1_finish 142 = .ok (.return_, 1) := by decide +kernel
theorem dX1_isLate_0 : decode cX1_isLate 0 = .ok (.aload_n 0, 1) := by decide +kernel
theorem dX1_isLate_1 : decode cX1_isLate 1 = .ok (.getfield 35, 3) := by decide +kernel
theorem dX1_isLate_4 : decode cX1_isLate 4 = .ok (.iload_n 1, 1) := by decide +kernel
theorem dX1_isLate_5 : decode cX1_isLate 5 = .ok (.invokevirtual 65, 3) := by decide +kernel
theorem dX1_isLate_8 : decode cX1_isLate 8 = .ok (.ifCond .eq 22, 3) := by decide +kernel
theorem dX1_isLate_11 : decode cX1_isLate 11 = .ok (.aload_n 0, 1) := by decide +kernel
theorem dX1_isLate_12 : decode cX1_isLate 12 = .ok (.getfield 21, 3) := by decide +kernel
theorem dX1_isLate_15 : decode cX1_isLate 15 = .ok (.aload_n 0, 1) := by decide +kernel
theorem dX1_isLate_16 : decode cX1_isLate 16 = .ok (.getfield 35, 3) := by decide +kernel
theorem dX1_isLate_19 : decode cX1_isLate 19 = .ok (.getfield 93, 3) := by decide +kernel
theorem dX1_isLate_22 : decode cX1_isLate 22 = .ok (.iload_n 1, 1) := by decide +kernel
theorem dX1_isLate_23 : decode cX1_isLate 23 = .ok (.iaload, 1) := by decide +kernel
theorem dX1_isLate_24 : decode cX1_isLate 24 = .ok (.invokevirtual 61, 3) := by decide +kernel
theorem dX1_isLate_27 : decode cX1_isLate 27 = .ok (.ifCond .ne 5, 3) := by decide +kernel
theorem dX1_isLate_30 : decode cX1_isLate 30 = .ok (.iconst 0, 1) := by decide +kernel
theorem dX1_isLate_31 : decode cX1_isLate 31 = .ok (.ireturn, 1) := by decide +kernel
theorem dX1_isLate_32 : decode cX1_isLate 32 = .ok (.aload_n 0, 1) := by decide +kernel
theorem dX1_isLate_33 : decode cX1_isLate 33 = .ok (.getfield 58, 3) := by decide +kernel
theorem dX1_isLate_36 : decode cX1_isLate 36 = .ok (.aload_n 0, 1) := by decide +kernel
theorem dX1_isLate_37 : decode cX1_isLate 37 = .ok (.getfield 35, 3) := by decide +kernel
theorem dX1_isLate_40 : decode cX1_isLate 40 = .ok (.getfield 96, 3) := by decide +kernel
theorem dX1_isLate_43 : decode cX1_isLate 43 = .ok (.iload_n 1, 1) := by decide +kernel
theorem dX1_isLate_44 : decode cX1_isLate 44 = .ok (.iaload, 1) := by decide +kernel
theorem dX1_isLate_45 : decode cX1_isLate 45 = .ok (.isub, 1) := by decide +kernel
theorem dX1_isLate_46 : decode cX1_isLate 46 = .ok (.aload_n 0, 1) := by decide +kernel
theorem dX1_isLate_47 : decode cX1_isLate 47 = .ok (.getfield 21, 3) := by decide +kernel
theorem dX1_isLate_50 : decode cX1_isLate 50 = .ok (.getfield 99, 3) := by decide +kernel
theorem dX1_isLate_53 : decode cX1_isLate 53 = .ok (.aload_n 0, 1) := by decide +kernel
theorem dX1_isLate_54 : decode cX1_isLate 54 = .ok (.getfield 35, 3) := by decide +kernel
theorem dX1_isLate_57 : decode cX1_isLate 57 = .ok (.getfield 93, 3) := by decide +kernel
theorem dX1_isLate_60 : decode cX1_isLate 60 = .ok (.iload_n 1, 1) := by decide +kernel
theorem dX1_isLate_61 : decode cX1_isLate 61 = .ok (.iaload, 1) := by decide +kernel
theorem dX1_isLate_62 : decode cX1_isLate 62 = .ok (.iaload, 1) := by decide +kernel
theorem dX1_isLate_63 : decode cX1_isLate 63 = .ok (.if_icmp .le 7, 3) := by decide +kernel
theorem dX1_isLate_66 : decode cX1_isLate 66 = .ok (.iconst 1, 1) := by decide +kernel
theorem dX1_isLate_67 : decode cX1_isLate 67 = .ok (.goto 4, 3) := by decide +kernel
theorem dX1_isLate_70 : decode cX1_isLate 70 = .ok (.iconst 0, 1) := by decide +kernel
theorem dX1_isLate_71 : decode cX1_isLate 71 = .ok (.ireturn, 1) := by decide +kernel
theorem dX1_isOut_0 : decode cX1_isOut 0 = .ok (.aload_n 0, 1) := by decide +kernel
theorem dX1_isOut_1 : decode cX1_isOut 1 = .ok (.getfield 28, 3) := by decide +kernel
theorem dX1_isOut_4 : decode cX1_isOut 4 = .ok (.iload_n 1, 1) := by decide +kernel
theorem dX1_isOut_5 : decode cX1_isOut 5 = .ok (.invokevirtual 70, 3) := by decide +kernel
theorem dX1_isOut_8 : decode cX1_isOut 8 = .ok (.ifCond .ne 5, 3) := by decide +kernel
theorem dX1_isOut_11 : decode cX1_isOut 11 = .ok (.iconst 0, 1) := by decide +kernel
theorem dX1_isOut_12 : decode cX1_isOut 12 = .ok (.ireturn, 1) := by decide +kernel
theorem dX1_isOut_13 : decode cX1_isOut 13 = .ok (.aload_n 0, 1) := by decide +kernel
theorem dX1_isOut_14 : decode cX1_isOut 14 = .ok (.getfield 28, 3) := by decide +kernel
theorem dX1_isOut_17 : decode cX1_isOut 17 = .ok (.getfield 87, 3) := by decide +kernel
theorem dX1_isOut_20 : decode cX1_isOut 20 = .ok (.iload_n 1, 1) := by decide +kernel
theorem dX1_isOut_21 : decode cX1_isOut 21 = .ok (.iaload, 1) := by decide +kernel
theorem dX1_isOut_22 : decode cX1_isOut 22 = .ok (.istore_n 2, 1) := by decide +kernel
theorem dX1_isOut_23 : decode cX1_isOut 23 = .ok (.aload_n 0, 1) := by decide +kernel
theorem dX1_isOut_24 : decode cX1_isOut 24 = .ok (.getfield 35, 3) := by decide +kernel
theorem dX1_isOut_27 : decode cX1_isOut 27 = .ok (.iload_n 2, 1) := by decide +kernel
theorem dX1_isOut_28 : decode cX1_isOut 28 = .ok (.invokevirtual 65, 3) := by decide +kernel
theorem dX1_isOut_31 : decode cX1_isOut 31 = .ok (.ifCond .eq 20, 3) := by decide +kernel
theorem dX1_isOut_34 : decode cX1_isOut 34 = .ok (.aload_n 0, 1) := by decide +kernel
theorem dX1_isOut_35 : decode cX1_isOut 35 = .ok (.getfield 35, 3) := by decide +kernel
theorem dX1_isOut_38 : decode cX1_isOut 38 = .ok (.getfield 90, 3) := by decide +kernel
theorem dX1_isOut_41 : decode cX1_isOut 41 = .ok (.iload_n 2, 1) := by decide +kernel
theorem dX1_isOut_42 : decode cX1_isOut 42 = .ok (.iaload, 1) := by decide +kernel
theorem dX1_isOut_43 : decode cX1_isOut 43 = .ok (.iconst 1, 1) := by decide +kernel
theorem dX1_isOut_44 : decode cX1_isOut 44 = .ok (.if_icmp .ne 7, 3) := by decide +kernel
theorem dX1_isOut_47 : decode cX1_isOut 47 = .ok (.iconst 1, 1) := by decide +kernel
theorem dX1_isOut_48 : decode cX1_isOut 48 = .ok (.goto 4, 3) := by decide +kernel
theorem dX1_isOut_51 : decode cX1_isOut 51 = .ok (.iconst 0, 1) := by decide +kernel
theorem dX1_isOut_52 : decode cX1_isOut 52 = .ok (.ireturn, 1) := by decide +kernel
theorem dX1_judge_0 : decode cX1_judge 0 = .ok (.aload_n 0, 1) := by decide +kernel
theorem dX1_judge_1 : decode cX1_judge 1 = .ok (.iload_n 1, 1) := by decide +kernel
theorem dX1_judge_2 : decode cX1_judge 2 = .ok (.invokevirtual 102, 3) := by decide +kernel
theorem dX1_judge_5 : decode cX1_judge 5 = .ok (.ifCond .ne 5, 3) := by decide +kernel
theorem dX1_judge_8 : decode cX1_judge 8 = .ok (.iconst 1, 1) := by decide +kernel
theorem dX1_judge_9 : decode cX1_judge 9 = .ok (.ireturn, 1) := by decide +kernel
theorem dX1_judge_10 : decode cX1_judge 10 = .ok (.aload_n 0, 1) := by decide +kernel
theorem dX1_judge_11 : decode cX1_judge 11 = .ok (.getfield 28, 3) := by decide +kernel
theorem dX1_judge_14 : decode cX1_judge 14 = .ok (.getfield 87, 3) := by decide +kernel
theorem dX1_judge_17 : decode cX1_judge 17 = .ok (.iload_n 1, 1) := by decide +kernel
theorem dX1_judge_18 : decode cX1_judge 18 = .ok (.iaload, 1) := by decide +kernel
theorem dX1_judge_19 : decode cX1_judge 19 = .ok (.istore_n 3, 1) := by decide +kernel
theorem dX1_judge_20 : decode cX1_judge 20 = .ok (.aload_n 0, 1) := by decide +kernel
theorem dX1_judge_21 : decode cX1_judge 21 = .ok (.getfield 35, 3) := by decide +kernel
theorem dX1_judge_24 : decode cX1_judge 24 = .ok (.iload_n 3, 1) := by decide +kernel
theorem dX1_judge_25 : decode cX1_judge 25 = .ok (.invokevirtual 65, 3) := by decide +kernel
theorem dX1_judge_28 : decode cX1_judge 28 = .ok (.ifCond .eq 19, 3) := by decide +kernel
theorem dX1_judge_31 : decode cX1_judge 31 = .ok (.aload_n 0, 1) := by decide +kernel
theorem dX1_judge_32 : decode cX1_judge 32 = .ok (.getfield 35, 3) := by decide +kernel
theorem dX1_judge_35 : decode cX1_judge 35 = .ok (.getfield 71, 3) := by decide +kernel
theorem dX1_judge_38 : decode cX1_judge 38 = .ok (.iload_n 3, 1) := by decide +kernel
theorem dX1_judge_39 : decode cX1_judge 39 = .ok (.iaload, 1) := by decide +kernel
theorem dX1_judge_40 : decode cX1_judge 40 = .ok (.iload_n 2, 1) := by decide +kernel
theorem dX1_judge_41 : decode cX1_judge 41 = .ok (.ishr, 1) := by decide +kernel
theorem dX1_judge_42 : decode cX1_judge 42 = .ok (.iconst 1, 1) := by decide +kernel
theorem dX1_judge_43 : decode cX1_judge 43 = .ok (.iand, 1) := by decide +kernel
theorem dX1_judge_44 : decode cX1_judge 44 = .ok (.ifCond .ne 5, 3) := by decide +kernel
theorem dX1_judge_47 : decode cX1_judge 47 = .ok (.iconst 2, 1) := by decide +kernel
theorem dX1_judge_48 : decode cX1_judge 48 = .ok (.ireturn, 1) := by decide +kernel
theorem dX1_judge_49 : decode cX1_judge 49 = .ok (.aload_n 0, 1) := by decide +kernel
theorem dX1_judge_50 : decode cX1_judge 50 = .ok (.iload_n 3, 1) := by decide +kernel
theorem dX1_judge_51 : decode cX1_judge 51 = .ok (.invokevirtual 105, 3) := by decide +kernel
theorem dX1_judge_54 : decode cX1_judge 54 = .ok (.ifCond .eq 7, 3) := by decide +kernel
theorem dX1_judge_57 : decode cX1_judge 57 = .ok (.iconst 3, 1) := by decide +kernel
theorem dX1_judge_58 : decode cX1_judge 58 = .ok (.goto 4, 3) := by decide +kernel
theorem dX1_judge_61 : decode cX1_judge 61 = .ok (.iconst 0, 1) := by decide +kernel
theorem dX1_judge_62 : decode cX1_judge 62 = .ok (.ireturn, 1) := by decide +kernel
theorem dX1_reopen_0 : decode cX1_reopen 0 = .ok (.aload_n 0, 1) := by decide +kernel
theorem dX1_reopen_1 : decode cX1_reopen 1 = .ok (.getfield 35, 3) := by decide +kernel
theorem dX1_reopen_4 : decode cX1_reopen 4 = .ok (.iload_n 1, 1) := by decide +kernel
theorem dX1_reopen_5 : decode cX1_reopen 5 = .ok (.invokevirtual 65, 3) := by decide +kernel
theorem dX1_reopen_8 : decode cX1_reopen 8 = .ok (.ifCond .eq 22, 3) := by decide +kernel
theorem dX1_reopen_11 : decode cX1_reopen 11 = .ok (.aload_n 0, 1) := by decide +kernel
theorem dX1_reopen_12 : decode cX1_reopen 12 = .ok (.getfield 28, 3) := by decide +kernel
theorem dX1_reopen_15 : decode cX1_reopen 15 = .ok (.aload_n 0, 1) := by decide +kernel
theorem dX1_reopen_16 : decode cX1_reopen 16 = .ok (.getfield 35, 3) := by decide +kernel
theorem dX1_reopen_19 : decode cX1_reopen 19 = .ok (.getfield 66, 3) := by decide +kernel
theorem dX1_reopen_22 : decode cX1_reopen 22 = .ok (.iload_n 1, 1) := by decide +kernel
theorem dX1_reopen_23 : decode cX1_reopen 23 = .ok (.iaload, 1) := by decide +kernel
theorem dX1_reopen_24 : decode cX1_reopen 24 = .ok (.invokevirtual 70, 3) := by decide +kernel
theorem dX1_reopen_27 : decode cX1_reopen 27 = .ok (.ifCond .ne 4, 3) := by decide +kernel
theorem dX1_reopen_30 : decode cX1_reopen 30 = .ok (.return_, 1) := by decide +kernel
theorem dX1_reopen_31 : decode cX1_reopen 31 = .ok (.aload_n 0, 1) := by decide +kernel
theorem dX1_reopen_32 : decode cX1_reopen 32 = .ok (.getfield 35, 3) := by decide +kernel
theorem dX1_reopen_35 : decode cX1_reopen 35 = .ok (.getfield 66, 3) := by decide +kernel
theorem dX1_reopen_38 : decode cX1_reopen 38 = .ok (.iload_n 1, 1) := by decide +kernel
theorem dX1_reopen_39 : decode cX1_reopen 39 = .ok (.iaload, 1) := by decide +kernel
theorem dX1_reopen_40 : decode cX1_reopen 40 = .ok (.istore_n 2, 1) := by decide +kernel
theorem dX1_reopen_41 : decode cX1_reopen 41 = .ok (.aload_n 0, 1) := by decide +kernel
theorem dX1_reopen_42 : decode cX1_reopen 42 = .ok (.getfield 35, 3) := by decide +kernel
theorem dX1_reopen_45 : decode cX1_reopen 45 = .ok (.getfield 114, 3) := by decide +kernel
theorem dX1_reopen_48 : decode cX1_reopen 48 = .ok (.iload_n 1, 1) := by decide +kernel
theorem dX1_reopen_49 : decode cX1_reopen 49 = .ok (.iaload, 1) := by decide +kernel
theorem dX1_reopen_50 : decode cX1_reopen 50 = .ok (.istore_n 3, 1) := by decide +kernel
theorem dX1_reopen_51 : decode cX1_reopen 51 = .ok (.aload_n 0, 1) := by decide +kernel
theorem dX1_reopen_52 : decode cX1_reopen 52 = .ok (.getfield 35, 3) := by decide +kernel
theorem dX1_reopen_55 : decode cX1_reopen 55 = .ok (.getfield 90, 3) := by decide +kernel
theorem dX1_reopen_58 : decode cX1_reopen 58 = .ok (.iload_n 1, 1) := by decide +kernel
theorem dX1_reopen_59 : decode cX1_reopen 59 = .ok (.aload_n 0, 1) := by decide +kernel
theorem dX1_reopen_60 : decode cX1_reopen 60 = .ok (.getfield 35, 3) := by decide +kernel
theorem dX1_reopen_63 : decode cX1_reopen 63 = .ok (.getfield 93, 3) := by decide +kernel
theorem dX1_reopen_66 : decode cX1_reopen 66 = .ok (.iload_n 1, 1) := by decide +kernel
theorem dX1_reopen_67 : decode cX1_reopen 67 = .ok (.iaload, 1) := by decide +kernel
theorem dX1_reopen_68 : decode cX1_reopen 68 = .ok (.iconst (-1), 1) := by decide +kernel
theorem dX1_reopen_69 : decode cX1_reopen 69 = .ok (.if_icmp .ne 7, 3) := by decide +kernel
theorem dX1_reopen_72 : decode cX1_reopen 72 = .ok (.iconst 0, 1) := by decide +kernel
theorem dX1_reopen_73 : decode cX1_reopen 73 = .ok (.goto 4, 3) := by decide +kernel
theorem dX1_reopen_76 : decode cX1_reopen 76 = .ok (.iconst 1, 1) := by decide +kernel
theorem dX1_reopen_77 : decode cX1_reopen 77 = .ok (.iastore, 1) := by decide +kernel
theorem dX1_reopen_78 : decode cX1_reopen 78 = .ok (.aload_n 0, 1) := by decide +kernel
theorem dX1_reopen_79 : decode cX1_reopen 79 = .ok (.getfield 35, 3) := by decide +kernel
theorem dX1_reopen_82 : decode cX1_reopen 82 = .ok (.getfield 111, 3) := by decide +kernel
theorem dX1_reopen_85 : decode cX1_reopen 85 = .ok (.iload_n 1, 1) := by decide +kernel
theorem dX1_reopen_86 : decode cX1_reopen 86 = .ok (.iconst (-1), 1) := by decide +kernel
theorem dX1_reopen_87 : decode cX1_reopen 87 = .ok (.iastore, 1) := by decide +kernel
theorem dX1_reopen_88 : decode cX1_reopen 88 = .ok (.aload_n 0, 1) := by decide +kernel
theorem dX1_reopen_89 : decode cX1_reopen 89 = .ok (.getfield 35, 3) := by decide +kernel
theorem dX1_reopen_92 : decode cX1_reopen 92 = .ok (.getfield 114, 3) := by decide +kernel
theorem dX1_reopen_95 : decode cX1_reopen 95 = .ok (.iload_n 1, 1) := by decide +kernel
theorem dX1_reopen_96 : decode cX1_reopen 96 = .ok (.iconst 0, 1) := by decide +kernel
theorem dX1_reopen_97 : decode cX1_reopen 97 = .ok (.iastore, 1) := by decide +kernel
theorem dX1_reopen_98 : decode cX1_reopen 98 = .ok (.aload_n 0, 1) := by decide +kernel
theorem dX1_reopen_99 : decode cX1_reopen 99 = .ok (.getfield 21, 3) := by decide +kernel
theorem dX1_reopen_102 : decode cX1_reopen 102 = .ok (.aload_n 0, 1) := by decide +kernel
theorem dX1_reopen_103 : decode cX1_reopen 103 = .ok (.getfield 35, 3) := by decide +kernel
theorem dX1_reopen_106 : decode cX1_reopen 106 = .ok (.getfield 93, 3) := by decide +kernel
theorem dX1_reopen_109 : decode cX1_reopen 109 = .ok (.iload_n 1, 1) := by decide +kernel
theorem dX1_reopen_110 : decode cX1_reopen 110 = .ok (.iaload, 1) := by decide +kernel
theorem dX1_reopen_111 : decode cX1_reopen 111 = .ok (.iload_n 3, 1) := by decide +kernel
theorem dX1_reopen_112 : decode cX1_reopen 112 = .ok (.iconst (-1), 1) := by decide +kernel
theorem dX1_reopen_113 : decode cX1_reopen 113 = .ok (.invokevirtual 117, 3) := by decide +kernel
theorem dX1_reopen_116 : decode cX1_reopen 116 = .ok (.aload_n 0, 1) := by decide +kernel
theorem dX1_reopen_117 : decode cX1_reopen 117 = .ok (.getfield 28, 3) := by decide +kernel
theorem dX1_reopen_120 : decode cX1_reopen 120 = .ok (.getfield 121, 3) := by decide +kernel
theorem dX1_reopen_123 : decode cX1_reopen 123 = .ok (.iload_n 2, 1) := by decide +kernel
theorem dX1_reopen_124 : decode cX1_reopen 124 = .ok (.dup2, 1) := by decide +kernel
theorem dX1_reopen_125 : decode cX1_reopen 125 = .ok (.iaload, 1) := by decide +kernel
theorem dX1_reopen_126 : decode cX1_reopen 126 = .ok (.iload_n 3, 1) := by decide +kernel
theorem dX1_reopen_127 : decode cX1_reopen 127 = .ok (.isub, 1) := by decide +kernel
theorem dX1_reopen_128 : decode cX1_reopen 128 = .ok (.iastore, 1) := by decide +kernel
theorem dX1_reopen_129 : decode cX1_reopen 129 = .ok (.aload_n 0, 1) := by decide +kernel
theorem dX1_reopen_130 : decode cX1_reopen 130 = .ok (.getfield 28, 3) := by decide +kernel
theorem dX1_reopen_133 : decode cX1_reopen 133 = .ok (.getfield 87, 3) := by decide +kernel
theorem dX1_reopen_136 : decode cX1_reopen 136 = .ok (.iload_n 2, 1) := by decide +kernel
theorem dX1_reopen_137 : decode cX1_reopen 137 = .ok (.iload_n 1, 1) := by decide +kernel
theorem dX1_reopen_138 : decode cX1_reopen 138 = .ok (.iastore, 1) := by decide +kernel
theorem dX1_reopen_139 : decode cX1_reopen 139 = .ok (.aload_n 0, 1) := by decide +kernel
theorem dX1_reopen_140 : decode cX1_reopen 140 = .ok (.getfield 28, 3) := by decide +kernel
theorem dX1_reopen_143 : decode cX1_reopen 143 = .ok (.getfield 124, 3) := by decide +kernel
theorem dX1_reopen_146 : decode cX1_reopen 146 = .ok (.iload_n 2, 1) := by decide +kernel
theorem dX1_reopen_147 : decode cX1_reopen 147 = .ok (.dup2, 1) := by decide +kernel
theorem dX1_reopen_148 : decode cX1_reopen 148 = .ok (.iaload, 1) := by decide +kernel
theorem dX1_reopen_149 : decode cX1_reopen 149 = .ok (.iconst 1, 1) := by decide +kernel
theorem dX1_reopen_150 : decode cX1_reopen 150 = .ok (.isub, 1) := by decide +kernel
theorem dX1_reopen_151 : decode cX1_reopen 151 = .ok (.iastore, 1) := by decide +kernel
theorem dX1_reopen_152 : decode cX1_reopen 152 = .ok (.return_, 1) := by decide +kernel
theorem dX1_sendOut_0 : decode cX1_sendOut 0 = .ok (.aload_n 0, 1) := by decide +kernel
theorem dX1_sendOut_1 : decode cX1_sendOut 1 = .ok (.getfield 35, 3) := by decide +kernel
theorem dX1_sendOut_4 : decode cX1_sendOut 4 = .ok (.iload_n 1, 1) := by decide +kernel
theorem dX1_sendOut_5 : decode cX1_sendOut 5 = .ok (.invokevirtual 65, 3) := by decide +kernel
theorem dX1_sendOut_8 : decode cX1_sendOut 8 = .ok (.ifCond .eq 14, 3) := by decide +kernel
theorem dX1_sendOut_11 : decode cX1_sendOut 11 = .ok (.aload_n 0, 1) := by decide +kernel
theorem dX1_sendOut_12 : decode cX1_sendOut 12 = .ok (.getfield 21, 3) := by decide +kernel
theorem dX1_sendOut_15 : decode cX1_sendOut 15 = .ok (.iload_n 2, 1) := by decide +kernel
theorem dX1_sendOut_16 : decode cX1_sendOut 16 = .ok (.invokevirtual 61, 3) := by decide +kernel
theorem dX1_sendOut_19 : decode cX1_sendOut 19 = .ok (.ifCond .ne 5, 3) := by decide +kernel
theorem dX1_sendOut_22 : decode cX1_sendOut 22 = .ok (.iconst 0, 1) := by decide +kernel
theorem dX1_sendOut_23 : decode cX1_sendOut 23 = .ok (.ireturn, 1) := by decide +kernel
theorem dX1_sendOut_24 : decode cX1_sendOut 24 = .ok (.aload_n 0, 1) := by decide +kernel
theorem dX1_sendOut_25 : decode cX1_sendOut 25 = .ok (.getfield 35, 3) := by decide +kernel
theorem dX1_sendOut_28 : decode cX1_sendOut 28 = .ok (.getfield 90, 3) := by decide +kernel
theorem dX1_sendOut_31 : decode cX1_sendOut 31 = .ok (.iload_n 1, 1) := by decide +kernel
theorem dX1_sendOut_32 : decode cX1_sendOut 32 = .ok (.iconst 1, 1) := by decide +kernel
theorem dX1_sendOut_33 : decode cX1_sendOut 33 = .ok (.iastore, 1) := by decide +kernel
theorem dX1_sendOut_34 : decode cX1_sendOut 34 = .ok (.aload_n 0, 1) := by decide +kernel
theorem dX1_sendOut_35 : decode cX1_sendOut 35 = .ok (.getfield 35, 3) := by decide +kernel
theorem dX1_sendOut_38 : decode cX1_sendOut 38 = .ok (.getfield 93, 3) := by decide +kernel
theorem dX1_sendOut_41 : decode cX1_sendOut 41 = .ok (.iload_n 1, 1) := by decide +kernel
theorem dX1_sendOut_42 : decode cX1_sendOut 42 = .ok (.iload_n 2, 1) := by decide +kernel
theorem dX1_sendOut_43 : decode cX1_sendOut 43 = .ok (.iastore, 1) := by decide +kernel
theorem dX1_sendOut_44 : decode cX1_sendOut 44 = .ok (.aload_n 0, 1) := by decide +kernel
theorem dX1_sendOut_45 : decode cX1_sendOut 45 = .ok (.getfield 35, 3) := by decide +kernel
theorem dX1_sendOut_48 : decode cX1_sendOut 48 = .ok (.getfield 96, 3) := by decide +kernel
theorem dX1_sendOut_51 : decode cX1_sendOut 51 = .ok (.iload_n 1, 1) := by decide +kernel
theorem dX1_sendOut_52 : decode cX1_sendOut 52 = .ok (.aload_n 0, 1) := by decide +kernel
theorem dX1_sendOut_53 : decode cX1_sendOut 53 = .ok (.getfield 58, 3) := by decide +kernel
theorem dX1_sendOut_56 : decode cX1_sendOut 56 = .ok (.iastore, 1) := by decide +kernel
theorem dX1_sendOut_57 : decode cX1_sendOut 57 = .ok (.aload_n 0, 1) := by decide +kernel
theorem dX1_sendOut_58 : decode cX1_sendOut 58 = .ok (.getfield 21, 3) := by decide +kernel
theorem dX1_sendOut_61 : decode cX1_sendOut 61 = .ok (.getfield 108, 3) := by decide +kernel
theorem dX1_sendOut_64 : decode cX1_sendOut 64 = .ok (.iload_n 2, 1) := by decide +kernel
theorem dX1_sendOut_65 : decode cX1_sendOut 65 = .ok (.dup2, 1) := by decide +kernel
theorem dX1_sendOut_66 : decode cX1_sendOut 66 = .ok (.iaload, 1) := by decide +kernel
theorem dX1_sendOut_67 : decode cX1_sendOut 67 = .ok (.iconst 1, 1) := by decide +kernel
theorem dX1_sendOut_68 : decode cX1_sendOut 68 = .ok (.iadd, 1) := by decide +kernel
theorem dX1_sendOut_69 : decode cX1_sendOut 69 = .ok (.iastore, 1) := by decide +kernel
theorem dX1_sendOut_70 : decode cX1_sendOut 70 = .ok (.iconst 1, 1) := by decide +kernel
theorem dX1_sendOut_71 : decode cX1_sendOut 71 = .ok (.aload_n 0, 1) := by decide +kernel
theorem dX1_sendOut_72 : decode cX1_sendOut 72 = .ok (.getfield 35, 3) := by decide +kernel
theorem dX1_sendOut_75 : decode cX1_sendOut 75 = .ok (.getfield 66, 3) := by decide +kernel
theorem dX1_sendOut_78 : decode cX1_sendOut 78 = .ok (.iload_n 1, 1) := by decide +kernel
theorem dX1_sendOut_79 : decode cX1_sendOut 79 = .ok (.iaload, 1) := by decide +kernel
theorem dX1_sendOut_80 : decode cX1_sendOut 80 = .ok (.ishl, 1) := by decide +kernel
theorem dX1_sendOut_81 : decode cX1_sendOut 81 = .ok (.ireturn, 1) := by decide +kernel
theorem dX1_suits_0 : decode cX1_suits 0 = .ok (.aload_n 0, 1) := by decide +kernel
theorem dX1_suits_1 : decode cX1_suits 1 = .ok (.getfield 21, 3) := by decide +kernel
theorem dX1_suits_4 : decode cX1_suits 4 = .ok (.iload_n 1, 1) := by decide +kernel
theorem dX1_suits_5 : decode cX1_suits 5 = .ok (.invokevirtual 61, 3) := by decide +kernel
theorem dX1_suits_8 : decode cX1_suits 8 = .ok (.ifCond .eq 33, 3) := by decide +kernel
theorem dX1_suits_11 : decode cX1_suits 11 = .ok (.aload_n 0, 1) := by decide +kernel
theorem dX1_suits_12 : decode cX1_suits 12 = .ok (.getfield 35, 3) := by decide +kernel
theorem dX1_suits_15 : decode cX1_suits 15 = .ok (.iload_n 2, 1) := by decide +kernel
theorem dX1_suits_16 : decode cX1_suits 16 = .ok (.invokevirtual 65, 3) := by decide +kernel
theorem dX1_suits_19 : decode cX1_suits 19 = .ok (.ifCond .eq 22, 3) := by decide +kernel
theorem dX1_suits_22 : decode cX1_suits 22 = .ok (.aload_n 0, 1) := by decide +kernel
theorem dX1_suits_23 : decode cX1_suits 23 = .ok (.getfield 28, 3) := by decide +kernel
theorem dX1_suits_26 : decode cX1_suits 26 = .ok (.aload_n 0, 1) := by decide +kernel
theorem dX1_suits_27 : decode cX1_suits 27 = .ok (.getfield 35, 3) := by decide +kernel
theorem dX1_suits_30 : decode cX1_suits 30 = .ok (.getfield 66, 3) := by decide +kernel
theorem dX1_suits_33 : decode cX1_suits 33 = .ok (.iload_n 2, 1) := by decide +kernel
theorem dX1_suits_34 : decode cX1_suits 34 = .ok (.iaload, 1) := by decide +kernel
theorem dX1_suits_35 : decode cX1_suits 35 = .ok (.invokevirtual 70, 3) := by decide +kernel
theorem dX1_suits_38 : decode cX1_suits 38 = .ok (.ifCond .ne 5, 3) := by decide +kernel
theorem dX1_suits_41 : decode cX1_suits 41 = .ok (.iconst 0, 1) := by decide +kernel
theorem dX1_suits_42 : decode cX1_suits 42 = .ok (.ireturn, 1) := by decide +kernel
theorem dX1_suits_43 : decode cX1_suits 43 = .ok (.aload_n 0, 1) := by decide +kernel
theorem dX1_suits_44 : decode cX1_suits 44 = .ok (.getfield 35, 3) := by decide +kernel
theorem dX1_suits_47 : decode cX1_suits 47 = .ok (.getfield 66, 3) := by decide +kernel
theorem dX1_suits_50 : decode cX1_suits 50 = .ok (.iload_n 2, 1) := by decide +kernel
theorem dX1_suits_51 : decode cX1_suits 51 = .ok (.iaload, 1) := by decide +kernel
theorem dX1_suits_52 : decode cX1_suits 52 = .ok (.istore_n 3, 1) := by decide +kernel
theorem dX1_suits_53 : decode cX1_suits 53 = .ok (.aload_n 0, 1) := by decide +kernel
theorem dX1_suits_54 : decode cX1_suits 54 = .ok (.getfield 35, 3) := by decide +kernel
theorem dX1_suits_57 : decode cX1_suits 57 = .ok (.getfield 71, 3) := by decide +kernel
theorem dX1_suits_60 : decode cX1_suits 60 = .ok (.iload_n 2, 1) := by decide +kernel
theorem dX1_suits_61 : decode cX1_suits 61 = .ok (.iaload, 1) := by decide +kernel
theorem dX1_suits_62 : decode cX1_suits 62 = .ok (.iconst 1, 1) := by decide +kernel
theorem dX1_suits_63 : decode cX1_suits 63 = .ok (.aload_n 0, 1) := by decide +kernel
theorem dX1_suits_64 : decode cX1_suits 64 = .ok (.getfield 28, 3) := by decide +kernel
theorem dX1_suits_67 : decode cX1_suits 67 = .ok (.getfield 74, 3) := by decide +kernel
theorem dX1_suits_70 : decode cX1_suits 70 = .ok (.iload_n 3, 1) := by decide +kernel
theorem dX1_suits_71 : decode cX1_suits 71 = .ok (.iaload, 1) := by decide +kernel
theorem dX1_suits_72 : decode cX1_suits 72 = .ok (.ishl, 1) := by decide +kernel
theorem dX1_suits_73 : decode cX1_suits 73 = .ok (.iconst (-1), 1) := by decide +kernel
theorem dX1_suits_74 : decode cX1_suits 74 = .ok (.ixor, 1) := by decide +kernel
theorem dX1_suits_75 : decode cX1_suits 75 = .ok (.iand, 1) := by decide +kernel
theorem dX1_suits_76 : decode cX1_suits 76 = .ok (.istore 4, 2) := by decide +kernel
theorem dX1_suits_78 : decode cX1_suits 78 = .ok (.aload_n 0, 1) := by decide +kernel
theorem dX1_suits_79 : decode cX1_suits 79 = .ok (.getfield 21, 3) := by decide +kernel
theorem dX1_suits_82 : decode cX1_suits 82 = .ok (.iload_n 1, 1) := by decide +kernel
theorem dX1_suits_83 : decode cX1_suits 83 = .ok (.iload 4, 2) := by decide +kernel
theorem dX1_suits_85 : decode cX1_suits 85 = .ok (.invokevirtual 77, 3) := by decide +kernel
theorem dX1_suits_88 : decode cX1_suits 88 = .ok (.ifCond .eq 27, 3) := by decide +kernel
theorem dX1_suits_91 : decode cX1_suits 91 = .ok (.aload_n 0, 1) := by decide +kernel
theorem dX1_suits_92 : decode cX1_suits 92 = .ok (.getfield 21, 3) := by decide +kernel
theorem dX1_suits_95 : decode cX1_suits 95 = .ok (.iload_n 1, 1) := by decide +kernel
theorem dX1_suits_96 : decode cX1_suits 96 = .ok (.aload_n 0, 1) := by decide +kernel
theorem dX1_suits_97 : decode cX1_suits 97 = .ok (.getfield 28, 3) := by decide +kernel
theorem dX1_suits_100 : decode cX1_suits 100 = .ok (.getfield 81, 3) := by decide +kernel
theorem dX1_suits_103 : decode cX1_suits 103 = .ok (.iload_n 3, 1) := by decide +kernel
theorem dX1_suits_104 : decode cX1_suits 104 = .ok (.iaload, 1) := by decide +kernel
theorem dX1_suits_105 : decode cX1_suits 105 = .ok (.invokevirtual 84, 3) := by decide +kernel
theorem dX1_suits_108 : decode cX1_suits 108 = .ok (.ifCond .eq 7, 3) := by decide +kernel
theorem dX1_suits_111 : decode cX1_suits 111 = .ok (.iconst 1, 1) := by decide +kernel
theorem dX1_suits_112 : decode cX1_suits 112 = .ok (.goto 4, 3) := by decide +kernel
theorem dX1_suits_115 : decode cX1_suits 115 = .ok (.iconst 0, 1) := by decide +kernel
theorem dX1_suits_116 : decode cX1_suits 116 = .ok (.ireturn, 1) := by decide +kernel
theorem dX1_takeBack_0 : decode cX1_takeBack 0 = .ok (.iload_n 1, 1) := by decide +kernel
theorem dX1_takeBack_1 : decode cX1_takeBack 1 = .ok (.tableswitch 81 0 4 #[35, 43, 51, 59, 68], 35) := by decide +kernel
theorem dX1_takeBack_36 : decode cX1_takeBack 36 = .ok (.aload_n 0, 1) := by decide +kernel
theorem dX1_takeBack_37 : decode cX1_takeBack 37 = .ok (.iload_n 2, 1) := by decide +kernel
theorem dX1_takeBack_38 : decode cX1_takeBack 38 = .ok (.invokevirtual 127, 3) := by decide +kernel
theorem dX1_takeBack_41 : decode cX1_takeBack 41 = .ok (.goto 51, 3) := by decide +kernel
theorem dX1_takeBack_44 : decode cX1_takeBack 44 = .ok (.aload_n 0, 1) := by decide +kernel
theorem dX1_takeBack_45 : decode cX1_takeBack 45 = .ok (.iload_n 3, 1) := by decide +kernel
theorem dX1_takeBack_46 : decode cX1_takeBack 46 = .ok (.invokevirtual 131, 3) := by decide +kernel
theorem dX1_takeBack_49 : decode cX1_takeBack 49 = .ok (.goto 43, 3) := by decide +kernel
theorem dX1_takeBack_52 : decode cX1_takeBack 52 = .ok (.aload_n 0, 1) := by decide +kernel
theorem dX1_takeBack_53 : decode cX1_takeBack 53 = .ok (.iload_n 2, 1) := by decide +kernel
theorem dX1_takeBack_54 : decode cX1_takeBack 54 = .ok (.invokevirtual 134, 3) := by decide +kernel
theorem dX1_takeBack_57 : decode cX1_takeBack 57 = .ok (.goto 35, 3) := by decide +kernel
theorem dX1_takeBack_60 : decode cX1_takeBack 60 = .ok (.aload_n 0, 1) := by decide +kernel
theorem dX1_takeBack_61 : decode cX1_takeBack 61 = .ok (.iload_n 2, 1) := by decide +kernel
theorem dX1_takeBack_62 : decode cX1_takeBack 62 = .ok (.iload_n 3, 1) := by decide +kernel
theorem dX1_takeBack_63 : decode cX1_takeBack 63 = .ok (.invokevirtual 137, 3) := by decide +kernel
theorem dX1_takeBack_66 : decode cX1_takeBack 66 = .ok (.goto 26, 3) := by decide +kernel
theorem dX1_takeBack_69 : decode cX1_takeBack 69 = .ok (.aload_n 0, 1) := by decide +kernel
theorem dX1_takeBack_70 : decode cX1_takeBack 70 = .ok (.getfield 21, 3) := by decide +kernel
theorem dX1_takeBack_73 : decode cX1_takeBack 73 = .ok (.iload_n 2, 1) := by decide +kernel
theorem dX1_takeBack_74 : decode cX1_takeBack 74 = .ok (.iload_n 3, 1) := by decide +kernel
theorem dX1_takeBack_75 : decode cX1_takeBack 75 = .ok (.ineg, 1) := by decide +kernel
theorem dX1_takeBack_76 : decode cX1_takeBack 76 = .ok (.invokevirtual 141, 3) := by decide +kernel
theorem dX1_takeBack_79 : decode cX1_takeBack 79 = .ok (.goto 13, 3) := by decide +kernel
theorem dX1_takeBack_82 : decode cX1_takeBack 82 = .ok (.aload_n 0, 1) := by decide +kernel
theorem dX1_takeBack_83 : decode cX1_takeBack 83 = .ok (.dup, 1) := by decide +kernel
theorem dX1_takeBack_84 : decode cX1_takeBack 84 = .ok (.getfield 58, 3) := by decide +kernel
theorem dX1_takeBack_87 : decode cX1_takeBack 87 = .ok (.iload_n 3, 1) := by decide +kernel
theorem dX1_takeBack_88 : decode cX1_takeBack 88 = .ok (.isub, 1) := by decide +kernel
theorem dX1_takeBack_89 : decode cX1_takeBack 89 = .ok (.putfield 58, 3) := by decide +kernel
theorem dX1_takeBack_92 : decode cX1_takeBack 92 = .ok (.return_, 1) := by decide +kernel
theorem dX1_takeBackMisuse_0 : decode cX1_takeBackMisuse 0 = .ok (.aload_n 0, 1) := by decide +kernel
theorem dX1_takeBackMisuse_1 : decode cX1_takeBackMisuse 1 = .ok (.getfield 28, 3) := by decide +kernel
theorem dX1_takeBackMisuse_4 : decode cX1_takeBackMisuse 4 = .ok (.iload_n 1, 1) := by decide +kernel
theorem dX1_takeBackMisuse_5 : decode cX1_takeBackMisuse 5 = .ok (.invokevirtual 70, 3) := by decide +kernel
theorem dX1_takeBackMisuse_8 : decode cX1_takeBackMisuse 8 = .ok (.ifCond .eq 16, 3) := by decide +kernel
theorem dX1_takeBackMisuse_11 : decode cX1_takeBackMisuse 11 = .ok (.aload_n 0, 1) := by decide +kernel
theorem dX1_takeBackMisuse_12 : decode cX1_takeBackMisuse 12 = .ok (.getfield 28, 3) := by decide +kernel
theorem dX1_takeBackMisuse_15 : decode cX1_takeBackMisuse 15 = .ok (.getfield 121, 3) := by decide +kernel
theorem dX1_takeBackMisuse_18 : decode cX1_takeBackMisuse 18 = .ok (.iload_n 1, 1) := by decide +kernel
theorem dX1_takeBackMisuse_19 : decode cX1_takeBackMisuse 19 = .ok (.dup2, 1) := by decide +kernel
theorem dX1_takeBackMisuse_20 : decode cX1_takeBackMisuse 20 = .ok (.iaload, 1) := by decide +kernel
theorem dX1_takeBackMisuse_21 : decode cX1_takeBackMisuse 21 = .ok (.iload_n 2, 1) := by decide +kernel
theorem dX1_takeBackMisuse_22 : decode cX1_takeBackMisuse 22 = .ok (.isub, 1) := by decide +kernel
theorem dX1_takeBackMisuse_23 : decode cX1_takeBackMisuse 23 = .ok (.iastore, 1) := by decide +kernel
theorem dX1_takeBackMisuse_24 : decode cX1_takeBackMisuse 24 = .ok (.return_, 1) := by decide +kernel
theorem dX1_takeBackTrip_0 : decode cX1_takeBackTrip 0 = .ok (.aload_n 0, 1) := by decide +kernel
theorem dX1_takeBackTrip_1 : decode cX1_takeBackTrip 1 = .ok (.getfield 28, 3) := by decide +kernel
theorem dX1_takeBackTrip_4 : decode cX1_takeBackTrip 4 = .ok (.iload_n 1, 1) := by decide +kernel
theorem dX1_takeBackTrip_5 : decode cX1_takeBackTrip 5 = .ok (.invokevirtual 70, 3) := by decide +kernel
theorem dX1_takeBackTrip_8 : decode cX1_takeBackTrip 8 = .ok (.ifCond .eq 36, 3) := by decide +kernel
theorem dX1_takeBackTrip_11 : decode cX1_takeBackTrip 11 = .ok (.aload_n 0, 1) := by decide +kernel
theorem dX1_takeBackTrip_12 : decode cX1_takeBackTrip 12 = .ok (.getfield 35, 3) := by decide +kernel
theorem dX1_takeBackTrip_15 : decode cX1_takeBackTrip 15 = .ok (.getfield 51, 3) := by decide +kernel
theorem dX1_takeBackTrip_18 : decode cX1_takeBackTrip 18 = .ok (.ifCond .le 26, 3) := by decide +kernel
theorem dX1_takeBackTrip_21 : decode cX1_takeBackTrip 21 = .ok (.aload_n 0, 1) := by decide +kernel
theorem dX1_takeBackTrip_22 : decode cX1_takeBackTrip 22 = .ok (.getfield 28, 3) := by decide +kernel
theorem dX1_takeBackTrip_25 : decode cX1_takeBackTrip 25 = .ok (.getfield 87, 3) := by decide +kernel
theorem dX1_takeBackTrip_28 : decode cX1_takeBackTrip 28 = .ok (.iload_n 1, 1) := by decide +kernel
theorem dX1_takeBackTrip_29 : decode cX1_takeBackTrip 29 = .ok (.iconst (-1), 1) := by decide +kernel
theorem dX1_takeBackTrip_30 : decode cX1_takeBackTrip 30 = .ok (.iastore, 1) := by decide +kernel
theorem dX1_takeBackTrip_31 : decode cX1_takeBackTrip 31 = .ok (.aload_n 0, 1) := by decide +kernel
theorem dX1_takeBackTrip_32 : decode cX1_takeBackTrip 32 = .ok (.getfield 35, 3) := by decide +kernel
theorem dX1_takeBackTrip_35 : decode cX1_takeBackTrip 35 = .ok (.dup, 1) := by decide +kernel
theorem dX1_takeBackTrip_36 : decode cX1_takeBackTrip 36 = .ok (.getfield 51, 3) := by decide +kernel
theorem dX1_takeBackTrip_39 : decode cX1_takeBackTrip 39 = .ok (.iconst 1, 1) := by decide +kernel
theorem dX1_takeBackTrip_40 : decode cX1_takeBackTrip 40 = .ok (.isub, 1) := by decide +kernel
theorem dX1_takeBackTrip_41 : decode cX1_takeBackTrip 41 = .ok (.putfield 51, 3) := by decide +kernel
theorem dX1_takeBackTrip_44 : decode cX1_takeBackTrip 44 = .ok (.return_, 1) := by decide +kernel
theorem dX1_waitAgain_0 : decode cX1_waitAgain 0 = .ok (.aload_n 0, 1) := by decide +kernel
theorem dX1_waitAgain_1 : decode cX1_waitAgain 1 = .ok (.getfield 35, 3) := by decide +kernel
theorem dX1_waitAgain_4 : decode cX1_waitAgain 4 = .ok (.iload_n 1, 1) := by decide +kernel
theorem dX1_waitAgain_5 : decode cX1_waitAgain 5 = .ok (.invokevirtual 65, 3) := by decide +kernel
theorem dX1_waitAgain_8 : decode cX1_waitAgain 8 = .ok (.ifCond .eq 22, 3) := by decide +kernel
theorem dX1_waitAgain_11 : decode cX1_waitAgain 11 = .ok (.aload_n 0, 1) := by decide +kernel
theorem dX1_waitAgain_12 : decode cX1_waitAgain 12 = .ok (.getfield 21, 3) := by decide +kernel
theorem dX1_waitAgain_15 : decode cX1_waitAgain 15 = .ok (.aload_n 0, 1) := by decide +kernel
theorem dX1_waitAgain_16 : decode cX1_waitAgain 16 = .ok (.getfield 35, 3) := by decide +kernel
theorem dX1_waitAgain_19 : decode cX1_waitAgain 19 = .ok (.getfield 93, 3) := by decide +kernel
theorem dX1_waitAgain_22 : decode cX1_waitAgain 22 = .ok (.iload_n 1, 1) := by decide +kernel
theorem dX1_waitAgain_23 : decode cX1_waitAgain 23 = .ok (.iaload, 1) := by decide +kernel
theorem dX1_waitAgain_24 : decode cX1_waitAgain 24 = .ok (.invokevirtual 61, 3) := by decide +kernel
theorem dX1_waitAgain_27 : decode cX1_waitAgain 27 = .ok (.ifCond .ne 4, 3) := by decide +kernel
theorem dX1_waitAgain_30 : decode cX1_waitAgain 30 = .ok (.return_, 1) := by decide +kernel
theorem dX1_waitAgain_31 : decode cX1_waitAgain 31 = .ok (.aload_n 0, 1) := by decide +kernel
theorem dX1_waitAgain_32 : decode cX1_waitAgain 32 = .ok (.getfield 21, 3) := by decide +kernel
theorem dX1_waitAgain_35 : decode cX1_waitAgain 35 = .ok (.getfield 108, 3) := by decide +kernel
theorem dX1_waitAgain_38 : decode cX1_waitAgain 38 = .ok (.aload_n 0, 1) := by decide +kernel
theorem dX1_waitAgain_39 : decode cX1_waitAgain 39 = .ok (.getfield 35, 3) := by decide +kernel
theorem dX1_waitAgain_42 : decode cX1_waitAgain 42 = .ok (.getfield 93, 3) := by decide +kernel
theorem dX1_waitAgain_45 : decode cX1_waitAgain 45 = .ok (.iload_n 1, 1) := by decide +kernel
theorem dX1_waitAgain_46 : decode cX1_waitAgain 46 = .ok (.iaload, 1) := by decide +kernel
theorem dX1_waitAgain_47 : decode cX1_waitAgain 47 = .ok (.dup2, 1) := by decide +kernel
theorem dX1_waitAgain_48 : decode cX1_waitAgain 48 = .ok (.iaload, 1) := by decide +kernel
theorem dX1_waitAgain_49 : decode cX1_waitAgain 49 = .ok (.iconst 1, 1) := by decide +kernel
theorem dX1_waitAgain_50 : decode cX1_waitAgain 50 = .ok (.isub, 1) := by decide +kernel
theorem dX1_waitAgain_51 : decode cX1_waitAgain 51 = .ok (.iastore, 1) := by decide +kernel
theorem dX1_waitAgain_52 : decode cX1_waitAgain 52 = .ok (.aload_n 0, 1) := by decide +kernel
theorem dX1_waitAgain_53 : decode cX1_waitAgain 53 = .ok (.getfield 35, 3) := by decide +kernel
theorem dX1_waitAgain_56 : decode cX1_waitAgain 56 = .ok (.getfield 90, 3) := by decide +kernel
theorem dX1_waitAgain_59 : decode cX1_waitAgain 59 = .ok (.iload_n 1, 1) := by decide +kernel
theorem dX1_waitAgain_60 : decode cX1_waitAgain 60 = .ok (.iconst 0, 1) := by decide +kernel
theorem dX1_waitAgain_61 : decode cX1_waitAgain 61 = .ok (.iastore, 1) := by decide +kernel
theorem dX1_waitAgain_62 : decode cX1_waitAgain 62 = .ok (.aload_n 0, 1) := by decide +kernel
theorem dX1_waitAgain_63 : decode cX1_waitAgain 63 = .ok (.getfield 35, 3) := by decide +kernel
theorem dX1_waitAgain_66 : decode cX1_waitAgain 66 = .ok (.getfield 93, 3) := by decide +kernel
theorem dX1_waitAgain_69 : decode cX1_waitAgain 69 = .ok (.iload_n 1, 1) := by decide +kernel
theorem dX1_waitAgain_70 : decode cX1_waitAgain 70 = .ok (.iconst (-1), 1) := by decide +kernel
theorem dX1_waitAgain_71 : decode cX1_waitAgain 71 = .ok (.iastore, 1) := by decide +kernel
theorem dX1_waitAgain_72 : decode cX1_waitAgain 72 = .ok (.aload_n 0, 1) := by decide +kernel
theorem dX1_waitAgain_73 : decode cX1_waitAgain 73 = .ok (.getfield 35, 3) := by decide +kernel
theorem dX1_waitAgain_76 : decode cX1_waitAgain 76 = .ok (.getfield 96, 3) := by decide +kernel
theorem dX1_waitAgain_79 : decode cX1_waitAgain 79 = .ok (.iload_n 1, 1) := by decide +kernel
theorem dX1_waitAgain_80 : decode cX1_waitAgain 80 = .ok (.iconst (-1), 1) := by decide +kernel
theorem dX1_waitAgain_81 : decode cX1_waitAgain 81 = .ok (.iastore, 1) := by decide +kernel
theorem dX1_waitAgain_82 : decode cX1_waitAgain 82 = .ok (.return_, 1) := by decide +kernel
end
section
theorem dX2_addBorder_0 : decode cX2_addBorder 0 = .ok (.aload_n 0, 1) := by decide +kernel
theorem dX2_addBorder_1 : decode cX2_addBorder 1 = .ok (.iload_n 1, 1) := by decide +kernel
theorem dX2_addBorder_2 : decode cX2_addBorder 2 = .ok (.invokevirtual 22, 3) := by decide +kernel
theorem dX2_addBorder_5 : decode cX2_addBorder 5 = .ok (.ifCond .eq 54, 3) := by decide +kernel
theorem dX2_addBorder_8 : decode cX2_addBorder 8 = .ok (.aload_n 0, 1) := by decide +kernel
theorem dX2_addBorder_9 : decode cX2_addBorder 9 = .ok (.iload_n 2, 1) := by decide +kernel
theorem dX2_addBorder_10 : decode cX2_addBorder 10 = .ok (.invokevirtual 22, 3) := by decide +kernel
theorem dX2_addBorder_13 : decode cX2_addBorder 13 = .ok (.ifCond .eq 46, 3) := by decide +kernel
theorem dX2_addBorder_16 : decode cX2_addBorder 16 = .ok (.aload_n 0, 1) := by decide +kernel
theorem dX2_addBorder_17 : decode cX2_addBorder 17 = .ok (.iload_n 1, 1) := by decide +kernel
theorem dX2_addBorder_18 : decode cX2_addBorder 18 = .ok (.iload_n 2, 1) := by decide +kernel
theorem dX2_addBorder_19 : decode cX2_addBorder 19 = .ok (.invokevirtual 26, 3) := by decide +kernel
theorem dX2_addBorder_22 : decode cX2_addBorder 22 = .ok (.ifCond .ne 37, 3) := by decide +kernel
theorem dX2_addBorder_25 : decode cX2_addBorder 25 = .ok (.aload_n 0, 1) := by decide +kernel
theorem dX2_addBorder_26 : decode cX2_addBorder 26 = .ok (.getfield 9, 3) := by decide +kernel
theorem dX2_addBorder_29 : decode cX2_addBorder 29 = .ok (.iload_n 1, 1) := by decide +kernel
theorem dX2_addBorder_30 : decode cX2_addBorder 30 = .ok (.dup2, 1) := by decide +kernel
theorem dX2_addBorder_31 : decode cX2_addBorder 31 = .ok (.iaload, 1) := by decide +kernel
theorem dX2_addBorder_32 : decode cX2_addBorder 32 = .ok (.iconst 1, 1) := by decide +kernel
theorem dX2_addBorder_33 : decode cX2_addBorder 33 = .ok (.iload_n 2, 1) := by decide +kernel
theorem dX2_addBorder_34 : decode cX2_addBorder 34 = .ok (.ishl, 1) := by decide +kernel
theorem dX2_addBorder_35 : decode cX2_addBorder 35 = .ok (.ior, 1) := by decide +kernel
theorem dX2_addBorder_36 : decode cX2_addBorder 36 = .ok (.iastore, 1) := by decide +kernel
theorem dX2_addBorder_37 : decode cX2_addBorder 37 = .ok (.aload_n 0, 1) := by decide +kernel
theorem dX2_addBorder_38 : decode cX2_addBorder 38 = .ok (.getfield 9, 3) := by decide +kernel
theorem dX2_addBorder_41 : decode cX2_addBorder 41 = .ok (.iload_n 2, 1) := by decide +kernel
theorem dX2_addBorder_42 : decode cX2_addBorder 42 = .ok (.dup2, 1) := by decide +kernel
theorem dX2_addBorder_43 : decode cX2_addBorder 43 = .ok (.iaload, 1) := by decide +kernel
theorem dX2_addBorder_44 : decode cX2_addBorder 44 = .ok (.iconst 1, 1) := by decide +kernel
theorem dX2_addBorder_45 : decode cX2_addBorder 45 = .ok (.iload_n 1, 1) := by decide +kernel
theorem dX2_addBorder_46 : decode cX2_addBorder 46 = .ok (.ishl, 1) := by decide +kernel
theorem dX2_addBorder_47 : decode cX2_addBorder 47 = .ok (.ior, 1) := by decide +kernel
theorem dX2_addBorder_48 : decode cX2_addBorder 48 = .ok (.iastore, 1) := by decide +kernel
theorem dX2_addBorder_49 : decode cX2_addBorder 49 = .ok (.aload_n 0, 1) := by decide +kernel
theorem dX2_addBorder_50 : decode cX2_addBorder 50 = .ok (.dup, 1) := by decide +kernel
theorem dX2_addBorder_51 : decode cX2_addBorder 51 = .ok (.getfield 19, 3) := by decide +kernel
theorem dX2_addBorder_54 : decode cX2_addBorder 54 = .ok (.iconst 1, 1) := by decide +kernel
theorem dX2_addBorder_55 : decode cX2_addBorder 55 = .ok (.iadd, 1) := by decide +kernel
theorem dX2_addBorder_56 : decode cX2_addBorder 56 = .ok (.putfield 19, 3) := by decide +kernel
theorem dX2_addBorder_59 : decode cX2_addBorder 59 = .ok (.return_, 1) := by decide +kernel
theorem dX2_areJoined_0 : decode cX2_areJoined 0 = .ok (.aload_n 0, 1) := by decide +kernel
theorem dX2_areJoined_1 : decode cX2_areJoined 1 = .ok (.iload_n 1, 1) := by decide +kernel
theorem dX2_areJoined_2 : decode cX2_areJoined 2 = .ok (.invokevirtual 22, 3) := by decide +kernel
theorem dX2_areJoined_5 : decode cX2_areJoined 5 = .ok (.ifCond .eq 28, 3) := by decide +kernel
theorem dX2_areJoined_8 : decode cX2_areJoined 8 = .ok (.aload_n 0, 1) := by decide +kernel
theorem dX2_areJoined_9 : decode cX2_areJoined 9 = .ok (.iload_n 2, 1) := by decide +kernel
theorem dX2_areJoined_10 : decode cX2_areJoined 10 = .ok (.invokevirtual 22, 3) := by decide +kernel
theorem dX2_areJoined_13 : decode cX2_areJoined 13 = .ok (.ifCond .eq 20, 3) := by decide +kernel
theorem dX2_areJoined_16 : decode cX2_areJoined 16 = .ok (.aload_n 0, 1) := by decide +kernel
theorem dX2_areJoined_17 : decode cX2_areJoined 17 = .ok (.getfield 9, 3) := by decide +kernel
theorem dX2_areJoined_20 : decode cX2_areJoined 20 = .ok (.iload_n 1, 1) := by decide +kernel
theorem dX2_areJoined_21 : decode cX2_areJoined 21 = .ok (.iaload, 1) := by decide +kernel
theorem dX2_areJoined_22 : decode cX2_areJoined 22 = .ok (.iload_n 2, 1) := by decide +kernel
theorem dX2_areJoined_23 : decode cX2_areJoined 23 = .ok (.ishr, 1) := by decide +kernel
theorem dX2_areJoined_24 : decode cX2_areJoined 24 = .ok (.iconst 1, 1) := by decide +kernel
theorem dX2_areJoined_25 : decode cX2_areJoined 25 = .ok (.iand, 1) := by decide +kernel
theorem dX2_areJoined_26 : decode cX2_areJoined 26 = .ok (.ifCond .eq 7, 3) := by decide +kernel
theorem dX2_areJoined_29 : decode cX2_areJoined 29 = .ok (.iconst 1, 1) := by decide +kernel
theorem dX2_areJoined_30 : decode cX2_areJoined 30 = .ok (.goto 4, 3) := by decide +kernel
theorem dX2_areJoined_33 : decode cX2_areJoined 33 = .ok (.iconst 0, 1) := by decide +kernel
theorem dX2_areJoined_34 : decode cX2_areJoined 34 = .ok (.ireturn, 1) := by decide +kernel
theorem dX2_bitsOfRow_0 : decode cX2_bitsOfRow 0 = .ok (.iload_n 2, 1) := by decide +kernel
theorem dX2_bitsOfRow_1 : decode cX2_bitsOfRow 1 = .ok (.bipush 10, 2) := by decide +kernel
theorem dX2_bitsOfRow_3 : decode cX2_bitsOfRow 3 = .ok (.irem, 1) := by decide +kernel
theorem dX2_bitsOfRow_4 : decode cX2_bitsOfRow 4 = .ok (.istore 4, 2) := by decide +kernel
theorem dX2_bitsOfRow_6 : decode cX2_bitsOfRow 6 = .ok (.iload 4, 2) := by decide +kernel
theorem dX2_bitsOfRow_8 : decode cX2_bitsOfRow 8 = .ok (.iload_n 1, 1) := by decide +kernel
theorem dX2_bitsOfRow_9 : decode cX2_bitsOfRow 9 = .ok (.if_icmp .eq 5, 3) := by decide +kernel
theorem dX2_bitsOfRow_12 : decode cX2_bitsOfRow 12 = .ok (.iconst 0, 1) := by decide +kernel
theorem dX2_bitsOfRow_13 : decode cX2_bitsOfRow 13 = .ok (.ireturn, 1) := by decide +kernel
theorem dX2_bitsOfRow_14 : decode cX2_bitsOfRow 14 = .ok (.iconst 1, 1) := by decide +kernel
theorem dX2_bitsOfRow_15 : decode cX2_bitsOfRow 15 = .ok (.iload_n 1, 1) := by decide +kernel
theorem dX2_bitsOfRow_16 : decode cX2_bitsOfRow 16 = .ok (.ishl, 1) := by decide +kernel
theorem dX2_bitsOfRow_17 : decode cX2_bitsOfRow 17 = .ok (.istore 5, 2) := by decide +kernel
theorem dX2_bitsOfRow_19 : decode cX2_bitsOfRow 19 = .ok (.iload_n 2, 1) := by decide +kernel
theorem dX2_bitsOfRow_20 : decode cX2_bitsOfRow 20 = .ok (.bipush 10, 2) := by decide +kernel
theorem dX2_bitsOfRow_22 : decode cX2_bitsOfRow 22 = .ok (.idiv, 1) := by decide +kernel
theorem dX2_bitsOfRow_23 : decode cX2_bitsOfRow 23 = .ok (.istore 6, 2) := by decide +kernel
theorem dX2_bitsOfRow_25 : decode cX2_bitsOfRow 25 = .ok (.iconst 1, 1) := by decide +kernel
theorem dX2_bitsOfRow_26 : decode cX2_bitsOfRow 26 = .ok (.istore 7, 2) := by decide +kernel
theorem dX2_bitsOfRow_28 : decode cX2_bitsOfRow 28 = .ok (.iload 7, 2) := by decide +kernel
theorem dX2_bitsOfRow_30 : decode cX2_bitsOfRow 30 = .ok (.iload_n 3, 1) := by decide +kernel
theorem dX2_bitsOfRow_31 : decode cX2_bitsOfRow 31 = .ok (.if_icmp .ge 59, 3) := by decide +kernel
theorem dX2_bitsOfRow_34 : decode cX2_bitsOfRow 34 = .ok (.iload 6, 2) := by decide +kernel
theorem dX2_bitsOfRow_36 : decode cX2_bitsOfRow 36 = .ok (.bipush 10, 2) := by decide +kernel
theorem dX2_bitsOfRow_38 : decode cX2_bitsOfRow 38 = .ok (.irem, 1) := by decide +kernel
theorem dX2_bitsOfRow_39 : decode cX2_bitsOfRow 39 = .ok (.istore 8, 2) := by decide +kernel
theorem dX2_bitsOfRow_41 : decode cX2_bitsOfRow 41 = .ok (.aload_n 0, 1) := by decide +kernel
theorem dX2_bitsOfRow_42 : decode cX2_bitsOfRow 42 = .ok (.iload 4, 2) := by decide +kernel
theorem dX2_bitsOfRow_44 : decode cX2_bitsOfRow 44 = .ok (.iload 8, 2) := by decide +kernel
theorem dX2_bitsOfRow_46 : decode cX2_bitsOfRow 46 = .ok (.invokevirtual 26, 3) := by decide +kernel
theorem dX2_bitsOfRow_49 : decode cX2_bitsOfRow 49 = .ok (.ifCond .eq 13, 3) := by decide +kernel
theorem dX2_bitsOfRow_52 : decode cX2_bitsOfRow 52 = .ok (.iload 5, 2) := by decide +kernel
theorem dX2_bitsOfRow_54 : decode cX2_bitsOfRow 54 = .ok (.iload 8, 2) := by decide +kernel
theorem dX2_bitsOfRow_56 : decode cX2_bitsOfRow 56 = .ok (.ishr, 1) := by decide +kernel
theorem dX2_bitsOfRow_57 : decode cX2_bitsOfRow 57 = .ok (.iconst 1, 1) := by decide +kernel
theorem dX2_bitsOfRow_58 : decode cX2_bitsOfRow 58 = .ok (.iand, 1) := by decide +kernel
theorem dX2_bitsOfRow_59 : decode cX2_bitsOfRow 59 = .ok (.ifCond .eq 5, 3) := by decide +kernel
theorem dX2_bitsOfRow_62 : decode cX2_bitsOfRow 62 = .ok (.iconst 0, 1) := by decide +kernel
theorem dX2_bitsOfRow_63 : decode cX2_bitsOfRow 63 = .ok (.ireturn, 1) := by decide +kernel
theorem dX2_bitsOfRow_64 : decode cX2_bitsOfRow 64 = .ok (.iload 5, 2) := by decide +kernel
theorem dX2_bitsOfRow_66 : decode cX2_bitsOfRow 66 = .ok (.iconst 1, 1) := by decide +kernel
theorem dX2_bitsOfRow_67 : decode cX2_bitsOfRow 67 = .ok (.iload 8, 2) := by decide +kernel
theorem dX2_bitsOfRow_69 : decode cX2_bitsOfRow 69 = .ok (.ishl, 1) := by decide +kernel
theorem dX2_bitsOfRow_70 : decode cX2_bitsOfRow 70 = .ok (.ior, 1) := by decide +kernel
theorem dX2_bitsOfRow_71 : decode cX2_bitsOfRow 71 = .ok (.istore 5, 2) := by decide +kernel
theorem dX2_bitsOfRow_73 : decode cX2_bitsOfRow 73 = .ok (.iload 8, 2) := by decide +kernel
theorem dX2_bitsOfRow_75 : decode cX2_bitsOfRow 75 = .ok (.istore 4, 2) := by decide +kernel
theorem dX2_bitsOfRow_77 : decode cX2_bitsOfRow 77 = .ok (.iload 6, 2) := by decide +kernel
theorem dX2_bitsOfRow_79 : decode cX2_bitsOfRow 79 = .ok (.bipush 10, 2) := by decide +kernel
theorem dX2_bitsOfRow_81 : decode cX2_bitsOfRow 81 = .ok (.idiv, 1) := by decide +kernel
theorem dX2_bitsOfRow_82 : decode cX2_bitsOfRow 82 = .ok (.istore 6, 2) := by decide +kernel
theorem dX2_bitsOfRow_84 : decode cX2_bitsOfRow 84 = .ok (.iinc 7 1, 3) := by decide +kernel
theorem dX2_bitsOfRow_87 : decode cX2_bitsOfRow 87 = .ok (.goto (-59), 3) := by decide +kernel
theorem dX2_bitsOfRow_90 : decode cX2_bitsOfRow 90 = .ok (.iload 6, 2) := by decide +kernel
theorem dX2_bitsOfRow_92 : decode cX2_bitsOfRow 92 = .ok (.ifCond .ne 8, 3) := by decide +kernel
theorem dX2_bitsOfRow_95 : decode cX2_bitsOfRow 95 = .ok (.iload 5, 2) := by decide +kernel
theorem dX2_bitsOfRow_97 : decode cX2_bitsOfRow 97 = .ok (.goto 4, 3) := by decide +kernel
theorem dX2_bitsOfRow_100 : decode cX2_bitsOfRow 100 = .ok (.iconst 0, 1) := by decide +kernel
theorem dX2_bitsOfRow_101 : decode cX2_bitsOfRow 101 = .ok (.ireturn, 1) := by decide +kernel
theorem dX2_clear_0 : decode cX2_clear 0 = .ok (.iconst 0, 1) := by decide +kernel
theorem dX2_clear_1 : decode cX2_clear 1 = .ok (.istore_n 1, 1) := by decide +kernel
theorem dX2_clear_2 : decode cX2_clear 2 = .ok (.iload_n 1, 1) := by decide +kernel
theorem dX2_clear_3 : decode cX2_clear 3 = .ok (.bipush 8, 2) := by decide +kernel
theorem dX2_clear_5 : decode cX2_clear 5 = .ok (.if_icmp .ge 16, 3) := by decide +kernel
theorem dX2_clear_8 : decode cX2_clear 8 = .ok (.aload_n 0, 1) := by decide +kernel
theorem dX2_clear_9 : decode cX2_clear 9 = .ok (.getfield 9, 3) := by decide +kernel
theorem dX2_clear_12 : decode cX2_clear 12 = .ok (.iload_n 1, 1) := by decide +kernel
theorem dX2_clear_13 : decode cX2_clear 13 = .ok (.iconst 0, 1) := by decide +kernel
theorem dX2_clear_14 : decode cX2_clear 14 = .ok (.iastore, 1) := by decide +kernel
theorem dX2_clear_15 : decode cX2_clear 15 = .ok (.iinc 1 1, 3) := by decide +kernel
theorem dX2_clear_18 : decode cX2_clear 18 = .ok (.goto (-16), 3) := by decide +kernel
theorem dX2_clear_21 : decode cX2_clear 21 = .ok (.aload_n 0, 1) := by decide +kernel
theorem dX2_clear_22 : decode cX2_clear 22 = .ok (.iconst 0, 1) := by decide +kernel
theorem dX2_clear_23 : decode cX2_clear 23 = .ok (.putfield 15, 3) := by decide +kernel
theorem dX2_clear_26 : decode cX2_clear 26 = .ok (.aload_n 0, 1) := by decide +kernel
theorem dX2_clear_27 : decode cX2_clear 27 = .ok (.iconst 0, 1) := by decide +kernel
theorem dX2_clear_28 : decode cX2_clear 28 = .ok (.putfield 19, 3) := by decide +kernel
theorem dX2_clear_31 : decode cX2_clear 31 = .ok (.return_, 1) := by decide +kernel
theorem dX2_has_0 : decode cX2_has 0 = .ok (.iload_n 1, 1) := by decide +kernel
theorem dX2_has_1 : decode cX2_has 1 = .ok (.ifCond .lt 15, 3) := by decide +kernel
theorem dX2_has_4 : decode cX2_has 4 = .ok (.iload_n 1, 1) := by decide +kernel
theorem dX2_has_5 : decode cX2_has 5 = .ok (.aload_n 0, 1) := by decide +kernel
theorem dX2_has_6 : decode cX2_has 6 = .ok (.getfield 15, 3) := by decide +kernel
theorem dX2_has_9 : decode cX2_has 9 = .ok (.if_icmp .ge 7, 3) := by decide +kernel
theorem dX2_has_12 : decode cX2_has 12 = .ok (.iconst 1, 1) := by decide +kernel
theorem dX2_has_13 : decode cX2_has 13 = .ok (.goto 4, 3) := by decide +kernel
theorem dX2_has_16 : decode cX2_has 16 = .ok (.iconst 0, 1) := by decide +kernel
theorem dX2_has_17 : decode cX2_has 17 = .ok (.ireturn, 1) := by decide +kernel
theorem dX2_shortestRow_0 : decode cX2_shortestRow 0 = .ok (.iconst 1, 1) := by decide +kernel
theorem dX2_shortestRow_1 : decode cX2_shortestRow 1 = .ok (.iload_n 1, 1) := by decide +kernel
theorem dX2_shortestRow_2 : decode cX2_shortestRow 2 = .ok (.ishl, 1) := by decide +kernel
theorem dX2_shortestRow_3 : decode cX2_shortestRow 3 = .ok (.istore 4, 2) := by decide +kernel
theorem dX2_shortestRow_5 : decode cX2_shortestRow 5 = .ok (.iconst 2, 1) := by decide +kernel
theorem dX2_shortestRow_6 : decode cX2_shortestRow 6 = .ok (.istore 5, 2) := by decide +kernel
theorem dX2_shortestRow_8 : decode cX2_shortestRow 8 = .ok (.iload 5, 2) := by decide +kernel
theorem dX2_shortestRow_10 : decode cX2_shortestRow 10 = .ok (.bipush 8, 2) := by decide +kernel
theorem dX2_shortestRow_12 : decode cX2_shortestRow 12 = .ok (.if_icmp .gt 71, 3) := by decide +kernel
theorem dX2_shortestRow_15 : decode cX2_shortestRow 15 = .ok (.iload 4, 2) := by decide +kernel
theorem dX2_shortestRow_17 : decode cX2_shortestRow 17 = .ok (.istore 6, 2) := by decide +kernel
theorem dX2_shortestRow_19 : decode cX2_shortestRow 19 = .ok (.iconst 0, 1) := by decide +kernel
theorem dX2_shortestRow_20 : decode cX2_shortestRow 20 = .ok (.istore 7, 2) := by decide +kernel
theorem dX2_shortestRow_22 : decode cX2_shortestRow 22 = .ok (.iload 7, 2) := by decide +kernel
theorem dX2_shortestRow_24 : decode cX2_shortestRow 24 = .ok (.aload_n 0, 1) := by decide +kernel
theorem dX2_shortestRow_25 : decode cX2_shortestRow 25 = .ok (.getfield 15, 3) := by decide +kernel
theorem dX2_shortestRow_28 : decode cX2_shortestRow 28 = .ok (.if_icmp .ge 33, 3) := by decide +kernel
theorem dX2_shortestRow_31 : decode cX2_shortestRow 31 = .ok (.iload 4, 2) := by decide +kernel
theorem dX2_shortestRow_33 : decode cX2_shortestRow 33 = .ok (.iload 7, 2) := by decide +kernel
theorem dX2_shortestRow_35 : decode cX2_shortestRow 35 = .ok (.ishr, 1) := by decide +kernel
theorem dX2_shortestRow_36 : decode cX2_shortestRow 36 = .ok (.iconst 1, 1) := by decide +kernel
theorem dX2_shortestRow_37 : decode cX2_shortestRow 37 = .ok (.iand, 1) := by decide +kernel
theorem dX2_shortestRow_38 : decode cX2_shortestRow 38 = .ok (.ifCond .eq 17, 3) := by decide +kernel
theorem dX2_shortestRow_41 : decode cX2_shortestRow 41 = .ok (.iload 6, 2) := by decide +kernel
theorem dX2_shortestRow_43 : decode cX2_shortestRow 43 = .ok (.aload_n 0, 1) := by decide +kernel
theorem dX2_shortestRow_44 : decode cX2_shortestRow 44 = .ok (.getfield 9, 3) := by decide +kernel
theorem dX2_shortestRow_47 : decode cX2_shortestRow 47 = .ok (.iload 7, 2) := by decide +kernel
theorem dX2_shortestRow_49 : decode cX2_shortestRow 49 = .ok (.iaload, 1) := by decide +kernel
theorem dX2_shortestRow_50 : decode cX2_shortestRow 50 = .ok (.iload_n 3, 1) := by decide +kernel
theorem dX2_shortestRow_51 : decode cX2_shortestRow 51 = .ok (.iand, 1) := by decide +kernel
theorem dX2_shortestRow_52 : decode cX2_shortestRow 52 = .ok (.ior, 1) := by decide +kernel
theorem dX2_shortestRow_53 : decode cX2_shortestRow 53 = .ok (.istore 6, 2) := by decide +kernel
theorem dX2_shortestRow_55 : decode cX2_shortestRow 55 = .ok (.iinc 7 1, 3) := by decide +kernel
theorem dX2_shortestRow_58 : decode cX2_shortestRow 58 = .ok (.goto (-36), 3) := by decide +kernel
theorem dX2_shortestRow_61 : decode cX2_shortestRow 61 = .ok (.iload 6, 2) := by decide +kernel
theorem dX2_shortestRow_63 : decode cX2_shortestRow 63 = .ok (.iload_n 2, 1) := by decide +kernel
theorem dX2_shortestRow_64 : decode cX2_shortestRow 64 = .ok (.ishr, 1) := by decide +kernel
theorem dX2_shortestRow_65 : decode cX2_shortestRow 65 = .ok (.iconst 1, 1) := by decide +kernel
theorem dX2_shortestRow_66 : decode cX2_shortestRow 66 = .ok (.iand, 1) := by decide +kernel
theorem dX2_shortestRow_67 : decode cX2_shortestRow 67 = .ok (.ifCond .eq 6, 3) := by decide +kernel
theorem dX2_shortestRow_70 : decode cX2_shortestRow 70 = .ok (.iload 5, 2) := by decide +kernel
theorem dX2_shortestRow_72 : decode cX2_shortestRow 72 = .ok (.ireturn, 1) := by decide +kernel
theorem dX2_shortestRow_73 : decode cX2_shortestRow 73 = .ok (.iload 6, 2) := by decide +kernel
theorem dX2_shortestRow_75 : decode cX2_shortestRow 75 = .ok (.istore 4, 2) := by decide +kernel
theorem dX2_shortestRow_77 : decode cX2_shortestRow 77 = .ok (.iinc 5 1, 3) := by decide +kernel
theorem dX2_shortestRow_80 : decode cX2_shortestRow 80 = .ok (.goto (-72), 3) := by decide +kernel
theorem dX2_shortestRow_83 : decode cX2_shortestRow 83 = .ok (.bipush (-2), 2) := by decide +kernel
theorem dX2_shortestRow_85 : decode cX2_shortestRow 85 = .ok (.ireturn, 1) := by decide +kernel
end
section
theorem dX3_add_0 : decode cX3_add 0 = .ok (.aload_n 0, 1) := by decide +kernel
theorem dX3_add_1 : decode cX3_add 1 = .ok (.getfield 27, 3) := by decide +kernel
theorem dX3_add_4 : decode cX3_add 4 = .ok (.ifCond .lt 42, 3) := by decide +kernel
theorem dX3_add_7 : decode cX3_add 7 = .ok (.aload_n 0, 1) := by decide +kernel
theorem dX3_add_8 : decode cX3_add 8 = .ok (.getfield 27, 3) := by decide +kernel
theorem dX3_add_11 : decode cX3_add 11 = .ok (.bipush 8, 2) := by decide +kernel
theorem dX3_add_13 : decode cX3_add 13 = .ok (.if_icmp .ge 33, 3) := by decide +kernel
theorem dX3_add_16 : decode cX3_add 16 = .ok (.aload_n 0, 1) := by decide +kernel
theorem dX3_add_17 : decode cX3_add 17 = .ok (.getfield 9, 3) := by decide +kernel
theorem dX3_add_20 : decode cX3_add 20 = .ok (.aload_n 0, 1) := by decide +kernel
theorem dX3_add_21 : decode cX3_add 21 = .ok (.getfield 27, 3) := by decide +kernel
theorem dX3_add_24 : decode cX3_add 24 = .ok (.iload_n 1, 1) := by decide +kernel
theorem dX3_add_25 : decode cX3_add 25 = .ok (.iastore, 1) := by decide +kernel
theorem dX3_add_26 : decode cX3_add 26 = .ok (.aload_n 0, 1) := by decide +kernel
theorem dX3_add_27 : decode cX3_add 27 = .ok (.getfield 15, 3) := by decide +kernel
theorem dX3_add_30 : decode cX3_add 30 = .ok (.aload_n 0, 1) := by decide +kernel
theorem dX3_add_31 : decode cX3_add 31 = .ok (.getfield 27, 3) := by decide +kernel
theorem dX3_add_34 : decode cX3_add 34 = .ok (.iload_n 2, 1) := by decide +kernel
theorem dX3_add_35 : decode cX3_add 35 = .ok (.iastore, 1) := by decide +kernel
theorem dX3_add_36 : decode cX3_add 36 = .ok (.aload_n 0, 1) := by decide +kernel
theorem dX3_add_37 : decode cX3_add 37 = .ok (.dup, 1) := by decide +kernel
theorem dX3_add_38 : decode cX3_add 38 = .ok (.getfield 27, 3) := by decide +kernel
theorem dX3_add_41 : decode cX3_add 41 = .ok (.iconst 1, 1) := by decide +kernel
theorem dX3_add_42 : decode cX3_add 42 = .ok (.iadd, 1) := by decide +kernel
theorem dX3_add_43 : decode cX3_add 43 = .ok (.putfield 27, 3) := by decide +kernel
theorem dX3_add_46 : decode cX3_add 46 = .ok (.return_, 1) := by decide +kernel
theorem dX3_allMisuses_0 : decode cX3_allMisuses 0 = .ok (.iconst 0, 1) := by decide +kernel
theorem dX3_allMisuses_1 : decode cX3_allMisuses 1 = .ok (.istore_n 1, 1) := by decide +kernel
theorem dX3_allMisuses_2 : decode cX3_allMisuses 2 = .ok (.iconst 0, 1) := by decide +kernel
theorem dX3_allMisuses_3 : decode cX3_allMisuses 3 = .ok (.istore_n 2, 1) := by decide +kernel
theorem dX3_allMisuses_4 : decode cX3_allMisuses 4 = .ok (.iload_n 2, 1) := by decide +kernel
theorem dX3_allMisuses_5 : decode cX3_allMisuses 5 = .ok (.aload_n 0, 1) := by decide +kernel
theorem dX3_allMisuses_6 : decode cX3_allMisuses 6 = .ok (.getfield 27, 3) := by decide +kernel
theorem dX3_allMisuses_9 : decode cX3_allMisuses 9 = .ok (.if_icmp .ge 18, 3) := by decide +kernel
theorem dX3_allMisuses_12 : decode cX3_allMisuses 12 = .ok (.iload_n 1, 1) := by decide +kernel
theorem dX3_allMisuses_13 : decode cX3_allMisuses 13 = .ok (.aload_n 0, 1) := by decide +kernel
theorem dX3_allMisuses_14 : decode cX3_allMisuses 14 = .ok (.getfield 21, 3) := by decide +kernel
theorem dX3_allMisuses_17 : decode cX3_allMisuses 17 = .ok (.iload_n 2, 1) := by decide +kernel
theorem dX3_allMisuses_18 : decode cX3_allMisuses 18 = .ok (.iaload, 1) := by decide +kernel
theorem dX3_allMisuses_19 : decode cX3_allMisuses 19 = .ok (.iadd, 1) := by decide +kernel
theorem dX3_allMisuses_20 : decode cX3_allMisuses 20 = .ok (.istore_n 1, 1) := by decide +kernel
theorem dX3_allMisuses_21 : decode cX3_allMisuses 21 = .ok (.iinc 2 1, 3) := by decide +kernel
theorem dX3_allMisuses_24 : decode cX3_allMisuses 24 = .ok (.goto (-20), 3) := by decide +kernel
theorem dX3_allMisuses_27 : decode cX3_allMisuses 27 = .ok (.iload_n 1, 1) := by decide +kernel
theorem dX3_allMisuses_28 : decode cX3_allMisuses 28 = .ok (.ireturn, 1) := by decide +kernel
theorem dX3_clear_0 : decode cX3_clear 0 = .ok (.aload_n 0, 1) := by decide +kernel
theorem dX3_clear_1 : decode cX3_clear 1 = .ok (.iconst 0, 1) := by decide +kernel
theorem dX3_clear_2 : decode cX3_clear 2 = .ok (.putfield 27, 3) := by decide +kernel
theorem dX3_clear_5 : decode cX3_clear 5 = .ok (.iconst 0, 1) := by decide +kernel
theorem dX3_clear_6 : decode cX3_clear 6 = .ok (.istore_n 1, 1) := by decide +kernel
theorem dX3_clear_7 : decode cX3_clear 7 = .ok (.iload_n 1, 1) := by decide +kernel
theorem dX3_clear_8 : decode cX3_clear 8 = .ok (.bipush 8, 2) := by decide +kernel
theorem dX3_clear_10 : decode cX3_clear 10 = .ok (.if_icmp .ge 30, 3) := by decide +kernel
theorem dX3_clear_13 : decode cX3_clear 13 = .ok (.aload_n 0, 1) := by decide +kernel
theorem dX3_clear_14 : decode cX3_clear 14 = .ok (.getfield 18, 3) := by decide +kernel
theorem dX3_clear_17 : decode cX3_clear 17 = .ok (.iload_n 1, 1) := by decide +kernel
theorem dX3_clear_18 : decode cX3_clear 18 = .ok (.iconst (-1), 1) := by decide +kernel
theorem dX3_clear_19 : decode cX3_clear 19 = .ok (.iastore, 1) := by decide +kernel
theorem dX3_clear_20 : decode cX3_clear 20 = .ok (.aload_n 0, 1) := by decide +kernel
theorem dX3_clear_21 : decode cX3_clear 21 = .ok (.getfield 21, 3) := by decide +kernel
theorem dX3_clear_24 : decode cX3_clear 24 = .ok (.iload_n 1, 1) := by decide +kernel
theorem dX3_clear_25 : decode cX3_clear 25 = .ok (.iconst 0, 1) := by decide +kernel
theorem dX3_clear_26 : decode cX3_clear 26 = .ok (.iastore, 1) := by decide +kernel
theorem dX3_clear_27 : decode cX3_clear 27 = .ok (.aload_n 0, 1) := by decide +kernel
theorem dX3_clear_28 : decode cX3_clear 28 = .ok (.getfield 24, 3) := by decide +kernel
theorem dX3_clear_31 : decode cX3_clear 31 = .ok (.iload_n 1, 1) := by decide +kernel
theorem dX3_clear_32 : decode cX3_clear 32 = .ok (.iconst 0, 1) := by decide +kernel
theorem dX3_clear_33 : decode cX3_clear 33 = .ok (.iastore, 1) := by decide +kernel
theorem dX3_clear_34 : decode cX3_clear 34 = .ok (.iinc 1 1, 3) := by decide +kernel
theorem dX3_clear_37 : decode cX3_clear 37 = .ok (.goto (-30), 3) := by decide +kernel
theorem dX3_clear_40 : decode cX3_clear 40 = .ok (.return_, 1) := by decide +kernel
theorem dX3_has_0 : decode cX3_has 0 = .ok (.iload_n 1, 1) := by decide +kernel
theorem dX3_has_1 : decode cX3_has 1 = .ok (.ifCond .lt 15, 3) := by decide +kernel
theorem dX3_has_4 : decode cX3_has 4 = .ok (.iload_n 1, 1) := by decide +kernel
theorem dX3_has_5 : decode cX3_has 5 = .ok (.aload_n 0, 1) := by decide +kernel
theorem dX3_has_6 : decode cX3_has 6 = .ok (.getfield 27, 3) := by decide +kernel
theorem dX3_has_9 : decode cX3_has 9 = .ok (.if_icmp .ge 7, 3) := by decide +kernel
theorem dX3_has_12 : decode cX3_has 12 = .ok (.iconst 1, 1) := by decide +kernel
theorem dX3_has_13 : decode cX3_has 13 = .ok (.goto 4, 3) := by decide +kernel
theorem dX3_has_16 : decode cX3_has 16 = .ok (.iconst 0, 1) := by decide +kernel
theorem dX3_has_17 : decode cX3_has 17 = .ok (.ireturn, 1) := by decide +kernel
end
section
theorem dX4_add_0 : decode cX4_add 0 = .ok (.aload_n 0, 1) := by decide +kernel
theorem dX4_add_1 : decode cX4_add 1 = .ok (.getfield 49, 3) := by decide +kernel
theorem dX4_add_4 : decode cX4_add 4 = .ok (.ifCond .lt 18, 3) := by decide +kernel
theorem dX4_add_7 : decode cX4_add 7 = .ok (.aload_n 0, 1) := by decide +kernel
theorem dX4_add_8 : decode cX4_add 8 = .ok (.getfield 49, 3) := by decide +kernel
theorem dX4_add_11 : decode cX4_add 11 = .ok (.bipush 6, 2) := by decide +kernel
theorem dX4_add_13 : decode cX4_add 13 = .ok (.if_icmp .ge 9, 3) := by decide +kernel
theorem dX4_add_16 : decode cX4_add 16 = .ok (.aload_n 2, 1) := by decide +kernel
theorem dX4_add_17 : decode cX4_add 17 = .ok (.arraylength, 1) := by decide +kernel
theorem dX4_add_18 : decode cX4_add 18 = .ok (.iconst 5, 1) := by decide +kernel
theorem dX4_add_19 : decode cX4_add 19 = .ok (.if_icmp .ge 4, 3) := by decide +kernel
theorem dX4_add_22 : decode cX4_add 22 = .ok (.return_, 1) := by decide +kernel
theorem dX4_add_23 : decode cX4_add 23 = .ok (.aload_n 0, 1) := by decide +kernel
theorem dX4_add_24 : decode cX4_add 24 = .ok (.getfield 9, 3) := by decide +kernel
theorem dX4_add_27 : decode cX4_add 27 = .ok (.aload_n 0, 1) := by decide +kernel
theorem dX4_add_28 : decode cX4_add 28 = .ok (.getfield 49, 3) := by decide +kernel
theorem dX4_add_31 : decode cX4_add 31 = .ok (.iload_n 1, 1) := by decide +kernel
theorem dX4_add_32 : decode cX4_add 32 = .ok (.iastore, 1) := by decide +kernel
theorem dX4_add_33 : decode cX4_add 33 = .ok (.aload_n 0, 1) := by decide +kernel
theorem dX4_add_34 : decode cX4_add 34 = .ok (.getfield 15, 3) := by decide +kernel
theorem dX4_add_37 : decode cX4_add 37 = .ok (.aload_n 0, 1) := by decide +kernel
theorem dX4_add_38 : decode cX4_add 38 = .ok (.getfield 49, 3) := by decide +kernel
theorem dX4_add_41 : decode cX4_add 41 = .ok (.aload_n 2, 1) := by decide +kernel
theorem dX4_add_42 : decode cX4_add 42 = .ok (.iconst 0, 1) := by decide +kernel
theorem dX4_add_43 : decode cX4_add 43 = .ok (.iaload, 1) := by decide +kernel
theorem dX4_add_44 : decode cX4_add 44 = .ok (.iastore, 1) := by decide +kernel
theorem dX4_add_45 : decode cX4_add 45 = .ok (.aload_n 0, 1) := by decide +kernel
theorem dX4_add_46 : decode cX4_add 46 = .ok (.getfield 18, 3) := by decide +kernel
theorem dX4_add_49 : decode cX4_add 49 = .ok (.aload_n 0, 1) := by decide +kernel
theorem dX4_add_50 : decode cX4_add 50 = .ok (.getfield 49, 3) := by decide +kernel
theorem dX4_add_53 : decode cX4_add 53 = .ok (.aload_n 2, 1) := by decide +kernel
theorem dX4_add_54 : decode cX4_add 54 = .ok (.iconst 1, 1) := by decide +kernel
theorem dX4_add_55 : decode cX4_add 55 = .ok (.iaload, 1) := by decide +kernel
theorem dX4_add_56 : decode cX4_add 56 = .ok (.iastore, 1) := by decide +kernel
theorem dX4_add_57 : decode cX4_add 57 = .ok (.aload_n 0, 1) := by decide +kernel
theorem dX4_add_58 : decode cX4_add 58 = .ok (.getfield 21, 3) := by decide +kernel
theorem dX4_add_61 : decode cX4_add 61 = .ok (.aload_n 0, 1) := by decide +kernel
theorem dX4_add_62 : decode cX4_add 62 = .ok (.getfield 49, 3) := by decide +kernel
theorem dX4_add_65 : decode cX4_add 65 = .ok (.aload_n 2, 1) := by decide +kernel
theorem dX4_add_66 : decode cX4_add 66 = .ok (.iconst 2, 1) := by decide +kernel
theorem dX4_add_67 : decode cX4_add 67 = .ok (.iaload, 1) := by decide +kernel
theorem dX4_add_68 : decode cX4_add 68 = .ok (.iastore, 1) := by decide +kernel
theorem dX4_add_69 : decode cX4_add 69 = .ok (.aload_n 0, 1) := by decide +kernel
theorem dX4_add_70 : decode cX4_add 70 = .ok (.getfield 24, 3) := by decide +kernel
theorem dX4_add_73 : decode cX4_add 73 = .ok (.aload_n 0, 1) := by decide +kernel
theorem dX4_add_74 : decode cX4_add 74 = .ok (.getfield 49, 3) := by decide +kernel
theorem dX4_add_77 : decode cX4_add 77 = .ok (.aload_n 2, 1) := by decide +kernel
theorem dX4_add_78 : decode cX4_add 78 = .ok (.iconst 3, 1) := by decide +kernel
theorem dX4_add_79 : decode cX4_add 79 = .ok (.iaload, 1) := by decide +kernel
theorem dX4_add_80 : decode cX4_add 80 = .ok (.iastore, 1) := by decide +kernel
theorem dX4_add_81 : decode cX4_add 81 = .ok (.aload_n 0, 1) := by decide +kernel
theorem dX4_add_82 : decode cX4_add 82 = .ok (.getfield 27, 3) := by decide +kernel
theorem dX4_add_85 : decode cX4_add 85 = .ok (.aload_n 0, 1) := by decide +kernel
theorem dX4_add_86 : decode cX4_add 86 = .ok (.getfield 49, 3) := by decide +kernel
theorem dX4_add_89 : decode cX4_add 89 = .ok (.aload_n 2, 1) := by decide +kernel
theorem dX4_add_90 : decode cX4_add 90 = .ok (.iconst 4, 1) := by decide +kernel
theorem dX4_add_91 : decode cX4_add 91 = .ok (.iaload, 1) := by decide +kernel
theorem dX4_add_92 : decode cX4_add 92 = .ok (.iastore, 1) := by decide +kernel
theorem dX4_add_93 : decode cX4_add 93 = .ok (.aload_n 0, 1) := by decide +kernel
theorem dX4_add_94 : decode cX4_add 94 = .ok (.getfield 30, 3) := by decide +kernel
theorem dX4_add_97 : decode cX4_add 97 = .ok (.aload_n 0, 1) := by decide +kernel
theorem dX4_add_98 : decode cX4_add 98 = .ok (.getfield 49, 3) := by decide +kernel
theorem dX4_add_101 : decode cX4_add 101 = .ok (.iload_n 3, 1) := by decide +kernel
theorem dX4_add_102 : decode cX4_add 102 = .ok (.iastore, 1) := by decide +kernel
theorem dX4_add_103 : decode cX4_add 103 = .ok (.aload_n 0, 1) := by decide +kernel
theorem dX4_add_104 : decode cX4_add 104 = .ok (.dup, 1) := by decide +kernel
theorem dX4_add_105 : decode cX4_add 105 = .ok (.getfield 49, 3) := by decide +kernel
theorem dX4_add_108 : decode cX4_add 108 = .ok (.iconst 1, 1) := by decide +kernel
theorem dX4_add_109 : decode cX4_add 109 = .ok (.iadd, 1) := by decide +kernel
theorem dX4_add_110 : decode cX4_add 110 = .ok (.putfield 49, 3) := by decide +kernel
theorem dX4_add_113 : decode cX4_add 113 = .ok (.return_, 1) := by decide +kernel
theorem dX4_clear_0 : decode cX4_clear 0 = .ok (.aload_n 0, 1) := by decide +kernel
theorem dX4_clear_1 : decode cX4_clear 1 = .ok (.iconst 0, 1) := by decide +kernel
theorem dX4_clear_2 : decode cX4_clear 2 = .ok (.putfield 49, 3) := by decide +kernel
theorem dX4_clear_5 : decode cX4_clear 5 = .ok (.aload_n 0, 1) := by decide +kernel
theorem dX4_clear_6 : decode cX4_clear 6 = .ok (.iconst 1, 1) := by decide +kernel
theorem dX4_clear_7 : decode cX4_clear 7 = .ok (.putfield 45, 3) := by decide +kernel
theorem dX4_clear_10 : decode cX4_clear 10 = .ok (.iconst 0, 1) := by decide +kernel
theorem dX4_clear_11 : decode cX4_clear 11 = .ok (.istore_n 1, 1) := by decide +kernel
theorem dX4_clear_12 : decode cX4_clear 12 = .ok (.iload_n 1, 1) := by decide +kernel
theorem dX4_clear_13 : decode cX4_clear 13 = .ok (.bipush 6, 2) := by decide +kernel
theorem dX4_clear_15 : decode cX4_clear 15 = .ok (.if_icmp .ge 37, 3) := by decide +kernel
theorem dX4_clear_18 : decode cX4_clear 18 = .ok (.aload_n 0, 1) := by decide +kernel
theorem dX4_clear_19 : decode cX4_clear 19 = .ok (.getfield 33, 3) := by decide +kernel
theorem dX4_clear_22 : decode cX4_clear 22 = .ok (.iload_n 1, 1) := by decide +kernel
theorem dX4_clear_23 : decode cX4_clear 23 = .ok (.iconst 0, 1) := by decide +kernel
theorem dX4_clear_24 : decode cX4_clear 24 = .ok (.iastore, 1) := by decide +kernel
theorem dX4_clear_25 : decode cX4_clear 25 = .ok (.aload_n 0, 1) := by decide +kernel
theorem dX4_clear_26 : decode cX4_clear 26 = .ok (.getfield 36, 3) := by decide +kernel
theorem dX4_clear_29 : decode cX4_clear 29 = .ok (.iload_n 1, 1) := by decide +kernel
theorem dX4_clear_30 : decode cX4_clear 30 = .ok (.iconst 0, 1) := by decide +kernel
theorem dX4_clear_31 : decode cX4_clear 31 = .ok (.iastore, 1) := by decide +kernel
theorem dX4_clear_32 : decode cX4_clear 32 = .ok (.aload_n 0, 1) := by decide +kernel
theorem dX4_clear_33 : decode cX4_clear 33 = .ok (.getfield 39, 3) := by decide +kernel
theorem dX4_clear_36 : decode cX4_clear 36 = .ok (.iload_n 1, 1) := by decide +kernel
theorem dX4_clear_37 : decode cX4_clear 37 = .ok (.iconst 0, 1) := by decide +kernel
theorem dX4_clear_38 : decode cX4_clear 38 = .ok (.iastore, 1) := by decide +kernel
theorem dX4_clear_39 : decode cX4_clear 39 = .ok (.aload_n 0, 1) := by decide +kernel
theorem dX4_clear_40 : decode cX4_clear 40 = .ok (.getfield 42, 3) := by decide +kernel
theorem dX4_clear_43 : decode cX4_clear 43 = .ok (.iload_n 1, 1) := by decide +kernel
theorem dX4_clear_44 : decode cX4_clear 44 = .ok (.iconst 0, 1) := by decide +kernel
theorem dX4_clear_45 : decode cX4_clear 45 = .ok (.iastore, 1) := by decide +kernel
theorem dX4_clear_46 : decode cX4_clear 46 = .ok (.iinc 1 1, 3) := by decide +kernel
theorem dX4_clear_49 : decode cX4_clear 49 = .ok (.goto (-37), 3) := by decide +kernel
theorem dX4_clear_52 : decode cX4_clear 52 = .ok (.return_, 1) := by decide +kernel
theorem dX4_countFree_0 : decode cX4_countFree 0 = .ok (.aload_n 0, 1) := by decide +kernel
theorem dX4_countFree_1 : decode cX4_countFree 1 = .ok (.iload_n 1, 1) := by decide +kernel
theorem dX4_countFree_2 : decode cX4_countFree 2 = .ok (.invokevirtual 62, 3) := by decide +kernel
theorem dX4_countFree_5 : decode cX4_countFree 5 = .ok (.aload_n 0, 1) := by decide +kernel
theorem dX4_countFree_6 : decode cX4_countFree 6 = .ok (.getfield 15, 3) := by decide +kernel
theorem dX4_countFree_9 : decode cX4_countFree 9 = .ok (.iload_n 1, 1) := by decide +kernel
theorem dX4_countFree_10 : decode cX4_countFree 10 = .ok (.iaload, 1) := by decide +kernel
theorem dX4_countFree_11 : decode cX4_countFree 11 = .ok (.imul, 1) := by decide +kernel
theorem dX4_countFree_12 : decode cX4_countFree 12 = .ok (.aload_n 0, 1) := by decide +kernel
theorem dX4_countFree_13 : decode cX4_countFree 13 = .ok (.getfield 33, 3) := by decide +kernel
theorem dX4_countFree_16 : decode cX4_countFree 16 = .ok (.iload_n 1, 1) := by decide +kernel
theorem dX4_countFree_17 : decode cX4_countFree 17 = .ok (.iaload, 1) := by decide +kernel
theorem dX4_countFree_18 : decode cX4_countFree 18 = .ok (.isub, 1) := by decide +kernel
theorem dX4_countFree_19 : decode cX4_countFree 19 = .ok (.istore_n 2, 1) := by decide +kernel
theorem dX4_countFree_20 : decode cX4_countFree 20 = .ok (.aload_n 0, 1) := by decide +kernel
theorem dX4_countFree_21 : decode cX4_countFree 21 = .ok (.iload_n 1, 1) := by decide +kernel
theorem dX4_countFree_22 : decode cX4_countFree 22 = .ok (.invokevirtual 65, 3) := by decide +kernel
theorem dX4_countFree_25 : decode cX4_countFree 25 = .ok (.aload_n 0, 1) := by decide +kernel
theorem dX4_countFree_26 : decode cX4_countFree 26 = .ok (.getfield 15, 3) := by decide +kernel
theorem dX4_countFree_29 : decode cX4_countFree 29 = .ok (.iload_n 1, 1) := by decide +kernel
theorem dX4_countFree_30 : decode cX4_countFree 30 = .ok (.iaload, 1) := by decide +kernel
theorem dX4_countFree_31 : decode cX4_countFree 31 = .ok (.imul, 1) := by decide +kernel
theorem dX4_countFree_32 : decode cX4_countFree 32 = .ok (.iload_n 2, 1) := by decide +kernel
theorem dX4_countFree_33 : decode cX4_countFree 33 = .ok (.iadd, 1) := by decide +kernel
theorem dX4_countFree_34 : decode cX4_countFree 34 = .ok (.ireturn, 1) := by decide +kernel
theorem dX4_countIn_0 : decode cX4_countIn 0 = .ok (.aload_n 0, 1) := by decide +kernel
theorem dX4_countIn_1 : decode cX4_countIn 1 = .ok (.getfield 24, 3) := by decide +kernel
theorem dX4_countIn_4 : decode cX4_countIn 4 = .ok (.iload_n 1, 1) := by decide +kernel
theorem dX4_countIn_5 : decode cX4_countIn 5 = .ok (.iaload, 1) := by decide +kernel
theorem dX4_countIn_6 : decode cX4_countIn 6 = .ok (.aload_n 0, 1) := by decide +kernel
theorem dX4_countIn_7 : decode cX4_countIn 7 = .ok (.iload_n 1, 1) := by decide +kernel
theorem dX4_countIn_8 : decode cX4_countIn 8 = .ok (.invokevirtual 58, 3) := by decide +kernel
theorem dX4_countIn_11 : decode cX4_countIn 11 = .ok (.iadd, 1) := by decide +kernel
theorem dX4_countIn_12 : decode cX4_countIn 12 = .ok (.aload_n 0, 1) := by decide +kernel
theorem dX4_countIn_13 : decode cX4_countIn 13 = .ok (.iload_n 1, 1) := by decide +kernel
theorem dX4_countIn_14 : decode cX4_countIn 14 = .ok (.invokevirtual 62, 3) := by decide +kernel
theorem dX4_countIn_17 : decode cX4_countIn 17 = .ok (.isub, 1) := by decide +kernel
theorem dX4_countIn_18 : decode cX4_countIn 18 = .ok (.aload_n 0, 1) := by decide +kernel
theorem dX4_countIn_19 : decode cX4_countIn 19 = .ok (.getfield 36, 3) := by decide +kernel
theorem dX4_countIn_22 : decode cX4_countIn 22 = .ok (.iload_n 1, 1) := by decide +kernel
theorem dX4_countIn_23 : decode cX4_countIn 23 = .ok (.iaload, 1) := by decide +kernel
theorem dX4_countIn_24 : decode cX4_countIn 24 = .ok (.isub, 1) := by decide +kernel
theorem dX4_countIn_25 : decode cX4_countIn 25 = .ok (.aload_n 0, 1) := by decide +kernel
theorem dX4_countIn_26 : decode cX4_countIn 26 = .ok (.getfield 39, 3) := by decide +kernel
theorem dX4_countIn_29 : decode cX4_countIn 29 = .ok (.iload_n 1, 1) := by decide +kernel
theorem dX4_countIn_30 : decode cX4_countIn 30 = .ok (.iaload, 1) := by decide +kernel
theorem dX4_countIn_31 : decode cX4_countIn 31 = .ok (.isub, 1) := by decide +kernel
theorem dX4_countIn_32 : decode cX4_countIn 32 = .ok (.aload_n 0, 1) := by decide +kernel
theorem dX4_countIn_33 : decode cX4_countIn 33 = .ok (.getfield 42, 3) := by decide +kernel
theorem dX4_countIn_36 : decode cX4_countIn 36 = .ok (.iload_n 1, 1) := by decide +kernel
theorem dX4_countIn_37 : decode cX4_countIn 37 = .ok (.iaload, 1) := by decide +kernel
theorem dX4_countIn_38 : decode cX4_countIn 38 = .ok (.isub, 1) := by decide +kernel
theorem dX4_countIn_39 : decode cX4_countIn 39 = .ok (.ireturn, 1) := by decide +kernel
theorem dX4_countOut_0 : decode cX4_countOut 0 = .ok (.iconst 1, 1) := by decide +kernel
theorem dX4_countOut_1 : decode cX4_countOut 1 = .ok (.aload_n 0, 1) := by decide +kernel
theorem dX4_countOut_2 : decode cX4_countOut 2 = .ok (.getfield 15, 3) := by decide +kernel
theorem dX4_countOut_5 : decode cX4_countOut 5 = .ok (.iload_n 1, 1) := by decide +kernel
theorem dX4_countOut_6 : decode cX4_countOut 6 = .ok (.iaload, 1) := by decide +kernel
theorem dX4_countOut_7 : decode cX4_countOut 7 = .ok (.invokestatic 52, 3) := by decide +kernel
theorem dX4_countOut_10 : decode cX4_countOut 10 = .ok (.istore_n 2, 1) := by decide +kernel
theorem dX4_countOut_11 : decode cX4_countOut 11 = .ok (.aload_n 0, 1) := by decide +kernel
theorem dX4_countOut_12 : decode cX4_countOut 12 = .ok (.getfield 33, 3) := by decide +kernel
theorem dX4_countOut_15 : decode cX4_countOut 15 = .ok (.iload_n 1, 1) := by decide +kernel
theorem dX4_countOut_16 : decode cX4_countOut 16 = .ok (.iaload, 1) := by decide +kernel
theorem dX4_countOut_17 : decode cX4_countOut 17 = .ok (.iload_n 2, 1) := by decide +kernel
theorem dX4_countOut_18 : decode cX4_countOut 18 = .ok (.iadd, 1) := by decide +kernel
theorem dX4_countOut_19 : decode cX4_countOut 19 = .ok (.iconst 1, 1) := by decide +kernel
theorem dX4_countOut_20 : decode cX4_countOut 20 = .ok (.isub, 1) := by decide +kernel
theorem dX4_countOut_21 : decode cX4_countOut 21 = .ok (.iload_n 2, 1) := by decide +kernel
theorem dX4_countOut_22 : decode cX4_countOut 22 = .ok (.idiv, 1) := by decide +kernel
theorem dX4_countOut_23 : decode cX4_countOut 23 = .ok (.ireturn, 1) := by decide +kernel
theorem dX4_countReissued_0 : decode cX4_countReissued 0 = .ok (.aload_n 0, 1) := by decide +kernel
theorem dX4_countReissued_1 : decode cX4_countReissued 1 = .ok (.getfield 42, 3) := by decide +kernel
theorem dX4_countReissued_4 : decode cX4_countReissued 4 = .ok (.iload_n 1, 1) := by decide +kernel
theorem dX4_countReissued_5 : decode cX4_countReissued 5 = .ok (.iaload, 1) := by decide +kernel
theorem dX4_countReissued_6 : decode cX4_countReissued 6 = .ok (.iconst 1, 1) := by decide +kernel
theorem dX4_countReissued_7 : decode cX4_countReissued 7 = .ok (.aload_n 0, 1) := by decide +kernel
theorem dX4_countReissued_8 : decode cX4_countReissued 8 = .ok (.getfield 45, 3) := by decide +kernel
theorem dX4_countReissued_11 : decode cX4_countReissued 11 = .ok (.invokestatic 52, 3) := by decide +kernel
theorem dX4_countReissued_14 : decode cX4_countReissued 14 = .ok (.idiv, 1) := by decide +kernel
theorem dX4_countReissued_15 : decode cX4_countReissued 15 = .ok (.ireturn, 1) := by decide +kernel
theorem dX4_giveUp_0 : decode cX4_giveUp 0 = .ok (.aload_n 0, 1) := by decide +kernel
theorem dX4_giveUp_1 : decode cX4_giveUp 1 = .ok (.iload_n 1, 1) := by decide +kernel
theorem dX4_giveUp_2 : decode cX4_giveUp 2 = .ok (.invokevirtual 68, 3) := by decide +kernel
theorem dX4_giveUp_5 : decode cX4_giveUp 5 = .ok (.ifCond .ne 4, 3) := by decide +kernel
theorem dX4_giveUp_8 : decode cX4_giveUp 8 = .ok (.return_, 1) := by decide +kernel
theorem dX4_giveUp_9 : decode cX4_giveUp 9 = .ok (.aload_n 0, 1) := by decide +kernel
theorem dX4_giveUp_10 : decode cX4_giveUp 10 = .ok (.getfield 33, 3) := by decide +kernel
theorem dX4_giveUp_13 : decode cX4_giveUp 13 = .ok (.iload_n 1, 1) := by decide +kernel
theorem dX4_giveUp_14 : decode cX4_giveUp 14 = .ok (.dup2, 1) := by decide +kernel
theorem dX4_giveUp_15 : decode cX4_giveUp 15 = .ok (.iaload, 1) := by decide +kernel
theorem dX4_giveUp_16 : decode cX4_giveUp 16 = .ok (.iload_n 3, 1) := by decide +kernel
theorem dX4_giveUp_17 : decode cX4_giveUp 17 = .ok (.isub, 1) := by decide +kernel
theorem dX4_giveUp_18 : decode cX4_giveUp 18 = .ok (.iastore, 1) := by decide +kernel
theorem dX4_giveUp_19 : decode cX4_giveUp 19 = .ok (.aload_n 0, 1) := by decide +kernel
theorem dX4_giveUp_20 : decode cX4_giveUp 20 = .ok (.getfield 9, 3) := by decide +kernel
theorem dX4_giveUp_23 : decode cX4_giveUp 23 = .ok (.iload_n 1, 1) := by decide +kernel
theorem dX4_giveUp_24 : decode cX4_giveUp 24 = .ok (.iaload, 1) := by decide +kernel
theorem dX4_giveUp_25 : decode cX4_giveUp 25 = .ok (.ifCond .ne 20, 3) := by decide +kernel
theorem dX4_giveUp_28 : decode cX4_giveUp 28 = .ok (.iload_n 2, 1) := by decide +kernel
theorem dX4_giveUp_29 : decode cX4_giveUp 29 = .ok (.ifCond .ne 16, 3) := by decide +kernel
theorem dX4_giveUp_32 : decode cX4_giveUp 32 = .ok (.aload_n 0, 1) := by decide +kernel
theorem dX4_giveUp_33 : decode cX4_giveUp 33 = .ok (.getfield 36, 3) := by decide +kernel
theorem dX4_giveUp_36 : decode cX4_giveUp 36 = .ok (.iload_n 1, 1) := by decide +kernel
theorem dX4_giveUp_37 : decode cX4_giveUp 37 = .ok (.dup2, 1) := by decide +kernel
theorem dX4_giveUp_38 : decode cX4_giveUp 38 = .ok (.iaload, 1) := by decide +kernel
theorem dX4_giveUp_39 : decode cX4_giveUp 39 = .ok (.iload_n 3, 1) := by decide +kernel
theorem dX4_giveUp_40 : decode cX4_giveUp 40 = .ok (.iadd, 1) := by decide +kernel
theorem dX4_giveUp_41 : decode cX4_giveUp 41 = .ok (.iastore, 1) := by decide +kernel
theorem dX4_giveUp_42 : decode cX4_giveUp 42 = .ok (.goto 22, 3) := by decide +kernel
theorem dX4_giveUp_45 : decode cX4_giveUp 45 = .ok (.aload_n 0, 1) := by decide +kernel
theorem dX4_giveUp_46 : decode cX4_giveUp 46 = .ok (.getfield 9, 3) := by decide +kernel
theorem dX4_giveUp_49 : decode cX4_giveUp 49 = .ok (.iload_n 1, 1) := by decide +kernel
theorem dX4_giveUp_50 : decode cX4_giveUp 50 = .ok (.iaload, 1) := by decide +kernel
theorem dX4_giveUp_51 : decode cX4_giveUp 51 = .ok (.ifCond .ne 13, 3) := by decide +kernel
theorem dX4_giveUp_54 : decode cX4_giveUp 54 = .ok (.aload_n 0, 1) := by decide +kernel
theorem dX4_giveUp_55 : decode cX4_giveUp 55 = .ok (.getfield 39, 3) := by decide +kernel
theorem dX4_giveUp_58 : decode cX4_giveUp 58 = .ok (.iload_n 1, 1) := by decide +kernel
theorem dX4_giveUp_59 : decode cX4_giveUp 59 = .ok (.dup2, 1) := by decide +kernel
theorem dX4_giveUp_60 : decode cX4_giveUp 60 = .ok (.iaload, 1) := by decide +kernel
theorem dX4_giveUp_61 : decode cX4_giveUp 61 = .ok (.iload_n 3, 1) := by decide +kernel
theorem dX4_giveUp_62 : decode cX4_giveUp 62 = .ok (.iadd, 1) := by decide +kernel
theorem dX4_giveUp_63 : decode cX4_giveUp 63 = .ok (.iastore, 1) := by decide +kernel
theorem dX4_giveUp_64 : decode cX4_giveUp 64 = .ok (.return_, 1) := by decide +kernel
theorem dX4_has_0 : decode cX4_has 0 = .ok (.iload_n 1, 1) := by decide +kernel
theorem dX4_has_1 : decode cX4_has 1 = .ok (.ifCond .lt 15, 3) := by decide +kernel
theorem dX4_has_4 : decode cX4_has 4 = .ok (.iload_n 1, 1) := by decide +kernel
theorem dX4_has_5 : decode cX4_has 5 = .ok (.aload_n 0, 1) := by decide +kernel
theorem dX4_has_6 : decode cX4_has 6 = .ok (.getfield 49, 3) := by decide +kernel
theorem dX4_has_9 : decode cX4_has 9 = .ok (.if_icmp .ge 7, 3) := by decide +kernel
theorem dX4_has_12 : decode cX4_has 12 = .ok (.iconst 1, 1) := by decide +kernel
theorem dX4_has_13 : decode cX4_has 13 = .ok (.goto 4, 3) := by decide +kernel
theorem dX4_has_16 : decode cX4_has 16 = .ok (.iconst 0, 1) := by decide +kernel
theorem dX4_has_17 : decode cX4_has 17 = .ok (.ireturn, 1) := by decide +kernel
theorem dX4_isFor_0 : decode cX4_isFor 0 = .ok (.iload_n 2, 1) := by decide +kernel
theorem dX4_isFor_1 : decode cX4_isFor 1 = .ok (.aload_n 0, 1) := by decide +kernel
theorem dX4_isFor_2 : decode cX4_isFor 2 = .ok (.getfield 30, 3) := by decide +kernel
theorem dX4_isFor_5 : decode cX4_isFor 5 = .ok (.iload_n 1, 1) := by decide +kernel
theorem dX4_isFor_6 : decode cX4_isFor 6 = .ok (.iaload, 1) := by decide +kernel
theorem dX4_isFor_7 : decode cX4_isFor 7 = .ok (.iconst (-1), 1) := by decide +kernel
theorem dX4_isFor_8 : decode cX4_isFor 8 = .ok (.ixor, 1) := by decide +kernel
theorem dX4_isFor_9 : decode cX4_isFor 9 = .ok (.iand, 1) := by decide +kernel
theorem dX4_isFor_10 : decode cX4_isFor 10 = .ok (.ifCond .ne 7, 3) := by decide +kernel
theorem dX4_isFor_13 : decode cX4_isFor 13 = .ok (.iconst 1, 1) := by decide +kernel
theorem dX4_isFor_14 : decode cX4_isFor 14 = .ok (.goto 4, 3) := by decide +kernel
theorem dX4_isFor_17 : decode cX4_isFor 17 = .ok (.iconst 0, 1) := by decide +kernel
theorem dX4_isFor_18 : decode cX4_isFor 18 = .ok (.ireturn, 1) := by decide +kernel
theorem dX4_moveBack_0 : decode cX4_moveBack 0 = .ok (.aload_n 0, 1) := by decide +kernel
theorem dX4_moveBack_1 : decode cX4_moveBack 1 = .ok (.iload_n 1, 1) := by decide +kernel
theorem dX4_moveBack_2 : decode cX4_moveBack 2 = .ok (.invokevirtual 68, 3) := by decide +kernel
theorem dX4_moveBack_5 : decode cX4_moveBack 5 = .ok (.ifCond .eq 23, 3) := by decide +kernel
theorem dX4_moveBack_8 : decode cX4_moveBack 8 = .ok (.aload_n 0, 1) := by decide +kernel
theorem dX4_moveBack_9 : decode cX4_moveBack 9 = .ok (.getfield 36, 3) := by decide +kernel
theorem dX4_moveBack_12 : decode cX4_moveBack 12 = .ok (.iload_n 1, 1) := by decide +kernel
theorem dX4_moveBack_13 : decode cX4_moveBack 13 = .ok (.dup2, 1) := by decide +kernel
theorem dX4_moveBack_14 : decode cX4_moveBack 14 = .ok (.iaload, 1) := by decide +kernel
theorem dX4_moveBack_15 : decode cX4_moveBack 15 = .ok (.iload_n 2, 1) := by decide +kernel
theorem dX4_moveBack_16 : decode cX4_moveBack 16 = .ok (.isub, 1) := by decide +kernel
theorem dX4_moveBack_17 : decode cX4_moveBack 17 = .ok (.iastore, 1) := by decide +kernel
theorem dX4_moveBack_18 : decode cX4_moveBack 18 = .ok (.aload_n 0, 1) := by decide +kernel
theorem dX4_moveBack_19 : decode cX4_moveBack 19 = .ok (.getfield 42, 3) := by decide +kernel
theorem dX4_moveBack_22 : decode cX4_moveBack 22 = .ok (.iload_n 1, 1) := by decide +kernel
theorem dX4_moveBack_23 : decode cX4_moveBack 23 = .ok (.dup2, 1) := by decide +kernel
theorem dX4_moveBack_24 : decode cX4_moveBack 24 = .ok (.iaload, 1) := by decide +kernel
theorem dX4_moveBack_25 : decode cX4_moveBack 25 = .ok (.iload_n 2, 1) := by decide +kernel
theorem dX4_moveBack_26 : decode cX4_moveBack 26 = .ok (.iadd, 1) := by decide +kernel
theorem dX4_moveBack_27 : decode cX4_moveBack 27 = .ok (.iastore, 1) := by decide +kernel
theorem dX4_moveBack_28 : decode cX4_moveBack 28 = .ok (.return_, 1) := by decide +kernel
theorem dX4_suitsEngine_0 : decode cX4_suitsEngine 0 = .ok (.iload_n 2, 1) := by decide +kernel
theorem dX4_suitsEngine_1 : decode cX4_suitsEngine 1 = .ok (.aload_n 0, 1) := by decide +kernel
theorem dX4_suitsEngine_2 : decode cX4_suitsEngine 2 = .ok (.getfield 18, 3) := by decide +kernel
theorem dX4_suitsEngine_5 : decode cX4_suitsEngine 5 = .ok (.iload_n 1, 1) := by decide +kernel
theorem dX4_suitsEngine_6 : decode cX4_suitsEngine 6 = .ok (.iaload, 1) := by decide +kernel
theorem dX4_suitsEngine_7 : decode cX4_suitsEngine 7 = .ok (.if_icmp .lt 7, 3) := by decide +kernel
theorem dX4_suitsEngine_10 : decode cX4_suitsEngine 10 = .ok (.iconst 1, 1) := by decide +kernel
theorem dX4_suitsEngine_11 : decode cX4_suitsEngine 11 = .ok (.goto 4, 3) := by decide +kernel
theorem dX4_suitsEngine_14 : decode cX4_suitsEngine 14 = .ok (.iconst 0, 1) := by decide +kernel
theorem dX4_suitsEngine_15 : decode cX4_suitsEngine 15 = .ok (.ireturn, 1) := by decide +kernel
end
section
theorem dX5_addFree_0 : decode cX5_addFree 0 = .ok (.aload_n 0, 1) := by decide +kernel
theorem dX5_addFree_1 : decode cX5_addFree 1 = .ok (.getfield 19, 3) := by decide +kernel
theorem dX5_addFree_4 : decode cX5_addFree 4 = .ok (.iload_n 1, 1) := by decide +kernel
theorem dX5_addFree_5 : decode cX5_addFree 5 = .ok (.iconst 0, 1) := by decide +kernel
theorem dX5_addFree_6 : decode cX5_addFree 6 = .ok (.aload_n 0, 1) := by decide +kernel
theorem dX5_addFree_7 : decode cX5_addFree 7 = .ok (.getfield 19, 3) := by decide +kernel
theorem dX5_addFree_10 : decode cX5_addFree 10 = .ok (.iload_n 1, 1) := by decide +kernel
theorem dX5_addFree_11 : decode cX5_addFree 11 = .ok (.iaload, 1) := by decide +kernel
theorem dX5_addFree_12 : decode cX5_addFree 12 = .ok (.iload_n 2, 1) := by decide +kernel
theorem dX5_addFree_13 : decode cX5_addFree 13 = .ok (.iadd, 1) := by decide +kernel
theorem dX5_addFree_14 : decode cX5_addFree 14 = .ok (.invokestatic 86, 3) := by decide +kernel
theorem dX5_addFree_17 : decode cX5_addFree 17 = .ok (.iastore, 1) := by decide +kernel
theorem dX5_addFree_18 : decode cX5_addFree 18 = .ok (.return_, 1) := by decide +kernel
theorem dX5_cheapestOpen_0 : decode cX5_cheapestOpen 0 = .ok (.bipush 6, 2) := by decide +kernel
theorem dX5_cheapestOpen_2 : decode cX5_cheapestOpen 2 = .ok (.istore_n 1, 1) := by decide +kernel
theorem dX5_cheapestOpen_3 : decode cX5_cheapestOpen 3 = .ok (.iconst 0, 1) := by decide +kernel
theorem dX5_cheapestOpen_4 : decode cX5_cheapestOpen 4 = .ok (.istore_n 2, 1) := by decide +kernel
theorem dX5_cheapestOpen_5 : decode cX5_cheapestOpen 5 = .ok (.iload_n 2, 1) := by decide +kernel
theorem dX5_cheapestOpen_6 : decode cX5_cheapestOpen 6 = .ok (.bipush 6, 2) := by decide +kernel
theorem dX5_cheapestOpen_8 : decode cX5_cheapestOpen 8 = .ok (.if_icmp .ge 36, 3) := by decide +kernel
theorem dX5_cheapestOpen_11 : decode cX5_cheapestOpen 11 = .ok (.aload_n 0, 1) := by decide +kernel
theorem dX5_cheapestOpen_12 : decode cX5_cheapestOpen 12 = .ok (.getfield 22, 3) := by decide +kernel
theorem dX5_cheapestOpen_15 : decode cX5_cheapestOpen 15 = .ok (.iload_n 2, 1) := by decide +kernel
theorem dX5_cheapestOpen_16 : decode cX5_cheapestOpen 16 = .ok (.iaload, 1) := by decide +kernel
theorem dX5_cheapestOpen_17 : decode cX5_cheapestOpen 17 = .ok (.ifCond .le 21, 3) := by decide +kernel
theorem dX5_cheapestOpen_20 : decode cX5_cheapestOpen 20 = .ok (.aload_n 0, 1) := by decide +kernel
theorem dX5_cheapestOpen_21 : decode cX5_cheapestOpen 21 = .ok (.getfield 28, 3) := by decide +kernel
theorem dX5_cheapestOpen_24 : decode cX5_cheapestOpen 24 = .ok (.iload_n 2, 1) := by decide +kernel
theorem dX5_cheapestOpen_25 : decode cX5_cheapestOpen 25 = .ok (.laload, 1) := by decide +kernel
theorem dX5_cheapestOpen_26 : decode cX5_cheapestOpen 26 = .ok (.aload_n 0, 1) := by decide +kernel
theorem dX5_cheapestOpen_27 : decode cX5_cheapestOpen 27 = .ok (.getfield 28, 3) := by decide +kernel
theorem dX5_cheapestOpen_30 : decode cX5_cheapestOpen 30 = .ok (.iload_n 1, 1) := by decide +kernel
theorem dX5_cheapestOpen_31 : decode cX5_cheapestOpen 31 = .ok (.laload, 1) := by decide +kernel
theorem dX5_cheapestOpen_32 : decode cX5_cheapestOpen 32 = .ok (.lcmp, 1) := by decide +kernel
theorem dX5_cheapestOpen_33 : decode cX5_cheapestOpen 33 = .ok (.ifCond .ge 5, 3) := by decide +kernel
theorem dX5_cheapestOpen_36 : decode cX5_cheapestOpen 36 = .ok (.iload_n 2, 1) := by decide +kernel
theorem dX5_cheapestOpen_37 : decode cX5_cheapestOpen 37 = .ok (.istore_n 1, 1) := by decide +kernel
theorem dX5_cheapestOpen_38 : decode cX5_cheapestOpen 38 = .ok (.iinc 2 1, 3) := by decide +kernel
theorem dX5_cheapestOpen_41 : decode cX5_cheapestOpen 41 = .ok (.goto (-36), 3) := by decide +kernel
theorem dX5_cheapestOpen_44 : decode cX5_cheapestOpen 44 = .ok (.iload_n 1, 1) := by decide +kernel
theorem dX5_cheapestOpen_45 : decode cX5_cheapestOpen 45 = .ok (.ireturn, 1) := by decide +kernel
theorem dX5_costTogether_0 : decode cX5_costTogether 0 = .ok (.iconst 0, 1) := by decide +kernel
theorem dX5_costTogether_1 : decode cX5_costTogether 1 = .ok (.istore_n 2, 1) := by decide +kernel
theorem dX5_costTogether_2 : decode cX5_costTogether 2 = .ok (.iconst 0, 1) := by decide +kernel
theorem dX5_costTogether_3 : decode cX5_costTogether 3 = .ok (.istore_n 3, 1) := by decide +kernel
theorem dX5_costTogether_4 : decode cX5_costTogether 4 = .ok (.iload_n 3, 1) := by decide +kernel
theorem dX5_costTogether_5 : decode cX5_costTogether 5 = .ok (.aload_n 0, 1) := by decide +kernel
theorem dX5_costTogether_6 : decode cX5_costTogether 6 = .ok (.getfield 34, 3) := by decide +kernel
theorem dX5_costTogether_9 : decode cX5_costTogether 9 = .ok (.if_icmp .ge 36, 3) := by decide +kernel
theorem dX5_costTogether_12 : decode cX5_costTogether 12 = .ok (.aload_n 1, 1) := by decide +kernel
theorem dX5_costTogether_13 : decode cX5_costTogether 13 = .ok (.aload_n 0, 1) := by decide +kernel
theorem dX5_costTogether_14 : decode cX5_costTogether 14 = .ok (.getfield 25, 3) := by decide +kernel
theorem dX5_costTogether_17 : decode cX5_costTogether 17 = .ok (.iload_n 3, 1) := by decide +kernel
theorem dX5_costTogether_18 : decode cX5_costTogether 18 = .ok (.iaload, 1) := by decide +kernel
theorem dX5_costTogether_19 : decode cX5_costTogether 19 = .ok (.invokevirtual 61, 3) := by decide +kernel
theorem dX5_costTogether_22 : decode cX5_costTogether 22 = .ok (.ifCond .eq 17, 3) := by decide +kernel
theorem dX5_costTogether_25 : decode cX5_costTogether 25 = .ok (.iload_n 2, 1) := by decide +kernel
theorem dX5_costTogether_26 : decode cX5_costTogether 26 = .ok (.aload_n 1, 1) := by decide +kernel
theorem dX5_costTogether_27 : decode cX5_costTogether 27 = .ok (.getfield 75, 3) := by decide +kernel
theorem dX5_costTogether_30 : decode cX5_costTogether 30 = .ok (.aload_n 0, 1) := by decide +kernel
theorem dX5_costTogether_31 : decode cX5_costTogether 31 = .ok (.getfield 25, 3) := by decide +kernel
theorem dX5_costTogether_34 : decode cX5_costTogether 34 = .ok (.iload_n 3, 1) := by decide +kernel
theorem dX5_costTogether_35 : decode cX5_costTogether 35 = .ok (.iaload, 1) := by decide +kernel
theorem dX5_costTogether_36 : decode cX5_costTogether 36 = .ok (.iaload, 1) := by decide +kernel
theorem dX5_costTogether_37 : decode cX5_costTogether 37 = .ok (.iadd, 1) := by decide +kernel
theorem dX5_costTogether_38 : decode cX5_costTogether 38 = .ok (.istore_n 2, 1) := by decide +kernel
theorem dX5_costTogether_39 : decode cX5_costTogether 39 = .ok (.iinc 3 1, 3) := by decide +kernel
theorem dX5_costTogether_42 : decode cX5_costTogether 42 = .ok (.goto (-38), 3) := by decide +kernel
theorem dX5_costTogether_45 : decode cX5_costTogether 45 = .ok (.iload_n 2, 1) := by decide +kernel
theorem dX5_costTogether_46 : decode cX5_costTogether 46 = .ok (.ireturn, 1) := by decide +kernel
theorem dX5_findChains_0 : decode cX5_findChains 0 = .ok (.iconst 0, 1) := by decide +kernel
theorem dX5_findChains_1 : decode cX5_findChains 1 = .ok (.istore_n 2, 1) := by decide +kernel
theorem dX5_findChains_2 : decode cX5_findChains 2 = .ok (.iload_n 2, 1) := by decide +kernel
theorem dX5_findChains_3 : decode cX5_findChains 3 = .ok (.bipush 7, 2) := by decide +kernel
theorem dX5_findChains_5 : decode cX5_findChains 5 = .ok (.if_icmp .ge 33, 3) := by decide +kernel
theorem dX5_findChains_8 : decode cX5_findChains 8 = .ok (.aload_n 0, 1) := by decide +kernel
theorem dX5_findChains_9 : decode cX5_findChains 9 = .ok (.getfield 28, 3) := by decide +kernel
theorem dX5_findChains_12 : decode cX5_findChains 12 = .ok (.iload_n 2, 1) := by decide +kernel
theorem dX5_findChains_13 : decode cX5_findChains 13 = .ok (.aload_n 0, 1) := by decide +kernel
theorem dX5_findChains_14 : decode cX5_findChains 14 = .ok (.getfield 15, 3) := by decide +kernel
theorem dX5_findChains_17 : decode cX5_findChains 17 = .ok (.iload_n 1, 1) := by decide +kernel
theorem dX5_findChains_18 : decode cX5_findChains 18 = .ok (.bipush 7, 2) := by decide +kernel
theorem dX5_findChains_20 : decode cX5_findChains 20 = .ok (.imul, 1) := by decide +kernel
theorem dX5_findChains_21 : decode cX5_findChains 21 = .ok (.iload_n 2, 1) := by decide +kernel
theorem dX5_findChains_22 : decode cX5_findChains 22 = .ok (.iadd, 1) := by decide +kernel
theorem dX5_findChains_23 : decode cX5_findChains 23 = .ok (.laload, 1) := by decide +kernel
theorem dX5_findChains_24 : decode cX5_findChains 24 = .ok (.lastore, 1) := by decide +kernel
theorem dX5_findChains_25 : decode cX5_findChains 25 = .ok (.aload_n 0, 1) := by decide +kernel
theorem dX5_findChains_26 : decode cX5_findChains 26 = .ok (.getfield 31, 3) := by decide +kernel
theorem dX5_findChains_29 : decode cX5_findChains 29 = .ok (.iload_n 2, 1) := by decide +kernel
theorem dX5_findChains_30 : decode cX5_findChains 30 = .ok (.iload_n 1, 1) := by decide +kernel
theorem dX5_findChains_31 : decode cX5_findChains 31 = .ok (.iastore, 1) := by decide +kernel
theorem dX5_findChains_32 : decode cX5_findChains 32 = .ok (.iinc 2 1, 3) := by decide +kernel
theorem dX5_findChains_35 : decode cX5_findChains 35 = .ok (.goto (-33), 3) := by decide +kernel
theorem dX5_findChains_38 : decode cX5_findChains 38 = .ok (.iconst 1, 1) := by decide +kernel
theorem dX5_findChains_39 : decode cX5_findChains 39 = .ok (.istore_n 2, 1) := by decide +kernel
theorem dX5_findChains_40 : decode cX5_findChains 40 = .ok (.iconst 0, 1) := by decide +kernel
theorem dX5_findChains_41 : decode cX5_findChains 41 = .ok (.istore_n 3, 1) := by decide +kernel
theorem dX5_findChains_42 : decode cX5_findChains 42 = .ok (.iload_n 3, 1) := by decide +kernel
theorem dX5_findChains_43 : decode cX5_findChains 43 = .ok (.bipush 7, 2) := by decide +kernel
theorem dX5_findChains_45 : decode cX5_findChains 45 = .ok (.if_icmp .ge 41, 3) := by decide +kernel
theorem dX5_findChains_48 : decode cX5_findChains 48 = .ok (.iload_n 2, 1) := by decide +kernel
theorem dX5_findChains_49 : decode cX5_findChains 49 = .ok (.ifCond .eq 37, 3) := by decide +kernel
theorem dX5_findChains_52 : decode cX5_findChains 52 = .ok (.iconst 0, 1) := by decide +kernel
theorem dX5_findChains_53 : decode cX5_findChains 53 = .ok (.istore_n 2, 1) := by decide +kernel
theorem dX5_findChains_54 : decode cX5_findChains 54 = .ok (.iconst 0, 1) := by decide +kernel
theorem dX5_findChains_55 : decode cX5_findChains 55 = .ok (.istore 4, 2) := by decide +kernel
theorem dX5_findChains_57 : decode cX5_findChains 57 = .ok (.iload 4, 2) := by decide +kernel
theorem dX5_findChains_59 : decode cX5_findChains 59 = .ok (.iload_n 1, 1) := by decide +kernel
theorem dX5_findChains_60 : decode cX5_findChains 60 = .ok (.if_icmp .ge 20, 3) := by decide +kernel
theorem dX5_findChains_63 : decode cX5_findChains 63 = .ok (.aload_n 0, 1) := by decide +kernel
theorem dX5_findChains_64 : decode cX5_findChains 64 = .ok (.iload 4, 2) := by decide +kernel
theorem dX5_findChains_66 : decode cX5_findChains 66 = .ok (.invokevirtual 107, 3) := by decide +kernel
theorem dX5_findChains_69 : decode cX5_findChains 69 = .ok (.ifCond .eq 5, 3) := by decide +kernel
theorem dX5_findChains_72 : decode cX5_findChains 72 = .ok (.iconst 1, 1) := by decide +kernel
theorem dX5_findChains_73 : decode cX5_findChains 73 = .ok (.istore_n 2, 1) := by decide +kernel
theorem dX5_findChains_74 : decode cX5_findChains 74 = .ok (.iinc 4 1, 3) := by decide +kernel
theorem dX5_findChains_77 : decode cX5_findChains 77 = .ok (.goto (-20), 3) := by decide +kernel
theorem dX5_findChains_80 : decode cX5_findChains 80 = .ok (.iinc 3 1, 3) := by decide +kernel
theorem dX5_findChains_83 : decode cX5_findChains 83 = .ok (.goto (-41), 3) := by decide +kernel
theorem dX5_findChains_86 : decode cX5_findChains 86 = .ok (.return_, 1) := by decide +kernel
theorem dX5_moveAlong_0 : decode cX5_moveAlong 0 = .ok (.aload_n 0, 1) := by decide +kernel
theorem dX5_moveAlong_1 : decode cX5_moveAlong 1 = .ok (.getfield 22, 3) := by decide +kernel
theorem dX5_moveAlong_4 : decode cX5_moveAlong 4 = .ok (.iload_n 2, 1) := by decide +kernel
theorem dX5_moveAlong_5 : decode cX5_moveAlong 5 = .ok (.dup2, 1) := by decide +kernel
theorem dX5_moveAlong_6 : decode cX5_moveAlong 6 = .ok (.iaload, 1) := by decide +kernel
theorem dX5_moveAlong_7 : decode cX5_moveAlong 7 = .ok (.iconst 1, 1) := by decide +kernel
theorem dX5_moveAlong_8 : decode cX5_moveAlong 8 = .ok (.isub, 1) := by decide +kernel
theorem dX5_moveAlong_9 : decode cX5_moveAlong 9 = .ok (.iastore, 1) := by decide +kernel
theorem dX5_moveAlong_10 : decode cX5_moveAlong 10 = .ok (.iload_n 2, 1) := by decide +kernel
theorem dX5_moveAlong_11 : decode cX5_moveAlong 11 = .ok (.istore_n 3, 1) := by decide +kernel
theorem dX5_moveAlong_12 : decode cX5_moveAlong 12 = .ok (.iconst 0, 1) := by decide +kernel
theorem dX5_moveAlong_13 : decode cX5_moveAlong 13 = .ok (.istore 4, 2) := by decide +kernel
theorem dX5_moveAlong_15 : decode cX5_moveAlong 15 = .ok (.iload 4, 2) := by decide +kernel
theorem dX5_moveAlong_17 : decode cX5_moveAlong 17 = .ok (.bipush 7, 2) := by decide +kernel
theorem dX5_moveAlong_19 : decode cX5_moveAlong 19 = .ok (.if_icmp .ge 51, 3) := by decide +kernel
theorem dX5_moveAlong_22 : decode cX5_moveAlong 22 = .ok (.iload_n 3, 1) := by decide +kernel
theorem dX5_moveAlong_23 : decode cX5_moveAlong 23 = .ok (.ifCond .lt 47, 3) := by decide +kernel
theorem dX5_moveAlong_26 : decode cX5_moveAlong 26 = .ok (.aload_n 0, 1) := by decide +kernel
theorem dX5_moveAlong_27 : decode cX5_moveAlong 27 = .ok (.getfield 31, 3) := by decide +kernel
theorem dX5_moveAlong_30 : decode cX5_moveAlong 30 = .ok (.iload_n 3, 1) := by decide +kernel
theorem dX5_moveAlong_31 : decode cX5_moveAlong 31 = .ok (.iaload, 1) := by decide +kernel
theorem dX5_moveAlong_32 : decode cX5_moveAlong 32 = .ok (.istore 5, 2) := by decide +kernel
theorem dX5_moveAlong_34 : decode cX5_moveAlong 34 = .ok (.aload_n 0, 1) := by decide +kernel
theorem dX5_moveAlong_35 : decode cX5_moveAlong 35 = .ok (.getfield 25, 3) := by decide +kernel
theorem dX5_moveAlong_38 : decode cX5_moveAlong 38 = .ok (.iload 5, 2) := by decide +kernel
theorem dX5_moveAlong_40 : decode cX5_moveAlong 40 = .ok (.iaload, 1) := by decide +kernel
theorem dX5_moveAlong_41 : decode cX5_moveAlong 41 = .ok (.istore 6, 2) := by decide +kernel
theorem dX5_moveAlong_43 : decode cX5_moveAlong 43 = .ok (.aload_n 0, 1) := by decide +kernel
theorem dX5_moveAlong_44 : decode cX5_moveAlong 44 = .ok (.getfield 25, 3) := by decide +kernel
theorem dX5_moveAlong_47 : decode cX5_moveAlong 47 = .ok (.iload 5, 2) := by decide +kernel
theorem dX5_moveAlong_49 : decode cX5_moveAlong 49 = .ok (.iload_n 3, 1) := by decide +kernel
theorem dX5_moveAlong_50 : decode cX5_moveAlong 50 = .ok (.iastore, 1) := by decide +kernel
theorem dX5_moveAlong_51 : decode cX5_moveAlong 51 = .ok (.iload 5, 2) := by decide +kernel
theorem dX5_moveAlong_53 : decode cX5_moveAlong 53 = .ok (.iload_n 1, 1) := by decide +kernel
theorem dX5_moveAlong_54 : decode cX5_moveAlong 54 = .ok (.if_icmp .ne 7, 3) := by decide +kernel
theorem dX5_moveAlong_57 : decode cX5_moveAlong 57 = .ok (.iconst (-1), 1) := by decide +kernel
theorem dX5_moveAlong_58 : decode cX5_moveAlong 58 = .ok (.goto 5, 3) := by decide +kernel
theorem dX5_moveAlong_61 : decode cX5_moveAlong 61 = .ok (.iload 6, 2) := by decide +kernel
theorem dX5_moveAlong_63 : decode cX5_moveAlong 63 = .ok (.istore_n 3, 1) := by decide +kernel
theorem dX5_moveAlong_64 : decode cX5_moveAlong 64 = .ok (.iinc 4 1, 3) := by decide +kernel
theorem dX5_moveAlong_67 : decode cX5_moveAlong 67 = .ok (.goto (-52), 3) := by decide +kernel
theorem dX5_moveAlong_70 : decode cX5_moveAlong 70 = .ok (.return_, 1) := by decide +kernel
theorem dX5_pushOn_0 : decode cX5_pushOn 0 = .ok (.aload_n 0, 1) := by decide +kernel
theorem dX5_pushOn_1 : decode cX5_pushOn 1 = .ok (.getfield 25, 3) := by decide +kernel
theorem dX5_pushOn_4 : decode cX5_pushOn 4 = .ok (.iload_n 1, 1) := by decide +kernel
theorem dX5_pushOn_5 : decode cX5_pushOn 5 = .ok (.iaload, 1) := by decide +kernel
theorem dX5_pushOn_6 : decode cX5_pushOn 6 = .ok (.istore_n 2, 1) := by decide +kernel
theorem dX5_pushOn_7 : decode cX5_pushOn 7 = .ok (.iload_n 2, 1) := by decide +kernel
theorem dX5_pushOn_8 : decode cX5_pushOn 8 = .ok (.ifCond .lt 16, 3) := by decide +kernel
theorem dX5_pushOn_11 : decode cX5_pushOn 11 = .ok (.aload_n 0, 1) := by decide +kernel
theorem dX5_pushOn_12 : decode cX5_pushOn 12 = .ok (.getfield 28, 3) := by decide +kernel
theorem dX5_pushOn_15 : decode cX5_pushOn 15 = .ok (.iload_n 2, 1) := by decide +kernel
theorem dX5_pushOn_16 : decode cX5_pushOn 16 = .ok (.laload, 1) := by decide +kernel
theorem dX5_pushOn_17 : decode cX5_pushOn 17 = .ok (.ldc2_w 80, 3) := by decide +kernel
theorem dX5_pushOn_20 : decode cX5_pushOn 20 = .ok (.lcmp, 1) := by decide +kernel
theorem dX5_pushOn_21 : decode cX5_pushOn 21 = .ok (.ifCond .lt 5, 3) := by decide +kernel
theorem dX5_pushOn_24 : decode cX5_pushOn 24 = .ok (.iconst 0, 1) := by decide +kernel
theorem dX5_pushOn_25 : decode cX5_pushOn 25 = .ok (.ireturn, 1) := by decide +kernel
theorem dX5_pushOn_26 : decode cX5_pushOn 26 = .ok (.iconst 0, 1) := by decide +kernel
theorem dX5_pushOn_27 : decode cX5_pushOn 27 = .ok (.istore_n 3, 1) := by decide +kernel
theorem dX5_pushOn_28 : decode cX5_pushOn 28 = .ok (.iconst 0, 1) := by decide +kernel
theorem dX5_pushOn_29 : decode cX5_pushOn 29 = .ok (.istore 4, 2) := by decide +kernel
theorem dX5_pushOn_31 : decode cX5_pushOn 31 = .ok (.iload 4, 2) := by decide +kernel
theorem dX5_pushOn_33 : decode cX5_pushOn 33 = .ok (.bipush 7, 2) := by decide +kernel
theorem dX5_pushOn_35 : decode cX5_pushOn 35 = .ok (.if_icmp .ge 87, 3) := by decide +kernel
theorem dX5_pushOn_38 : decode cX5_pushOn 38 = .ok (.aload_n 0, 1) := by decide +kernel
theorem dX5_pushOn_39 : decode cX5_pushOn 39 = .ok (.getfield 15, 3) := by decide +kernel
theorem dX5_pushOn_42 : decode cX5_pushOn 42 = .ok (.iload_n 1, 1) := by decide +kernel
theorem dX5_pushOn_43 : decode cX5_pushOn 43 = .ok (.bipush 7, 2) := by decide +kernel
theorem dX5_pushOn_45 : decode cX5_pushOn 45 = .ok (.imul, 1) := by decide +kernel
theorem dX5_pushOn_46 : decode cX5_pushOn 46 = .ok (.iload 4, 2) := by decide +kernel
theorem dX5_pushOn_48 : decode cX5_pushOn 48 = .ok (.iadd, 1) := by decide +kernel
theorem dX5_pushOn_49 : decode cX5_pushOn 49 = .ok (.laload, 1) := by decide +kernel
theorem dX5_pushOn_50 : decode cX5_pushOn 50 = .ok (.lstore 5, 2) := by decide +kernel
theorem dX5_pushOn_52 : decode cX5_pushOn 52 = .ok (.aload_n 0, 1) := by decide +kernel
theorem dX5_pushOn_53 : decode cX5_pushOn 53 = .ok (.getfield 28, 3) := by decide +kernel
theorem dX5_pushOn_56 : decode cX5_pushOn 56 = .ok (.iload_n 2, 1) := by decide +kernel
theorem dX5_pushOn_57 : decode cX5_pushOn 57 = .ok (.laload, 1) := by decide +kernel
theorem dX5_pushOn_58 : decode cX5_pushOn 58 = .ok (.aload_n 0, 1) := by decide +kernel
theorem dX5_pushOn_59 : decode cX5_pushOn 59 = .ok (.getfield 15, 3) := by decide +kernel
theorem dX5_pushOn_62 : decode cX5_pushOn 62 = .ok (.iload_n 1, 1) := by decide +kernel
theorem dX5_pushOn_63 : decode cX5_pushOn 63 = .ok (.bipush 7, 2) := by decide +kernel
theorem dX5_pushOn_65 : decode cX5_pushOn 65 = .ok (.imul, 1) := by decide +kernel
theorem dX5_pushOn_66 : decode cX5_pushOn 66 = .ok (.iload_n 2, 1) := by decide +kernel
theorem dX5_pushOn_67 : decode cX5_pushOn 67 = .ok (.iadd, 1) := by decide +kernel
theorem dX5_pushOn_68 : decode cX5_pushOn 68 = .ok (.laload, 1) := by decide +kernel
theorem dX5_pushOn_69 : decode cX5_pushOn 69 = .ok (.lsub, 1) := by decide +kernel
theorem dX5_pushOn_70 : decode cX5_pushOn 70 = .ok (.lload 5, 2) := by decide +kernel
theorem dX5_pushOn_72 : decode cX5_pushOn 72 = .ok (.ladd, 1) := by decide +kernel
theorem dX5_pushOn_73 : decode cX5_pushOn 73 = .ok (.lstore 7, 2) := by decide +kernel
theorem dX5_pushOn_75 : decode cX5_pushOn 75 = .ok (.lload 5, 2) := by decide +kernel
theorem dX5_pushOn_77 : decode cX5_pushOn 77 = .ok (.ldc2_w 80, 3) := by decide +kernel
theorem dX5_pushOn_80 : decode cX5_pushOn 80 = .ok (.lcmp, 1) := by decide +kernel
theorem dX5_pushOn_81 : decode cX5_pushOn 81 = .ok (.ifCond .ge 35, 3) := by decide +kernel
theorem dX5_pushOn_84 : decode cX5_pushOn 84 = .ok (.lload 7, 2) := by decide +kernel
theorem dX5_pushOn_86 : decode cX5_pushOn 86 = .ok (.aload_n 0, 1) := by decide +kernel
theorem dX5_pushOn_87 : decode cX5_pushOn 87 = .ok (.getfield 28, 3) := by decide +kernel
theorem dX5_pushOn_90 : decode cX5_pushOn 90 = .ok (.iload 4, 2) := by decide +kernel
theorem dX5_pushOn_92 : decode cX5_pushOn 92 = .ok (.laload, 1) := by decide +kernel
theorem dX5_pushOn_93 : decode cX5_pushOn 93 = .ok (.lcmp, 1) := by decide +kernel
theorem dX5_pushOn_94 : decode cX5_pushOn 94 = .ok (.ifCond .ge 22, 3) := by decide +kernel
theorem dX5_pushOn_97 : decode cX5_pushOn 97 = .ok (.aload_n 0, 1) := by decide +kernel
theorem dX5_pushOn_98 : decode cX5_pushOn 98 = .ok (.getfield 28, 3) := by decide +kernel
theorem dX5_pushOn_101 : decode cX5_pushOn 101 = .ok (.iload 4, 2) := by decide +kernel
theorem dX5_pushOn_103 : decode cX5_pushOn 103 = .ok (.lload 7, 2) := by decide +kernel
theorem dX5_pushOn_105 : decode cX5_pushOn 105 = .ok (.lastore, 1) := by decide +kernel
theorem dX5_pushOn_106 : decode cX5_pushOn 106 = .ok (.aload_n 0, 1) := by decide +kernel
theorem dX5_pushOn_107 : decode cX5_pushOn 107 = .ok (.getfield 31, 3) := by decide +kernel
theorem dX5_pushOn_110 : decode cX5_pushOn 110 = .ok (.iload 4, 2) := by decide +kernel
theorem dX5_pushOn_112 : decode cX5_pushOn 112 = .ok (.iload_n 1, 1) := by decide +kernel
theorem dX5_pushOn_113 : decode cX5_pushOn 113 = .ok (.iastore, 1) := by decide +kernel
theorem dX5_pushOn_114 : decode cX5_pushOn 114 = .ok (.iconst 1, 1) := by decide +kernel
theorem dX5_pushOn_115 : decode cX5_pushOn 115 = .ok (.istore_n 3, 1) := by decide +kernel
theorem dX5_pushOn_116 : decode cX5_pushOn 116 = .ok (.iinc 4 1, 3) := by decide +kernel
theorem dX5_pushOn_119 : decode cX5_pushOn 119 = .ok (.goto (-88), 3) := by decide +kernel
theorem dX5_pushOn_122 : decode cX5_pushOn 122 = .ok (.iload_n 3, 1) := by decide +kernel
theorem dX5_pushOn_123 : decode cX5_pushOn 123 = .ok (.ireturn, 1) := by decide +kernel
theorem dX5_setPrices_0 : decode cX5_setPrices 0 = .ok (.iconst 0, 1) := by decide +kernel
theorem dX5_setPrices_1 : decode cX5_setPrices 1 = .ok (.istore 5, 2) := by decide +kernel
theorem dX5_setPrices_3 : decode cX5_setPrices 3 = .ok (.iload 5, 2) := by decide +kernel
theorem dX5_setPrices_5 : decode cX5_setPrices 5 = .ok (.bipush 6, 2) := by decide +kernel
theorem dX5_setPrices_7 : decode cX5_setPrices 7 = .ok (.if_icmp .ge 63, 3) := by decide +kernel
theorem dX5_setPrices_10 : decode cX5_setPrices 10 = .ok (.aload_n 0, 1) := by decide +kernel
theorem dX5_setPrices_11 : decode cX5_setPrices 11 = .ok (.getfield 15, 3) := by decide +kernel
theorem dX5_setPrices_14 : decode cX5_setPrices 14 = .ok (.iload_n 2, 1) := by decide +kernel
theorem dX5_setPrices_15 : decode cX5_setPrices 15 = .ok (.bipush 7, 2) := by decide +kernel
theorem dX5_setPrices_17 : decode cX5_setPrices 17 = .ok (.imul, 1) := by decide +kernel
theorem dX5_setPrices_18 : decode cX5_setPrices 18 = .ok (.iload 5, 2) := by decide +kernel
theorem dX5_setPrices_20 : decode cX5_setPrices 20 = .ok (.iadd, 1) := by decide +kernel
theorem dX5_setPrices_21 : decode cX5_setPrices 21 = .ok (.aload_n 1, 1) := by decide +kernel
theorem dX5_setPrices_22 : decode cX5_setPrices 22 = .ok (.iload 5, 2) := by decide +kernel
theorem dX5_setPrices_24 : decode cX5_setPrices 24 = .ok (.aload_n 0, 1) := by decide +kernel
theorem dX5_setPrices_25 : decode cX5_setPrices 25 = .ok (.getfield 11, 3) := by decide +kernel
theorem dX5_setPrices_28 : decode cX5_setPrices 28 = .ok (.iload_n 2, 1) := by decide +kernel
theorem dX5_setPrices_29 : decode cX5_setPrices 29 = .ok (.iaload, 1) := by decide +kernel
theorem dX5_setPrices_30 : decode cX5_setPrices 30 = .ok (.invokevirtual 71, 3) := by decide +kernel
theorem dX5_setPrices_33 : decode cX5_setPrices 33 = .ok (.ifCond .eq 27, 3) := by decide +kernel
theorem dX5_setPrices_36 : decode cX5_setPrices 36 = .ok (.aload_n 1, 1) := by decide +kernel
theorem dX5_setPrices_37 : decode cX5_setPrices 37 = .ok (.getfield 57, 3) := by decide +kernel
theorem dX5_setPrices_40 : decode cX5_setPrices 40 = .ok (.getfield 75, 3) := by decide +kernel
theorem dX5_setPrices_43 : decode cX5_setPrices 43 = .ok (.iload 5, 2) := by decide +kernel
theorem dX5_setPrices_45 : decode cX5_setPrices 45 = .ok (.iaload, 1) := by decide +kernel
theorem dX5_setPrices_46 : decode cX5_setPrices 46 = .ok (.i2l, 1) := by decide +kernel
theorem dX5_setPrices_47 : decode cX5_setPrices 47 = .ok (.ldc2_w 78, 3) := by decide +kernel
theorem dX5_setPrices_50 : decode cX5_setPrices 50 = .ok (.lmul, 1) := by decide +kernel
theorem dX5_setPrices_51 : decode cX5_setPrices 51 = .ok (.iload 5, 2) := by decide +kernel
theorem dX5_setPrices_53 : decode cX5_setPrices 53 = .ok (.i2l, 1) := by decide +kernel
theorem dX5_setPrices_54 : decode cX5_setPrices 54 = .ok (.lload_n 3, 1) := by decide +kernel
theorem dX5_setPrices_55 : decode cX5_setPrices 55 = .ok (.lmul, 1) := by decide +kernel
theorem dX5_setPrices_56 : decode cX5_setPrices 56 = .ok (.ladd, 1) := by decide +kernel
theorem dX5_setPrices_57 : decode cX5_setPrices 57 = .ok (.goto 6, 3) := by decide +kernel
theorem dX5_setPrices_60 : decode cX5_setPrices 60 = .ok (.ldc2_w 80, 3) := by decide +kernel
theorem dX5_setPrices_63 : decode cX5_setPrices 63 = .ok (.lastore, 1) := by decide +kernel
theorem dX5_setPrices_64 : decode cX5_setPrices 64 = .ok (.iinc 5 1, 3) := by decide +kernel
theorem dX5_setPrices_67 : decode cX5_setPrices 67 = .ok (.goto (-64), 3) := by decide +kernel
theorem dX5_setPrices_70 : decode cX5_setPrices 70 = .ok (.aload_n 0, 1) := by decide +kernel
theorem dX5_setPrices_71 : decode cX5_setPrices 71 = .ok (.getfield 15, 3) := by decide +kernel
theorem dX5_setPrices_74 : decode cX5_setPrices 74 = .ok (.iload_n 2, 1) := by decide +kernel
theorem dX5_setPrices_75 : decode cX5_setPrices 75 = .ok (.bipush 7, 2) := by decide +kernel
theorem dX5_setPrices_77 : decode cX5_setPrices 77 = .ok (.imul, 1) := by decide +kernel
theorem dX5_setPrices_78 : decode cX5_setPrices 78 = .ok (.bipush 6, 2) := by decide +kernel
theorem dX5_setPrices_80 : decode cX5_setPrices 80 = .ok (.iadd, 1) := by decide +kernel
theorem dX5_setPrices_81 : decode cX5_setPrices 81 = .ok (.ldc2_w 82, 3) := by decide +kernel
theorem dX5_setPrices_84 : decode cX5_setPrices 84 = .ok (.ldc2_w 84, 3) := by decide +kernel
theorem dX5_setPrices_87 : decode cX5_setPrices 87 = .ok (.lload_n 3, 1) := by decide +kernel
theorem dX5_setPrices_88 : decode cX5_setPrices 88 = .ok (.lmul, 1) := by decide +kernel
theorem dX5_setPrices_89 : decode cX5_setPrices 89 = .ok (.ladd, 1) := by decide +kernel
theorem dX5_setPrices_90 : decode cX5_setPrices 90 = .ok (.lastore, 1) := by decide +kernel
theorem dX5_setPrices_91 : decode cX5_setPrices 91 = .ok (.return_, 1) := by decide +kernel
theorem dX5_setUp_0 : decode cX5_setUp 0 = .ok (.aload_n 0, 1) := by decide +kernel
theorem dX5_setUp_1 : decode cX5_setUp 1 = .ok (.iconst 0, 1) := by decide +kernel
theorem dX5_setUp_2 : decode cX5_setUp 2 = .ok (.putfield 34, 3) := by decide +kernel
theorem dX5_setUp_5 : decode cX5_setUp 5 = .ok (.iconst 0, 1) := by decide +kernel
theorem dX5_setUp_6 : decode cX5_setUp 6 = .ok (.istore_n 2, 1) := by decide +kernel
theorem dX5_setUp_7 : decode cX5_setUp 7 = .ok (.iload_n 2, 1) := by decide +kernel
theorem dX5_setUp_8 : decode cX5_setUp 8 = .ok (.aload_n 1, 1) := by decide +kernel
theorem dX5_setUp_9 : decode cX5_setUp 9 = .ok (.getfield 38, 3) := by decide +kernel
theorem dX5_setUp_12 : decode cX5_setUp 12 = .ok (.getfield 43, 3) := by decide +kernel
theorem dX5_setUp_15 : decode cX5_setUp 15 = .ok (.if_icmp .ge 50, 3) := by decide +kernel
theorem dX5_setUp_18 : decode cX5_setUp 18 = .ok (.aload_n 1, 1) := by decide +kernel
theorem dX5_setUp_19 : decode cX5_setUp 19 = .ok (.getfield 38, 3) := by decide +kernel
theorem dX5_setUp_22 : decode cX5_setUp 22 = .ok (.getfield 48, 3) := by decide +kernel
theorem dX5_setUp_25 : decode cX5_setUp 25 = .ok (.iload_n 2, 1) := by decide +kernel
theorem dX5_setUp_26 : decode cX5_setUp 26 = .ok (.iaload, 1) := by decide +kernel
theorem dX5_setUp_27 : decode cX5_setUp 27 = .ok (.ifCond .ne 32, 3) := by decide +kernel
theorem dX5_setUp_30 : decode cX5_setUp 30 = .ok (.aload_n 0, 1) := by decide +kernel
theorem dX5_setUp_31 : decode cX5_setUp 31 = .ok (.getfield 34, 3) := by decide +kernel
theorem dX5_setUp_34 : decode cX5_setUp 34 = .ok (.bipush 8, 2) := by decide +kernel
theorem dX5_setUp_36 : decode cX5_setUp 36 = .ok (.if_icmp .ge 23, 3) := by decide +kernel
theorem dX5_setUp_39 : decode cX5_setUp 39 = .ok (.aload_n 0, 1) := by decide +kernel
theorem dX5_setUp_40 : decode cX5_setUp 40 = .ok (.getfield 11, 3) := by decide +kernel
theorem dX5_setUp_43 : decode cX5_setUp 43 = .ok (.aload_n 0, 1) := by decide +kernel
theorem dX5_setUp_44 : decode cX5_setUp 44 = .ok (.getfield 34, 3) := by decide +kernel
theorem dX5_setUp_47 : decode cX5_setUp 47 = .ok (.iload_n 2, 1) := by decide +kernel
theorem dX5_setUp_48 : decode cX5_setUp 48 = .ok (.iastore, 1) := by decide +kernel
theorem dX5_setUp_49 : decode cX5_setUp 49 = .ok (.aload_n 0, 1) := by decide +kernel
theorem dX5_setUp_50 : decode cX5_setUp 50 = .ok (.dup, 1) := by decide +kernel
theorem dX5_setUp_51 : decode cX5_setUp 51 = .ok (.getfield 34, 3) := by decide +kernel
theorem dX5_setUp_54 : decode cX5_setUp 54 = .ok (.iconst 1, 1) := by decide +kernel
theorem dX5_setUp_55 : decode cX5_setUp 55 = .ok (.iadd, 1) := by decide +kernel
theorem dX5_setUp_56 : decode cX5_setUp 56 = .ok (.putfield 34, 3) := by decide +kernel
theorem dX5_setUp_59 : decode cX5_setUp 59 = .ok (.iinc 2 1, 3) := by decide +kernel
theorem dX5_setUp_62 : decode cX5_setUp 62 = .ok (.goto (-55), 3) := by decide +kernel
theorem dX5_setUp_65 : decode cX5_setUp 65 = .ok (.lconst 1, 1) := by decide +kernel
theorem dX5_setUp_66 : decode cX5_setUp 66 = .ok (.lstore_n 2, 1) := by decide +kernel
theorem dX5_setUp_67 : decode cX5_setUp 67 = .ok (.aload_n 0, 1) := by decide +kernel
theorem dX5_setUp_68 : decode cX5_setUp 68 = .ok (.getfield 34, 3) := by decide +kernel
theorem dX5_setUp_71 : decode cX5_setUp 71 = .ok (.iconst 1, 1) := by decide +kernel
theorem dX5_setUp_72 : decode cX5_setUp 72 = .ok (.isub, 1) := by decide +kernel
theorem dX5_setUp_73 : decode cX5_setUp 73 = .ok (.istore 4, 2) := by decide +kernel
theorem dX5_setUp_75 : decode cX5_setUp 75 = .ok (.iload 4, 2) := by decide +kernel
theorem dX5_setUp_77 : decode cX5_setUp 77 = .ok (.ifCond .lt 23, 3) := by decide +kernel
theorem dX5_setUp_80 : decode cX5_setUp 80 = .ok (.aload_n 0, 1) := by decide +kernel
theorem dX5_setUp_81 : decode cX5_setUp 81 = .ok (.aload_n 1, 1) := by decide +kernel
theorem dX5_setUp_82 : decode cX5_setUp 82 = .ok (.iload 4, 2) := by decide +kernel
theorem dX5_setUp_84 : decode cX5_setUp 84 = .ok (.lload_n 2, 1) := by decide +kernel
theorem dX5_setUp_85 : decode cX5_setUp 85 = .ok (.invokevirtual 51, 3) := by decide +kernel
theorem dX5_setUp_88 : decode cX5_setUp 88 = .ok (.lload_n 2, 1) := by decide +kernel
theorem dX5_setUp_89 : decode cX5_setUp 89 = .ok (.ldc2_w 55, 3) := by decide +kernel
theorem dX5_setUp_92 : decode cX5_setUp 92 = .ok (.lmul, 1) := by decide +kernel
theorem dX5_setUp_93 : decode cX5_setUp 93 = .ok (.lstore_n 2, 1) := by decide +kernel
theorem dX5_setUp_94 : decode cX5_setUp 94 = .ok (.iinc 4 (-1), 3) := by decide +kernel
theorem dX5_setUp_97 : decode cX5_setUp 97 = .ok (.goto (-22), 3) := by decide +kernel
theorem dX5_setUp_100 : decode cX5_setUp 100 = .ok (.iconst 0, 1) := by decide +kernel
theorem dX5_setUp_101 : decode cX5_setUp 101 = .ok (.istore 4, 2) := by decide +kernel
theorem dX5_setUp_103 : decode cX5_setUp 103 = .ok (.iload 4, 2) := by decide +kernel
theorem dX5_setUp_105 : decode cX5_setUp 105 = .ok (.bipush 6, 2) := by decide +kernel
theorem dX5_setUp_107 : decode cX5_setUp 107 = .ok (.if_icmp .ge 41, 3) := by decide +kernel
theorem dX5_setUp_110 : decode cX5_setUp 110 = .ok (.aload_n 0, 1) := by decide +kernel
theorem dX5_setUp_111 : decode cX5_setUp 111 = .ok (.getfield 19, 3) := by decide +kernel
theorem dX5_setUp_114 : decode cX5_setUp 114 = .ok (.iload 4, 2) := by decide +kernel
theorem dX5_setUp_116 : decode cX5_setUp 116 = .ok (.aload_n 1, 1) := by decide +kernel
theorem dX5_setUp_117 : decode cX5_setUp 117 = .ok (.getfield 57, 3) := by decide +kernel
theorem dX5_setUp_120 : decode cX5_setUp 120 = .ok (.iload 4, 2) := by decide +kernel
theorem dX5_setUp_122 : decode cX5_setUp 122 = .ok (.invokevirtual 61, 3) := by decide +kernel
theorem dX5_setUp_125 : decode cX5_setUp 125 = .ok (.ifCond .eq 15, 3) := by decide +kernel
theorem dX5_setUp_128 : decode cX5_setUp 128 = .ok (.aload_n 1, 1) := by decide +kernel
theorem dX5_setUp_129 : decode cX5_setUp 129 = .ok (.getfield 57, 3) := by decide +kernel
theorem dX5_setUp_132 : decode cX5_setUp 132 = .ok (.iload 4, 2) := by decide +kernel
theorem dX5_setUp_134 : decode cX5_setUp 134 = .ok (.invokevirtual 67, 3) := by decide +kernel
theorem dX5_setUp_137 : decode cX5_setUp 137 = .ok (.goto 4, 3) := by decide +kernel
theorem dX5_setUp_140 : decode cX5_setUp 140 = .ok (.iconst 0, 1) := by decide +kernel
theorem dX5_setUp_141 : decode cX5_setUp 141 = .ok (.iastore, 1) := by decide +kernel
theorem dX5_setUp_142 : decode cX5_setUp 142 = .ok (.iinc 4 1, 3) := by decide +kernel
theorem dX5_setUp_145 : decode cX5_setUp 145 = .ok (.goto (-42), 3) := by decide +kernel
theorem dX5_setUp_148 : decode cX5_setUp 148 = .ok (.aload_n 0, 1) := by decide +kernel
theorem dX5_setUp_149 : decode cX5_setUp 149 = .ok (.getfield 19, 3) := by decide +kernel
theorem dX5_setUp_152 : decode cX5_setUp 152 = .ok (.bipush 6, 2) := by decide +kernel
theorem dX5_setUp_154 : decode cX5_setUp 154 = .ok (.bipush 8, 2) := by decide +kernel
theorem dX5_setUp_156 : decode cX5_setUp 156 = .ok (.iastore, 1) := by decide +kernel
theorem dX5_setUp_157 : decode cX5_setUp 157 = .ok (.return_, 1) := by decide +kernel
theorem dX5_solve_0 : decode cX5_solve 0 = .ok (.iconst 0, 1) := by decide +kernel
theorem dX5_solve_1 : decode cX5_solve 1 = .ok (.istore_n 1, 1) := by decide +kernel
theorem dX5_solve_2 : decode cX5_solve 2 = .ok (.iload_n 1, 1) := by decide +kernel
theorem dX5_solve_3 : decode cX5_solve 3 = .ok (.bipush 7, 2) := by decide +kernel
theorem dX5_solve_5 : decode cX5_solve 5 = .ok (.if_icmp .ge 21, 3) := by decide +kernel
theorem dX5_solve_8 : decode cX5_solve 8 = .ok (.aload_n 0, 1) := by decide +kernel
theorem dX5_solve_9 : decode cX5_solve 9 = .ok (.getfield 22, 3) := by decide +kernel
theorem dX5_solve_12 : decode cX5_solve 12 = .ok (.iload_n 1, 1) := by decide +kernel
theorem dX5_solve_13 : decode cX5_solve 13 = .ok (.aload_n 0, 1) := by decide +kernel
theorem dX5_solve_14 : decode cX5_solve 14 = .ok (.getfield 19, 3) := by decide +kernel
theorem dX5_solve_17 : decode cX5_solve 17 = .ok (.iload_n 1, 1) := by decide +kernel
theorem dX5_solve_18 : decode cX5_solve 18 = .ok (.iaload, 1) := by decide +kernel
theorem dX5_solve_19 : decode cX5_solve 19 = .ok (.iastore, 1) := by decide +kernel
theorem dX5_solve_20 : decode cX5_solve 20 = .ok (.iinc 1 1, 3) := by decide +kernel
theorem dX5_solve_23 : decode cX5_solve 23 = .ok (.goto (-21), 3) := by decide +kernel
theorem dX5_solve_26 : decode cX5_solve 26 = .ok (.iconst 0, 1) := by decide +kernel
theorem dX5_solve_27 : decode cX5_solve 27 = .ok (.istore_n 1, 1) := by decide +kernel
theorem dX5_solve_28 : decode cX5_solve 28 = .ok (.iload_n 1, 1) := by decide +kernel
theorem dX5_solve_29 : decode cX5_solve 29 = .ok (.aload_n 0, 1) := by decide +kernel
theorem dX5_solve_30 : decode cX5_solve 30 = .ok (.getfield 34, 3) := by decide +kernel
theorem dX5_solve_33 : decode cX5_solve 33 = .ok (.if_icmp .ge 16, 3) := by decide +kernel
theorem dX5_solve_36 : decode cX5_solve 36 = .ok (.aload_n 0, 1) := by decide +kernel
theorem dX5_solve_37 : decode cX5_solve 37 = .ok (.getfield 25, 3) := by decide +kernel
theorem dX5_solve_40 : decode cX5_solve 40 = .ok (.iload_n 1, 1) := by decide +kernel
theorem dX5_solve_41 : decode cX5_solve 41 = .ok (.iconst (-1), 1) := by decide +kernel
theorem dX5_solve_42 : decode cX5_solve 42 = .ok (.iastore, 1) := by decide +kernel
theorem dX5_solve_43 : decode cX5_solve 43 = .ok (.iinc 1 1, 3) := by decide +kernel
theorem dX5_solve_46 : decode cX5_solve 46 = .ok (.goto (-18), 3) := by decide +kernel
theorem dX5_solve_49 : decode cX5_solve 49 = .ok (.iconst 0, 1) := by decide +kernel
theorem dX5_solve_50 : decode cX5_solve 50 = .ok (.istore_n 1, 1) := by decide +kernel
theorem dX5_solve_51 : decode cX5_solve 51 = .ok (.iload_n 1, 1) := by decide +kernel
theorem dX5_solve_52 : decode cX5_solve 52 = .ok (.aload_n 0, 1) := by decide +kernel
theorem dX5_solve_53 : decode cX5_solve 53 = .ok (.getfield 34, 3) := by decide +kernel
theorem dX5_solve_56 : decode cX5_solve 56 = .ok (.if_icmp .ge 23, 3) := by decide +kernel
theorem dX5_solve_59 : decode cX5_solve 59 = .ok (.aload_n 0, 1) := by decide +kernel
theorem dX5_solve_60 : decode cX5_solve 60 = .ok (.iload_n 1, 1) := by decide +kernel
theorem dX5_solve_61 : decode cX5_solve 61 = .ok (.invokevirtual 92, 3) := by decide +kernel
theorem dX5_solve_64 : decode cX5_solve 64 = .ok (.aload_n 0, 1) := by decide +kernel
theorem dX5_solve_65 : decode cX5_solve 65 = .ok (.iload_n 1, 1) := by decide +kernel
theorem dX5_solve_66 : decode cX5_solve 66 = .ok (.aload_n 0, 1) := by decide +kernel
theorem dX5_solve_67 : decode cX5_solve 67 = .ok (.invokevirtual 96, 3) := by decide +kernel
theorem dX5_solve_70 : decode cX5_solve 70 = .ok (.invokevirtual 100, 3) := by decide +kernel
theorem dX5_solve_73 : decode cX5_solve 73 = .ok (.iinc 1 1, 3) := by decide +kernel
theorem dX5_solve_76 : decode cX5_solve 76 = .ok (.goto (-25), 3) := by decide +kernel
theorem dX5_solve_79 : decode cX5_solve 79 = .ok (.aload_n 0, 1) := by decide +kernel
theorem dX5_solve_80 : decode cX5_solve 80 = .ok (.iconst 0, 1) := by decide +kernel
theorem dX5_solve_81 : decode cX5_solve 81 = .ok (.putfield 104, 3) := by decide +kernel
theorem dX5_solve_84 : decode cX5_solve 84 = .ok (.iconst 0, 1) := by decide +kernel
theorem dX5_solve_85 : decode cX5_solve 85 = .ok (.istore_n 1, 1) := by decide +kernel
theorem dX5_solve_86 : decode cX5_solve 86 = .ok (.iload_n 1, 1) := by decide +kernel
theorem dX5_solve_87 : decode cX5_solve 87 = .ok (.aload_n 0, 1) := by decide +kernel
theorem dX5_solve_88 : decode cX5_solve 88 = .ok (.getfield 34, 3) := by decide +kernel
theorem dX5_solve_91 : decode cX5_solve 91 = .ok (.if_icmp .ge 30, 3) := by decide +kernel
theorem dX5_solve_94 : decode cX5_solve 94 = .ok (.aload_n 0, 1) := by decide +kernel
theorem dX5_solve_95 : decode cX5_solve 95 = .ok (.getfield 25, 3) := by decide +kernel
theorem dX5_solve_98 : decode cX5_solve 98 = .ok (.iload_n 1, 1) := by decide +kernel
theorem dX5_solve_99 : decode cX5_solve 99 = .ok (.iaload, 1) := by decide +kernel
theorem dX5_solve_100 : decode cX5_solve 100 = .ok (.bipush 6, 2) := by decide +kernel
theorem dX5_solve_102 : decode cX5_solve 102 = .ok (.if_icmp .eq 13, 3) := by decide +kernel
theorem dX5_solve_105 : decode cX5_solve 105 = .ok (.aload_n 0, 1) := by decide +kernel
theorem dX5_solve_106 : decode cX5_solve 106 = .ok (.dup, 1) := by decide +kernel
theorem dX5_solve_107 : decode cX5_solve 107 = .ok (.getfield 104, 3) := by decide +kernel
theorem dX5_solve_110 : decode cX5_solve 110 = .ok (.iconst 1, 1) := by decide +kernel
theorem dX5_solve_111 : decode cX5_solve 111 = .ok (.iadd, 1) := by decide +kernel
theorem dX5_solve_112 : decode cX5_solve 112 = .ok (.putfield 104, 3) := by decide +kernel
theorem dX5_solve_115 : decode cX5_solve 115 = .ok (.iinc 1 1, 3) := by decide +kernel
theorem dX5_solve_118 : decode cX5_solve 118 = .ok (.goto (-32), 3) := by decide +kernel
theorem dX5_solve_121 : decode cX5_solve 121 = .ok (.return_, 1) := by decide +kernel
theorem dX5_typeFor_0 : decode cX5_typeFor 0 = .ok (.iconst 0, 1) := by decide +kernel
theorem dX5_typeFor_1 : decode cX5_typeFor 1 = .ok (.istore_n 2, 1) := by decide +kernel
theorem dX5_typeFor_2 : decode cX5_typeFor 2 = .ok (.iload_n 2, 1) := by decide +kernel
theorem dX5_typeFor_3 : decode cX5_typeFor 3 = .ok (.aload_n 0, 1) := by decide +kernel
theorem dX5_typeFor_4 : decode cX5_typeFor 4 = .ok (.getfield 34, 3) := by decide +kernel
theorem dX5_typeFor_7 : decode cX5_typeFor 7 = .ok (.if_icmp .ge 37, 3) := by decide +kernel
theorem dX5_typeFor_10 : decode cX5_typeFor 10 = .ok (.aload_n 0, 1) := by decide +kernel
theorem dX5_typeFor_11 : decode cX5_typeFor 11 = .ok (.getfield 11, 3) := by decide +kernel
theorem dX5_typeFor_14 : decode cX5_typeFor 14 = .ok (.iload_n 2, 1) := by decide +kernel
theorem dX5_typeFor_15 : decode cX5_typeFor 15 = .ok (.iaload, 1) := by decide +kernel
theorem dX5_typeFor_16 : decode cX5_typeFor 16 = .ok (.iload_n 1, 1) := by decide +kernel
theorem dX5_typeFor_17 : decode cX5_typeFor 17 = .ok (.if_icmp .ne 21, 3) := by decide +kernel
theorem dX5_typeFor_20 : decode cX5_typeFor 20 = .ok (.aload_n 0, 1) := by decide +kernel
theorem dX5_typeFor_21 : decode cX5_typeFor 21 = .ok (.getfield 25, 3) := by decide +kernel
theorem dX5_typeFor_24 : decode cX5_typeFor 24 = .ok (.iload_n 2, 1) := by decide +kernel
theorem dX5_typeFor_25 : decode cX5_typeFor 25 = .ok (.iaload, 1) := by decide +kernel
theorem dX5_typeFor_26 : decode cX5_typeFor 26 = .ok (.bipush 6, 2) := by decide +kernel
theorem dX5_typeFor_28 : decode cX5_typeFor 28 = .ok (.if_icmp .eq 10, 3) := by decide +kernel
theorem dX5_typeFor_31 : decode cX5_typeFor 31 = .ok (.aload_n 0, 1) := by decide +kernel
theorem dX5_typeFor_32 : decode cX5_typeFor 32 = .ok (.getfield 25, 3) := by decide +kernel
theorem dX5_typeFor_35 : decode cX5_typeFor 35 = .ok (.iload_n 2, 1) := by decide +kernel
theorem dX5_typeFor_36 : decode cX5_typeFor 36 = .ok (.iaload, 1) := by decide +kernel
theorem dX5_typeFor_37 : decode cX5_typeFor 37 = .ok (.ireturn, 1) := by decide +kernel
theorem dX5_typeFor_38 : decode cX5_typeFor 38 = .ok (.iinc 2 1, 3) := by decide +kernel
theorem dX5_typeFor_41 : decode cX5_typeFor 41 = .ok (.goto (-39), 3) := by decide +kernel
theorem dX5_typeFor_44 : decode cX5_typeFor 44 = .ok (.iconst (-1), 1) := by decide +kernel
theorem dX5_typeFor_45 : decode cX5_typeFor 45 = .ok (.ireturn, 1) := by decide +kernel
end
section
theorem dX6_beginLine_0 : decode cX6_beginLine 0 = .ok (.aload_n 0, 1) := by decide +kernel
theorem dX6_beginLine_1 : decode cX6_beginLine 1 = .ok (.invokevirtual 80, 3) := by decide +kernel
theorem dX6_beginLine_4 : decode cX6_beginLine 4 = .ok (.istore_n 2, 1) := by decide +kernel
theorem dX6_beginLine_5 : decode cX6_beginLine 5 = .ok (.iload_n 2, 1) := by decide +kernel
theorem dX6_beginLine_6 : decode cX6_beginLine 6 = .ok (.ifCond .eq 28, 3) := by decide +kernel
theorem dX6_beginLine_9 : decode cX6_beginLine 9 = .ok (.iload_n 2, 1) := by decide +kernel
theorem dX6_beginLine_10 : decode cX6_beginLine 10 = .ok (.iconst 1, 1) := by decide +kernel
theorem dX6_beginLine_11 : decode cX6_beginLine 11 = .ok (.if_icmp .ne 7, 3) := by decide +kernel
theorem dX6_beginLine_14 : decode cX6_beginLine 14 = .ok (.iconst 1, 1) := by decide +kernel
theorem dX6_beginLine_15 : decode cX6_beginLine 15 = .ok (.goto 4, 3) := by decide +kernel
theorem dX6_beginLine_18 : decode cX6_beginLine 18 = .ok (.iconst 0, 1) := by decide +kernel
theorem dX6_beginLine_19 : decode cX6_beginLine 19 = .ok (.aload_n 0, 1) := by decide +kernel
theorem dX6_beginLine_20 : decode cX6_beginLine 20 = .ok (.getfield 23, 3) := by decide +kernel
theorem dX6_beginLine_23 : decode cX6_beginLine 23 = .ok (.ifCond .ne 7, 3) := by decide +kernel
theorem dX6_beginLine_26 : decode cX6_beginLine 26 = .ok (.iconst 1, 1) := by decide +kernel
theorem dX6_beginLine_27 : decode cX6_beginLine 27 = .ok (.goto 4, 3) := by decide +kernel
theorem dX6_beginLine_30 : decode cX6_beginLine 30 = .ok (.iconst 0, 1) := by decide +kernel
theorem dX6_beginLine_31 : decode cX6_beginLine 31 = .ok (.if_icmp .eq 9, 3) := by decide +kernel
theorem dX6_beginLine_34 : decode cX6_beginLine 34 = .ok (.aload_n 0, 1) := by decide +kernel
theorem dX6_beginLine_35 : decode cX6_beginLine 35 = .ok (.iconst 1, 1) := by decide +kernel
theorem dX6_beginLine_36 : decode cX6_beginLine 36 = .ok (.invokevirtual 51, 3) := by decide +kernel
theorem dX6_beginLine_39 : decode cX6_beginLine 39 = .ok (.ireturn, 1) := by decide +kernel
theorem dX6_beginLine_40 : decode cX6_beginLine 40 = .ok (.iload_n 2, 1) := by decide +kernel
theorem dX6_beginLine_41 : decode cX6_beginLine 41 = .ok (.iconst 2, 1) := by decide +kernel
theorem dX6_beginLine_42 : decode cX6_beginLine 42 = .ok (.if_icmp .ne 12, 3) := by decide +kernel
theorem dX6_beginLine_45 : decode cX6_beginLine 45 = .ok (.aload_n 0, 1) := by decide +kernel
theorem dX6_beginLine_46 : decode cX6_beginLine 46 = .ok (.getfield 26, 3) := by decide +kernel
theorem dX6_beginLine_49 : decode cX6_beginLine 49 = .ok (.bipush 28, 2) := by decide +kernel
theorem dX6_beginLine_51 : decode cX6_beginLine 51 = .ok (.if_icmp .ge 37, 3) := by decide +kernel
theorem dX6_beginLine_54 : decode cX6_beginLine 54 = .ok (.iload_n 2, 1) := by decide +kernel
theorem dX6_beginLine_55 : decode cX6_beginLine 55 = .ok (.iconst 3, 1) := by decide +kernel
theorem dX6_beginLine_56 : decode cX6_beginLine 56 = .ok (.if_icmp .ne 15, 3) := by decide +kernel
theorem dX6_beginLine_59 : decode cX6_beginLine 59 = .ok (.aload_n 1, 1) := by decide +kernel
theorem dX6_beginLine_60 : decode cX6_beginLine 60 = .ok (.getfield 84, 3) := by decide +kernel
theorem dX6_beginLine_63 : decode cX6_beginLine 63 = .ok (.getfield 88, 3) := by decide +kernel
theorem dX6_beginLine_66 : decode cX6_beginLine 66 = .ok (.bipush 6, 2) := by decide +kernel
theorem dX6_beginLine_68 : decode cX6_beginLine 68 = .ok (.if_icmp .ge 20, 3) := by decide +kernel
theorem dX6_beginLine_71 : decode cX6_beginLine 71 = .ok (.iload_n 2, 1) := by decide +kernel
theorem dX6_beginLine_72 : decode cX6_beginLine 72 = .ok (.iconst 4, 1) := by decide +kernel
theorem dX6_beginLine_73 : decode cX6_beginLine 73 = .ok (.if_icmp .ne 21, 3) := by decide +kernel
theorem dX6_beginLine_76 : decode cX6_beginLine 76 = .ok (.aload_n 1, 1) := by decide +kernel
theorem dX6_beginLine_77 : decode cX6_beginLine 77 = .ok (.getfield 93, 3) := by decide +kernel
theorem dX6_beginLine_80 : decode cX6_beginLine 80 = .ok (.getfield 97, 3) := by decide +kernel
theorem dX6_beginLine_83 : decode cX6_beginLine 83 = .ok (.bipush 8, 2) := by decide +kernel
theorem dX6_beginLine_85 : decode cX6_beginLine 85 = .ok (.if_icmp .lt 9, 3) := by decide +kernel
theorem dX6_beginLine_88 : decode cX6_beginLine 88 = .ok (.aload_n 0, 1) := by decide +kernel
theorem dX6_beginLine_89 : decode cX6_beginLine 89 = .ok (.iconst 3, 1) := by decide +kernel
theorem dX6_beginLine_90 : decode cX6_beginLine 90 = .ok (.invokevirtual 51, 3) := by decide +kernel
theorem dX6_beginLine_93 : decode cX6_beginLine 93 = .ok (.ireturn, 1) := by decide +kernel
theorem dX6_beginLine_94 : decode cX6_beginLine 94 = .ok (.aload_n 0, 1) := by decide +kernel
theorem dX6_beginLine_95 : decode cX6_beginLine 95 = .ok (.iload_n 2, 1) := by decide +kernel
theorem dX6_beginLine_96 : decode cX6_beginLine 96 = .ok (.putfield 19, 3) := by decide +kernel
theorem dX6_beginLine_99 : decode cX6_beginLine 99 = .ok (.aload_n 0, 1) := by decide +kernel
theorem dX6_beginLine_100 : decode cX6_beginLine 100 = .ok (.iconst 0, 1) := by decide +kernel
theorem dX6_beginLine_101 : decode cX6_beginLine 101 = .ok (.putfield 100, 3) := by decide +kernel
theorem dX6_beginLine_104 : decode cX6_beginLine 104 = .ok (.aload_n 0, 1) := by decide +kernel
theorem dX6_beginLine_105 : decode cX6_beginLine 105 = .ok (.iconst (-1), 1) := by decide +kernel
theorem dX6_beginLine_106 : decode cX6_beginLine 106 = .ok (.putfield 58, 3) := by decide +kernel
theorem dX6_beginLine_109 : decode cX6_beginLine 109 = .ok (.aload_n 0, 1) := by decide +kernel
theorem dX6_beginLine_110 : decode cX6_beginLine 110 = .ok (.iconst 0, 1) := by decide +kernel
theorem dX6_beginLine_111 : decode cX6_beginLine 111 = .ok (.putfield 103, 3) := by decide +kernel
theorem dX6_beginLine_114 : decode cX6_beginLine 114 = .ok (.iconst 1, 1) := by decide +kernel
theorem dX6_beginLine_115 : decode cX6_beginLine 115 = .ok (.ireturn, 1) := by decide +kernel
theorem dX6_endLine_0 : decode cX6_endLine 0 = .ok (.aload_n 0, 1) := by decide +kernel
theorem dX6_endLine_1 : decode cX6_endLine 1 = .ok (.getfield 19, 3) := by decide +kernel
theorem dX6_endLine_4 : decode cX6_endLine 4 = .ok (.tableswitch 115 1 4 #[32, 61, 115, 93], 32) := by decide +kernel
theorem dX6_endLine_36 : decode cX6_endLine 36 = .ok (.aload_n 1, 1) := by decide +kernel
theorem dX6_endLine_37 : decode cX6_endLine 37 = .ok (.getfield 70, 3) := by decide +kernel
theorem dX6_endLine_40 : decode cX6_endLine 40 = .ok (.aload_n 0, 1) := by decide +kernel
theorem dX6_endLine_41 : decode cX6_endLine 41 = .ok (.getfield 9, 3) := by decide +kernel
theorem dX6_endLine_44 : decode cX6_endLine 44 = .ok (.iconst 0, 1) := by decide +kernel
theorem dX6_endLine_45 : decode cX6_endLine 45 = .ok (.iaload, 1) := by decide +kernel
theorem dX6_endLine_46 : decode cX6_endLine 46 = .ok (.putfield 154, 3) := by decide +kernel
theorem dX6_endLine_49 : decode cX6_endLine 49 = .ok (.aload_n 1, 1) := by decide +kernel
theorem dX6_endLine_50 : decode cX6_endLine 50 = .ok (.getfield 84, 3) := by decide +kernel
theorem dX6_endLine_53 : decode cX6_endLine 53 = .ok (.aload_n 0, 1) := by decide +kernel
theorem dX6_endLine_54 : decode cX6_endLine 54 = .ok (.getfield 9, 3) := by decide +kernel
theorem dX6_endLine_57 : decode cX6_endLine 57 = .ok (.iconst 1, 1) := by decide +kernel
theorem dX6_endLine_58 : decode cX6_endLine 58 = .ok (.iaload, 1) := by decide +kernel
theorem dX6_endLine_59 : decode cX6_endLine 59 = .ok (.putfield 155, 3) := by decide +kernel
theorem dX6_endLine_62 : decode cX6_endLine 62 = .ok (.goto 76, 3) := by decide +kernel
theorem dX6_endLine_65 : decode cX6_endLine 65 = .ok (.aload_n 1, 1) := by decide +kernel
theorem dX6_endLine_66 : decode cX6_endLine 66 = .ok (.getfield 70, 3) := by decide +kernel
theorem dX6_endLine_69 : decode cX6_endLine 69 = .ok (.aload_n 0, 1) := by decide +kernel
theorem dX6_endLine_70 : decode cX6_endLine 70 = .ok (.getfield 9, 3) := by decide +kernel
theorem dX6_endLine_73 : decode cX6_endLine 73 = .ok (.iconst 0, 1) := by decide +kernel
theorem dX6_endLine_74 : decode cX6_endLine 74 = .ok (.iaload, 1) := by decide +kernel
theorem dX6_endLine_75 : decode cX6_endLine 75 = .ok (.aload_n 0, 1) := by decide +kernel
theorem dX6_endLine_76 : decode cX6_endLine 76 = .ok (.getfield 9, 3) := by decide +kernel
theorem dX6_endLine_79 : decode cX6_endLine 79 = .ok (.iconst 1, 1) := by decide +kernel
theorem dX6_endLine_80 : decode cX6_endLine 80 = .ok (.iaload, 1) := by decide +kernel
theorem dX6_endLine_81 : decode cX6_endLine 81 = .ok (.invokevirtual 158, 3) := by decide +kernel
theorem dX6_endLine_84 : decode cX6_endLine 84 = .ok (.aload_n 0, 1) := by decide +kernel
theorem dX6_endLine_85 : decode cX6_endLine 85 = .ok (.dup, 1) := by decide +kernel
theorem dX6_endLine_86 : decode cX6_endLine 86 = .ok (.getfield 26, 3) := by decide +kernel
theorem dX6_endLine_89 : decode cX6_endLine 89 = .ok (.iconst 1, 1) := by decide +kernel
theorem dX6_endLine_90 : decode cX6_endLine 90 = .ok (.iadd, 1) := by decide +kernel
theorem dX6_endLine_91 : decode cX6_endLine 91 = .ok (.putfield 26, 3) := by decide +kernel
theorem dX6_endLine_94 : decode cX6_endLine 94 = .ok (.goto 44, 3) := by decide +kernel
theorem dX6_endLine_97 : decode cX6_endLine 97 = .ok (.aload_n 1, 1) := by decide +kernel
theorem dX6_endLine_98 : decode cX6_endLine 98 = .ok (.getfield 93, 3) := by decide +kernel
theorem dX6_endLine_101 : decode cX6_endLine 101 = .ok (.aload_n 0, 1) := by decide +kernel
theorem dX6_endLine_102 : decode cX6_endLine 102 = .ok (.getfield 9, 3) := by decide +kernel
theorem dX6_endLine_105 : decode cX6_endLine 105 = .ok (.iconst 0, 1) := by decide +kernel
theorem dX6_endLine_106 : decode cX6_endLine 106 = .ok (.iaload, 1) := by decide +kernel
theorem dX6_endLine_107 : decode cX6_endLine 107 = .ok (.aload_n 0, 1) := by decide +kernel
theorem dX6_endLine_108 : decode cX6_endLine 108 = .ok (.getfield 9, 3) := by decide +kernel
theorem dX6_endLine_111 : decode cX6_endLine 111 = .ok (.iconst 1, 1) := by decide +kernel
theorem dX6_endLine_112 : decode cX6_endLine 112 = .ok (.iaload, 1) := by decide +kernel
theorem dX6_endLine_113 : decode cX6_endLine 113 = .ok (.invokevirtual 162, 3) := by decide +kernel
theorem dX6_endLine_116 : decode cX6_endLine 116 = .ok (.goto 22, 3) := by decide +kernel
theorem dX6_endLine_119 : decode cX6_endLine 119 = .ok (.aload_n 1, 1) := by decide +kernel
theorem dX6_endLine_120 : decode cX6_endLine 120 = .ok (.getfield 84, 3) := by decide +kernel
theorem dX6_endLine_123 : decode cX6_endLine 123 = .ok (.aload_n 0, 1) := by decide +kernel
theorem dX6_endLine_124 : decode cX6_endLine 124 = .ok (.getfield 58, 3) := by decide +kernel
theorem dX6_endLine_127 : decode cX6_endLine 127 = .ok (.aload_n 0, 1) := by decide +kernel
theorem dX6_endLine_128 : decode cX6_endLine 128 = .ok (.getfield 9, 3) := by decide +kernel
theorem dX6_endLine_131 : decode cX6_endLine 131 = .ok (.aload_n 0, 1) := by decide +kernel
theorem dX6_endLine_132 : decode cX6_endLine 132 = .ok (.getfield 103, 3) := by decide +kernel
theorem dX6_endLine_135 : decode cX6_endLine 135 = .ok (.invokevirtual 165, 3) := by decide +kernel
theorem dX6_endLine_138 : decode cX6_endLine 138 = .ok (.aload_n 0, 1) := by decide +kernel
theorem dX6_endLine_139 : decode cX6_endLine 139 = .ok (.dup, 1) := by decide +kernel
theorem dX6_endLine_140 : decode cX6_endLine 140 = .ok (.getfield 23, 3) := by decide +kernel
theorem dX6_endLine_143 : decode cX6_endLine 143 = .ok (.iconst 1, 1) := by decide +kernel
theorem dX6_endLine_144 : decode cX6_endLine 144 = .ok (.iadd, 1) := by decide +kernel
theorem dX6_endLine_145 : decode cX6_endLine 145 = .ok (.putfield 23, 3) := by decide +kernel
theorem dX6_endLine_148 : decode cX6_endLine 148 = .ok (.aload_n 0, 1) := by decide +kernel
theorem dX6_endLine_149 : decode cX6_endLine 149 = .ok (.iconst 0, 1) := by decide +kernel
theorem dX6_endLine_150 : decode cX6_endLine 150 = .ok (.putfield 19, 3) := by decide +kernel
theorem dX6_endLine_153 : decode cX6_endLine 153 = .ok (.iconst 1, 1) := by decide +kernel
theorem dX6_endLine_154 : decode cX6_endLine 154 = .ok (.ireturn, 1) := by decide +kernel
theorem dX6_isInRange_0 : decode cX6_isInRange 0 = .ok (.iload_n 0, 1) := by decide +kernel
theorem dX6_isInRange_1 : decode cX6_isInRange 1 = .ok (.ifCond .lt 41, 3) := by decide +kernel
theorem dX6_isInRange_4 : decode cX6_isInRange 4 = .ok (.iload_n 0, 1) := by decide +kernel
theorem dX6_isInRange_5 : decode cX6_isInRange 5 = .ok (.getstatic 148, 3) := by decide +kernel
theorem dX6_isInRange_8 : decode cX6_isInRange 8 = .ok (.arraylength, 1) := by decide +kernel
theorem dX6_isInRange_9 : decode cX6_isInRange 9 = .ok (.if_icmp .ge 33, 3) := by decide +kernel
theorem dX6_isInRange_12 : decode cX6_isInRange 12 = .ok (.iload_n 0, 1) := by decide +kernel
theorem dX6_isInRange_13 : decode cX6_isInRange 13 = .ok (.getstatic 151, 3) := by decide +kernel
theorem dX6_isInRange_16 : decode cX6_isInRange 16 = .ok (.arraylength, 1) := by decide +kernel
theorem dX6_isInRange_17 : decode cX6_isInRange 17 = .ok (.if_icmp .ge 25, 3) := by decide +kernel
theorem dX6_isInRange_20 : decode cX6_isInRange 20 = .ok (.iload_n 1, 1) := by decide +kernel
theorem dX6_isInRange_21 : decode cX6_isInRange 21 = .ok (.getstatic 148, 3) := by decide +kernel
theorem dX6_isInRange_24 : decode cX6_isInRange 24 = .ok (.iload_n 0, 1) := by decide +kernel
theorem dX6_isInRange_25 : decode cX6_isInRange 25 = .ok (.iaload, 1) := by decide +kernel
theorem dX6_isInRange_26 : decode cX6_isInRange 26 = .ok (.if_icmp .lt 16, 3) := by decide +kernel
theorem dX6_isInRange_29 : decode cX6_isInRange 29 = .ok (.iload_n 1, 1) := by decide +kernel
theorem dX6_isInRange_30 : decode cX6_isInRange 30 = .ok (.getstatic 151, 3) := by decide +kernel
theorem dX6_isInRange_33 : decode cX6_isInRange 33 = .ok (.iload_n 0, 1) := by decide +kernel
theorem dX6_isInRange_34 : decode cX6_isInRange 34 = .ok (.iaload, 1) := by decide +kernel
theorem dX6_isInRange_35 : decode cX6_isInRange 35 = .ok (.if_icmp .gt 7, 3) := by decide +kernel
theorem dX6_isInRange_38 : decode cX6_isInRange 38 = .ok (.iconst 1, 1) := by decide +kernel
theorem dX6_isInRange_39 : decode cX6_isInRange 39 = .ok (.goto 4, 3) := by decide +kernel
theorem dX6_isInRange_42 : decode cX6_isInRange 42 = .ok (.iconst 0, 1) := by decide +kernel
theorem dX6_isInRange_43 : decode cX6_isInRange 43 = .ok (.ireturn, 1) := by decide +kernel
theorem dX6_isWhole_0 : decode cX6_isWhole 0 = .ok (.aload_n 0, 1) := by decide +kernel
theorem dX6_isWhole_1 : decode cX6_isWhole 1 = .ok (.getfield 19, 3) := by decide +kernel
theorem dX6_isWhole_4 : decode cX6_isWhole 4 = .ok (.iconst 3, 1) := by decide +kernel
theorem dX6_isWhole_5 : decode cX6_isWhole 5 = .ok (.if_icmp .ne 18, 3) := by decide +kernel
theorem dX6_isWhole_8 : decode cX6_isWhole 8 = .ok (.aload_n 0, 1) := by decide +kernel
theorem dX6_isWhole_9 : decode cX6_isWhole 9 = .ok (.getfield 103, 3) := by decide +kernel
theorem dX6_isWhole_12 : decode cX6_isWhole 12 = .ok (.ifCond .eq 7, 3) := by decide +kernel
theorem dX6_isWhole_15 : decode cX6_isWhole 15 = .ok (.iconst 1, 1) := by decide +kernel
theorem dX6_isWhole_16 : decode cX6_isWhole 16 = .ok (.goto 20, 3) := by decide +kernel
theorem dX6_isWhole_19 : decode cX6_isWhole 19 = .ok (.iconst 0, 1) := by decide +kernel
theorem dX6_isWhole_20 : decode cX6_isWhole 20 = .ok (.goto 16, 3) := by decide +kernel
theorem dX6_isWhole_23 : decode cX6_isWhole 23 = .ok (.aload_n 0, 1) := by decide +kernel
theorem dX6_isWhole_24 : decode cX6_isWhole 24 = .ok (.invokevirtual 127, 3) := by decide +kernel
theorem dX6_isWhole_27 : decode cX6_isWhole 27 = .ok (.iconst (-1), 1) := by decide +kernel
theorem dX6_isWhole_28 : decode cX6_isWhole 28 = .ok (.if_icmp .ne 7, 3) := by decide +kernel
theorem dX6_isWhole_31 : decode cX6_isWhole 31 = .ok (.iconst 1, 1) := by decide +kernel
theorem dX6_isWhole_32 : decode cX6_isWhole 32 = .ok (.goto 4, 3) := by decide +kernel
theorem dX6_isWhole_35 : decode cX6_isWhole 35 = .ok (.iconst 0, 1) := by decide +kernel
theorem dX6_isWhole_36 : decode cX6_isWhole 36 = .ok (.ireturn, 1) := by decide +kernel
theorem dX6_meaningNow_0 : decode cX6_meaningNow 0 = .ok (.aload_n 0, 1) := by decide +kernel
theorem dX6_meaningNow_1 : decode cX6_meaningNow 1 = .ok (.getfield 19, 3) := by decide +kernel
theorem dX6_meaningNow_4 : decode cX6_meaningNow 4 = .ok (.tableswitch 98 1 4 #[32, 57, 98, 72], 32) := by decide +kernel
theorem dX6_meaningNow_36 : decode cX6_meaningNow 36 = .ok (.aload_n 0, 1) := by decide +kernel
theorem dX6_meaningNow_37 : decode cX6_meaningNow 37 = .ok (.getfield 100, 3) := by decide +kernel
theorem dX6_meaningNow_40 : decode cX6_meaningNow 40 = .ok (.ifCond .ne 7, 3) := by decide +kernel
theorem dX6_meaningNow_43 : decode cX6_meaningNow 43 = .ok (.iconst 0, 1) := by decide +kernel
theorem dX6_meaningNow_44 : decode cX6_meaningNow 44 = .ok (.goto 16, 3) := by decide +kernel
theorem dX6_meaningNow_47 : decode cX6_meaningNow 47 = .ok (.aload_n 0, 1) := by decide +kernel
theorem dX6_meaningNow_48 : decode cX6_meaningNow 48 = .ok (.getfield 100, 3) := by decide +kernel
theorem dX6_meaningNow_51 : decode cX6_meaningNow 51 = .ok (.iconst 1, 1) := by decide +kernel
theorem dX6_meaningNow_52 : decode cX6_meaningNow 52 = .ok (.if_icmp .ne 7, 3) := by decide +kernel
theorem dX6_meaningNow_55 : decode cX6_meaningNow 55 = .ok (.iconst 1, 1) := by decide +kernel
theorem dX6_meaningNow_56 : decode cX6_meaningNow 56 = .ok (.goto 4, 3) := by decide +kernel
theorem dX6_meaningNow_59 : decode cX6_meaningNow 59 = .ok (.iconst (-1), 1) := by decide +kernel
theorem dX6_meaningNow_60 : decode cX6_meaningNow 60 = .ok (.ireturn, 1) := by decide +kernel
theorem dX6_meaningNow_61 : decode cX6_meaningNow 61 = .ok (.aload_n 0, 1) := by decide +kernel
theorem dX6_meaningNow_62 : decode cX6_meaningNow 62 = .ok (.getfield 100, 3) := by decide +kernel
theorem dX6_meaningNow_65 : decode cX6_meaningNow 65 = .ok (.iconst 2, 1) := by decide +kernel
theorem dX6_meaningNow_66 : decode cX6_meaningNow 66 = .ok (.if_icmp .ge 8, 3) := by decide +kernel
theorem dX6_meaningNow_69 : decode cX6_meaningNow 69 = .ok (.bipush 7, 2) := by decide +kernel
theorem dX6_meaningNow_71 : decode cX6_meaningNow 71 = .ok (.goto 4, 3) := by decide +kernel
theorem dX6_meaningNow_74 : decode cX6_meaningNow 74 = .ok (.iconst (-1), 1) := by decide +kernel
theorem dX6_meaningNow_75 : decode cX6_meaningNow 75 = .ok (.ireturn, 1) := by decide +kernel
theorem dX6_meaningNow_76 : decode cX6_meaningNow 76 = .ok (.aload_n 0, 1) := by decide +kernel
theorem dX6_meaningNow_77 : decode cX6_meaningNow 77 = .ok (.getfield 100, 3) := by decide +kernel
theorem dX6_meaningNow_80 : decode cX6_meaningNow 80 = .ok (.ifCond .ne 8, 3) := by decide +kernel
theorem dX6_meaningNow_83 : decode cX6_meaningNow 83 = .ok (.bipush 7, 2) := by decide +kernel
theorem dX6_meaningNow_85 : decode cX6_meaningNow 85 = .ok (.goto 16, 3) := by decide +kernel
theorem dX6_meaningNow_88 : decode cX6_meaningNow 88 = .ok (.aload_n 0, 1) := by decide +kernel
theorem dX6_meaningNow_89 : decode cX6_meaningNow 89 = .ok (.getfield 100, 3) := by decide +kernel
theorem dX6_meaningNow_92 : decode cX6_meaningNow 92 = .ok (.iconst 1, 1) := by decide +kernel
theorem dX6_meaningNow_93 : decode cX6_meaningNow 93 = .ok (.if_icmp .ne 7, 3) := by decide +kernel
theorem dX6_meaningNow_96 : decode cX6_meaningNow 96 = .ok (.iconst 3, 1) := by decide +kernel
theorem dX6_meaningNow_97 : decode cX6_meaningNow 97 = .ok (.goto 4, 3) := by decide +kernel
theorem dX6_meaningNow_100 : decode cX6_meaningNow 100 = .ok (.iconst (-1), 1) := by decide +kernel
theorem dX6_meaningNow_101 : decode cX6_meaningNow 101 = .ok (.ireturn, 1) := by decide +kernel
theorem dX6_meaningNow_102 : decode cX6_meaningNow 102 = .ok (.iconst 2, 1) := by decide +kernel
theorem dX6_meaningNow_103 : decode cX6_meaningNow 103 = .ok (.aload_n 0, 1) := by decide +kernel
theorem dX6_meaningNow_104 : decode cX6_meaningNow 104 = .ok (.getfield 100, 3) := by decide +kernel
theorem dX6_meaningNow_107 : decode cX6_meaningNow 107 = .ok (.iadd, 1) := by decide +kernel
theorem dX6_meaningNow_108 : decode cX6_meaningNow 108 = .ok (.bipush 7, 2) := by decide +kernel
theorem dX6_meaningNow_110 : decode cX6_meaningNow 110 = .ok (.invokestatic 130, 3) := by decide +kernel
theorem dX6_meaningNow_113 : decode cX6_meaningNow 113 = .ok (.ireturn, 1) := by decide +kernel
theorem dX6_putNumber_0 : decode cX6_putNumber 0 = .ok (.aload_n 0, 1) := by decide +kernel
theorem dX6_putNumber_1 : decode cX6_putNumber 1 = .ok (.getfield 100, 3) := by decide +kernel
theorem dX6_putNumber_4 : decode cX6_putNumber 4 = .ok (.ifCond .lt 25, 3) := by decide +kernel
theorem dX6_putNumber_7 : decode cX6_putNumber 7 = .ok (.aload_n 0, 1) := by decide +kernel
theorem dX6_putNumber_8 : decode cX6_putNumber 8 = .ok (.getfield 100, 3) := by decide +kernel
theorem dX6_putNumber_11 : decode cX6_putNumber 11 = .ok (.aload_n 0, 1) := by decide +kernel
theorem dX6_putNumber_12 : decode cX6_putNumber 12 = .ok (.getfield 9, 3) := by decide +kernel
theorem dX6_putNumber_15 : decode cX6_putNumber 15 = .ok (.arraylength, 1) := by decide +kernel
theorem dX6_putNumber_16 : decode cX6_putNumber 16 = .ok (.if_icmp .ge 13, 3) := by decide +kernel
theorem dX6_putNumber_19 : decode cX6_putNumber 19 = .ok (.aload_n 0, 1) := by decide +kernel
theorem dX6_putNumber_20 : decode cX6_putNumber 20 = .ok (.getfield 9, 3) := by decide +kernel
theorem dX6_putNumber_23 : decode cX6_putNumber 23 = .ok (.aload_n 0, 1) := by decide +kernel
theorem dX6_putNumber_24 : decode cX6_putNumber 24 = .ok (.getfield 100, 3) := by decide +kernel
theorem dX6_putNumber_27 : decode cX6_putNumber 27 = .ok (.iload_n 1, 1) := by decide +kernel
theorem dX6_putNumber_28 : decode cX6_putNumber 28 = .ok (.iastore, 1) := by decide +kernel
theorem dX6_putNumber_29 : decode cX6_putNumber 29 = .ok (.aload_n 0, 1) := by decide +kernel
theorem dX6_putNumber_30 : decode cX6_putNumber 30 = .ok (.dup, 1) := by decide +kernel
theorem dX6_putNumber_31 : decode cX6_putNumber 31 = .ok (.getfield 100, 3) := by decide +kernel
theorem dX6_putNumber_34 : decode cX6_putNumber 34 = .ok (.iconst 1, 1) := by decide +kernel
theorem dX6_putNumber_35 : decode cX6_putNumber 35 = .ok (.iadd, 1) := by decide +kernel
theorem dX6_putNumber_36 : decode cX6_putNumber 36 = .ok (.putfield 100, 3) := by decide +kernel
theorem dX6_putNumber_39 : decode cX6_putNumber 39 = .ok (.return_, 1) := by decide +kernel
theorem dX6_readInto_0 : decode cX6_readInto 0 = .ok (.aload_n 0, 1) := by decide +kernel
theorem dX6_readInto_1 : decode cX6_readInto 1 = .ok (.iconst 0, 1) := by decide +kernel
theorem dX6_readInto_2 : decode cX6_readInto 2 = .ok (.putfield 19, 3) := by decide +kernel
theorem dX6_readInto_5 : decode cX6_readInto 5 = .ok (.aload_n 0, 1) := by decide +kernel
theorem dX6_readInto_6 : decode cX6_readInto 6 = .ok (.iconst 0, 1) := by decide +kernel
theorem dX6_readInto_7 : decode cX6_readInto 7 = .ok (.putfield 23, 3) := by decide +kernel
theorem dX6_readInto_10 : decode cX6_readInto 10 = .ok (.aload_n 0, 1) := by decide +kernel
theorem dX6_readInto_11 : decode cX6_readInto 11 = .ok (.iconst 0, 1) := by decide +kernel
theorem dX6_readInto_12 : decode cX6_readInto 12 = .ok (.putfield 26, 3) := by decide +kernel
theorem dX6_readInto_15 : decode cX6_readInto 15 = .ok (.aload_n 0, 1) := by decide +kernel
theorem dX6_readInto_16 : decode cX6_readInto 16 = .ok (.iconst 0, 1) := by decide +kernel
theorem dX6_readInto_17 : decode cX6_readInto 17 = .ok (.putfield 29, 3) := by decide +kernel
theorem dX6_readInto_20 : decode cX6_readInto 20 = .ok (.aload_n 0, 1) := by decide +kernel
theorem dX6_readInto_21 : decode cX6_readInto 21 = .ok (.getfield 15, 3) := by decide +kernel
theorem dX6_readInto_24 : decode cX6_readInto 24 = .ok (.invokevirtual 32, 3) := by decide +kernel
theorem dX6_readInto_27 : decode cX6_readInto 27 = .ok (.iconst 1, 1) := by decide +kernel
theorem dX6_readInto_28 : decode cX6_readInto 28 = .ok (.istore_n 2, 1) := by decide +kernel
theorem dX6_readInto_29 : decode cX6_readInto 29 = .ok (.iconst 0, 1) := by decide +kernel
theorem dX6_readInto_30 : decode cX6_readInto 30 = .ok (.istore_n 3, 1) := by decide +kernel
theorem dX6_readInto_31 : decode cX6_readInto 31 = .ok (.iload_n 3, 1) := by decide +kernel
theorem dX6_readInto_32 : decode cX6_readInto 32 = .ok (.sipush 700, 3) := by decide +kernel
theorem dX6_readInto_35 : decode cX6_readInto 35 = .ok (.if_icmp .ge 40, 3) := by decide +kernel
theorem dX6_readInto_38 : decode cX6_readInto 38 = .ok (.iload_n 2, 1) := by decide +kernel
theorem dX6_readInto_39 : decode cX6_readInto 39 = .ok (.ifCond .eq 36, 3) := by decide +kernel
theorem dX6_readInto_42 : decode cX6_readInto 42 = .ok (.aload_n 0, 1) := by decide +kernel
theorem dX6_readInto_43 : decode cX6_readInto 43 = .ok (.getfield 15, 3) := by decide +kernel
theorem dX6_readInto_46 : decode cX6_readInto 46 = .ok (.getfield 37, 3) := by decide +kernel
theorem dX6_readInto_49 : decode cX6_readInto 49 = .ok (.ifCond .eq 26, 3) := by decide +kernel
theorem dX6_readInto_52 : decode cX6_readInto 52 = .ok (.aload_n 0, 1) := by decide +kernel
theorem dX6_readInto_53 : decode cX6_readInto 53 = .ok (.aload_n 1, 1) := by decide +kernel
theorem dX6_readInto_54 : decode cX6_readInto 54 = .ok (.invokevirtual 40, 3) := by decide +kernel
theorem dX6_readInto_57 : decode cX6_readInto 57 = .ok (.istore_n 2, 1) := by decide +kernel
theorem dX6_readInto_58 : decode cX6_readInto 58 = .ok (.iload_n 2, 1) := by decide +kernel
theorem dX6_readInto_59 : decode cX6_readInto 59 = .ok (.ifCond .eq 10, 3) := by decide +kernel
theorem dX6_readInto_62 : decode cX6_readInto 62 = .ok (.aload_n 0, 1) := by decide +kernel
theorem dX6_readInto_63 : decode cX6_readInto 63 = .ok (.getfield 15, 3) := by decide +kernel
theorem dX6_readInto_66 : decode cX6_readInto 66 = .ok (.invokevirtual 44, 3) := by decide +kernel
theorem dX6_readInto_69 : decode cX6_readInto 69 = .ok (.iinc 3 1, 3) := by decide +kernel
theorem dX6_readInto_72 : decode cX6_readInto 72 = .ok (.goto (-41), 3) := by decide +kernel
theorem dX6_readInto_75 : decode cX6_readInto 75 = .ok (.iload_n 2, 1) := by decide +kernel
theorem dX6_readInto_76 : decode cX6_readInto 76 = .ok (.ifCond .eq 32, 3) := by decide +kernel
theorem dX6_readInto_79 : decode cX6_readInto 79 = .ok (.aload_n 0, 1) := by decide +kernel
theorem dX6_readInto_80 : decode cX6_readInto 80 = .ok (.getfield 19, 3) := by decide +kernel
theorem dX6_readInto_83 : decode cX6_readInto 83 = .ok (.ifCond .ne 13, 3) := by decide +kernel
theorem dX6_readInto_86 : decode cX6_readInto 86 = .ok (.aload_n 0, 1) := by decide +kernel
theorem dX6_readInto_87 : decode cX6_readInto 87 = .ok (.getfield 15, 3) := by decide +kernel
theorem dX6_readInto_90 : decode cX6_readInto 90 = .ok (.invokevirtual 47, 3) := by decide +kernel
theorem dX6_readInto_93 : decode cX6_readInto 93 = .ok (.ifCond .eq 11, 3) := by decide +kernel
theorem dX6_readInto_96 : decode cX6_readInto 96 = .ok (.aload_n 0, 1) := by decide +kernel
theorem dX6_readInto_97 : decode cX6_readInto 97 = .ok (.iconst 1, 1) := by decide +kernel
theorem dX6_readInto_98 : decode cX6_readInto 98 = .ok (.invokevirtual 51, 3) := by decide +kernel
theorem dX6_readInto_101 : decode cX6_readInto 101 = .ok (.ifCond .eq 7, 3) := by decide +kernel
theorem dX6_readInto_104 : decode cX6_readInto 104 = .ok (.iconst 1, 1) := by decide +kernel
theorem dX6_readInto_105 : decode cX6_readInto 105 = .ok (.goto 4, 3) := by decide +kernel
theorem dX6_readInto_108 : decode cX6_readInto 108 = .ok (.iconst 0, 1) := by decide +kernel
theorem dX6_readInto_109 : decode cX6_readInto 109 = .ok (.ireturn, 1) := by decide +kernel
theorem dX6_refuse_0 : decode cX6_refuse 0 = .ok (.aload_n 0, 1) := by decide +kernel
theorem dX6_refuse_1 : decode cX6_refuse 1 = .ok (.iload_n 1, 1) := by decide +kernel
theorem dX6_refuse_2 : decode cX6_refuse 2 = .ok (.putfield 29, 3) := by decide +kernel
theorem dX6_refuse_5 : decode cX6_refuse 5 = .ok (.aload_n 0, 1) := by decide +kernel
theorem dX6_refuse_6 : decode cX6_refuse 6 = .ok (.aload_n 0, 1) := by decide +kernel
theorem dX6_refuse_7 : decode cX6_refuse 7 = .ok (.getfield 15, 3) := by decide +kernel
theorem dX6_refuse_10 : decode cX6_refuse 10 = .ok (.getfield 168, 3) := by decide +kernel
theorem dX6_refuse_13 : decode cX6_refuse 13 = .ok (.putfield 171, 3) := by decide +kernel
theorem dX6_refuse_16 : decode cX6_refuse 16 = .ok (.iconst 0, 1) := by decide +kernel
theorem dX6_refuse_17 : decode cX6_refuse 17 = .ok (.ireturn, 1) := by decide +kernel
theorem dX6_sortOfWord_0 : decode cX6_sortOfWord 0 = .ok (.aload_n 0, 1) := by decide +kernel
theorem dX6_sortOfWord_1 : decode cX6_sortOfWord 1 = .ok (.getfield 15, 3) := by decide +kernel
theorem dX6_sortOfWord_4 : decode cX6_sortOfWord 4 = .ok (.ldc 106, 2) := by decide +kernel
theorem dX6_sortOfWord_6 : decode cX6_sortOfWord 6 = .ok (.invokevirtual 107, 3) := by decide +kernel
theorem dX6_sortOfWord_9 : decode cX6_sortOfWord 9 = .ok (.ifCond .eq 7, 3) := by decide +kernel
theorem dX6_sortOfWord_12 : decode cX6_sortOfWord 12 = .ok (.iconst 1, 1) := by decide +kernel
theorem dX6_sortOfWord_13 : decode cX6_sortOfWord 13 = .ok (.goto 52, 3) := by decide +kernel
theorem dX6_sortOfWord_16 : decode cX6_sortOfWord 16 = .ok (.aload_n 0, 1) := by decide +kernel
theorem dX6_sortOfWord_17 : decode cX6_sortOfWord 17 = .ok (.getfield 15, 3) := by decide +kernel
theorem dX6_sortOfWord_20 : decode cX6_sortOfWord 20 = .ok (.ldc 111, 2) := by decide +kernel
theorem dX6_sortOfWord_22 : decode cX6_sortOfWord 22 = .ok (.invokevirtual 107, 3) := by decide +kernel
theorem dX6_sortOfWord_25 : decode cX6_sortOfWord 25 = .ok (.ifCond .eq 7, 3) := by decide +kernel
theorem dX6_sortOfWord_28 : decode cX6_sortOfWord 28 = .ok (.iconst 2, 1) := by decide +kernel
theorem dX6_sortOfWord_29 : decode cX6_sortOfWord 29 = .ok (.goto 36, 3) := by decide +kernel
theorem dX6_sortOfWord_32 : decode cX6_sortOfWord 32 = .ok (.aload_n 0, 1) := by decide +kernel
theorem dX6_sortOfWord_33 : decode cX6_sortOfWord 33 = .ok (.getfield 15, 3) := by decide +kernel
theorem dX6_sortOfWord_36 : decode cX6_sortOfWord 36 = .ok (.ldc 113, 2) := by decide +kernel
theorem dX6_sortOfWord_38 : decode cX6_sortOfWord 38 = .ok (.invokevirtual 107, 3) := by decide +kernel
theorem dX6_sortOfWord_41 : decode cX6_sortOfWord 41 = .ok (.ifCond .eq 7, 3) := by decide +kernel
theorem dX6_sortOfWord_44 : decode cX6_sortOfWord 44 = .ok (.iconst 3, 1) := by decide +kernel
theorem dX6_sortOfWord_45 : decode cX6_sortOfWord 45 = .ok (.goto 20, 3) := by decide +kernel
theorem dX6_sortOfWord_48 : decode cX6_sortOfWord 48 = .ok (.aload_n 0, 1) := by decide +kernel
theorem dX6_sortOfWord_49 : decode cX6_sortOfWord 49 = .ok (.getfield 15, 3) := by decide +kernel
theorem dX6_sortOfWord_52 : decode cX6_sortOfWord 52 = .ok (.ldc 115, 2) := by decide +kernel
theorem dX6_sortOfWord_54 : decode cX6_sortOfWord 54 = .ok (.invokevirtual 107, 3) := by decide +kernel
theorem dX6_sortOfWord_57 : decode cX6_sortOfWord 57 = .ok (.ifCond .eq 7, 3) := by decide +kernel
theorem dX6_sortOfWord_60 : decode cX6_sortOfWord 60 = .ok (.iconst 4, 1) := by decide +kernel
theorem dX6_sortOfWord_61 : decode cX6_sortOfWord 61 = .ok (.goto 4, 3) := by decide +kernel
theorem dX6_sortOfWord_64 : decode cX6_sortOfWord 64 = .ok (.iconst 0, 1) := by decide +kernel
theorem dX6_sortOfWord_65 : decode cX6_sortOfWord 65 = .ok (.ireturn, 1) := by decide +kernel
theorem dX6_takeKind_0 : decode cX6_takeKind 0 = .ok (.aload_n 0, 1) := by decide +kernel
theorem dX6_takeKind_1 : decode cX6_takeKind 1 = .ok (.aload_n 0, 1) := by decide +kernel
theorem dX6_takeKind_2 : decode cX6_takeKind 2 = .ok (.getfield 15, 3) := by decide +kernel
theorem dX6_takeKind_5 : decode cX6_takeKind 5 = .ok (.ldc 117, 2) := by decide +kernel
theorem dX6_takeKind_7 : decode cX6_takeKind 7 = .ok (.invokevirtual 107, 3) := by decide +kernel
theorem dX6_takeKind_10 : decode cX6_takeKind 10 = .ok (.ifCond .eq 7, 3) := by decide +kernel
theorem dX6_takeKind_13 : decode cX6_takeKind 13 = .ok (.iconst 0, 1) := by decide +kernel
theorem dX6_takeKind_14 : decode cX6_takeKind 14 = .ok (.goto 36, 3) := by decide +kernel
theorem dX6_takeKind_17 : decode cX6_takeKind 17 = .ok (.aload_n 0, 1) := by decide +kernel
theorem dX6_takeKind_18 : decode cX6_takeKind 18 = .ok (.getfield 15, 3) := by decide +kernel
theorem dX6_takeKind_21 : decode cX6_takeKind 21 = .ok (.ldc 119, 2) := by decide +kernel
theorem dX6_takeKind_23 : decode cX6_takeKind 23 = .ok (.invokevirtual 107, 3) := by decide +kernel
theorem dX6_takeKind_26 : decode cX6_takeKind 26 = .ok (.ifCond .eq 7, 3) := by decide +kernel
theorem dX6_takeKind_29 : decode cX6_takeKind 29 = .ok (.iconst 1, 1) := by decide +kernel
theorem dX6_takeKind_30 : decode cX6_takeKind 30 = .ok (.goto 20, 3) := by decide +kernel
theorem dX6_takeKind_33 : decode cX6_takeKind 33 = .ok (.aload_n 0, 1) := by decide +kernel
theorem dX6_takeKind_34 : decode cX6_takeKind 34 = .ok (.getfield 15, 3) := by decide +kernel
theorem dX6_takeKind_37 : decode cX6_takeKind 37 = .ok (.ldc 121, 2) := by decide +kernel
theorem dX6_takeKind_39 : decode cX6_takeKind 39 = .ok (.invokevirtual 107, 3) := by decide +kernel
theorem dX6_takeKind_42 : decode cX6_takeKind 42 = .ok (.ifCond .eq 7, 3) := by decide +kernel
theorem dX6_takeKind_45 : decode cX6_takeKind 45 = .ok (.iconst 2, 1) := by decide +kernel
theorem dX6_takeKind_46 : decode cX6_takeKind 46 = .ok (.goto 4, 3) := by decide +kernel
theorem dX6_takeKind_49 : decode cX6_takeKind 49 = .ok (.iconst (-1), 1) := by decide +kernel
theorem dX6_takeKind_50 : decode cX6_takeKind 50 = .ok (.putfield 58, 3) := by decide +kernel
theorem dX6_takeKind_53 : decode cX6_takeKind 53 = .ok (.aload_n 0, 1) := by decide +kernel
theorem dX6_takeKind_54 : decode cX6_takeKind 54 = .ok (.getfield 58, 3) := by decide +kernel
theorem dX6_takeKind_57 : decode cX6_takeKind 57 = .ok (.iconst (-1), 1) := by decide +kernel
theorem dX6_takeKind_58 : decode cX6_takeKind 58 = .ok (.if_icmp .ne 9, 3) := by decide +kernel
theorem dX6_takeKind_61 : decode cX6_takeKind 61 = .ok (.aload_n 0, 1) := by decide +kernel
theorem dX6_takeKind_62 : decode cX6_takeKind 62 = .ok (.iconst 1, 1) := by decide +kernel
theorem dX6_takeKind_63 : decode cX6_takeKind 63 = .ok (.invokevirtual 51, 3) := by decide +kernel
theorem dX6_takeKind_66 : decode cX6_takeKind 66 = .ok (.ireturn, 1) := by decide +kernel
theorem dX6_takeKind_67 : decode cX6_takeKind 67 = .ok (.aload_n 0, 1) := by decide +kernel
theorem dX6_takeKind_68 : decode cX6_takeKind 68 = .ok (.getfield 58, 3) := by decide +kernel
theorem dX6_takeKind_71 : decode cX6_takeKind 71 = .ok (.iconst 2, 1) := by decide +kernel
theorem dX6_takeKind_72 : decode cX6_takeKind 72 = .ok (.if_icmp .eq 8, 3) := by decide +kernel
theorem dX6_takeKind_75 : decode cX6_takeKind 75 = .ok (.aload_n 0, 1) := by decide +kernel
theorem dX6_takeKind_76 : decode cX6_takeKind 76 = .ok (.iconst 1, 1) := by decide +kernel
theorem dX6_takeKind_77 : decode cX6_takeKind 77 = .ok (.invokevirtual 123, 3) := by decide +kernel
theorem dX6_takeKind_80 : decode cX6_takeKind 80 = .ok (.iconst 1, 1) := by decide +kernel
theorem dX6_takeKind_81 : decode cX6_takeKind 81 = .ok (.ireturn, 1) := by decide +kernel
theorem dX6_takeNumber_0 : decode cX6_takeNumber 0 = .ok (.aload_n 0, 1) := by decide +kernel
theorem dX6_takeNumber_1 : decode cX6_takeNumber 1 = .ok (.invokevirtual 127, 3) := by decide +kernel
theorem dX6_takeNumber_4 : decode cX6_takeNumber 4 = .ok (.istore_n 2, 1) := by decide +kernel
theorem dX6_takeNumber_5 : decode cX6_takeNumber 5 = .ok (.aload_n 0, 1) := by decide +kernel
theorem dX6_takeNumber_6 : decode cX6_takeNumber 6 = .ok (.getfield 15, 3) := by decide +kernel
theorem dX6_takeNumber_9 : decode cX6_takeNumber 9 = .ok (.getfield 37, 3) := by decide +kernel
theorem dX6_takeNumber_12 : decode cX6_takeNumber 12 = .ok (.iconst 2, 1) := by decide +kernel
theorem dX6_takeNumber_13 : decode cX6_takeNumber 13 = .ok (.if_icmp .ne 8, 3) := by decide +kernel
theorem dX6_takeNumber_16 : decode cX6_takeNumber 16 = .ok (.iload_n 2, 1) := by decide +kernel
theorem dX6_takeNumber_17 : decode cX6_takeNumber 17 = .ok (.iconst (-1), 1) := by decide +kernel
theorem dX6_takeNumber_18 : decode cX6_takeNumber 18 = .ok (.if_icmp .ne 9, 3) := by decide +kernel
theorem dX6_takeNumber_21 : decode cX6_takeNumber 21 = .ok (.aload_n 0, 1) := by decide +kernel
theorem dX6_takeNumber_22 : decode cX6_takeNumber 22 = .ok (.iconst 1, 1) := by decide +kernel
theorem dX6_takeNumber_23 : decode cX6_takeNumber 23 = .ok (.invokevirtual 51, 3) := by decide +kernel
theorem dX6_takeNumber_26 : decode cX6_takeNumber 26 = .ok (.ireturn, 1) := by decide +kernel
theorem dX6_takeNumber_27 : decode cX6_takeNumber 27 = .ok (.aload_n 0, 1) := by decide +kernel
theorem dX6_takeNumber_28 : decode cX6_takeNumber 28 = .ok (.getfield 15, 3) := by decide +kernel
theorem dX6_takeNumber_31 : decode cX6_takeNumber 31 = .ok (.getfield 136, 3) := by decide +kernel
theorem dX6_takeNumber_34 : decode cX6_takeNumber 34 = .ok (.istore_n 3, 1) := by decide +kernel
theorem dX6_takeNumber_35 : decode cX6_takeNumber 35 = .ok (.iload_n 2, 1) := by decide +kernel
theorem dX6_takeNumber_36 : decode cX6_takeNumber 36 = .ok (.bipush 7, 2) := by decide +kernel
theorem dX6_takeNumber_38 : decode cX6_takeNumber 38 = .ok (.if_icmp .ne 43, 3) := by decide +kernel
theorem dX6_takeNumber_41 : decode cX6_takeNumber 41 = .ok (.aload_n 1, 1) := by decide +kernel
theorem dX6_takeNumber_42 : decode cX6_takeNumber 42 = .ok (.iload_n 3, 1) := by decide +kernel
theorem dX6_takeNumber_43 : decode cX6_takeNumber 43 = .ok (.invokevirtual 139, 3) := by decide +kernel
theorem dX6_takeNumber_46 : decode cX6_takeNumber 46 = .ok (.ifCond .eq 14, 3) := by decide +kernel
theorem dX6_takeNumber_49 : decode cX6_takeNumber 49 = .ok (.aload_n 0, 1) := by decide +kernel
theorem dX6_takeNumber_50 : decode cX6_takeNumber 50 = .ok (.getfield 103, 3) := by decide +kernel
theorem dX6_takeNumber_53 : decode cX6_takeNumber 53 = .ok (.iload_n 3, 1) := by decide +kernel
theorem dX6_takeNumber_54 : decode cX6_takeNumber 54 = .ok (.ishr, 1) := by decide +kernel
theorem dX6_takeNumber_55 : decode cX6_takeNumber 55 = .ok (.iconst 1, 1) := by decide +kernel
theorem dX6_takeNumber_56 : decode cX6_takeNumber 56 = .ok (.iand, 1) := by decide +kernel
theorem dX6_takeNumber_57 : decode cX6_takeNumber 57 = .ok (.ifCond .eq 9, 3) := by decide +kernel
theorem dX6_takeNumber_60 : decode cX6_takeNumber 60 = .ok (.aload_n 0, 1) := by decide +kernel
theorem dX6_takeNumber_61 : decode cX6_takeNumber 61 = .ok (.iconst 2, 1) := by decide +kernel
theorem dX6_takeNumber_62 : decode cX6_takeNumber 62 = .ok (.invokevirtual 51, 3) := by decide +kernel
theorem dX6_takeNumber_65 : decode cX6_takeNumber 65 = .ok (.ireturn, 1) := by decide +kernel
theorem dX6_takeNumber_66 : decode cX6_takeNumber 66 = .ok (.aload_n 0, 1) := by decide +kernel
theorem dX6_takeNumber_67 : decode cX6_takeNumber 67 = .ok (.dup, 1) := by decide +kernel
theorem dX6_takeNumber_68 : decode cX6_takeNumber 68 = .ok (.getfield 103, 3) := by decide +kernel
theorem dX6_takeNumber_71 : decode cX6_takeNumber 71 = .ok (.iconst 1, 1) := by decide +kernel
theorem dX6_takeNumber_72 : decode cX6_takeNumber 72 = .ok (.iload_n 3, 1) := by decide +kernel
theorem dX6_takeNumber_73 : decode cX6_takeNumber 73 = .ok (.ishl, 1) := by decide +kernel
theorem dX6_takeNumber_74 : decode cX6_takeNumber 74 = .ok (.ior, 1) := by decide +kernel
theorem dX6_takeNumber_75 : decode cX6_takeNumber 75 = .ok (.putfield 103, 3) := by decide +kernel
theorem dX6_takeNumber_78 : decode cX6_takeNumber 78 = .ok (.goto 17, 3) := by decide +kernel
theorem dX6_takeNumber_81 : decode cX6_takeNumber 81 = .ok (.iload_n 2, 1) := by decide +kernel
theorem dX6_takeNumber_82 : decode cX6_takeNumber 82 = .ok (.iload_n 3, 1) := by decide +kernel
theorem dX6_takeNumber_83 : decode cX6_takeNumber 83 = .ok (.invokestatic 144, 3) := by decide +kernel
theorem dX6_takeNumber_86 : decode cX6_takeNumber 86 = .ok (.ifCond .ne 9, 3) := by decide +kernel
theorem dX6_takeNumber_89 : decode cX6_takeNumber 89 = .ok (.aload_n 0, 1) := by decide +kernel
theorem dX6_takeNumber_90 : decode cX6_takeNumber 90 = .ok (.iconst 2, 1) := by decide +kernel
theorem dX6_takeNumber_91 : decode cX6_takeNumber 91 = .ok (.invokevirtual 51, 3) := by decide +kernel
theorem dX6_takeNumber_94 : decode cX6_takeNumber 94 = .ok (.ireturn, 1) := by decide +kernel
theorem dX6_takeNumber_95 : decode cX6_takeNumber 95 = .ok (.aload_n 0, 1) := by decide +kernel
theorem dX6_takeNumber_96 : decode cX6_takeNumber 96 = .ok (.iload_n 3, 1) := by decide +kernel
theorem dX6_takeNumber_97 : decode cX6_takeNumber 97 = .ok (.invokevirtual 123, 3) := by decide +kernel
theorem dX6_takeNumber_100 : decode cX6_takeNumber 100 = .ok (.iconst 1, 1) := by decide +kernel
theorem dX6_takeNumber_101 : decode cX6_takeNumber 101 = .ok (.ireturn, 1) := by decide +kernel
theorem dX6_takeToken_0 : decode cX6_takeToken 0 = .ok (.aload_n 0, 1) := by decide +kernel
theorem dX6_takeToken_1 : decode cX6_takeToken 1 = .ok (.getfield 19, 3) := by decide +kernel
theorem dX6_takeToken_4 : decode cX6_takeToken 4 = .ok (.ifCond .ne 9, 3) := by decide +kernel
theorem dX6_takeToken_7 : decode cX6_takeToken 7 = .ok (.aload_n 0, 1) := by decide +kernel
theorem dX6_takeToken_8 : decode cX6_takeToken 8 = .ok (.aload_n 1, 1) := by decide +kernel
theorem dX6_takeToken_9 : decode cX6_takeToken 9 = .ok (.invokevirtual 55, 3) := by decide +kernel
theorem dX6_takeToken_12 : decode cX6_takeToken 12 = .ok (.ireturn, 1) := by decide +kernel
theorem dX6_takeToken_13 : decode cX6_takeToken 13 = .ok (.aload_n 0, 1) := by decide +kernel
theorem dX6_takeToken_14 : decode cX6_takeToken 14 = .ok (.getfield 19, 3) := by decide +kernel
theorem dX6_takeToken_17 : decode cX6_takeToken 17 = .ok (.iconst 3, 1) := by decide +kernel
theorem dX6_takeToken_18 : decode cX6_takeToken 18 = .ok (.if_icmp .ne 16, 3) := by decide +kernel
theorem dX6_takeToken_21 : decode cX6_takeToken 21 = .ok (.aload_n 0, 1) := by decide +kernel
theorem dX6_takeToken_22 : decode cX6_takeToken 22 = .ok (.getfield 58, 3) := by decide +kernel
theorem dX6_takeToken_25 : decode cX6_takeToken 25 = .ok (.iconst (-1), 1) := by decide +kernel
theorem dX6_takeToken_26 : decode cX6_takeToken 26 = .ok (.if_icmp .ne 8, 3) := by decide +kernel
theorem dX6_takeToken_29 : decode cX6_takeToken 29 = .ok (.aload_n 0, 1) := by decide +kernel
theorem dX6_takeToken_30 : decode cX6_takeToken 30 = .ok (.invokevirtual 61, 3) := by decide +kernel
theorem dX6_takeToken_33 : decode cX6_takeToken 33 = .ok (.ireturn, 1) := by decide +kernel
theorem dX6_takeToken_34 : decode cX6_takeToken 34 = .ok (.aload_n 0, 1) := by decide +kernel
theorem dX6_takeToken_35 : decode cX6_takeToken 35 = .ok (.getfield 15, 3) := by decide +kernel
theorem dX6_takeToken_38 : decode cX6_takeToken 38 = .ok (.getfield 37, 3) := by decide +kernel
theorem dX6_takeToken_41 : decode cX6_takeToken 41 = .ok (.iconst 3, 1) := by decide +kernel
theorem dX6_takeToken_42 : decode cX6_takeToken 42 = .ok (.if_icmp .ne 16, 3) := by decide +kernel
theorem dX6_takeToken_45 : decode cX6_takeToken 45 = .ok (.aload_n 0, 1) := by decide +kernel
theorem dX6_takeToken_46 : decode cX6_takeToken 46 = .ok (.invokevirtual 64, 3) := by decide +kernel
theorem dX6_takeToken_49 : decode cX6_takeToken 49 = .ok (.ifCond .eq 9, 3) := by decide +kernel
theorem dX6_takeToken_52 : decode cX6_takeToken 52 = .ok (.aload_n 0, 1) := by decide +kernel
theorem dX6_takeToken_53 : decode cX6_takeToken 53 = .ok (.aload_n 1, 1) := by decide +kernel
theorem dX6_takeToken_54 : decode cX6_takeToken 54 = .ok (.invokevirtual 67, 3) := by decide +kernel
theorem dX6_takeToken_57 : decode cX6_takeToken 57 = .ok (.ireturn, 1) := by decide +kernel
theorem dX6_takeToken_58 : decode cX6_takeToken 58 = .ok (.aload_n 0, 1) := by decide +kernel
theorem dX6_takeToken_59 : decode cX6_takeToken 59 = .ok (.aload_n 1, 1) := by decide +kernel
theorem dX6_takeToken_60 : decode cX6_takeToken 60 = .ok (.getfield 70, 3) := by decide +kernel
theorem dX6_takeToken_63 : decode cX6_takeToken 63 = .ok (.invokevirtual 76, 3) := by decide +kernel
theorem dX6_takeToken_66 : decode cX6_takeToken 66 = .ok (.ireturn, 1) := by decide +kernel
end
section
theorem dX7_at_0 : decode cX7_at 0 = .ok (.iload_n 1, 1) := by decide +kernel
theorem dX7_at_1 : decode cX7_at 1 = .ok (.ifCond .lt 33, 3) := by decide +kernel
theorem dX7_at_4 : decode cX7_at 4 = .ok (.iload_n 1, 1) := by decide +kernel
theorem dX7_at_5 : decode cX7_at 5 = .ok (.aload_n 0, 1) := by decide +kernel
theorem dX7_at_6 : decode cX7_at 6 = .ok (.getfield 15, 3) := by decide +kernel
theorem dX7_at_9 : decode cX7_at 9 = .ok (.if_icmp .ge 25, 3) := by decide +kernel
theorem dX7_at_12 : decode cX7_at 12 = .ok (.iload_n 1, 1) := by decide +kernel
theorem dX7_at_13 : decode cX7_at 13 = .ok (.aload_n 0, 1) := by decide +kernel
theorem dX7_at_14 : decode cX7_at 14 = .ok (.getfield 9, 3) := by decide +kernel
theorem dX7_at_17 : decode cX7_at 17 = .ok (.arraylength, 1) := by decide +kernel
theorem dX7_at_18 : decode cX7_at 18 = .ok (.if_icmp .ge 16, 3) := by decide +kernel
theorem dX7_at_21 : decode cX7_at 21 = .ok (.aload_n 0, 1) := by decide +kernel
theorem dX7_at_22 : decode cX7_at 22 = .ok (.getfield 9, 3) := by decide +kernel
theorem dX7_at_25 : decode cX7_at 25 = .ok (.iload_n 1, 1) := by decide +kernel
theorem dX7_at_26 : decode cX7_at 26 = .ok (.baload, 1) := by decide +kernel
theorem dX7_at_27 : decode cX7_at 27 = .ok (.sipush 255, 3) := by decide +kernel
theorem dX7_at_30 : decode cX7_at 30 = .ok (.iand, 1) := by decide +kernel
theorem dX7_at_31 : decode cX7_at 31 = .ok (.goto 4, 3) := by decide +kernel
theorem dX7_at_34 : decode cX7_at 34 = .ok (.iconst (-1), 1) := by decide +kernel
theorem dX7_at_35 : decode cX7_at 35 = .ok (.ireturn, 1) := by decide +kernel
theorem dX7_putNumber_0 : decode cX7_putNumber 0 = .ok (.bipush 24, 2) := by decide +kernel
theorem dX7_putNumber_2 : decode cX7_putNumber 2 = .ok (.istore_n 2, 1) := by decide +kernel
theorem dX7_putNumber_3 : decode cX7_putNumber 3 = .ok (.iload_n 2, 1) := by decide +kernel
theorem dX7_putNumber_4 : decode cX7_putNumber 4 = .ok (.ifCond .lt 44, 3) := by decide +kernel
theorem dX7_putNumber_7 : decode cX7_putNumber 7 = .ok (.aload_n 0, 1) := by decide +kernel
theorem dX7_putNumber_8 : decode cX7_putNumber 8 = .ok (.getfield 15, 3) := by decide +kernel
theorem dX7_putNumber_11 : decode cX7_putNumber 11 = .ok (.aload_n 0, 1) := by decide +kernel
theorem dX7_putNumber_12 : decode cX7_putNumber 12 = .ok (.getfield 9, 3) := by decide +kernel
theorem dX7_putNumber_15 : decode cX7_putNumber 15 = .ok (.arraylength, 1) := by decide +kernel
theorem dX7_putNumber_16 : decode cX7_putNumber 16 = .ok (.if_icmp .ge 26, 3) := by decide +kernel
theorem dX7_putNumber_19 : decode cX7_putNumber 19 = .ok (.aload_n 0, 1) := by decide +kernel
theorem dX7_putNumber_20 : decode cX7_putNumber 20 = .ok (.getfield 9, 3) := by decide +kernel
theorem dX7_putNumber_23 : decode cX7_putNumber 23 = .ok (.aload_n 0, 1) := by decide +kernel
theorem dX7_putNumber_24 : decode cX7_putNumber 24 = .ok (.getfield 15, 3) := by decide +kernel
theorem dX7_putNumber_27 : decode cX7_putNumber 27 = .ok (.iload_n 1, 1) := by decide +kernel
theorem dX7_putNumber_28 : decode cX7_putNumber 28 = .ok (.iload_n 2, 1) := by decide +kernel
theorem dX7_putNumber_29 : decode cX7_putNumber 29 = .ok (.ishr, 1) := by decide +kernel
theorem dX7_putNumber_30 : decode cX7_putNumber 30 = .ok (.i2b, 1) := by decide +kernel
theorem dX7_putNumber_31 : decode cX7_putNumber 31 = .ok (.bastore, 1) := by decide +kernel
theorem dX7_putNumber_32 : decode cX7_putNumber 32 = .ok (.aload_n 0, 1) := by decide +kernel
theorem dX7_putNumber_33 : decode cX7_putNumber 33 = .ok (.dup, 1) := by decide +kernel
theorem dX7_putNumber_34 : decode cX7_putNumber 34 = .ok (.getfield 15, 3) := by decide +kernel
theorem dX7_putNumber_37 : decode cX7_putNumber 37 = .ok (.iconst 1, 1) := by decide +kernel
theorem dX7_putNumber_38 : decode cX7_putNumber 38 = .ok (.iadd, 1) := by decide +kernel
theorem dX7_putNumber_39 : decode cX7_putNumber 39 = .ok (.putfield 15, 3) := by decide +kernel
theorem dX7_putNumber_42 : decode cX7_putNumber 42 = .ok (.iinc 2 (-8), 3) := by decide +kernel
theorem dX7_putNumber_45 : decode cX7_putNumber 45 = .ok (.goto (-42), 3) := by decide +kernel
theorem dX7_putNumber_48 : decode cX7_putNumber 48 = .ok (.return_, 1) := by decide +kernel
end
section
theorem dX8_advance_0 : decode cX8_advance 0 = .ok (.aload_n 0, 1) := by decide +kernel
theorem dX8_advance_1 : decode cX8_advance 1 = .ok (.aload_n 0, 1) := by decide +kernel
theorem dX8_advance_2 : decode cX8_advance 2 = .ok (.aload_n 0, 1) := by decide +kernel
theorem dX8_advance_3 : decode cX8_advance 3 = .ok (.getfield 15, 3) := by decide +kernel
theorem dX8_advance_6 : decode cX8_advance 6 = .ok (.invokevirtual 27, 3) := by decide +kernel
theorem dX8_advance_9 : decode cX8_advance 9 = .ok (.putfield 31, 3) := by decide +kernel
theorem dX8_advance_12 : decode cX8_advance 12 = .ok (.aload_n 0, 1) := by decide +kernel
theorem dX8_advance_13 : decode cX8_advance 13 = .ok (.getfield 9, 3) := by decide +kernel
theorem dX8_advance_16 : decode cX8_advance 16 = .ok (.getfield 22, 3) := by decide +kernel
theorem dX8_advance_19 : decode cX8_advance 19 = .ok (.sipush 700, 3) := by decide +kernel
theorem dX8_advance_22 : decode cX8_advance 22 = .ok (.invokestatic 34, 3) := by decide +kernel
theorem dX8_advance_25 : decode cX8_advance 25 = .ok (.istore_n 1, 1) := by decide +kernel
theorem dX8_advance_26 : decode cX8_advance 26 = .ok (.aload_n 0, 1) := by decide +kernel
theorem dX8_advance_27 : decode cX8_advance 27 = .ok (.getfield 31, 3) := by decide +kernel
theorem dX8_advance_30 : decode cX8_advance 30 = .ok (.iload_n 1, 1) := by decide +kernel
theorem dX8_advance_31 : decode cX8_advance 31 = .ok (.if_icmp .lt 19, 3) := by decide +kernel
theorem dX8_advance_34 : decode cX8_advance 34 = .ok (.aload_n 0, 1) := by decide +kernel
theorem dX8_advance_35 : decode cX8_advance 35 = .ok (.iload_n 1, 1) := by decide +kernel
theorem dX8_advance_36 : decode cX8_advance 36 = .ok (.putfield 31, 3) := by decide +kernel
theorem dX8_advance_39 : decode cX8_advance 39 = .ok (.aload_n 0, 1) := by decide +kernel
theorem dX8_advance_40 : decode cX8_advance 40 = .ok (.iload_n 1, 1) := by decide +kernel
theorem dX8_advance_41 : decode cX8_advance 41 = .ok (.putfield 15, 3) := by decide +kernel
theorem dX8_advance_44 : decode cX8_advance 44 = .ok (.aload_n 0, 1) := by decide +kernel
theorem dX8_advance_45 : decode cX8_advance 45 = .ok (.iconst 0, 1) := by decide +kernel
theorem dX8_advance_46 : decode cX8_advance 46 = .ok (.putfield 40, 3) := by decide +kernel
theorem dX8_advance_49 : decode cX8_advance 49 = .ok (.return_, 1) := by decide +kernel
theorem dX8_advance_50 : decode cX8_advance 50 = .ok (.aload_n 0, 1) := by decide +kernel
theorem dX8_advance_51 : decode cX8_advance 51 = .ok (.getfield 9, 3) := by decide +kernel
theorem dX8_advance_54 : decode cX8_advance 54 = .ok (.aload_n 0, 1) := by decide +kernel
theorem dX8_advance_55 : decode cX8_advance 55 = .ok (.getfield 31, 3) := by decide +kernel
theorem dX8_advance_58 : decode cX8_advance 58 = .ok (.invokevirtual 43, 3) := by decide +kernel
theorem dX8_advance_61 : decode cX8_advance 61 = .ok (.istore_n 2, 1) := by decide +kernel
theorem dX8_advance_62 : decode cX8_advance 62 = .ok (.iload_n 2, 1) := by decide +kernel
theorem dX8_advance_63 : decode cX8_advance 63 = .ok (.invokestatic 46, 3) := by decide +kernel
theorem dX8_advance_66 : decode cX8_advance 66 = .ok (.ifCond .ne 10, 3) := by decide +kernel
theorem dX8_advance_69 : decode cX8_advance 69 = .ok (.iload_n 2, 1) := by decide +kernel
theorem dX8_advance_70 : decode cX8_advance 70 = .ok (.invokestatic 50, 3) := by decide +kernel
theorem dX8_advance_73 : decode cX8_advance 73 = .ok (.ifCond .eq 10, 3) := by decide +kernel
theorem dX8_advance_76 : decode cX8_advance 76 = .ok (.aload_n 0, 1) := by decide +kernel
theorem dX8_advance_77 : decode cX8_advance 77 = .ok (.invokevirtual 53, 3) := by decide +kernel
theorem dX8_advance_80 : decode cX8_advance 80 = .ok (.goto 28, 3) := by decide +kernel
theorem dX8_advance_83 : decode cX8_advance 83 = .ok (.aload_n 0, 1) := by decide +kernel
theorem dX8_advance_84 : decode cX8_advance 84 = .ok (.aload_n 0, 1) := by decide +kernel
theorem dX8_advance_85 : decode cX8_advance 85 = .ok (.getfield 31, 3) := by decide +kernel
theorem dX8_advance_88 : decode cX8_advance 88 = .ok (.iconst 1, 1) := by decide +kernel
theorem dX8_advance_89 : decode cX8_advance 89 = .ok (.iadd, 1) := by decide +kernel
theorem dX8_advance_90 : decode cX8_advance 90 = .ok (.putfield 15, 3) := by decide +kernel
theorem dX8_advance_93 : decode cX8_advance 93 = .ok (.aload_n 0, 1) := by decide +kernel
theorem dX8_advance_94 : decode cX8_advance 94 = .ok (.iload_n 2, 1) := by decide +kernel
theorem dX8_advance_95 : decode cX8_advance 95 = .ok (.bipush 59, 2) := by decide +kernel
theorem dX8_advance_97 : decode cX8_advance 97 = .ok (.if_icmp .ne 7, 3) := by decide +kernel
theorem dX8_advance_100 : decode cX8_advance 100 = .ok (.iconst 3, 1) := by decide +kernel
theorem dX8_advance_101 : decode cX8_advance 101 = .ok (.goto 4, 3) := by decide +kernel
theorem dX8_advance_104 : decode cX8_advance 104 = .ok (.iconst 4, 1) := by decide +kernel
theorem dX8_advance_105 : decode cX8_advance 105 = .ok (.putfield 40, 3) := by decide +kernel
theorem dX8_advance_108 : decode cX8_advance 108 = .ok (.return_, 1) := by decide +kernel
theorem dX8_isDigit_0 : decode cX8_isDigit 0 = .ok (.iload_n 0, 1) := by decide +kernel
theorem dX8_isDigit_1 : decode cX8_isDigit 1 = .ok (.bipush 48, 2) := by decide +kernel
theorem dX8_isDigit_3 : decode cX8_isDigit 3 = .ok (.if_icmp .lt 13, 3) := by decide +kernel
theorem dX8_isDigit_6 : decode cX8_isDigit 6 = .ok (.iload_n 0, 1) := by decide +kernel
theorem dX8_isDigit_7 : decode cX8_isDigit 7 = .ok (.bipush 57, 2) := by decide +kernel
theorem dX8_isDigit_9 : decode cX8_isDigit 9 = .ok (.if_icmp .gt 7, 3) := by decide +kernel
theorem dX8_isDigit_12 : decode cX8_isDigit 12 = .ok (.iconst 1, 1) := by decide +kernel
theorem dX8_isDigit_13 : decode cX8_isDigit 13 = .ok (.goto 4, 3) := by decide +kernel
theorem dX8_isDigit_16 : decode cX8_isDigit 16 = .ok (.iconst 0, 1) := by decide +kernel
theorem dX8_isDigit_17 : decode cX8_isDigit 17 = .ok (.ireturn, 1) := by decide +kernel
theorem dX8_isLetter_0 : decode cX8_isLetter 0 = .ok (.iload_n 0, 1) := by decide +kernel
theorem dX8_isLetter_1 : decode cX8_isLetter 1 = .ok (.bipush 97, 2) := by decide +kernel
theorem dX8_isLetter_3 : decode cX8_isLetter 3 = .ok (.if_icmp .lt 13, 3) := by decide +kernel
theorem dX8_isLetter_6 : decode cX8_isLetter 6 = .ok (.iload_n 0, 1) := by decide +kernel
theorem dX8_isLetter_7 : decode cX8_isLetter 7 = .ok (.bipush 122, 2) := by decide +kernel
theorem dX8_isLetter_9 : decode cX8_isLetter 9 = .ok (.if_icmp .gt 7, 3) := by decide +kernel
theorem dX8_isLetter_12 : decode cX8_isLetter 12 = .ok (.iconst 1, 1) := by decide +kernel
theorem dX8_isLetter_13 : decode cX8_isLetter 13 = .ok (.goto 4, 3) := by decide +kernel
theorem dX8_isLetter_16 : decode cX8_isLetter 16 = .ok (.iconst 0, 1) := by decide +kernel
theorem dX8_isLetter_17 : decode cX8_isLetter 17 = .ok (.ireturn, 1) := by decide +kernel
theorem dX8_isTooLong_0 : decode cX8_isTooLong 0 = .ok (.aload_n 0, 1) := by decide +kernel
theorem dX8_isTooLong_1 : decode cX8_isTooLong 1 = .ok (.getfield 9, 3) := by decide +kernel
theorem dX8_isTooLong_4 : decode cX8_isTooLong 4 = .ok (.getfield 22, 3) := by decide +kernel
theorem dX8_isTooLong_7 : decode cX8_isTooLong 7 = .ok (.sipush 700, 3) := by decide +kernel
theorem dX8_isTooLong_10 : decode cX8_isTooLong 10 = .ok (.if_icmp .le 7, 3) := by decide +kernel
theorem dX8_isTooLong_13 : decode cX8_isTooLong 13 = .ok (.iconst 1, 1) := by decide +kernel
theorem dX8_isTooLong_14 : decode cX8_isTooLong 14 = .ok (.goto 4, 3) := by decide +kernel
theorem dX8_isTooLong_17 : decode cX8_isTooLong 17 = .ok (.iconst 0, 1) := by decide +kernel
theorem dX8_isTooLong_18 : decode cX8_isTooLong 18 = .ok (.ireturn, 1) := by decide +kernel
theorem dX8_isWord_0 : decode cX8_isWord 0 = .ok (.aload_n 0, 1) := by decide +kernel
theorem dX8_isWord_1 : decode cX8_isWord 1 = .ok (.getfield 40, 3) := by decide +kernel
theorem dX8_isWord_4 : decode cX8_isWord 4 = .ok (.iconst 1, 1) := by decide +kernel
theorem dX8_isWord_5 : decode cX8_isWord 5 = .ok (.if_icmp .ne 19, 3) := by decide +kernel
theorem dX8_isWord_8 : decode cX8_isWord 8 = .ok (.aload_n 0, 1) := by decide +kernel
theorem dX8_isWord_9 : decode cX8_isWord 9 = .ok (.getfield 15, 3) := by decide +kernel
theorem dX8_isWord_12 : decode cX8_isWord 12 = .ok (.aload_n 0, 1) := by decide +kernel
theorem dX8_isWord_13 : decode cX8_isWord 13 = .ok (.getfield 31, 3) := by decide +kernel
theorem dX8_isWord_16 : decode cX8_isWord 16 = .ok (.isub, 1) := by decide +kernel
theorem dX8_isWord_17 : decode cX8_isWord 17 = .ok (.aload_n 1, 1) := by decide +kernel
theorem dX8_isWord_18 : decode cX8_isWord 18 = .ok (.invokevirtual 56, 3) := by decide +kernel
theorem dX8_isWord_21 : decode cX8_isWord 21 = .ok (.if_icmp .eq 5, 3) := by decide +kernel
theorem dX8_isWord_24 : decode cX8_isWord 24 = .ok (.iconst 0, 1) := by decide +kernel
theorem dX8_isWord_25 : decode cX8_isWord 25 = .ok (.ireturn, 1) := by decide +kernel
theorem dX8_isWord_26 : decode cX8_isWord 26 = .ok (.iconst 0, 1) := by decide +kernel
theorem dX8_isWord_27 : decode cX8_isWord 27 = .ok (.istore_n 2, 1) := by decide +kernel
theorem dX8_isWord_28 : decode cX8_isWord 28 = .ok (.iload_n 2, 1) := by decide +kernel
theorem dX8_isWord_29 : decode cX8_isWord 29 = .ok (.aload_n 1, 1) := by decide +kernel
theorem dX8_isWord_30 : decode cX8_isWord 30 = .ok (.invokevirtual 56, 3) := by decide +kernel
theorem dX8_isWord_33 : decode cX8_isWord 33 = .ok (.if_icmp .ge 32, 3) := by decide +kernel
theorem dX8_isWord_36 : decode cX8_isWord 36 = .ok (.aload_n 0, 1) := by decide +kernel
theorem dX8_isWord_37 : decode cX8_isWord 37 = .ok (.getfield 9, 3) := by decide +kernel
theorem dX8_isWord_40 : decode cX8_isWord 40 = .ok (.aload_n 0, 1) := by decide +kernel
theorem dX8_isWord_41 : decode cX8_isWord 41 = .ok (.getfield 31, 3) := by decide +kernel
theorem dX8_isWord_44 : decode cX8_isWord 44 = .ok (.iload_n 2, 1) := by decide +kernel
theorem dX8_isWord_45 : decode cX8_isWord 45 = .ok (.iadd, 1) := by decide +kernel
theorem dX8_isWord_46 : decode cX8_isWord 46 = .ok (.invokevirtual 43, 3) := by decide +kernel
theorem dX8_isWord_49 : decode cX8_isWord 49 = .ok (.aload_n 1, 1) := by decide +kernel
theorem dX8_isWord_50 : decode cX8_isWord 50 = .ok (.iload_n 2, 1) := by decide +kernel
theorem dX8_isWord_51 : decode cX8_isWord 51 = .ok (.invokevirtual 61, 3) := by decide +kernel
theorem dX8_isWord_54 : decode cX8_isWord 54 = .ok (.if_icmp .eq 5, 3) := by decide +kernel
theorem dX8_isWord_57 : decode cX8_isWord 57 = .ok (.iconst 0, 1) := by decide +kernel
theorem dX8_isWord_58 : decode cX8_isWord 58 = .ok (.ireturn, 1) := by decide +kernel
theorem dX8_isWord_59 : decode cX8_isWord 59 = .ok (.iinc 2 1, 3) := by decide +kernel
theorem dX8_isWord_62 : decode cX8_isWord 62 = .ok (.goto (-34), 3) := by decide +kernel
theorem dX8_isWord_65 : decode cX8_isWord 65 = .ok (.iconst 1, 1) := by decide +kernel
theorem dX8_isWord_66 : decode cX8_isWord 66 = .ok (.ireturn, 1) := by decide +kernel
theorem dX8_readRun_0 : decode cX8_readRun 0 = .ok (.iconst 0, 1) := by decide +kernel
theorem dX8_readRun_1 : decode cX8_readRun 1 = .ok (.istore_n 1, 1) := by decide +kernel
theorem dX8_readRun_2 : decode cX8_readRun 2 = .ok (.iconst 0, 1) := by decide +kernel
theorem dX8_readRun_3 : decode cX8_readRun 3 = .ok (.istore_n 2, 1) := by decide +kernel
theorem dX8_readRun_4 : decode cX8_readRun 4 = .ok (.iconst 0, 1) := by decide +kernel
theorem dX8_readRun_5 : decode cX8_readRun 5 = .ok (.istore_n 3, 1) := by decide +kernel
theorem dX8_readRun_6 : decode cX8_readRun 6 = .ok (.aload_n 0, 1) := by decide +kernel
theorem dX8_readRun_7 : decode cX8_readRun 7 = .ok (.getfield 31, 3) := by decide +kernel
theorem dX8_readRun_10 : decode cX8_readRun 10 = .ok (.istore 4, 2) := by decide +kernel
theorem dX8_readRun_12 : decode cX8_readRun 12 = .ok (.iload 4, 2) := by decide +kernel
theorem dX8_readRun_14 : decode cX8_readRun 14 = .ok (.aload_n 0, 1) := by decide +kernel
theorem dX8_readRun_15 : decode cX8_readRun 15 = .ok (.getfield 9, 3) := by decide +kernel
theorem dX8_readRun_18 : decode cX8_readRun 18 = .ok (.getfield 22, 3) := by decide +kernel
theorem dX8_readRun_21 : decode cX8_readRun 21 = .ok (.if_icmp .ge 56, 3) := by decide +kernel
theorem dX8_readRun_24 : decode cX8_readRun 24 = .ok (.aload_n 0, 1) := by decide +kernel
theorem dX8_readRun_25 : decode cX8_readRun 25 = .ok (.getfield 9, 3) := by decide +kernel
theorem dX8_readRun_28 : decode cX8_readRun 28 = .ok (.iload 4, 2) := by decide +kernel
theorem dX8_readRun_30 : decode cX8_readRun 30 = .ok (.invokevirtual 43, 3) := by decide +kernel
theorem dX8_readRun_33 : decode cX8_readRun 33 = .ok (.istore 5, 2) := by decide +kernel
theorem dX8_readRun_35 : decode cX8_readRun 35 = .ok (.iload 5, 2) := by decide +kernel
theorem dX8_readRun_37 : decode cX8_readRun 37 = .ok (.invokestatic 46, 3) := by decide +kernel
theorem dX8_readRun_40 : decode cX8_readRun 40 = .ok (.ifCond .eq 9, 3) := by decide +kernel
theorem dX8_readRun_43 : decode cX8_readRun 43 = .ok (.iinc 1 1, 3) := by decide +kernel
theorem dX8_readRun_46 : decode cX8_readRun 46 = .ok (.goto 25, 3) := by decide +kernel
theorem dX8_readRun_49 : decode cX8_readRun 49 = .ok (.iload 5, 2) := by decide +kernel
theorem dX8_readRun_51 : decode cX8_readRun 51 = .ok (.invokestatic 50, 3) := by decide +kernel
theorem dX8_readRun_54 : decode cX8_readRun 54 = .ok (.ifCond .eq 23, 3) := by decide +kernel
theorem dX8_readRun_57 : decode cX8_readRun 57 = .ok (.iinc 2 1, 3) := by decide +kernel
theorem dX8_readRun_60 : decode cX8_readRun 60 = .ok (.iload_n 3, 1) := by decide +kernel
theorem dX8_readRun_61 : decode cX8_readRun 61 = .ok (.bipush 10, 2) := by decide +kernel
theorem dX8_readRun_63 : decode cX8_readRun 63 = .ok (.imul, 1) := by decide +kernel
theorem dX8_readRun_64 : decode cX8_readRun 64 = .ok (.iload 5, 2) := by decide +kernel
theorem dX8_readRun_66 : decode cX8_readRun 66 = .ok (.iadd, 1) := by decide +kernel
theorem dX8_readRun_67 : decode cX8_readRun 67 = .ok (.bipush 48, 2) := by decide +kernel
theorem dX8_readRun_69 : decode cX8_readRun 69 = .ok (.isub, 1) := by decide +kernel
theorem dX8_readRun_70 : decode cX8_readRun 70 = .ok (.istore_n 3, 1) := by decide +kernel
theorem dX8_readRun_71 : decode cX8_readRun 71 = .ok (.iinc 4 1, 3) := by decide +kernel
theorem dX8_readRun_74 : decode cX8_readRun 74 = .ok (.goto (-62), 3) := by decide +kernel
theorem dX8_readRun_77 : decode cX8_readRun 77 = .ok (.aload_n 0, 1) := by decide +kernel
theorem dX8_readRun_78 : decode cX8_readRun 78 = .ok (.iload 4, 2) := by decide +kernel
theorem dX8_readRun_80 : decode cX8_readRun 80 = .ok (.putfield 15, 3) := by decide +kernel
theorem dX8_readRun_83 : decode cX8_readRun 83 = .ok (.aload_n 0, 1) := by decide +kernel
theorem dX8_readRun_84 : decode cX8_readRun 84 = .ok (.iload_n 3, 1) := by decide +kernel
theorem dX8_readRun_85 : decode cX8_readRun 85 = .ok (.putfield 65, 3) := by decide +kernel
theorem dX8_readRun_88 : decode cX8_readRun 88 = .ok (.iload_n 2, 1) := by decide +kernel
theorem dX8_readRun_89 : decode cX8_readRun 89 = .ok (.ifCond .ne 11, 3) := by decide +kernel
theorem dX8_readRun_92 : decode cX8_readRun 92 = .ok (.aload_n 0, 1) := by decide +kernel
theorem dX8_readRun_93 : decode cX8_readRun 93 = .ok (.iconst 1, 1) := by decide +kernel
theorem dX8_readRun_94 : decode cX8_readRun 94 = .ok (.putfield 40, 3) := by decide +kernel
theorem dX8_readRun_97 : decode cX8_readRun 97 = .ok (.goto 21, 3) := by decide +kernel
theorem dX8_readRun_100 : decode cX8_readRun 100 = .ok (.aload_n 0, 1) := by decide +kernel
theorem dX8_readRun_101 : decode cX8_readRun 101 = .ok (.iload_n 1, 1) := by decide +kernel
theorem dX8_readRun_102 : decode cX8_readRun 102 = .ok (.ifCond .ne 12, 3) := by decide +kernel
theorem dX8_readRun_105 : decode cX8_readRun 105 = .ok (.iload_n 2, 1) := by decide +kernel
theorem dX8_readRun_106 : decode cX8_readRun 106 = .ok (.iconst 2, 1) := by decide +kernel
theorem dX8_readRun_107 : decode cX8_readRun 107 = .ok (.if_icmp .gt 7, 3) := by decide +kernel
theorem dX8_readRun_110 : decode cX8_readRun 110 = .ok (.iconst 2, 1) := by decide +kernel
theorem dX8_readRun_111 : decode cX8_readRun 111 = .ok (.goto 4, 3) := by decide +kernel
theorem dX8_readRun_114 : decode cX8_readRun 114 = .ok (.iconst 4, 1) := by decide +kernel
theorem dX8_readRun_115 : decode cX8_readRun 115 = .ok (.putfield 40, 3) := by decide +kernel
theorem dX8_readRun_118 : decode cX8_readRun 118 = .ok (.return_, 1) := by decide +kernel
theorem dX8_restart_0 : decode cX8_restart 0 = .ok (.aload_n 0, 1) := by decide +kernel
theorem dX8_restart_1 : decode cX8_restart 1 = .ok (.iconst 0, 1) := by decide +kernel
theorem dX8_restart_2 : decode cX8_restart 2 = .ok (.putfield 15, 3) := by decide +kernel
theorem dX8_restart_5 : decode cX8_restart 5 = .ok (.aload_n 0, 1) := by decide +kernel
theorem dX8_restart_6 : decode cX8_restart 6 = .ok (.invokevirtual 19, 3) := by decide +kernel
theorem dX8_restart_9 : decode cX8_restart 9 = .ok (.return_, 1) := by decide +kernel
theorem dX8_skipBlanks_0 : decode cX8_skipBlanks 0 = .ok (.iload_n 1, 1) := by decide +kernel
theorem dX8_skipBlanks_1 : decode cX8_skipBlanks 1 = .ok (.istore_n 2, 1) := by decide +kernel
theorem dX8_skipBlanks_2 : decode cX8_skipBlanks 2 = .ok (.iload_n 2, 1) := by decide +kernel
theorem dX8_skipBlanks_3 : decode cX8_skipBlanks 3 = .ok (.aload_n 0, 1) := by decide +kernel
theorem dX8_skipBlanks_4 : decode cX8_skipBlanks 4 = .ok (.getfield 9, 3) := by decide +kernel
theorem dX8_skipBlanks_7 : decode cX8_skipBlanks 7 = .ok (.getfield 22, 3) := by decide +kernel
theorem dX8_skipBlanks_10 : decode cX8_skipBlanks 10 = .ok (.if_icmp .ge 35, 3) := by decide +kernel
theorem dX8_skipBlanks_13 : decode cX8_skipBlanks 13 = .ok (.aload_n 0, 1) := by decide +kernel
theorem dX8_skipBlanks_14 : decode cX8_skipBlanks 14 = .ok (.getfield 9, 3) := by decide +kernel
theorem dX8_skipBlanks_17 : decode cX8_skipBlanks 17 = .ok (.iload_n 2, 1) := by decide +kernel
theorem dX8_skipBlanks_18 : decode cX8_skipBlanks 18 = .ok (.invokevirtual 43, 3) := by decide +kernel
theorem dX8_skipBlanks_21 : decode cX8_skipBlanks 21 = .ok (.bipush 32, 2) := by decide +kernel
theorem dX8_skipBlanks_23 : decode cX8_skipBlanks 23 = .ok (.if_icmp .eq 16, 3) := by decide +kernel
theorem dX8_skipBlanks_26 : decode cX8_skipBlanks 26 = .ok (.aload_n 0, 1) := by decide +kernel
theorem dX8_skipBlanks_27 : decode cX8_skipBlanks 27 = .ok (.getfield 9, 3) := by decide +kernel
theorem dX8_skipBlanks_30 : decode cX8_skipBlanks 30 = .ok (.iload_n 2, 1) := by decide +kernel
theorem dX8_skipBlanks_31 : decode cX8_skipBlanks 31 = .ok (.invokevirtual 43, 3) := by decide +kernel
theorem dX8_skipBlanks_34 : decode cX8_skipBlanks 34 = .ok (.bipush 10, 2) := by decide +kernel
theorem dX8_skipBlanks_36 : decode cX8_skipBlanks 36 = .ok (.if_icmp .ne 9, 3) := by decide +kernel
theorem dX8_skipBlanks_39 : decode cX8_skipBlanks 39 = .ok (.iinc 2 1, 3) := by decide +kernel
theorem dX8_skipBlanks_42 : decode cX8_skipBlanks 42 = .ok (.goto (-40), 3) := by decide +kernel
theorem dX8_skipBlanks_45 : decode cX8_skipBlanks 45 = .ok (.iload_n 2, 1) := by decide +kernel
theorem dX8_skipBlanks_46 : decode cX8_skipBlanks 46 = .ok (.ireturn, 1) := by decide +kernel
end
section
theorem dX9_add_0 : decode cX9_add 0 = .ok (.aload_n 0, 1) := by decide +kernel
theorem dX9_add_1 : decode cX9_add 1 = .ok (.getfield 39, 3) := by decide +kernel
theorem dX9_add_4 : decode cX9_add 4 = .ok (.ifCond .lt 12, 3) := by decide +kernel
theorem dX9_add_7 : decode cX9_add 7 = .ok (.aload_n 0, 1) := by decide +kernel
theorem dX9_add_8 : decode cX9_add 8 = .ok (.getfield 39, 3) := by decide +kernel
theorem dX9_add_11 : decode cX9_add 11 = .ok (.bipush 40, 2) := by decide +kernel
theorem dX9_add_13 : decode cX9_add 13 = .ok (.if_icmp .lt 5, 3) := by decide +kernel
theorem dX9_add_16 : decode cX9_add 16 = .ok (.iconst (-1), 1) := by decide +kernel
theorem dX9_add_17 : decode cX9_add 17 = .ok (.ireturn, 1) := by decide +kernel
theorem dX9_add_18 : decode cX9_add 18 = .ok (.aload_n 0, 1) := by decide +kernel
theorem dX9_add_19 : decode cX9_add 19 = .ok (.getfield 39, 3) := by decide +kernel
theorem dX9_add_22 : decode cX9_add 22 = .ok (.istore 5, 2) := by decide +kernel
theorem dX9_add_24 : decode cX9_add 24 = .ok (.aload_n 0, 1) := by decide +kernel
theorem dX9_add_25 : decode cX9_add 25 = .ok (.getfield 9, 3) := by decide +kernel
theorem dX9_add_28 : decode cX9_add 28 = .ok (.iload 5, 2) := by decide +kernel
theorem dX9_add_30 : decode cX9_add 30 = .ok (.iload_n 1, 1) := by decide +kernel
theorem dX9_add_31 : decode cX9_add 31 = .ok (.iastore, 1) := by decide +kernel
theorem dX9_add_32 : decode cX9_add 32 = .ok (.aload_n 0, 1) := by decide +kernel
theorem dX9_add_33 : decode cX9_add 33 = .ok (.getfield 18, 3) := by decide +kernel
theorem dX9_add_36 : decode cX9_add 36 = .ok (.iload 5, 2) := by decide +kernel
theorem dX9_add_38 : decode cX9_add 38 = .ok (.iload_n 2, 1) := by decide +kernel
theorem dX9_add_39 : decode cX9_add 39 = .ok (.iastore, 1) := by decide +kernel
theorem dX9_add_40 : decode cX9_add 40 = .ok (.aload_n 0, 1) := by decide +kernel
theorem dX9_add_41 : decode cX9_add 41 = .ok (.getfield 15, 3) := by decide +kernel
theorem dX9_add_44 : decode cX9_add 44 = .ok (.iload 5, 2) := by decide +kernel
theorem dX9_add_46 : decode cX9_add 46 = .ok (.iload_n 3, 1) := by decide +kernel
theorem dX9_add_47 : decode cX9_add 47 = .ok (.iastore, 1) := by decide +kernel
theorem dX9_add_48 : decode cX9_add 48 = .ok (.aload_n 0, 1) := by decide +kernel
theorem dX9_add_49 : decode cX9_add 49 = .ok (.getfield 21, 3) := by decide +kernel
theorem dX9_add_52 : decode cX9_add 52 = .ok (.iload 5, 2) := by decide +kernel
theorem dX9_add_54 : decode cX9_add 54 = .ok (.iload 4, 2) := by decide +kernel
theorem dX9_add_56 : decode cX9_add 56 = .ok (.iastore, 1) := by decide +kernel
theorem dX9_add_57 : decode cX9_add 57 = .ok (.aload_n 0, 1) := by decide +kernel
theorem dX9_add_58 : decode cX9_add 58 = .ok (.getfield 24, 3) := by decide +kernel
theorem dX9_add_61 : decode cX9_add 61 = .ok (.iload 5, 2) := by decide +kernel
theorem dX9_add_63 : decode cX9_add 63 = .ok (.iconst 0, 1) := by decide +kernel
theorem dX9_add_64 : decode cX9_add 64 = .ok (.iastore, 1) := by decide +kernel
theorem dX9_add_65 : decode cX9_add 65 = .ok (.aload_n 0, 1) := by decide +kernel
theorem dX9_add_66 : decode cX9_add 66 = .ok (.getfield 27, 3) := by decide +kernel
theorem dX9_add_69 : decode cX9_add 69 = .ok (.iload 5, 2) := by decide +kernel
theorem dX9_add_71 : decode cX9_add 71 = .ok (.iconst (-1), 1) := by decide +kernel
theorem dX9_add_72 : decode cX9_add 72 = .ok (.iastore, 1) := by decide +kernel
theorem dX9_add_73 : decode cX9_add 73 = .ok (.aload_n 0, 1) := by decide +kernel
theorem dX9_add_74 : decode cX9_add 74 = .ok (.getfield 30, 3) := by decide +kernel
theorem dX9_add_77 : decode cX9_add 77 = .ok (.iload 5, 2) := by decide +kernel
theorem dX9_add_79 : decode cX9_add 79 = .ok (.iconst (-1), 1) := by decide +kernel
theorem dX9_add_80 : decode cX9_add 80 = .ok (.iastore, 1) := by decide +kernel
theorem dX9_add_81 : decode cX9_add 81 = .ok (.aload_n 0, 1) := by decide +kernel
theorem dX9_add_82 : decode cX9_add 82 = .ok (.getfield 33, 3) := by decide +kernel
theorem dX9_add_85 : decode cX9_add 85 = .ok (.iload 5, 2) := by decide +kernel
theorem dX9_add_87 : decode cX9_add 87 = .ok (.iconst (-1), 1) := by decide +kernel
theorem dX9_add_88 : decode cX9_add 88 = .ok (.iastore, 1) := by decide +kernel
theorem dX9_add_89 : decode cX9_add 89 = .ok (.aload_n 0, 1) := by decide +kernel
theorem dX9_add_90 : decode cX9_add 90 = .ok (.getfield 36, 3) := by decide +kernel
theorem dX9_add_93 : decode cX9_add 93 = .ok (.iload 5, 2) := by decide +kernel
theorem dX9_add_95 : decode cX9_add 95 = .ok (.iconst 0, 1) := by decide +kernel
theorem dX9_add_96 : decode cX9_add 96 = .ok (.iastore, 1) := by decide +kernel
theorem dX9_add_97 : decode cX9_add 97 = .ok (.aload_n 0, 1) := by decide +kernel
theorem dX9_add_98 : decode cX9_add 98 = .ok (.dup, 1) := by decide +kernel
theorem dX9_add_99 : decode cX9_add 99 = .ok (.getfield 39, 3) := by decide +kernel
theorem dX9_add_102 : decode cX9_add 102 = .ok (.iconst 1, 1) := by decide +kernel
theorem dX9_add_103 : decode cX9_add 103 = .ok (.iadd, 1) := by decide +kernel
theorem dX9_add_104 : decode cX9_add 104 = .ok (.putfield 39, 3) := by decide +kernel
theorem dX9_add_107 : decode cX9_add 107 = .ok (.iload 5, 2) := by decide +kernel
theorem dX9_add_109 : decode cX9_add 109 = .ok (.ireturn, 1) := by decide +kernel
theorem dX9_countIn_0 : decode cX9_countIn 0 = .ok (.iconst 0, 1) := by decide +kernel
theorem dX9_countIn_1 : decode cX9_countIn 1 = .ok (.istore_n 2, 1) := by decide +kernel
theorem dX9_countIn_2 : decode cX9_countIn 2 = .ok (.iconst 0, 1) := by decide +kernel
theorem dX9_countIn_3 : decode cX9_countIn 3 = .ok (.istore_n 3, 1) := by decide +kernel
theorem dX9_countIn_4 : decode cX9_countIn 4 = .ok (.iload_n 3, 1) := by decide +kernel
theorem dX9_countIn_5 : decode cX9_countIn 5 = .ok (.aload_n 0, 1) := by decide +kernel
theorem dX9_countIn_6 : decode cX9_countIn 6 = .ok (.getfield 39, 3) := by decide +kernel
theorem dX9_countIn_9 : decode cX9_countIn 9 = .ok (.if_icmp .ge 22, 3) := by decide +kernel
theorem dX9_countIn_12 : decode cX9_countIn 12 = .ok (.aload_n 0, 1) := by decide +kernel
theorem dX9_countIn_13 : decode cX9_countIn 13 = .ok (.getfield 24, 3) := by decide +kernel
theorem dX9_countIn_16 : decode cX9_countIn 16 = .ok (.iload_n 3, 1) := by decide +kernel
theorem dX9_countIn_17 : decode cX9_countIn 17 = .ok (.iaload, 1) := by decide +kernel
theorem dX9_countIn_18 : decode cX9_countIn 18 = .ok (.iload_n 1, 1) := by decide +kernel
theorem dX9_countIn_19 : decode cX9_countIn 19 = .ok (.if_icmp .ne 6, 3) := by decide +kernel
theorem dX9_countIn_22 : decode cX9_countIn 22 = .ok (.iinc 2 1, 3) := by decide +kernel
theorem dX9_countIn_25 : decode cX9_countIn 25 = .ok (.iinc 3 1, 3) := by decide +kernel
theorem dX9_countIn_28 : decode cX9_countIn 28 = .ok (.goto (-24), 3) := by decide +kernel
theorem dX9_countIn_31 : decode cX9_countIn 31 = .ok (.iload_n 2, 1) := by decide +kernel
theorem dX9_countIn_32 : decode cX9_countIn 32 = .ok (.ireturn, 1) := by decide +kernel
theorem dX9_has_0 : decode cX9_has 0 = .ok (.iload_n 1, 1) := by decide +kernel
theorem dX9_has_1 : decode cX9_has 1 = .ok (.ifCond .lt 15, 3) := by decide +kernel
theorem dX9_has_4 : decode cX9_has 4 = .ok (.iload_n 1, 1) := by decide +kernel
theorem dX9_has_5 : decode cX9_has 5 = .ok (.aload_n 0, 1) := by decide +kernel
theorem dX9_has_6 : decode cX9_has 6 = .ok (.getfield 39, 3) := by decide +kernel
theorem dX9_has_9 : decode cX9_has 9 = .ok (.if_icmp .ge 7, 3) := by decide +kernel
theorem dX9_has_12 : decode cX9_has 12 = .ok (.iconst 1, 1) := by decide +kernel
theorem dX9_has_13 : decode cX9_has 13 = .ok (.goto 4, 3) := by decide +kernel
theorem dX9_has_16 : decode cX9_has 16 = .ok (.iconst 0, 1) := by decide +kernel
theorem dX9_has_17 : decode cX9_has 17 = .ok (.ireturn, 1) := by decide +kernel
theorem dX9_landOf_0 : decode cX9_landOf 0 = .ok (.iload_n 2, 1) := by decide +kernel
theorem dX9_landOf_1 : decode cX9_landOf 1 = .ok (.ifCond .lt 13, 3) := by decide +kernel
theorem dX9_landOf_4 : decode cX9_landOf 4 = .ok (.iload_n 2, 1) := by decide +kernel
theorem dX9_landOf_5 : decode cX9_landOf 5 = .ok (.aload_n 0, 1) := by decide +kernel
theorem dX9_landOf_6 : decode cX9_landOf 6 = .ok (.getfield 15, 3) := by decide +kernel
theorem dX9_landOf_9 : decode cX9_landOf 9 = .ok (.iload_n 1, 1) := by decide +kernel
theorem dX9_landOf_10 : decode cX9_landOf 10 = .ok (.iaload, 1) := by decide +kernel
theorem dX9_landOf_11 : decode cX9_landOf 11 = .ok (.if_icmp .lt 5, 3) := by decide +kernel
theorem dX9_landOf_14 : decode cX9_landOf 14 = .ok (.iconst (-1), 1) := by decide +kernel
theorem dX9_landOf_15 : decode cX9_landOf 15 = .ok (.ireturn, 1) := by decide +kernel
theorem dX9_landOf_16 : decode cX9_landOf 16 = .ok (.aload_n 0, 1) := by decide +kernel
theorem dX9_landOf_17 : decode cX9_landOf 17 = .ok (.getfield 18, 3) := by decide +kernel
theorem dX9_landOf_20 : decode cX9_landOf 20 = .ok (.iload_n 1, 1) := by decide +kernel
theorem dX9_landOf_21 : decode cX9_landOf 21 = .ok (.iaload, 1) := by decide +kernel
theorem dX9_landOf_22 : decode cX9_landOf 22 = .ok (.istore_n 3, 1) := by decide +kernel
theorem dX9_landOf_23 : decode cX9_landOf 23 = .ok (.iconst 0, 1) := by decide +kernel
theorem dX9_landOf_24 : decode cX9_landOf 24 = .ok (.istore 4, 2) := by decide +kernel
theorem dX9_landOf_26 : decode cX9_landOf 26 = .ok (.iload 4, 2) := by decide +kernel
theorem dX9_landOf_28 : decode cX9_landOf 28 = .ok (.iload_n 2, 1) := by decide +kernel
theorem dX9_landOf_29 : decode cX9_landOf 29 = .ok (.if_icmp .ge 14, 3) := by decide +kernel
theorem dX9_landOf_32 : decode cX9_landOf 32 = .ok (.iload_n 3, 1) := by decide +kernel
theorem dX9_landOf_33 : decode cX9_landOf 33 = .ok (.bipush 10, 2) := by decide +kernel
theorem dX9_landOf_35 : decode cX9_landOf 35 = .ok (.idiv, 1) := by decide +kernel
theorem dX9_landOf_36 : decode cX9_landOf 36 = .ok (.istore_n 3, 1) := by decide +kernel
theorem dX9_landOf_37 : decode cX9_landOf 37 = .ok (.iinc 4 1, 3) := by decide +kernel
theorem dX9_landOf_40 : decode cX9_landOf 40 = .ok (.goto (-14), 3) := by decide +kernel
theorem dX9_landOf_43 : decode cX9_landOf 43 = .ok (.iload_n 3, 1) := by decide +kernel
theorem dX9_landOf_44 : decode cX9_landOf 44 = .ok (.bipush 10, 2) := by decide +kernel
theorem dX9_landOf_46 : decode cX9_landOf 46 = .ok (.irem, 1) := by decide +kernel
theorem dX9_landOf_47 : decode cX9_landOf 47 = .ok (.ireturn, 1) := by decide +kernel
end
section
theorem dX10_ask_0 : decode cX10_ask 0 = .ok (.aload_n 0, 1) := by decide +kernel
theorem dX10_ask_1 : decode cX10_ask 1 = .ok (.getfield 40, 3) := by decide +kernel
theorem dX10_ask_4 : decode cX10_ask 4 = .ok (.getfield 93, 3) := by decide +kernel
theorem dX10_ask_7 : decode cX10_ask 7 = .ok (.iload_n 1, 1) := by decide +kernel
theorem dX10_ask_8 : decode cX10_ask 8 = .ok (.invokevirtual 172, 3) := by decide +kernel
theorem dX10_ask_11 : decode cX10_ask 11 = .ok (.ifCond .eq 18, 3) := by decide +kernel
theorem dX10_ask_14 : decode cX10_ask 14 = .ok (.iload_n 3, 1) := by decide +kernel
theorem dX10_ask_15 : decode cX10_ask 15 = .ok (.iconst 2, 1) := by decide +kernel
theorem dX10_ask_16 : decode cX10_ask 16 = .ok (.if_icmp .lt 13, 3) := by decide +kernel
theorem dX10_ask_19 : decode cX10_ask 19 = .ok (.iload_n 3, 1) := by decide +kernel
theorem dX10_ask_20 : decode cX10_ask 20 = .ok (.bipush 6, 2) := by decide +kernel
theorem dX10_ask_22 : decode cX10_ask 22 = .ok (.if_icmp .gt 7, 3) := by decide +kernel
theorem dX10_ask_25 : decode cX10_ask 25 = .ok (.iload_n 2, 1) := by decide +kernel
theorem dX10_ask_26 : decode cX10_ask 26 = .ok (.ifCond .ge 5, 3) := by decide +kernel
theorem dX10_ask_29 : decode cX10_ask 29 = .ok (.iconst (-1), 1) := by decide +kernel
theorem dX10_ask_30 : decode cX10_ask 30 = .ok (.ireturn, 1) := by decide +kernel
theorem dX10_ask_31 : decode cX10_ask 31 = .ok (.aload_n 0, 1) := by decide +kernel
theorem dX10_ask_32 : decode cX10_ask 32 = .ok (.getfield 40, 3) := by decide +kernel
theorem dX10_ask_35 : decode cX10_ask 35 = .ok (.getfield 77, 3) := by decide +kernel
theorem dX10_ask_38 : decode cX10_ask 38 = .ok (.aload_n 0, 1) := by decide +kernel
theorem dX10_ask_39 : decode cX10_ask 39 = .ok (.getfield 40, 3) := by decide +kernel
theorem dX10_ask_42 : decode cX10_ask 42 = .ok (.getfield 93, 3) := by decide +kernel
theorem dX10_ask_45 : decode cX10_ask 45 = .ok (.getfield 180, 3) := by decide +kernel
theorem dX10_ask_48 : decode cX10_ask 48 = .ok (.iload_n 1, 1) := by decide +kernel
theorem dX10_ask_49 : decode cX10_ask 49 = .ok (.iaload, 1) := by decide +kernel
theorem dX10_ask_50 : decode cX10_ask 50 = .ok (.iload_n 2, 1) := by decide +kernel
theorem dX10_ask_51 : decode cX10_ask 51 = .ok (.iload_n 3, 1) := by decide +kernel
theorem dX10_ask_52 : decode cX10_ask 52 = .ok (.invokevirtual 263, 3) := by decide +kernel
theorem dX10_ask_55 : decode cX10_ask 55 = .ok (.istore 4, 2) := by decide +kernel
theorem dX10_ask_57 : decode cX10_ask 57 = .ok (.iload 4, 2) := by decide +kernel
theorem dX10_ask_59 : decode cX10_ask 59 = .ok (.ifCond .ne 5, 3) := by decide +kernel
theorem dX10_ask_62 : decode cX10_ask 62 = .ok (.iconst (-1), 1) := by decide +kernel
theorem dX10_ask_63 : decode cX10_ask 63 = .ok (.ireturn, 1) := by decide +kernel
theorem dX10_ask_64 : decode cX10_ask 64 = .ok (.aload_n 0, 1) := by decide +kernel
theorem dX10_ask_65 : decode cX10_ask 65 = .ok (.getfield 40, 3) := by decide +kernel
theorem dX10_ask_68 : decode cX10_ask 68 = .ok (.getfield 93, 3) := by decide +kernel
theorem dX10_ask_71 : decode cX10_ask 71 = .ok (.getfield 184, 3) := by decide +kernel
theorem dX10_ask_74 : decode cX10_ask 74 = .ok (.iload_n 1, 1) := by decide +kernel
theorem dX10_ask_75 : decode cX10_ask 75 = .ok (.iaload, 1) := by decide +kernel
theorem dX10_ask_76 : decode cX10_ask 76 = .ok (.iconst (-1), 1) := by decide +kernel
theorem dX10_ask_77 : decode cX10_ask 77 = .ok (.if_icmp .eq 6, 3) := by decide +kernel
theorem dX10_ask_80 : decode cX10_ask 80 = .ok (.bipush (-2), 2) := by decide +kernel
theorem dX10_ask_82 : decode cX10_ask 82 = .ok (.ireturn, 1) := by decide +kernel
theorem dX10_ask_83 : decode cX10_ask 83 = .ok (.aload_n 0, 1) := by decide +kernel
theorem dX10_ask_84 : decode cX10_ask 84 = .ok (.getfield 40, 3) := by decide +kernel
theorem dX10_ask_87 : decode cX10_ask 87 = .ok (.getfield 100, 3) := by decide +kernel
theorem dX10_ask_90 : decode cX10_ask 90 = .ok (.getfield 104, 3) := by decide +kernel
theorem dX10_ask_93 : decode cX10_ask 93 = .ok (.bipush 40, 2) := by decide +kernel
theorem dX10_ask_95 : decode cX10_ask 95 = .ok (.if_icmp .lt 6, 3) := by decide +kernel
theorem dX10_ask_98 : decode cX10_ask 98 = .ok (.bipush (-3), 2) := by decide +kernel
theorem dX10_ask_100 : decode cX10_ask 100 = .ok (.ireturn, 1) := by decide +kernel
theorem dX10_ask_101 : decode cX10_ask 101 = .ok (.aload_n 0, 1) := by decide +kernel
theorem dX10_ask_102 : decode cX10_ask 102 = .ok (.getfield 40, 3) := by decide +kernel
theorem dX10_ask_105 : decode cX10_ask 105 = .ok (.getfield 100, 3) := by decide +kernel
theorem dX10_ask_108 : decode cX10_ask 108 = .ok (.iload_n 1, 1) := by decide +kernel
theorem dX10_ask_109 : decode cX10_ask 109 = .ok (.iload_n 2, 1) := by decide +kernel
theorem dX10_ask_110 : decode cX10_ask 110 = .ok (.iload_n 3, 1) := by decide +kernel
theorem dX10_ask_111 : decode cX10_ask 111 = .ok (.iload 4, 2) := by decide +kernel
theorem dX10_ask_113 : decode cX10_ask 113 = .ok (.invokevirtual 266, 3) := by decide +kernel
theorem dX10_ask_116 : decode cX10_ask 116 = .ok (.istore 5, 2) := by decide +kernel
theorem dX10_ask_118 : decode cX10_ask 118 = .ok (.aload_n 0, 1) := by decide +kernel
theorem dX10_ask_119 : decode cX10_ask 119 = .ok (.getfield 40, 3) := by decide +kernel
theorem dX10_ask_122 : decode cX10_ask 122 = .ok (.getfield 93, 3) := by decide +kernel
theorem dX10_ask_125 : decode cX10_ask 125 = .ok (.getfield 184, 3) := by decide +kernel
theorem dX10_ask_128 : decode cX10_ask 128 = .ok (.iload_n 1, 1) := by decide +kernel
theorem dX10_ask_129 : decode cX10_ask 129 = .ok (.iload 5, 2) := by decide +kernel
theorem dX10_ask_131 : decode cX10_ask 131 = .ok (.iastore, 1) := by decide +kernel
theorem dX10_ask_132 : decode cX10_ask 132 = .ok (.aload_n 0, 1) := by decide +kernel
theorem dX10_ask_133 : decode cX10_ask 133 = .ok (.getfield 40, 3) := by decide +kernel
theorem dX10_ask_136 : decode cX10_ask 136 = .ok (.getfield 118, 3) := by decide +kernel
theorem dX10_ask_139 : decode cX10_ask 139 = .ok (.iconst 0, 1) := by decide +kernel
theorem dX10_ask_140 : decode cX10_ask 140 = .ok (.iload_n 1, 1) := by decide +kernel
theorem dX10_ask_141 : decode cX10_ask 141 = .ok (.iconst 0, 1) := by decide +kernel
theorem dX10_ask_142 : decode cX10_ask 142 = .ok (.invokevirtual 270, 3) := by decide +kernel
theorem dX10_ask_145 : decode cX10_ask 145 = .ok (.iload 5, 2) := by decide +kernel
theorem dX10_ask_147 : decode cX10_ask 147 = .ok (.ireturn, 1) := by decide +kernel
theorem dX10_assign_0 : decode cX10_assign 0 = .ok (.aload_n 0, 1) := by decide +kernel
theorem dX10_assign_1 : decode cX10_assign 1 = .ok (.getfield 33, 3) := by decide +kernel
theorem dX10_assign_4 : decode cX10_assign 4 = .ok (.aload_n 0, 1) := by decide +kernel
theorem dX10_assign_5 : decode cX10_assign 5 = .ok (.getfield 40, 3) := by decide +kernel
theorem dX10_assign_8 : decode cX10_assign 8 = .ok (.invokevirtual 225, 3) := by decide +kernel
theorem dX10_assign_11 : decode cX10_assign 11 = .ok (.aload_n 0, 1) := by decide +kernel
theorem dX10_assign_12 : decode cX10_assign 12 = .ok (.getfield 33, 3) := by decide +kernel
theorem dX10_assign_15 : decode cX10_assign 15 = .ok (.invokevirtual 229, 3) := by decide +kernel
theorem dX10_assign_18 : decode cX10_assign 18 = .ok (.iconst 0, 1) := by decide +kernel
theorem dX10_assign_19 : decode cX10_assign 19 = .ok (.istore_n 1, 1) := by decide +kernel
theorem dX10_assign_20 : decode cX10_assign 20 = .ok (.iconst 0, 1) := by decide +kernel
theorem dX10_assign_21 : decode cX10_assign 21 = .ok (.istore_n 2, 1) := by decide +kernel
theorem dX10_assign_22 : decode cX10_assign 22 = .ok (.iload_n 2, 1) := by decide +kernel
theorem dX10_assign_23 : decode cX10_assign 23 = .ok (.aload_n 0, 1) := by decide +kernel
theorem dX10_assign_24 : decode cX10_assign 24 = .ok (.getfield 33, 3) := by decide +kernel
theorem dX10_assign_27 : decode cX10_assign 27 = .ok (.getfield 246, 3) := by decide +kernel
theorem dX10_assign_30 : decode cX10_assign 30 = .ok (.if_icmp .ge 37, 3) := by decide +kernel
theorem dX10_assign_33 : decode cX10_assign 33 = .ok (.iload_n 1, 1) := by decide +kernel
theorem dX10_assign_34 : decode cX10_assign 34 = .ok (.aload_n 0, 1) := by decide +kernel
theorem dX10_assign_35 : decode cX10_assign 35 = .ok (.getfield 40, 3) := by decide +kernel
theorem dX10_assign_38 : decode cX10_assign 38 = .ok (.aload_n 0, 1) := by decide +kernel
theorem dX10_assign_39 : decode cX10_assign 39 = .ok (.getfield 33, 3) := by decide +kernel
theorem dX10_assign_42 : decode cX10_assign 42 = .ok (.getfield 277, 3) := by decide +kernel
theorem dX10_assign_45 : decode cX10_assign 45 = .ok (.iload_n 2, 1) := by decide +kernel
theorem dX10_assign_46 : decode cX10_assign 46 = .ok (.iaload, 1) := by decide +kernel
theorem dX10_assign_47 : decode cX10_assign 47 = .ok (.aload_n 0, 1) := by decide +kernel
theorem dX10_assign_48 : decode cX10_assign 48 = .ok (.getfield 33, 3) := by decide +kernel
theorem dX10_assign_51 : decode cX10_assign 51 = .ok (.getfield 279, 3) := by decide +kernel
theorem dX10_assign_54 : decode cX10_assign 54 = .ok (.iload_n 2, 1) := by decide +kernel
theorem dX10_assign_55 : decode cX10_assign 55 = .ok (.iaload, 1) := by decide +kernel
theorem dX10_assign_56 : decode cX10_assign 56 = .ok (.invokevirtual 282, 3) := by decide +kernel
theorem dX10_assign_59 : decode cX10_assign 59 = .ok (.ior, 1) := by decide +kernel
theorem dX10_assign_60 : decode cX10_assign 60 = .ok (.istore_n 1, 1) := by decide +kernel
theorem dX10_assign_61 : decode cX10_assign 61 = .ok (.iinc 2 1, 3) := by decide +kernel
theorem dX10_assign_64 : decode cX10_assign 64 = .ok (.goto (-42), 3) := by decide +kernel
theorem dX10_assign_67 : decode cX10_assign 67 = .ok (.aload_n 0, 1) := by decide +kernel
theorem dX10_assign_68 : decode cX10_assign 68 = .ok (.getfield 40, 3) := by decide +kernel
theorem dX10_assign_71 : decode cX10_assign 71 = .ok (.getfield 118, 3) := by decide +kernel
theorem dX10_assign_74 : decode cX10_assign 74 = .ok (.iconst 1, 1) := by decide +kernel
theorem dX10_assign_75 : decode cX10_assign 75 = .ok (.iconst (-1), 1) := by decide +kernel
theorem dX10_assign_76 : decode cX10_assign 76 = .ok (.iload_n 1, 1) := by decide +kernel
theorem dX10_assign_77 : decode cX10_assign 77 = .ok (.invokevirtual 270, 3) := by decide +kernel
theorem dX10_assign_80 : decode cX10_assign 80 = .ok (.aload_n 0, 1) := by decide +kernel
theorem dX10_assign_81 : decode cX10_assign 81 = .ok (.getfield 33, 3) := by decide +kernel
theorem dX10_assign_84 : decode cX10_assign 84 = .ok (.getfield 232, 3) := by decide +kernel
theorem dX10_assign_87 : decode cX10_assign 87 = .ok (.ireturn, 1) := by decide +kernel
theorem dX10_drop_0 : decode cX10_drop 0 = .ok (.aload_n 0, 1) := by decide +kernel
theorem dX10_drop_1 : decode cX10_drop 1 = .ok (.getfield 40, 3) := by decide +kernel
theorem dX10_drop_4 : decode cX10_drop 4 = .ok (.getfield 100, 3) := by decide +kernel
theorem dX10_drop_7 : decode cX10_drop 7 = .ok (.iload_n 1, 1) := by decide +kernel
theorem dX10_drop_8 : decode cX10_drop 8 = .ok (.invokevirtual 195, 3) := by decide +kernel
theorem dX10_drop_11 : decode cX10_drop 11 = .ok (.ifCond .eq 18, 3) := by decide +kernel
theorem dX10_drop_14 : decode cX10_drop 14 = .ok (.aload_n 0, 1) := by decide +kernel
theorem dX10_drop_15 : decode cX10_drop 15 = .ok (.getfield 40, 3) := by decide +kernel
theorem dX10_drop_18 : decode cX10_drop 18 = .ok (.getfield 100, 3) := by decide +kernel
theorem dX10_drop_21 : decode cX10_drop 21 = .ok (.getfield 202, 3) := by decide +kernel
theorem dX10_drop_24 : decode cX10_drop 24 = .ok (.iload_n 1, 1) := by decide +kernel
theorem dX10_drop_25 : decode cX10_drop 25 = .ok (.iaload, 1) := by decide +kernel
theorem dX10_drop_26 : decode cX10_drop 26 = .ok (.ifCond .eq 5, 3) := by decide +kernel
theorem dX10_drop_29 : decode cX10_drop 29 = .ok (.iconst 0, 1) := by decide +kernel
theorem dX10_drop_30 : decode cX10_drop 30 = .ok (.ireturn, 1) := by decide +kernel
theorem dX10_drop_31 : decode cX10_drop 31 = .ok (.aload_n 0, 1) := by decide +kernel
theorem dX10_drop_32 : decode cX10_drop 32 = .ok (.getfield 40, 3) := by decide +kernel
theorem dX10_drop_35 : decode cX10_drop 35 = .ok (.iload_n 1, 1) := by decide +kernel
theorem dX10_drop_36 : decode cX10_drop 36 = .ok (.invokevirtual 274, 3) := by decide +kernel
theorem dX10_drop_39 : decode cX10_drop 39 = .ok (.aload_n 0, 1) := by decide +kernel
theorem dX10_drop_40 : decode cX10_drop 40 = .ok (.getfield 40, 3) := by decide +kernel
theorem dX10_drop_43 : decode cX10_drop 43 = .ok (.getfield 118, 3) := by decide +kernel
theorem dX10_drop_46 : decode cX10_drop 46 = .ok (.iconst 2, 1) := by decide +kernel
theorem dX10_drop_47 : decode cX10_drop 47 = .ok (.iload_n 1, 1) := by decide +kernel
theorem dX10_drop_48 : decode cX10_drop 48 = .ok (.iconst 0, 1) := by decide +kernel
theorem dX10_drop_49 : decode cX10_drop 49 = .ok (.invokevirtual 270, 3) := by decide +kernel
theorem dX10_drop_52 : decode cX10_drop 52 = .ok (.iconst 1, 1) := by decide +kernel
theorem dX10_drop_53 : decode cX10_drop 53 = .ok (.ireturn, 1) := by decide +kernel
theorem dX10_end_0 : decode cX10_end 0 = .ok (.iload_n 1, 1) := by decide +kernel
theorem dX10_end_1 : decode cX10_end 1 = .ok (.ifCond .lt 14, 3) := by decide +kernel
theorem dX10_end_4 : decode cX10_end 4 = .ok (.iload_n 1, 1) := by decide +kernel
theorem dX10_end_5 : decode cX10_end 5 = .ok (.aload_n 0, 1) := by decide +kernel
theorem dX10_end_6 : decode cX10_end 6 = .ok (.getfield 10, 3) := by decide +kernel
theorem dX10_end_9 : decode cX10_end 9 = .ok (.getfield 47, 3) := by decide +kernel
theorem dX10_end_12 : decode cX10_end 12 = .ok (.if_icmp .le 5, 3) := by decide +kernel
theorem dX10_end_15 : decode cX10_end 15 = .ok (.iconst 0, 1) := by decide +kernel
theorem dX10_end_16 : decode cX10_end 16 = .ok (.ireturn, 1) := by decide +kernel
theorem dX10_end_17 : decode cX10_end 17 = .ok (.aload_n 0, 1) := by decide +kernel
theorem dX10_end_18 : decode cX10_end 18 = .ok (.getfield 10, 3) := by decide +kernel
theorem dX10_end_21 : decode cX10_end 21 = .ok (.iload_n 1, 1) := by decide +kernel
theorem dX10_end_22 : decode cX10_end 22 = .ok (.putfield 47, 3) := by decide +kernel
theorem dX10_end_25 : decode cX10_end 25 = .ok (.iconst 1, 1) := by decide +kernel
theorem dX10_end_26 : decode cX10_end 26 = .ok (.ireturn, 1) := by decide +kernel
theorem dX10_fault_0 : decode cX10_fault 0 = .ok (.aload_n 0, 1) := by decide +kernel
theorem dX10_fault_1 : decode cX10_fault 1 = .ok (.getfield 65, 3) := by decide +kernel
theorem dX10_fault_4 : decode cX10_fault 4 = .ok (.ireturn, 1) := by decide +kernel
theorem dX10_feed_0 : decode cX10_feed 0 = .ok (.aload_n 0, 1) := by decide +kernel
theorem dX10_feed_1 : decode cX10_feed 1 = .ok (.getfield 10, 3) := by decide +kernel
theorem dX10_feed_4 : decode cX10_feed 4 = .ok (.getfield 47, 3) := by decide +kernel
theorem dX10_feed_7 : decode cX10_feed 7 = .ok (.bipush 20, 2) := by decide +kernel
theorem dX10_feed_9 : decode cX10_feed 9 = .ok (.iadd, 1) := by decide +kernel
theorem dX10_feed_10 : decode cX10_feed 10 = .ok (.sipush 740, 3) := by decide +kernel
theorem dX10_feed_13 : decode cX10_feed 13 = .ok (.if_icmp .le 5, 3) := by decide +kernel
theorem dX10_feed_16 : decode cX10_feed 16 = .ok (.iconst (-1), 1) := by decide +kernel
theorem dX10_feed_17 : decode cX10_feed 17 = .ok (.ireturn, 1) := by decide +kernel
theorem dX10_feed_18 : decode cX10_feed 18 = .ok (.aload_n 0, 1) := by decide +kernel
theorem dX10_feed_19 : decode cX10_feed 19 = .ok (.getfield 10, 3) := by decide +kernel
theorem dX10_feed_22 : decode cX10_feed 22 = .ok (.iload_n 1, 1) := by decide +kernel
theorem dX10_feed_23 : decode cX10_feed 23 = .ok (.invokevirtual 51, 3) := by decide +kernel
theorem dX10_feed_26 : decode cX10_feed 26 = .ok (.aload_n 0, 1) := by decide +kernel
theorem dX10_feed_27 : decode cX10_feed 27 = .ok (.getfield 10, 3) := by decide +kernel
theorem dX10_feed_30 : decode cX10_feed 30 = .ok (.iload_n 2, 1) := by decide +kernel
theorem dX10_feed_31 : decode cX10_feed 31 = .ok (.invokevirtual 51, 3) := by decide +kernel
theorem dX10_feed_34 : decode cX10_feed 34 = .ok (.aload_n 0, 1) := by decide +kernel
theorem dX10_feed_35 : decode cX10_feed 35 = .ok (.getfield 10, 3) := by decide +kernel
theorem dX10_feed_38 : decode cX10_feed 38 = .ok (.iload_n 3, 1) := by decide +kernel
theorem dX10_feed_39 : decode cX10_feed 39 = .ok (.invokevirtual 51, 3) := by decide +kernel
theorem dX10_feed_42 : decode cX10_feed 42 = .ok (.aload_n 0, 1) := by decide +kernel
theorem dX10_feed_43 : decode cX10_feed 43 = .ok (.getfield 10, 3) := by decide +kernel
theorem dX10_feed_46 : decode cX10_feed 46 = .ok (.iload 4, 2) := by decide +kernel
theorem dX10_feed_48 : decode cX10_feed 48 = .ok (.invokevirtual 51, 3) := by decide +kernel
theorem dX10_feed_51 : decode cX10_feed 51 = .ok (.aload_n 0, 1) := by decide +kernel
theorem dX10_feed_52 : decode cX10_feed 52 = .ok (.getfield 10, 3) := by decide +kernel
theorem dX10_feed_55 : decode cX10_feed 55 = .ok (.iload 5, 2) := by decide +kernel
theorem dX10_feed_57 : decode cX10_feed 57 = .ok (.invokevirtual 51, 3) := by decide +kernel
theorem dX10_feed_60 : decode cX10_feed 60 = .ok (.aload_n 0, 1) := by decide +kernel
theorem dX10_feed_61 : decode cX10_feed 61 = .ok (.getfield 10, 3) := by decide +kernel
theorem dX10_feed_64 : decode cX10_feed 64 = .ok (.getfield 47, 3) := by decide +kernel
theorem dX10_feed_67 : decode cX10_feed 67 = .ok (.ireturn, 1) := by decide +kernel
theorem dX10_fits_0 : decode cX10_fits 0 = .ok (.aload_n 0, 1) := by decide +kernel
theorem dX10_fits_1 : decode cX10_fits 1 = .ok (.getfield 40, 3) := by decide +kernel
theorem dX10_fits_4 : decode cX10_fits 4 = .ok (.iload_n 1, 1) := by decide +kernel
theorem dX10_fits_5 : decode cX10_fits 5 = .ok (.iload_n 2, 1) := by decide +kernel
theorem dX10_fits_6 : decode cX10_fits 6 = .ok (.invokevirtual 221, 3) := by decide +kernel
theorem dX10_fits_9 : decode cX10_fits 9 = .ok (.ireturn, 1) := by decide +kernel
theorem dX10_free_0 : decode cX10_free 0 = .ok (.aload_n 0, 1) := by decide +kernel
theorem dX10_free_1 : decode cX10_free 1 = .ok (.getfield 40, 3) := by decide +kernel
theorem dX10_free_4 : decode cX10_free 4 = .ok (.getfield 77, 3) := by decide +kernel
theorem dX10_free_7 : decode cX10_free 7 = .ok (.iload_n 1, 1) := by decide +kernel
theorem dX10_free_8 : decode cX10_free 8 = .ok (.invokevirtual 249, 3) := by decide +kernel
theorem dX10_free_11 : decode cX10_free 11 = .ok (.ifCond .eq 14, 3) := by decide +kernel
theorem dX10_free_14 : decode cX10_free 14 = .ok (.iload_n 2, 1) := by decide +kernel
theorem dX10_free_15 : decode cX10_free 15 = .ok (.iconst 1, 1) := by decide +kernel
theorem dX10_free_16 : decode cX10_free 16 = .ok (.if_icmp .lt 9, 3) := by decide +kernel
theorem dX10_free_19 : decode cX10_free 19 = .ok (.iload_n 2, 1) := by decide +kernel
theorem dX10_free_20 : decode cX10_free 20 = .ok (.bipush 6, 2) := by decide +kernel
theorem dX10_free_22 : decode cX10_free 22 = .ok (.if_icmp .le 5, 3) := by decide +kernel
theorem dX10_free_25 : decode cX10_free 25 = .ok (.iconst (-1), 1) := by decide +kernel
theorem dX10_free_26 : decode cX10_free 26 = .ok (.ireturn, 1) := by decide +kernel
theorem dX10_free_27 : decode cX10_free 27 = .ok (.aload_n 0, 1) := by decide +kernel
theorem dX10_free_28 : decode cX10_free 28 = .ok (.getfield 40, 3) := by decide +kernel
theorem dX10_free_31 : decode cX10_free 31 = .ok (.getfield 86, 3) := by decide +kernel
theorem dX10_free_34 : decode cX10_free 34 = .ok (.astore_n 3, 1) := by decide +kernel
theorem dX10_free_35 : decode cX10_free 35 = .ok (.iconst 0, 1) := by decide +kernel
theorem dX10_free_36 : decode cX10_free 36 = .ok (.istore 4, 2) := by decide +kernel
theorem dX10_free_38 : decode cX10_free 38 = .ok (.iconst 0, 1) := by decide +kernel
theorem dX10_free_39 : decode cX10_free 39 = .ok (.istore 5, 2) := by decide +kernel
theorem dX10_free_41 : decode cX10_free 41 = .ok (.iload 5, 2) := by decide +kernel
theorem dX10_free_43 : decode cX10_free 43 = .ok (.aload_n 3, 1) := by decide +kernel
theorem dX10_free_44 : decode cX10_free 44 = .ok (.getfield 90, 3) := by decide +kernel
theorem dX10_free_47 : decode cX10_free 47 = .ok (.if_icmp .ge 42, 3) := by decide +kernel
theorem dX10_free_50 : decode cX10_free 50 = .ok (.aload_n 3, 1) := by decide +kernel
theorem dX10_free_51 : decode cX10_free 51 = .ok (.iload 5, 2) := by decide +kernel
theorem dX10_free_53 : decode cX10_free 53 = .ok (.iconst 1, 1) := by decide +kernel
theorem dX10_free_54 : decode cX10_free 54 = .ok (.iload_n 1, 1) := by decide +kernel
theorem dX10_free_55 : decode cX10_free 55 = .ok (.ishl, 1) := by decide +kernel
theorem dX10_free_56 : decode cX10_free 56 = .ok (.invokevirtual 250, 3) := by decide +kernel
theorem dX10_free_59 : decode cX10_free 59 = .ok (.ifCond .eq 24, 3) := by decide +kernel
theorem dX10_free_62 : decode cX10_free 62 = .ok (.aload_n 3, 1) := by decide +kernel
theorem dX10_free_63 : decode cX10_free 63 = .ok (.iload 5, 2) := by decide +kernel
theorem dX10_free_65 : decode cX10_free 65 = .ok (.iload_n 2, 1) := by decide +kernel
theorem dX10_free_66 : decode cX10_free 66 = .ok (.invokevirtual 253, 3) := by decide +kernel
theorem dX10_free_69 : decode cX10_free 69 = .ok (.ifCond .eq 14, 3) := by decide +kernel
theorem dX10_free_72 : decode cX10_free 72 = .ok (.iload 4, 2) := by decide +kernel
theorem dX10_free_74 : decode cX10_free 74 = .ok (.aload_n 3, 1) := by decide +kernel
theorem dX10_free_75 : decode cX10_free 75 = .ok (.iload 5, 2) := by decide +kernel
theorem dX10_free_77 : decode cX10_free 77 = .ok (.invokevirtual 153, 3) := by decide +kernel
theorem dX10_free_80 : decode cX10_free 80 = .ok (.iadd, 1) := by decide +kernel
theorem dX10_free_81 : decode cX10_free 81 = .ok (.istore 4, 2) := by decide +kernel
theorem dX10_free_83 : decode cX10_free 83 = .ok (.iinc 5 1, 3) := by decide +kernel
theorem dX10_free_86 : decode cX10_free 86 = .ok (.goto (-45), 3) := by decide +kernel
theorem dX10_free_89 : decode cX10_free 89 = .ok (.iload 4, 2) := by decide +kernel
theorem dX10_free_91 : decode cX10_free 91 = .ok (.ireturn, 1) := by decide +kernel
theorem dX10_handBack_0 : decode cX10_handBack 0 = .ok (.aload_n 0, 1) := by decide +kernel
theorem dX10_handBack_1 : decode cX10_handBack 1 = .ok (.getfield 40, 3) := by decide +kernel
theorem dX10_handBack_4 : decode cX10_handBack 4 = .ok (.getfield 86, 3) := by decide +kernel
theorem dX10_handBack_7 : decode cX10_handBack 7 = .ok (.astore_n 3, 1) := by decide +kernel
theorem dX10_handBack_8 : decode cX10_handBack 8 = .ok (.aload_n 3, 1) := by decide +kernel
theorem dX10_handBack_9 : decode cX10_handBack 9 = .ok (.iload_n 1, 1) := by decide +kernel
theorem dX10_handBack_10 : decode cX10_handBack 10 = .ok (.invokevirtual 127, 3) := by decide +kernel
theorem dX10_handBack_13 : decode cX10_handBack 13 = .ok (.ifCond .eq 18, 3) := by decide +kernel
theorem dX10_handBack_16 : decode cX10_handBack 16 = .ok (.iload_n 2, 1) := by decide +kernel
theorem dX10_handBack_17 : decode cX10_handBack 17 = .ok (.iconst 1, 1) := by decide +kernel
theorem dX10_handBack_18 : decode cX10_handBack 18 = .ok (.if_icmp .lt 13, 3) := by decide +kernel
theorem dX10_handBack_21 : decode cX10_handBack 21 = .ok (.iload_n 2, 1) := by decide +kernel
theorem dX10_handBack_22 : decode cX10_handBack 22 = .ok (.aload_n 3, 1) := by decide +kernel
theorem dX10_handBack_23 : decode cX10_handBack 23 = .ok (.getfield 160, 3) := by decide +kernel
theorem dX10_handBack_26 : decode cX10_handBack 26 = .ok (.iload_n 1, 1) := by decide +kernel
theorem dX10_handBack_27 : decode cX10_handBack 27 = .ok (.iaload, 1) := by decide +kernel
theorem dX10_handBack_28 : decode cX10_handBack 28 = .ok (.if_icmp .le 5, 3) := by decide +kernel
theorem dX10_handBack_31 : decode cX10_handBack 31 = .ok (.iconst (-1), 1) := by decide +kernel
theorem dX10_handBack_32 : decode cX10_handBack 32 = .ok (.ireturn, 1) := by decide +kernel
theorem dX10_handBack_33 : decode cX10_handBack 33 = .ok (.aload_n 3, 1) := by decide +kernel
theorem dX10_handBack_34 : decode cX10_handBack 34 = .ok (.iload_n 1, 1) := by decide +kernel
theorem dX10_handBack_35 : decode cX10_handBack 35 = .ok (.invokevirtual 169, 3) := by decide +kernel
theorem dX10_handBack_38 : decode cX10_handBack 38 = .ok (.istore 4, 2) := by decide +kernel
theorem dX10_handBack_40 : decode cX10_handBack 40 = .ok (.aload_n 3, 1) := by decide +kernel
theorem dX10_handBack_41 : decode cX10_handBack 41 = .ok (.iload_n 1, 1) := by decide +kernel
theorem dX10_handBack_42 : decode cX10_handBack 42 = .ok (.iload_n 2, 1) := by decide +kernel
theorem dX10_handBack_43 : decode cX10_handBack 43 = .ok (.invokevirtual 290, 3) := by decide +kernel
theorem dX10_handBack_46 : decode cX10_handBack 46 = .ok (.aload_n 0, 1) := by decide +kernel
theorem dX10_handBack_47 : decode cX10_handBack 47 = .ok (.getfield 40, 3) := by decide +kernel
theorem dX10_handBack_50 : decode cX10_handBack 50 = .ok (.getfield 118, 3) := by decide +kernel
theorem dX10_handBack_53 : decode cX10_handBack 53 = .ok (.iconst 4, 1) := by decide +kernel
theorem dX10_handBack_54 : decode cX10_handBack 54 = .ok (.iload_n 1, 1) := by decide +kernel
theorem dX10_handBack_55 : decode cX10_handBack 55 = .ok (.iload_n 2, 1) := by decide +kernel
theorem dX10_handBack_56 : decode cX10_handBack 56 = .ok (.invokevirtual 270, 3) := by decide +kernel
theorem dX10_handBack_59 : decode cX10_handBack 59 = .ok (.aload_n 3, 1) := by decide +kernel
theorem dX10_handBack_60 : decode cX10_handBack 60 = .ok (.iload_n 1, 1) := by decide +kernel
theorem dX10_handBack_61 : decode cX10_handBack 61 = .ok (.invokevirtual 169, 3) := by decide +kernel
theorem dX10_handBack_64 : decode cX10_handBack 64 = .ok (.iload 4, 2) := by decide +kernel
theorem dX10_handBack_66 : decode cX10_handBack 66 = .ok (.isub, 1) := by decide +kernel
theorem dX10_handBack_67 : decode cX10_handBack 67 = .ok (.ireturn, 1) := by decide +kernel
theorem dX10_home_0 : decode cX10_home 0 = .ok (.aload_n 0, 1) := by decide +kernel
theorem dX10_home_1 : decode cX10_home 1 = .ok (.getfield 40, 3) := by decide +kernel
theorem dX10_home_4 : decode cX10_home 4 = .ok (.getfield 93, 3) := by decide +kernel
theorem dX10_home_7 : decode cX10_home 7 = .ok (.iload_n 1, 1) := by decide +kernel
theorem dX10_home_8 : decode cX10_home 8 = .ok (.invokevirtual 172, 3) := by decide +kernel
theorem dX10_home_11 : decode cX10_home 11 = .ok (.ifCond .ne 13, 3) := by decide +kernel
theorem dX10_home_14 : decode cX10_home 14 = .ok (.new 173, 3) := by decide +kernel
theorem dX10_home_17 : decode cX10_home 17 = .ok (.dup, 1) := by decide +kernel
theorem dX10_home_18 : decode cX10_home 18 = .ok (.ldc 175, 2) := by decide +kernel
theorem dX10_home_20 : decode cX10_home 20 = .ok (.invokespecial 177, 3) := by decide +kernel
theorem dX10_home_23 : decode cX10_home 23 = .ok (.athrow, 1) := by decide +kernel
theorem dX10_home_24 : decode cX10_home 24 = .ok (.aload_n 0, 1) := by decide +kernel
theorem dX10_home_25 : decode cX10_home 25 = .ok (.getfield 40, 3) := by decide +kernel
theorem dX10_home_28 : decode cX10_home 28 = .ok (.iload_n 1, 1) := by decide +kernel
theorem dX10_home_29 : decode cX10_home 29 = .ok (.invokevirtual 285, 3) := by decide +kernel
theorem dX10_home_32 : decode cX10_home 32 = .ok (.ifCond .ne 14, 3) := by decide +kernel
theorem dX10_home_35 : decode cX10_home 35 = .ok (.new 173, 3) := by decide +kernel
theorem dX10_home_38 : decode cX10_home 38 = .ok (.dup, 1) := by decide +kernel
theorem dX10_home_39 : decode cX10_home 39 = .ok (.ldc_w 288, 3) := by decide +kernel
theorem dX10_home_42 : decode cX10_home 42 = .ok (.invokespecial 177, 3) := by decide +kernel
theorem dX10_home_45 : decode cX10_home 45 = .ok (.athrow, 1) := by decide +kernel
theorem dX10_home_46 : decode cX10_home 46 = .ok (.aload_n 0, 1) := by decide +kernel
theorem dX10_home_47 : decode cX10_home 47 = .ok (.getfield 40, 3) := by decide +kernel
theorem dX10_home_50 : decode cX10_home 50 = .ok (.getfield 93, 3) := by decide +kernel
theorem dX10_home_53 : decode cX10_home 53 = .ok (.getfield 184, 3) := by decide +kernel
theorem dX10_home_56 : decode cX10_home 56 = .ok (.iload_n 1, 1) := by decide +kernel
theorem dX10_home_57 : decode cX10_home 57 = .ok (.iaload, 1) := by decide +kernel
theorem dX10_home_58 : decode cX10_home 58 = .ok (.istore_n 2, 1) := by decide +kernel
theorem dX10_home_59 : decode cX10_home 59 = .ok (.aload_n 0, 1) := by decide +kernel
theorem dX10_home_60 : decode cX10_home 60 = .ok (.getfield 40, 3) := by decide +kernel
theorem dX10_home_63 : decode cX10_home 63 = .ok (.iload_n 2, 1) := by decide +kernel
theorem dX10_home_64 : decode cX10_home 64 = .ok (.invokevirtual 274, 3) := by decide +kernel
theorem dX10_home_67 : decode cX10_home 67 = .ok (.aload_n 0, 1) := by decide +kernel
theorem dX10_home_68 : decode cX10_home 68 = .ok (.getfield 40, 3) := by decide +kernel
theorem dX10_home_71 : decode cX10_home 71 = .ok (.getfield 118, 3) := by decide +kernel
theorem dX10_home_74 : decode cX10_home 74 = .ok (.iconst 2, 1) := by decide +kernel
theorem dX10_home_75 : decode cX10_home 75 = .ok (.iload_n 2, 1) := by decide +kernel
theorem dX10_home_76 : decode cX10_home 76 = .ok (.iconst 0, 1) := by decide +kernel
theorem dX10_home_77 : decode cX10_home 77 = .ok (.invokevirtual 270, 3) := by decide +kernel
theorem dX10_home_80 : decode cX10_home 80 = .ok (.aload_n 0, 1) := by decide +kernel
theorem dX10_home_81 : decode cX10_home 81 = .ok (.getfield 40, 3) := by decide +kernel
theorem dX10_home_84 : decode cX10_home 84 = .ok (.getfield 74, 3) := by decide +kernel
theorem dX10_home_87 : decode cX10_home 87 = .ok (.aload_n 0, 1) := by decide +kernel
theorem dX10_home_88 : decode cX10_home 88 = .ok (.getfield 40, 3) := by decide +kernel
theorem dX10_home_91 : decode cX10_home 91 = .ok (.getfield 100, 3) := by decide +kernel
theorem dX10_home_94 : decode cX10_home 94 = .ok (.getfield 208, 3) := by decide +kernel
theorem dX10_home_97 : decode cX10_home 97 = .ok (.iload_n 2, 1) := by decide +kernel
theorem dX10_home_98 : decode cX10_home 98 = .ok (.iaload, 1) := by decide +kernel
theorem dX10_home_99 : decode cX10_home 99 = .ok (.isub, 1) := by decide +kernel
theorem dX10_home_100 : decode cX10_home 100 = .ok (.ireturn, 1) := by decide +kernel
theorem dX10_lawful_0 : decode cX10_lawful 0 = .ok (.aload_n 0, 1) := by decide +kernel
theorem dX10_lawful_1 : decode cX10_lawful 1 = .ok (.getfield 40, 3) := by decide +kernel
theorem dX10_lawful_4 : decode cX10_lawful 4 = .ok (.getfield 93, 3) := by decide +kernel
theorem dX10_lawful_7 : decode cX10_lawful 7 = .ok (.iload_n 1, 1) := by decide +kernel
theorem dX10_lawful_8 : decode cX10_lawful 8 = .ok (.invokevirtual 172, 3) := by decide +kernel
theorem dX10_lawful_11 : decode cX10_lawful 11 = .ok (.ifCond .eq 17, 3) := by decide +kernel
theorem dX10_lawful_14 : decode cX10_lawful 14 = .ok (.aload_n 0, 1) := by decide +kernel
theorem dX10_lawful_15 : decode cX10_lawful 15 = .ok (.getfield 40, 3) := by decide +kernel
theorem dX10_lawful_18 : decode cX10_lawful 18 = .ok (.getfield 77, 3) := by decide +kernel
theorem dX10_lawful_21 : decode cX10_lawful 21 = .ok (.iload_n 2, 1) := by decide +kernel
theorem dX10_lawful_22 : decode cX10_lawful 22 = .ok (.invokevirtual 249, 3) := by decide +kernel
theorem dX10_lawful_25 : decode cX10_lawful 25 = .ok (.ifCond .ne 5, 3) := by decide +kernel
theorem dX10_lawful_28 : decode cX10_lawful 28 = .ok (.iconst (-1), 1) := by decide +kernel
theorem dX10_lawful_29 : decode cX10_lawful 29 = .ok (.ireturn, 1) := by decide +kernel
theorem dX10_lawful_30 : decode cX10_lawful 30 = .ok (.aload_n 0, 1) := by decide +kernel
theorem dX10_lawful_31 : decode cX10_lawful 31 = .ok (.getfield 40, 3) := by decide +kernel
theorem dX10_lawful_34 : decode cX10_lawful 34 = .ok (.iload_n 1, 1) := by decide +kernel
theorem dX10_lawful_35 : decode cX10_lawful 35 = .ok (.iload_n 2, 1) := by decide +kernel
theorem dX10_lawful_36 : decode cX10_lawful 36 = .ok (.invokevirtual 260, 3) := by decide +kernel
theorem dX10_lawful_39 : decode cX10_lawful 39 = .ok (.ireturn, 1) := by decide +kernel
theorem dX10_ledger_0 : decode cX10_ledger 0 = .ok (.aload_n 0, 1) := by decide +kernel
theorem dX10_ledger_1 : decode cX10_ledger 1 = .ok (.getfield 40, 3) := by decide +kernel
theorem dX10_ledger_4 : decode cX10_ledger 4 = .ok (.getfield 86, 3) := by decide +kernel
theorem dX10_ledger_7 : decode cX10_ledger 7 = .ok (.astore_n 3, 1) := by decide +kernel
theorem dX10_ledger_8 : decode cX10_ledger 8 = .ok (.aload_n 3, 1) := by decide +kernel
theorem dX10_ledger_9 : decode cX10_ledger 9 = .ok (.iload_n 1, 1) := by decide +kernel
theorem dX10_ledger_10 : decode cX10_ledger 10 = .ok (.invokevirtual 127, 3) := by decide +kernel
theorem dX10_ledger_13 : decode cX10_ledger 13 = .ok (.ifCond .ne 5, 3) := by decide +kernel
theorem dX10_ledger_16 : decode cX10_ledger 16 = .ok (.iconst (-1), 1) := by decide +kernel
theorem dX10_ledger_17 : decode cX10_ledger 17 = .ok (.ireturn, 1) := by decide +kernel
theorem dX10_ledger_18 : decode cX10_ledger 18 = .ok (.iload_n 2, 1) := by decide +kernel
theorem dX10_ledger_19 : decode cX10_ledger 19 = .ok (.tableswitch 76 0 5 #[37, 43, 49, 56, 63, 70], 37) := by decide +kernel
theorem dX10_ledger_56 : decode cX10_ledger 56 = .ok (.aload_n 3, 1) := by decide +kernel
theorem dX10_ledger_57 : decode cX10_ledger 57 = .ok (.iload_n 1, 1) := by decide +kernel
theorem dX10_ledger_58 : decode cX10_ledger 58 = .ok (.invokevirtual 156, 3) := by decide +kernel
theorem dX10_ledger_61 : decode cX10_ledger 61 = .ok (.ireturn, 1) := by decide +kernel
theorem dX10_ledger_62 : decode cX10_ledger 62 = .ok (.aload_n 3, 1) := by decide +kernel
theorem dX10_ledger_63 : decode cX10_ledger 63 = .ok (.iload_n 1, 1) := by decide +kernel
theorem dX10_ledger_64 : decode cX10_ledger 64 = .ok (.invokevirtual 157, 3) := by decide +kernel
theorem dX10_ledger_67 : decode cX10_ledger 67 = .ok (.ireturn, 1) := by decide +kernel
theorem dX10_ledger_68 : decode cX10_ledger 68 = .ok (.aload_n 3, 1) := by decide +kernel
theorem dX10_ledger_69 : decode cX10_ledger 69 = .ok (.getfield 160, 3) := by decide +kernel
theorem dX10_ledger_72 : decode cX10_ledger 72 = .ok (.iload_n 1, 1) := by decide +kernel
theorem dX10_ledger_73 : decode cX10_ledger 73 = .ok (.iaload, 1) := by decide +kernel
theorem dX10_ledger_74 : decode cX10_ledger 74 = .ok (.ireturn, 1) := by decide +kernel
theorem dX10_ledger_75 : decode cX10_ledger 75 = .ok (.aload_n 3, 1) := by decide +kernel
theorem dX10_ledger_76 : decode cX10_ledger 76 = .ok (.getfield 163, 3) := by decide +kernel
theorem dX10_ledger_79 : decode cX10_ledger 79 = .ok (.iload_n 1, 1) := by decide +kernel
theorem dX10_ledger_80 : decode cX10_ledger 80 = .ok (.iaload, 1) := by decide +kernel
theorem dX10_ledger_81 : decode cX10_ledger 81 = .ok (.ireturn, 1) := by decide +kernel
theorem dX10_ledger_82 : decode cX10_ledger 82 = .ok (.aload_n 3, 1) := by decide +kernel
theorem dX10_ledger_83 : decode cX10_ledger 83 = .ok (.getfield 166, 3) := by decide +kernel
theorem dX10_ledger_86 : decode cX10_ledger 86 = .ok (.iload_n 1, 1) := by decide +kernel
theorem dX10_ledger_87 : decode cX10_ledger 87 = .ok (.iaload, 1) := by decide +kernel
theorem dX10_ledger_88 : decode cX10_ledger 88 = .ok (.ireturn, 1) := by decide +kernel
theorem dX10_ledger_89 : decode cX10_ledger 89 = .ok (.aload_n 3, 1) := by decide +kernel
theorem dX10_ledger_90 : decode cX10_ledger 90 = .ok (.iload_n 1, 1) := by decide +kernel
theorem dX10_ledger_91 : decode cX10_ledger 91 = .ok (.invokevirtual 169, 3) := by decide +kernel
theorem dX10_ledger_94 : decode cX10_ledger 94 = .ok (.ireturn, 1) := by decide +kernel
theorem dX10_ledger_95 : decode cX10_ledger 95 = .ok (.iconst (-1), 1) := by decide +kernel
theorem dX10_ledger_96 : decode cX10_ledger 96 = .ok (.ireturn, 1) := by decide +kernel
theorem dX10_lorry_0 : decode cX10_lorry 0 = .ok (.aload_n 0, 1) := by decide +kernel
theorem dX10_lorry_1 : decode cX10_lorry 1 = .ok (.getfield 40, 3) := by decide +kernel
theorem dX10_lorry_4 : decode cX10_lorry 4 = .ok (.getfield 93, 3) := by decide +kernel
theorem dX10_lorry_7 : decode cX10_lorry 7 = .ok (.astore_n 3, 1) := by decide +kernel
theorem dX10_lorry_8 : decode cX10_lorry 8 = .ok (.aload_n 3, 1) := by decide +kernel
theorem dX10_lorry_9 : decode cX10_lorry 9 = .ok (.iload_n 1, 1) := by decide +kernel
theorem dX10_lorry_10 : decode cX10_lorry 10 = .ok (.invokevirtual 172, 3) := by decide +kernel
theorem dX10_lorry_13 : decode cX10_lorry 13 = .ok (.ifCond .ne 13, 3) := by decide +kernel
theorem dX10_lorry_16 : decode cX10_lorry 16 = .ok (.new 173, 3) := by decide +kernel
theorem dX10_lorry_19 : decode cX10_lorry 19 = .ok (.dup, 1) := by decide +kernel
theorem dX10_lorry_20 : decode cX10_lorry 20 = .ok (.ldc 175, 2) := by decide +kernel
theorem dX10_lorry_22 : decode cX10_lorry 22 = .ok (.invokespecial 177, 3) := by decide +kernel
theorem dX10_lorry_25 : decode cX10_lorry 25 = .ok (.athrow, 1) := by decide +kernel
theorem dX10_lorry_26 : decode cX10_lorry 26 = .ok (.iload_n 2, 1) := by decide +kernel
theorem dX10_lorry_27 : decode cX10_lorry 27 = .ok (.tableswitch 68 0 4 #[33, 40, 47, 54, 61], 33) := by decide +kernel
theorem dX10_lorry_60 : decode cX10_lorry 60 = .ok (.aload_n 3, 1) := by decide +kernel
theorem dX10_lorry_61 : decode cX10_lorry 61 = .ok (.getfield 180, 3) := by decide +kernel
theorem dX10_lorry_64 : decode cX10_lorry 64 = .ok (.iload_n 1, 1) := by decide +kernel
theorem dX10_lorry_65 : decode cX10_lorry 65 = .ok (.iaload, 1) := by decide +kernel
theorem dX10_lorry_66 : decode cX10_lorry 66 = .ok (.ireturn, 1) := by decide +kernel
theorem dX10_lorry_67 : decode cX10_lorry 67 = .ok (.aload_n 3, 1) := by decide +kernel
theorem dX10_lorry_68 : decode cX10_lorry 68 = .ok (.getfield 183, 3) := by decide +kernel
theorem dX10_lorry_71 : decode cX10_lorry 71 = .ok (.iload_n 1, 1) := by decide +kernel
theorem dX10_lorry_72 : decode cX10_lorry 72 = .ok (.iaload, 1) := by decide +kernel
theorem dX10_lorry_73 : decode cX10_lorry 73 = .ok (.ireturn, 1) := by decide +kernel
theorem dX10_lorry_74 : decode cX10_lorry 74 = .ok (.aload_n 3, 1) := by decide +kernel
theorem dX10_lorry_75 : decode cX10_lorry 75 = .ok (.getfield 184, 3) := by decide +kernel
theorem dX10_lorry_78 : decode cX10_lorry 78 = .ok (.iload_n 1, 1) := by decide +kernel
theorem dX10_lorry_79 : decode cX10_lorry 79 = .ok (.iaload, 1) := by decide +kernel
theorem dX10_lorry_80 : decode cX10_lorry 80 = .ok (.ireturn, 1) := by decide +kernel
theorem dX10_lorry_81 : decode cX10_lorry 81 = .ok (.aload_n 3, 1) := by decide +kernel
theorem dX10_lorry_82 : decode cX10_lorry 82 = .ok (.getfield 187, 3) := by decide +kernel
theorem dX10_lorry_85 : decode cX10_lorry 85 = .ok (.iload_n 1, 1) := by decide +kernel
theorem dX10_lorry_86 : decode cX10_lorry 86 = .ok (.iaload, 1) := by decide +kernel
theorem dX10_lorry_87 : decode cX10_lorry 87 = .ok (.ireturn, 1) := by decide +kernel
theorem dX10_lorry_88 : decode cX10_lorry 88 = .ok (.aload_n 3, 1) := by decide +kernel
theorem dX10_lorry_89 : decode cX10_lorry 89 = .ok (.getfield 190, 3) := by decide +kernel
theorem dX10_lorry_92 : decode cX10_lorry 92 = .ok (.iload_n 1, 1) := by decide +kernel
theorem dX10_lorry_93 : decode cX10_lorry 93 = .ok (.iaload, 1) := by decide +kernel
theorem dX10_lorry_94 : decode cX10_lorry 94 = .ok (.ireturn, 1) := by decide +kernel
theorem dX10_lorry_95 : decode cX10_lorry 95 = .ok (.new 173, 3) := by decide +kernel
theorem dX10_lorry_98 : decode cX10_lorry 98 = .ok (.dup, 1) := by decide +kernel
theorem dX10_lorry_99 : decode cX10_lorry 99 = .ok (.ldc 193, 2) := by decide +kernel
theorem dX10_lorry_101 : decode cX10_lorry 101 = .ok (.invokespecial 177, 3) := by decide +kernel
theorem dX10_lorry_104 : decode cX10_lorry 104 = .ok (.athrow, 1) := by decide +kernel
theorem dX10_needs_0 : decode cX10_needs 0 = .ok (.aload_n 0, 1) := by decide +kernel
theorem dX10_needs_1 : decode cX10_needs 1 = .ok (.getfield 40, 3) := by decide +kernel
theorem dX10_needs_4 : decode cX10_needs 4 = .ok (.getfield 86, 3) := by decide +kernel
theorem dX10_needs_7 : decode cX10_needs 7 = .ok (.iload_n 1, 1) := by decide +kernel
theorem dX10_needs_8 : decode cX10_needs 8 = .ok (.invokevirtual 127, 3) := by decide +kernel
theorem dX10_needs_11 : decode cX10_needs 11 = .ok (.ifCond .ne 5, 3) := by decide +kernel
theorem dX10_needs_14 : decode cX10_needs 14 = .ok (.iconst (-1), 1) := by decide +kernel
theorem dX10_needs_15 : decode cX10_needs 15 = .ok (.ireturn, 1) := by decide +kernel
theorem dX10_needs_16 : decode cX10_needs 16 = .ok (.aload_n 0, 1) := by decide +kernel
theorem dX10_needs_17 : decode cX10_needs 17 = .ok (.getfield 33, 3) := by decide +kernel
theorem dX10_needs_20 : decode cX10_needs 20 = .ok (.aload_n 0, 1) := by decide +kernel
theorem dX10_needs_21 : decode cX10_needs 21 = .ok (.getfield 40, 3) := by decide +kernel
theorem dX10_needs_24 : decode cX10_needs 24 = .ok (.invokevirtual 225, 3) := by decide +kernel
theorem dX10_needs_27 : decode cX10_needs 27 = .ok (.iconst 0, 1) := by decide +kernel
theorem dX10_needs_28 : decode cX10_needs 28 = .ok (.istore_n 2, 1) := by decide +kernel
theorem dX10_needs_29 : decode cX10_needs 29 = .ok (.iload_n 2, 1) := by decide +kernel
theorem dX10_needs_30 : decode cX10_needs 30 = .ok (.bipush 8, 2) := by decide +kernel
theorem dX10_needs_32 : decode cX10_needs 32 = .ok (.if_icmp .gt 44, 3) := by decide +kernel
theorem dX10_needs_35 : decode cX10_needs 35 = .ok (.aload_n 0, 1) := by decide +kernel
theorem dX10_needs_36 : decode cX10_needs 36 = .ok (.getfield 33, 3) := by decide +kernel
theorem dX10_needs_39 : decode cX10_needs 39 = .ok (.invokevirtual 229, 3) := by decide +kernel
theorem dX10_needs_42 : decode cX10_needs 42 = .ok (.aload_n 0, 1) := by decide +kernel
theorem dX10_needs_43 : decode cX10_needs 43 = .ok (.getfield 33, 3) := by decide +kernel
theorem dX10_needs_46 : decode cX10_needs 46 = .ok (.getfield 232, 3) := by decide +kernel
theorem dX10_needs_49 : decode cX10_needs 49 = .ok (.aload_n 0, 1) := by decide +kernel
theorem dX10_needs_50 : decode cX10_needs 50 = .ok (.getfield 33, 3) := by decide +kernel
theorem dX10_needs_53 : decode cX10_needs 53 = .ok (.getfield 246, 3) := by decide +kernel
theorem dX10_needs_56 : decode cX10_needs 56 = .ok (.if_icmp .ne 5, 3) := by decide +kernel
theorem dX10_needs_59 : decode cX10_needs 59 = .ok (.iload_n 2, 1) := by decide +kernel
theorem dX10_needs_60 : decode cX10_needs 60 = .ok (.ireturn, 1) := by decide +kernel
theorem dX10_needs_61 : decode cX10_needs 61 = .ok (.aload_n 0, 1) := by decide +kernel
theorem dX10_needs_62 : decode cX10_needs 62 = .ok (.getfield 33, 3) := by decide +kernel
theorem dX10_needs_65 : decode cX10_needs 65 = .ok (.iload_n 1, 1) := by decide +kernel
theorem dX10_needs_66 : decode cX10_needs 66 = .ok (.iconst 1, 1) := by decide +kernel
theorem dX10_needs_67 : decode cX10_needs 67 = .ok (.invokevirtual 242, 3) := by decide +kernel
theorem dX10_needs_70 : decode cX10_needs 70 = .ok (.iinc 2 1, 3) := by decide +kernel
theorem dX10_needs_73 : decode cX10_needs 73 = .ok (.goto (-44), 3) := by decide +kernel
theorem dX10_needs_76 : decode cX10_needs 76 = .ok (.bipush (-2), 2) := by decide +kernel
theorem dX10_needs_78 : decode cX10_needs 78 = .ok (.ireturn, 1) := by decide +kernel
theorem dX10_now_0 : decode cX10_now 0 = .ok (.iload_n 1, 1) := by decide +kernel
theorem dX10_now_1 : decode cX10_now 1 = .ok (.tableswitch 176 0 10 #[59, 67, 78, 89, 100, 111, 123, 135, 146, 157, 168], 59) := by decide +kernel
theorem dX10_now_60 : decode cX10_now 60 = .ok (.aload_n 0, 1) := by decide +kernel
theorem dX10_now_61 : decode cX10_now 61 = .ok (.getfield 40, 3) := by decide +kernel
theorem dX10_now_64 : decode cX10_now 64 = .ok (.getfield 74, 3) := by decide +kernel
theorem dX10_now_67 : decode cX10_now 67 = .ok (.ireturn, 1) := by decide +kernel
theorem dX10_now_68 : decode cX10_now 68 = .ok (.aload_n 0, 1) := by decide +kernel
theorem dX10_now_69 : decode cX10_now 69 = .ok (.getfield 40, 3) := by decide +kernel
theorem dX10_now_72 : decode cX10_now 72 = .ok (.getfield 77, 3) := by decide +kernel
theorem dX10_now_75 : decode cX10_now 75 = .ok (.getfield 81, 3) := by decide +kernel
theorem dX10_now_78 : decode cX10_now 78 = .ok (.ireturn, 1) := by decide +kernel
theorem dX10_now_79 : decode cX10_now 79 = .ok (.aload_n 0, 1) := by decide +kernel
theorem dX10_now_80 : decode cX10_now 80 = .ok (.getfield 40, 3) := by decide +kernel
theorem dX10_now_83 : decode cX10_now 83 = .ok (.getfield 86, 3) := by decide +kernel
theorem dX10_now_86 : decode cX10_now 86 = .ok (.getfield 90, 3) := by decide +kernel
theorem dX10_now_89 : decode cX10_now 89 = .ok (.ireturn, 1) := by decide +kernel
theorem dX10_now_90 : decode cX10_now 90 = .ok (.aload_n 0, 1) := by decide +kernel
theorem dX10_now_91 : decode cX10_now 91 = .ok (.getfield 40, 3) := by decide +kernel
theorem dX10_now_94 : decode cX10_now 94 = .ok (.getfield 93, 3) := by decide +kernel
theorem dX10_now_97 : decode cX10_now 97 = .ok (.getfield 97, 3) := by decide +kernel
theorem dX10_now_100 : decode cX10_now 100 = .ok (.ireturn, 1) := by decide +kernel
theorem dX10_now_101 : decode cX10_now 101 = .ok (.aload_n 0, 1) := by decide +kernel
theorem dX10_now_102 : decode cX10_now 102 = .ok (.getfield 40, 3) := by decide +kernel
theorem dX10_now_105 : decode cX10_now 105 = .ok (.getfield 100, 3) := by decide +kernel
theorem dX10_now_108 : decode cX10_now 108 = .ok (.getfield 104, 3) := by decide +kernel
theorem dX10_now_111 : decode cX10_now 111 = .ok (.ireturn, 1) := by decide +kernel
theorem dX10_now_112 : decode cX10_now 112 = .ok (.aload_n 0, 1) := by decide +kernel
theorem dX10_now_113 : decode cX10_now 113 = .ok (.getfield 40, 3) := by decide +kernel
theorem dX10_now_116 : decode cX10_now 116 = .ok (.getfield 100, 3) := by decide +kernel
theorem dX10_now_119 : decode cX10_now 119 = .ok (.iconst 0, 1) := by decide +kernel
theorem dX10_now_120 : decode cX10_now 120 = .ok (.invokevirtual 107, 3) := by decide +kernel
theorem dX10_now_123 : decode cX10_now 123 = .ok (.ireturn, 1) := by decide +kernel
theorem dX10_now_124 : decode cX10_now 124 = .ok (.aload_n 0, 1) := by decide +kernel
theorem dX10_now_125 : decode cX10_now 125 = .ok (.getfield 40, 3) := by decide +kernel
theorem dX10_now_128 : decode cX10_now 128 = .ok (.getfield 100, 3) := by decide +kernel
theorem dX10_now_131 : decode cX10_now 131 = .ok (.iconst 1, 1) := by decide +kernel
theorem dX10_now_132 : decode cX10_now 132 = .ok (.invokevirtual 107, 3) := by decide +kernel
theorem dX10_now_135 : decode cX10_now 135 = .ok (.ireturn, 1) := by decide +kernel
theorem dX10_now_136 : decode cX10_now 136 = .ok (.aload_n 0, 1) := by decide +kernel
theorem dX10_now_137 : decode cX10_now 137 = .ok (.getfield 40, 3) := by decide +kernel
theorem dX10_now_140 : decode cX10_now 140 = .ok (.getfield 77, 3) := by decide +kernel
theorem dX10_now_143 : decode cX10_now 143 = .ok (.getfield 111, 3) := by decide +kernel
theorem dX10_now_146 : decode cX10_now 146 = .ok (.ireturn, 1) := by decide +kernel
theorem dX10_now_147 : decode cX10_now 147 = .ok (.aload_n 0, 1) := by decide +kernel
theorem dX10_now_148 : decode cX10_now 148 = .ok (.getfield 40, 3) := by decide +kernel
theorem dX10_now_151 : decode cX10_now 151 = .ok (.getfield 93, 3) := by decide +kernel
theorem dX10_now_154 : decode cX10_now 154 = .ok (.invokevirtual 114, 3) := by decide +kernel
theorem dX10_now_157 : decode cX10_now 157 = .ok (.ireturn, 1) := by decide +kernel
theorem dX10_now_158 : decode cX10_now 158 = .ok (.aload_n 0, 1) := by decide +kernel
theorem dX10_now_159 : decode cX10_now 159 = .ok (.getfield 40, 3) := by decide +kernel
theorem dX10_now_162 : decode cX10_now 162 = .ok (.getfield 118, 3) := by decide +kernel
theorem dX10_now_165 : decode cX10_now 165 = .ok (.getfield 122, 3) := by decide +kernel
theorem dX10_now_168 : decode cX10_now 168 = .ok (.ireturn, 1) := by decide +kernel
theorem dX10_now_169 : decode cX10_now 169 = .ok (.aload_n 0, 1) := by decide +kernel
theorem dX10_now_170 : decode cX10_now 170 = .ok (.getfield 10, 3) := by decide +kernel
theorem dX10_now_173 : decode cX10_now 173 = .ok (.getfield 47, 3) := by decide +kernel
theorem dX10_now_176 : decode cX10_now 176 = .ok (.ireturn, 1) := by decide +kernel
theorem dX10_now_177 : decode cX10_now 177 = .ok (.iconst (-1), 1) := by decide +kernel
theorem dX10_now_178 : decode cX10_now 178 = .ok (.ireturn, 1) := by decide +kernel
theorem dX10_pass_0 : decode cX10_pass 0 = .ok (.iload_n 1, 1) := by decide +kernel
theorem dX10_pass_1 : decode cX10_pass 1 = .ok (.iconst 1, 1) := by decide +kernel
theorem dX10_pass_2 : decode cX10_pass 2 = .ok (.if_icmp .lt 24, 3) := by decide +kernel
theorem dX10_pass_5 : decode cX10_pass 5 = .ok (.iload_n 1, 1) := by decide +kernel
theorem dX10_pass_6 : decode cX10_pass 6 = .ok (.bipush 99, 2) := by decide +kernel
theorem dX10_pass_8 : decode cX10_pass 8 = .ok (.if_icmp .gt 18, 3) := by decide +kernel
theorem dX10_pass_11 : decode cX10_pass 11 = .ok (.aload_n 0, 1) := by decide +kernel
theorem dX10_pass_12 : decode cX10_pass 12 = .ok (.getfield 40, 3) := by decide +kernel
theorem dX10_pass_15 : decode cX10_pass 15 = .ok (.getfield 74, 3) := by decide +kernel
theorem dX10_pass_18 : decode cX10_pass 18 = .ok (.iload_n 1, 1) := by decide +kernel
theorem dX10_pass_19 : decode cX10_pass 19 = .ok (.iadd, 1) := by decide +kernel
theorem dX10_pass_20 : decode cX10_pass 20 = .ok (.sipush 999, 3) := by decide +kernel
theorem dX10_pass_23 : decode cX10_pass 23 = .ok (.if_icmp .le 5, 3) := by decide +kernel
theorem dX10_pass_26 : decode cX10_pass 26 = .ok (.iconst (-1), 1) := by decide +kernel
theorem dX10_pass_27 : decode cX10_pass 27 = .ok (.ireturn, 1) := by decide +kernel
theorem dX10_pass_28 : decode cX10_pass 28 = .ok (.aload_n 0, 1) := by decide +kernel
theorem dX10_pass_29 : decode cX10_pass 29 = .ok (.getfield 40, 3) := by decide +kernel
theorem dX10_pass_32 : decode cX10_pass 32 = .ok (.dup, 1) := by decide +kernel
theorem dX10_pass_33 : decode cX10_pass 33 = .ok (.getfield 74, 3) := by decide +kernel
theorem dX10_pass_36 : decode cX10_pass 36 = .ok (.iload_n 1, 1) := by decide +kernel
theorem dX10_pass_37 : decode cX10_pass 37 = .ok (.iadd, 1) := by decide +kernel
theorem dX10_pass_38 : decode cX10_pass 38 = .ok (.putfield 74, 3) := by decide +kernel
theorem dX10_pass_41 : decode cX10_pass 41 = .ok (.aload_n 0, 1) := by decide +kernel
theorem dX10_pass_42 : decode cX10_pass 42 = .ok (.getfield 40, 3) := by decide +kernel
theorem dX10_pass_45 : decode cX10_pass 45 = .ok (.getfield 118, 3) := by decide +kernel
theorem dX10_pass_48 : decode cX10_pass 48 = .ok (.iconst 5, 1) := by decide +kernel
theorem dX10_pass_49 : decode cX10_pass 49 = .ok (.iconst (-1), 1) := by decide +kernel
theorem dX10_pass_50 : decode cX10_pass 50 = .ok (.iload_n 1, 1) := by decide +kernel
theorem dX10_pass_51 : decode cX10_pass 51 = .ok (.invokevirtual 270, 3) := by decide +kernel
theorem dX10_pass_54 : decode cX10_pass 54 = .ok (.aload_n 0, 1) := by decide +kernel
theorem dX10_pass_55 : decode cX10_pass 55 = .ok (.getfield 40, 3) := by decide +kernel
theorem dX10_pass_58 : decode cX10_pass 58 = .ok (.getfield 74, 3) := by decide +kernel
theorem dX10_pass_61 : decode cX10_pass 61 = .ok (.ireturn, 1) := by decide +kernel
theorem dX10_plan_0 : decode cX10_plan 0 = .ok (.iload_n 1, 1) := by decide +kernel
theorem dX10_plan_1 : decode cX10_plan 1 = .ok (.ifCond .eq 16, 3) := by decide +kernel
theorem dX10_plan_4 : decode cX10_plan 4 = .ok (.iload_n 1, 1) := by decide +kernel
theorem dX10_plan_5 : decode cX10_plan 5 = .ok (.iconst 1, 1) := by decide +kernel
theorem dX10_plan_6 : decode cX10_plan 6 = .ok (.if_icmp .eq 11, 3) := by decide +kernel
theorem dX10_plan_9 : decode cX10_plan 9 = .ok (.iload_n 1, 1) := by decide +kernel
theorem dX10_plan_10 : decode cX10_plan 10 = .ok (.bipush 10, 2) := by decide +kernel
theorem dX10_plan_12 : decode cX10_plan 12 = .ok (.if_icmp .ge 5, 3) := by decide +kernel
theorem dX10_plan_15 : decode cX10_plan 15 = .ok (.iconst (-1), 1) := by decide +kernel
theorem dX10_plan_16 : decode cX10_plan 16 = .ok (.ireturn, 1) := by decide +kernel
theorem dX10_plan_17 : decode cX10_plan 17 = .ok (.aload_n 0, 1) := by decide +kernel
theorem dX10_plan_18 : decode cX10_plan 18 = .ok (.getfield 33, 3) := by decide +kernel
theorem dX10_plan_21 : decode cX10_plan 21 = .ok (.aload_n 0, 1) := by decide +kernel
theorem dX10_plan_22 : decode cX10_plan 22 = .ok (.getfield 40, 3) := by decide +kernel
theorem dX10_plan_25 : decode cX10_plan 25 = .ok (.invokevirtual 225, 3) := by decide +kernel
theorem dX10_plan_28 : decode cX10_plan 28 = .ok (.aload_n 0, 1) := by decide +kernel
theorem dX10_plan_29 : decode cX10_plan 29 = .ok (.getfield 33, 3) := by decide +kernel
theorem dX10_plan_32 : decode cX10_plan 32 = .ok (.invokevirtual 229, 3) := by decide +kernel
theorem dX10_plan_35 : decode cX10_plan 35 = .ok (.iload_n 1, 1) := by decide +kernel
theorem dX10_plan_36 : decode cX10_plan 36 = .ok (.lookupswitch 51 #[(0, 28), (1, 36)], 28) := by decide +kernel
theorem dX10_plan_64 : decode cX10_plan 64 = .ok (.aload_n 0, 1) := by decide +kernel
theorem dX10_plan_65 : decode cX10_plan 65 = .ok (.getfield 33, 3) := by decide +kernel
theorem dX10_plan_68 : decode cX10_plan 68 = .ok (.getfield 232, 3) := by decide +kernel
theorem dX10_plan_71 : decode cX10_plan 71 = .ok (.ireturn, 1) := by decide +kernel
theorem dX10_plan_72 : decode cX10_plan 72 = .ok (.aload_n 0, 1) := by decide +kernel
theorem dX10_plan_73 : decode cX10_plan 73 = .ok (.getfield 33, 3) := by decide +kernel
theorem dX10_plan_76 : decode cX10_plan 76 = .ok (.aload_n 0, 1) := by decide +kernel
theorem dX10_plan_77 : decode cX10_plan 77 = .ok (.getfield 40, 3) := by decide +kernel
theorem dX10_plan_80 : decode cX10_plan 80 = .ok (.getfield 86, 3) := by decide +kernel
theorem dX10_plan_83 : decode cX10_plan 83 = .ok (.invokevirtual 235, 3) := by decide +kernel
theorem dX10_plan_86 : decode cX10_plan 86 = .ok (.ireturn, 1) := by decide +kernel
theorem dX10_plan_87 : decode cX10_plan 87 = .ok (.aload_n 0, 1) := by decide +kernel
theorem dX10_plan_88 : decode cX10_plan 88 = .ok (.getfield 33, 3) := by decide +kernel
theorem dX10_plan_91 : decode cX10_plan 91 = .ok (.iload_n 1, 1) := by decide +kernel
theorem dX10_plan_92 : decode cX10_plan 92 = .ok (.bipush 10, 2) := by decide +kernel
theorem dX10_plan_94 : decode cX10_plan 94 = .ok (.isub, 1) := by decide +kernel
theorem dX10_plan_95 : decode cX10_plan 95 = .ok (.invokevirtual 239, 3) := by decide +kernel
theorem dX10_plan_98 : decode cX10_plan 98 = .ok (.ireturn, 1) := by decide +kernel
theorem dX10_served_0 : decode cX10_served 0 = .ok (.aload_n 0, 1) := by decide +kernel
theorem dX10_served_1 : decode cX10_served 1 = .ok (.getfield 40, 3) := by decide +kernel
theorem dX10_served_4 : decode cX10_served 4 = .ok (.getfield 86, 3) := by decide +kernel
theorem dX10_served_7 : decode cX10_served 7 = .ok (.iload_n 1, 1) := by decide +kernel
theorem dX10_served_8 : decode cX10_served 8 = .ok (.invokevirtual 127, 3) := by decide +kernel
theorem dX10_served_11 : decode cX10_served 11 = .ok (.ifCond .eq 15, 3) := by decide +kernel
theorem dX10_served_14 : decode cX10_served 14 = .ok (.iload_n 2, 1) := by decide +kernel
theorem dX10_served_15 : decode cX10_served 15 = .ok (.bipush (-99), 2) := by decide +kernel
theorem dX10_served_17 : decode cX10_served 17 = .ok (.if_icmp .lt 9, 3) := by decide +kernel
theorem dX10_served_20 : decode cX10_served 20 = .ok (.iload_n 2, 1) := by decide +kernel
theorem dX10_served_21 : decode cX10_served 21 = .ok (.bipush 99, 2) := by decide +kernel
theorem dX10_served_23 : decode cX10_served 23 = .ok (.if_icmp .le 5, 3) := by decide +kernel
theorem dX10_served_26 : decode cX10_served 26 = .ok (.iconst (-1), 1) := by decide +kernel
theorem dX10_served_27 : decode cX10_served 27 = .ok (.ireturn, 1) := by decide +kernel
theorem dX10_served_28 : decode cX10_served 28 = .ok (.aload_n 0, 1) := by decide +kernel
theorem dX10_served_29 : decode cX10_served 29 = .ok (.getfield 33, 3) := by decide +kernel
theorem dX10_served_32 : decode cX10_served 32 = .ok (.aload_n 0, 1) := by decide +kernel
theorem dX10_served_33 : decode cX10_served 33 = .ok (.getfield 40, 3) := by decide +kernel
theorem dX10_served_36 : decode cX10_served 36 = .ok (.invokevirtual 225, 3) := by decide +kernel
theorem dX10_served_39 : decode cX10_served 39 = .ok (.aload_n 0, 1) := by decide +kernel
theorem dX10_served_40 : decode cX10_served 40 = .ok (.getfield 33, 3) := by decide +kernel
theorem dX10_served_43 : decode cX10_served 43 = .ok (.iload_n 1, 1) := by decide +kernel
theorem dX10_served_44 : decode cX10_served 44 = .ok (.iload_n 2, 1) := by decide +kernel
theorem dX10_served_45 : decode cX10_served 45 = .ok (.invokevirtual 242, 3) := by decide +kernel
theorem dX10_served_48 : decode cX10_served 48 = .ok (.aload_n 0, 1) := by decide +kernel
theorem dX10_served_49 : decode cX10_served 49 = .ok (.getfield 33, 3) := by decide +kernel
theorem dX10_served_52 : decode cX10_served 52 = .ok (.invokevirtual 229, 3) := by decide +kernel
theorem dX10_served_55 : decode cX10_served 55 = .ok (.aload_n 0, 1) := by decide +kernel
theorem dX10_served_56 : decode cX10_served 56 = .ok (.getfield 33, 3) := by decide +kernel
theorem dX10_served_59 : decode cX10_served 59 = .ok (.getfield 232, 3) := by decide +kernel
theorem dX10_served_62 : decode cX10_served 62 = .ok (.ireturn, 1) := by decide +kernel
theorem dX10_shortest_0 : decode cX10_shortest 0 = .ok (.aload_n 0, 1) := by decide +kernel
theorem dX10_shortest_1 : decode cX10_shortest 1 = .ok (.getfield 40, 3) := by decide +kernel
theorem dX10_shortest_4 : decode cX10_shortest 4 = .ok (.getfield 93, 3) := by decide +kernel
theorem dX10_shortest_7 : decode cX10_shortest 7 = .ok (.astore_n 3, 1) := by decide +kernel
theorem dX10_shortest_8 : decode cX10_shortest 8 = .ok (.aload_n 3, 1) := by decide +kernel
theorem dX10_shortest_9 : decode cX10_shortest 9 = .ok (.iload_n 1, 1) := by decide +kernel
theorem dX10_shortest_10 : decode cX10_shortest 10 = .ok (.invokevirtual 172, 3) := by decide +kernel
theorem dX10_shortest_13 : decode cX10_shortest 13 = .ok (.ifCond .eq 27, 3) := by decide +kernel
theorem dX10_shortest_16 : decode cX10_shortest 16 = .ok (.aload_n 0, 1) := by decide +kernel
theorem dX10_shortest_17 : decode cX10_shortest 17 = .ok (.getfield 40, 3) := by decide +kernel
theorem dX10_shortest_20 : decode cX10_shortest 20 = .ok (.getfield 77, 3) := by decide +kernel
theorem dX10_shortest_23 : decode cX10_shortest 23 = .ok (.iload_n 2, 1) := by decide +kernel
theorem dX10_shortest_24 : decode cX10_shortest 24 = .ok (.invokevirtual 249, 3) := by decide +kernel
theorem dX10_shortest_27 : decode cX10_shortest 27 = .ok (.ifCond .eq 13, 3) := by decide +kernel
theorem dX10_shortest_30 : decode cX10_shortest 30 = .ok (.aload_n 3, 1) := by decide +kernel
theorem dX10_shortest_31 : decode cX10_shortest 31 = .ok (.getfield 180, 3) := by decide +kernel
theorem dX10_shortest_34 : decode cX10_shortest 34 = .ok (.iload_n 1, 1) := by decide +kernel
theorem dX10_shortest_35 : decode cX10_shortest 35 = .ok (.iaload, 1) := by decide +kernel
theorem dX10_shortest_36 : decode cX10_shortest 36 = .ok (.iload_n 2, 1) := by decide +kernel
theorem dX10_shortest_37 : decode cX10_shortest 37 = .ok (.if_icmp .ne 5, 3) := by decide +kernel
theorem dX10_shortest_40 : decode cX10_shortest 40 = .ok (.iconst (-1), 1) := by decide +kernel
theorem dX10_shortest_41 : decode cX10_shortest 41 = .ok (.ireturn, 1) := by decide +kernel
theorem dX10_shortest_42 : decode cX10_shortest 42 = .ok (.aload_n 0, 1) := by decide +kernel
theorem dX10_shortest_43 : decode cX10_shortest 43 = .ok (.getfield 40, 3) := by decide +kernel
theorem dX10_shortest_46 : decode cX10_shortest 46 = .ok (.getfield 86, 3) := by decide +kernel
theorem dX10_shortest_49 : decode cX10_shortest 49 = .ok (.astore 4, 2) := by decide +kernel
theorem dX10_shortest_51 : decode cX10_shortest 51 = .ok (.bipush (-2), 2) := by decide +kernel
theorem dX10_shortest_53 : decode cX10_shortest 53 = .ok (.istore 5, 2) := by decide +kernel
theorem dX10_shortest_55 : decode cX10_shortest 55 = .ok (.iconst 0, 1) := by decide +kernel
theorem dX10_shortest_56 : decode cX10_shortest 56 = .ok (.istore 6, 2) := by decide +kernel
theorem dX10_shortest_58 : decode cX10_shortest 58 = .ok (.iload 6, 2) := by decide +kernel
theorem dX10_shortest_60 : decode cX10_shortest 60 = .ok (.aload 4, 2) := by decide +kernel
theorem dX10_shortest_62 : decode cX10_shortest 62 = .ok (.getfield 90, 3) := by decide +kernel
theorem dX10_shortest_65 : decode cX10_shortest 65 = .ok (.if_icmp .ge 77, 3) := by decide +kernel
theorem dX10_shortest_68 : decode cX10_shortest 68 = .ok (.aload 4, 2) := by decide +kernel
theorem dX10_shortest_70 : decode cX10_shortest 70 = .ok (.iload 6, 2) := by decide +kernel
theorem dX10_shortest_72 : decode cX10_shortest 72 = .ok (.aload_n 3, 1) := by decide +kernel
theorem dX10_shortest_73 : decode cX10_shortest 73 = .ok (.getfield 183, 3) := by decide +kernel
theorem dX10_shortest_76 : decode cX10_shortest 76 = .ok (.iload_n 1, 1) := by decide +kernel
theorem dX10_shortest_77 : decode cX10_shortest 77 = .ok (.iaload, 1) := by decide +kernel
theorem dX10_shortest_78 : decode cX10_shortest 78 = .ok (.invokevirtual 253, 3) := by decide +kernel
theorem dX10_shortest_81 : decode cX10_shortest 81 = .ok (.ifCond .eq 55, 3) := by decide +kernel
theorem dX10_shortest_84 : decode cX10_shortest 84 = .ok (.aload_n 0, 1) := by decide +kernel
theorem dX10_shortest_85 : decode cX10_shortest 85 = .ok (.getfield 40, 3) := by decide +kernel
theorem dX10_shortest_88 : decode cX10_shortest 88 = .ok (.getfield 77, 3) := by decide +kernel
theorem dX10_shortest_91 : decode cX10_shortest 91 = .ok (.aload_n 3, 1) := by decide +kernel
theorem dX10_shortest_92 : decode cX10_shortest 92 = .ok (.getfield 180, 3) := by decide +kernel
theorem dX10_shortest_95 : decode cX10_shortest 95 = .ok (.iload_n 1, 1) := by decide +kernel
theorem dX10_shortest_96 : decode cX10_shortest 96 = .ok (.iaload, 1) := by decide +kernel
theorem dX10_shortest_97 : decode cX10_shortest 97 = .ok (.iload_n 2, 1) := by decide +kernel
theorem dX10_shortest_98 : decode cX10_shortest 98 = .ok (.aload 4, 2) := by decide +kernel
theorem dX10_shortest_100 : decode cX10_shortest 100 = .ok (.getfield 150, 3) := by decide +kernel
theorem dX10_shortest_103 : decode cX10_shortest 103 = .ok (.iload 6, 2) := by decide +kernel
theorem dX10_shortest_105 : decode cX10_shortest 105 = .ok (.iaload, 1) := by decide +kernel
theorem dX10_shortest_106 : decode cX10_shortest 106 = .ok (.invokevirtual 256, 3) := by decide +kernel
theorem dX10_shortest_109 : decode cX10_shortest 109 = .ok (.istore 7, 2) := by decide +kernel
theorem dX10_shortest_111 : decode cX10_shortest 111 = .ok (.iload 7, 2) := by decide +kernel
theorem dX10_shortest_113 : decode cX10_shortest 113 = .ok (.bipush (-2), 2) := by decide +kernel
theorem dX10_shortest_115 : decode cX10_shortest 115 = .ok (.if_icmp .eq 21, 3) := by decide +kernel
theorem dX10_shortest_118 : decode cX10_shortest 118 = .ok (.iload 5, 2) := by decide +kernel
theorem dX10_shortest_120 : decode cX10_shortest 120 = .ok (.bipush (-2), 2) := by decide +kernel
theorem dX10_shortest_122 : decode cX10_shortest 122 = .ok (.if_icmp .eq 10, 3) := by decide +kernel
theorem dX10_shortest_125 : decode cX10_shortest 125 = .ok (.iload 7, 2) := by decide +kernel
theorem dX10_shortest_127 : decode cX10_shortest 127 = .ok (.iload 5, 2) := by decide +kernel
theorem dX10_shortest_129 : decode cX10_shortest 129 = .ok (.if_icmp .ge 7, 3) := by decide +kernel
theorem dX10_shortest_132 : decode cX10_shortest 132 = .ok (.iload 7, 2) := by decide +kernel
theorem dX10_shortest_134 : decode cX10_shortest 134 = .ok (.istore 5, 2) := by decide +kernel
theorem dX10_shortest_136 : decode cX10_shortest 136 = .ok (.iinc 6 1, 3) := by decide +kernel
theorem dX10_shortest_139 : decode cX10_shortest 139 = .ok (.goto (-81), 3) := by decide +kernel
theorem dX10_shortest_142 : decode cX10_shortest 142 = .ok (.iload 5, 2) := by decide +kernel
theorem dX10_shortest_144 : decode cX10_shortest 144 = .ok (.ireturn, 1) := by decide +kernel
theorem dX10_stop_0 : decode cX10_stop 0 = .ok (.aload_n 0, 1) := by decide +kernel
theorem dX10_stop_1 : decode cX10_stop 1 = .ok (.getfield 40, 3) := by decide +kernel
theorem dX10_stop_4 : decode cX10_stop 4 = .ok (.getfield 93, 3) := by decide +kernel
theorem dX10_stop_7 : decode cX10_stop 7 = .ok (.iload_n 1, 1) := by decide +kernel
theorem dX10_stop_8 : decode cX10_stop 8 = .ok (.invokevirtual 172, 3) := by decide +kernel
theorem dX10_stop_11 : decode cX10_stop 11 = .ok (.ifCond .eq 17, 3) := by decide +kernel
theorem dX10_stop_14 : decode cX10_stop 14 = .ok (.aload_n 0, 1) := by decide +kernel
theorem dX10_stop_15 : decode cX10_stop 15 = .ok (.getfield 40, 3) := by decide +kernel
theorem dX10_stop_18 : decode cX10_stop 18 = .ok (.getfield 77, 3) := by decide +kernel
theorem dX10_stop_21 : decode cX10_stop 21 = .ok (.iload_n 2, 1) := by decide +kernel
theorem dX10_stop_22 : decode cX10_stop 22 = .ok (.invokevirtual 249, 3) := by decide +kernel
theorem dX10_stop_25 : decode cX10_stop 25 = .ok (.ifCond .ne 5, 3) := by decide +kernel
theorem dX10_stop_28 : decode cX10_stop 28 = .ok (.iconst (-1), 1) := by decide +kernel
theorem dX10_stop_29 : decode cX10_stop 29 = .ok (.ireturn, 1) := by decide +kernel
theorem dX10_stop_30 : decode cX10_stop 30 = .ok (.aload_n 0, 1) := by decide +kernel
theorem dX10_stop_31 : decode cX10_stop 31 = .ok (.getfield 40, 3) := by decide +kernel
theorem dX10_stop_34 : decode cX10_stop 34 = .ok (.iload_n 1, 1) := by decide +kernel
theorem dX10_stop_35 : decode cX10_stop 35 = .ok (.iload_n 2, 1) := by decide +kernel
theorem dX10_stop_36 : decode cX10_stop 36 = .ok (.invokevirtual 260, 3) := by decide +kernel
theorem dX10_stop_39 : decode cX10_stop 39 = .ok (.istore_n 3, 1) := by decide +kernel
theorem dX10_stop_40 : decode cX10_stop 40 = .ok (.iload_n 3, 1) := by decide +kernel
theorem dX10_stop_41 : decode cX10_stop 41 = .ok (.ifCond .ne 7, 3) := by decide +kernel
theorem dX10_stop_44 : decode cX10_stop 44 = .ok (.iconst 0, 1) := by decide +kernel
theorem dX10_stop_45 : decode cX10_stop 45 = .ok (.goto 4, 3) := by decide +kernel
theorem dX10_stop_48 : decode cX10_stop 48 = .ok (.iconst 1, 1) := by decide +kernel
theorem dX10_stop_49 : decode cX10_stop 49 = .ok (.istore 4, 2) := by decide +kernel
theorem dX10_stop_51 : decode cX10_stop 51 = .ok (.aload_n 0, 1) := by decide +kernel
theorem dX10_stop_52 : decode cX10_stop 52 = .ok (.getfield 40, 3) := by decide +kernel
theorem dX10_stop_55 : decode cX10_stop 55 = .ok (.getfield 93, 3) := by decide +kernel
theorem dX10_stop_58 : decode cX10_stop 58 = .ok (.getfield 187, 3) := by decide +kernel
theorem dX10_stop_61 : decode cX10_stop 61 = .ok (.iload_n 1, 1) := by decide +kernel
theorem dX10_stop_62 : decode cX10_stop 62 = .ok (.dup2, 1) := by decide +kernel
theorem dX10_stop_63 : decode cX10_stop 63 = .ok (.iaload, 1) := by decide +kernel
theorem dX10_stop_64 : decode cX10_stop 64 = .ok (.iload 4, 2) := by decide +kernel
theorem dX10_stop_66 : decode cX10_stop 66 = .ok (.iadd, 1) := by decide +kernel
theorem dX10_stop_67 : decode cX10_stop 67 = .ok (.iastore, 1) := by decide +kernel
theorem dX10_stop_68 : decode cX10_stop 68 = .ok (.aload_n 0, 1) := by decide +kernel
theorem dX10_stop_69 : decode cX10_stop 69 = .ok (.getfield 40, 3) := by decide +kernel
theorem dX10_stop_72 : decode cX10_stop 72 = .ok (.getfield 118, 3) := by decide +kernel
theorem dX10_stop_75 : decode cX10_stop 75 = .ok (.iconst 3, 1) := by decide +kernel
theorem dX10_stop_76 : decode cX10_stop 76 = .ok (.iload_n 1, 1) := by decide +kernel
theorem dX10_stop_77 : decode cX10_stop 77 = .ok (.iload 4, 2) := by decide +kernel
theorem dX10_stop_79 : decode cX10_stop 79 = .ok (.invokevirtual 270, 3) := by decide +kernel
theorem dX10_stop_82 : decode cX10_stop 82 = .ok (.iload_n 3, 1) := by decide +kernel
theorem dX10_stop_83 : decode cX10_stop 83 = .ok (.ireturn, 1) := by decide +kernel
theorem dX10_text_0 : decode cX10_text 0 = .ok (.aload_n 0, 1) := by decide +kernel
theorem dX10_text_1 : decode cX10_text 1 = .ok (.getfield 44, 3) := by decide +kernel
theorem dX10_text_4 : decode cX10_text 4 = .ok (.invokevirtual 55, 3) := by decide +kernel
theorem dX10_text_7 : decode cX10_text 7 = .ok (.aload_n 0, 1) := by decide +kernel
theorem dX10_text_8 : decode cX10_text 8 = .ok (.getfield 26, 3) := by decide +kernel
theorem dX10_text_11 : decode cX10_text 11 = .ok (.aload_n 0, 1) := by decide +kernel
theorem dX10_text_12 : decode cX10_text 12 = .ok (.getfield 44, 3) := by decide +kernel
theorem dX10_text_15 : decode cX10_text 15 = .ok (.invokevirtual 58, 3) := by decide +kernel
theorem dX10_text_18 : decode cX10_text 18 = .ok (.istore_n 1, 1) := by decide +kernel
theorem dX10_text_19 : decode cX10_text 19 = .ok (.aload_n 0, 1) := by decide +kernel
theorem dX10_text_20 : decode cX10_text 20 = .ok (.getfield 10, 3) := by decide +kernel
theorem dX10_text_23 : decode cX10_text 23 = .ok (.iconst 0, 1) := by decide +kernel
theorem dX10_text_24 : decode cX10_text 24 = .ok (.putfield 47, 3) := by decide +kernel
theorem dX10_text_27 : decode cX10_text 27 = .ok (.aload_n 0, 1) := by decide +kernel
theorem dX10_text_28 : decode cX10_text 28 = .ok (.aload_n 0, 1) := by decide +kernel
theorem dX10_text_29 : decode cX10_text 29 = .ok (.getfield 26, 3) := by decide +kernel
theorem dX10_text_32 : decode cX10_text 32 = .ok (.getfield 62, 3) := by decide +kernel
theorem dX10_text_35 : decode cX10_text 35 = .ok (.putfield 65, 3) := by decide +kernel
theorem dX10_text_38 : decode cX10_text 38 = .ok (.iload_n 1, 1) := by decide +kernel
theorem dX10_text_39 : decode cX10_text 39 = .ok (.ifCond .ne 13, 3) := by decide +kernel
theorem dX10_text_42 : decode cX10_text 42 = .ok (.iconst (-1), 1) := by decide +kernel
theorem dX10_text_43 : decode cX10_text 43 = .ok (.aload_n 0, 1) := by decide +kernel
theorem dX10_text_44 : decode cX10_text 44 = .ok (.getfield 26, 3) := by decide +kernel
theorem dX10_text_47 : decode cX10_text 47 = .ok (.getfield 68, 3) := by decide +kernel
theorem dX10_text_50 : decode cX10_text 50 = .ok (.isub, 1) := by decide +kernel
theorem dX10_text_51 : decode cX10_text 51 = .ok (.ireturn, 1) := by decide +kernel
theorem dX10_text_52 : decode cX10_text 52 = .ok (.aload_n 0, 1) := by decide +kernel
theorem dX10_text_53 : decode cX10_text 53 = .ok (.getfield 44, 3) := by decide +kernel
theorem dX10_text_56 : decode cX10_text 56 = .ok (.astore_n 2, 1) := by decide +kernel
theorem dX10_text_57 : decode cX10_text 57 = .ok (.aload_n 0, 1) := by decide +kernel
theorem dX10_text_58 : decode cX10_text 58 = .ok (.aload_n 0, 1) := by decide +kernel
theorem dX10_text_59 : decode cX10_text 59 = .ok (.getfield 40, 3) := by decide +kernel
theorem dX10_text_62 : decode cX10_text 62 = .ok (.putfield 44, 3) := by decide +kernel
theorem dX10_text_65 : decode cX10_text 65 = .ok (.aload_n 0, 1) := by decide +kernel
theorem dX10_text_66 : decode cX10_text 66 = .ok (.aload_n 2, 1) := by decide +kernel
theorem dX10_text_67 : decode cX10_text 67 = .ok (.putfield 40, 3) := by decide +kernel
theorem dX10_text_70 : decode cX10_text 70 = .ok (.aload_n 0, 1) := by decide +kernel
theorem dX10_text_71 : decode cX10_text 71 = .ok (.getfield 26, 3) := by decide +kernel
theorem dX10_text_74 : decode cX10_text 74 = .ok (.getfield 71, 3) := by decide +kernel
theorem dX10_text_77 : decode cX10_text 77 = .ok (.ireturn, 1) := by decide +kernel
theorem dX10_trip_0 : decode cX10_trip 0 = .ok (.aload_n 0, 1) := by decide +kernel
theorem dX10_trip_1 : decode cX10_trip 1 = .ok (.getfield 40, 3) := by decide +kernel
theorem dX10_trip_4 : decode cX10_trip 4 = .ok (.getfield 100, 3) := by decide +kernel
theorem dX10_trip_7 : decode cX10_trip 7 = .ok (.astore_n 3, 1) := by decide +kernel
theorem dX10_trip_8 : decode cX10_trip 8 = .ok (.aload_n 3, 1) := by decide +kernel
theorem dX10_trip_9 : decode cX10_trip 9 = .ok (.iload_n 1, 1) := by decide +kernel
theorem dX10_trip_10 : decode cX10_trip 10 = .ok (.invokevirtual 195, 3) := by decide +kernel
theorem dX10_trip_13 : decode cX10_trip 13 = .ok (.ifCond .ne 5, 3) := by decide +kernel
theorem dX10_trip_16 : decode cX10_trip 16 = .ok (.iconst (-1), 1) := by decide +kernel
theorem dX10_trip_17 : decode cX10_trip 17 = .ok (.ireturn, 1) := by decide +kernel
theorem dX10_trip_18 : decode cX10_trip 18 = .ok (.iload_n 2, 1) := by decide +kernel
theorem dX10_trip_19 : decode cX10_trip 19 = .ok (.tableswitch 90 0 6 #[41, 48, 55, 62, 69, 76, 83], 41) := by decide +kernel
theorem dX10_trip_60 : decode cX10_trip 60 = .ok (.aload_n 3, 1) := by decide +kernel
theorem dX10_trip_61 : decode cX10_trip 61 = .ok (.getfield 196, 3) := by decide +kernel
theorem dX10_trip_64 : decode cX10_trip 64 = .ok (.iload_n 1, 1) := by decide +kernel
theorem dX10_trip_65 : decode cX10_trip 65 = .ok (.iaload, 1) := by decide +kernel
theorem dX10_trip_66 : decode cX10_trip 66 = .ok (.ireturn, 1) := by decide +kernel
theorem dX10_trip_67 : decode cX10_trip 67 = .ok (.aload_n 3, 1) := by decide +kernel
theorem dX10_trip_68 : decode cX10_trip 68 = .ok (.getfield 199, 3) := by decide +kernel
theorem dX10_trip_71 : decode cX10_trip 71 = .ok (.iload_n 1, 1) := by decide +kernel
theorem dX10_trip_72 : decode cX10_trip 72 = .ok (.iaload, 1) := by decide +kernel
theorem dX10_trip_73 : decode cX10_trip 73 = .ok (.ireturn, 1) := by decide +kernel
theorem dX10_trip_74 : decode cX10_trip 74 = .ok (.aload_n 3, 1) := by decide +kernel
theorem dX10_trip_75 : decode cX10_trip 75 = .ok (.getfield 202, 3) := by decide +kernel
theorem dX10_trip_78 : decode cX10_trip 78 = .ok (.iload_n 1, 1) := by decide +kernel
theorem dX10_trip_79 : decode cX10_trip 79 = .ok (.iaload, 1) := by decide +kernel
theorem dX10_trip_80 : decode cX10_trip 80 = .ok (.ireturn, 1) := by decide +kernel
theorem dX10_trip_81 : decode cX10_trip 81 = .ok (.aload_n 3, 1) := by decide +kernel
theorem dX10_trip_82 : decode cX10_trip 82 = .ok (.getfield 205, 3) := by decide +kernel
theorem dX10_trip_85 : decode cX10_trip 85 = .ok (.iload_n 1, 1) := by decide +kernel
theorem dX10_trip_86 : decode cX10_trip 86 = .ok (.iaload, 1) := by decide +kernel
theorem dX10_trip_87 : decode cX10_trip 87 = .ok (.ireturn, 1) := by decide +kernel
theorem dX10_trip_88 : decode cX10_trip 88 = .ok (.aload_n 3, 1) := by decide +kernel
theorem dX10_trip_89 : decode cX10_trip 89 = .ok (.getfield 208, 3) := by decide +kernel
theorem dX10_trip_92 : decode cX10_trip 92 = .ok (.iload_n 1, 1) := by decide +kernel
theorem dX10_trip_93 : decode cX10_trip 93 = .ok (.iaload, 1) := by decide +kernel
theorem dX10_trip_94 : decode cX10_trip 94 = .ok (.ireturn, 1) := by decide +kernel
theorem dX10_trip_95 : decode cX10_trip 95 = .ok (.aload_n 3, 1) := by decide +kernel
theorem dX10_trip_96 : decode cX10_trip 96 = .ok (.getfield 211, 3) := by decide +kernel
theorem dX10_trip_99 : decode cX10_trip 99 = .ok (.iload_n 1, 1) := by decide +kernel
theorem dX10_trip_100 : decode cX10_trip 100 = .ok (.iaload, 1) := by decide +kernel
theorem dX10_trip_101 : decode cX10_trip 101 = .ok (.ireturn, 1) := by decide +kernel
theorem dX10_trip_102 : decode cX10_trip 102 = .ok (.aload_n 3, 1) := by decide +kernel
theorem dX10_trip_103 : decode cX10_trip 103 = .ok (.getfield 214, 3) := by decide +kernel
theorem dX10_trip_106 : decode cX10_trip 106 = .ok (.iload_n 1, 1) := by decide +kernel
theorem dX10_trip_107 : decode cX10_trip 107 = .ok (.iaload, 1) := by decide +kernel
theorem dX10_trip_108 : decode cX10_trip 108 = .ok (.ireturn, 1) := by decide +kernel
theorem dX10_trip_109 : decode cX10_trip 109 = .ok (.iload_n 2, 1) := by decide +kernel
theorem dX10_trip_110 : decode cX10_trip 110 = .ok (.bipush 10, 2) := by decide +kernel
theorem dX10_trip_112 : decode cX10_trip 112 = .ok (.if_icmp .ge 7, 3) := by decide +kernel
theorem dX10_trip_115 : decode cX10_trip 115 = .ok (.iconst (-1), 1) := by decide +kernel
theorem dX10_trip_116 : decode cX10_trip 116 = .ok (.goto 12, 3) := by decide +kernel
theorem dX10_trip_119 : decode cX10_trip 119 = .ok (.aload_n 3, 1) := by decide +kernel
theorem dX10_trip_120 : decode cX10_trip 120 = .ok (.iload_n 1, 1) := by decide +kernel
theorem dX10_trip_121 : decode cX10_trip 121 = .ok (.iload_n 2, 1) := by decide +kernel
theorem dX10_trip_122 : decode cX10_trip 122 = .ok (.bipush 10, 2) := by decide +kernel
theorem dX10_trip_124 : decode cX10_trip 124 = .ok (.isub, 1) := by decide +kernel
theorem dX10_trip_125 : decode cX10_trip 125 = .ok (.invokevirtual 217, 3) := by decide +kernel
theorem dX10_trip_128 : decode cX10_trip 128 = .ok (.ireturn, 1) := by decide +kernel
theorem dX10_type_0 : decode cX10_type 0 = .ok (.aload_n 0, 1) := by decide +kernel
theorem dX10_type_1 : decode cX10_type 1 = .ok (.getfield 40, 3) := by decide +kernel
theorem dX10_type_4 : decode cX10_type 4 = .ok (.getfield 86, 3) := by decide +kernel
theorem dX10_type_7 : decode cX10_type 7 = .ok (.astore_n 3, 1) := by decide +kernel
theorem dX10_type_8 : decode cX10_type 8 = .ok (.aload_n 3, 1) := by decide +kernel
theorem dX10_type_9 : decode cX10_type 9 = .ok (.iload_n 1, 1) := by decide +kernel
theorem dX10_type_10 : decode cX10_type 10 = .ok (.invokevirtual 127, 3) := by decide +kernel
theorem dX10_type_13 : decode cX10_type 13 = .ok (.ifCond .ne 5, 3) := by decide +kernel
theorem dX10_type_16 : decode cX10_type 16 = .ok (.iconst (-1), 1) := by decide +kernel
theorem dX10_type_17 : decode cX10_type 17 = .ok (.ireturn, 1) := by decide +kernel
theorem dX10_type_18 : decode cX10_type 18 = .ok (.iload_n 2, 1) := by decide +kernel
theorem dX10_type_19 : decode cX10_type 19 = .ok (.tableswitch 100 0 7 #[45, 52, 59, 66, 73, 80, 87, 94], 45) := by decide +kernel
theorem dX10_type_64 : decode cX10_type 64 = .ok (.aload_n 3, 1) := by decide +kernel
theorem dX10_type_65 : decode cX10_type 65 = .ok (.getfield 131, 3) := by decide +kernel
theorem dX10_type_68 : decode cX10_type 68 = .ok (.iload_n 1, 1) := by decide +kernel
theorem dX10_type_69 : decode cX10_type 69 = .ok (.iaload, 1) := by decide +kernel
theorem dX10_type_70 : decode cX10_type 70 = .ok (.ireturn, 1) := by decide +kernel
theorem dX10_type_71 : decode cX10_type 71 = .ok (.aload_n 3, 1) := by decide +kernel
theorem dX10_type_72 : decode cX10_type 72 = .ok (.getfield 135, 3) := by decide +kernel
theorem dX10_type_75 : decode cX10_type 75 = .ok (.iload_n 1, 1) := by decide +kernel
theorem dX10_type_76 : decode cX10_type 76 = .ok (.iaload, 1) := by decide +kernel
theorem dX10_type_77 : decode cX10_type 77 = .ok (.ireturn, 1) := by decide +kernel
theorem dX10_type_78 : decode cX10_type 78 = .ok (.aload_n 3, 1) := by decide +kernel
theorem dX10_type_79 : decode cX10_type 79 = .ok (.getfield 138, 3) := by decide +kernel
theorem dX10_type_82 : decode cX10_type 82 = .ok (.iload_n 1, 1) := by decide +kernel
theorem dX10_type_83 : decode cX10_type 83 = .ok (.iaload, 1) := by decide +kernel
theorem dX10_type_84 : decode cX10_type 84 = .ok (.ireturn, 1) := by decide +kernel
theorem dX10_type_85 : decode cX10_type 85 = .ok (.aload_n 3, 1) := by decide +kernel
theorem dX10_type_86 : decode cX10_type 86 = .ok (.getfield 141, 3) := by decide +kernel
theorem dX10_type_89 : decode cX10_type 89 = .ok (.iload_n 1, 1) := by decide +kernel
theorem dX10_type_90 : decode cX10_type 90 = .ok (.iaload, 1) := by decide +kernel
theorem dX10_type_91 : decode cX10_type 91 = .ok (.ireturn, 1) := by decide +kernel
theorem dX10_type_92 : decode cX10_type 92 = .ok (.aload_n 3, 1) := by decide +kernel
theorem dX10_type_93 : decode cX10_type 93 = .ok (.getfield 144, 3) := by decide +kernel
end
section
theorem dX10_type_96 : decode cX10_type 96 = .ok (.iload_n 1, 1) := by decide +kernel
theorem dX10_type_97 : decode cX10_type 97 = .ok (.iaload, 1) := by decide +kernel
theorem dX10_type_98 : decode cX10_type 98 = .ok (.ireturn, 1) := by decide +kernel
theorem dX10_type_99 : decode cX10_type 99 = .ok (.aload_n 3, 1) := by decide +kernel
theorem dX10_type_100 : decode cX10_type 100 = .ok (.getfield 147, 3) := by decide +kernel
theorem dX10_type_103 : decode cX10_type 103 = .ok (.iload_n 1, 1) := by decide +kernel
theorem dX10_type_104 : decode cX10_type 104 = .ok (.iaload, 1) := by decide +kernel
theorem dX10_type_105 : decode cX10_type 105 = .ok (.ireturn, 1) := by decide +kernel
theorem dX10_type_106 : decode cX10_type 106 = .ok (.aload_n 3, 1) := by decide +kernel
theorem dX10_type_107 : decode cX10_type 107 = .ok (.getfield 150, 3) := by decide +kernel
theorem dX10_type_110 : decode cX10_type 110 = .ok (.iload_n 1, 1) := by decide +kernel
theorem dX10_type_111 : decode cX10_type 111 = .ok (.iaload, 1) := by decide +kernel
theorem dX10_type_112 : decode cX10_type 112 = .ok (.ireturn, 1) := by decide +kernel
theorem dX10_type_113 : decode cX10_type 113 = .ok (.aload_n 3, 1) := by decide +kernel
theorem dX10_type_114 : decode cX10_type 114 = .ok (.iload_n 1, 1) := by decide +kernel
theorem dX10_type_115 : decode cX10_type 115 = .ok (.invokevirtual 153, 3) := by decide +kernel
theorem dX10_type_118 : decode cX10_type 118 = .ok (.ireturn, 1) := by decide +kernel
theorem dX10_type_119 : decode cX10_type 119 = .ok (.iconst (-1), 1) := by decide +kernel
theorem dX10_type_120 : decode cX10_type 120 = .ok (.ireturn, 1) := by decide +kernel
theorem dX10_undo_0 : decode cX10_undo 0 = .ok (.aload_n 0, 1) := by decide +kernel
theorem dX10_undo_1 : decode cX10_undo 1 = .ok (.getfield 40, 3) := by decide +kernel
theorem dX10_undo_4 : decode cX10_undo 4 = .ok (.getfield 118, 3) := by decide +kernel
theorem dX10_undo_7 : decode cX10_undo 7 = .ok (.astore_n 1, 1) := by decide +kernel
theorem dX10_undo_8 : decode cX10_undo 8 = .ok (.aload_n 1, 1) := by decide +kernel
theorem dX10_undo_9 : decode cX10_undo 9 = .ok (.getfield 122, 3) := by decide +kernel
theorem dX10_undo_12 : decode cX10_undo 12 = .ok (.ifCond .gt 5, 3) := by decide +kernel
theorem dX10_undo_15 : decode cX10_undo 15 = .ok (.iconst (-1), 1) := by decide +kernel
theorem dX10_undo_16 : decode cX10_undo 16 = .ok (.ireturn, 1) := by decide +kernel
theorem dX10_undo_17 : decode cX10_undo 17 = .ok (.aload_n 1, 1) := by decide +kernel
theorem dX10_undo_18 : decode cX10_undo 18 = .ok (.invokevirtual 293, 3) := by decide +kernel
theorem dX10_undo_21 : decode cX10_undo 21 = .ok (.istore_n 2, 1) := by decide +kernel
theorem dX10_undo_22 : decode cX10_undo 22 = .ok (.aload_n 0, 1) := by decide +kernel
theorem dX10_undo_23 : decode cX10_undo 23 = .ok (.getfield 40, 3) := by decide +kernel
theorem dX10_undo_26 : decode cX10_undo 26 = .ok (.aload_n 1, 1) := by decide +kernel
theorem dX10_undo_27 : decode cX10_undo 27 = .ok (.getfield 296, 3) := by decide +kernel
theorem dX10_undo_30 : decode cX10_undo 30 = .ok (.iload_n 2, 1) := by decide +kernel
theorem dX10_undo_31 : decode cX10_undo 31 = .ok (.iaload, 1) := by decide +kernel
theorem dX10_undo_32 : decode cX10_undo 32 = .ok (.aload_n 1, 1) := by decide +kernel
theorem dX10_undo_33 : decode cX10_undo 33 = .ok (.getfield 297, 3) := by decide +kernel
theorem dX10_undo_36 : decode cX10_undo 36 = .ok (.iload_n 2, 1) := by decide +kernel
theorem dX10_undo_37 : decode cX10_undo 37 = .ok (.iaload, 1) := by decide +kernel
theorem dX10_undo_38 : decode cX10_undo 38 = .ok (.aload_n 1, 1) := by decide +kernel
theorem dX10_undo_39 : decode cX10_undo 39 = .ok (.getfield 300, 3) := by decide +kernel
theorem dX10_undo_42 : decode cX10_undo 42 = .ok (.iload_n 2, 1) := by decide +kernel
theorem dX10_undo_43 : decode cX10_undo 43 = .ok (.iaload, 1) := by decide +kernel
theorem dX10_undo_44 : decode cX10_undo 44 = .ok (.invokevirtual 303, 3) := by decide +kernel
theorem dX10_undo_47 : decode cX10_undo 47 = .ok (.aload_n 1, 1) := by decide +kernel
theorem dX10_undo_48 : decode cX10_undo 48 = .ok (.getfield 122, 3) := by decide +kernel
theorem dX10_undo_51 : decode cX10_undo 51 = .ok (.ireturn, 1) := by decide +kernel
end
section
theorem dX11_ask_0 : decode cX11_ask 0 = .ok (.aload_n 0, 1) := by decide +kernel
theorem dX11_ask_1 : decode cX11_ask 1 = .ok (.iconst 0, 1) := by decide +kernel
theorem dX11_ask_2 : decode cX11_ask 2 = .ok (.putfield 1, 3) := by decide +kernel
theorem dX11_ask_5 : decode cX11_ask 5 = .ok (.aload_n 0, 1) := by decide +kernel
theorem dX11_ask_6 : decode cX11_ask 6 = .ok (.iload_n 1, 1) := by decide +kernel
theorem dX11_ask_7 : decode cX11_ask 7 = .ok (.iload_n 2, 1) := by decide +kernel
theorem dX11_ask_8 : decode cX11_ask 8 = .ok (.iload_n 3, 1) := by decide +kernel
theorem dX11_ask_9 : decode cX11_ask 9 = .ok (.invokevirtual 256, 3) := by decide +kernel
theorem dX11_ask_12 : decode cX11_ask 12 = .ok (.ifCond .ne 5, 3) := by decide +kernel
theorem dX11_ask_15 : decode cX11_ask 15 = .ok (.iconst (-1), 1) := by decide +kernel
theorem dX11_ask_16 : decode cX11_ask 16 = .ok (.ireturn, 1) := by decide +kernel
theorem dX11_ask_17 : decode cX11_ask 17 = .ok (.aload_n 0, 1) := by decide +kernel
theorem dX11_ask_18 : decode cX11_ask 18 = .ok (.iload_n 1, 1) := by decide +kernel
theorem dX11_ask_19 : decode cX11_ask 19 = .ok (.invokevirtual 201, 3) := by decide +kernel
theorem dX11_ask_22 : decode cX11_ask 22 = .ok (.iconst (-1), 1) := by decide +kernel
theorem dX11_ask_23 : decode cX11_ask 23 = .ok (.if_icmp .eq 6, 3) := by decide +kernel
theorem dX11_ask_26 : decode cX11_ask 26 = .ok (.bipush (-2), 2) := by decide +kernel
theorem dX11_ask_28 : decode cX11_ask 28 = .ok (.ireturn, 1) := by decide +kernel
theorem dX11_ask_29 : decode cX11_ask 29 = .ok (.aload_n 0, 1) := by decide +kernel
theorem dX11_ask_30 : decode cX11_ask 30 = .ok (.getfield 72, 3) := by decide +kernel
theorem dX11_ask_33 : decode cX11_ask 33 = .ok (.iconst 5, 1) := by decide +kernel
theorem dX11_ask_34 : decode cX11_ask 34 = .ok (.iaload, 1) := by decide +kernel
theorem dX11_ask_35 : decode cX11_ask 35 = .ok (.bipush 40, 2) := by decide +kernel
theorem dX11_ask_37 : decode cX11_ask 37 = .ok (.if_icmp .ne 6, 3) := by decide +kernel
theorem dX11_ask_40 : decode cX11_ask 40 = .ok (.bipush (-3), 2) := by decide +kernel
theorem dX11_ask_42 : decode cX11_ask 42 = .ok (.ireturn, 1) := by decide +kernel
theorem dX11_ask_43 : decode cX11_ask 43 = .ok (.aload_n 0, 1) := by decide +kernel
theorem dX11_ask_44 : decode cX11_ask 44 = .ok (.invokevirtual 259, 3) := by decide +kernel
theorem dX11_ask_47 : decode cX11_ask 47 = .ok (.aload_n 0, 1) := by decide +kernel
theorem dX11_ask_48 : decode cX11_ask 48 = .ok (.getfield 72, 3) := by decide +kernel
theorem dX11_ask_51 : decode cX11_ask 51 = .ok (.iconst 5, 1) := by decide +kernel
theorem dX11_ask_52 : decode cX11_ask 52 = .ok (.iaload, 1) := by decide +kernel
theorem dX11_ask_53 : decode cX11_ask 53 = .ok (.istore 4, 2) := by decide +kernel
theorem dX11_ask_55 : decode cX11_ask 55 = .ok (.bipush 111, 2) := by decide +kernel
theorem dX11_ask_57 : decode cX11_ask 57 = .ok (.bipush 13, 2) := by decide +kernel
theorem dX11_ask_59 : decode cX11_ask 59 = .ok (.iload 4, 2) := by decide +kernel
theorem dX11_ask_61 : decode cX11_ask 61 = .ok (.imul, 1) := by decide +kernel
theorem dX11_ask_62 : decode cX11_ask 62 = .ok (.iadd, 1) := by decide +kernel
theorem dX11_ask_63 : decode cX11_ask 63 = .ok (.istore 5, 2) := by decide +kernel
theorem dX11_ask_65 : decode cX11_ask 65 = .ok (.aload_n 0, 1) := by decide +kernel
theorem dX11_ask_66 : decode cX11_ask 66 = .ok (.getfield 72, 3) := by decide +kernel
theorem dX11_ask_69 : decode cX11_ask 69 = .ok (.iload 5, 2) := by decide +kernel
theorem dX11_ask_71 : decode cX11_ask 71 = .ok (.iconst 0, 1) := by decide +kernel
theorem dX11_ask_72 : decode cX11_ask 72 = .ok (.iadd, 1) := by decide +kernel
theorem dX11_ask_73 : decode cX11_ask 73 = .ok (.iload_n 1, 1) := by decide +kernel
theorem dX11_ask_74 : decode cX11_ask 74 = .ok (.iastore, 1) := by decide +kernel
theorem dX11_ask_75 : decode cX11_ask 75 = .ok (.aload_n 0, 1) := by decide +kernel
theorem dX11_ask_76 : decode cX11_ask 76 = .ok (.getfield 72, 3) := by decide +kernel
theorem dX11_ask_79 : decode cX11_ask 79 = .ok (.iload 5, 2) := by decide +kernel
theorem dX11_ask_81 : decode cX11_ask 81 = .ok (.iconst 1, 1) := by decide +kernel
theorem dX11_ask_82 : decode cX11_ask 82 = .ok (.iadd, 1) := by decide +kernel
theorem dX11_ask_83 : decode cX11_ask 83 = .ok (.iload_n 3, 1) := by decide +kernel
theorem dX11_ask_84 : decode cX11_ask 84 = .ok (.iastore, 1) := by decide +kernel
theorem dX11_ask_85 : decode cX11_ask 85 = .ok (.aload_n 0, 1) := by decide +kernel
theorem dX11_ask_86 : decode cX11_ask 86 = .ok (.getfield 72, 3) := by decide +kernel
theorem dX11_ask_89 : decode cX11_ask 89 = .ok (.iload 5, 2) := by decide +kernel
theorem dX11_ask_91 : decode cX11_ask 91 = .ok (.iconst 2, 1) := by decide +kernel
theorem dX11_ask_92 : decode cX11_ask 92 = .ok (.iadd, 1) := by decide +kernel
theorem dX11_ask_93 : decode cX11_ask 93 = .ok (.iconst 0, 1) := by decide +kernel
theorem dX11_ask_94 : decode cX11_ask 94 = .ok (.iastore, 1) := by decide +kernel
theorem dX11_ask_95 : decode cX11_ask 95 = .ok (.aload_n 0, 1) := by decide +kernel
theorem dX11_ask_96 : decode cX11_ask 96 = .ok (.getfield 72, 3) := by decide +kernel
theorem dX11_ask_99 : decode cX11_ask 99 = .ok (.iload 5, 2) := by decide +kernel
theorem dX11_ask_101 : decode cX11_ask 101 = .ok (.iconst 3, 1) := by decide +kernel
theorem dX11_ask_102 : decode cX11_ask 102 = .ok (.iadd, 1) := by decide +kernel
theorem dX11_ask_103 : decode cX11_ask 103 = .ok (.iconst (-1), 1) := by decide +kernel
theorem dX11_ask_104 : decode cX11_ask 104 = .ok (.iastore, 1) := by decide +kernel
theorem dX11_ask_105 : decode cX11_ask 105 = .ok (.aload_n 0, 1) := by decide +kernel
theorem dX11_ask_106 : decode cX11_ask 106 = .ok (.getfield 72, 3) := by decide +kernel
theorem dX11_ask_109 : decode cX11_ask 109 = .ok (.iload 5, 2) := by decide +kernel
theorem dX11_ask_111 : decode cX11_ask 111 = .ok (.iconst 4, 1) := by decide +kernel
theorem dX11_ask_112 : decode cX11_ask 112 = .ok (.iadd, 1) := by decide +kernel
theorem dX11_ask_113 : decode cX11_ask 113 = .ok (.iconst (-1), 1) := by decide +kernel
theorem dX11_ask_114 : decode cX11_ask 114 = .ok (.iastore, 1) := by decide +kernel
theorem dX11_ask_115 : decode cX11_ask 115 = .ok (.aload_n 0, 1) := by decide +kernel
theorem dX11_ask_116 : decode cX11_ask 116 = .ok (.getfield 72, 3) := by decide +kernel
theorem dX11_ask_119 : decode cX11_ask 119 = .ok (.iload 5, 2) := by decide +kernel
theorem dX11_ask_121 : decode cX11_ask 121 = .ok (.iconst 5, 1) := by decide +kernel
theorem dX11_ask_122 : decode cX11_ask 122 = .ok (.iadd, 1) := by decide +kernel
theorem dX11_ask_123 : decode cX11_ask 123 = .ok (.iconst (-1), 1) := by decide +kernel
theorem dX11_ask_124 : decode cX11_ask 124 = .ok (.iastore, 1) := by decide +kernel
theorem dX11_ask_125 : decode cX11_ask 125 = .ok (.aload_n 0, 1) := by decide +kernel
theorem dX11_ask_126 : decode cX11_ask 126 = .ok (.getfield 72, 3) := by decide +kernel
theorem dX11_ask_129 : decode cX11_ask 129 = .ok (.iload 5, 2) := by decide +kernel
theorem dX11_ask_131 : decode cX11_ask 131 = .ok (.bipush 6, 2) := by decide +kernel
theorem dX11_ask_133 : decode cX11_ask 133 = .ok (.iadd, 1) := by decide +kernel
theorem dX11_ask_134 : decode cX11_ask 134 = .ok (.iconst 0, 1) := by decide +kernel
theorem dX11_ask_135 : decode cX11_ask 135 = .ok (.iastore, 1) := by decide +kernel
theorem dX11_ask_136 : decode cX11_ask 136 = .ok (.iconst 0, 1) := by decide +kernel
theorem dX11_ask_137 : decode cX11_ask 137 = .ok (.istore 6, 2) := by decide +kernel
theorem dX11_ask_139 : decode cX11_ask 139 = .ok (.iload 6, 2) := by decide +kernel
theorem dX11_ask_141 : decode cX11_ask 141 = .ok (.bipush 6, 2) := by decide +kernel
theorem dX11_ask_143 : decode cX11_ask 143 = .ok (.if_icmp .ge 39, 3) := by decide +kernel
theorem dX11_ask_146 : decode cX11_ask 146 = .ok (.aload_n 0, 1) := by decide +kernel
theorem dX11_ask_147 : decode cX11_ask 147 = .ok (.getfield 72, 3) := by decide +kernel
theorem dX11_ask_150 : decode cX11_ask 150 = .ok (.iload 5, 2) := by decide +kernel
theorem dX11_ask_152 : decode cX11_ask 152 = .ok (.bipush 7, 2) := by decide +kernel
theorem dX11_ask_154 : decode cX11_ask 154 = .ok (.iadd, 1) := by decide +kernel
theorem dX11_ask_155 : decode cX11_ask 155 = .ok (.iload 6, 2) := by decide +kernel
theorem dX11_ask_157 : decode cX11_ask 157 = .ok (.iadd, 1) := by decide +kernel
theorem dX11_ask_158 : decode cX11_ask 158 = .ok (.iload 6, 2) := by decide +kernel
theorem dX11_ask_160 : decode cX11_ask 160 = .ok (.iload_n 3, 1) := by decide +kernel
theorem dX11_ask_161 : decode cX11_ask 161 = .ok (.if_icmp .ge 13, 3) := by decide +kernel
theorem dX11_ask_164 : decode cX11_ask 164 = .ok (.aload_n 0, 1) := by decide +kernel
theorem dX11_ask_165 : decode cX11_ask 165 = .ok (.getfield 100, 3) := by decide +kernel
theorem dX11_ask_168 : decode cX11_ask 168 = .ok (.iload 6, 2) := by decide +kernel
theorem dX11_ask_170 : decode cX11_ask 170 = .ok (.iaload, 1) := by decide +kernel
theorem dX11_ask_171 : decode cX11_ask 171 = .ok (.goto 4, 3) := by decide +kernel
theorem dX11_ask_174 : decode cX11_ask 174 = .ok (.iconst 0, 1) := by decide +kernel
theorem dX11_ask_175 : decode cX11_ask 175 = .ok (.iastore, 1) := by decide +kernel
theorem dX11_ask_176 : decode cX11_ask 176 = .ok (.iinc 6 1, 3) := by decide +kernel
theorem dX11_ask_179 : decode cX11_ask 179 = .ok (.goto (-40), 3) := by decide +kernel
theorem dX11_ask_182 : decode cX11_ask 182 = .ok (.aload_n 0, 1) := by decide +kernel
theorem dX11_ask_183 : decode cX11_ask 183 = .ok (.getfield 72, 3) := by decide +kernel
theorem dX11_ask_186 : decode cX11_ask 186 = .ok (.iconst 5, 1) := by decide +kernel
theorem dX11_ask_187 : decode cX11_ask 187 = .ok (.dup2, 1) := by decide +kernel
theorem dX11_ask_188 : decode cX11_ask 188 = .ok (.iaload, 1) := by decide +kernel
theorem dX11_ask_189 : decode cX11_ask 189 = .ok (.iconst 1, 1) := by decide +kernel
theorem dX11_ask_190 : decode cX11_ask 190 = .ok (.iadd, 1) := by decide +kernel
theorem dX11_ask_191 : decode cX11_ask 191 = .ok (.iastore, 1) := by decide +kernel
theorem dX11_ask_192 : decode cX11_ask 192 = .ok (.iload 4, 2) := by decide +kernel
theorem dX11_ask_194 : decode cX11_ask 194 = .ok (.ireturn, 1) := by decide +kernel
theorem dX11_assign_0 : decode cX11_assign 0 = .ok (.aload_n 0, 1) := by decide +kernel
theorem dX11_assign_1 : decode cX11_assign 1 = .ok (.iconst 0, 1) := by decide +kernel
theorem dX11_assign_2 : decode cX11_assign 2 = .ok (.putfield 1, 3) := by decide +kernel
theorem dX11_assign_5 : decode cX11_assign 5 = .ok (.aload_n 0, 1) := by decide +kernel
theorem dX11_assign_6 : decode cX11_assign 6 = .ok (.invokevirtual 244, 3) := by decide +kernel
theorem dX11_assign_9 : decode cX11_assign 9 = .ok (.aload_n 0, 1) := by decide +kernel
theorem dX11_assign_10 : decode cX11_assign 10 = .ok (.invokevirtual 259, 3) := by decide +kernel
theorem dX11_assign_13 : decode cX11_assign 13 = .ok (.iconst 0, 1) := by decide +kernel
theorem dX11_assign_14 : decode cX11_assign 14 = .ok (.istore_n 1, 1) := by decide +kernel
theorem dX11_assign_15 : decode cX11_assign 15 = .ok (.iload_n 1, 1) := by decide +kernel
theorem dX11_assign_16 : decode cX11_assign 16 = .ok (.aload_n 0, 1) := by decide +kernel
theorem dX11_assign_17 : decode cX11_assign 17 = .ok (.getfield 72, 3) := by decide +kernel
theorem dX11_assign_20 : decode cX11_assign 20 = .ok (.iconst 5, 1) := by decide +kernel
theorem dX11_assign_21 : decode cX11_assign 21 = .ok (.iaload, 1) := by decide +kernel
theorem dX11_assign_22 : decode cX11_assign 22 = .ok (.if_icmp .ge 87, 3) := by decide +kernel
theorem dX11_assign_25 : decode cX11_assign 25 = .ok (.aload_n 0, 1) := by decide +kernel
theorem dX11_assign_26 : decode cX11_assign 26 = .ok (.iload_n 1, 1) := by decide +kernel
theorem dX11_assign_27 : decode cX11_assign 27 = .ok (.iconst 2, 1) := by decide +kernel
theorem dX11_assign_28 : decode cX11_assign 28 = .ok (.invokevirtual 160, 3) := by decide +kernel
theorem dX11_assign_31 : decode cX11_assign 31 = .ok (.ifCond .ne 72, 3) := by decide +kernel
theorem dX11_assign_34 : decode cX11_assign 34 = .ok (.aload_n 0, 1) := by decide +kernel
theorem dX11_assign_35 : decode cX11_assign 35 = .ok (.getfield 87, 3) := by decide +kernel
theorem dX11_assign_38 : decode cX11_assign 38 = .ok (.iload_n 1, 1) := by decide +kernel
theorem dX11_assign_39 : decode cX11_assign 39 = .ok (.iaload, 1) := by decide +kernel
theorem dX11_assign_40 : decode cX11_assign 40 = .ok (.iconst (-1), 1) := by decide +kernel
theorem dX11_assign_41 : decode cX11_assign 41 = .ok (.if_icmp .ne 6, 3) := by decide +kernel
theorem dX11_assign_44 : decode cX11_assign 44 = .ok (.goto 59, 3) := by decide +kernel
theorem dX11_assign_47 : decode cX11_assign 47 = .ok (.aload_n 0, 1) := by decide +kernel
theorem dX11_assign_48 : decode cX11_assign 48 = .ok (.getfield 72, 3) := by decide +kernel
theorem dX11_assign_51 : decode cX11_assign 51 = .ok (.bipush 111, 2) := by decide +kernel
theorem dX11_assign_53 : decode cX11_assign 53 = .ok (.bipush 13, 2) := by decide +kernel
theorem dX11_assign_55 : decode cX11_assign 55 = .ok (.iload_n 1, 1) := by decide +kernel
theorem dX11_assign_56 : decode cX11_assign 56 = .ok (.imul, 1) := by decide +kernel
theorem dX11_assign_57 : decode cX11_assign 57 = .ok (.iadd, 1) := by decide +kernel
theorem dX11_assign_58 : decode cX11_assign 58 = .ok (.iconst 2, 1) := by decide +kernel
theorem dX11_assign_59 : decode cX11_assign 59 = .ok (.iadd, 1) := by decide +kernel
theorem dX11_assign_60 : decode cX11_assign 60 = .ok (.iconst 1, 1) := by decide +kernel
theorem dX11_assign_61 : decode cX11_assign 61 = .ok (.iastore, 1) := by decide +kernel
theorem dX11_assign_62 : decode cX11_assign 62 = .ok (.aload_n 0, 1) := by decide +kernel
theorem dX11_assign_63 : decode cX11_assign 63 = .ok (.getfield 72, 3) := by decide +kernel
theorem dX11_assign_66 : decode cX11_assign 66 = .ok (.bipush 111, 2) := by decide +kernel
theorem dX11_assign_68 : decode cX11_assign 68 = .ok (.bipush 13, 2) := by decide +kernel
theorem dX11_assign_70 : decode cX11_assign 70 = .ok (.iload_n 1, 1) := by decide +kernel
theorem dX11_assign_71 : decode cX11_assign 71 = .ok (.imul, 1) := by decide +kernel
theorem dX11_assign_72 : decode cX11_assign 72 = .ok (.iadd, 1) := by decide +kernel
theorem dX11_assign_73 : decode cX11_assign 73 = .ok (.iconst 3, 1) := by decide +kernel
theorem dX11_assign_74 : decode cX11_assign 74 = .ok (.iadd, 1) := by decide +kernel
theorem dX11_assign_75 : decode cX11_assign 75 = .ok (.aload_n 0, 1) := by decide +kernel
theorem dX11_assign_76 : decode cX11_assign 76 = .ok (.getfield 87, 3) := by decide +kernel
theorem dX11_assign_79 : decode cX11_assign 79 = .ok (.iload_n 1, 1) := by decide +kernel
theorem dX11_assign_80 : decode cX11_assign 80 = .ok (.iaload, 1) := by decide +kernel
theorem dX11_assign_81 : decode cX11_assign 81 = .ok (.iastore, 1) := by decide +kernel
theorem dX11_assign_82 : decode cX11_assign 82 = .ok (.aload_n 0, 1) := by decide +kernel
theorem dX11_assign_83 : decode cX11_assign 83 = .ok (.getfield 72, 3) := by decide +kernel
theorem dX11_assign_86 : decode cX11_assign 86 = .ok (.bipush 111, 2) := by decide +kernel
theorem dX11_assign_88 : decode cX11_assign 88 = .ok (.bipush 13, 2) := by decide +kernel
theorem dX11_assign_90 : decode cX11_assign 90 = .ok (.iload_n 1, 1) := by decide +kernel
theorem dX11_assign_91 : decode cX11_assign 91 = .ok (.imul, 1) := by decide +kernel
theorem dX11_assign_92 : decode cX11_assign 92 = .ok (.iadd, 1) := by decide +kernel
theorem dX11_assign_93 : decode cX11_assign 93 = .ok (.iconst 4, 1) := by decide +kernel
theorem dX11_assign_94 : decode cX11_assign 94 = .ok (.iadd, 1) := by decide +kernel
theorem dX11_assign_95 : decode cX11_assign 95 = .ok (.aload_n 0, 1) := by decide +kernel
theorem dX11_assign_96 : decode cX11_assign 96 = .ok (.getfield 72, 3) := by decide +kernel
theorem dX11_assign_99 : decode cX11_assign 99 = .ok (.bipush 6, 2) := by decide +kernel
theorem dX11_assign_101 : decode cX11_assign 101 = .ok (.iaload, 1) := by decide +kernel
theorem dX11_assign_102 : decode cX11_assign 102 = .ok (.iastore, 1) := by decide +kernel
theorem dX11_assign_103 : decode cX11_assign 103 = .ok (.iinc 1 1, 3) := by decide +kernel
theorem dX11_assign_106 : decode cX11_assign 106 = .ok (.goto (-91), 3) := by decide +kernel
theorem dX11_assign_109 : decode cX11_assign 109 = .ok (.aload_n 0, 1) := by decide +kernel
theorem dX11_assign_110 : decode cX11_assign 110 = .ok (.getfield 225, 3) := by decide +kernel
theorem dX11_assign_113 : decode cX11_assign 113 = .ok (.ireturn, 1) := by decide +kernel
theorem dX11_bad_0 : decode cX11_bad 0 = .ok (.aload_n 0, 1) := by decide +kernel
theorem dX11_bad_1 : decode cX11_bad 1 = .ok (.aload_n 0, 1) := by decide +kernel
theorem dX11_bad_2 : decode cX11_bad 2 = .ok (.getfield 27, 3) := by decide +kernel
theorem dX11_bad_5 : decode cX11_bad 5 = .ok (.iconst 1, 1) := by decide +kernel
theorem dX11_bad_6 : decode cX11_bad 6 = .ok (.if_icmp .ne 7, 3) := by decide +kernel
theorem dX11_bad_9 : decode cX11_bad 9 = .ok (.iconst 1, 1) := by decide +kernel
theorem dX11_bad_10 : decode cX11_bad 10 = .ok (.goto 4, 3) := by decide +kernel
theorem dX11_bad_13 : decode cX11_bad 13 = .ok (.iload_n 1, 1) := by decide +kernel
theorem dX11_bad_14 : decode cX11_bad 14 = .ok (.putfield 60, 3) := by decide +kernel
theorem dX11_bad_17 : decode cX11_bad 17 = .ok (.aload_n 0, 1) := by decide +kernel
theorem dX11_bad_18 : decode cX11_bad 18 = .ok (.aload_n 0, 1) := by decide +kernel
theorem dX11_bad_19 : decode cX11_bad 19 = .ok (.getfield 24, 3) := by decide +kernel
theorem dX11_bad_22 : decode cX11_bad 22 = .ok (.putfield 63, 3) := by decide +kernel
theorem dX11_bad_25 : decode cX11_bad 25 = .ok (.iconst 0, 1) := by decide +kernel
theorem dX11_bad_26 : decode cX11_bad 26 = .ok (.ireturn, 1) := by decide +kernel
theorem dX11_borders_0 : decode cX11_borders 0 = .ok (.iconst 0, 1) := by decide +kernel
theorem dX11_borders_1 : decode cX11_borders 1 = .ok (.istore_n 1, 1) := by decide +kernel
theorem dX11_borders_2 : decode cX11_borders 2 = .ok (.iconst 0, 1) := by decide +kernel
theorem dX11_borders_3 : decode cX11_borders 3 = .ok (.istore_n 2, 1) := by decide +kernel
theorem dX11_borders_4 : decode cX11_borders 4 = .ok (.iload_n 2, 1) := by decide +kernel
theorem dX11_borders_5 : decode cX11_borders 5 = .ok (.bipush 8, 2) := by decide +kernel
theorem dX11_borders_7 : decode cX11_borders 7 = .ok (.if_icmp .ge 41, 3) := by decide +kernel
theorem dX11_borders_10 : decode cX11_borders 10 = .ok (.iconst 0, 1) := by decide +kernel
theorem dX11_borders_11 : decode cX11_borders 11 = .ok (.istore_n 3, 1) := by decide +kernel
theorem dX11_borders_12 : decode cX11_borders 12 = .ok (.iload_n 3, 1) := by decide +kernel
theorem dX11_borders_13 : decode cX11_borders 13 = .ok (.iload_n 2, 1) := by decide +kernel
theorem dX11_borders_14 : decode cX11_borders 14 = .ok (.if_icmp .ge 28, 3) := by decide +kernel
theorem dX11_borders_17 : decode cX11_borders 17 = .ok (.aload_n 0, 1) := by decide +kernel
theorem dX11_borders_18 : decode cX11_borders 18 = .ok (.getfield 72, 3) := by decide +kernel
theorem dX11_borders_21 : decode cX11_borders 21 = .ok (.bipush 103, 2) := by decide +kernel
theorem dX11_borders_23 : decode cX11_borders 23 = .ok (.iload_n 2, 1) := by decide +kernel
theorem dX11_borders_24 : decode cX11_borders 24 = .ok (.iadd, 1) := by decide +kernel
theorem dX11_borders_25 : decode cX11_borders 25 = .ok (.iaload, 1) := by decide +kernel
theorem dX11_borders_26 : decode cX11_borders 26 = .ok (.iload_n 3, 1) := by decide +kernel
theorem dX11_borders_27 : decode cX11_borders 27 = .ok (.invokestatic 113, 3) := by decide +kernel
theorem dX11_borders_30 : decode cX11_borders 30 = .ok (.ifCond .eq 6, 3) := by decide +kernel
theorem dX11_borders_33 : decode cX11_borders 33 = .ok (.iinc 1 1, 3) := by decide +kernel
theorem dX11_borders_36 : decode cX11_borders 36 = .ok (.iinc 3 1, 3) := by decide +kernel
theorem dX11_borders_39 : decode cX11_borders 39 = .ok (.goto (-27), 3) := by decide +kernel
theorem dX11_borders_42 : decode cX11_borders 42 = .ok (.iinc 2 1, 3) := by decide +kernel
theorem dX11_borders_45 : decode cX11_borders 45 = .ok (.goto (-41), 3) := by decide +kernel
theorem dX11_borders_48 : decode cX11_borders 48 = .ok (.iload_n 1, 1) := by decide +kernel
theorem dX11_borders_49 : decode cX11_borders 49 = .ok (.ireturn, 1) := by decide +kernel
theorem dX11_canGo_0 : decode cX11_canGo 0 = .ok (.aload_n 0, 1) := by decide +kernel
theorem dX11_canGo_1 : decode cX11_canGo 1 = .ok (.iload_n 1, 1) := by decide +kernel
theorem dX11_canGo_2 : decode cX11_canGo 2 = .ok (.invokevirtual 195, 3) := by decide +kernel
theorem dX11_canGo_5 : decode cX11_canGo 5 = .ok (.ifCond .eq 17, 3) := by decide +kernel
theorem dX11_canGo_8 : decode cX11_canGo 8 = .ok (.iload_n 3, 1) := by decide +kernel
theorem dX11_canGo_9 : decode cX11_canGo 9 = .ok (.iconst 2, 1) := by decide +kernel
theorem dX11_canGo_10 : decode cX11_canGo 10 = .ok (.bipush 6, 2) := by decide +kernel
theorem dX11_canGo_12 : decode cX11_canGo 12 = .ok (.invokestatic 106, 3) := by decide +kernel
theorem dX11_canGo_15 : decode cX11_canGo 15 = .ok (.ifCond .eq 7, 3) := by decide +kernel
theorem dX11_canGo_18 : decode cX11_canGo 18 = .ok (.iload_n 2, 1) := by decide +kernel
theorem dX11_canGo_19 : decode cX11_canGo 19 = .ok (.ifCond .ge 5, 3) := by decide +kernel
theorem dX11_canGo_22 : decode cX11_canGo 22 = .ok (.iconst 0, 1) := by decide +kernel
theorem dX11_canGo_23 : decode cX11_canGo 23 = .ok (.ireturn, 1) := by decide +kernel
theorem dX11_canGo_24 : decode cX11_canGo 24 = .ok (.iload_n 2, 1) := by decide +kernel
theorem dX11_canGo_25 : decode cX11_canGo 25 = .ok (.istore 4, 2) := by decide +kernel
theorem dX11_canGo_27 : decode cX11_canGo 27 = .ok (.iconst 0, 1) := by decide +kernel
theorem dX11_canGo_28 : decode cX11_canGo 28 = .ok (.istore 5, 2) := by decide +kernel
theorem dX11_canGo_30 : decode cX11_canGo 30 = .ok (.iconst 0, 1) := by decide +kernel
theorem dX11_canGo_31 : decode cX11_canGo 31 = .ok (.istore 6, 2) := by decide +kernel
theorem dX11_canGo_33 : decode cX11_canGo 33 = .ok (.iload 6, 2) := by decide +kernel
theorem dX11_canGo_35 : decode cX11_canGo 35 = .ok (.iload_n 3, 1) := by decide +kernel
theorem dX11_canGo_36 : decode cX11_canGo 36 = .ok (.if_icmp .ge 128, 3) := by decide +kernel
theorem dX11_canGo_39 : decode cX11_canGo 39 = .ok (.aload_n 0, 1) := by decide +kernel
theorem dX11_canGo_40 : decode cX11_canGo 40 = .ok (.getfield 100, 3) := by decide +kernel
theorem dX11_canGo_43 : decode cX11_canGo 43 = .ok (.iload 6, 2) := by decide +kernel
theorem dX11_canGo_45 : decode cX11_canGo 45 = .ok (.iload 4, 2) := by decide +kernel
theorem dX11_canGo_47 : decode cX11_canGo 47 = .ok (.bipush 10, 2) := by decide +kernel
theorem dX11_canGo_49 : decode cX11_canGo 49 = .ok (.irem, 1) := by decide +kernel
theorem dX11_canGo_50 : decode cX11_canGo 50 = .ok (.iastore, 1) := by decide +kernel
theorem dX11_canGo_51 : decode cX11_canGo 51 = .ok (.iload 4, 2) := by decide +kernel
theorem dX11_canGo_53 : decode cX11_canGo 53 = .ok (.bipush 10, 2) := by decide +kernel
theorem dX11_canGo_55 : decode cX11_canGo 55 = .ok (.idiv, 1) := by decide +kernel
theorem dX11_canGo_56 : decode cX11_canGo 56 = .ok (.istore 4, 2) := by decide +kernel
theorem dX11_canGo_58 : decode cX11_canGo 58 = .ok (.aload_n 0, 1) := by decide +kernel
theorem dX11_canGo_59 : decode cX11_canGo 59 = .ok (.aload_n 0, 1) := by decide +kernel
theorem dX11_canGo_60 : decode cX11_canGo 60 = .ok (.getfield 100, 3) := by decide +kernel
theorem dX11_canGo_63 : decode cX11_canGo 63 = .ok (.iload 6, 2) := by decide +kernel
theorem dX11_canGo_65 : decode cX11_canGo 65 = .ok (.iaload, 1) := by decide +kernel
theorem dX11_canGo_66 : decode cX11_canGo 66 = .ok (.invokevirtual 250, 3) := by decide +kernel
theorem dX11_canGo_69 : decode cX11_canGo 69 = .ok (.ifCond .eq 18, 3) := by decide +kernel
theorem dX11_canGo_72 : decode cX11_canGo 72 = .ok (.iload 5, 2) := by decide +kernel
theorem dX11_canGo_74 : decode cX11_canGo 74 = .ok (.aload_n 0, 1) := by decide +kernel
theorem dX11_canGo_75 : decode cX11_canGo 75 = .ok (.getfield 100, 3) := by decide +kernel
theorem dX11_canGo_78 : decode cX11_canGo 78 = .ok (.iload 6, 2) := by decide +kernel
theorem dX11_canGo_80 : decode cX11_canGo 80 = .ok (.iaload, 1) := by decide +kernel
theorem dX11_canGo_81 : decode cX11_canGo 81 = .ok (.invokestatic 113, 3) := by decide +kernel
theorem dX11_canGo_84 : decode cX11_canGo 84 = .ok (.ifCond .eq 5, 3) := by decide +kernel
theorem dX11_canGo_87 : decode cX11_canGo 87 = .ok (.iconst 0, 1) := by decide +kernel
theorem dX11_canGo_88 : decode cX11_canGo 88 = .ok (.ireturn, 1) := by decide +kernel
theorem dX11_canGo_89 : decode cX11_canGo 89 = .ok (.iload 6, 2) := by decide +kernel
theorem dX11_canGo_91 : decode cX11_canGo 91 = .ok (.ifCond .ne 21, 3) := by decide +kernel
theorem dX11_canGo_94 : decode cX11_canGo 94 = .ok (.aload_n 0, 1) := by decide +kernel
theorem dX11_canGo_95 : decode cX11_canGo 95 = .ok (.getfield 100, 3) := by decide +kernel
theorem dX11_canGo_98 : decode cX11_canGo 98 = .ok (.iconst 0, 1) := by decide +kernel
theorem dX11_canGo_99 : decode cX11_canGo 99 = .ok (.iaload, 1) := by decide +kernel
theorem dX11_canGo_100 : decode cX11_canGo 100 = .ok (.aload_n 0, 1) := by decide +kernel
theorem dX11_canGo_101 : decode cX11_canGo 101 = .ok (.iload_n 1, 1) := by decide +kernel
theorem dX11_canGo_102 : decode cX11_canGo 102 = .ok (.iconst 0, 1) := by decide +kernel
theorem dX11_canGo_103 : decode cX11_canGo 103 = .ok (.invokevirtual 176, 3) := by decide +kernel
theorem dX11_canGo_106 : decode cX11_canGo 106 = .ok (.if_icmp .eq 38, 3) := by decide +kernel
theorem dX11_canGo_109 : decode cX11_canGo 109 = .ok (.goto 33, 3) := by decide +kernel
theorem dX11_canGo_112 : decode cX11_canGo 112 = .ok (.aload_n 0, 1) := by decide +kernel
theorem dX11_canGo_113 : decode cX11_canGo 113 = .ok (.getfield 72, 3) := by decide +kernel
theorem dX11_canGo_116 : decode cX11_canGo 116 = .ok (.bipush 103, 2) := by decide +kernel
theorem dX11_canGo_118 : decode cX11_canGo 118 = .ok (.aload_n 0, 1) := by decide +kernel
theorem dX11_canGo_119 : decode cX11_canGo 119 = .ok (.getfield 100, 3) := by decide +kernel
theorem dX11_canGo_122 : decode cX11_canGo 122 = .ok (.iload 6, 2) := by decide +kernel
theorem dX11_canGo_124 : decode cX11_canGo 124 = .ok (.iconst 1, 1) := by decide +kernel
theorem dX11_canGo_125 : decode cX11_canGo 125 = .ok (.isub, 1) := by decide +kernel
theorem dX11_canGo_126 : decode cX11_canGo 126 = .ok (.iaload, 1) := by decide +kernel
theorem dX11_canGo_127 : decode cX11_canGo 127 = .ok (.iadd, 1) := by decide +kernel
theorem dX11_canGo_128 : decode cX11_canGo 128 = .ok (.iaload, 1) := by decide +kernel
theorem dX11_canGo_129 : decode cX11_canGo 129 = .ok (.aload_n 0, 1) := by decide +kernel
theorem dX11_canGo_130 : decode cX11_canGo 130 = .ok (.getfield 100, 3) := by decide +kernel
theorem dX11_canGo_133 : decode cX11_canGo 133 = .ok (.iload 6, 2) := by decide +kernel
theorem dX11_canGo_135 : decode cX11_canGo 135 = .ok (.iaload, 1) := by decide +kernel
theorem dX11_canGo_136 : decode cX11_canGo 136 = .ok (.invokestatic 113, 3) := by decide +kernel
theorem dX11_canGo_139 : decode cX11_canGo 139 = .ok (.ifCond .ne 5, 3) := by decide +kernel
theorem dX11_canGo_142 : decode cX11_canGo 142 = .ok (.iconst 0, 1) := by decide +kernel
theorem dX11_canGo_143 : decode cX11_canGo 143 = .ok (.ireturn, 1) := by decide +kernel
theorem dX11_canGo_144 : decode cX11_canGo 144 = .ok (.iload 5, 2) := by decide +kernel
theorem dX11_canGo_146 : decode cX11_canGo 146 = .ok (.iconst 1, 1) := by decide +kernel
theorem dX11_canGo_147 : decode cX11_canGo 147 = .ok (.aload_n 0, 1) := by decide +kernel
theorem dX11_canGo_148 : decode cX11_canGo 148 = .ok (.getfield 100, 3) := by decide +kernel
theorem dX11_canGo_151 : decode cX11_canGo 151 = .ok (.iload 6, 2) := by decide +kernel
theorem dX11_canGo_153 : decode cX11_canGo 153 = .ok (.iaload, 1) := by decide +kernel
theorem dX11_canGo_154 : decode cX11_canGo 154 = .ok (.ishl, 1) := by decide +kernel
theorem dX11_canGo_155 : decode cX11_canGo 155 = .ok (.ior, 1) := by decide +kernel
theorem dX11_canGo_156 : decode cX11_canGo 156 = .ok (.istore 5, 2) := by decide +kernel
theorem dX11_canGo_158 : decode cX11_canGo 158 = .ok (.iinc 6 1, 3) := by decide +kernel
theorem dX11_canGo_161 : decode cX11_canGo 161 = .ok (.goto (-128), 3) := by decide +kernel
theorem dX11_canGo_164 : decode cX11_canGo 164 = .ok (.iload 4, 2) := by decide +kernel
theorem dX11_canGo_166 : decode cX11_canGo 166 = .ok (.ifCond .ne 7, 3) := by decide +kernel
theorem dX11_canGo_169 : decode cX11_canGo 169 = .ok (.iconst 1, 1) := by decide +kernel
theorem dX11_canGo_170 : decode cX11_canGo 170 = .ok (.goto 4, 3) := by decide +kernel
theorem dX11_canGo_173 : decode cX11_canGo 173 = .ok (.iconst 0, 1) := by decide +kernel
theorem dX11_canGo_174 : decode cX11_canGo 174 = .ok (.ireturn, 1) := by decide +kernel
theorem dX11_doneBy_0 : decode cX11_doneBy 0 = .ok (.iconst 0, 1) := by decide +kernel
theorem dX11_doneBy_1 : decode cX11_doneBy 1 = .ok (.istore_n 2, 1) := by decide +kernel
theorem dX11_doneBy_2 : decode cX11_doneBy 2 = .ok (.iconst 0, 1) := by decide +kernel
theorem dX11_doneBy_3 : decode cX11_doneBy 3 = .ok (.istore_n 3, 1) := by decide +kernel
theorem dX11_doneBy_4 : decode cX11_doneBy 4 = .ok (.iload_n 3, 1) := by decide +kernel
theorem dX11_doneBy_5 : decode cX11_doneBy 5 = .ok (.aload_n 0, 1) := by decide +kernel
theorem dX11_doneBy_6 : decode cX11_doneBy 6 = .ok (.getfield 72, 3) := by decide +kernel
theorem dX11_doneBy_9 : decode cX11_doneBy 9 = .ok (.iconst 5, 1) := by decide +kernel
theorem dX11_doneBy_10 : decode cX11_doneBy 10 = .ok (.iaload, 1) := by decide +kernel
theorem dX11_doneBy_11 : decode cX11_doneBy 11 = .ok (.if_icmp .ge 32, 3) := by decide +kernel
theorem dX11_doneBy_14 : decode cX11_doneBy 14 = .ok (.aload_n 0, 1) := by decide +kernel
theorem dX11_doneBy_15 : decode cX11_doneBy 15 = .ok (.iload_n 3, 1) := by decide +kernel
theorem dX11_doneBy_16 : decode cX11_doneBy 16 = .ok (.iconst 0, 1) := by decide +kernel
theorem dX11_doneBy_17 : decode cX11_doneBy 17 = .ok (.invokevirtual 160, 3) := by decide +kernel
theorem dX11_doneBy_20 : decode cX11_doneBy 20 = .ok (.iload_n 1, 1) := by decide +kernel
theorem dX11_doneBy_21 : decode cX11_doneBy 21 = .ok (.if_icmp .ne 16, 3) := by decide +kernel
theorem dX11_doneBy_24 : decode cX11_doneBy 24 = .ok (.aload_n 0, 1) := by decide +kernel
theorem dX11_doneBy_25 : decode cX11_doneBy 25 = .ok (.iload_n 3, 1) := by decide +kernel
theorem dX11_doneBy_26 : decode cX11_doneBy 26 = .ok (.iconst 2, 1) := by decide +kernel
theorem dX11_doneBy_27 : decode cX11_doneBy 27 = .ok (.invokevirtual 160, 3) := by decide +kernel
theorem dX11_doneBy_30 : decode cX11_doneBy 30 = .ok (.iconst 2, 1) := by decide +kernel
theorem dX11_doneBy_31 : decode cX11_doneBy 31 = .ok (.if_icmp .ne 6, 3) := by decide +kernel
theorem dX11_doneBy_34 : decode cX11_doneBy 34 = .ok (.iinc 2 1, 3) := by decide +kernel
theorem dX11_doneBy_37 : decode cX11_doneBy 37 = .ok (.iinc 3 1, 3) := by decide +kernel
theorem dX11_doneBy_40 : decode cX11_doneBy 40 = .ok (.goto (-36), 3) := by decide +kernel
theorem dX11_doneBy_43 : decode cX11_doneBy 43 = .ok (.iload_n 2, 1) := by decide +kernel
theorem dX11_doneBy_44 : decode cX11_doneBy 44 = .ok (.ireturn, 1) := by decide +kernel
theorem dX11_drop_0 : decode cX11_drop 0 = .ok (.aload_n 0, 1) := by decide +kernel
theorem dX11_drop_1 : decode cX11_drop 1 = .ok (.iconst 0, 1) := by decide +kernel
theorem dX11_drop_2 : decode cX11_drop 2 = .ok (.putfield 1, 3) := by decide +kernel
theorem dX11_drop_5 : decode cX11_drop 5 = .ok (.aload_n 0, 1) := by decide +kernel
theorem dX11_drop_6 : decode cX11_drop 6 = .ok (.iload_n 1, 1) := by decide +kernel
theorem dX11_drop_7 : decode cX11_drop 7 = .ok (.invokevirtual 207, 3) := by decide +kernel
theorem dX11_drop_10 : decode cX11_drop 10 = .ok (.ifCond .eq 12, 3) := by decide +kernel
theorem dX11_drop_13 : decode cX11_drop 13 = .ok (.aload_n 0, 1) := by decide +kernel
theorem dX11_drop_14 : decode cX11_drop 14 = .ok (.iload_n 1, 1) := by decide +kernel
theorem dX11_drop_15 : decode cX11_drop 15 = .ok (.iconst 2, 1) := by decide +kernel
theorem dX11_drop_16 : decode cX11_drop 16 = .ok (.invokevirtual 160, 3) := by decide +kernel
theorem dX11_drop_19 : decode cX11_drop 19 = .ok (.ifCond .eq 5, 3) := by decide +kernel
theorem dX11_drop_22 : decode cX11_drop 22 = .ok (.iconst 0, 1) := by decide +kernel
theorem dX11_drop_23 : decode cX11_drop 23 = .ok (.ireturn, 1) := by decide +kernel
theorem dX11_drop_24 : decode cX11_drop 24 = .ok (.aload_n 0, 1) := by decide +kernel
theorem dX11_drop_25 : decode cX11_drop 25 = .ok (.invokevirtual 259, 3) := by decide +kernel
theorem dX11_drop_28 : decode cX11_drop 28 = .ok (.aload_n 0, 1) := by decide +kernel
theorem dX11_drop_29 : decode cX11_drop 29 = .ok (.getfield 72, 3) := by decide +kernel
theorem dX11_drop_32 : decode cX11_drop 32 = .ok (.bipush 111, 2) := by decide +kernel
theorem dX11_drop_34 : decode cX11_drop 34 = .ok (.bipush 13, 2) := by decide +kernel
theorem dX11_drop_36 : decode cX11_drop 36 = .ok (.iload_n 1, 1) := by decide +kernel
theorem dX11_drop_37 : decode cX11_drop 37 = .ok (.imul, 1) := by decide +kernel
theorem dX11_drop_38 : decode cX11_drop 38 = .ok (.iadd, 1) := by decide +kernel
theorem dX11_drop_39 : decode cX11_drop 39 = .ok (.iconst 2, 1) := by decide +kernel
theorem dX11_drop_40 : decode cX11_drop 40 = .ok (.iadd, 1) := by decide +kernel
theorem dX11_drop_41 : decode cX11_drop 41 = .ok (.iconst 2, 1) := by decide +kernel
theorem dX11_drop_42 : decode cX11_drop 42 = .ok (.iastore, 1) := by decide +kernel
theorem dX11_drop_43 : decode cX11_drop 43 = .ok (.aload_n 0, 1) := by decide +kernel
theorem dX11_drop_44 : decode cX11_drop 44 = .ok (.getfield 72, 3) := by decide +kernel
theorem dX11_drop_47 : decode cX11_drop 47 = .ok (.bipush 111, 2) := by decide +kernel
theorem dX11_drop_49 : decode cX11_drop 49 = .ok (.bipush 13, 2) := by decide +kernel
theorem dX11_drop_51 : decode cX11_drop 51 = .ok (.iload_n 1, 1) := by decide +kernel
theorem dX11_drop_52 : decode cX11_drop 52 = .ok (.imul, 1) := by decide +kernel
theorem dX11_drop_53 : decode cX11_drop 53 = .ok (.iadd, 1) := by decide +kernel
theorem dX11_drop_54 : decode cX11_drop 54 = .ok (.iconst 5, 1) := by decide +kernel
theorem dX11_drop_55 : decode cX11_drop 55 = .ok (.iadd, 1) := by decide +kernel
theorem dX11_drop_56 : decode cX11_drop 56 = .ok (.aload_n 0, 1) := by decide +kernel
theorem dX11_drop_57 : decode cX11_drop 57 = .ok (.getfield 72, 3) := by decide +kernel
theorem dX11_drop_60 : decode cX11_drop 60 = .ok (.bipush 6, 2) := by decide +kernel
theorem dX11_drop_62 : decode cX11_drop 62 = .ok (.iaload, 1) := by decide +kernel
theorem dX11_drop_63 : decode cX11_drop 63 = .ok (.iastore, 1) := by decide +kernel
theorem dX11_drop_64 : decode cX11_drop 64 = .ok (.iconst 1, 1) := by decide +kernel
theorem dX11_drop_65 : decode cX11_drop 65 = .ok (.ireturn, 1) := by decide +kernel
theorem dX11_end_0 : decode cX11_end 0 = .ok (.aload_n 0, 1) := by decide +kernel
theorem dX11_end_1 : decode cX11_end 1 = .ok (.iconst 0, 1) := by decide +kernel
theorem dX11_end_2 : decode cX11_end 2 = .ok (.putfield 1, 3) := by decide +kernel
theorem dX11_end_5 : decode cX11_end 5 = .ok (.iload_n 1, 1) := by decide +kernel
theorem dX11_end_6 : decode cX11_end 6 = .ok (.ifCond .lt 11, 3) := by decide +kernel
theorem dX11_end_9 : decode cX11_end 9 = .ok (.iload_n 1, 1) := by decide +kernel
theorem dX11_end_10 : decode cX11_end 10 = .ok (.aload_n 0, 1) := by decide +kernel
theorem dX11_end_11 : decode cX11_end 11 = .ok (.getfield 11, 3) := by decide +kernel
theorem dX11_end_14 : decode cX11_end 14 = .ok (.if_icmp .le 5, 3) := by decide +kernel
theorem dX11_end_17 : decode cX11_end 17 = .ok (.iconst 0, 1) := by decide +kernel
theorem dX11_end_18 : decode cX11_end 18 = .ok (.ireturn, 1) := by decide +kernel
theorem dX11_end_19 : decode cX11_end 19 = .ok (.aload_n 0, 1) := by decide +kernel
theorem dX11_end_20 : decode cX11_end 20 = .ok (.iload_n 1, 1) := by decide +kernel
theorem dX11_end_21 : decode cX11_end 21 = .ok (.putfield 11, 3) := by decide +kernel
theorem dX11_end_24 : decode cX11_end 24 = .ok (.iconst 1, 1) := by decide +kernel
theorem dX11_end_25 : decode cX11_end 25 = .ok (.ireturn, 1) := by decide +kernel
theorem dX11_fault_0 : decode cX11_fault 0 = .ok (.aload_n 0, 1) := by decide +kernel
theorem dX11_fault_1 : decode cX11_fault 1 = .ok (.iconst 0, 1) := by decide +kernel
theorem dX11_fault_2 : decode cX11_fault 2 = .ok (.putfield 1, 3) := by decide +kernel
theorem dX11_fault_5 : decode cX11_fault 5 = .ok (.aload_n 0, 1) := by decide +kernel
theorem dX11_fault_6 : decode cX11_fault 6 = .ok (.getfield 60, 3) := by decide +kernel
theorem dX11_fault_9 : decode cX11_fault 9 = .ok (.ireturn, 1) := by decide +kernel
theorem dX11_feed_0 : decode cX11_feed 0 = .ok (.aload_n 0, 1) := by decide +kernel
theorem dX11_feed_1 : decode cX11_feed 1 = .ok (.iconst 0, 1) := by decide +kernel
theorem dX11_feed_2 : decode cX11_feed 2 = .ok (.putfield 1, 3) := by decide +kernel
theorem dX11_feed_5 : decode cX11_feed 5 = .ok (.aload_n 0, 1) := by decide +kernel
theorem dX11_feed_6 : decode cX11_feed 6 = .ok (.getfield 11, 3) := by decide +kernel
theorem dX11_feed_9 : decode cX11_feed 9 = .ok (.bipush 20, 2) := by decide +kernel
theorem dX11_feed_11 : decode cX11_feed 11 = .ok (.iadd, 1) := by decide +kernel
theorem dX11_feed_12 : decode cX11_feed 12 = .ok (.sipush 740, 3) := by decide +kernel
theorem dX11_feed_15 : decode cX11_feed 15 = .ok (.if_icmp .le 5, 3) := by decide +kernel
theorem dX11_feed_18 : decode cX11_feed 18 = .ok (.iconst (-1), 1) := by decide +kernel
theorem dX11_feed_19 : decode cX11_feed 19 = .ok (.ireturn, 1) := by decide +kernel
theorem dX11_feed_20 : decode cX11_feed 20 = .ok (.aload_n 0, 1) := by decide +kernel
theorem dX11_feed_21 : decode cX11_feed 21 = .ok (.iload_n 1, 1) := by decide +kernel
theorem dX11_feed_22 : decode cX11_feed 22 = .ok (.invokevirtual 14, 3) := by decide +kernel
theorem dX11_feed_25 : decode cX11_feed 25 = .ok (.aload_n 0, 1) := by decide +kernel
theorem dX11_feed_26 : decode cX11_feed 26 = .ok (.iload_n 2, 1) := by decide +kernel
theorem dX11_feed_27 : decode cX11_feed 27 = .ok (.invokevirtual 14, 3) := by decide +kernel
theorem dX11_feed_30 : decode cX11_feed 30 = .ok (.aload_n 0, 1) := by decide +kernel
theorem dX11_feed_31 : decode cX11_feed 31 = .ok (.iload_n 3, 1) := by decide +kernel
theorem dX11_feed_32 : decode cX11_feed 32 = .ok (.invokevirtual 14, 3) := by decide +kernel
theorem dX11_feed_35 : decode cX11_feed 35 = .ok (.aload_n 0, 1) := by decide +kernel
theorem dX11_feed_36 : decode cX11_feed 36 = .ok (.iload 4, 2) := by decide +kernel
theorem dX11_feed_38 : decode cX11_feed 38 = .ok (.invokevirtual 14, 3) := by decide +kernel
theorem dX11_feed_41 : decode cX11_feed 41 = .ok (.aload_n 0, 1) := by decide +kernel
theorem dX11_feed_42 : decode cX11_feed 42 = .ok (.iload 5, 2) := by decide +kernel
theorem dX11_feed_44 : decode cX11_feed 44 = .ok (.invokevirtual 14, 3) := by decide +kernel
theorem dX11_feed_47 : decode cX11_feed 47 = .ok (.aload_n 0, 1) := by decide +kernel
theorem dX11_feed_48 : decode cX11_feed 48 = .ok (.getfield 11, 3) := by decide +kernel
theorem dX11_feed_51 : decode cX11_feed 51 = .ok (.ireturn, 1) := by decide +kernel
theorem dX11_finds_0 : decode cX11_finds 0 = .ok (.iconst 0, 1) := by decide +kernel
theorem dX11_finds_1 : decode cX11_finds 1 = .ok (.istore_n 1, 1) := by decide +kernel
theorem dX11_finds_2 : decode cX11_finds 2 = .ok (.iconst 0, 1) := by decide +kernel
theorem dX11_finds_3 : decode cX11_finds 3 = .ok (.istore_n 2, 1) := by decide +kernel
theorem dX11_finds_4 : decode cX11_finds 4 = .ok (.iload_n 2, 1) := by decide +kernel
theorem dX11_finds_5 : decode cX11_finds 5 = .ok (.bipush 6, 2) := by decide +kernel
theorem dX11_finds_7 : decode cX11_finds 7 = .ok (.if_icmp .ge 16, 3) := by decide +kernel
theorem dX11_finds_10 : decode cX11_finds 10 = .ok (.aload_n 0, 1) := by decide +kernel
theorem dX11_finds_11 : decode cX11_finds 11 = .ok (.getfield 90, 3) := by decide +kernel
theorem dX11_finds_14 : decode cX11_finds 14 = .ok (.iload_n 2, 1) := by decide +kernel
theorem dX11_finds_15 : decode cX11_finds 15 = .ok (.iconst (-1), 1) := by decide +kernel
theorem dX11_finds_16 : decode cX11_finds 16 = .ok (.iastore, 1) := by decide +kernel
theorem dX11_finds_17 : decode cX11_finds 17 = .ok (.iinc 2 1, 3) := by decide +kernel
theorem dX11_finds_20 : decode cX11_finds 20 = .ok (.goto (-16), 3) := by decide +kernel
theorem dX11_finds_23 : decode cX11_finds 23 = .ok (.iconst 0, 1) := by decide +kernel
theorem dX11_finds_24 : decode cX11_finds 24 = .ok (.istore_n 2, 1) := by decide +kernel
theorem dX11_finds_25 : decode cX11_finds 25 = .ok (.iload_n 2, 1) := by decide +kernel
theorem dX11_finds_26 : decode cX11_finds 26 = .ok (.aload_n 0, 1) := by decide +kernel
theorem dX11_finds_27 : decode cX11_finds 27 = .ok (.getfield 72, 3) := by decide +kernel
theorem dX11_finds_30 : decode cX11_finds 30 = .ok (.iconst 5, 1) := by decide +kernel
theorem dX11_finds_31 : decode cX11_finds 31 = .ok (.iaload, 1) := by decide +kernel
theorem dX11_finds_32 : decode cX11_finds 32 = .ok (.if_icmp .ge 34, 3) := by decide +kernel
theorem dX11_finds_35 : decode cX11_finds 35 = .ok (.aload_n 0, 1) := by decide +kernel
theorem dX11_finds_36 : decode cX11_finds 36 = .ok (.iload_n 2, 1) := by decide +kernel
theorem dX11_finds_37 : decode cX11_finds 37 = .ok (.invokevirtual 216, 3) := by decide +kernel
theorem dX11_finds_40 : decode cX11_finds 40 = .ok (.ifCond .eq 20, 3) := by decide +kernel
theorem dX11_finds_43 : decode cX11_finds 43 = .ok (.aload_n 0, 1) := by decide +kernel
theorem dX11_finds_44 : decode cX11_finds 44 = .ok (.getfield 87, 3) := by decide +kernel
theorem dX11_finds_47 : decode cX11_finds 47 = .ok (.iload_n 2, 1) := by decide +kernel
theorem dX11_finds_48 : decode cX11_finds 48 = .ok (.iaload, 1) := by decide +kernel
theorem dX11_finds_49 : decode cX11_finds 49 = .ok (.iconst (-1), 1) := by decide +kernel
theorem dX11_finds_50 : decode cX11_finds 50 = .ok (.if_icmp .ne 10, 3) := by decide +kernel
theorem dX11_finds_53 : decode cX11_finds 53 = .ok (.aload_n 0, 1) := by decide +kernel
theorem dX11_finds_54 : decode cX11_finds 54 = .ok (.iload_n 2, 1) := by decide +kernel
theorem dX11_finds_55 : decode cX11_finds 55 = .ok (.iload_n 1, 1) := by decide +kernel
theorem dX11_finds_56 : decode cX11_finds 56 = .ok (.invokevirtual 219, 3) := by decide +kernel
theorem dX11_finds_59 : decode cX11_finds 59 = .ok (.istore_n 1, 1) := by decide +kernel
theorem dX11_finds_60 : decode cX11_finds 60 = .ok (.iinc 2 1, 3) := by decide +kernel
theorem dX11_finds_63 : decode cX11_finds 63 = .ok (.goto (-38), 3) := by decide +kernel
theorem dX11_finds_66 : decode cX11_finds 66 = .ok (.iconst (-1), 1) := by decide +kernel
theorem dX11_finds_67 : decode cX11_finds 67 = .ok (.istore_n 2, 1) := by decide +kernel
theorem dX11_finds_68 : decode cX11_finds 68 = .ok (.iconst 0, 1) := by decide +kernel
theorem dX11_finds_69 : decode cX11_finds 69 = .ok (.istore_n 3, 1) := by decide +kernel
theorem dX11_finds_70 : decode cX11_finds 70 = .ok (.iload_n 3, 1) := by decide +kernel
theorem dX11_finds_71 : decode cX11_finds 71 = .ok (.iload_n 1, 1) := by decide +kernel
theorem dX11_finds_72 : decode cX11_finds 72 = .ok (.if_icmp .ge 107, 3) := by decide +kernel
theorem dX11_finds_75 : decode cX11_finds 75 = .ok (.aload_n 0, 1) := by decide +kernel
theorem dX11_finds_76 : decode cX11_finds 76 = .ok (.getfield 93, 3) := by decide +kernel
theorem dX11_finds_79 : decode cX11_finds 79 = .ok (.iload_n 3, 1) := by decide +kernel
theorem dX11_finds_80 : decode cX11_finds 80 = .ok (.iaload, 1) := by decide +kernel
theorem dX11_finds_81 : decode cX11_finds 81 = .ok (.istore 4, 2) := by decide +kernel
theorem dX11_finds_83 : decode cX11_finds 83 = .ok (.aload_n 0, 1) := by decide +kernel
theorem dX11_finds_84 : decode cX11_finds 84 = .ok (.getfield 84, 3) := by decide +kernel
theorem dX11_finds_87 : decode cX11_finds 87 = .ok (.iload 4, 2) := by decide +kernel
theorem dX11_finds_89 : decode cX11_finds 89 = .ok (.iaload, 1) := by decide +kernel
theorem dX11_finds_90 : decode cX11_finds 90 = .ok (.aload_n 0, 1) := by decide +kernel
theorem dX11_finds_91 : decode cX11_finds 91 = .ok (.getfield 81, 3) := by decide +kernel
theorem dX11_finds_94 : decode cX11_finds 94 = .ok (.iload 4, 2) := by decide +kernel
theorem dX11_finds_96 : decode cX11_finds 96 = .ok (.iaload, 1) := by decide +kernel
theorem dX11_finds_97 : decode cX11_finds 97 = .ok (.if_icmp .ge 27, 3) := by decide +kernel
theorem dX11_finds_100 : decode cX11_finds 100 = .ok (.iload_n 2, 1) := by decide +kernel
theorem dX11_finds_101 : decode cX11_finds 101 = .ok (.iconst (-1), 1) := by decide +kernel
theorem dX11_finds_102 : decode cX11_finds 102 = .ok (.if_icmp .eq 19, 3) := by decide +kernel
theorem dX11_finds_105 : decode cX11_finds 105 = .ok (.aload_n 0, 1) := by decide +kernel
theorem dX11_finds_106 : decode cX11_finds 106 = .ok (.iload 4, 2) := by decide +kernel
theorem dX11_finds_108 : decode cX11_finds 108 = .ok (.iconst 3, 1) := by decide +kernel
theorem dX11_finds_109 : decode cX11_finds 109 = .ok (.invokevirtual 167, 3) := by decide +kernel
theorem dX11_finds_112 : decode cX11_finds 112 = .ok (.aload_n 0, 1) := by decide +kernel
theorem dX11_finds_113 : decode cX11_finds 113 = .ok (.iload_n 2, 1) := by decide +kernel
theorem dX11_finds_114 : decode cX11_finds 114 = .ok (.iconst 3, 1) := by decide +kernel
theorem dX11_finds_115 : decode cX11_finds 115 = .ok (.invokevirtual 167, 3) := by decide +kernel
theorem dX11_finds_118 : decode cX11_finds 118 = .ok (.if_icmp .ge 6, 3) := by decide +kernel
theorem dX11_finds_121 : decode cX11_finds 121 = .ok (.iload 4, 2) := by decide +kernel
theorem dX11_finds_123 : decode cX11_finds 123 = .ok (.istore_n 2, 1) := by decide +kernel
theorem dX11_finds_124 : decode cX11_finds 124 = .ok (.iconst 0, 1) := by decide +kernel
theorem dX11_finds_125 : decode cX11_finds 125 = .ok (.istore 5, 2) := by decide +kernel
theorem dX11_finds_127 : decode cX11_finds 127 = .ok (.iload 5, 2) := by decide +kernel
theorem dX11_finds_129 : decode cX11_finds 129 = .ok (.aload_n 0, 1) := by decide +kernel
theorem dX11_finds_130 : decode cX11_finds 130 = .ok (.getfield 72, 3) := by decide +kernel
theorem dX11_finds_133 : decode cX11_finds 133 = .ok (.iconst 5, 1) := by decide +kernel
theorem dX11_finds_134 : decode cX11_finds 134 = .ok (.iaload, 1) := by decide +kernel
theorem dX11_finds_135 : decode cX11_finds 135 = .ok (.if_icmp .ge 38, 3) := by decide +kernel
theorem dX11_finds_138 : decode cX11_finds 138 = .ok (.aload_n 0, 1) := by decide +kernel
theorem dX11_finds_139 : decode cX11_finds 139 = .ok (.iload 5, 2) := by decide +kernel
theorem dX11_finds_141 : decode cX11_finds 141 = .ok (.invokevirtual 216, 3) := by decide +kernel
theorem dX11_finds_144 : decode cX11_finds 144 = .ok (.ifCond .eq 23, 3) := by decide +kernel
theorem dX11_finds_147 : decode cX11_finds 147 = .ok (.aload_n 0, 1) := by decide +kernel
theorem dX11_finds_148 : decode cX11_finds 148 = .ok (.getfield 87, 3) := by decide +kernel
theorem dX11_finds_151 : decode cX11_finds 151 = .ok (.iload 5, 2) := by decide +kernel
theorem dX11_finds_153 : decode cX11_finds 153 = .ok (.iaload, 1) := by decide +kernel
theorem dX11_finds_154 : decode cX11_finds 154 = .ok (.iload 4, 2) := by decide +kernel
theorem dX11_finds_156 : decode cX11_finds 156 = .ok (.if_icmp .ne 11, 3) := by decide +kernel
theorem dX11_finds_159 : decode cX11_finds 159 = .ok (.aload_n 0, 1) := by decide +kernel
theorem dX11_finds_160 : decode cX11_finds 160 = .ok (.iload 5, 2) := by decide +kernel
theorem dX11_finds_162 : decode cX11_finds 162 = .ok (.iload_n 1, 1) := by decide +kernel
theorem dX11_finds_163 : decode cX11_finds 163 = .ok (.invokevirtual 219, 3) := by decide +kernel
theorem dX11_finds_166 : decode cX11_finds 166 = .ok (.istore_n 1, 1) := by decide +kernel
theorem dX11_finds_167 : decode cX11_finds 167 = .ok (.iinc 5 1, 3) := by decide +kernel
theorem dX11_finds_170 : decode cX11_finds 170 = .ok (.goto (-43), 3) := by decide +kernel
theorem dX11_finds_173 : decode cX11_finds 173 = .ok (.iinc 3 1, 3) := by decide +kernel
theorem dX11_finds_176 : decode cX11_finds 176 = .ok (.goto (-106), 3) := by decide +kernel
theorem dX11_finds_179 : decode cX11_finds 179 = .ok (.iload_n 2, 1) := by decide +kernel
theorem dX11_finds_180 : decode cX11_finds 180 = .ok (.ireturn, 1) := by decide +kernel
theorem dX11_fits_0 : decode cX11_fits 0 = .ok (.aload_n 0, 1) := by decide +kernel
theorem dX11_fits_1 : decode cX11_fits 1 = .ok (.iconst 0, 1) := by decide +kernel
theorem dX11_fits_2 : decode cX11_fits 2 = .ok (.putfield 1, 3) := by decide +kernel
theorem dX11_fits_5 : decode cX11_fits 5 = .ok (.aload_n 0, 1) := by decide +kernel
theorem dX11_fits_6 : decode cX11_fits 6 = .ok (.iload_n 1, 1) := by decide +kernel
theorem dX11_fits_7 : decode cX11_fits 7 = .ok (.invokevirtual 189, 3) := by decide +kernel
theorem dX11_fits_10 : decode cX11_fits 10 = .ok (.ifCond .eq 24, 3) := by decide +kernel
theorem dX11_fits_13 : decode cX11_fits 13 = .ok (.aload_n 0, 1) := by decide +kernel
theorem dX11_fits_14 : decode cX11_fits 14 = .ok (.iload_n 2, 1) := by decide +kernel
theorem dX11_fits_15 : decode cX11_fits 15 = .ok (.invokevirtual 207, 3) := by decide +kernel
theorem dX11_fits_18 : decode cX11_fits 18 = .ok (.ifCond .eq 16, 3) := by decide +kernel
theorem dX11_fits_21 : decode cX11_fits 21 = .ok (.aload_n 0, 1) := by decide +kernel
theorem dX11_fits_22 : decode cX11_fits 22 = .ok (.iload_n 1, 1) := by decide +kernel
theorem dX11_fits_23 : decode cX11_fits 23 = .ok (.iload_n 2, 1) := by decide +kernel
theorem dX11_fits_24 : decode cX11_fits 24 = .ok (.invokevirtual 213, 3) := by decide +kernel
theorem dX11_fits_27 : decode cX11_fits 27 = .ok (.ifCond .eq 7, 3) := by decide +kernel
theorem dX11_fits_30 : decode cX11_fits 30 = .ok (.iconst 1, 1) := by decide +kernel
theorem dX11_fits_31 : decode cX11_fits 31 = .ok (.goto 4, 3) := by decide +kernel
theorem dX11_fits_34 : decode cX11_fits 34 = .ok (.iconst 0, 1) := by decide +kernel
theorem dX11_fits_35 : decode cX11_fits 35 = .ok (.ireturn, 1) := by decide +kernel
theorem dX11_five_0 : decode cX11_five 0 = .ok (.ldc2_w 48, 3) := by decide +kernel
theorem dX11_five_3 : decode cX11_five 3 = .ok (.iload_n 0, 1) := by decide +kernel
theorem dX11_five_4 : decode cX11_five 4 = .ok (.iload_n 1, 1) := by decide +kernel
theorem dX11_five_5 : decode cX11_five 5 = .ok (.iload_n 2, 1) := by decide +kernel
theorem dX11_five_6 : decode cX11_five 6 = .ok (.iload_n 3, 1) := by decide +kernel
theorem dX11_five_7 : decode cX11_five 7 = .ok (.invokestatic 52, 3) := by decide +kernel
theorem dX11_five_10 : decode cX11_five 10 = .ok (.lmul, 1) := by decide +kernel
theorem dX11_five_11 : decode cX11_five 11 = .ok (.iload 4, 2) := by decide +kernel
theorem dX11_five_13 : decode cX11_five 13 = .ok (.i2l, 1) := by decide +kernel
theorem dX11_five_14 : decode cX11_five 14 = .ok (.ladd, 1) := by decide +kernel
theorem dX11_five_15 : decode cX11_five 15 = .ok (.ldc2_w 50, 3) := by decide +kernel
theorem dX11_five_18 : decode cX11_five 18 = .ok (.lsub, 1) := by decide +kernel
theorem dX11_five_19 : decode cX11_five 19 = .ok (.lreturn, 1) := by decide +kernel
theorem dX11_four_0 : decode cX11_four 0 = .ok (.ldc2_w 48, 3) := by decide +kernel
theorem dX11_four_3 : decode cX11_four 3 = .ok (.ldc2_w 48, 3) := by decide +kernel
theorem dX11_four_6 : decode cX11_four 6 = .ok (.ldc2_w 48, 3) := by decide +kernel
theorem dX11_four_9 : decode cX11_four 9 = .ok (.iload_n 0, 1) := by decide +kernel
theorem dX11_four_10 : decode cX11_four 10 = .ok (.i2l, 1) := by decide +kernel
theorem dX11_four_11 : decode cX11_four 11 = .ok (.ldc2_w 50, 3) := by decide +kernel
theorem dX11_four_14 : decode cX11_four 14 = .ok (.lsub, 1) := by decide +kernel
theorem dX11_four_15 : decode cX11_four 15 = .ok (.lmul, 1) := by decide +kernel
theorem dX11_four_16 : decode cX11_four 16 = .ok (.iload_n 1, 1) := by decide +kernel
theorem dX11_four_17 : decode cX11_four 17 = .ok (.i2l, 1) := by decide +kernel
theorem dX11_four_18 : decode cX11_four 18 = .ok (.ladd, 1) := by decide +kernel
theorem dX11_four_19 : decode cX11_four 19 = .ok (.ldc2_w 50, 3) := by decide +kernel
theorem dX11_four_22 : decode cX11_four 22 = .ok (.lsub, 1) := by decide +kernel
theorem dX11_four_23 : decode cX11_four 23 = .ok (.lmul, 1) := by decide +kernel
theorem dX11_four_24 : decode cX11_four 24 = .ok (.iload_n 2, 1) := by decide +kernel
theorem dX11_four_25 : decode cX11_four 25 = .ok (.i2l, 1) := by decide +kernel
theorem dX11_four_26 : decode cX11_four 26 = .ok (.ladd, 1) := by decide +kernel
theorem dX11_four_27 : decode cX11_four 27 = .ok (.ldc2_w 50, 3) := by decide +kernel
theorem dX11_four_30 : decode cX11_four 30 = .ok (.lsub, 1) := by decide +kernel
theorem dX11_four_31 : decode cX11_four 31 = .ok (.lmul, 1) := by decide +kernel
theorem dX11_four_32 : decode cX11_four 32 = .ok (.iload_n 3, 1) := by decide +kernel
theorem dX11_four_33 : decode cX11_four 33 = .ok (.i2l, 1) := by decide +kernel
theorem dX11_four_34 : decode cX11_four 34 = .ok (.ladd, 1) := by decide +kernel
theorem dX11_four_35 : decode cX11_four 35 = .ok (.ldc2_w 50, 3) := by decide +kernel
theorem dX11_four_38 : decode cX11_four 38 = .ok (.lsub, 1) := by decide +kernel
theorem dX11_four_39 : decode cX11_four 39 = .ok (.lreturn, 1) := by decide +kernel
theorem dX11_free_0 : decode cX11_free 0 = .ok (.aload_n 0, 1) := by decide +kernel
theorem dX11_free_1 : decode cX11_free 1 = .ok (.iconst 0, 1) := by decide +kernel
theorem dX11_free_2 : decode cX11_free 2 = .ok (.putfield 1, 3) := by decide +kernel
theorem dX11_free_5 : decode cX11_free 5 = .ok (.aload_n 0, 1) := by decide +kernel
theorem dX11_free_6 : decode cX11_free 6 = .ok (.iload_n 1, 1) := by decide +kernel
theorem dX11_free_7 : decode cX11_free 7 = .ok (.invokevirtual 250, 3) := by decide +kernel
theorem dX11_free_10 : decode cX11_free 10 = .ok (.ifCond .eq 13, 3) := by decide +kernel
theorem dX11_free_13 : decode cX11_free 13 = .ok (.iload_n 2, 1) := by decide +kernel
theorem dX11_free_14 : decode cX11_free 14 = .ok (.iconst 1, 1) := by decide +kernel
theorem dX11_free_15 : decode cX11_free 15 = .ok (.bipush 6, 2) := by decide +kernel
theorem dX11_free_17 : decode cX11_free 17 = .ok (.invokestatic 106, 3) := by decide +kernel
theorem dX11_free_20 : decode cX11_free 20 = .ok (.ifCond .ne 5, 3) := by decide +kernel
theorem dX11_free_23 : decode cX11_free 23 = .ok (.iconst (-1), 1) := by decide +kernel
theorem dX11_free_24 : decode cX11_free 24 = .ok (.ireturn, 1) := by decide +kernel
theorem dX11_free_25 : decode cX11_free 25 = .ok (.iconst 0, 1) := by decide +kernel
theorem dX11_free_26 : decode cX11_free 26 = .ok (.istore_n 3, 1) := by decide +kernel
theorem dX11_free_27 : decode cX11_free 27 = .ok (.iconst 0, 1) := by decide +kernel
theorem dX11_free_28 : decode cX11_free 28 = .ok (.istore 4, 2) := by decide +kernel
theorem dX11_free_30 : decode cX11_free 30 = .ok (.iload 4, 2) := by decide +kernel
theorem dX11_free_32 : decode cX11_free 32 = .ok (.aload_n 0, 1) := by decide +kernel
theorem dX11_free_33 : decode cX11_free 33 = .ok (.getfield 72, 3) := by decide +kernel
theorem dX11_free_36 : decode cX11_free 36 = .ok (.iconst 3, 1) := by decide +kernel
theorem dX11_free_37 : decode cX11_free 37 = .ok (.iaload, 1) := by decide +kernel
theorem dX11_free_38 : decode cX11_free 38 = .ok (.if_icmp .ge 44, 3) := by decide +kernel
theorem dX11_free_41 : decode cX11_free 41 = .ok (.aload_n 0, 1) := by decide +kernel
theorem dX11_free_42 : decode cX11_free 42 = .ok (.iload 4, 2) := by decide +kernel
theorem dX11_free_44 : decode cX11_free 44 = .ok (.bipush 6, 2) := by decide +kernel
theorem dX11_free_46 : decode cX11_free 46 = .ok (.invokevirtual 167, 3) := by decide +kernel
theorem dX11_free_49 : decode cX11_free 49 = .ok (.iload_n 1, 1) := by decide +kernel
theorem dX11_free_50 : decode cX11_free 50 = .ok (.invokestatic 113, 3) := by decide +kernel
theorem dX11_free_53 : decode cX11_free 53 = .ok (.ifCond .eq 23, 3) := by decide +kernel
theorem dX11_free_56 : decode cX11_free 56 = .ok (.iload_n 2, 1) := by decide +kernel
theorem dX11_free_57 : decode cX11_free 57 = .ok (.aload_n 0, 1) := by decide +kernel
theorem dX11_free_58 : decode cX11_free 58 = .ok (.iload 4, 2) := by decide +kernel
theorem dX11_free_60 : decode cX11_free 60 = .ok (.iconst 2, 1) := by decide +kernel
theorem dX11_free_61 : decode cX11_free 61 = .ok (.invokevirtual 167, 3) := by decide +kernel
theorem dX11_free_64 : decode cX11_free 64 = .ok (.if_icmp .lt 12, 3) := by decide +kernel
theorem dX11_free_67 : decode cX11_free 67 = .ok (.iload_n 3, 1) := by decide +kernel
theorem dX11_free_68 : decode cX11_free 68 = .ok (.aload_n 0, 1) := by decide +kernel
theorem dX11_free_69 : decode cX11_free 69 = .ok (.iload 4, 2) := by decide +kernel
theorem dX11_free_71 : decode cX11_free 71 = .ok (.invokevirtual 192, 3) := by decide +kernel
theorem dX11_free_74 : decode cX11_free 74 = .ok (.iadd, 1) := by decide +kernel
theorem dX11_free_75 : decode cX11_free 75 = .ok (.istore_n 3, 1) := by decide +kernel
theorem dX11_free_76 : decode cX11_free 76 = .ok (.iinc 4 1, 3) := by decide +kernel
theorem dX11_free_79 : decode cX11_free 79 = .ok (.goto (-49), 3) := by decide +kernel
theorem dX11_free_82 : decode cX11_free 82 = .ok (.iload_n 3, 1) := by decide +kernel
theorem dX11_free_83 : decode cX11_free 83 = .ok (.ireturn, 1) := by decide +kernel
theorem dX11_freeOf_0 : decode cX11_freeOf 0 = .ok (.aload_n 0, 1) := by decide +kernel
theorem dX11_freeOf_1 : decode cX11_freeOf 1 = .ok (.iload_n 1, 1) := by decide +kernel
theorem dX11_freeOf_2 : decode cX11_freeOf 2 = .ok (.invokevirtual 173, 3) := by decide +kernel
theorem dX11_freeOf_5 : decode cX11_freeOf 5 = .ok (.aload_n 0, 1) := by decide +kernel
theorem dX11_freeOf_6 : decode cX11_freeOf 6 = .ok (.iload_n 1, 1) := by decide +kernel
theorem dX11_freeOf_7 : decode cX11_freeOf 7 = .ok (.invokevirtual 170, 3) := by decide +kernel
theorem dX11_freeOf_10 : decode cX11_freeOf 10 = .ok (.iadd, 1) := by decide +kernel
theorem dX11_freeOf_11 : decode cX11_freeOf 11 = .ok (.aload_n 0, 1) := by decide +kernel
theorem dX11_freeOf_12 : decode cX11_freeOf 12 = .ok (.iload_n 1, 1) := by decide +kernel
theorem dX11_freeOf_13 : decode cX11_freeOf 13 = .ok (.iconst 1, 1) := by decide +kernel
theorem dX11_freeOf_14 : decode cX11_freeOf 14 = .ok (.invokevirtual 167, 3) := by decide +kernel
theorem dX11_freeOf_17 : decode cX11_freeOf 17 = .ok (.imul, 1) := by decide +kernel
theorem dX11_freeOf_18 : decode cX11_freeOf 18 = .ok (.aload_n 0, 1) := by decide +kernel
theorem dX11_freeOf_19 : decode cX11_freeOf 19 = .ok (.iload_n 1, 1) := by decide +kernel
theorem dX11_freeOf_20 : decode cX11_freeOf 20 = .ok (.invokevirtual 164, 3) := by decide +kernel
theorem dX11_freeOf_23 : decode cX11_freeOf 23 = .ok (.isub, 1) := by decide +kernel
theorem dX11_freeOf_24 : decode cX11_freeOf 24 = .ok (.ireturn, 1) := by decide +kernel
theorem dX11_go_0 : decode cX11_go 0 = .ok (.aload_n 0, 1) := by decide +kernel
theorem dX11_go_1 : decode cX11_go 1 = .ok (.getfield 21, 3) := by decide +kernel
theorem dX11_go_4 : decode cX11_go 4 = .ok (.aload_n 0, 1) := by decide +kernel
theorem dX11_go_5 : decode cX11_go 5 = .ok (.getfield 18, 3) := by decide +kernel
theorem dX11_go_8 : decode cX11_go 8 = .ok (.if_icmp .ge 44, 3) := by decide +kernel
theorem dX11_go_11 : decode cX11_go 11 = .ok (.aload_n 0, 1) := by decide +kernel
theorem dX11_go_12 : decode cX11_go 12 = .ok (.getfield 7, 3) := by decide +kernel
theorem dX11_go_15 : decode cX11_go 15 = .ok (.aload_n 0, 1) := by decide +kernel
theorem dX11_go_16 : decode cX11_go 16 = .ok (.getfield 21, 3) := by decide +kernel
theorem dX11_go_19 : decode cX11_go 19 = .ok (.iaload, 1) := by decide +kernel
theorem dX11_go_20 : decode cX11_go 20 = .ok (.bipush 32, 2) := by decide +kernel
theorem dX11_go_22 : decode cX11_go 22 = .ok (.if_icmp .eq 17, 3) := by decide +kernel
theorem dX11_go_25 : decode cX11_go 25 = .ok (.aload_n 0, 1) := by decide +kernel
theorem dX11_go_26 : decode cX11_go 26 = .ok (.getfield 7, 3) := by decide +kernel
theorem dX11_go_29 : decode cX11_go 29 = .ok (.aload_n 0, 1) := by decide +kernel
theorem dX11_go_30 : decode cX11_go 30 = .ok (.getfield 21, 3) := by decide +kernel
theorem dX11_go_33 : decode cX11_go 33 = .ok (.iaload, 1) := by decide +kernel
theorem dX11_go_34 : decode cX11_go 34 = .ok (.bipush 10, 2) := by decide +kernel
theorem dX11_go_36 : decode cX11_go 36 = .ok (.if_icmp .ne 16, 3) := by decide +kernel
theorem dX11_go_39 : decode cX11_go 39 = .ok (.aload_n 0, 1) := by decide +kernel
theorem dX11_go_40 : decode cX11_go 40 = .ok (.dup, 1) := by decide +kernel
theorem dX11_go_41 : decode cX11_go 41 = .ok (.getfield 21, 3) := by decide +kernel
theorem dX11_go_44 : decode cX11_go 44 = .ok (.iconst 1, 1) := by decide +kernel
theorem dX11_go_45 : decode cX11_go 45 = .ok (.iadd, 1) := by decide +kernel
theorem dX11_go_46 : decode cX11_go 46 = .ok (.putfield 21, 3) := by decide +kernel
theorem dX11_go_49 : decode cX11_go 49 = .ok (.goto (-49), 3) := by decide +kernel
theorem dX11_go_52 : decode cX11_go 52 = .ok (.aload_n 0, 1) := by decide +kernel
theorem dX11_go_53 : decode cX11_go 53 = .ok (.aload_n 0, 1) := by decide +kernel
theorem dX11_go_54 : decode cX11_go 54 = .ok (.getfield 21, 3) := by decide +kernel
theorem dX11_go_57 : decode cX11_go 57 = .ok (.putfield 24, 3) := by decide +kernel
theorem dX11_go_60 : decode cX11_go 60 = .ok (.aload_n 0, 1) := by decide +kernel
theorem dX11_go_61 : decode cX11_go 61 = .ok (.getfield 18, 3) := by decide +kernel
theorem dX11_go_64 : decode cX11_go 64 = .ok (.sipush 700, 3) := by decide +kernel
theorem dX11_go_67 : decode cX11_go 67 = .ok (.if_icmp .le 26, 3) := by decide +kernel
theorem dX11_go_70 : decode cX11_go 70 = .ok (.aload_n 0, 1) := by decide +kernel
theorem dX11_go_71 : decode cX11_go 71 = .ok (.getfield 24, 3) := by decide +kernel
theorem dX11_go_74 : decode cX11_go 74 = .ok (.sipush 700, 3) := by decide +kernel
theorem dX11_go_77 : decode cX11_go 77 = .ok (.if_icmp .lt 16, 3) := by decide +kernel
theorem dX11_go_80 : decode cX11_go 80 = .ok (.aload_n 0, 1) := by decide +kernel
theorem dX11_go_81 : decode cX11_go 81 = .ok (.sipush 700, 3) := by decide +kernel
theorem dX11_go_84 : decode cX11_go 84 = .ok (.putfield 24, 3) := by decide +kernel
theorem dX11_go_87 : decode cX11_go 87 = .ok (.aload_n 0, 1) := by decide +kernel
theorem dX11_go_88 : decode cX11_go 88 = .ok (.iconst 1, 1) := by decide +kernel
theorem dX11_go_89 : decode cX11_go 89 = .ok (.putfield 27, 3) := by decide +kernel
theorem dX11_go_92 : decode cX11_go 92 = .ok (.return_, 1) := by decide +kernel
theorem dX11_go_93 : decode cX11_go 93 = .ok (.aload_n 0, 1) := by decide +kernel
theorem dX11_go_94 : decode cX11_go 94 = .ok (.getfield 21, 3) := by decide +kernel
theorem dX11_go_97 : decode cX11_go 97 = .ok (.aload_n 0, 1) := by decide +kernel
theorem dX11_go_98 : decode cX11_go 98 = .ok (.getfield 18, 3) := by decide +kernel
theorem dX11_go_101 : decode cX11_go 101 = .ok (.if_icmp .lt 9, 3) := by decide +kernel
theorem dX11_go_104 : decode cX11_go 104 = .ok (.aload_n 0, 1) := by decide +kernel
theorem dX11_go_105 : decode cX11_go 105 = .ok (.iconst 0, 1) := by decide +kernel
theorem dX11_go_106 : decode cX11_go 106 = .ok (.putfield 27, 3) := by decide +kernel
theorem dX11_go_109 : decode cX11_go 109 = .ok (.return_, 1) := by decide +kernel
theorem dX11_go_110 : decode cX11_go 110 = .ok (.aload_n 0, 1) := by decide +kernel
theorem dX11_go_111 : decode cX11_go 111 = .ok (.getfield 7, 3) := by decide +kernel
theorem dX11_go_114 : decode cX11_go 114 = .ok (.aload_n 0, 1) := by decide +kernel
theorem dX11_go_115 : decode cX11_go 115 = .ok (.getfield 21, 3) := by decide +kernel
theorem dX11_go_118 : decode cX11_go 118 = .ok (.iaload, 1) := by decide +kernel
theorem dX11_go_119 : decode cX11_go 119 = .ok (.istore_n 1, 1) := by decide +kernel
theorem dX11_go_120 : decode cX11_go 120 = .ok (.iload_n 1, 1) := by decide +kernel
theorem dX11_go_121 : decode cX11_go 121 = .ok (.invokestatic 30, 3) := by decide +kernel
theorem dX11_go_124 : decode cX11_go 124 = .ok (.ifCond .ne 36, 3) := by decide +kernel
theorem dX11_go_127 : decode cX11_go 127 = .ok (.iload_n 1, 1) := by decide +kernel
theorem dX11_go_128 : decode cX11_go 128 = .ok (.invokestatic 34, 3) := by decide +kernel
theorem dX11_go_131 : decode cX11_go 131 = .ok (.ifCond .ne 29, 3) := by decide +kernel
theorem dX11_go_134 : decode cX11_go 134 = .ok (.aload_n 0, 1) := by decide +kernel
theorem dX11_go_135 : decode cX11_go 135 = .ok (.iload_n 1, 1) := by decide +kernel
theorem dX11_go_136 : decode cX11_go 136 = .ok (.bipush 59, 2) := by decide +kernel
theorem dX11_go_138 : decode cX11_go 138 = .ok (.if_icmp .ne 7, 3) := by decide +kernel
theorem dX11_go_141 : decode cX11_go 141 = .ok (.iconst 4, 1) := by decide +kernel
theorem dX11_go_142 : decode cX11_go 142 = .ok (.goto 4, 3) := by decide +kernel
theorem dX11_go_145 : decode cX11_go 145 = .ok (.iconst 1, 1) := by decide +kernel
theorem dX11_go_146 : decode cX11_go 146 = .ok (.putfield 27, 3) := by decide +kernel
theorem dX11_go_149 : decode cX11_go 149 = .ok (.aload_n 0, 1) := by decide +kernel
theorem dX11_go_150 : decode cX11_go 150 = .ok (.dup, 1) := by decide +kernel
theorem dX11_go_151 : decode cX11_go 151 = .ok (.getfield 21, 3) := by decide +kernel
theorem dX11_go_154 : decode cX11_go 154 = .ok (.iconst 1, 1) := by decide +kernel
theorem dX11_go_155 : decode cX11_go 155 = .ok (.iadd, 1) := by decide +kernel
theorem dX11_go_156 : decode cX11_go 156 = .ok (.putfield 21, 3) := by decide +kernel
theorem dX11_go_159 : decode cX11_go 159 = .ok (.return_, 1) := by decide +kernel
theorem dX11_go_160 : decode cX11_go 160 = .ok (.iload_n 1, 1) := by decide +kernel
theorem dX11_go_161 : decode cX11_go 161 = .ok (.invokestatic 30, 3) := by decide +kernel
theorem dX11_go_164 : decode cX11_go 164 = .ok (.istore_n 2, 1) := by decide +kernel
theorem dX11_go_165 : decode cX11_go 165 = .ok (.iconst 1, 1) := by decide +kernel
theorem dX11_go_166 : decode cX11_go 166 = .ok (.istore_n 3, 1) := by decide +kernel
theorem dX11_go_167 : decode cX11_go 167 = .ok (.aload_n 0, 1) := by decide +kernel
theorem dX11_go_168 : decode cX11_go 168 = .ok (.lconst 0, 1) := by decide +kernel
theorem dX11_go_169 : decode cX11_go 169 = .ok (.putfield 37, 3) := by decide +kernel
theorem dX11_go_172 : decode cX11_go 172 = .ok (.aload_n 0, 1) := by decide +kernel
theorem dX11_go_173 : decode cX11_go 173 = .ok (.iconst 0, 1) := by decide +kernel
theorem dX11_go_174 : decode cX11_go 174 = .ok (.putfield 41, 3) := by decide +kernel
theorem dX11_go_177 : decode cX11_go 177 = .ok (.aload_n 0, 1) := by decide +kernel
theorem dX11_go_178 : decode cX11_go 178 = .ok (.aload_n 0, 1) := by decide +kernel
theorem dX11_go_179 : decode cX11_go 179 = .ok (.getfield 21, 3) := by decide +kernel
theorem dX11_go_182 : decode cX11_go 182 = .ok (.invokevirtual 44, 3) := by decide +kernel
theorem dX11_go_185 : decode cX11_go 185 = .ok (.invokestatic 30, 3) := by decide +kernel
theorem dX11_go_188 : decode cX11_go 188 = .ok (.ifCond .ne 17, 3) := by decide +kernel
theorem dX11_go_191 : decode cX11_go 191 = .ok (.aload_n 0, 1) := by decide +kernel
theorem dX11_go_192 : decode cX11_go 192 = .ok (.aload_n 0, 1) := by decide +kernel
theorem dX11_go_193 : decode cX11_go 193 = .ok (.getfield 21, 3) := by decide +kernel
theorem dX11_go_196 : decode cX11_go 196 = .ok (.invokevirtual 44, 3) := by decide +kernel
theorem dX11_go_199 : decode cX11_go 199 = .ok (.invokestatic 34, 3) := by decide +kernel
theorem dX11_go_202 : decode cX11_go 202 = .ok (.ifCond .eq 110, 3) := by decide +kernel
theorem dX11_go_205 : decode cX11_go 205 = .ok (.aload_n 0, 1) := by decide +kernel
theorem dX11_go_206 : decode cX11_go 206 = .ok (.getfield 7, 3) := by decide +kernel
theorem dX11_go_209 : decode cX11_go 209 = .ok (.aload_n 0, 1) := by decide +kernel
theorem dX11_go_210 : decode cX11_go 210 = .ok (.getfield 21, 3) := by decide +kernel
theorem dX11_go_213 : decode cX11_go 213 = .ok (.iaload, 1) := by decide +kernel
theorem dX11_go_214 : decode cX11_go 214 = .ok (.istore 4, 2) := by decide +kernel
theorem dX11_go_216 : decode cX11_go 216 = .ok (.iload_n 3, 1) := by decide +kernel
theorem dX11_go_217 : decode cX11_go 217 = .ok (.ifCond .eq 16, 3) := by decide +kernel
theorem dX11_go_220 : decode cX11_go 220 = .ok (.iload 4, 2) := by decide +kernel
theorem dX11_go_222 : decode cX11_go 222 = .ok (.invokestatic 30, 3) := by decide +kernel
theorem dX11_go_225 : decode cX11_go 225 = .ok (.iload_n 2, 1) := by decide +kernel
theorem dX11_go_226 : decode cX11_go 226 = .ok (.if_icmp .ne 7, 3) := by decide +kernel
theorem dX11_go_229 : decode cX11_go 229 = .ok (.iconst 1, 1) := by decide +kernel
theorem dX11_go_230 : decode cX11_go 230 = .ok (.goto 4, 3) := by decide +kernel
theorem dX11_go_233 : decode cX11_go 233 = .ok (.iconst 0, 1) := by decide +kernel
theorem dX11_go_234 : decode cX11_go 234 = .ok (.istore_n 3, 1) := by decide +kernel
theorem dX11_go_235 : decode cX11_go 235 = .ok (.aload_n 0, 1) := by decide +kernel
theorem dX11_go_236 : decode cX11_go 236 = .ok (.getfield 21, 3) := by decide +kernel
theorem dX11_go_239 : decode cX11_go 239 = .ok (.aload_n 0, 1) := by decide +kernel
theorem dX11_go_240 : decode cX11_go 240 = .ok (.getfield 24, 3) := by decide +kernel
theorem dX11_go_243 : decode cX11_go 243 = .ok (.isub, 1) := by decide +kernel
theorem dX11_go_244 : decode cX11_go 244 = .ok (.bipush 7, 2) := by decide +kernel
theorem dX11_go_246 : decode cX11_go 246 = .ok (.if_icmp .ge 23, 3) := by decide +kernel
theorem dX11_go_249 : decode cX11_go 249 = .ok (.aload_n 0, 1) := by decide +kernel
theorem dX11_go_250 : decode cX11_go 250 = .ok (.ldc2_w 48, 3) := by decide +kernel
theorem dX11_go_253 : decode cX11_go 253 = .ok (.aload_n 0, 1) := by decide +kernel
theorem dX11_go_254 : decode cX11_go 254 = .ok (.getfield 37, 3) := by decide +kernel
theorem dX11_go_257 : decode cX11_go 257 = .ok (.lmul, 1) := by decide +kernel
theorem dX11_go_258 : decode cX11_go 258 = .ok (.iload 4, 2) := by decide +kernel
theorem dX11_go_260 : decode cX11_go 260 = .ok (.i2l, 1) := by decide +kernel
theorem dX11_go_261 : decode cX11_go 261 = .ok (.ladd, 1) := by decide +kernel
theorem dX11_go_262 : decode cX11_go 262 = .ok (.ldc2_w 50, 3) := by decide +kernel
theorem dX11_go_265 : decode cX11_go 265 = .ok (.lsub, 1) := by decide +kernel
theorem dX11_go_266 : decode cX11_go 266 = .ok (.putfield 37, 3) := by decide +kernel
theorem dX11_go_269 : decode cX11_go 269 = .ok (.aload_n 0, 1) := by decide +kernel
theorem dX11_go_270 : decode cX11_go 270 = .ok (.getfield 21, 3) := by decide +kernel
theorem dX11_go_273 : decode cX11_go 273 = .ok (.aload_n 0, 1) := by decide +kernel
theorem dX11_go_274 : decode cX11_go 274 = .ok (.getfield 24, 3) := by decide +kernel
theorem dX11_go_277 : decode cX11_go 277 = .ok (.isub, 1) := by decide +kernel
theorem dX11_go_278 : decode cX11_go 278 = .ok (.iconst 2, 1) := by decide +kernel
theorem dX11_go_279 : decode cX11_go 279 = .ok (.if_icmp .ge 20, 3) := by decide +kernel
theorem dX11_go_282 : decode cX11_go 282 = .ok (.aload_n 0, 1) := by decide +kernel
theorem dX11_go_283 : decode cX11_go 283 = .ok (.bipush 10, 2) := by decide +kernel
theorem dX11_go_285 : decode cX11_go 285 = .ok (.aload_n 0, 1) := by decide +kernel
theorem dX11_go_286 : decode cX11_go 286 = .ok (.getfield 41, 3) := by decide +kernel
theorem dX11_go_289 : decode cX11_go 289 = .ok (.imul, 1) := by decide +kernel
theorem dX11_go_290 : decode cX11_go 290 = .ok (.iload 4, 2) := by decide +kernel
theorem dX11_go_292 : decode cX11_go 292 = .ok (.iadd, 1) := by decide +kernel
theorem dX11_go_293 : decode cX11_go 293 = .ok (.bipush 48, 2) := by decide +kernel
theorem dX11_go_295 : decode cX11_go 295 = .ok (.isub, 1) := by decide +kernel
theorem dX11_go_296 : decode cX11_go 296 = .ok (.putfield 41, 3) := by decide +kernel
theorem dX11_go_299 : decode cX11_go 299 = .ok (.aload_n 0, 1) := by decide +kernel
theorem dX11_go_300 : decode cX11_go 300 = .ok (.dup, 1) := by decide +kernel
theorem dX11_go_301 : decode cX11_go 301 = .ok (.getfield 21, 3) := by decide +kernel
theorem dX11_go_304 : decode cX11_go 304 = .ok (.iconst 1, 1) := by decide +kernel
theorem dX11_go_305 : decode cX11_go 305 = .ok (.iadd, 1) := by decide +kernel
theorem dX11_go_306 : decode cX11_go 306 = .ok (.putfield 21, 3) := by decide +kernel
theorem dX11_go_309 : decode cX11_go 309 = .ok (.goto (-132), 3) := by decide +kernel
theorem dX11_go_312 : decode cX11_go 312 = .ok (.aload_n 0, 1) := by decide +kernel
theorem dX11_go_313 : decode cX11_go 313 = .ok (.iload_n 3, 1) := by decide +kernel
theorem dX11_go_314 : decode cX11_go 314 = .ok (.ifCond .eq 20, 3) := by decide +kernel
theorem dX11_go_317 : decode cX11_go 317 = .ok (.iload_n 2, 1) := by decide +kernel
theorem dX11_go_318 : decode cX11_go 318 = .ok (.ifCond .ne 20, 3) := by decide +kernel
theorem dX11_go_321 : decode cX11_go 321 = .ok (.aload_n 0, 1) := by decide +kernel
theorem dX11_go_322 : decode cX11_go 322 = .ok (.getfield 21, 3) := by decide +kernel
theorem dX11_go_325 : decode cX11_go 325 = .ok (.aload_n 0, 1) := by decide +kernel
theorem dX11_go_326 : decode cX11_go 326 = .ok (.getfield 24, 3) := by decide +kernel
theorem dX11_go_329 : decode cX11_go 329 = .ok (.isub, 1) := by decide +kernel
theorem dX11_go_330 : decode cX11_go 330 = .ok (.iconst 2, 1) := by decide +kernel
theorem dX11_go_331 : decode cX11_go 331 = .ok (.if_icmp .le 7, 3) := by decide +kernel
theorem dX11_go_334 : decode cX11_go 334 = .ok (.iconst 1, 1) := by decide +kernel
theorem dX11_go_335 : decode cX11_go 335 = .ok (.goto 12, 3) := by decide +kernel
theorem dX11_go_338 : decode cX11_go 338 = .ok (.iload_n 2, 1) := by decide +kernel
theorem dX11_go_339 : decode cX11_go 339 = .ok (.ifCond .eq 7, 3) := by decide +kernel
theorem dX11_go_342 : decode cX11_go 342 = .ok (.iconst 2, 1) := by decide +kernel
theorem dX11_go_343 : decode cX11_go 343 = .ok (.goto 4, 3) := by decide +kernel
theorem dX11_go_346 : decode cX11_go 346 = .ok (.iconst 3, 1) := by decide +kernel
theorem dX11_go_347 : decode cX11_go 347 = .ok (.putfield 27, 3) := by decide +kernel
theorem dX11_go_350 : decode cX11_go 350 = .ok (.return_, 1) := by decide +kernel
theorem dX11_handBack_0 : decode cX11_handBack 0 = .ok (.aload_n 0, 1) := by decide +kernel
theorem dX11_handBack_1 : decode cX11_handBack 1 = .ok (.iconst 0, 1) := by decide +kernel
theorem dX11_handBack_2 : decode cX11_handBack 2 = .ok (.putfield 1, 3) := by decide +kernel
theorem dX11_handBack_5 : decode cX11_handBack 5 = .ok (.aload_n 0, 1) := by decide +kernel
theorem dX11_handBack_6 : decode cX11_handBack 6 = .ok (.iload_n 1, 1) := by decide +kernel
theorem dX11_handBack_7 : decode cX11_handBack 7 = .ok (.invokevirtual 189, 3) := by decide +kernel
theorem dX11_handBack_10 : decode cX11_handBack 10 = .ok (.ifCond .eq 19, 3) := by decide +kernel
theorem dX11_handBack_13 : decode cX11_handBack 13 = .ok (.iload_n 2, 1) := by decide +kernel
theorem dX11_handBack_14 : decode cX11_handBack 14 = .ok (.iconst 1, 1) := by decide +kernel
theorem dX11_handBack_15 : decode cX11_handBack 15 = .ok (.if_icmp .lt 14, 3) := by decide +kernel
theorem dX11_handBack_18 : decode cX11_handBack 18 = .ok (.iload_n 2, 1) := by decide +kernel
theorem dX11_handBack_19 : decode cX11_handBack 19 = .ok (.aload_n 0, 1) := by decide +kernel
theorem dX11_handBack_20 : decode cX11_handBack 20 = .ok (.iload_n 1, 1) := by decide +kernel
theorem dX11_handBack_21 : decode cX11_handBack 21 = .ok (.bipush 7, 2) := by decide +kernel
theorem dX11_handBack_23 : decode cX11_handBack 23 = .ok (.invokevirtual 167, 3) := by decide +kernel
theorem dX11_handBack_26 : decode cX11_handBack 26 = .ok (.if_icmp .le 5, 3) := by decide +kernel
theorem dX11_handBack_29 : decode cX11_handBack 29 = .ok (.iconst (-1), 1) := by decide +kernel
theorem dX11_handBack_30 : decode cX11_handBack 30 = .ok (.ireturn, 1) := by decide +kernel
theorem dX11_handBack_31 : decode cX11_handBack 31 = .ok (.aload_n 0, 1) := by decide +kernel
theorem dX11_handBack_32 : decode cX11_handBack 32 = .ok (.invokevirtual 259, 3) := by decide +kernel
theorem dX11_handBack_35 : decode cX11_handBack 35 = .ok (.bipush 7, 2) := by decide +kernel
theorem dX11_handBack_37 : decode cX11_handBack 37 = .ok (.bipush 12, 2) := by decide +kernel
theorem dX11_handBack_39 : decode cX11_handBack 39 = .ok (.iload_n 1, 1) := by decide +kernel
theorem dX11_handBack_40 : decode cX11_handBack 40 = .ok (.imul, 1) := by decide +kernel
theorem dX11_handBack_41 : decode cX11_handBack 41 = .ok (.iadd, 1) := by decide +kernel
theorem dX11_handBack_42 : decode cX11_handBack 42 = .ok (.istore_n 3, 1) := by decide +kernel
theorem dX11_handBack_43 : decode cX11_handBack 43 = .ok (.aload_n 0, 1) := by decide +kernel
theorem dX11_handBack_44 : decode cX11_handBack 44 = .ok (.getfield 72, 3) := by decide +kernel
theorem dX11_handBack_47 : decode cX11_handBack 47 = .ok (.iload_n 3, 1) := by decide +kernel
theorem dX11_handBack_48 : decode cX11_handBack 48 = .ok (.bipush 7, 2) := by decide +kernel
theorem dX11_handBack_50 : decode cX11_handBack 50 = .ok (.iadd, 1) := by decide +kernel
theorem dX11_handBack_51 : decode cX11_handBack 51 = .ok (.dup2, 1) := by decide +kernel
theorem dX11_handBack_52 : decode cX11_handBack 52 = .ok (.iaload, 1) := by decide +kernel
theorem dX11_handBack_53 : decode cX11_handBack 53 = .ok (.iload_n 2, 1) := by decide +kernel
theorem dX11_handBack_54 : decode cX11_handBack 54 = .ok (.isub, 1) := by decide +kernel
theorem dX11_handBack_55 : decode cX11_handBack 55 = .ok (.iastore, 1) := by decide +kernel
theorem dX11_handBack_56 : decode cX11_handBack 56 = .ok (.aload_n 0, 1) := by decide +kernel
end
section
theorem dX11_handBack_57 : decode cX11_handBack 57 = .ok (.getfield 72, 3) := by decide +kernel
theorem dX11_handBack_60 : decode cX11_handBack 60 = .ok (.iload_n 3, 1) := by decide +kernel
theorem dX11_handBack_61 : decode cX11_handBack 61 = .ok (.bipush 9, 2) := by decide +kernel
theorem dX11_handBack_63 : decode cX11_handBack 63 = .ok (.iadd, 1) := by decide +kernel
theorem dX11_handBack_64 : decode cX11_handBack 64 = .ok (.dup2, 1) := by decide +kernel
theorem dX11_handBack_65 : decode cX11_handBack 65 = .ok (.iaload, 1) := by decide +kernel
theorem dX11_handBack_66 : decode cX11_handBack 66 = .ok (.iload_n 2, 1) := by decide +kernel
theorem dX11_handBack_67 : decode cX11_handBack 67 = .ok (.iadd, 1) := by decide +kernel
theorem dX11_handBack_68 : decode cX11_handBack 68 = .ok (.iastore, 1) := by decide +kernel
theorem dX11_handBack_69 : decode cX11_handBack 69 = .ok (.aload_n 0, 1) := by decide +kernel
theorem dX11_handBack_70 : decode cX11_handBack 70 = .ok (.getfield 72, 3) := by decide +kernel
theorem dX11_handBack_73 : decode cX11_handBack 73 = .ok (.iload_n 3, 1) := by decide +kernel
theorem dX11_handBack_74 : decode cX11_handBack 74 = .ok (.bipush 9, 2) := by decide +kernel
theorem dX11_handBack_76 : decode cX11_handBack 76 = .ok (.iadd, 1) := by decide +kernel
theorem dX11_handBack_77 : decode cX11_handBack 77 = .ok (.iaload, 1) := by decide +kernel
theorem dX11_handBack_78 : decode cX11_handBack 78 = .ok (.aload_n 0, 1) := by decide +kernel
theorem dX11_handBack_79 : decode cX11_handBack 79 = .ok (.getfield 72, 3) := by decide +kernel
theorem dX11_handBack_82 : decode cX11_handBack 82 = .ok (.iconst 1, 1) := by decide +kernel
theorem dX11_handBack_83 : decode cX11_handBack 83 = .ok (.iaload, 1) := by decide +kernel
theorem dX11_handBack_84 : decode cX11_handBack 84 = .ok (.idiv, 1) := by decide +kernel
theorem dX11_handBack_85 : decode cX11_handBack 85 = .ok (.aload_n 0, 1) := by decide +kernel
theorem dX11_handBack_86 : decode cX11_handBack 86 = .ok (.getfield 72, 3) := by decide +kernel
theorem dX11_handBack_89 : decode cX11_handBack 89 = .ok (.iload_n 3, 1) := by decide +kernel
theorem dX11_handBack_90 : decode cX11_handBack 90 = .ok (.bipush 10, 2) := by decide +kernel
theorem dX11_handBack_92 : decode cX11_handBack 92 = .ok (.iadd, 1) := by decide +kernel
theorem dX11_handBack_93 : decode cX11_handBack 93 = .ok (.iaload, 1) := by decide +kernel
theorem dX11_handBack_94 : decode cX11_handBack 94 = .ok (.isub, 1) := by decide +kernel
theorem dX11_handBack_95 : decode cX11_handBack 95 = .ok (.istore 4, 2) := by decide +kernel
theorem dX11_handBack_97 : decode cX11_handBack 97 = .ok (.aload_n 0, 1) := by decide +kernel
theorem dX11_handBack_98 : decode cX11_handBack 98 = .ok (.getfield 72, 3) := by decide +kernel
theorem dX11_handBack_101 : decode cX11_handBack 101 = .ok (.iload_n 3, 1) := by decide +kernel
theorem dX11_handBack_102 : decode cX11_handBack 102 = .ok (.bipush 10, 2) := by decide +kernel
theorem dX11_handBack_104 : decode cX11_handBack 104 = .ok (.iadd, 1) := by decide +kernel
theorem dX11_handBack_105 : decode cX11_handBack 105 = .ok (.dup2, 1) := by decide +kernel
theorem dX11_handBack_106 : decode cX11_handBack 106 = .ok (.iaload, 1) := by decide +kernel
theorem dX11_handBack_107 : decode cX11_handBack 107 = .ok (.iload 4, 2) := by decide +kernel
theorem dX11_handBack_109 : decode cX11_handBack 109 = .ok (.iadd, 1) := by decide +kernel
theorem dX11_handBack_110 : decode cX11_handBack 110 = .ok (.iastore, 1) := by decide +kernel
theorem dX11_handBack_111 : decode cX11_handBack 111 = .ok (.iload 4, 2) := by decide +kernel
theorem dX11_handBack_113 : decode cX11_handBack 113 = .ok (.ireturn, 1) := by decide +kernel
theorem dX11_has_0 : decode cX11_has 0 = .ok (.iload_n 0, 1) := by decide +kernel
theorem dX11_has_1 : decode cX11_has 1 = .ok (.iload_n 1, 1) := by decide +kernel
theorem dX11_has_2 : decode cX11_has 2 = .ok (.ishr, 1) := by decide +kernel
theorem dX11_has_3 : decode cX11_has 3 = .ok (.iconst 1, 1) := by decide +kernel
theorem dX11_has_4 : decode cX11_has 4 = .ok (.iand, 1) := by decide +kernel
theorem dX11_has_5 : decode cX11_has 5 = .ok (.iconst 1, 1) := by decide +kernel
theorem dX11_has_6 : decode cX11_has 6 = .ok (.if_icmp .ne 7, 3) := by decide +kernel
theorem dX11_has_9 : decode cX11_has 9 = .ok (.iconst 1, 1) := by decide +kernel
theorem dX11_has_10 : decode cX11_has 10 = .ok (.goto 4, 3) := by decide +kernel
theorem dX11_has_13 : decode cX11_has 13 = .ok (.iconst 0, 1) := by decide +kernel
theorem dX11_has_14 : decode cX11_has 14 = .ok (.ireturn, 1) := by decide +kernel
theorem dX11_having_0 : decode cX11_having 0 = .ok (.iconst 0, 1) := by decide +kernel
theorem dX11_having_1 : decode cX11_having 1 = .ok (.istore_n 2, 1) := by decide +kernel
theorem dX11_having_2 : decode cX11_having 2 = .ok (.iconst 0, 1) := by decide +kernel
theorem dX11_having_3 : decode cX11_having 3 = .ok (.istore_n 3, 1) := by decide +kernel
theorem dX11_having_4 : decode cX11_having 4 = .ok (.iload_n 3, 1) := by decide +kernel
theorem dX11_having_5 : decode cX11_having 5 = .ok (.aload_n 0, 1) := by decide +kernel
theorem dX11_having_6 : decode cX11_having 6 = .ok (.getfield 72, 3) := by decide +kernel
theorem dX11_having_9 : decode cX11_having 9 = .ok (.iconst 5, 1) := by decide +kernel
theorem dX11_having_10 : decode cX11_having 10 = .ok (.iaload, 1) := by decide +kernel
theorem dX11_having_11 : decode cX11_having 11 = .ok (.if_icmp .ge 22, 3) := by decide +kernel
theorem dX11_having_14 : decode cX11_having 14 = .ok (.aload_n 0, 1) := by decide +kernel
theorem dX11_having_15 : decode cX11_having 15 = .ok (.iload_n 3, 1) := by decide +kernel
theorem dX11_having_16 : decode cX11_having 16 = .ok (.iconst 2, 1) := by decide +kernel
theorem dX11_having_17 : decode cX11_having 17 = .ok (.invokevirtual 160, 3) := by decide +kernel
theorem dX11_having_20 : decode cX11_having 20 = .ok (.iload_n 1, 1) := by decide +kernel
theorem dX11_having_21 : decode cX11_having 21 = .ok (.if_icmp .ne 6, 3) := by decide +kernel
theorem dX11_having_24 : decode cX11_having 24 = .ok (.iinc 2 1, 3) := by decide +kernel
theorem dX11_having_27 : decode cX11_having 27 = .ok (.iinc 3 1, 3) := by decide +kernel
theorem dX11_having_30 : decode cX11_having 30 = .ok (.goto (-26), 3) := by decide +kernel
theorem dX11_having_33 : decode cX11_having 33 = .ok (.iload_n 2, 1) := by decide +kernel
theorem dX11_having_34 : decode cX11_having 34 = .ok (.ireturn, 1) := by decide +kernel
theorem dX11_home_0 : decode cX11_home 0 = .ok (.aload_n 0, 1) := by decide +kernel
theorem dX11_home_1 : decode cX11_home 1 = .ok (.iconst 0, 1) := by decide +kernel
theorem dX11_home_2 : decode cX11_home 2 = .ok (.putfield 1, 3) := by decide +kernel
theorem dX11_home_5 : decode cX11_home 5 = .ok (.aload_n 0, 1) := by decide +kernel
theorem dX11_home_6 : decode cX11_home 6 = .ok (.iload_n 1, 1) := by decide +kernel
theorem dX11_home_7 : decode cX11_home 7 = .ok (.invokevirtual 195, 3) := by decide +kernel
theorem dX11_home_10 : decode cX11_home 10 = .ok (.ifCond .eq 11, 3) := by decide +kernel
theorem dX11_home_13 : decode cX11_home 13 = .ok (.aload_n 0, 1) := by decide +kernel
theorem dX11_home_14 : decode cX11_home 14 = .ok (.iload_n 1, 1) := by decide +kernel
theorem dX11_home_15 : decode cX11_home 15 = .ok (.invokevirtual 201, 3) := by decide +kernel
theorem dX11_home_18 : decode cX11_home 18 = .ok (.goto 4, 3) := by decide +kernel
theorem dX11_home_21 : decode cX11_home 21 = .ok (.iconst (-1), 1) := by decide +kernel
theorem dX11_home_22 : decode cX11_home 22 = .ok (.istore_n 2, 1) := by decide +kernel
theorem dX11_home_23 : decode cX11_home 23 = .ok (.iload_n 2, 1) := by decide +kernel
theorem dX11_home_24 : decode cX11_home 24 = .ok (.iconst (-1), 1) := by decide +kernel
theorem dX11_home_25 : decode cX11_home 25 = .ok (.if_icmp .eq 13, 3) := by decide +kernel
theorem dX11_home_28 : decode cX11_home 28 = .ok (.aload_n 0, 1) := by decide +kernel
theorem dX11_home_29 : decode cX11_home 29 = .ok (.iload_n 2, 1) := by decide +kernel
theorem dX11_home_30 : decode cX11_home 30 = .ok (.iconst 2, 1) := by decide +kernel
theorem dX11_home_31 : decode cX11_home 31 = .ok (.invokevirtual 160, 3) := by decide +kernel
theorem dX11_home_34 : decode cX11_home 34 = .ok (.iconst 1, 1) := by decide +kernel
theorem dX11_home_35 : decode cX11_home 35 = .ok (.if_icmp .eq 8, 3) := by decide +kernel
theorem dX11_home_38 : decode cX11_home 38 = .ok (.aload_n 0, 1) := by decide +kernel
theorem dX11_home_39 : decode cX11_home 39 = .ok (.invokevirtual 198, 3) := by decide +kernel
theorem dX11_home_42 : decode cX11_home 42 = .ok (.ireturn, 1) := by decide +kernel
theorem dX11_home_43 : decode cX11_home 43 = .ok (.aload_n 0, 1) := by decide +kernel
theorem dX11_home_44 : decode cX11_home 44 = .ok (.invokevirtual 259, 3) := by decide +kernel
theorem dX11_home_47 : decode cX11_home 47 = .ok (.aload_n 0, 1) := by decide +kernel
theorem dX11_home_48 : decode cX11_home 48 = .ok (.getfield 72, 3) := by decide +kernel
theorem dX11_home_51 : decode cX11_home 51 = .ok (.bipush 6, 2) := by decide +kernel
theorem dX11_home_53 : decode cX11_home 53 = .ok (.iaload, 1) := by decide +kernel
theorem dX11_home_54 : decode cX11_home 54 = .ok (.aload_n 0, 1) := by decide +kernel
theorem dX11_home_55 : decode cX11_home 55 = .ok (.iload_n 2, 1) := by decide +kernel
theorem dX11_home_56 : decode cX11_home 56 = .ok (.iconst 4, 1) := by decide +kernel
theorem dX11_home_57 : decode cX11_home 57 = .ok (.invokevirtual 160, 3) := by decide +kernel
theorem dX11_home_60 : decode cX11_home 60 = .ok (.isub, 1) := by decide +kernel
theorem dX11_home_61 : decode cX11_home 61 = .ok (.istore_n 3, 1) := by decide +kernel
theorem dX11_home_62 : decode cX11_home 62 = .ok (.aload_n 0, 1) := by decide +kernel
theorem dX11_home_63 : decode cX11_home 63 = .ok (.iload_n 2, 1) := by decide +kernel
theorem dX11_home_64 : decode cX11_home 64 = .ok (.iconst 3, 1) := by decide +kernel
theorem dX11_home_65 : decode cX11_home 65 = .ok (.invokevirtual 160, 3) := by decide +kernel
theorem dX11_home_68 : decode cX11_home 68 = .ok (.istore 4, 2) := by decide +kernel
theorem dX11_home_70 : decode cX11_home 70 = .ok (.iload_n 3, 1) := by decide +kernel
theorem dX11_home_71 : decode cX11_home 71 = .ok (.aload_n 0, 1) := by decide +kernel
theorem dX11_home_72 : decode cX11_home 72 = .ok (.iload 4, 2) := by decide +kernel
theorem dX11_home_74 : decode cX11_home 74 = .ok (.iconst 5, 1) := by decide +kernel
theorem dX11_home_75 : decode cX11_home 75 = .ok (.invokevirtual 167, 3) := by decide +kernel
theorem dX11_home_78 : decode cX11_home 78 = .ok (.if_icmp .le 7, 3) := by decide +kernel
theorem dX11_home_81 : decode cX11_home 81 = .ok (.iconst 1, 1) := by decide +kernel
theorem dX11_home_82 : decode cX11_home 82 = .ok (.goto 4, 3) := by decide +kernel
theorem dX11_home_85 : decode cX11_home 85 = .ok (.iconst 0, 1) := by decide +kernel
theorem dX11_home_86 : decode cX11_home 86 = .ok (.istore 5, 2) := by decide +kernel
theorem dX11_home_88 : decode cX11_home 88 = .ok (.aload_n 0, 1) := by decide +kernel
theorem dX11_home_89 : decode cX11_home 89 = .ok (.getfield 72, 3) := by decide +kernel
theorem dX11_home_92 : decode cX11_home 92 = .ok (.bipush 111, 2) := by decide +kernel
theorem dX11_home_94 : decode cX11_home 94 = .ok (.bipush 13, 2) := by decide +kernel
theorem dX11_home_96 : decode cX11_home 96 = .ok (.iload_n 2, 1) := by decide +kernel
theorem dX11_home_97 : decode cX11_home 97 = .ok (.imul, 1) := by decide +kernel
theorem dX11_home_98 : decode cX11_home 98 = .ok (.iadd, 1) := by decide +kernel
theorem dX11_home_99 : decode cX11_home 99 = .ok (.iconst 2, 1) := by decide +kernel
theorem dX11_home_100 : decode cX11_home 100 = .ok (.iadd, 1) := by decide +kernel
theorem dX11_home_101 : decode cX11_home 101 = .ok (.iconst 2, 1) := by decide +kernel
theorem dX11_home_102 : decode cX11_home 102 = .ok (.iastore, 1) := by decide +kernel
theorem dX11_home_103 : decode cX11_home 103 = .ok (.aload_n 0, 1) := by decide +kernel
theorem dX11_home_104 : decode cX11_home 104 = .ok (.getfield 72, 3) := by decide +kernel
theorem dX11_home_107 : decode cX11_home 107 = .ok (.bipush 111, 2) := by decide +kernel
theorem dX11_home_109 : decode cX11_home 109 = .ok (.bipush 13, 2) := by decide +kernel
theorem dX11_home_111 : decode cX11_home 111 = .ok (.iload_n 2, 1) := by decide +kernel
theorem dX11_home_112 : decode cX11_home 112 = .ok (.imul, 1) := by decide +kernel
theorem dX11_home_113 : decode cX11_home 113 = .ok (.iadd, 1) := by decide +kernel
theorem dX11_home_114 : decode cX11_home 114 = .ok (.iconst 5, 1) := by decide +kernel
theorem dX11_home_115 : decode cX11_home 115 = .ok (.iadd, 1) := by decide +kernel
theorem dX11_home_116 : decode cX11_home 116 = .ok (.aload_n 0, 1) := by decide +kernel
theorem dX11_home_117 : decode cX11_home 117 = .ok (.getfield 72, 3) := by decide +kernel
theorem dX11_home_120 : decode cX11_home 120 = .ok (.bipush 6, 2) := by decide +kernel
theorem dX11_home_122 : decode cX11_home 122 = .ok (.iaload, 1) := by decide +kernel
theorem dX11_home_123 : decode cX11_home 123 = .ok (.iastore, 1) := by decide +kernel
theorem dX11_home_124 : decode cX11_home 124 = .ok (.aload_n 0, 1) := by decide +kernel
theorem dX11_home_125 : decode cX11_home 125 = .ok (.getfield 72, 3) := by decide +kernel
theorem dX11_home_128 : decode cX11_home 128 = .ok (.bipush 111, 2) := by decide +kernel
theorem dX11_home_130 : decode cX11_home 130 = .ok (.bipush 13, 2) := by decide +kernel
theorem dX11_home_132 : decode cX11_home 132 = .ok (.iload_n 2, 1) := by decide +kernel
theorem dX11_home_133 : decode cX11_home 133 = .ok (.imul, 1) := by decide +kernel
theorem dX11_home_134 : decode cX11_home 134 = .ok (.iadd, 1) := by decide +kernel
theorem dX11_home_135 : decode cX11_home 135 = .ok (.bipush 6, 2) := by decide +kernel
theorem dX11_home_137 : decode cX11_home 137 = .ok (.iadd, 1) := by decide +kernel
theorem dX11_home_138 : decode cX11_home 138 = .ok (.iload 5, 2) := by decide +kernel
theorem dX11_home_140 : decode cX11_home 140 = .ok (.ifCond .eq 7, 3) := by decide +kernel
theorem dX11_home_143 : decode cX11_home 143 = .ok (.iconst 1, 1) := by decide +kernel
theorem dX11_home_144 : decode cX11_home 144 = .ok (.goto 4, 3) := by decide +kernel
theorem dX11_home_147 : decode cX11_home 147 = .ok (.iconst 0, 1) := by decide +kernel
theorem dX11_home_148 : decode cX11_home 148 = .ok (.iastore, 1) := by decide +kernel
theorem dX11_home_149 : decode cX11_home 149 = .ok (.iload 5, 2) := by decide +kernel
theorem dX11_home_151 : decode cX11_home 151 = .ok (.ifCond .eq 20, 3) := by decide +kernel
theorem dX11_home_154 : decode cX11_home 154 = .ok (.aload_n 0, 1) := by decide +kernel
theorem dX11_home_155 : decode cX11_home 155 = .ok (.getfield 72, 3) := by decide +kernel
theorem dX11_home_158 : decode cX11_home 158 = .ok (.bipush 79, 2) := by decide +kernel
theorem dX11_home_160 : decode cX11_home 160 = .ok (.iconst 3, 1) := by decide +kernel
theorem dX11_home_161 : decode cX11_home 161 = .ok (.iload_n 1, 1) := by decide +kernel
theorem dX11_home_162 : decode cX11_home 162 = .ok (.imul, 1) := by decide +kernel
theorem dX11_home_163 : decode cX11_home 163 = .ok (.iadd, 1) := by decide +kernel
theorem dX11_home_164 : decode cX11_home 164 = .ok (.iconst 2, 1) := by decide +kernel
theorem dX11_home_165 : decode cX11_home 165 = .ok (.iadd, 1) := by decide +kernel
theorem dX11_home_166 : decode cX11_home 166 = .ok (.dup2, 1) := by decide +kernel
theorem dX11_home_167 : decode cX11_home 167 = .ok (.iaload, 1) := by decide +kernel
theorem dX11_home_168 : decode cX11_home 168 = .ok (.iconst 1, 1) := by decide +kernel
theorem dX11_home_169 : decode cX11_home 169 = .ok (.iadd, 1) := by decide +kernel
theorem dX11_home_170 : decode cX11_home 170 = .ok (.iastore, 1) := by decide +kernel
theorem dX11_home_171 : decode cX11_home 171 = .ok (.aload_n 0, 1) := by decide +kernel
theorem dX11_home_172 : decode cX11_home 172 = .ok (.iload 4, 2) := by decide +kernel
theorem dX11_home_174 : decode cX11_home 174 = .ok (.iconst 0, 1) := by decide +kernel
theorem dX11_home_175 : decode cX11_home 175 = .ok (.invokevirtual 167, 3) := by decide +kernel
theorem dX11_home_178 : decode cX11_home 178 = .ok (.ifCond .ne 33, 3) := by decide +kernel
theorem dX11_home_181 : decode cX11_home 181 = .ok (.aload_n 0, 1) := by decide +kernel
theorem dX11_home_182 : decode cX11_home 182 = .ok (.getfield 72, 3) := by decide +kernel
theorem dX11_home_185 : decode cX11_home 185 = .ok (.bipush 7, 2) := by decide +kernel
theorem dX11_home_187 : decode cX11_home 187 = .ok (.bipush 12, 2) := by decide +kernel
theorem dX11_home_189 : decode cX11_home 189 = .ok (.iload 4, 2) := by decide +kernel
theorem dX11_home_191 : decode cX11_home 191 = .ok (.imul, 1) := by decide +kernel
theorem dX11_home_192 : decode cX11_home 192 = .ok (.iadd, 1) := by decide +kernel
theorem dX11_home_193 : decode cX11_home 193 = .ok (.iload 5, 2) := by decide +kernel
theorem dX11_home_195 : decode cX11_home 195 = .ok (.ifCond .eq 8, 3) := by decide +kernel
theorem dX11_home_198 : decode cX11_home 198 = .ok (.bipush 8, 2) := by decide +kernel
theorem dX11_home_200 : decode cX11_home 200 = .ok (.goto 5, 3) := by decide +kernel
theorem dX11_home_203 : decode cX11_home 203 = .ok (.bipush 7, 2) := by decide +kernel
theorem dX11_home_205 : decode cX11_home 205 = .ok (.iadd, 1) := by decide +kernel
theorem dX11_home_206 : decode cX11_home 206 = .ok (.dup2, 1) := by decide +kernel
theorem dX11_home_207 : decode cX11_home 207 = .ok (.iaload, 1) := by decide +kernel
theorem dX11_home_208 : decode cX11_home 208 = .ok (.iconst 1, 1) := by decide +kernel
theorem dX11_home_209 : decode cX11_home 209 = .ok (.iadd, 1) := by decide +kernel
theorem dX11_home_210 : decode cX11_home 210 = .ok (.iastore, 1) := by decide +kernel
theorem dX11_home_211 : decode cX11_home 211 = .ok (.iload_n 3, 1) := by decide +kernel
theorem dX11_home_212 : decode cX11_home 212 = .ok (.ireturn, 1) := by decide +kernel
theorem dX11_isAsGood_0 : decode cX11_isAsGood 0 = .ok (.iload_n 2, 1) := by decide +kernel
theorem dX11_isAsGood_1 : decode cX11_isAsGood 1 = .ok (.iconst (-1), 1) := by decide +kernel
theorem dX11_isAsGood_2 : decode cX11_isAsGood 2 = .ok (.if_icmp .eq 23, 3) := by decide +kernel
theorem dX11_isAsGood_5 : decode cX11_isAsGood 5 = .ok (.aload_n 0, 1) := by decide +kernel
theorem dX11_isAsGood_6 : decode cX11_isAsGood 6 = .ok (.iload_n 2, 1) := by decide +kernel
theorem dX11_isAsGood_7 : decode cX11_isAsGood 7 = .ok (.iload_n 1, 1) := by decide +kernel
theorem dX11_isAsGood_8 : decode cX11_isAsGood 8 = .ok (.invokevirtual 213, 3) := by decide +kernel
theorem dX11_isAsGood_11 : decode cX11_isAsGood 11 = .ok (.ifCond .eq 12, 3) := by decide +kernel
theorem dX11_isAsGood_14 : decode cX11_isAsGood 14 = .ok (.aload_n 0, 1) := by decide +kernel
theorem dX11_isAsGood_15 : decode cX11_isAsGood 15 = .ok (.getfield 81, 3) := by decide +kernel
theorem dX11_isAsGood_18 : decode cX11_isAsGood 18 = .ok (.iload_n 2, 1) := by decide +kernel
theorem dX11_isAsGood_19 : decode cX11_isAsGood 19 = .ok (.iaload, 1) := by decide +kernel
theorem dX11_isAsGood_20 : decode cX11_isAsGood 20 = .ok (.ifCond .gt 5, 3) := by decide +kernel
theorem dX11_isAsGood_23 : decode cX11_isAsGood 23 = .ok (.iconst 0, 1) := by decide +kernel
theorem dX11_isAsGood_24 : decode cX11_isAsGood 24 = .ok (.ireturn, 1) := by decide +kernel
theorem dX11_isAsGood_25 : decode cX11_isAsGood 25 = .ok (.aload_n 0, 1) := by decide +kernel
theorem dX11_isAsGood_26 : decode cX11_isAsGood 26 = .ok (.getfield 96, 3) := by decide +kernel
theorem dX11_isAsGood_29 : decode cX11_isAsGood 29 = .ok (.iload_n 1, 1) := by decide +kernel
theorem dX11_isAsGood_30 : decode cX11_isAsGood 30 = .ok (.iconst 1, 1) := by decide +kernel
theorem dX11_isAsGood_31 : decode cX11_isAsGood 31 = .ok (.bastore, 1) := by decide +kernel
theorem dX11_isAsGood_32 : decode cX11_isAsGood 32 = .ok (.aload_n 0, 1) := by decide +kernel
theorem dX11_isAsGood_33 : decode cX11_isAsGood 33 = .ok (.getfield 87, 3) := by decide +kernel
theorem dX11_isAsGood_36 : decode cX11_isAsGood 36 = .ok (.iload_n 1, 1) := by decide +kernel
theorem dX11_isAsGood_37 : decode cX11_isAsGood 37 = .ok (.iload_n 2, 1) := by decide +kernel
theorem dX11_isAsGood_38 : decode cX11_isAsGood 38 = .ok (.iastore, 1) := by decide +kernel
theorem dX11_isAsGood_39 : decode cX11_isAsGood 39 = .ok (.aload_n 0, 1) := by decide +kernel
theorem dX11_isAsGood_40 : decode cX11_isAsGood 40 = .ok (.invokevirtual 231, 3) := by decide +kernel
theorem dX11_isAsGood_43 : decode cX11_isAsGood 43 = .ok (.iconst 0, 1) := by decide +kernel
theorem dX11_isAsGood_44 : decode cX11_isAsGood 44 = .ok (.istore 5, 2) := by decide +kernel
theorem dX11_isAsGood_46 : decode cX11_isAsGood 46 = .ok (.iload 5, 2) := by decide +kernel
theorem dX11_isAsGood_48 : decode cX11_isAsGood 48 = .ok (.bipush 6, 2) := by decide +kernel
theorem dX11_isAsGood_50 : decode cX11_isAsGood 50 = .ok (.if_icmp .ge 28, 3) := by decide +kernel
theorem dX11_isAsGood_53 : decode cX11_isAsGood 53 = .ok (.aload_n 0, 1) := by decide +kernel
theorem dX11_isAsGood_54 : decode cX11_isAsGood 54 = .ok (.getfield 84, 3) := by decide +kernel
theorem dX11_isAsGood_57 : decode cX11_isAsGood 57 = .ok (.iload 5, 2) := by decide +kernel
theorem dX11_isAsGood_59 : decode cX11_isAsGood 59 = .ok (.iaload, 1) := by decide +kernel
theorem dX11_isAsGood_60 : decode cX11_isAsGood 60 = .ok (.aload_n 0, 1) := by decide +kernel
theorem dX11_isAsGood_61 : decode cX11_isAsGood 61 = .ok (.getfield 81, 3) := by decide +kernel
theorem dX11_isAsGood_64 : decode cX11_isAsGood 64 = .ok (.iload 5, 2) := by decide +kernel
theorem dX11_isAsGood_66 : decode cX11_isAsGood 66 = .ok (.iaload, 1) := by decide +kernel
theorem dX11_isAsGood_67 : decode cX11_isAsGood 67 = .ok (.if_icmp .le 5, 3) := by decide +kernel
theorem dX11_isAsGood_70 : decode cX11_isAsGood 70 = .ok (.iconst 0, 1) := by decide +kernel
theorem dX11_isAsGood_71 : decode cX11_isAsGood 71 = .ok (.ireturn, 1) := by decide +kernel
theorem dX11_isAsGood_72 : decode cX11_isAsGood 72 = .ok (.iinc 5 1, 3) := by decide +kernel
theorem dX11_isAsGood_75 : decode cX11_isAsGood 75 = .ok (.goto (-29), 3) := by decide +kernel
theorem dX11_isAsGood_78 : decode cX11_isAsGood 78 = .ok (.aload_n 0, 1) := by decide +kernel
theorem dX11_isAsGood_79 : decode cX11_isAsGood 79 = .ok (.getfield 225, 3) := by decide +kernel
theorem dX11_isAsGood_82 : decode cX11_isAsGood 82 = .ok (.iload_n 3, 1) := by decide +kernel
theorem dX11_isAsGood_83 : decode cX11_isAsGood 83 = .ok (.if_icmp .ne 16, 3) := by decide +kernel
theorem dX11_isAsGood_86 : decode cX11_isAsGood 86 = .ok (.aload_n 0, 1) := by decide +kernel
theorem dX11_isAsGood_87 : decode cX11_isAsGood 87 = .ok (.getfield 228, 3) := by decide +kernel
theorem dX11_isAsGood_90 : decode cX11_isAsGood 90 = .ok (.iload 4, 2) := by decide +kernel
theorem dX11_isAsGood_92 : decode cX11_isAsGood 92 = .ok (.if_icmp .ne 7, 3) := by decide +kernel
theorem dX11_isAsGood_95 : decode cX11_isAsGood 95 = .ok (.iconst 1, 1) := by decide +kernel
theorem dX11_isAsGood_96 : decode cX11_isAsGood 96 = .ok (.goto 4, 3) := by decide +kernel
theorem dX11_isAsGood_99 : decode cX11_isAsGood 99 = .ok (.iconst 0, 1) := by decide +kernel
theorem dX11_isAsGood_100 : decode cX11_isAsGood 100 = .ok (.ireturn, 1) := by decide +kernel
theorem dX11_isDigit_0 : decode cX11_isDigit 0 = .ok (.iload_n 0, 1) := by decide +kernel
theorem dX11_isDigit_1 : decode cX11_isDigit 1 = .ok (.bipush 48, 2) := by decide +kernel
theorem dX11_isDigit_3 : decode cX11_isDigit 3 = .ok (.if_icmp .lt 13, 3) := by decide +kernel
theorem dX11_isDigit_6 : decode cX11_isDigit 6 = .ok (.iload_n 0, 1) := by decide +kernel
theorem dX11_isDigit_7 : decode cX11_isDigit 7 = .ok (.bipush 57, 2) := by decide +kernel
theorem dX11_isDigit_9 : decode cX11_isDigit 9 = .ok (.if_icmp .gt 7, 3) := by decide +kernel
theorem dX11_isDigit_12 : decode cX11_isDigit 12 = .ok (.iconst 1, 1) := by decide +kernel
theorem dX11_isDigit_13 : decode cX11_isDigit 13 = .ok (.goto 4, 3) := by decide +kernel
theorem dX11_isDigit_16 : decode cX11_isDigit 16 = .ok (.iconst 0, 1) := by decide +kernel
theorem dX11_isDigit_17 : decode cX11_isDigit 17 = .ok (.ireturn, 1) := by decide +kernel
theorem dX11_isFit_0 : decode cX11_isFit 0 = .ok (.aload_n 0, 1) := by decide +kernel
theorem dX11_isFit_1 : decode cX11_isFit 1 = .ok (.iload_n 2, 1) := by decide +kernel
theorem dX11_isFit_2 : decode cX11_isFit 2 = .ok (.invokevirtual 210, 3) := by decide +kernel
theorem dX11_isFit_5 : decode cX11_isFit 5 = .ok (.iconst 1, 1) := by decide +kernel
theorem dX11_isFit_6 : decode cX11_isFit 6 = .ok (.aload_n 0, 1) := by decide +kernel
theorem dX11_isFit_7 : decode cX11_isFit 7 = .ok (.iload_n 2, 1) := by decide +kernel
theorem dX11_isFit_8 : decode cX11_isFit 8 = .ok (.bipush 7, 2) := by decide +kernel
theorem dX11_isFit_10 : decode cX11_isFit 10 = .ok (.invokevirtual 160, 3) := by decide +kernel
theorem dX11_isFit_13 : decode cX11_isFit 13 = .ok (.ishl, 1) := by decide +kernel
theorem dX11_isFit_14 : decode cX11_isFit 14 = .ok (.iconst (-1), 1) := by decide +kernel
theorem dX11_isFit_15 : decode cX11_isFit 15 = .ok (.ixor, 1) := by decide +kernel
theorem dX11_isFit_16 : decode cX11_isFit 16 = .ok (.iand, 1) := by decide +kernel
theorem dX11_isFit_17 : decode cX11_isFit 17 = .ok (.istore_n 3, 1) := by decide +kernel
theorem dX11_isFit_18 : decode cX11_isFit 18 = .ok (.iload_n 3, 1) := by decide +kernel
theorem dX11_isFit_19 : decode cX11_isFit 19 = .ok (.aload_n 0, 1) := by decide +kernel
theorem dX11_isFit_20 : decode cX11_isFit 20 = .ok (.iload_n 1, 1) := by decide +kernel
theorem dX11_isFit_21 : decode cX11_isFit 21 = .ok (.bipush 6, 2) := by decide +kernel
theorem dX11_isFit_23 : decode cX11_isFit 23 = .ok (.invokevirtual 167, 3) := by decide +kernel
theorem dX11_isFit_26 : decode cX11_isFit 26 = .ok (.iconst (-1), 1) := by decide +kernel
theorem dX11_isFit_27 : decode cX11_isFit 27 = .ok (.ixor, 1) := by decide +kernel
theorem dX11_isFit_28 : decode cX11_isFit 28 = .ok (.iand, 1) := by decide +kernel
theorem dX11_isFit_29 : decode cX11_isFit 29 = .ok (.ifCond .ne 27, 3) := by decide +kernel
theorem dX11_isFit_32 : decode cX11_isFit 32 = .ok (.aload_n 0, 1) := by decide +kernel
theorem dX11_isFit_33 : decode cX11_isFit 33 = .ok (.aload_n 0, 1) := by decide +kernel
theorem dX11_isFit_34 : decode cX11_isFit 34 = .ok (.iload_n 2, 1) := by decide +kernel
theorem dX11_isFit_35 : decode cX11_isFit 35 = .ok (.iconst 0, 1) := by decide +kernel
theorem dX11_isFit_36 : decode cX11_isFit 36 = .ok (.invokevirtual 160, 3) := by decide +kernel
theorem dX11_isFit_39 : decode cX11_isFit 39 = .ok (.iconst 1, 1) := by decide +kernel
theorem dX11_isFit_40 : decode cX11_isFit 40 = .ok (.invokevirtual 176, 3) := by decide +kernel
theorem dX11_isFit_43 : decode cX11_isFit 43 = .ok (.aload_n 0, 1) := by decide +kernel
theorem dX11_isFit_44 : decode cX11_isFit 44 = .ok (.iload_n 1, 1) := by decide +kernel
theorem dX11_isFit_45 : decode cX11_isFit 45 = .ok (.iconst 2, 1) := by decide +kernel
theorem dX11_isFit_46 : decode cX11_isFit 46 = .ok (.invokevirtual 167, 3) := by decide +kernel
theorem dX11_isFit_49 : decode cX11_isFit 49 = .ok (.if_icmp .lt 7, 3) := by decide +kernel
theorem dX11_isFit_52 : decode cX11_isFit 52 = .ok (.iconst 1, 1) := by decide +kernel
theorem dX11_isFit_53 : decode cX11_isFit 53 = .ok (.goto 4, 3) := by decide +kernel
theorem dX11_isFit_56 : decode cX11_isFit 56 = .ok (.iconst 0, 1) := by decide +kernel
theorem dX11_isFit_57 : decode cX11_isFit 57 = .ok (.ireturn, 1) := by decide +kernel
theorem dX11_isIn_0 : decode cX11_isIn 0 = .ok (.iload_n 0, 1) := by decide +kernel
theorem dX11_isIn_1 : decode cX11_isIn 1 = .ok (.iload_n 1, 1) := by decide +kernel
theorem dX11_isIn_2 : decode cX11_isIn 2 = .ok (.if_icmp .lt 12, 3) := by decide +kernel
theorem dX11_isIn_5 : decode cX11_isIn 5 = .ok (.iload_n 0, 1) := by decide +kernel
theorem dX11_isIn_6 : decode cX11_isIn 6 = .ok (.iload_n 2, 1) := by decide +kernel
theorem dX11_isIn_7 : decode cX11_isIn 7 = .ok (.if_icmp .gt 7, 3) := by decide +kernel
theorem dX11_isIn_10 : decode cX11_isIn 10 = .ok (.iconst 1, 1) := by decide +kernel
theorem dX11_isIn_11 : decode cX11_isIn 11 = .ok (.goto 4, 3) := by decide +kernel
theorem dX11_isIn_14 : decode cX11_isIn 14 = .ok (.iconst 0, 1) := by decide +kernel
theorem dX11_isIn_15 : decode cX11_isIn 15 = .ok (.ireturn, 1) := by decide +kernel
theorem dX11_isLand_0 : decode cX11_isLand 0 = .ok (.iload_n 1, 1) := by decide +kernel
theorem dX11_isLand_1 : decode cX11_isLand 1 = .ok (.iconst 0, 1) := by decide +kernel
theorem dX11_isLand_2 : decode cX11_isLand 2 = .ok (.aload_n 0, 1) := by decide +kernel
theorem dX11_isLand_3 : decode cX11_isLand 3 = .ok (.getfield 72, 3) := by decide +kernel
theorem dX11_isLand_6 : decode cX11_isLand 6 = .ok (.iconst 0, 1) := by decide +kernel
theorem dX11_isLand_7 : decode cX11_isLand 7 = .ok (.iaload, 1) := by decide +kernel
theorem dX11_isLand_8 : decode cX11_isLand 8 = .ok (.iconst 1, 1) := by decide +kernel
theorem dX11_isLand_9 : decode cX11_isLand 9 = .ok (.isub, 1) := by decide +kernel
theorem dX11_isLand_10 : decode cX11_isLand 10 = .ok (.invokestatic 106, 3) := by decide +kernel
theorem dX11_isLand_13 : decode cX11_isLand 13 = .ok (.ireturn, 1) := by decide +kernel
theorem dX11_isLetter_0 : decode cX11_isLetter 0 = .ok (.iload_n 0, 1) := by decide +kernel
theorem dX11_isLetter_1 : decode cX11_isLetter 1 = .ok (.bipush 97, 2) := by decide +kernel
theorem dX11_isLetter_3 : decode cX11_isLetter 3 = .ok (.if_icmp .lt 13, 3) := by decide +kernel
theorem dX11_isLetter_6 : decode cX11_isLetter 6 = .ok (.iload_n 0, 1) := by decide +kernel
theorem dX11_isLetter_7 : decode cX11_isLetter 7 = .ok (.bipush 122, 2) := by decide +kernel
theorem dX11_isLetter_9 : decode cX11_isLetter 9 = .ok (.if_icmp .gt 7, 3) := by decide +kernel
theorem dX11_isLetter_12 : decode cX11_isLetter 12 = .ok (.iconst 1, 1) := by decide +kernel
theorem dX11_isLetter_13 : decode cX11_isLetter 13 = .ok (.goto 4, 3) := by decide +kernel
theorem dX11_isLetter_16 : decode cX11_isLetter 16 = .ok (.iconst 0, 1) := by decide +kernel
theorem dX11_isLetter_17 : decode cX11_isLetter 17 = .ok (.ireturn, 1) := by decide +kernel
theorem dX11_isLorry_0 : decode cX11_isLorry 0 = .ok (.iload_n 1, 1) := by decide +kernel
theorem dX11_isLorry_1 : decode cX11_isLorry 1 = .ok (.iconst 0, 1) := by decide +kernel
theorem dX11_isLorry_2 : decode cX11_isLorry 2 = .ok (.aload_n 0, 1) := by decide +kernel
theorem dX11_isLorry_3 : decode cX11_isLorry 3 = .ok (.getfield 72, 3) := by decide +kernel
theorem dX11_isLorry_6 : decode cX11_isLorry 6 = .ok (.iconst 4, 1) := by decide +kernel
theorem dX11_isLorry_7 : decode cX11_isLorry 7 = .ok (.iaload, 1) := by decide +kernel
theorem dX11_isLorry_8 : decode cX11_isLorry 8 = .ok (.iconst 1, 1) := by decide +kernel
theorem dX11_isLorry_9 : decode cX11_isLorry 9 = .ok (.isub, 1) := by decide +kernel
theorem dX11_isLorry_10 : decode cX11_isLorry 10 = .ok (.invokestatic 106, 3) := by decide +kernel
theorem dX11_isLorry_13 : decode cX11_isLorry 13 = .ok (.ireturn, 1) := by decide +kernel
theorem dX11_isOpen_0 : decode cX11_isOpen 0 = .ok (.aload_n 0, 1) := by decide +kernel
theorem dX11_isOpen_1 : decode cX11_isOpen 1 = .ok (.iload_n 1, 1) := by decide +kernel
theorem dX11_isOpen_2 : decode cX11_isOpen 2 = .ok (.iconst 2, 1) := by decide +kernel
theorem dX11_isOpen_3 : decode cX11_isOpen 3 = .ok (.invokevirtual 160, 3) := by decide +kernel
theorem dX11_isOpen_6 : decode cX11_isOpen 6 = .ok (.ifCond .ne 16, 3) := by decide +kernel
theorem dX11_isOpen_9 : decode cX11_isOpen 9 = .ok (.aload_n 0, 1) := by decide +kernel
theorem dX11_isOpen_10 : decode cX11_isOpen 10 = .ok (.getfield 96, 3) := by decide +kernel
theorem dX11_isOpen_13 : decode cX11_isOpen 13 = .ok (.iload_n 1, 1) := by decide +kernel
theorem dX11_isOpen_14 : decode cX11_isOpen 14 = .ok (.baload, 1) := by decide +kernel
theorem dX11_isOpen_15 : decode cX11_isOpen 15 = .ok (.ifCond .ne 7, 3) := by decide +kernel
theorem dX11_isOpen_18 : decode cX11_isOpen 18 = .ok (.iconst 1, 1) := by decide +kernel
theorem dX11_isOpen_19 : decode cX11_isOpen 19 = .ok (.goto 4, 3) := by decide +kernel
theorem dX11_isOpen_22 : decode cX11_isOpen 22 = .ok (.iconst 0, 1) := by decide +kernel
theorem dX11_isOpen_23 : decode cX11_isOpen 23 = .ok (.ireturn, 1) := by decide +kernel
theorem dX11_isTrip_0 : decode cX11_isTrip 0 = .ok (.iload_n 1, 1) := by decide +kernel
theorem dX11_isTrip_1 : decode cX11_isTrip 1 = .ok (.iconst 0, 1) := by decide +kernel
theorem dX11_isTrip_2 : decode cX11_isTrip 2 = .ok (.aload_n 0, 1) := by decide +kernel
theorem dX11_isTrip_3 : decode cX11_isTrip 3 = .ok (.getfield 72, 3) := by decide +kernel
theorem dX11_isTrip_6 : decode cX11_isTrip 6 = .ok (.iconst 5, 1) := by decide +kernel
theorem dX11_isTrip_7 : decode cX11_isTrip 7 = .ok (.iaload, 1) := by decide +kernel
theorem dX11_isTrip_8 : decode cX11_isTrip 8 = .ok (.iconst 1, 1) := by decide +kernel
theorem dX11_isTrip_9 : decode cX11_isTrip 9 = .ok (.isub, 1) := by decide +kernel
theorem dX11_isTrip_10 : decode cX11_isTrip 10 = .ok (.invokestatic 106, 3) := by decide +kernel
theorem dX11_isTrip_13 : decode cX11_isTrip 13 = .ok (.ireturn, 1) := by decide +kernel
theorem dX11_isType_0 : decode cX11_isType 0 = .ok (.iload_n 1, 1) := by decide +kernel
theorem dX11_isType_1 : decode cX11_isType 1 = .ok (.iconst 0, 1) := by decide +kernel
theorem dX11_isType_2 : decode cX11_isType 2 = .ok (.aload_n 0, 1) := by decide +kernel
theorem dX11_isType_3 : decode cX11_isType 3 = .ok (.getfield 72, 3) := by decide +kernel
theorem dX11_isType_6 : decode cX11_isType 6 = .ok (.iconst 3, 1) := by decide +kernel
theorem dX11_isType_7 : decode cX11_isType 7 = .ok (.iaload, 1) := by decide +kernel
theorem dX11_isType_8 : decode cX11_isType 8 = .ok (.iconst 1, 1) := by decide +kernel
theorem dX11_isType_9 : decode cX11_isType 9 = .ok (.isub, 1) := by decide +kernel
theorem dX11_isType_10 : decode cX11_isType 10 = .ok (.invokestatic 106, 3) := by decide +kernel
theorem dX11_isType_13 : decode cX11_isType 13 = .ok (.ireturn, 1) := by decide +kernel
theorem dX11_isWord_0 : decode cX11_isWord 0 = .ok (.aload_n 0, 1) := by decide +kernel
theorem dX11_isWord_1 : decode cX11_isWord 1 = .ok (.getfield 27, 3) := by decide +kernel
theorem dX11_isWord_4 : decode cX11_isWord 4 = .ok (.iconst 2, 1) := by decide +kernel
theorem dX11_isWord_5 : decode cX11_isWord 5 = .ok (.if_icmp .ne 16, 3) := by decide +kernel
theorem dX11_isWord_8 : decode cX11_isWord 8 = .ok (.aload_n 0, 1) := by decide +kernel
theorem dX11_isWord_9 : decode cX11_isWord 9 = .ok (.getfield 37, 3) := by decide +kernel
theorem dX11_isWord_12 : decode cX11_isWord 12 = .ok (.lload_n 1, 1) := by decide +kernel
theorem dX11_isWord_13 : decode cX11_isWord 13 = .ok (.lcmp, 1) := by decide +kernel
theorem dX11_isWord_14 : decode cX11_isWord 14 = .ok (.ifCond .ne 7, 3) := by decide +kernel
theorem dX11_isWord_17 : decode cX11_isWord 17 = .ok (.iconst 1, 1) := by decide +kernel
theorem dX11_isWord_18 : decode cX11_isWord 18 = .ok (.goto 4, 3) := by decide +kernel
theorem dX11_isWord_21 : decode cX11_isWord 21 = .ok (.iconst 0, 1) := by decide +kernel
theorem dX11_isWord_22 : decode cX11_isWord 22 = .ok (.ireturn, 1) := by decide +kernel
theorem dX11_its_0 : decode cX11_its 0 = .ok (.aload_n 0, 1) := by decide +kernel
theorem dX11_its_1 : decode cX11_its 1 = .ok (.getfield 72, 3) := by decide +kernel
theorem dX11_its_4 : decode cX11_its 4 = .ok (.bipush 111, 2) := by decide +kernel
theorem dX11_its_6 : decode cX11_its 6 = .ok (.bipush 13, 2) := by decide +kernel
theorem dX11_its_8 : decode cX11_its 8 = .ok (.iload_n 1, 1) := by decide +kernel
theorem dX11_its_9 : decode cX11_its 9 = .ok (.imul, 1) := by decide +kernel
theorem dX11_its_10 : decode cX11_its 10 = .ok (.iadd, 1) := by decide +kernel
theorem dX11_its_11 : decode cX11_its 11 = .ok (.iload_n 2, 1) := by decide +kernel
theorem dX11_its_12 : decode cX11_its 12 = .ok (.iadd, 1) := by decide +kernel
theorem dX11_its_13 : decode cX11_its 13 = .ok (.iaload, 1) := by decide +kernel
theorem dX11_its_14 : decode cX11_its 14 = .ok (.ireturn, 1) := by decide +kernel
theorem dX11_land_0 : decode cX11_land 0 = .ok (.aload_n 0, 1) := by decide +kernel
theorem dX11_land_1 : decode cX11_land 1 = .ok (.getfield 27, 3) := by decide +kernel
theorem dX11_land_4 : decode cX11_land 4 = .ok (.iconst 3, 1) := by decide +kernel
theorem dX11_land_5 : decode cX11_land 5 = .ok (.if_icmp .eq 9, 3) := by decide +kernel
theorem dX11_land_8 : decode cX11_land 8 = .ok (.aload_n 0, 1) := by decide +kernel
theorem dX11_land_9 : decode cX11_land 9 = .ok (.iconst 1, 1) := by decide +kernel
theorem dX11_land_10 : decode cX11_land 10 = .ok (.invokevirtual 103, 3) := by decide +kernel
theorem dX11_land_13 : decode cX11_land 13 = .ok (.ireturn, 1) := by decide +kernel
theorem dX11_land_14 : decode cX11_land 14 = .ok (.aload_n 0, 1) := by decide +kernel
theorem dX11_land_15 : decode cX11_land 15 = .ok (.getfield 41, 3) := by decide +kernel
theorem dX11_land_18 : decode cX11_land 18 = .ok (.aload_n 0, 1) := by decide +kernel
theorem dX11_land_19 : decode cX11_land 19 = .ok (.getfield 75, 3) := by decide +kernel
theorem dX11_land_22 : decode cX11_land 22 = .ok (.iconst 0, 1) := by decide +kernel
theorem dX11_land_23 : decode cX11_land 23 = .ok (.iaload, 1) := by decide +kernel
theorem dX11_land_24 : decode cX11_land 24 = .ok (.if_icmp .ge 14, 3) := by decide +kernel
theorem dX11_land_27 : decode cX11_land 27 = .ok (.iload_n 1, 1) := by decide +kernel
theorem dX11_land_28 : decode cX11_land 28 = .ok (.aload_n 0, 1) := by decide +kernel
theorem dX11_land_29 : decode cX11_land 29 = .ok (.getfield 41, 3) := by decide +kernel
theorem dX11_land_32 : decode cX11_land 32 = .ok (.invokestatic 113, 3) := by decide +kernel
theorem dX11_land_35 : decode cX11_land 35 = .ok (.ifCond .eq 9, 3) := by decide +kernel
theorem dX11_land_38 : decode cX11_land 38 = .ok (.aload_n 0, 1) := by decide +kernel
theorem dX11_land_39 : decode cX11_land 39 = .ok (.iconst 2, 1) := by decide +kernel
theorem dX11_land_40 : decode cX11_land 40 = .ok (.invokevirtual 103, 3) := by decide +kernel
theorem dX11_land_43 : decode cX11_land 43 = .ok (.ireturn, 1) := by decide +kernel
theorem dX11_land_44 : decode cX11_land 44 = .ok (.aload_n 0, 1) := by decide +kernel
theorem dX11_land_45 : decode cX11_land 45 = .ok (.aload_n 0, 1) := by decide +kernel
theorem dX11_land_46 : decode cX11_land 46 = .ok (.getfield 41, 3) := by decide +kernel
theorem dX11_land_49 : decode cX11_land 49 = .ok (.putfield 117, 3) := by decide +kernel
theorem dX11_land_52 : decode cX11_land 52 = .ok (.aload_n 0, 1) := by decide +kernel
theorem dX11_land_53 : decode cX11_land 53 = .ok (.invokevirtual 110, 3) := by decide +kernel
theorem dX11_land_56 : decode cX11_land 56 = .ok (.iconst 1, 1) := by decide +kernel
theorem dX11_land_57 : decode cX11_land 57 = .ok (.ireturn, 1) := by decide +kernel
theorem dX11_lawful_0 : decode cX11_lawful 0 = .ok (.aload_n 0, 1) := by decide +kernel
theorem dX11_lawful_1 : decode cX11_lawful 1 = .ok (.iconst 0, 1) := by decide +kernel
theorem dX11_lawful_2 : decode cX11_lawful 2 = .ok (.putfield 1, 3) := by decide +kernel
theorem dX11_lawful_5 : decode cX11_lawful 5 = .ok (.aload_n 0, 1) := by decide +kernel
theorem dX11_lawful_6 : decode cX11_lawful 6 = .ok (.iload_n 1, 1) := by decide +kernel
theorem dX11_lawful_7 : decode cX11_lawful 7 = .ok (.invokevirtual 195, 3) := by decide +kernel
theorem dX11_lawful_10 : decode cX11_lawful 10 = .ok (.ifCond .eq 20, 3) := by decide +kernel
theorem dX11_lawful_13 : decode cX11_lawful 13 = .ok (.aload_n 0, 1) := by decide +kernel
theorem dX11_lawful_14 : decode cX11_lawful 14 = .ok (.iload_n 2, 1) := by decide +kernel
theorem dX11_lawful_15 : decode cX11_lawful 15 = .ok (.invokevirtual 250, 3) := by decide +kernel
theorem dX11_lawful_18 : decode cX11_lawful 18 = .ok (.ifCond .eq 12, 3) := by decide +kernel
theorem dX11_lawful_21 : decode cX11_lawful 21 = .ok (.aload_n 0, 1) := by decide +kernel
theorem dX11_lawful_22 : decode cX11_lawful 22 = .ok (.iload_n 1, 1) := by decide +kernel
theorem dX11_lawful_23 : decode cX11_lawful 23 = .ok (.iload_n 2, 1) := by decide +kernel
theorem dX11_lawful_24 : decode cX11_lawful 24 = .ok (.invokevirtual 253, 3) := by decide +kernel
theorem dX11_lawful_27 : decode cX11_lawful 27 = .ok (.goto 4, 3) := by decide +kernel
theorem dX11_lawful_30 : decode cX11_lawful 30 = .ok (.iconst (-1), 1) := by decide +kernel
theorem dX11_lawful_31 : decode cX11_lawful 31 = .ok (.ireturn, 1) := by decide +kernel
theorem dX11_lays_0 : decode cX11_lays 0 = .ok (.bipush 24, 2) := by decide +kernel
theorem dX11_lays_2 : decode cX11_lays 2 = .ok (.istore_n 2, 1) := by decide +kernel
theorem dX11_lays_3 : decode cX11_lays 3 = .ok (.iload_n 2, 1) := by decide +kernel
theorem dX11_lays_4 : decode cX11_lays 4 = .ok (.ifCond .lt 35, 3) := by decide +kernel
theorem dX11_lays_7 : decode cX11_lays 7 = .ok (.aload_n 0, 1) := by decide +kernel
theorem dX11_lays_8 : decode cX11_lays 8 = .ok (.getfield 7, 3) := by decide +kernel
theorem dX11_lays_11 : decode cX11_lays 11 = .ok (.aload_n 0, 1) := by decide +kernel
theorem dX11_lays_12 : decode cX11_lays 12 = .ok (.getfield 11, 3) := by decide +kernel
theorem dX11_lays_15 : decode cX11_lays 15 = .ok (.iload_n 1, 1) := by decide +kernel
theorem dX11_lays_16 : decode cX11_lays 16 = .ok (.iload_n 2, 1) := by decide +kernel
theorem dX11_lays_17 : decode cX11_lays 17 = .ok (.iushr, 1) := by decide +kernel
theorem dX11_lays_18 : decode cX11_lays 18 = .ok (.sipush 255, 3) := by decide +kernel
theorem dX11_lays_21 : decode cX11_lays 21 = .ok (.iand, 1) := by decide +kernel
theorem dX11_lays_22 : decode cX11_lays 22 = .ok (.iastore, 1) := by decide +kernel
theorem dX11_lays_23 : decode cX11_lays 23 = .ok (.aload_n 0, 1) := by decide +kernel
theorem dX11_lays_24 : decode cX11_lays 24 = .ok (.dup, 1) := by decide +kernel
theorem dX11_lays_25 : decode cX11_lays 25 = .ok (.getfield 11, 3) := by decide +kernel
theorem dX11_lays_28 : decode cX11_lays 28 = .ok (.iconst 1, 1) := by decide +kernel
theorem dX11_lays_29 : decode cX11_lays 29 = .ok (.iadd, 1) := by decide +kernel
theorem dX11_lays_30 : decode cX11_lays 30 = .ok (.putfield 11, 3) := by decide +kernel
theorem dX11_lays_33 : decode cX11_lays 33 = .ok (.iinc 2 (-8), 3) := by decide +kernel
theorem dX11_lays_36 : decode cX11_lays 36 = .ok (.goto (-33), 3) := by decide +kernel
theorem dX11_lays_39 : decode cX11_lays 39 = .ok (.return_, 1) := by decide +kernel
theorem dX11_laysFree_0 : decode cX11_laysFree 0 = .ok (.iconst 0, 1) := by decide +kernel
theorem dX11_laysFree_1 : decode cX11_laysFree 1 = .ok (.istore_n 1, 1) := by decide +kernel
theorem dX11_laysFree_2 : decode cX11_laysFree 2 = .ok (.iload_n 1, 1) := by decide +kernel
theorem dX11_laysFree_3 : decode cX11_laysFree 3 = .ok (.bipush 6, 2) := by decide +kernel
theorem dX11_laysFree_5 : decode cX11_laysFree 5 = .ok (.if_icmp .ge 34, 3) := by decide +kernel
theorem dX11_laysFree_8 : decode cX11_laysFree 8 = .ok (.aload_n 0, 1) := by decide +kernel
theorem dX11_laysFree_9 : decode cX11_laysFree 9 = .ok (.getfield 81, 3) := by decide +kernel
theorem dX11_laysFree_12 : decode cX11_laysFree 12 = .ok (.iload_n 1, 1) := by decide +kernel
theorem dX11_laysFree_13 : decode cX11_laysFree 13 = .ok (.iload_n 1, 1) := by decide +kernel
theorem dX11_laysFree_14 : decode cX11_laysFree 14 = .ok (.aload_n 0, 1) := by decide +kernel
theorem dX11_laysFree_15 : decode cX11_laysFree 15 = .ok (.getfield 72, 3) := by decide +kernel
theorem dX11_laysFree_18 : decode cX11_laysFree 18 = .ok (.iconst 3, 1) := by decide +kernel
theorem dX11_laysFree_19 : decode cX11_laysFree 19 = .ok (.iaload, 1) := by decide +kernel
theorem dX11_laysFree_20 : decode cX11_laysFree 20 = .ok (.if_icmp .ge 11, 3) := by decide +kernel
theorem dX11_laysFree_23 : decode cX11_laysFree 23 = .ok (.aload_n 0, 1) := by decide +kernel
theorem dX11_laysFree_24 : decode cX11_laysFree 24 = .ok (.iload_n 1, 1) := by decide +kernel
theorem dX11_laysFree_25 : decode cX11_laysFree 25 = .ok (.invokevirtual 192, 3) := by decide +kernel
theorem dX11_laysFree_28 : decode cX11_laysFree 28 = .ok (.goto 4, 3) := by decide +kernel
theorem dX11_laysFree_31 : decode cX11_laysFree 31 = .ok (.iconst 0, 1) := by decide +kernel
theorem dX11_laysFree_32 : decode cX11_laysFree 32 = .ok (.iastore, 1) := by decide +kernel
theorem dX11_laysFree_33 : decode cX11_laysFree 33 = .ok (.iinc 1 1, 3) := by decide +kernel
theorem dX11_laysFree_36 : decode cX11_laysFree 36 = .ok (.goto (-34), 3) := by decide +kernel
theorem dX11_laysFree_39 : decode cX11_laysFree 39 = .ok (.return_, 1) := by decide +kernel
theorem dX11_laysPlan_0 : decode cX11_laysPlan 0 = .ok (.aload_n 0, 1) := by decide +kernel
theorem dX11_laysPlan_1 : decode cX11_laysPlan 1 = .ok (.invokevirtual 234, 3) := by decide +kernel
theorem dX11_laysPlan_4 : decode cX11_laysPlan 4 = .ok (.aload_n 0, 1) := by decide +kernel
theorem dX11_laysPlan_5 : decode cX11_laysPlan 5 = .ok (.invokevirtual 237, 3) := by decide +kernel
theorem dX11_laysPlan_8 : decode cX11_laysPlan 8 = .ok (.aload_n 0, 1) := by decide +kernel
theorem dX11_laysPlan_9 : decode cX11_laysPlan 9 = .ok (.invokevirtual 231, 3) := by decide +kernel
theorem dX11_laysPlan_12 : decode cX11_laysPlan 12 = .ok (.aload_n 0, 1) := by decide +kernel
theorem dX11_laysPlan_13 : decode cX11_laysPlan 13 = .ok (.getfield 225, 3) := by decide +kernel
theorem dX11_laysPlan_16 : decode cX11_laysPlan 16 = .ok (.istore_n 1, 1) := by decide +kernel
theorem dX11_laysPlan_17 : decode cX11_laysPlan 17 = .ok (.aload_n 0, 1) := by decide +kernel
theorem dX11_laysPlan_18 : decode cX11_laysPlan 18 = .ok (.getfield 228, 3) := by decide +kernel
theorem dX11_laysPlan_21 : decode cX11_laysPlan 21 = .ok (.istore_n 2, 1) := by decide +kernel
theorem dX11_laysPlan_22 : decode cX11_laysPlan 22 = .ok (.iconst 0, 1) := by decide +kernel
theorem dX11_laysPlan_23 : decode cX11_laysPlan 23 = .ok (.istore_n 3, 1) := by decide +kernel
theorem dX11_laysPlan_24 : decode cX11_laysPlan 24 = .ok (.iload_n 3, 1) := by decide +kernel
theorem dX11_laysPlan_25 : decode cX11_laysPlan 25 = .ok (.aload_n 0, 1) := by decide +kernel
theorem dX11_laysPlan_26 : decode cX11_laysPlan 26 = .ok (.getfield 72, 3) := by decide +kernel
theorem dX11_laysPlan_29 : decode cX11_laysPlan 29 = .ok (.iconst 5, 1) := by decide +kernel
theorem dX11_laysPlan_30 : decode cX11_laysPlan 30 = .ok (.iaload, 1) := by decide +kernel
theorem dX11_laysPlan_31 : decode cX11_laysPlan 31 = .ok (.if_icmp .ge 73, 3) := by decide +kernel
theorem dX11_laysPlan_34 : decode cX11_laysPlan 34 = .ok (.aload_n 0, 1) := by decide +kernel
theorem dX11_laysPlan_35 : decode cX11_laysPlan 35 = .ok (.iload_n 3, 1) := by decide +kernel
theorem dX11_laysPlan_36 : decode cX11_laysPlan 36 = .ok (.iconst 2, 1) := by decide +kernel
theorem dX11_laysPlan_37 : decode cX11_laysPlan 37 = .ok (.invokevirtual 160, 3) := by decide +kernel
theorem dX11_laysPlan_40 : decode cX11_laysPlan 40 = .ok (.ifCond .eq 6, 3) := by decide +kernel
theorem dX11_laysPlan_43 : decode cX11_laysPlan 43 = .ok (.goto 55, 3) := by decide +kernel
theorem dX11_laysPlan_46 : decode cX11_laysPlan 46 = .ok (.iconst 0, 1) := by decide +kernel
theorem dX11_laysPlan_47 : decode cX11_laysPlan 47 = .ok (.istore 4, 2) := by decide +kernel
theorem dX11_laysPlan_49 : decode cX11_laysPlan 49 = .ok (.iload 4, 2) := by decide +kernel
theorem dX11_laysPlan_51 : decode cX11_laysPlan 51 = .ok (.aload_n 0, 1) := by decide +kernel
theorem dX11_laysPlan_52 : decode cX11_laysPlan 52 = .ok (.getfield 72, 3) := by decide +kernel
theorem dX11_laysPlan_55 : decode cX11_laysPlan 55 = .ok (.iconst 3, 1) := by decide +kernel
theorem dX11_laysPlan_56 : decode cX11_laysPlan 56 = .ok (.iaload, 1) := by decide +kernel
theorem dX11_laysPlan_57 : decode cX11_laysPlan 57 = .ok (.if_icmp .ge 21, 3) := by decide +kernel
theorem dX11_laysPlan_60 : decode cX11_laysPlan 60 = .ok (.aload_n 0, 1) := by decide +kernel
theorem dX11_laysPlan_61 : decode cX11_laysPlan 61 = .ok (.iload_n 3, 1) := by decide +kernel
theorem dX11_laysPlan_62 : decode cX11_laysPlan 62 = .ok (.iload 4, 2) := by decide +kernel
theorem dX11_laysPlan_64 : decode cX11_laysPlan 64 = .ok (.iload_n 1, 1) := by decide +kernel
theorem dX11_laysPlan_65 : decode cX11_laysPlan 65 = .ok (.iload_n 2, 1) := by decide +kernel
theorem dX11_laysPlan_66 : decode cX11_laysPlan 66 = .ok (.invokevirtual 240, 3) := by decide +kernel
theorem dX11_laysPlan_69 : decode cX11_laysPlan 69 = .ok (.ifCond .ne 9, 3) := by decide +kernel
theorem dX11_laysPlan_72 : decode cX11_laysPlan 72 = .ok (.iinc 4 1, 3) := by decide +kernel
theorem dX11_laysPlan_75 : decode cX11_laysPlan 75 = .ok (.goto (-26), 3) := by decide +kernel
theorem dX11_laysPlan_78 : decode cX11_laysPlan 78 = .ok (.iload 4, 2) := by decide +kernel
theorem dX11_laysPlan_80 : decode cX11_laysPlan 80 = .ok (.aload_n 0, 1) := by decide +kernel
theorem dX11_laysPlan_81 : decode cX11_laysPlan 81 = .ok (.getfield 72, 3) := by decide +kernel
theorem dX11_laysPlan_84 : decode cX11_laysPlan 84 = .ok (.iconst 3, 1) := by decide +kernel
theorem dX11_laysPlan_85 : decode cX11_laysPlan 85 = .ok (.iaload, 1) := by decide +kernel
theorem dX11_laysPlan_86 : decode cX11_laysPlan 86 = .ok (.if_icmp .ne 12, 3) := by decide +kernel
theorem dX11_laysPlan_89 : decode cX11_laysPlan 89 = .ok (.aload_n 0, 1) := by decide +kernel
theorem dX11_laysPlan_90 : decode cX11_laysPlan 90 = .ok (.iload_n 3, 1) := by decide +kernel
theorem dX11_laysPlan_91 : decode cX11_laysPlan 91 = .ok (.iconst (-1), 1) := by decide +kernel
theorem dX11_laysPlan_92 : decode cX11_laysPlan 92 = .ok (.iload_n 1, 1) := by decide +kernel
theorem dX11_laysPlan_93 : decode cX11_laysPlan 93 = .ok (.iload_n 2, 1) := by decide +kernel
theorem dX11_laysPlan_94 : decode cX11_laysPlan 94 = .ok (.invokevirtual 240, 3) := by decide +kernel
theorem dX11_laysPlan_97 : decode cX11_laysPlan 97 = .ok (.pop, 1) := by decide +kernel
theorem dX11_laysPlan_98 : decode cX11_laysPlan 98 = .ok (.iinc 3 1, 3) := by decide +kernel
theorem dX11_laysPlan_101 : decode cX11_laysPlan 101 = .ok (.goto (-77), 3) := by decide +kernel
theorem dX11_laysPlan_104 : decode cX11_laysPlan 104 = .ok (.return_, 1) := by decide +kernel
theorem dX11_ledger_0 : decode cX11_ledger 0 = .ok (.aload_n 0, 1) := by decide +kernel
theorem dX11_ledger_1 : decode cX11_ledger 1 = .ok (.iconst 0, 1) := by decide +kernel
theorem dX11_ledger_2 : decode cX11_ledger 2 = .ok (.putfield 1, 3) := by decide +kernel
theorem dX11_ledger_5 : decode cX11_ledger 5 = .ok (.aload_n 0, 1) := by decide +kernel
theorem dX11_ledger_6 : decode cX11_ledger 6 = .ok (.iload_n 1, 1) := by decide +kernel
theorem dX11_ledger_7 : decode cX11_ledger 7 = .ok (.invokevirtual 189, 3) := by decide +kernel
theorem dX11_ledger_10 : decode cX11_ledger 10 = .ok (.ifCond .eq 12, 3) := by decide +kernel
theorem dX11_ledger_13 : decode cX11_ledger 13 = .ok (.iload_n 2, 1) := by decide +kernel
theorem dX11_ledger_14 : decode cX11_ledger 14 = .ok (.iconst 0, 1) := by decide +kernel
theorem dX11_ledger_15 : decode cX11_ledger 15 = .ok (.iconst 5, 1) := by decide +kernel
theorem dX11_ledger_16 : decode cX11_ledger 16 = .ok (.invokestatic 106, 3) := by decide +kernel
theorem dX11_ledger_19 : decode cX11_ledger 19 = .ok (.ifCond .ne 5, 3) := by decide +kernel
theorem dX11_ledger_22 : decode cX11_ledger 22 = .ok (.iconst (-1), 1) := by decide +kernel
theorem dX11_ledger_23 : decode cX11_ledger 23 = .ok (.ireturn, 1) := by decide +kernel
theorem dX11_ledger_24 : decode cX11_ledger 24 = .ok (.iload_n 2, 1) := by decide +kernel
theorem dX11_ledger_25 : decode cX11_ledger 25 = .ok (.ifCond .ne 11, 3) := by decide +kernel
theorem dX11_ledger_28 : decode cX11_ledger 28 = .ok (.aload_n 0, 1) := by decide +kernel
theorem dX11_ledger_29 : decode cX11_ledger 29 = .ok (.iload_n 1, 1) := by decide +kernel
theorem dX11_ledger_30 : decode cX11_ledger 30 = .ok (.invokevirtual 173, 3) := by decide +kernel
theorem dX11_ledger_33 : decode cX11_ledger 33 = .ok (.goto 27, 3) := by decide +kernel
theorem dX11_ledger_36 : decode cX11_ledger 36 = .ok (.iload_n 2, 1) := by decide +kernel
theorem dX11_ledger_37 : decode cX11_ledger 37 = .ok (.iconst 1, 1) := by decide +kernel
theorem dX11_ledger_38 : decode cX11_ledger 38 = .ok (.if_icmp .ne 11, 3) := by decide +kernel
theorem dX11_ledger_41 : decode cX11_ledger 41 = .ok (.aload_n 0, 1) := by decide +kernel
theorem dX11_ledger_42 : decode cX11_ledger 42 = .ok (.iload_n 1, 1) := by decide +kernel
theorem dX11_ledger_43 : decode cX11_ledger 43 = .ok (.invokevirtual 170, 3) := by decide +kernel
theorem dX11_ledger_46 : decode cX11_ledger 46 = .ok (.goto 14, 3) := by decide +kernel
theorem dX11_ledger_49 : decode cX11_ledger 49 = .ok (.aload_n 0, 1) := by decide +kernel
theorem dX11_ledger_50 : decode cX11_ledger 50 = .ok (.iload_n 1, 1) := by decide +kernel
theorem dX11_ledger_51 : decode cX11_ledger 51 = .ok (.bipush 7, 2) := by decide +kernel
theorem dX11_ledger_53 : decode cX11_ledger 53 = .ok (.iload_n 2, 1) := by decide +kernel
theorem dX11_ledger_54 : decode cX11_ledger 54 = .ok (.iadd, 1) := by decide +kernel
theorem dX11_ledger_55 : decode cX11_ledger 55 = .ok (.iconst 2, 1) := by decide +kernel
theorem dX11_ledger_56 : decode cX11_ledger 56 = .ok (.isub, 1) := by decide +kernel
theorem dX11_ledger_57 : decode cX11_ledger 57 = .ok (.invokevirtual 167, 3) := by decide +kernel
theorem dX11_ledger_60 : decode cX11_ledger 60 = .ok (.ireturn, 1) := by decide +kernel
theorem dX11_lorry_0 : decode cX11_lorry 0 = .ok (.aload_n 0, 1) := by decide +kernel
theorem dX11_lorry_1 : decode cX11_lorry 1 = .ok (.iconst 0, 1) := by decide +kernel
theorem dX11_lorry_2 : decode cX11_lorry 2 = .ok (.putfield 1, 3) := by decide +kernel
theorem dX11_lorry_5 : decode cX11_lorry 5 = .ok (.aload_n 0, 1) := by decide +kernel
theorem dX11_lorry_6 : decode cX11_lorry 6 = .ok (.iload_n 1, 1) := by decide +kernel
theorem dX11_lorry_7 : decode cX11_lorry 7 = .ok (.invokevirtual 195, 3) := by decide +kernel
theorem dX11_lorry_10 : decode cX11_lorry 10 = .ok (.ifCond .ne 8, 3) := by decide +kernel
theorem dX11_lorry_13 : decode cX11_lorry 13 = .ok (.aload_n 0, 1) := by decide +kernel
theorem dX11_lorry_14 : decode cX11_lorry 14 = .ok (.invokevirtual 198, 3) := by decide +kernel
theorem dX11_lorry_17 : decode cX11_lorry 17 = .ok (.ireturn, 1) := by decide +kernel
theorem dX11_lorry_18 : decode cX11_lorry 18 = .ok (.iload_n 2, 1) := by decide +kernel
theorem dX11_lorry_19 : decode cX11_lorry 19 = .ok (.tableswitch 59 0 4 #[33, 33, 40, 46, 53], 33) := by decide +kernel
theorem dX11_lorry_52 : decode cX11_lorry 52 = .ok (.aload_n 0, 1) := by decide +kernel
theorem dX11_lorry_53 : decode cX11_lorry 53 = .ok (.iload_n 1, 1) := by decide +kernel
theorem dX11_lorry_54 : decode cX11_lorry 54 = .ok (.iload_n 2, 1) := by decide +kernel
theorem dX11_lorry_55 : decode cX11_lorry 55 = .ok (.invokevirtual 176, 3) := by decide +kernel
theorem dX11_lorry_58 : decode cX11_lorry 58 = .ok (.ireturn, 1) := by decide +kernel
theorem dX11_lorry_59 : decode cX11_lorry 59 = .ok (.aload_n 0, 1) := by decide +kernel
theorem dX11_lorry_60 : decode cX11_lorry 60 = .ok (.iload_n 1, 1) := by decide +kernel
theorem dX11_lorry_61 : decode cX11_lorry 61 = .ok (.invokevirtual 201, 3) := by decide +kernel
theorem dX11_lorry_64 : decode cX11_lorry 64 = .ok (.ireturn, 1) := by decide +kernel
theorem dX11_lorry_65 : decode cX11_lorry 65 = .ok (.aload_n 0, 1) := by decide +kernel
theorem dX11_lorry_66 : decode cX11_lorry 66 = .ok (.iload_n 1, 1) := by decide +kernel
theorem dX11_lorry_67 : decode cX11_lorry 67 = .ok (.iconst 2, 1) := by decide +kernel
theorem dX11_lorry_68 : decode cX11_lorry 68 = .ok (.invokevirtual 176, 3) := by decide +kernel
theorem dX11_lorry_71 : decode cX11_lorry 71 = .ok (.ireturn, 1) := by decide +kernel
theorem dX11_lorry_72 : decode cX11_lorry 72 = .ok (.aload_n 0, 1) := by decide +kernel
theorem dX11_lorry_73 : decode cX11_lorry 73 = .ok (.iload_n 1, 1) := by decide +kernel
theorem dX11_lorry_74 : decode cX11_lorry 74 = .ok (.invokevirtual 204, 3) := by decide +kernel
theorem dX11_lorry_77 : decode cX11_lorry 77 = .ok (.ireturn, 1) := by decide +kernel
theorem dX11_lorry_78 : decode cX11_lorry 78 = .ok (.aload_n 0, 1) := by decide +kernel
theorem dX11_lorry_79 : decode cX11_lorry 79 = .ok (.invokevirtual 198, 3) := by decide +kernel
theorem dX11_lorry_82 : decode cX11_lorry 82 = .ok (.ireturn, 1) := by decide +kernel
theorem dX11_lorryOf_0 : decode cX11_lorryOf 0 = .ok (.aload_n 0, 1) := by decide +kernel
theorem dX11_lorryOf_1 : decode cX11_lorryOf 1 = .ok (.getfield 72, 3) := by decide +kernel
theorem dX11_lorryOf_4 : decode cX11_lorryOf 4 = .ok (.bipush 79, 2) := by decide +kernel
theorem dX11_lorryOf_6 : decode cX11_lorryOf 6 = .ok (.iconst 3, 1) := by decide +kernel
theorem dX11_lorryOf_7 : decode cX11_lorryOf 7 = .ok (.iload_n 1, 1) := by decide +kernel
theorem dX11_lorryOf_8 : decode cX11_lorryOf 8 = .ok (.imul, 1) := by decide +kernel
theorem dX11_lorryOf_9 : decode cX11_lorryOf 9 = .ok (.iadd, 1) := by decide +kernel
theorem dX11_lorryOf_10 : decode cX11_lorryOf 10 = .ok (.iload_n 2, 1) := by decide +kernel
theorem dX11_lorryOf_11 : decode cX11_lorryOf 11 = .ok (.iadd, 1) := by decide +kernel
theorem dX11_lorryOf_12 : decode cX11_lorryOf 12 = .ok (.iaload, 1) := by decide +kernel
theorem dX11_lorryOf_13 : decode cX11_lorryOf 13 = .ok (.ireturn, 1) := by decide +kernel
theorem dX11_misuses_0 : decode cX11_misuses 0 = .ok (.iconst 0, 1) := by decide +kernel
theorem dX11_misuses_1 : decode cX11_misuses 1 = .ok (.istore_n 1, 1) := by decide +kernel
theorem dX11_misuses_2 : decode cX11_misuses 2 = .ok (.iconst 0, 1) := by decide +kernel
theorem dX11_misuses_3 : decode cX11_misuses 3 = .ok (.istore_n 2, 1) := by decide +kernel
theorem dX11_misuses_4 : decode cX11_misuses 4 = .ok (.iload_n 2, 1) := by decide +kernel
theorem dX11_misuses_5 : decode cX11_misuses 5 = .ok (.aload_n 0, 1) := by decide +kernel
theorem dX11_misuses_6 : decode cX11_misuses 6 = .ok (.getfield 72, 3) := by decide +kernel
theorem dX11_misuses_9 : decode cX11_misuses 9 = .ok (.iconst 4, 1) := by decide +kernel
theorem dX11_misuses_10 : decode cX11_misuses 10 = .ok (.iaload, 1) := by decide +kernel
theorem dX11_misuses_11 : decode cX11_misuses 11 = .ok (.if_icmp .ge 18, 3) := by decide +kernel
theorem dX11_misuses_14 : decode cX11_misuses 14 = .ok (.iload_n 1, 1) := by decide +kernel
theorem dX11_misuses_15 : decode cX11_misuses 15 = .ok (.aload_n 0, 1) := by decide +kernel
theorem dX11_misuses_16 : decode cX11_misuses 16 = .ok (.iload_n 2, 1) := by decide +kernel
theorem dX11_misuses_17 : decode cX11_misuses 17 = .ok (.iconst 2, 1) := by decide +kernel
theorem dX11_misuses_18 : decode cX11_misuses 18 = .ok (.invokevirtual 176, 3) := by decide +kernel
theorem dX11_misuses_21 : decode cX11_misuses 21 = .ok (.iadd, 1) := by decide +kernel
theorem dX11_misuses_22 : decode cX11_misuses 22 = .ok (.istore_n 1, 1) := by decide +kernel
theorem dX11_misuses_23 : decode cX11_misuses 23 = .ok (.iinc 2 1, 3) := by decide +kernel
theorem dX11_misuses_26 : decode cX11_misuses 26 = .ok (.goto (-22), 3) := by decide +kernel
theorem dX11_misuses_29 : decode cX11_misuses 29 = .ok (.iload_n 1, 1) := by decide +kernel
theorem dX11_misuses_30 : decode cX11_misuses 30 = .ok (.ireturn, 1) := by decide +kernel
theorem dX11_needs_0 : decode cX11_needs 0 = .ok (.aload_n 0, 1) := by decide +kernel
theorem dX11_needs_1 : decode cX11_needs 1 = .ok (.iconst 0, 1) := by decide +kernel
theorem dX11_needs_2 : decode cX11_needs 2 = .ok (.putfield 1, 3) := by decide +kernel
theorem dX11_needs_5 : decode cX11_needs 5 = .ok (.aload_n 0, 1) := by decide +kernel
theorem dX11_needs_6 : decode cX11_needs 6 = .ok (.iload_n 1, 1) := by decide +kernel
theorem dX11_needs_7 : decode cX11_needs 7 = .ok (.invokevirtual 189, 3) := by decide +kernel
theorem dX11_needs_10 : decode cX11_needs 10 = .ok (.ifCond .ne 5, 3) := by decide +kernel
theorem dX11_needs_13 : decode cX11_needs 13 = .ok (.iconst (-1), 1) := by decide +kernel
theorem dX11_needs_14 : decode cX11_needs 14 = .ok (.ireturn, 1) := by decide +kernel
theorem dX11_needs_15 : decode cX11_needs 15 = .ok (.aload_n 0, 1) := by decide +kernel
theorem dX11_needs_16 : decode cX11_needs 16 = .ok (.iconst 0, 1) := by decide +kernel
theorem dX11_needs_17 : decode cX11_needs 17 = .ok (.invokevirtual 179, 3) := by decide +kernel
theorem dX11_needs_20 : decode cX11_needs 20 = .ok (.istore_n 2, 1) := by decide +kernel
theorem dX11_needs_21 : decode cX11_needs 21 = .ok (.iconst 0, 1) := by decide +kernel
theorem dX11_needs_22 : decode cX11_needs 22 = .ok (.istore_n 3, 1) := by decide +kernel
theorem dX11_needs_23 : decode cX11_needs 23 = .ok (.iload_n 3, 1) := by decide +kernel
theorem dX11_needs_24 : decode cX11_needs 24 = .ok (.iload_n 2, 1) := by decide +kernel
theorem dX11_needs_25 : decode cX11_needs 25 = .ok (.if_icmp .gt 21, 3) := by decide +kernel
theorem dX11_needs_28 : decode cX11_needs 28 = .ok (.aload_n 0, 1) := by decide +kernel
theorem dX11_needs_29 : decode cX11_needs 29 = .ok (.iload_n 1, 1) := by decide +kernel
theorem dX11_needs_30 : decode cX11_needs 30 = .ok (.iload_n 3, 1) := by decide +kernel
theorem dX11_needs_31 : decode cX11_needs 31 = .ok (.invokevirtual 247, 3) := by decide +kernel
theorem dX11_needs_34 : decode cX11_needs 34 = .ok (.iload_n 2, 1) := by decide +kernel
theorem dX11_needs_35 : decode cX11_needs 35 = .ok (.if_icmp .ne 5, 3) := by decide +kernel
theorem dX11_needs_38 : decode cX11_needs 38 = .ok (.iload_n 3, 1) := by decide +kernel
theorem dX11_needs_39 : decode cX11_needs 39 = .ok (.ireturn, 1) := by decide +kernel
theorem dX11_needs_40 : decode cX11_needs 40 = .ok (.iinc 3 1, 3) := by decide +kernel
theorem dX11_needs_43 : decode cX11_needs 43 = .ok (.goto (-20), 3) := by decide +kernel
theorem dX11_needs_46 : decode cX11_needs 46 = .ok (.bipush (-2), 2) := by decide +kernel
theorem dX11_needs_48 : decode cX11_needs 48 = .ok (.ireturn, 1) := by decide +kernel
theorem dX11_now_0 : decode cX11_now 0 = .ok (.aload_n 0, 1) := by decide +kernel
theorem dX11_now_1 : decode cX11_now 1 = .ok (.iconst 0, 1) := by decide +kernel
theorem dX11_now_2 : decode cX11_now 2 = .ok (.putfield 1, 3) := by decide +kernel
theorem dX11_now_5 : decode cX11_now 5 = .ok (.iload_n 1, 1) := by decide +kernel
theorem dX11_now_6 : decode cX11_now 6 = .ok (.tableswitch 126 0 10 #[58, 66, 73, 80, 87, 94, 100, 106, 111, 116, 121], 58) := by decide +kernel
theorem dX11_now_64 : decode cX11_now 64 = .ok (.aload_n 0, 1) := by decide +kernel
theorem dX11_now_65 : decode cX11_now 65 = .ok (.getfield 72, 3) := by decide +kernel
theorem dX11_now_68 : decode cX11_now 68 = .ok (.bipush 6, 2) := by decide +kernel
theorem dX11_now_70 : decode cX11_now 70 = .ok (.iaload, 1) := by decide +kernel
theorem dX11_now_71 : decode cX11_now 71 = .ok (.ireturn, 1) := by decide +kernel
theorem dX11_now_72 : decode cX11_now 72 = .ok (.aload_n 0, 1) := by decide +kernel
theorem dX11_now_73 : decode cX11_now 73 = .ok (.getfield 72, 3) := by decide +kernel
theorem dX11_now_76 : decode cX11_now 76 = .ok (.iconst 0, 1) := by decide +kernel
theorem dX11_now_77 : decode cX11_now 77 = .ok (.iaload, 1) := by decide +kernel
theorem dX11_now_78 : decode cX11_now 78 = .ok (.ireturn, 1) := by decide +kernel
theorem dX11_now_79 : decode cX11_now 79 = .ok (.aload_n 0, 1) := by decide +kernel
theorem dX11_now_80 : decode cX11_now 80 = .ok (.getfield 72, 3) := by decide +kernel
theorem dX11_now_83 : decode cX11_now 83 = .ok (.iconst 3, 1) := by decide +kernel
theorem dX11_now_84 : decode cX11_now 84 = .ok (.iaload, 1) := by decide +kernel
theorem dX11_now_85 : decode cX11_now 85 = .ok (.ireturn, 1) := by decide +kernel
theorem dX11_now_86 : decode cX11_now 86 = .ok (.aload_n 0, 1) := by decide +kernel
theorem dX11_now_87 : decode cX11_now 87 = .ok (.getfield 72, 3) := by decide +kernel
theorem dX11_now_90 : decode cX11_now 90 = .ok (.iconst 4, 1) := by decide +kernel
theorem dX11_now_91 : decode cX11_now 91 = .ok (.iaload, 1) := by decide +kernel
theorem dX11_now_92 : decode cX11_now 92 = .ok (.ireturn, 1) := by decide +kernel
theorem dX11_now_93 : decode cX11_now 93 = .ok (.aload_n 0, 1) := by decide +kernel
theorem dX11_now_94 : decode cX11_now 94 = .ok (.getfield 72, 3) := by decide +kernel
theorem dX11_now_97 : decode cX11_now 97 = .ok (.iconst 5, 1) := by decide +kernel
theorem dX11_now_98 : decode cX11_now 98 = .ok (.iaload, 1) := by decide +kernel
theorem dX11_now_99 : decode cX11_now 99 = .ok (.ireturn, 1) := by decide +kernel
theorem dX11_now_100 : decode cX11_now 100 = .ok (.aload_n 0, 1) := by decide +kernel
theorem dX11_now_101 : decode cX11_now 101 = .ok (.iconst 0, 1) := by decide +kernel
theorem dX11_now_102 : decode cX11_now 102 = .ok (.invokevirtual 179, 3) := by decide +kernel
theorem dX11_now_105 : decode cX11_now 105 = .ok (.ireturn, 1) := by decide +kernel
theorem dX11_now_106 : decode cX11_now 106 = .ok (.aload_n 0, 1) := by decide +kernel
theorem dX11_now_107 : decode cX11_now 107 = .ok (.iconst 1, 1) := by decide +kernel
theorem dX11_now_108 : decode cX11_now 108 = .ok (.invokevirtual 179, 3) := by decide +kernel
theorem dX11_now_111 : decode cX11_now 111 = .ok (.ireturn, 1) := by decide +kernel
theorem dX11_now_112 : decode cX11_now 112 = .ok (.aload_n 0, 1) := by decide +kernel
theorem dX11_now_113 : decode cX11_now 113 = .ok (.invokevirtual 182, 3) := by decide +kernel
theorem dX11_now_116 : decode cX11_now 116 = .ok (.ireturn, 1) := by decide +kernel
theorem dX11_now_117 : decode cX11_now 117 = .ok (.aload_n 0, 1) := by decide +kernel
theorem dX11_now_118 : decode cX11_now 118 = .ok (.invokevirtual 186, 3) := by decide +kernel
theorem dX11_now_121 : decode cX11_now 121 = .ok (.ireturn, 1) := by decide +kernel
theorem dX11_now_122 : decode cX11_now 122 = .ok (.aload_n 0, 1) := by decide +kernel
theorem dX11_now_123 : decode cX11_now 123 = .ok (.getfield 157, 3) := by decide +kernel
theorem dX11_now_126 : decode cX11_now 126 = .ok (.ireturn, 1) := by decide +kernel
theorem dX11_now_127 : decode cX11_now 127 = .ok (.aload_n 0, 1) := by decide +kernel
theorem dX11_now_128 : decode cX11_now 128 = .ok (.getfield 11, 3) := by decide +kernel
theorem dX11_now_131 : decode cX11_now 131 = .ok (.ireturn, 1) := by decide +kernel
theorem dX11_now_132 : decode cX11_now 132 = .ok (.iconst (-1), 1) := by decide +kernel
theorem dX11_now_133 : decode cX11_now 133 = .ok (.ireturn, 1) := by decide +kernel
theorem dX11_opensAll_0 : decode cX11_opensAll 0 = .ok (.iconst 0, 1) := by decide +kernel
theorem dX11_opensAll_1 : decode cX11_opensAll 1 = .ok (.istore_n 1, 1) := by decide +kernel
theorem dX11_opensAll_2 : decode cX11_opensAll 2 = .ok (.iload_n 1, 1) := by decide +kernel
theorem dX11_opensAll_3 : decode cX11_opensAll 3 = .ok (.bipush 40, 2) := by decide +kernel
theorem dX11_opensAll_5 : decode cX11_opensAll 5 = .ok (.if_icmp .ge 23, 3) := by decide +kernel
theorem dX11_opensAll_8 : decode cX11_opensAll 8 = .ok (.aload_n 0, 1) := by decide +kernel
theorem dX11_opensAll_9 : decode cX11_opensAll 9 = .ok (.getfield 96, 3) := by decide +kernel
theorem dX11_opensAll_12 : decode cX11_opensAll 12 = .ok (.iload_n 1, 1) := by decide +kernel
theorem dX11_opensAll_13 : decode cX11_opensAll 13 = .ok (.iconst 0, 1) := by decide +kernel
theorem dX11_opensAll_14 : decode cX11_opensAll 14 = .ok (.bastore, 1) := by decide +kernel
theorem dX11_opensAll_15 : decode cX11_opensAll 15 = .ok (.aload_n 0, 1) := by decide +kernel
theorem dX11_opensAll_16 : decode cX11_opensAll 16 = .ok (.getfield 87, 3) := by decide +kernel
theorem dX11_opensAll_19 : decode cX11_opensAll 19 = .ok (.iload_n 1, 1) := by decide +kernel
theorem dX11_opensAll_20 : decode cX11_opensAll 20 = .ok (.iconst (-1), 1) := by decide +kernel
theorem dX11_opensAll_21 : decode cX11_opensAll 21 = .ok (.iastore, 1) := by decide +kernel
theorem dX11_opensAll_22 : decode cX11_opensAll 22 = .ok (.iinc 1 1, 3) := by decide +kernel
theorem dX11_opensAll_25 : decode cX11_opensAll 25 = .ok (.goto (-23), 3) := by decide +kernel
theorem dX11_opensAll_28 : decode cX11_opensAll 28 = .ok (.return_, 1) := by decide +kernel
theorem dX11_outBy_0 : decode cX11_outBy 0 = .ok (.iconst 0, 1) := by decide +kernel
theorem dX11_outBy_1 : decode cX11_outBy 1 = .ok (.istore_n 2, 1) := by decide +kernel
theorem dX11_outBy_2 : decode cX11_outBy 2 = .ok (.iconst 0, 1) := by decide +kernel
theorem dX11_outBy_3 : decode cX11_outBy 3 = .ok (.istore_n 3, 1) := by decide +kernel
theorem dX11_outBy_4 : decode cX11_outBy 4 = .ok (.iload_n 3, 1) := by decide +kernel
theorem dX11_outBy_5 : decode cX11_outBy 5 = .ok (.aload_n 0, 1) := by decide +kernel
theorem dX11_outBy_6 : decode cX11_outBy 6 = .ok (.getfield 72, 3) := by decide +kernel
theorem dX11_outBy_9 : decode cX11_outBy 9 = .ok (.iconst 5, 1) := by decide +kernel
theorem dX11_outBy_10 : decode cX11_outBy 10 = .ok (.iaload, 1) := by decide +kernel
theorem dX11_outBy_11 : decode cX11_outBy 11 = .ok (.if_icmp .ge 32, 3) := by decide +kernel
theorem dX11_outBy_14 : decode cX11_outBy 14 = .ok (.aload_n 0, 1) := by decide +kernel
theorem dX11_outBy_15 : decode cX11_outBy 15 = .ok (.iload_n 3, 1) := by decide +kernel
theorem dX11_outBy_16 : decode cX11_outBy 16 = .ok (.iconst 2, 1) := by decide +kernel
theorem dX11_outBy_17 : decode cX11_outBy 17 = .ok (.invokevirtual 160, 3) := by decide +kernel
theorem dX11_outBy_20 : decode cX11_outBy 20 = .ok (.iconst 1, 1) := by decide +kernel
theorem dX11_outBy_21 : decode cX11_outBy 21 = .ok (.if_icmp .ne 16, 3) := by decide +kernel
theorem dX11_outBy_24 : decode cX11_outBy 24 = .ok (.aload_n 0, 1) := by decide +kernel
theorem dX11_outBy_25 : decode cX11_outBy 25 = .ok (.iload_n 3, 1) := by decide +kernel
theorem dX11_outBy_26 : decode cX11_outBy 26 = .ok (.iconst 3, 1) := by decide +kernel
theorem dX11_outBy_27 : decode cX11_outBy 27 = .ok (.invokevirtual 160, 3) := by decide +kernel
theorem dX11_outBy_30 : decode cX11_outBy 30 = .ok (.iload_n 1, 1) := by decide +kernel
theorem dX11_outBy_31 : decode cX11_outBy 31 = .ok (.if_icmp .ne 6, 3) := by decide +kernel
theorem dX11_outBy_34 : decode cX11_outBy 34 = .ok (.iinc 2 1, 3) := by decide +kernel
theorem dX11_outBy_37 : decode cX11_outBy 37 = .ok (.iinc 3 1, 3) := by decide +kernel
theorem dX11_outBy_40 : decode cX11_outBy 40 = .ok (.goto (-36), 3) := by decide +kernel
theorem dX11_outBy_43 : decode cX11_outBy 43 = .ok (.iload_n 2, 1) := by decide +kernel
theorem dX11_outBy_44 : decode cX11_outBy 44 = .ok (.ireturn, 1) := by decide +kernel
theorem dX11_pass_0 : decode cX11_pass 0 = .ok (.aload_n 0, 1) := by decide +kernel
theorem dX11_pass_1 : decode cX11_pass 1 = .ok (.iconst 0, 1) := by decide +kernel
theorem dX11_pass_2 : decode cX11_pass 2 = .ok (.putfield 1, 3) := by decide +kernel
theorem dX11_pass_5 : decode cX11_pass 5 = .ok (.iload_n 1, 1) := by decide +kernel
theorem dX11_pass_6 : decode cX11_pass 6 = .ok (.iconst 1, 1) := by decide +kernel
theorem dX11_pass_7 : decode cX11_pass 7 = .ok (.bipush 99, 2) := by decide +kernel
theorem dX11_pass_9 : decode cX11_pass 9 = .ok (.invokestatic 106, 3) := by decide +kernel
theorem dX11_pass_12 : decode cX11_pass 12 = .ok (.ifCond .eq 18, 3) := by decide +kernel
theorem dX11_pass_15 : decode cX11_pass 15 = .ok (.aload_n 0, 1) := by decide +kernel
theorem dX11_pass_16 : decode cX11_pass 16 = .ok (.getfield 72, 3) := by decide +kernel
theorem dX11_pass_19 : decode cX11_pass 19 = .ok (.bipush 6, 2) := by decide +kernel
theorem dX11_pass_21 : decode cX11_pass 21 = .ok (.iaload, 1) := by decide +kernel
theorem dX11_pass_22 : decode cX11_pass 22 = .ok (.iload_n 1, 1) := by decide +kernel
theorem dX11_pass_23 : decode cX11_pass 23 = .ok (.iadd, 1) := by decide +kernel
theorem dX11_pass_24 : decode cX11_pass 24 = .ok (.sipush 999, 3) := by decide +kernel
theorem dX11_pass_27 : decode cX11_pass 27 = .ok (.if_icmp .le 5, 3) := by decide +kernel
theorem dX11_pass_30 : decode cX11_pass 30 = .ok (.iconst (-1), 1) := by decide +kernel
theorem dX11_pass_31 : decode cX11_pass 31 = .ok (.ireturn, 1) := by decide +kernel
theorem dX11_pass_32 : decode cX11_pass 32 = .ok (.aload_n 0, 1) := by decide +kernel
theorem dX11_pass_33 : decode cX11_pass 33 = .ok (.invokevirtual 259, 3) := by decide +kernel
theorem dX11_pass_36 : decode cX11_pass 36 = .ok (.aload_n 0, 1) := by decide +kernel
theorem dX11_pass_37 : decode cX11_pass 37 = .ok (.getfield 72, 3) := by decide +kernel
theorem dX11_pass_40 : decode cX11_pass 40 = .ok (.bipush 6, 2) := by decide +kernel
theorem dX11_pass_42 : decode cX11_pass 42 = .ok (.dup2, 1) := by decide +kernel
theorem dX11_pass_43 : decode cX11_pass 43 = .ok (.iaload, 1) := by decide +kernel
theorem dX11_pass_44 : decode cX11_pass 44 = .ok (.iload_n 1, 1) := by decide +kernel
theorem dX11_pass_45 : decode cX11_pass 45 = .ok (.iadd, 1) := by decide +kernel
theorem dX11_pass_46 : decode cX11_pass 46 = .ok (.iastore, 1) := by decide +kernel
theorem dX11_pass_47 : decode cX11_pass 47 = .ok (.aload_n 0, 1) := by decide +kernel
theorem dX11_pass_48 : decode cX11_pass 48 = .ok (.getfield 72, 3) := by decide +kernel
theorem dX11_pass_51 : decode cX11_pass 51 = .ok (.bipush 6, 2) := by decide +kernel
theorem dX11_pass_53 : decode cX11_pass 53 = .ok (.iaload, 1) := by decide +kernel
theorem dX11_pass_54 : decode cX11_pass 54 = .ok (.ireturn, 1) := by decide +kernel
theorem dX11_piecesIn_0 : decode cX11_piecesIn 0 = .ok (.aload_n 0, 1) := by decide +kernel
theorem dX11_piecesIn_1 : decode cX11_piecesIn 1 = .ok (.iload_n 1, 1) := by decide +kernel
theorem dX11_piecesIn_2 : decode cX11_piecesIn 2 = .ok (.iconst 4, 1) := by decide +kernel
theorem dX11_piecesIn_3 : decode cX11_piecesIn 3 = .ok (.invokevirtual 167, 3) := by decide +kernel
theorem dX11_piecesIn_6 : decode cX11_piecesIn 6 = .ok (.aload_n 0, 1) := by decide +kernel
theorem dX11_piecesIn_7 : decode cX11_piecesIn 7 = .ok (.iload_n 1, 1) := by decide +kernel
theorem dX11_piecesIn_8 : decode cX11_piecesIn 8 = .ok (.bipush 10, 2) := by decide +kernel
theorem dX11_piecesIn_10 : decode cX11_piecesIn 10 = .ok (.invokevirtual 167, 3) := by decide +kernel
theorem dX11_piecesIn_13 : decode cX11_piecesIn 13 = .ok (.iadd, 1) := by decide +kernel
theorem dX11_piecesIn_14 : decode cX11_piecesIn 14 = .ok (.aload_n 0, 1) := by decide +kernel
theorem dX11_piecesIn_15 : decode cX11_piecesIn 15 = .ok (.iload_n 1, 1) := by decide +kernel
theorem dX11_piecesIn_16 : decode cX11_piecesIn 16 = .ok (.invokevirtual 170, 3) := by decide +kernel
theorem dX11_piecesIn_19 : decode cX11_piecesIn 19 = .ok (.isub, 1) := by decide +kernel
theorem dX11_piecesIn_20 : decode cX11_piecesIn 20 = .ok (.aload_n 0, 1) := by decide +kernel
theorem dX11_piecesIn_21 : decode cX11_piecesIn 21 = .ok (.iload_n 1, 1) := by decide +kernel
theorem dX11_piecesIn_22 : decode cX11_piecesIn 22 = .ok (.bipush 7, 2) := by decide +kernel
theorem dX11_piecesIn_24 : decode cX11_piecesIn 24 = .ok (.invokevirtual 167, 3) := by decide +kernel
theorem dX11_piecesIn_27 : decode cX11_piecesIn 27 = .ok (.isub, 1) := by decide +kernel
theorem dX11_piecesIn_28 : decode cX11_piecesIn 28 = .ok (.aload_n 0, 1) := by decide +kernel
theorem dX11_piecesIn_29 : decode cX11_piecesIn 29 = .ok (.iload_n 1, 1) := by decide +kernel
theorem dX11_piecesIn_30 : decode cX11_piecesIn 30 = .ok (.bipush 8, 2) := by decide +kernel
theorem dX11_piecesIn_32 : decode cX11_piecesIn 32 = .ok (.invokevirtual 167, 3) := by decide +kernel
theorem dX11_piecesIn_35 : decode cX11_piecesIn 35 = .ok (.isub, 1) := by decide +kernel
theorem dX11_piecesIn_36 : decode cX11_piecesIn 36 = .ok (.aload_n 0, 1) := by decide +kernel
theorem dX11_piecesIn_37 : decode cX11_piecesIn 37 = .ok (.iload_n 1, 1) := by decide +kernel
theorem dX11_piecesIn_38 : decode cX11_piecesIn 38 = .ok (.bipush 9, 2) := by decide +kernel
theorem dX11_piecesIn_40 : decode cX11_piecesIn 40 = .ok (.invokevirtual 167, 3) := by decide +kernel
theorem dX11_piecesIn_43 : decode cX11_piecesIn 43 = .ok (.isub, 1) := by decide +kernel
theorem dX11_piecesIn_44 : decode cX11_piecesIn 44 = .ok (.ireturn, 1) := by decide +kernel
theorem dX11_piecesOut_0 : decode cX11_piecesOut 0 = .ok (.aload_n 0, 1) := by decide +kernel
theorem dX11_piecesOut_1 : decode cX11_piecesOut 1 = .ok (.iload_n 1, 1) := by decide +kernel
theorem dX11_piecesOut_2 : decode cX11_piecesOut 2 = .ok (.invokevirtual 164, 3) := by decide +kernel
theorem dX11_piecesOut_5 : decode cX11_piecesOut 5 = .ok (.aload_n 0, 1) := by decide +kernel
theorem dX11_piecesOut_6 : decode cX11_piecesOut 6 = .ok (.iload_n 1, 1) := by decide +kernel
theorem dX11_piecesOut_7 : decode cX11_piecesOut 7 = .ok (.iconst 1, 1) := by decide +kernel
theorem dX11_piecesOut_8 : decode cX11_piecesOut 8 = .ok (.invokevirtual 167, 3) := by decide +kernel
theorem dX11_piecesOut_11 : decode cX11_piecesOut 11 = .ok (.iadd, 1) := by decide +kernel
theorem dX11_piecesOut_12 : decode cX11_piecesOut 12 = .ok (.iconst 1, 1) := by decide +kernel
theorem dX11_piecesOut_13 : decode cX11_piecesOut 13 = .ok (.isub, 1) := by decide +kernel
theorem dX11_piecesOut_14 : decode cX11_piecesOut 14 = .ok (.aload_n 0, 1) := by decide +kernel
theorem dX11_piecesOut_15 : decode cX11_piecesOut 15 = .ok (.iload_n 1, 1) := by decide +kernel
theorem dX11_piecesOut_16 : decode cX11_piecesOut 16 = .ok (.iconst 1, 1) := by decide +kernel
theorem dX11_piecesOut_17 : decode cX11_piecesOut 17 = .ok (.invokevirtual 167, 3) := by decide +kernel
theorem dX11_piecesOut_20 : decode cX11_piecesOut 20 = .ok (.idiv, 1) := by decide +kernel
theorem dX11_piecesOut_21 : decode cX11_piecesOut 21 = .ok (.ireturn, 1) := by decide +kernel
theorem dX11_plan_0 : decode cX11_plan 0 = .ok (.aload_n 0, 1) := by decide +kernel
theorem dX11_plan_1 : decode cX11_plan 1 = .ok (.iconst 0, 1) := by decide +kernel
theorem dX11_plan_2 : decode cX11_plan 2 = .ok (.putfield 1, 3) := by decide +kernel
theorem dX11_plan_5 : decode cX11_plan 5 = .ok (.iload_n 1, 1) := by decide +kernel
theorem dX11_plan_6 : decode cX11_plan 6 = .ok (.iconst 0, 1) := by decide +kernel
theorem dX11_plan_7 : decode cX11_plan 7 = .ok (.iconst 1, 1) := by decide +kernel
theorem dX11_plan_8 : decode cX11_plan 8 = .ok (.invokestatic 106, 3) := by decide +kernel
theorem dX11_plan_11 : decode cX11_plan 11 = .ok (.ifCond .ne 34, 3) := by decide +kernel
theorem dX11_plan_14 : decode cX11_plan 14 = .ok (.iload_n 1, 1) := by decide +kernel
theorem dX11_plan_15 : decode cX11_plan 15 = .ok (.bipush 10, 2) := by decide +kernel
theorem dX11_plan_17 : decode cX11_plan 17 = .ok (.if_icmp .lt 26, 3) := by decide +kernel
theorem dX11_plan_20 : decode cX11_plan 20 = .ok (.aload_n 0, 1) := by decide +kernel
theorem dX11_plan_21 : decode cX11_plan 21 = .ok (.iload_n 1, 1) := by decide +kernel
theorem dX11_plan_22 : decode cX11_plan 22 = .ok (.bipush 10, 2) := by decide +kernel
theorem dX11_plan_24 : decode cX11_plan 24 = .ok (.isub, 1) := by decide +kernel
theorem dX11_plan_25 : decode cX11_plan 25 = .ok (.invokevirtual 207, 3) := by decide +kernel
theorem dX11_plan_28 : decode cX11_plan 28 = .ok (.ifCond .eq 15, 3) := by decide +kernel
theorem dX11_plan_31 : decode cX11_plan 31 = .ok (.aload_n 0, 1) := by decide +kernel
theorem dX11_plan_32 : decode cX11_plan 32 = .ok (.iload_n 1, 1) := by decide +kernel
theorem dX11_plan_33 : decode cX11_plan 33 = .ok (.bipush 10, 2) := by decide +kernel
theorem dX11_plan_35 : decode cX11_plan 35 = .ok (.isub, 1) := by decide +kernel
theorem dX11_plan_36 : decode cX11_plan 36 = .ok (.iconst 2, 1) := by decide +kernel
theorem dX11_plan_37 : decode cX11_plan 37 = .ok (.invokevirtual 160, 3) := by decide +kernel
theorem dX11_plan_40 : decode cX11_plan 40 = .ok (.ifCond .eq 5, 3) := by decide +kernel
theorem dX11_plan_43 : decode cX11_plan 43 = .ok (.iconst (-1), 1) := by decide +kernel
theorem dX11_plan_44 : decode cX11_plan 44 = .ok (.ireturn, 1) := by decide +kernel
theorem dX11_plan_45 : decode cX11_plan 45 = .ok (.aload_n 0, 1) := by decide +kernel
theorem dX11_plan_46 : decode cX11_plan 46 = .ok (.invokevirtual 244, 3) := by decide +kernel
theorem dX11_plan_49 : decode cX11_plan 49 = .ok (.iload_n 1, 1) := by decide +kernel
theorem dX11_plan_50 : decode cX11_plan 50 = .ok (.ifCond .ne 10, 3) := by decide +kernel
theorem dX11_plan_53 : decode cX11_plan 53 = .ok (.aload_n 0, 1) := by decide +kernel
end
section
theorem dX11_plan_54 : decode cX11_plan 54 = .ok (.getfield 225, 3) := by decide +kernel
theorem dX11_plan_57 : decode cX11_plan 57 = .ok (.goto 24, 3) := by decide +kernel
theorem dX11_plan_60 : decode cX11_plan 60 = .ok (.iload_n 1, 1) := by decide +kernel
theorem dX11_plan_61 : decode cX11_plan 61 = .ok (.iconst 1, 1) := by decide +kernel
theorem dX11_plan_62 : decode cX11_plan 62 = .ok (.if_icmp .ne 10, 3) := by decide +kernel
theorem dX11_plan_65 : decode cX11_plan 65 = .ok (.aload_n 0, 1) := by decide +kernel
theorem dX11_plan_66 : decode cX11_plan 66 = .ok (.getfield 228, 3) := by decide +kernel
theorem dX11_plan_69 : decode cX11_plan 69 = .ok (.goto 12, 3) := by decide +kernel
theorem dX11_plan_72 : decode cX11_plan 72 = .ok (.aload_n 0, 1) := by decide +kernel
theorem dX11_plan_73 : decode cX11_plan 73 = .ok (.getfield 87, 3) := by decide +kernel
theorem dX11_plan_76 : decode cX11_plan 76 = .ok (.iload_n 1, 1) := by decide +kernel
theorem dX11_plan_77 : decode cX11_plan 77 = .ok (.bipush 10, 2) := by decide +kernel
theorem dX11_plan_79 : decode cX11_plan 79 = .ok (.isub, 1) := by decide +kernel
theorem dX11_plan_80 : decode cX11_plan 80 = .ok (.iaload, 1) := by decide +kernel
theorem dX11_plan_81 : decode cX11_plan 81 = .ok (.ireturn, 1) := by decide +kernel
theorem dX11_reaches_0 : decode cX11_reaches 0 = .ok (.iload_n 2, 1) := by decide +kernel
theorem dX11_reaches_1 : decode cX11_reaches 1 = .ok (.istore_n 3, 1) := by decide +kernel
theorem dX11_reaches_2 : decode cX11_reaches 2 = .ok (.iconst 0, 1) := by decide +kernel
theorem dX11_reaches_3 : decode cX11_reaches 3 = .ok (.istore 4, 2) := by decide +kernel
theorem dX11_reaches_5 : decode cX11_reaches 5 = .ok (.iload 4, 2) := by decide +kernel
theorem dX11_reaches_7 : decode cX11_reaches 7 = .ok (.aload_n 0, 1) := by decide +kernel
theorem dX11_reaches_8 : decode cX11_reaches 8 = .ok (.getfield 72, 3) := by decide +kernel
theorem dX11_reaches_11 : decode cX11_reaches 11 = .ok (.iconst 3, 1) := by decide +kernel
theorem dX11_reaches_12 : decode cX11_reaches 12 = .ok (.iaload, 1) := by decide +kernel
theorem dX11_reaches_13 : decode cX11_reaches 13 = .ok (.if_icmp .ge 62, 3) := by decide +kernel
theorem dX11_reaches_16 : decode cX11_reaches 16 = .ok (.aload_n 0, 1) := by decide +kernel
theorem dX11_reaches_17 : decode cX11_reaches 17 = .ok (.getfield 90, 3) := by decide +kernel
theorem dX11_reaches_20 : decode cX11_reaches 20 = .ok (.iload 4, 2) := by decide +kernel
theorem dX11_reaches_22 : decode cX11_reaches 22 = .ok (.iaload, 1) := by decide +kernel
theorem dX11_reaches_23 : decode cX11_reaches 23 = .ok (.iconst (-1), 1) := by decide +kernel
theorem dX11_reaches_24 : decode cX11_reaches 24 = .ok (.if_icmp .ne 45, 3) := by decide +kernel
theorem dX11_reaches_27 : decode cX11_reaches 27 = .ok (.aload_n 0, 1) := by decide +kernel
theorem dX11_reaches_28 : decode cX11_reaches 28 = .ok (.getfield 81, 3) := by decide +kernel
theorem dX11_reaches_31 : decode cX11_reaches 31 = .ok (.iload 4, 2) := by decide +kernel
theorem dX11_reaches_33 : decode cX11_reaches 33 = .ok (.iaload, 1) := by decide +kernel
theorem dX11_reaches_34 : decode cX11_reaches 34 = .ok (.ifCond .le 35, 3) := by decide +kernel
theorem dX11_reaches_37 : decode cX11_reaches 37 = .ok (.aload_n 0, 1) := by decide +kernel
theorem dX11_reaches_38 : decode cX11_reaches 38 = .ok (.iload 4, 2) := by decide +kernel
theorem dX11_reaches_40 : decode cX11_reaches 40 = .ok (.iload_n 1, 1) := by decide +kernel
theorem dX11_reaches_41 : decode cX11_reaches 41 = .ok (.invokevirtual 213, 3) := by decide +kernel
theorem dX11_reaches_44 : decode cX11_reaches 44 = .ok (.ifCond .ne 6, 3) := by decide +kernel
theorem dX11_reaches_47 : decode cX11_reaches 47 = .ok (.goto 22, 3) := by decide +kernel
theorem dX11_reaches_50 : decode cX11_reaches 50 = .ok (.aload_n 0, 1) := by decide +kernel
theorem dX11_reaches_51 : decode cX11_reaches 51 = .ok (.getfield 90, 3) := by decide +kernel
theorem dX11_reaches_54 : decode cX11_reaches 54 = .ok (.iload 4, 2) := by decide +kernel
theorem dX11_reaches_56 : decode cX11_reaches 56 = .ok (.iload_n 1, 1) := by decide +kernel
theorem dX11_reaches_57 : decode cX11_reaches 57 = .ok (.iastore, 1) := by decide +kernel
theorem dX11_reaches_58 : decode cX11_reaches 58 = .ok (.aload_n 0, 1) := by decide +kernel
theorem dX11_reaches_59 : decode cX11_reaches 59 = .ok (.getfield 93, 3) := by decide +kernel
theorem dX11_reaches_62 : decode cX11_reaches 62 = .ok (.iload_n 3, 1) := by decide +kernel
theorem dX11_reaches_63 : decode cX11_reaches 63 = .ok (.iload 4, 2) := by decide +kernel
theorem dX11_reaches_65 : decode cX11_reaches 65 = .ok (.iastore, 1) := by decide +kernel
theorem dX11_reaches_66 : decode cX11_reaches 66 = .ok (.iinc 3 1, 3) := by decide +kernel
theorem dX11_reaches_69 : decode cX11_reaches 69 = .ok (.iinc 4 1, 3) := by decide +kernel
theorem dX11_reaches_72 : decode cX11_reaches 72 = .ok (.goto (-67), 3) := by decide +kernel
theorem dX11_reaches_75 : decode cX11_reaches 75 = .ok (.iload_n 3, 1) := by decide +kernel
theorem dX11_reaches_76 : decode cX11_reaches 76 = .ok (.ireturn, 1) := by decide +kernel
theorem dX11_readBorder_0 : decode cX11_readBorder 0 = .ok (.aload_n 0, 1) := by decide +kernel
theorem dX11_readBorder_1 : decode cX11_readBorder 1 = .ok (.getfield 75, 3) := by decide +kernel
theorem dX11_readBorder_4 : decode cX11_readBorder 4 = .ok (.iconst 2, 1) := by decide +kernel
theorem dX11_readBorder_5 : decode cX11_readBorder 5 = .ok (.iaload, 1) := by decide +kernel
theorem dX11_readBorder_6 : decode cX11_readBorder 6 = .ok (.bipush 28, 2) := by decide +kernel
theorem dX11_readBorder_8 : decode cX11_readBorder 8 = .ok (.if_icmp .ne 9, 3) := by decide +kernel
theorem dX11_readBorder_11 : decode cX11_readBorder 11 = .ok (.aload_n 0, 1) := by decide +kernel
theorem dX11_readBorder_12 : decode cX11_readBorder 12 = .ok (.iconst 3, 1) := by decide +kernel
theorem dX11_readBorder_13 : decode cX11_readBorder 13 = .ok (.invokevirtual 103, 3) := by decide +kernel
theorem dX11_readBorder_16 : decode cX11_readBorder 16 = .ok (.ireturn, 1) := by decide +kernel
theorem dX11_readBorder_17 : decode cX11_readBorder 17 = .ok (.aload_n 0, 1) := by decide +kernel
theorem dX11_readBorder_18 : decode cX11_readBorder 18 = .ok (.invokevirtual 110, 3) := by decide +kernel
theorem dX11_readBorder_21 : decode cX11_readBorder 21 = .ok (.aload_n 0, 1) := by decide +kernel
theorem dX11_readBorder_22 : decode cX11_readBorder 22 = .ok (.iconst 0, 1) := by decide +kernel
theorem dX11_readBorder_23 : decode cX11_readBorder 23 = .ok (.invokevirtual 127, 3) := by decide +kernel
theorem dX11_readBorder_26 : decode cX11_readBorder 26 = .ok (.ifCond .ne 5, 3) := by decide +kernel
theorem dX11_readBorder_29 : decode cX11_readBorder 29 = .ok (.iconst 0, 1) := by decide +kernel
theorem dX11_readBorder_30 : decode cX11_readBorder 30 = .ok (.ireturn, 1) := by decide +kernel
theorem dX11_readBorder_31 : decode cX11_readBorder 31 = .ok (.aload_n 0, 1) := by decide +kernel
theorem dX11_readBorder_32 : decode cX11_readBorder 32 = .ok (.getfield 117, 3) := by decide +kernel
theorem dX11_readBorder_35 : decode cX11_readBorder 35 = .ok (.istore_n 1, 1) := by decide +kernel
theorem dX11_readBorder_36 : decode cX11_readBorder 36 = .ok (.aload_n 0, 1) := by decide +kernel
theorem dX11_readBorder_37 : decode cX11_readBorder 37 = .ok (.iconst 1, 1) := by decide +kernel
theorem dX11_readBorder_38 : decode cX11_readBorder 38 = .ok (.iload_n 1, 1) := by decide +kernel
theorem dX11_readBorder_39 : decode cX11_readBorder 39 = .ok (.ishl, 1) := by decide +kernel
theorem dX11_readBorder_40 : decode cX11_readBorder 40 = .ok (.invokevirtual 127, 3) := by decide +kernel
theorem dX11_readBorder_43 : decode cX11_readBorder 43 = .ok (.ifCond .ne 5, 3) := by decide +kernel
theorem dX11_readBorder_46 : decode cX11_readBorder 46 = .ok (.iconst 0, 1) := by decide +kernel
theorem dX11_readBorder_47 : decode cX11_readBorder 47 = .ok (.ireturn, 1) := by decide +kernel
theorem dX11_readBorder_48 : decode cX11_readBorder 48 = .ok (.aload_n 0, 1) := by decide +kernel
theorem dX11_readBorder_49 : decode cX11_readBorder 49 = .ok (.getfield 75, 3) := by decide +kernel
theorem dX11_readBorder_52 : decode cX11_readBorder 52 = .ok (.bipush 103, 2) := by decide +kernel
theorem dX11_readBorder_54 : decode cX11_readBorder 54 = .ok (.iload_n 1, 1) := by decide +kernel
theorem dX11_readBorder_55 : decode cX11_readBorder 55 = .ok (.iadd, 1) := by decide +kernel
theorem dX11_readBorder_56 : decode cX11_readBorder 56 = .ok (.dup2, 1) := by decide +kernel
theorem dX11_readBorder_57 : decode cX11_readBorder 57 = .ok (.iaload, 1) := by decide +kernel
theorem dX11_readBorder_58 : decode cX11_readBorder 58 = .ok (.iconst 1, 1) := by decide +kernel
theorem dX11_readBorder_59 : decode cX11_readBorder 59 = .ok (.aload_n 0, 1) := by decide +kernel
theorem dX11_readBorder_60 : decode cX11_readBorder 60 = .ok (.getfield 117, 3) := by decide +kernel
theorem dX11_readBorder_63 : decode cX11_readBorder 63 = .ok (.ishl, 1) := by decide +kernel
theorem dX11_readBorder_64 : decode cX11_readBorder 64 = .ok (.ior, 1) := by decide +kernel
theorem dX11_readBorder_65 : decode cX11_readBorder 65 = .ok (.iastore, 1) := by decide +kernel
theorem dX11_readBorder_66 : decode cX11_readBorder 66 = .ok (.aload_n 0, 1) := by decide +kernel
theorem dX11_readBorder_67 : decode cX11_readBorder 67 = .ok (.getfield 75, 3) := by decide +kernel
theorem dX11_readBorder_70 : decode cX11_readBorder 70 = .ok (.bipush 103, 2) := by decide +kernel
theorem dX11_readBorder_72 : decode cX11_readBorder 72 = .ok (.aload_n 0, 1) := by decide +kernel
theorem dX11_readBorder_73 : decode cX11_readBorder 73 = .ok (.getfield 117, 3) := by decide +kernel
theorem dX11_readBorder_76 : decode cX11_readBorder 76 = .ok (.iadd, 1) := by decide +kernel
theorem dX11_readBorder_77 : decode cX11_readBorder 77 = .ok (.dup2, 1) := by decide +kernel
theorem dX11_readBorder_78 : decode cX11_readBorder 78 = .ok (.iaload, 1) := by decide +kernel
theorem dX11_readBorder_79 : decode cX11_readBorder 79 = .ok (.iconst 1, 1) := by decide +kernel
theorem dX11_readBorder_80 : decode cX11_readBorder 80 = .ok (.iload_n 1, 1) := by decide +kernel
theorem dX11_readBorder_81 : decode cX11_readBorder 81 = .ok (.ishl, 1) := by decide +kernel
theorem dX11_readBorder_82 : decode cX11_readBorder 82 = .ok (.ior, 1) := by decide +kernel
theorem dX11_readBorder_83 : decode cX11_readBorder 83 = .ok (.iastore, 1) := by decide +kernel
theorem dX11_readBorder_84 : decode cX11_readBorder 84 = .ok (.aload_n 0, 1) := by decide +kernel
theorem dX11_readBorder_85 : decode cX11_readBorder 85 = .ok (.getfield 75, 3) := by decide +kernel
theorem dX11_readBorder_88 : decode cX11_readBorder 88 = .ok (.iconst 2, 1) := by decide +kernel
theorem dX11_readBorder_89 : decode cX11_readBorder 89 = .ok (.dup2, 1) := by decide +kernel
theorem dX11_readBorder_90 : decode cX11_readBorder 90 = .ok (.iaload, 1) := by decide +kernel
theorem dX11_readBorder_91 : decode cX11_readBorder 91 = .ok (.iconst 1, 1) := by decide +kernel
theorem dX11_readBorder_92 : decode cX11_readBorder 92 = .ok (.iadd, 1) := by decide +kernel
theorem dX11_readBorder_93 : decode cX11_readBorder 93 = .ok (.iastore, 1) := by decide +kernel
theorem dX11_readBorder_94 : decode cX11_readBorder 94 = .ok (.iconst 1, 1) := by decide +kernel
theorem dX11_readBorder_95 : decode cX11_readBorder 95 = .ok (.ireturn, 1) := by decide +kernel
theorem dX11_readEnd_0 : decode cX11_readEnd 0 = .ok (.aload_n 0, 1) := by decide +kernel
theorem dX11_readEnd_1 : decode cX11_readEnd 1 = .ok (.getfield 27, 3) := by decide +kernel
theorem dX11_readEnd_4 : decode cX11_readEnd 4 = .ok (.iconst 4, 1) := by decide +kernel
theorem dX11_readEnd_5 : decode cX11_readEnd 5 = .ok (.if_icmp .eq 9, 3) := by decide +kernel
theorem dX11_readEnd_8 : decode cX11_readEnd 8 = .ok (.aload_n 0, 1) := by decide +kernel
theorem dX11_readEnd_9 : decode cX11_readEnd 9 = .ok (.iconst 1, 1) := by decide +kernel
theorem dX11_readEnd_10 : decode cX11_readEnd 10 = .ok (.invokevirtual 103, 3) := by decide +kernel
theorem dX11_readEnd_13 : decode cX11_readEnd 13 = .ok (.ireturn, 1) := by decide +kernel
theorem dX11_readEnd_14 : decode cX11_readEnd 14 = .ok (.aload_n 0, 1) := by decide +kernel
theorem dX11_readEnd_15 : decode cX11_readEnd 15 = .ok (.invokevirtual 110, 3) := by decide +kernel
theorem dX11_readEnd_18 : decode cX11_readEnd 18 = .ok (.iconst 1, 1) := by decide +kernel
theorem dX11_readEnd_19 : decode cX11_readEnd 19 = .ok (.ireturn, 1) := by decide +kernel
theorem dX11_readKind_0 : decode cX11_readKind 0 = .ok (.aload_n 0, 1) := by decide +kernel
theorem dX11_readKind_1 : decode cX11_readKind 1 = .ok (.bipush 115, 2) := by decide +kernel
theorem dX11_readKind_3 : decode cX11_readKind 3 = .ok (.bipush 104, 2) := by decide +kernel
theorem dX11_readKind_5 : decode cX11_readKind 5 = .ok (.bipush 97, 2) := by decide +kernel
theorem dX11_readKind_7 : decode cX11_readKind 7 = .ok (.bipush 114, 2) := by decide +kernel
theorem dX11_readKind_9 : decode cX11_readKind 9 = .ok (.bipush 101, 2) := by decide +kernel
theorem dX11_readKind_11 : decode cX11_readKind 11 = .ok (.bipush 100, 2) := by decide +kernel
theorem dX11_readKind_13 : decode cX11_readKind 13 = .ok (.invokestatic 130, 3) := by decide +kernel
theorem dX11_readKind_16 : decode cX11_readKind 16 = .ok (.invokevirtual 120, 3) := by decide +kernel
theorem dX11_readKind_19 : decode cX11_readKind 19 = .ok (.istore_n 2, 1) := by decide +kernel
theorem dX11_readKind_20 : decode cX11_readKind 20 = .ok (.aload_n 0, 1) := by decide +kernel
theorem dX11_readKind_21 : decode cX11_readKind 21 = .ok (.bipush 109, 2) := by decide +kernel
theorem dX11_readKind_23 : decode cX11_readKind 23 = .ok (.bipush 117, 2) := by decide +kernel
theorem dX11_readKind_25 : decode cX11_readKind 25 = .ok (.bipush 108, 2) := by decide +kernel
theorem dX11_readKind_27 : decode cX11_readKind 27 = .ok (.bipush 116, 2) := by decide +kernel
theorem dX11_readKind_29 : decode cX11_readKind 29 = .ok (.bipush 105, 2) := by decide +kernel
theorem dX11_readKind_31 : decode cX11_readKind 31 = .ok (.invokestatic 56, 3) := by decide +kernel
theorem dX11_readKind_34 : decode cX11_readKind 34 = .ok (.invokevirtual 120, 3) := by decide +kernel
theorem dX11_readKind_37 : decode cX11_readKind 37 = .ok (.istore_n 3, 1) := by decide +kernel
theorem dX11_readKind_38 : decode cX11_readKind 38 = .ok (.iload_n 2, 1) := by decide +kernel
theorem dX11_readKind_39 : decode cX11_readKind 39 = .ok (.ifCond .ne 35, 3) := by decide +kernel
theorem dX11_readKind_42 : decode cX11_readKind 42 = .ok (.iload_n 3, 1) := by decide +kernel
theorem dX11_readKind_43 : decode cX11_readKind 43 = .ok (.ifCond .ne 31, 3) := by decide +kernel
theorem dX11_readKind_46 : decode cX11_readKind 46 = .ok (.aload_n 0, 1) := by decide +kernel
theorem dX11_readKind_47 : decode cX11_readKind 47 = .ok (.bipush 115, 2) := by decide +kernel
theorem dX11_readKind_49 : decode cX11_readKind 49 = .ok (.bipush 105, 2) := by decide +kernel
theorem dX11_readKind_51 : decode cX11_readKind 51 = .ok (.bipush 110, 2) := by decide +kernel
theorem dX11_readKind_53 : decode cX11_readKind 53 = .ok (.bipush 103, 2) := by decide +kernel
theorem dX11_readKind_55 : decode cX11_readKind 55 = .ok (.bipush 108, 2) := by decide +kernel
theorem dX11_readKind_57 : decode cX11_readKind 57 = .ok (.bipush 101, 2) := by decide +kernel
theorem dX11_readKind_59 : decode cX11_readKind 59 = .ok (.invokestatic 130, 3) := by decide +kernel
theorem dX11_readKind_62 : decode cX11_readKind 62 = .ok (.invokevirtual 120, 3) := by decide +kernel
theorem dX11_readKind_65 : decode cX11_readKind 65 = .ok (.ifCond .ne 9, 3) := by decide +kernel
theorem dX11_readKind_68 : decode cX11_readKind 68 = .ok (.aload_n 0, 1) := by decide +kernel
theorem dX11_readKind_69 : decode cX11_readKind 69 = .ok (.iconst 1, 1) := by decide +kernel
theorem dX11_readKind_70 : decode cX11_readKind 70 = .ok (.invokevirtual 103, 3) := by decide +kernel
theorem dX11_readKind_73 : decode cX11_readKind 73 = .ok (.ireturn, 1) := by decide +kernel
theorem dX11_readKind_74 : decode cX11_readKind 74 = .ok (.aload_n 0, 1) := by decide +kernel
theorem dX11_readKind_75 : decode cX11_readKind 75 = .ok (.getfield 75, 3) := by decide +kernel
theorem dX11_readKind_78 : decode cX11_readKind 78 = .ok (.iload_n 1, 1) := by decide +kernel
theorem dX11_readKind_79 : decode cX11_readKind 79 = .ok (.iconst 0, 1) := by decide +kernel
theorem dX11_readKind_80 : decode cX11_readKind 80 = .ok (.iadd, 1) := by decide +kernel
theorem dX11_readKind_81 : decode cX11_readKind 81 = .ok (.iload_n 2, 1) := by decide +kernel
theorem dX11_readKind_82 : decode cX11_readKind 82 = .ok (.ifCond .eq 7, 3) := by decide +kernel
theorem dX11_readKind_85 : decode cX11_readKind 85 = .ok (.iconst 2, 1) := by decide +kernel
theorem dX11_readKind_86 : decode cX11_readKind 86 = .ok (.goto 12, 3) := by decide +kernel
theorem dX11_readKind_89 : decode cX11_readKind 89 = .ok (.iload_n 3, 1) := by decide +kernel
theorem dX11_readKind_90 : decode cX11_readKind 90 = .ok (.ifCond .eq 7, 3) := by decide +kernel
theorem dX11_readKind_93 : decode cX11_readKind 93 = .ok (.iconst 1, 1) := by decide +kernel
theorem dX11_readKind_94 : decode cX11_readKind 94 = .ok (.goto 4, 3) := by decide +kernel
theorem dX11_readKind_97 : decode cX11_readKind 97 = .ok (.iconst 0, 1) := by decide +kernel
theorem dX11_readKind_98 : decode cX11_readKind 98 = .ok (.iastore, 1) := by decide +kernel
theorem dX11_readKind_99 : decode cX11_readKind 99 = .ok (.aload_n 0, 1) := by decide +kernel
theorem dX11_readKind_100 : decode cX11_readKind 100 = .ok (.getfield 75, 3) := by decide +kernel
theorem dX11_readKind_103 : decode cX11_readKind 103 = .ok (.iload_n 1, 1) := by decide +kernel
theorem dX11_readKind_104 : decode cX11_readKind 104 = .ok (.iconst 1, 1) := by decide +kernel
theorem dX11_readKind_105 : decode cX11_readKind 105 = .ok (.iadd, 1) := by decide +kernel
theorem dX11_readKind_106 : decode cX11_readKind 106 = .ok (.iconst 1, 1) := by decide +kernel
theorem dX11_readKind_107 : decode cX11_readKind 107 = .ok (.iastore, 1) := by decide +kernel
theorem dX11_readKind_108 : decode cX11_readKind 108 = .ok (.aload_n 0, 1) := by decide +kernel
theorem dX11_readKind_109 : decode cX11_readKind 109 = .ok (.invokevirtual 110, 3) := by decide +kernel
theorem dX11_readKind_112 : decode cX11_readKind 112 = .ok (.iload_n 2, 1) := by decide +kernel
theorem dX11_readKind_113 : decode cX11_readKind 113 = .ok (.ifCond .eq 16, 3) := by decide +kernel
theorem dX11_readKind_116 : decode cX11_readKind 116 = .ok (.aload_n 0, 1) := by decide +kernel
theorem dX11_readKind_117 : decode cX11_readKind 117 = .ok (.iload_n 1, 1) := by decide +kernel
theorem dX11_readKind_118 : decode cX11_readKind 118 = .ok (.iconst 1, 1) := by decide +kernel
theorem dX11_readKind_119 : decode cX11_readKind 119 = .ok (.iadd, 1) := by decide +kernel
theorem dX11_readKind_120 : decode cX11_readKind 120 = .ok (.iconst 2, 1) := by decide +kernel
theorem dX11_readKind_121 : decode cX11_readKind 121 = .ok (.bipush 9, 2) := by decide +kernel
theorem dX11_readKind_123 : decode cX11_readKind 123 = .ok (.invokevirtual 124, 3) := by decide +kernel
theorem dX11_readKind_126 : decode cX11_readKind 126 = .ok (.ifCond .eq 7, 3) := by decide +kernel
theorem dX11_readKind_129 : decode cX11_readKind 129 = .ok (.iconst 1, 1) := by decide +kernel
theorem dX11_readKind_130 : decode cX11_readKind 130 = .ok (.goto 4, 3) := by decide +kernel
theorem dX11_readKind_133 : decode cX11_readKind 133 = .ok (.iconst 0, 1) := by decide +kernel
theorem dX11_readKind_134 : decode cX11_readKind 134 = .ok (.ireturn, 1) := by decide +kernel
theorem dX11_readLands_0 : decode cX11_readLands 0 = .ok (.aload_n 0, 1) := by decide +kernel
theorem dX11_readLands_1 : decode cX11_readLands 1 = .ok (.bipush 108, 2) := by decide +kernel
theorem dX11_readLands_3 : decode cX11_readLands 3 = .ok (.bipush 97, 2) := by decide +kernel
theorem dX11_readLands_5 : decode cX11_readLands 5 = .ok (.bipush 110, 2) := by decide +kernel
theorem dX11_readLands_7 : decode cX11_readLands 7 = .ok (.bipush 100, 2) := by decide +kernel
theorem dX11_readLands_9 : decode cX11_readLands 9 = .ok (.bipush 115, 2) := by decide +kernel
theorem dX11_readLands_11 : decode cX11_readLands 11 = .ok (.invokestatic 56, 3) := by decide +kernel
theorem dX11_readLands_14 : decode cX11_readLands 14 = .ok (.invokevirtual 120, 3) := by decide +kernel
theorem dX11_readLands_17 : decode cX11_readLands 17 = .ok (.ifCond .ne 9, 3) := by decide +kernel
theorem dX11_readLands_20 : decode cX11_readLands 20 = .ok (.aload_n 0, 1) := by decide +kernel
theorem dX11_readLands_21 : decode cX11_readLands 21 = .ok (.iconst 1, 1) := by decide +kernel
theorem dX11_readLands_22 : decode cX11_readLands 22 = .ok (.invokevirtual 103, 3) := by decide +kernel
theorem dX11_readLands_25 : decode cX11_readLands 25 = .ok (.ireturn, 1) := by decide +kernel
theorem dX11_readLands_26 : decode cX11_readLands 26 = .ok (.aload_n 0, 1) := by decide +kernel
theorem dX11_readLands_27 : decode cX11_readLands 27 = .ok (.invokevirtual 110, 3) := by decide +kernel
theorem dX11_readLands_30 : decode cX11_readLands 30 = .ok (.aload_n 0, 1) := by decide +kernel
theorem dX11_readLands_31 : decode cX11_readLands 31 = .ok (.iconst 0, 1) := by decide +kernel
theorem dX11_readLands_32 : decode cX11_readLands 32 = .ok (.iconst 1, 1) := by decide +kernel
theorem dX11_readLands_33 : decode cX11_readLands 33 = .ok (.bipush 8, 2) := by decide +kernel
theorem dX11_readLands_35 : decode cX11_readLands 35 = .ok (.invokevirtual 124, 3) := by decide +kernel
theorem dX11_readLands_38 : decode cX11_readLands 38 = .ok (.ifCond .eq 18, 3) := by decide +kernel
theorem dX11_readLands_41 : decode cX11_readLands 41 = .ok (.aload_n 0, 1) := by decide +kernel
theorem dX11_readLands_42 : decode cX11_readLands 42 = .ok (.iconst 1, 1) := by decide +kernel
theorem dX11_readLands_43 : decode cX11_readLands 43 = .ok (.iconst 1, 1) := by decide +kernel
theorem dX11_readLands_44 : decode cX11_readLands 44 = .ok (.bipush 9, 2) := by decide +kernel
theorem dX11_readLands_46 : decode cX11_readLands 46 = .ok (.invokevirtual 124, 3) := by decide +kernel
theorem dX11_readLands_49 : decode cX11_readLands 49 = .ok (.ifCond .eq 7, 3) := by decide +kernel
theorem dX11_readLands_52 : decode cX11_readLands 52 = .ok (.iconst 1, 1) := by decide +kernel
theorem dX11_readLands_53 : decode cX11_readLands 53 = .ok (.goto 4, 3) := by decide +kernel
theorem dX11_readLands_56 : decode cX11_readLands 56 = .ok (.iconst 0, 1) := by decide +kernel
theorem dX11_readLands_57 : decode cX11_readLands 57 = .ok (.ireturn, 1) := by decide +kernel
theorem dX11_readLine_0 : decode cX11_readLine 0 = .ok (.iload_n 1, 1) := by decide +kernel
theorem dX11_readLine_1 : decode cX11_readLine 1 = .ok (.ifCond .eq 8, 3) := by decide +kernel
theorem dX11_readLine_4 : decode cX11_readLine 4 = .ok (.aload_n 0, 1) := by decide +kernel
theorem dX11_readLine_5 : decode cX11_readLine 5 = .ok (.invokevirtual 137, 3) := by decide +kernel
theorem dX11_readLine_8 : decode cX11_readLine 8 = .ok (.ireturn, 1) := by decide +kernel
theorem dX11_readLine_9 : decode cX11_readLine 9 = .ok (.aload_n 0, 1) := by decide +kernel
theorem dX11_readLine_10 : decode cX11_readLine 10 = .ok (.bipush 98, 2) := by decide +kernel
theorem dX11_readLine_12 : decode cX11_readLine 12 = .ok (.bipush 111, 2) := by decide +kernel
theorem dX11_readLine_14 : decode cX11_readLine 14 = .ok (.bipush 114, 2) := by decide +kernel
theorem dX11_readLine_16 : decode cX11_readLine 16 = .ok (.bipush 100, 2) := by decide +kernel
theorem dX11_readLine_18 : decode cX11_readLine 18 = .ok (.bipush 101, 2) := by decide +kernel
theorem dX11_readLine_20 : decode cX11_readLine 20 = .ok (.bipush 114, 2) := by decide +kernel
theorem dX11_readLine_22 : decode cX11_readLine 22 = .ok (.invokestatic 130, 3) := by decide +kernel
theorem dX11_readLine_25 : decode cX11_readLine 25 = .ok (.invokevirtual 120, 3) := by decide +kernel
theorem dX11_readLine_28 : decode cX11_readLine 28 = .ok (.ifCond .eq 8, 3) := by decide +kernel
theorem dX11_readLine_31 : decode cX11_readLine 31 = .ok (.aload_n 0, 1) := by decide +kernel
theorem dX11_readLine_32 : decode cX11_readLine 32 = .ok (.invokevirtual 141, 3) := by decide +kernel
theorem dX11_readLine_35 : decode cX11_readLine 35 = .ok (.ireturn, 1) := by decide +kernel
theorem dX11_readLine_36 : decode cX11_readLine 36 = .ok (.aload_n 0, 1) := by decide +kernel
theorem dX11_readLine_37 : decode cX11_readLine 37 = .ok (.bipush 116, 2) := by decide +kernel
theorem dX11_readLine_39 : decode cX11_readLine 39 = .ok (.bipush 121, 2) := by decide +kernel
theorem dX11_readLine_41 : decode cX11_readLine 41 = .ok (.bipush 112, 2) := by decide +kernel
theorem dX11_readLine_43 : decode cX11_readLine 43 = .ok (.bipush 101, 2) := by decide +kernel
theorem dX11_readLine_45 : decode cX11_readLine 45 = .ok (.invokestatic 52, 3) := by decide +kernel
theorem dX11_readLine_48 : decode cX11_readLine 48 = .ok (.invokevirtual 120, 3) := by decide +kernel
theorem dX11_readLine_51 : decode cX11_readLine 51 = .ok (.ifCond .eq 8, 3) := by decide +kernel
theorem dX11_readLine_54 : decode cX11_readLine 54 = .ok (.aload_n 0, 1) := by decide +kernel
theorem dX11_readLine_55 : decode cX11_readLine 55 = .ok (.invokevirtual 144, 3) := by decide +kernel
theorem dX11_readLine_58 : decode cX11_readLine 58 = .ok (.ireturn, 1) := by decide +kernel
theorem dX11_readLine_59 : decode cX11_readLine 59 = .ok (.aload_n 0, 1) := by decide +kernel
theorem dX11_readLine_60 : decode cX11_readLine 60 = .ok (.bipush 108, 2) := by decide +kernel
theorem dX11_readLine_62 : decode cX11_readLine 62 = .ok (.bipush 111, 2) := by decide +kernel
theorem dX11_readLine_64 : decode cX11_readLine 64 = .ok (.bipush 114, 2) := by decide +kernel
theorem dX11_readLine_66 : decode cX11_readLine 66 = .ok (.bipush 114, 2) := by decide +kernel
theorem dX11_readLine_68 : decode cX11_readLine 68 = .ok (.bipush 121, 2) := by decide +kernel
theorem dX11_readLine_70 : decode cX11_readLine 70 = .ok (.invokestatic 56, 3) := by decide +kernel
theorem dX11_readLine_73 : decode cX11_readLine 73 = .ok (.invokevirtual 120, 3) := by decide +kernel
theorem dX11_readLine_76 : decode cX11_readLine 76 = .ok (.ifCond .eq 10, 3) := by decide +kernel
theorem dX11_readLine_79 : decode cX11_readLine 79 = .ok (.aload_n 0, 1) := by decide +kernel
theorem dX11_readLine_80 : decode cX11_readLine 80 = .ok (.invokevirtual 147, 3) := by decide +kernel
theorem dX11_readLine_83 : decode cX11_readLine 83 = .ok (.goto 8, 3) := by decide +kernel
theorem dX11_readLine_86 : decode cX11_readLine 86 = .ok (.aload_n 0, 1) := by decide +kernel
theorem dX11_readLine_87 : decode cX11_readLine 87 = .ok (.iconst 1, 1) := by decide +kernel
theorem dX11_readLine_88 : decode cX11_readLine 88 = .ok (.invokevirtual 103, 3) := by decide +kernel
theorem dX11_readLine_91 : decode cX11_readLine 91 = .ok (.ireturn, 1) := by decide +kernel
theorem dX11_readLorry_0 : decode cX11_readLorry 0 = .ok (.aload_n 0, 1) := by decide +kernel
theorem dX11_readLorry_1 : decode cX11_readLorry 1 = .ok (.getfield 75, 3) := by decide +kernel
theorem dX11_readLorry_4 : decode cX11_readLorry 4 = .ok (.iconst 4, 1) := by decide +kernel
theorem dX11_readLorry_5 : decode cX11_readLorry 5 = .ok (.iaload, 1) := by decide +kernel
theorem dX11_readLorry_6 : decode cX11_readLorry 6 = .ok (.bipush 8, 2) := by decide +kernel
theorem dX11_readLorry_8 : decode cX11_readLorry 8 = .ok (.if_icmp .ne 9, 3) := by decide +kernel
theorem dX11_readLorry_11 : decode cX11_readLorry 11 = .ok (.aload_n 0, 1) := by decide +kernel
theorem dX11_readLorry_12 : decode cX11_readLorry 12 = .ok (.iconst 3, 1) := by decide +kernel
theorem dX11_readLorry_13 : decode cX11_readLorry 13 = .ok (.invokevirtual 103, 3) := by decide +kernel
theorem dX11_readLorry_16 : decode cX11_readLorry 16 = .ok (.ireturn, 1) := by decide +kernel
theorem dX11_readLorry_17 : decode cX11_readLorry 17 = .ok (.aload_n 0, 1) := by decide +kernel
theorem dX11_readLorry_18 : decode cX11_readLorry 18 = .ok (.invokevirtual 110, 3) := by decide +kernel
theorem dX11_readLorry_21 : decode cX11_readLorry 21 = .ok (.bipush 79, 2) := by decide +kernel
theorem dX11_readLorry_23 : decode cX11_readLorry 23 = .ok (.iconst 3, 1) := by decide +kernel
theorem dX11_readLorry_24 : decode cX11_readLorry 24 = .ok (.aload_n 0, 1) := by decide +kernel
theorem dX11_readLorry_25 : decode cX11_readLorry 25 = .ok (.getfield 75, 3) := by decide +kernel
theorem dX11_readLorry_28 : decode cX11_readLorry 28 = .ok (.iconst 4, 1) := by decide +kernel
theorem dX11_readLorry_29 : decode cX11_readLorry 29 = .ok (.iaload, 1) := by decide +kernel
theorem dX11_readLorry_30 : decode cX11_readLorry 30 = .ok (.imul, 1) := by decide +kernel
theorem dX11_readLorry_31 : decode cX11_readLorry 31 = .ok (.iadd, 1) := by decide +kernel
theorem dX11_readLorry_32 : decode cX11_readLorry 32 = .ok (.istore_n 1, 1) := by decide +kernel
theorem dX11_readLorry_33 : decode cX11_readLorry 33 = .ok (.aload_n 0, 1) := by decide +kernel
theorem dX11_readLorry_34 : decode cX11_readLorry 34 = .ok (.iconst 0, 1) := by decide +kernel
theorem dX11_readLorry_35 : decode cX11_readLorry 35 = .ok (.invokevirtual 127, 3) := by decide +kernel
theorem dX11_readLorry_38 : decode cX11_readLorry 38 = .ok (.ifCond .ne 5, 3) := by decide +kernel
theorem dX11_readLorry_41 : decode cX11_readLorry 41 = .ok (.iconst 0, 1) := by decide +kernel
theorem dX11_readLorry_42 : decode cX11_readLorry 42 = .ok (.ireturn, 1) := by decide +kernel
theorem dX11_readLorry_43 : decode cX11_readLorry 43 = .ok (.aload_n 0, 1) := by decide +kernel
theorem dX11_readLorry_44 : decode cX11_readLorry 44 = .ok (.getfield 75, 3) := by decide +kernel
theorem dX11_readLorry_47 : decode cX11_readLorry 47 = .ok (.iload_n 1, 1) := by decide +kernel
theorem dX11_readLorry_48 : decode cX11_readLorry 48 = .ok (.aload_n 0, 1) := by decide +kernel
theorem dX11_readLorry_49 : decode cX11_readLorry 49 = .ok (.getfield 117, 3) := by decide +kernel
theorem dX11_readLorry_52 : decode cX11_readLorry 52 = .ok (.iastore, 1) := by decide +kernel
theorem dX11_readLorry_53 : decode cX11_readLorry 53 = .ok (.aload_n 0, 1) := by decide +kernel
theorem dX11_readLorry_54 : decode cX11_readLorry 54 = .ok (.iload_n 1, 1) := by decide +kernel
theorem dX11_readLorry_55 : decode cX11_readLorry 55 = .ok (.iconst 1, 1) := by decide +kernel
theorem dX11_readLorry_56 : decode cX11_readLorry 56 = .ok (.iadd, 1) := by decide +kernel
theorem dX11_readLorry_57 : decode cX11_readLorry 57 = .ok (.iconst 1, 1) := by decide +kernel
theorem dX11_readLorry_58 : decode cX11_readLorry 58 = .ok (.bipush 6, 2) := by decide +kernel
theorem dX11_readLorry_60 : decode cX11_readLorry 60 = .ok (.invokevirtual 124, 3) := by decide +kernel
theorem dX11_readLorry_63 : decode cX11_readLorry 63 = .ok (.ifCond .ne 5, 3) := by decide +kernel
theorem dX11_readLorry_66 : decode cX11_readLorry 66 = .ok (.iconst 0, 1) := by decide +kernel
theorem dX11_readLorry_67 : decode cX11_readLorry 67 = .ok (.ireturn, 1) := by decide +kernel
theorem dX11_readLorry_68 : decode cX11_readLorry 68 = .ok (.aload_n 0, 1) := by decide +kernel
theorem dX11_readLorry_69 : decode cX11_readLorry 69 = .ok (.getfield 75, 3) := by decide +kernel
theorem dX11_readLorry_72 : decode cX11_readLorry 72 = .ok (.iconst 4, 1) := by decide +kernel
theorem dX11_readLorry_73 : decode cX11_readLorry 73 = .ok (.dup2, 1) := by decide +kernel
theorem dX11_readLorry_74 : decode cX11_readLorry 74 = .ok (.iaload, 1) := by decide +kernel
theorem dX11_readLorry_75 : decode cX11_readLorry 75 = .ok (.iconst 1, 1) := by decide +kernel
theorem dX11_readLorry_76 : decode cX11_readLorry 76 = .ok (.iadd, 1) := by decide +kernel
theorem dX11_readLorry_77 : decode cX11_readLorry 77 = .ok (.iastore, 1) := by decide +kernel
theorem dX11_readLorry_78 : decode cX11_readLorry 78 = .ok (.iconst 1, 1) := by decide +kernel
theorem dX11_readLorry_79 : decode cX11_readLorry 79 = .ok (.ireturn, 1) := by decide +kernel
theorem dX11_readType_0 : decode cX11_readType 0 = .ok (.aload_n 0, 1) := by decide +kernel
theorem dX11_readType_1 : decode cX11_readType 1 = .ok (.getfield 75, 3) := by decide +kernel
theorem dX11_readType_4 : decode cX11_readType 4 = .ok (.iconst 3, 1) := by decide +kernel
theorem dX11_readType_5 : decode cX11_readType 5 = .ok (.iaload, 1) := by decide +kernel
theorem dX11_readType_6 : decode cX11_readType 6 = .ok (.bipush 6, 2) := by decide +kernel
theorem dX11_readType_8 : decode cX11_readType 8 = .ok (.if_icmp .ne 9, 3) := by decide +kernel
theorem dX11_readType_11 : decode cX11_readType 11 = .ok (.aload_n 0, 1) := by decide +kernel
theorem dX11_readType_12 : decode cX11_readType 12 = .ok (.iconst 3, 1) := by decide +kernel
theorem dX11_readType_13 : decode cX11_readType 13 = .ok (.invokevirtual 103, 3) := by decide +kernel
theorem dX11_readType_16 : decode cX11_readType 16 = .ok (.ireturn, 1) := by decide +kernel
theorem dX11_readType_17 : decode cX11_readType 17 = .ok (.aload_n 0, 1) := by decide +kernel
theorem dX11_readType_18 : decode cX11_readType 18 = .ok (.invokevirtual 110, 3) := by decide +kernel
theorem dX11_readType_21 : decode cX11_readType 21 = .ok (.bipush 7, 2) := by decide +kernel
theorem dX11_readType_23 : decode cX11_readType 23 = .ok (.bipush 12, 2) := by decide +kernel
theorem dX11_readType_25 : decode cX11_readType 25 = .ok (.aload_n 0, 1) := by decide +kernel
theorem dX11_readType_26 : decode cX11_readType 26 = .ok (.getfield 75, 3) := by decide +kernel
theorem dX11_readType_29 : decode cX11_readType 29 = .ok (.iconst 3, 1) := by decide +kernel
theorem dX11_readType_30 : decode cX11_readType 30 = .ok (.iaload, 1) := by decide +kernel
theorem dX11_readType_31 : decode cX11_readType 31 = .ok (.imul, 1) := by decide +kernel
theorem dX11_readType_32 : decode cX11_readType 32 = .ok (.iadd, 1) := by decide +kernel
theorem dX11_readType_33 : decode cX11_readType 33 = .ok (.istore_n 1, 1) := by decide +kernel
theorem dX11_readType_34 : decode cX11_readType 34 = .ok (.aload_n 0, 1) := by decide +kernel
theorem dX11_readType_35 : decode cX11_readType 35 = .ok (.iload_n 1, 1) := by decide +kernel
theorem dX11_readType_36 : decode cX11_readType 36 = .ok (.invokevirtual 134, 3) := by decide +kernel
theorem dX11_readType_39 : decode cX11_readType 39 = .ok (.ifCond .eq 55, 3) := by decide +kernel
theorem dX11_readType_42 : decode cX11_readType 42 = .ok (.aload_n 0, 1) := by decide +kernel
theorem dX11_readType_43 : decode cX11_readType 43 = .ok (.iload_n 1, 1) := by decide +kernel
theorem dX11_readType_44 : decode cX11_readType 44 = .ok (.iconst 2, 1) := by decide +kernel
theorem dX11_readType_45 : decode cX11_readType 45 = .ok (.iadd, 1) := by decide +kernel
theorem dX11_readType_46 : decode cX11_readType 46 = .ok (.iconst 1, 1) := by decide +kernel
theorem dX11_readType_47 : decode cX11_readType 47 = .ok (.bipush 6, 2) := by decide +kernel
theorem dX11_readType_49 : decode cX11_readType 49 = .ok (.invokevirtual 124, 3) := by decide +kernel
theorem dX11_readType_52 : decode cX11_readType 52 = .ok (.ifCond .eq 42, 3) := by decide +kernel
theorem dX11_readType_55 : decode cX11_readType 55 = .ok (.aload_n 0, 1) := by decide +kernel
theorem dX11_readType_56 : decode cX11_readType 56 = .ok (.iload_n 1, 1) := by decide +kernel
theorem dX11_readType_57 : decode cX11_readType 57 = .ok (.iconst 3, 1) := by decide +kernel
theorem dX11_readType_58 : decode cX11_readType 58 = .ok (.iadd, 1) := by decide +kernel
theorem dX11_readType_59 : decode cX11_readType 59 = .ok (.iconst 0, 1) := by decide +kernel
theorem dX11_readType_60 : decode cX11_readType 60 = .ok (.bipush 99, 2) := by decide +kernel
theorem dX11_readType_62 : decode cX11_readType 62 = .ok (.invokevirtual 124, 3) := by decide +kernel
theorem dX11_readType_65 : decode cX11_readType 65 = .ok (.ifCond .eq 29, 3) := by decide +kernel
theorem dX11_readType_68 : decode cX11_readType 68 = .ok (.aload_n 0, 1) := by decide +kernel
theorem dX11_readType_69 : decode cX11_readType 69 = .ok (.iload_n 1, 1) := by decide +kernel
theorem dX11_readType_70 : decode cX11_readType 70 = .ok (.iconst 4, 1) := by decide +kernel
theorem dX11_readType_71 : decode cX11_readType 71 = .ok (.iadd, 1) := by decide +kernel
theorem dX11_readType_72 : decode cX11_readType 72 = .ok (.iconst 0, 1) := by decide +kernel
theorem dX11_readType_73 : decode cX11_readType 73 = .ok (.bipush 9, 2) := by decide +kernel
theorem dX11_readType_75 : decode cX11_readType 75 = .ok (.invokevirtual 124, 3) := by decide +kernel
theorem dX11_readType_78 : decode cX11_readType 78 = .ok (.ifCond .eq 16, 3) := by decide +kernel
theorem dX11_readType_81 : decode cX11_readType 81 = .ok (.aload_n 0, 1) := by decide +kernel
theorem dX11_readType_82 : decode cX11_readType 82 = .ok (.iload_n 1, 1) := by decide +kernel
theorem dX11_readType_83 : decode cX11_readType 83 = .ok (.iconst 5, 1) := by decide +kernel
theorem dX11_readType_84 : decode cX11_readType 84 = .ok (.iadd, 1) := by decide +kernel
theorem dX11_readType_85 : decode cX11_readType 85 = .ok (.iconst 0, 1) := by decide +kernel
theorem dX11_readType_86 : decode cX11_readType 86 = .ok (.bipush 99, 2) := by decide +kernel
theorem dX11_readType_88 : decode cX11_readType 88 = .ok (.invokevirtual 124, 3) := by decide +kernel
theorem dX11_readType_91 : decode cX11_readType 91 = .ok (.ifCond .ne 5, 3) := by decide +kernel
theorem dX11_readType_94 : decode cX11_readType 94 = .ok (.iconst 0, 1) := by decide +kernel
theorem dX11_readType_95 : decode cX11_readType 95 = .ok (.ireturn, 1) := by decide +kernel
theorem dX11_readType_96 : decode cX11_readType 96 = .ok (.aload_n 0, 1) := by decide +kernel
theorem dX11_readType_97 : decode cX11_readType 97 = .ok (.getfield 27, 3) := by decide +kernel
theorem dX11_readType_100 : decode cX11_readType 100 = .ok (.iconst 3, 1) := by decide +kernel
theorem dX11_readType_101 : decode cX11_readType 101 = .ok (.if_icmp .eq 9, 3) := by decide +kernel
theorem dX11_readType_104 : decode cX11_readType 104 = .ok (.aload_n 0, 1) := by decide +kernel
theorem dX11_readType_105 : decode cX11_readType 105 = .ok (.iconst 1, 1) := by decide +kernel
theorem dX11_readType_106 : decode cX11_readType 106 = .ok (.invokevirtual 103, 3) := by decide +kernel
theorem dX11_readType_109 : decode cX11_readType 109 = .ok (.ireturn, 1) := by decide +kernel
theorem dX11_readType_110 : decode cX11_readType 110 = .ok (.aload_n 0, 1) := by decide +kernel
theorem dX11_readType_111 : decode cX11_readType 111 = .ok (.getfield 27, 3) := by decide +kernel
theorem dX11_readType_114 : decode cX11_readType 114 = .ok (.iconst 3, 1) := by decide +kernel
theorem dX11_readType_115 : decode cX11_readType 115 = .ok (.if_icmp .ne 42, 3) := by decide +kernel
theorem dX11_readType_118 : decode cX11_readType 118 = .ok (.aload_n 0, 1) := by decide +kernel
theorem dX11_readType_119 : decode cX11_readType 119 = .ok (.aload_n 0, 1) := by decide +kernel
theorem dX11_readType_120 : decode cX11_readType 120 = .ok (.getfield 75, 3) := by decide +kernel
theorem dX11_readType_123 : decode cX11_readType 123 = .ok (.iload_n 1, 1) := by decide +kernel
theorem dX11_readType_124 : decode cX11_readType 124 = .ok (.bipush 6, 2) := by decide +kernel
theorem dX11_readType_126 : decode cX11_readType 126 = .ok (.iadd, 1) := by decide +kernel
theorem dX11_readType_127 : decode cX11_readType 127 = .ok (.iaload, 1) := by decide +kernel
theorem dX11_readType_128 : decode cX11_readType 128 = .ok (.invokevirtual 127, 3) := by decide +kernel
theorem dX11_readType_131 : decode cX11_readType 131 = .ok (.ifCond .ne 5, 3) := by decide +kernel
theorem dX11_readType_134 : decode cX11_readType 134 = .ok (.iconst 0, 1) := by decide +kernel
theorem dX11_readType_135 : decode cX11_readType 135 = .ok (.ireturn, 1) := by decide +kernel
theorem dX11_readType_136 : decode cX11_readType 136 = .ok (.aload_n 0, 1) := by decide +kernel
theorem dX11_readType_137 : decode cX11_readType 137 = .ok (.getfield 75, 3) := by decide +kernel
theorem dX11_readType_140 : decode cX11_readType 140 = .ok (.iload_n 1, 1) := by decide +kernel
theorem dX11_readType_141 : decode cX11_readType 141 = .ok (.bipush 6, 2) := by decide +kernel
theorem dX11_readType_143 : decode cX11_readType 143 = .ok (.iadd, 1) := by decide +kernel
theorem dX11_readType_144 : decode cX11_readType 144 = .ok (.dup2, 1) := by decide +kernel
theorem dX11_readType_145 : decode cX11_readType 145 = .ok (.iaload, 1) := by decide +kernel
theorem dX11_readType_146 : decode cX11_readType 146 = .ok (.iconst 1, 1) := by decide +kernel
theorem dX11_readType_147 : decode cX11_readType 147 = .ok (.aload_n 0, 1) := by decide +kernel
theorem dX11_readType_148 : decode cX11_readType 148 = .ok (.getfield 117, 3) := by decide +kernel
theorem dX11_readType_151 : decode cX11_readType 151 = .ok (.ishl, 1) := by decide +kernel
theorem dX11_readType_152 : decode cX11_readType 152 = .ok (.ior, 1) := by decide +kernel
theorem dX11_readType_153 : decode cX11_readType 153 = .ok (.iastore, 1) := by decide +kernel
theorem dX11_readType_154 : decode cX11_readType 154 = .ok (.goto (-44), 3) := by decide +kernel
theorem dX11_readType_157 : decode cX11_readType 157 = .ok (.aload_n 0, 1) := by decide +kernel
theorem dX11_readType_158 : decode cX11_readType 158 = .ok (.getfield 75, 3) := by decide +kernel
theorem dX11_readType_161 : decode cX11_readType 161 = .ok (.iconst 3, 1) := by decide +kernel
theorem dX11_readType_162 : decode cX11_readType 162 = .ok (.dup2, 1) := by decide +kernel
theorem dX11_readType_163 : decode cX11_readType 163 = .ok (.iaload, 1) := by decide +kernel
theorem dX11_readType_164 : decode cX11_readType 164 = .ok (.iconst 1, 1) := by decide +kernel
theorem dX11_readType_165 : decode cX11_readType 165 = .ok (.iadd, 1) := by decide +kernel
theorem dX11_readType_166 : decode cX11_readType 166 = .ok (.iastore, 1) := by decide +kernel
theorem dX11_readType_167 : decode cX11_readType 167 = .ok (.iconst 1, 1) := by decide +kernel
theorem dX11_readType_168 : decode cX11_readType 168 = .ok (.ireturn, 1) := by decide +kernel
theorem dX11_refuse_0 : decode cX11_refuse 0 = .ok (.aload_n 0, 1) := by decide +kernel
theorem dX11_refuse_1 : decode cX11_refuse 1 = .ok (.iconst 1, 1) := by decide +kernel
theorem dX11_refuse_2 : decode cX11_refuse 2 = .ok (.putfield 1, 3) := by decide +kernel
theorem dX11_refuse_5 : decode cX11_refuse 5 = .ok (.iconst 0, 1) := by decide +kernel
theorem dX11_refuse_6 : decode cX11_refuse 6 = .ok (.ireturn, 1) := by decide +kernel
theorem dX11_served_0 : decode cX11_served 0 = .ok (.aload_n 0, 1) := by decide +kernel
theorem dX11_served_1 : decode cX11_served 1 = .ok (.iconst 0, 1) := by decide +kernel
theorem dX11_served_2 : decode cX11_served 2 = .ok (.putfield 1, 3) := by decide +kernel
theorem dX11_served_5 : decode cX11_served 5 = .ok (.aload_n 0, 1) := by decide +kernel
theorem dX11_served_6 : decode cX11_served 6 = .ok (.iload_n 1, 1) := by decide +kernel
theorem dX11_served_7 : decode cX11_served 7 = .ok (.invokevirtual 189, 3) := by decide +kernel
theorem dX11_served_10 : decode cX11_served 10 = .ok (.ifCond .eq 23, 3) := by decide +kernel
theorem dX11_served_13 : decode cX11_served 13 = .ok (.iload_n 2, 1) := by decide +kernel
theorem dX11_served_14 : decode cX11_served 14 = .ok (.bipush (-99), 2) := by decide +kernel
theorem dX11_served_16 : decode cX11_served 16 = .ok (.bipush 99, 2) := by decide +kernel
theorem dX11_served_18 : decode cX11_served 18 = .ok (.invokestatic 106, 3) := by decide +kernel
theorem dX11_served_21 : decode cX11_served 21 = .ok (.ifCond .eq 12, 3) := by decide +kernel
theorem dX11_served_24 : decode cX11_served 24 = .ok (.aload_n 0, 1) := by decide +kernel
theorem dX11_served_25 : decode cX11_served 25 = .ok (.iload_n 1, 1) := by decide +kernel
theorem dX11_served_26 : decode cX11_served 26 = .ok (.iload_n 2, 1) := by decide +kernel
theorem dX11_served_27 : decode cX11_served 27 = .ok (.invokevirtual 247, 3) := by decide +kernel
theorem dX11_served_30 : decode cX11_served 30 = .ok (.goto 4, 3) := by decide +kernel
theorem dX11_served_33 : decode cX11_served 33 = .ok (.iconst (-1), 1) := by decide +kernel
theorem dX11_served_34 : decode cX11_served 34 = .ok (.ireturn, 1) := by decide +kernel
theorem dX11_servedWith_0 : decode cX11_servedWith 0 = .ok (.aload_n 0, 1) := by decide +kernel
theorem dX11_servedWith_1 : decode cX11_servedWith 1 = .ok (.invokevirtual 234, 3) := by decide +kernel
theorem dX11_servedWith_4 : decode cX11_servedWith 4 = .ok (.aload_n 0, 1) := by decide +kernel
theorem dX11_servedWith_5 : decode cX11_servedWith 5 = .ok (.getfield 81, 3) := by decide +kernel
theorem dX11_servedWith_8 : decode cX11_servedWith 8 = .ok (.iload_n 1, 1) := by decide +kernel
theorem dX11_servedWith_9 : decode cX11_servedWith 9 = .ok (.aload_n 0, 1) := by decide +kernel
theorem dX11_servedWith_10 : decode cX11_servedWith 10 = .ok (.getfield 81, 3) := by decide +kernel
theorem dX11_servedWith_13 : decode cX11_servedWith 13 = .ok (.iload_n 1, 1) := by decide +kernel
theorem dX11_servedWith_14 : decode cX11_servedWith 14 = .ok (.iaload, 1) := by decide +kernel
theorem dX11_servedWith_15 : decode cX11_servedWith 15 = .ok (.iload_n 2, 1) := by decide +kernel
theorem dX11_servedWith_16 : decode cX11_servedWith 16 = .ok (.iadd, 1) := by decide +kernel
theorem dX11_servedWith_17 : decode cX11_servedWith 17 = .ok (.ifCond .ge 7, 3) := by decide +kernel
theorem dX11_servedWith_20 : decode cX11_servedWith 20 = .ok (.iconst 0, 1) := by decide +kernel
theorem dX11_servedWith_21 : decode cX11_servedWith 21 = .ok (.goto 11, 3) := by decide +kernel
theorem dX11_servedWith_24 : decode cX11_servedWith 24 = .ok (.aload_n 0, 1) := by decide +kernel
theorem dX11_servedWith_25 : decode cX11_servedWith 25 = .ok (.getfield 81, 3) := by decide +kernel
theorem dX11_servedWith_28 : decode cX11_servedWith 28 = .ok (.iload_n 1, 1) := by decide +kernel
theorem dX11_servedWith_29 : decode cX11_servedWith 29 = .ok (.iaload, 1) := by decide +kernel
theorem dX11_servedWith_30 : decode cX11_servedWith 30 = .ok (.iload_n 2, 1) := by decide +kernel
theorem dX11_servedWith_31 : decode cX11_servedWith 31 = .ok (.iadd, 1) := by decide +kernel
theorem dX11_servedWith_32 : decode cX11_servedWith 32 = .ok (.iastore, 1) := by decide +kernel
theorem dX11_servedWith_33 : decode cX11_servedWith 33 = .ok (.aload_n 0, 1) := by decide +kernel
theorem dX11_servedWith_34 : decode cX11_servedWith 34 = .ok (.invokevirtual 237, 3) := by decide +kernel
theorem dX11_servedWith_37 : decode cX11_servedWith 37 = .ok (.aload_n 0, 1) := by decide +kernel
theorem dX11_servedWith_38 : decode cX11_servedWith 38 = .ok (.invokevirtual 231, 3) := by decide +kernel
theorem dX11_servedWith_41 : decode cX11_servedWith 41 = .ok (.aload_n 0, 1) := by decide +kernel
theorem dX11_servedWith_42 : decode cX11_servedWith 42 = .ok (.getfield 225, 3) := by decide +kernel
theorem dX11_servedWith_45 : decode cX11_servedWith 45 = .ok (.ireturn, 1) := by decide +kernel
theorem dX11_serves_0 : decode cX11_serves 0 = .ok (.iconst 0, 1) := by decide +kernel
theorem dX11_serves_1 : decode cX11_serves 1 = .ok (.istore_n 1, 1) := by decide +kernel
theorem dX11_serves_2 : decode cX11_serves 2 = .ok (.iload_n 1, 1) := by decide +kernel
theorem dX11_serves_3 : decode cX11_serves 3 = .ok (.bipush 6, 2) := by decide +kernel
theorem dX11_serves_5 : decode cX11_serves 5 = .ok (.if_icmp .ge 16, 3) := by decide +kernel
theorem dX11_serves_8 : decode cX11_serves 8 = .ok (.aload_n 0, 1) := by decide +kernel
theorem dX11_serves_9 : decode cX11_serves 9 = .ok (.getfield 84, 3) := by decide +kernel
theorem dX11_serves_12 : decode cX11_serves 12 = .ok (.iload_n 1, 1) := by decide +kernel
theorem dX11_serves_13 : decode cX11_serves 13 = .ok (.iconst 0, 1) := by decide +kernel
theorem dX11_serves_14 : decode cX11_serves 14 = .ok (.iastore, 1) := by decide +kernel
theorem dX11_serves_15 : decode cX11_serves 15 = .ok (.iinc 1 1, 3) := by decide +kernel
theorem dX11_serves_18 : decode cX11_serves 18 = .ok (.goto (-16), 3) := by decide +kernel
theorem dX11_serves_21 : decode cX11_serves 21 = .ok (.iconst 0, 1) := by decide +kernel
theorem dX11_serves_22 : decode cX11_serves 22 = .ok (.istore_n 1, 1) := by decide +kernel
theorem dX11_serves_23 : decode cX11_serves 23 = .ok (.iload_n 1, 1) := by decide +kernel
theorem dX11_serves_24 : decode cX11_serves 24 = .ok (.aload_n 0, 1) := by decide +kernel
theorem dX11_serves_25 : decode cX11_serves 25 = .ok (.getfield 72, 3) := by decide +kernel
theorem dX11_serves_28 : decode cX11_serves 28 = .ok (.iconst 5, 1) := by decide +kernel
theorem dX11_serves_29 : decode cX11_serves 29 = .ok (.iaload, 1) := by decide +kernel
theorem dX11_serves_30 : decode cX11_serves 30 = .ok (.if_icmp .ge 67, 3) := by decide +kernel
theorem dX11_serves_33 : decode cX11_serves 33 = .ok (.aload_n 0, 1) := by decide +kernel
theorem dX11_serves_34 : decode cX11_serves 34 = .ok (.iload_n 1, 1) := by decide +kernel
theorem dX11_serves_35 : decode cX11_serves 35 = .ok (.invokevirtual 216, 3) := by decide +kernel
theorem dX11_serves_38 : decode cX11_serves 38 = .ok (.ifCond .eq 10, 3) := by decide +kernel
theorem dX11_serves_41 : decode cX11_serves 41 = .ok (.aload_n 0, 1) := by decide +kernel
theorem dX11_serves_42 : decode cX11_serves 42 = .ok (.getfield 87, 3) := by decide +kernel
theorem dX11_serves_45 : decode cX11_serves 45 = .ok (.iload_n 1, 1) := by decide +kernel
theorem dX11_serves_46 : decode cX11_serves 46 = .ok (.iconst (-1), 1) := by decide +kernel
theorem dX11_serves_47 : decode cX11_serves 47 = .ok (.iastore, 1) := by decide +kernel
theorem dX11_serves_48 : decode cX11_serves 48 = .ok (.aload_n 0, 1) := by decide +kernel
theorem dX11_serves_49 : decode cX11_serves 49 = .ok (.iload_n 1, 1) := by decide +kernel
theorem dX11_serves_50 : decode cX11_serves 50 = .ok (.iconst 2, 1) := by decide +kernel
theorem dX11_serves_51 : decode cX11_serves 51 = .ok (.invokevirtual 160, 3) := by decide +kernel
theorem dX11_serves_54 : decode cX11_serves 54 = .ok (.ifCond .ne 37, 3) := by decide +kernel
theorem dX11_serves_57 : decode cX11_serves 57 = .ok (.aload_n 0, 1) := by decide +kernel
theorem dX11_serves_58 : decode cX11_serves 58 = .ok (.getfield 96, 3) := by decide +kernel
theorem dX11_serves_61 : decode cX11_serves 61 = .ok (.iload_n 1, 1) := by decide +kernel
theorem dX11_serves_62 : decode cX11_serves 62 = .ok (.baload, 1) := by decide +kernel
theorem dX11_serves_63 : decode cX11_serves 63 = .ok (.ifCond .eq 28, 3) := by decide +kernel
theorem dX11_serves_66 : decode cX11_serves 66 = .ok (.aload_n 0, 1) := by decide +kernel
theorem dX11_serves_67 : decode cX11_serves 67 = .ok (.getfield 87, 3) := by decide +kernel
theorem dX11_serves_70 : decode cX11_serves 70 = .ok (.iload_n 1, 1) := by decide +kernel
theorem dX11_serves_71 : decode cX11_serves 71 = .ok (.iaload, 1) := by decide +kernel
theorem dX11_serves_72 : decode cX11_serves 72 = .ok (.iconst (-1), 1) := by decide +kernel
theorem dX11_serves_73 : decode cX11_serves 73 = .ok (.if_icmp .eq 18, 3) := by decide +kernel
theorem dX11_serves_76 : decode cX11_serves 76 = .ok (.aload_n 0, 1) := by decide +kernel
theorem dX11_serves_77 : decode cX11_serves 77 = .ok (.getfield 84, 3) := by decide +kernel
theorem dX11_serves_80 : decode cX11_serves 80 = .ok (.aload_n 0, 1) := by decide +kernel
theorem dX11_serves_81 : decode cX11_serves 81 = .ok (.getfield 87, 3) := by decide +kernel
theorem dX11_serves_84 : decode cX11_serves 84 = .ok (.iload_n 1, 1) := by decide +kernel
theorem dX11_serves_85 : decode cX11_serves 85 = .ok (.iaload, 1) := by decide +kernel
theorem dX11_serves_86 : decode cX11_serves 86 = .ok (.dup2, 1) := by decide +kernel
theorem dX11_serves_87 : decode cX11_serves 87 = .ok (.iaload, 1) := by decide +kernel
theorem dX11_serves_88 : decode cX11_serves 88 = .ok (.iconst 1, 1) := by decide +kernel
theorem dX11_serves_89 : decode cX11_serves 89 = .ok (.iadd, 1) := by decide +kernel
theorem dX11_serves_90 : decode cX11_serves 90 = .ok (.iastore, 1) := by decide +kernel
theorem dX11_serves_91 : decode cX11_serves 91 = .ok (.iinc 1 1, 3) := by decide +kernel
theorem dX11_serves_94 : decode cX11_serves 94 = .ok (.goto (-71), 3) := by decide +kernel
theorem dX11_serves_97 : decode cX11_serves 97 = .ok (.aload_n 0, 1) := by decide +kernel
theorem dX11_serves_98 : decode cX11_serves 98 = .ok (.invokevirtual 222, 3) := by decide +kernel
theorem dX11_serves_101 : decode cX11_serves 101 = .ok (.istore_n 1, 1) := by decide +kernel
theorem dX11_serves_102 : decode cX11_serves 102 = .ok (.iload_n 1, 1) := by decide +kernel
theorem dX11_serves_103 : decode cX11_serves 103 = .ok (.iconst (-1), 1) := by decide +kernel
theorem dX11_serves_104 : decode cX11_serves 104 = .ok (.if_icmp .eq 56, 3) := by decide +kernel
theorem dX11_serves_107 : decode cX11_serves 107 = .ok (.aload_n 0, 1) := by decide +kernel
theorem dX11_serves_108 : decode cX11_serves 108 = .ok (.getfield 84, 3) := by decide +kernel
theorem dX11_serves_111 : decode cX11_serves 111 = .ok (.iload_n 1, 1) := by decide +kernel
theorem dX11_serves_112 : decode cX11_serves 112 = .ok (.dup2, 1) := by decide +kernel
theorem dX11_serves_113 : decode cX11_serves 113 = .ok (.iaload, 1) := by decide +kernel
theorem dX11_serves_114 : decode cX11_serves 114 = .ok (.iconst 1, 1) := by decide +kernel
theorem dX11_serves_115 : decode cX11_serves 115 = .ok (.iadd, 1) := by decide +kernel
theorem dX11_serves_116 : decode cX11_serves 116 = .ok (.iastore, 1) := by decide +kernel
theorem dX11_serves_117 : decode cX11_serves 117 = .ok (.iload_n 1, 1) := by decide +kernel
theorem dX11_serves_118 : decode cX11_serves 118 = .ok (.istore_n 2, 1) := by decide +kernel
theorem dX11_serves_119 : decode cX11_serves 119 = .ok (.iload_n 2, 1) := by decide +kernel
theorem dX11_serves_120 : decode cX11_serves 120 = .ok (.iconst (-1), 1) := by decide +kernel
theorem dX11_serves_121 : decode cX11_serves 121 = .ok (.if_icmp .eq 31, 3) := by decide +kernel
theorem dX11_serves_124 : decode cX11_serves 124 = .ok (.aload_n 0, 1) := by decide +kernel
theorem dX11_serves_125 : decode cX11_serves 125 = .ok (.getfield 90, 3) := by decide +kernel
theorem dX11_serves_128 : decode cX11_serves 128 = .ok (.iload_n 2, 1) := by decide +kernel
theorem dX11_serves_129 : decode cX11_serves 129 = .ok (.iaload, 1) := by decide +kernel
theorem dX11_serves_130 : decode cX11_serves 130 = .ok (.istore_n 3, 1) := by decide +kernel
theorem dX11_serves_131 : decode cX11_serves 131 = .ok (.aload_n 0, 1) := by decide +kernel
theorem dX11_serves_132 : decode cX11_serves 132 = .ok (.getfield 87, 3) := by decide +kernel
theorem dX11_serves_135 : decode cX11_serves 135 = .ok (.iload_n 3, 1) := by decide +kernel
theorem dX11_serves_136 : decode cX11_serves 136 = .ok (.iaload, 1) := by decide +kernel
theorem dX11_serves_137 : decode cX11_serves 137 = .ok (.istore 4, 2) := by decide +kernel
theorem dX11_serves_139 : decode cX11_serves 139 = .ok (.aload_n 0, 1) := by decide +kernel
theorem dX11_serves_140 : decode cX11_serves 140 = .ok (.getfield 87, 3) := by decide +kernel
theorem dX11_serves_143 : decode cX11_serves 143 = .ok (.iload_n 3, 1) := by decide +kernel
theorem dX11_serves_144 : decode cX11_serves 144 = .ok (.iload_n 2, 1) := by decide +kernel
theorem dX11_serves_145 : decode cX11_serves 145 = .ok (.iastore, 1) := by decide +kernel
theorem dX11_serves_146 : decode cX11_serves 146 = .ok (.iload 4, 2) := by decide +kernel
theorem dX11_serves_148 : decode cX11_serves 148 = .ok (.istore_n 2, 1) := by decide +kernel
theorem dX11_serves_149 : decode cX11_serves 149 = .ok (.goto (-30), 3) := by decide +kernel
theorem dX11_serves_152 : decode cX11_serves 152 = .ok (.aload_n 0, 1) := by decide +kernel
theorem dX11_serves_153 : decode cX11_serves 153 = .ok (.invokevirtual 222, 3) := by decide +kernel
theorem dX11_serves_156 : decode cX11_serves 156 = .ok (.istore_n 1, 1) := by decide +kernel
theorem dX11_serves_157 : decode cX11_serves 157 = .ok (.goto (-55), 3) := by decide +kernel
theorem dX11_serves_160 : decode cX11_serves 160 = .ok (.aload_n 0, 1) := by decide +kernel
theorem dX11_serves_161 : decode cX11_serves 161 = .ok (.iconst 0, 1) := by decide +kernel
theorem dX11_serves_162 : decode cX11_serves 162 = .ok (.putfield 225, 3) := by decide +kernel
theorem dX11_serves_165 : decode cX11_serves 165 = .ok (.aload_n 0, 1) := by decide +kernel
theorem dX11_serves_166 : decode cX11_serves 166 = .ok (.iconst 0, 1) := by decide +kernel
theorem dX11_serves_167 : decode cX11_serves 167 = .ok (.putfield 228, 3) := by decide +kernel
theorem dX11_serves_170 : decode cX11_serves 170 = .ok (.iconst 0, 1) := by decide +kernel
theorem dX11_serves_171 : decode cX11_serves 171 = .ok (.istore_n 1, 1) := by decide +kernel
theorem dX11_serves_172 : decode cX11_serves 172 = .ok (.iload_n 1, 1) := by decide +kernel
theorem dX11_serves_173 : decode cX11_serves 173 = .ok (.aload_n 0, 1) := by decide +kernel
theorem dX11_serves_174 : decode cX11_serves 174 = .ok (.getfield 72, 3) := by decide +kernel
theorem dX11_serves_177 : decode cX11_serves 177 = .ok (.iconst 5, 1) := by decide +kernel
theorem dX11_serves_178 : decode cX11_serves 178 = .ok (.iaload, 1) := by decide +kernel
theorem dX11_serves_179 : decode cX11_serves 179 = .ok (.if_icmp .ge 61, 3) := by decide +kernel
theorem dX11_serves_182 : decode cX11_serves 182 = .ok (.aload_n 0, 1) := by decide +kernel
theorem dX11_serves_183 : decode cX11_serves 183 = .ok (.iload_n 1, 1) := by decide +kernel
theorem dX11_serves_184 : decode cX11_serves 184 = .ok (.iconst 2, 1) := by decide +kernel
theorem dX11_serves_185 : decode cX11_serves 185 = .ok (.invokevirtual 160, 3) := by decide +kernel
theorem dX11_serves_188 : decode cX11_serves 188 = .ok (.ifCond .ne 46, 3) := by decide +kernel
theorem dX11_serves_191 : decode cX11_serves 191 = .ok (.aload_n 0, 1) := by decide +kernel
theorem dX11_serves_192 : decode cX11_serves 192 = .ok (.getfield 87, 3) := by decide +kernel
theorem dX11_serves_195 : decode cX11_serves 195 = .ok (.iload_n 1, 1) := by decide +kernel
theorem dX11_serves_196 : decode cX11_serves 196 = .ok (.iaload, 1) := by decide +kernel
theorem dX11_serves_197 : decode cX11_serves 197 = .ok (.iconst (-1), 1) := by decide +kernel
theorem dX11_serves_198 : decode cX11_serves 198 = .ok (.if_icmp .ne 6, 3) := by decide +kernel
theorem dX11_serves_201 : decode cX11_serves 201 = .ok (.goto 33, 3) := by decide +kernel
theorem dX11_serves_204 : decode cX11_serves 204 = .ok (.aload_n 0, 1) := by decide +kernel
theorem dX11_serves_205 : decode cX11_serves 205 = .ok (.dup, 1) := by decide +kernel
theorem dX11_serves_206 : decode cX11_serves 206 = .ok (.getfield 225, 3) := by decide +kernel
theorem dX11_serves_209 : decode cX11_serves 209 = .ok (.iconst 1, 1) := by decide +kernel
theorem dX11_serves_210 : decode cX11_serves 210 = .ok (.iadd, 1) := by decide +kernel
theorem dX11_serves_211 : decode cX11_serves 211 = .ok (.putfield 225, 3) := by decide +kernel
theorem dX11_serves_214 : decode cX11_serves 214 = .ok (.aload_n 0, 1) := by decide +kernel
theorem dX11_serves_215 : decode cX11_serves 215 = .ok (.dup, 1) := by decide +kernel
theorem dX11_serves_216 : decode cX11_serves 216 = .ok (.getfield 228, 3) := by decide +kernel
theorem dX11_serves_219 : decode cX11_serves 219 = .ok (.aload_n 0, 1) := by decide +kernel
theorem dX11_serves_220 : decode cX11_serves 220 = .ok (.aload_n 0, 1) := by decide +kernel
theorem dX11_serves_221 : decode cX11_serves 221 = .ok (.getfield 87, 3) := by decide +kernel
theorem dX11_serves_224 : decode cX11_serves 224 = .ok (.iload_n 1, 1) := by decide +kernel
theorem dX11_serves_225 : decode cX11_serves 225 = .ok (.iaload, 1) := by decide +kernel
theorem dX11_serves_226 : decode cX11_serves 226 = .ok (.iconst 3, 1) := by decide +kernel
theorem dX11_serves_227 : decode cX11_serves 227 = .ok (.invokevirtual 167, 3) := by decide +kernel
theorem dX11_serves_230 : decode cX11_serves 230 = .ok (.iadd, 1) := by decide +kernel
theorem dX11_serves_231 : decode cX11_serves 231 = .ok (.putfield 228, 3) := by decide +kernel
theorem dX11_serves_234 : decode cX11_serves 234 = .ok (.iinc 1 1, 3) := by decide +kernel
theorem dX11_serves_237 : decode cX11_serves 237 = .ok (.goto (-65), 3) := by decide +kernel
theorem dX11_serves_240 : decode cX11_serves 240 = .ok (.return_, 1) := by decide +kernel
theorem dX11_shortest_0 : decode cX11_shortest 0 = .ok (.aload_n 0, 1) := by decide +kernel
theorem dX11_shortest_1 : decode cX11_shortest 1 = .ok (.iconst 0, 1) := by decide +kernel
theorem dX11_shortest_2 : decode cX11_shortest 2 = .ok (.putfield 1, 3) := by decide +kernel
theorem dX11_shortest_5 : decode cX11_shortest 5 = .ok (.aload_n 0, 1) := by decide +kernel
theorem dX11_shortest_6 : decode cX11_shortest 6 = .ok (.iload_n 1, 1) := by decide +kernel
theorem dX11_shortest_7 : decode cX11_shortest 7 = .ok (.invokevirtual 195, 3) := by decide +kernel
theorem dX11_shortest_10 : decode cX11_shortest 10 = .ok (.ifCond .eq 21, 3) := by decide +kernel
theorem dX11_shortest_13 : decode cX11_shortest 13 = .ok (.aload_n 0, 1) := by decide +kernel
theorem dX11_shortest_14 : decode cX11_shortest 14 = .ok (.iload_n 2, 1) := by decide +kernel
theorem dX11_shortest_15 : decode cX11_shortest 15 = .ok (.invokevirtual 250, 3) := by decide +kernel
theorem dX11_shortest_18 : decode cX11_shortest 18 = .ok (.ifCond .eq 13, 3) := by decide +kernel
theorem dX11_shortest_21 : decode cX11_shortest 21 = .ok (.aload_n 0, 1) := by decide +kernel
theorem dX11_shortest_22 : decode cX11_shortest 22 = .ok (.iload_n 1, 1) := by decide +kernel
theorem dX11_shortest_23 : decode cX11_shortest 23 = .ok (.iconst 0, 1) := by decide +kernel
theorem dX11_shortest_24 : decode cX11_shortest 24 = .ok (.invokevirtual 176, 3) := by decide +kernel
theorem dX11_shortest_27 : decode cX11_shortest 27 = .ok (.iload_n 2, 1) := by decide +kernel
theorem dX11_shortest_28 : decode cX11_shortest 28 = .ok (.if_icmp .ne 5, 3) := by decide +kernel
theorem dX11_shortest_31 : decode cX11_shortest 31 = .ok (.iconst (-1), 1) := by decide +kernel
theorem dX11_shortest_32 : decode cX11_shortest 32 = .ok (.ireturn, 1) := by decide +kernel
theorem dX11_shortest_33 : decode cX11_shortest 33 = .ok (.bipush (-2), 2) := by decide +kernel
theorem dX11_shortest_35 : decode cX11_shortest 35 = .ok (.istore_n 3, 1) := by decide +kernel
theorem dX11_shortest_36 : decode cX11_shortest 36 = .ok (.iconst 0, 1) := by decide +kernel
theorem dX11_shortest_37 : decode cX11_shortest 37 = .ok (.istore 4, 2) := by decide +kernel
theorem dX11_shortest_39 : decode cX11_shortest 39 = .ok (.iload 4, 2) := by decide +kernel
theorem dX11_shortest_41 : decode cX11_shortest 41 = .ok (.aload_n 0, 1) := by decide +kernel
theorem dX11_shortest_42 : decode cX11_shortest 42 = .ok (.getfield 72, 3) := by decide +kernel
theorem dX11_shortest_45 : decode cX11_shortest 45 = .ok (.iconst 3, 1) := by decide +kernel
theorem dX11_shortest_46 : decode cX11_shortest 46 = .ok (.iaload, 1) := by decide +kernel
theorem dX11_shortest_47 : decode cX11_shortest 47 = .ok (.if_icmp .ge 149, 3) := by decide +kernel
theorem dX11_shortest_50 : decode cX11_shortest 50 = .ok (.aload_n 0, 1) := by decide +kernel
theorem dX11_shortest_51 : decode cX11_shortest 51 = .ok (.iload 4, 2) := by decide +kernel
theorem dX11_shortest_53 : decode cX11_shortest 53 = .ok (.iconst 2, 1) := by decide +kernel
theorem dX11_shortest_54 : decode cX11_shortest 54 = .ok (.invokevirtual 167, 3) := by decide +kernel
theorem dX11_shortest_57 : decode cX11_shortest 57 = .ok (.aload_n 0, 1) := by decide +kernel
theorem dX11_shortest_58 : decode cX11_shortest 58 = .ok (.iload_n 1, 1) := by decide +kernel
theorem dX11_shortest_59 : decode cX11_shortest 59 = .ok (.iconst 1, 1) := by decide +kernel
theorem dX11_shortest_60 : decode cX11_shortest 60 = .ok (.invokevirtual 176, 3) := by decide +kernel
theorem dX11_shortest_63 : decode cX11_shortest 63 = .ok (.if_icmp .le 6, 3) := by decide +kernel
theorem dX11_shortest_66 : decode cX11_shortest 66 = .ok (.goto 124, 3) := by decide +kernel
theorem dX11_shortest_69 : decode cX11_shortest 69 = .ok (.iconst 1, 1) := by decide +kernel
theorem dX11_shortest_70 : decode cX11_shortest 70 = .ok (.aload_n 0, 1) := by decide +kernel
theorem dX11_shortest_71 : decode cX11_shortest 71 = .ok (.iload_n 1, 1) := by decide +kernel
theorem dX11_shortest_72 : decode cX11_shortest 72 = .ok (.iconst 0, 1) := by decide +kernel
theorem dX11_shortest_73 : decode cX11_shortest 73 = .ok (.invokevirtual 176, 3) := by decide +kernel
theorem dX11_shortest_76 : decode cX11_shortest 76 = .ok (.ishl, 1) := by decide +kernel
theorem dX11_shortest_77 : decode cX11_shortest 77 = .ok (.istore 5, 2) := by decide +kernel
theorem dX11_shortest_79 : decode cX11_shortest 79 = .ok (.iconst 2, 1) := by decide +kernel
theorem dX11_shortest_80 : decode cX11_shortest 80 = .ok (.istore 6, 2) := by decide +kernel
theorem dX11_shortest_82 : decode cX11_shortest 82 = .ok (.iload 6, 2) := by decide +kernel
theorem dX11_shortest_84 : decode cX11_shortest 84 = .ok (.bipush 8, 2) := by decide +kernel
theorem dX11_shortest_86 : decode cX11_shortest 86 = .ok (.if_icmp .gt 104, 3) := by decide +kernel
theorem dX11_shortest_89 : decode cX11_shortest 89 = .ok (.iload 5, 2) := by decide +kernel
theorem dX11_shortest_91 : decode cX11_shortest 91 = .ok (.iload_n 2, 1) := by decide +kernel
theorem dX11_shortest_92 : decode cX11_shortest 92 = .ok (.invokestatic 113, 3) := by decide +kernel
theorem dX11_shortest_95 : decode cX11_shortest 95 = .ok (.ifCond .ne 95, 3) := by decide +kernel
theorem dX11_shortest_98 : decode cX11_shortest 98 = .ok (.iload 5, 2) := by decide +kernel
theorem dX11_shortest_100 : decode cX11_shortest 100 = .ok (.istore 7, 2) := by decide +kernel
theorem dX11_shortest_102 : decode cX11_shortest 102 = .ok (.iconst 0, 1) := by decide +kernel
theorem dX11_shortest_103 : decode cX11_shortest 103 = .ok (.istore 8, 2) := by decide +kernel
theorem dX11_shortest_105 : decode cX11_shortest 105 = .ok (.iload 8, 2) := by decide +kernel
theorem dX11_shortest_107 : decode cX11_shortest 107 = .ok (.aload_n 0, 1) := by decide +kernel
theorem dX11_shortest_108 : decode cX11_shortest 108 = .ok (.getfield 72, 3) := by decide +kernel
theorem dX11_shortest_111 : decode cX11_shortest 111 = .ok (.iconst 0, 1) := by decide +kernel
theorem dX11_shortest_112 : decode cX11_shortest 112 = .ok (.iaload, 1) := by decide +kernel
theorem dX11_shortest_113 : decode cX11_shortest 113 = .ok (.if_icmp .ge 43, 3) := by decide +kernel
theorem dX11_shortest_116 : decode cX11_shortest 116 = .ok (.iload 5, 2) := by decide +kernel
theorem dX11_shortest_118 : decode cX11_shortest 118 = .ok (.iload 8, 2) := by decide +kernel
theorem dX11_shortest_120 : decode cX11_shortest 120 = .ok (.invokestatic 113, 3) := by decide +kernel
theorem dX11_shortest_123 : decode cX11_shortest 123 = .ok (.ifCond .eq 27, 3) := by decide +kernel
theorem dX11_shortest_126 : decode cX11_shortest 126 = .ok (.iload 7, 2) := by decide +kernel
theorem dX11_shortest_128 : decode cX11_shortest 128 = .ok (.aload_n 0, 1) := by decide +kernel
theorem dX11_shortest_129 : decode cX11_shortest 129 = .ok (.getfield 72, 3) := by decide +kernel
theorem dX11_shortest_132 : decode cX11_shortest 132 = .ok (.bipush 103, 2) := by decide +kernel
theorem dX11_shortest_134 : decode cX11_shortest 134 = .ok (.iload 8, 2) := by decide +kernel
theorem dX11_shortest_136 : decode cX11_shortest 136 = .ok (.iadd, 1) := by decide +kernel
theorem dX11_shortest_137 : decode cX11_shortest 137 = .ok (.iaload, 1) := by decide +kernel
theorem dX11_shortest_138 : decode cX11_shortest 138 = .ok (.aload_n 0, 1) := by decide +kernel
theorem dX11_shortest_139 : decode cX11_shortest 139 = .ok (.iload 4, 2) := by decide +kernel
theorem dX11_shortest_141 : decode cX11_shortest 141 = .ok (.bipush 6, 2) := by decide +kernel
theorem dX11_shortest_143 : decode cX11_shortest 143 = .ok (.invokevirtual 167, 3) := by decide +kernel
theorem dX11_shortest_146 : decode cX11_shortest 146 = .ok (.iand, 1) := by decide +kernel
theorem dX11_shortest_147 : decode cX11_shortest 147 = .ok (.ior, 1) := by decide +kernel
theorem dX11_shortest_148 : decode cX11_shortest 148 = .ok (.istore 7, 2) := by decide +kernel
theorem dX11_shortest_150 : decode cX11_shortest 150 = .ok (.iinc 8 1, 3) := by decide +kernel
theorem dX11_shortest_153 : decode cX11_shortest 153 = .ok (.goto (-48), 3) := by decide +kernel
theorem dX11_shortest_156 : decode cX11_shortest 156 = .ok (.iload 7, 2) := by decide +kernel
theorem dX11_shortest_158 : decode cX11_shortest 158 = .ok (.istore 5, 2) := by decide +kernel
theorem dX11_shortest_160 : decode cX11_shortest 160 = .ok (.iload 5, 2) := by decide +kernel
theorem dX11_shortest_162 : decode cX11_shortest 162 = .ok (.iload_n 2, 1) := by decide +kernel
theorem dX11_shortest_163 : decode cX11_shortest 163 = .ok (.invokestatic 113, 3) := by decide +kernel
theorem dX11_shortest_166 : decode cX11_shortest 166 = .ok (.ifCond .eq 18, 3) := by decide +kernel
theorem dX11_shortest_169 : decode cX11_shortest 169 = .ok (.iload_n 3, 1) := by decide +kernel
theorem dX11_shortest_170 : decode cX11_shortest 170 = .ok (.bipush (-2), 2) := by decide +kernel
theorem dX11_shortest_172 : decode cX11_shortest 172 = .ok (.if_icmp .eq 9, 3) := by decide +kernel
theorem dX11_shortest_175 : decode cX11_shortest 175 = .ok (.iload 6, 2) := by decide +kernel
theorem dX11_shortest_177 : decode cX11_shortest 177 = .ok (.iload_n 3, 1) := by decide +kernel
theorem dX11_shortest_178 : decode cX11_shortest 178 = .ok (.if_icmp .ge 6, 3) := by decide +kernel
theorem dX11_shortest_181 : decode cX11_shortest 181 = .ok (.iload 6, 2) := by decide +kernel
theorem dX11_shortest_183 : decode cX11_shortest 183 = .ok (.istore_n 3, 1) := by decide +kernel
theorem dX11_shortest_184 : decode cX11_shortest 184 = .ok (.iinc 6 1, 3) := by decide +kernel
theorem dX11_shortest_187 : decode cX11_shortest 187 = .ok (.goto (-105), 3) := by decide +kernel
theorem dX11_shortest_190 : decode cX11_shortest 190 = .ok (.iinc 4 1, 3) := by decide +kernel
theorem dX11_shortest_193 : decode cX11_shortest 193 = .ok (.goto (-154), 3) := by decide +kernel
theorem dX11_shortest_196 : decode cX11_shortest 196 = .ok (.iload_n 3, 1) := by decide +kernel
theorem dX11_shortest_197 : decode cX11_shortest 197 = .ok (.ireturn, 1) := by decide +kernel
theorem dX11_six_0 : decode cX11_six 0 = .ok (.ldc2_w 48, 3) := by decide +kernel
theorem dX11_six_3 : decode cX11_six 3 = .ok (.iload_n 0, 1) := by decide +kernel
theorem dX11_six_4 : decode cX11_six 4 = .ok (.iload_n 1, 1) := by decide +kernel
theorem dX11_six_5 : decode cX11_six 5 = .ok (.iload_n 2, 1) := by decide +kernel
theorem dX11_six_6 : decode cX11_six 6 = .ok (.iload_n 3, 1) := by decide +kernel
theorem dX11_six_7 : decode cX11_six 7 = .ok (.iload 4, 2) := by decide +kernel
theorem dX11_six_9 : decode cX11_six 9 = .ok (.invokestatic 56, 3) := by decide +kernel
theorem dX11_six_12 : decode cX11_six 12 = .ok (.lmul, 1) := by decide +kernel
theorem dX11_six_13 : decode cX11_six 13 = .ok (.iload 5, 2) := by decide +kernel
theorem dX11_six_15 : decode cX11_six 15 = .ok (.i2l, 1) := by decide +kernel
theorem dX11_six_16 : decode cX11_six 16 = .ok (.ladd, 1) := by decide +kernel
theorem dX11_six_17 : decode cX11_six 17 = .ok (.ldc2_w 50, 3) := by decide +kernel
theorem dX11_six_20 : decode cX11_six 20 = .ok (.lsub, 1) := by decide +kernel
theorem dX11_six_21 : decode cX11_six 21 = .ok (.lreturn, 1) := by decide +kernel
theorem dX11_snap_0 : decode cX11_snap 0 = .ok (.aload_n 0, 1) := by decide +kernel
theorem dX11_snap_1 : decode cX11_snap 1 = .ok (.getfield 157, 3) := by decide +kernel
theorem dX11_snap_4 : decode cX11_snap 4 = .ok (.bipush 10, 2) := by decide +kernel
theorem dX11_snap_6 : decode cX11_snap 6 = .ok (.if_icmp .ne 44, 3) := by decide +kernel
theorem dX11_snap_9 : decode cX11_snap 9 = .ok (.iconst 0, 1) := by decide +kernel
theorem dX11_snap_10 : decode cX11_snap 10 = .ok (.istore_n 1, 1) := by decide +kernel
theorem dX11_snap_11 : decode cX11_snap 11 = .ok (.iload_n 1, 1) := by decide +kernel
theorem dX11_snap_12 : decode cX11_snap 12 = .ok (.sipush 5679, 3) := by decide +kernel
theorem dX11_snap_15 : decode cX11_snap 15 = .ok (.if_icmp .ge 25, 3) := by decide +kernel
theorem dX11_snap_18 : decode cX11_snap 18 = .ok (.aload_n 0, 1) := by decide +kernel
theorem dX11_snap_19 : decode cX11_snap 19 = .ok (.getfield 78, 3) := by decide +kernel
theorem dX11_snap_22 : decode cX11_snap 22 = .ok (.iload_n 1, 1) := by decide +kernel
theorem dX11_snap_23 : decode cX11_snap 23 = .ok (.aload_n 0, 1) := by decide +kernel
theorem dX11_snap_24 : decode cX11_snap 24 = .ok (.getfield 78, 3) := by decide +kernel
theorem dX11_snap_27 : decode cX11_snap 27 = .ok (.iload_n 1, 1) := by decide +kernel
theorem dX11_snap_28 : decode cX11_snap 28 = .ok (.sipush 631, 3) := by decide +kernel
theorem dX11_snap_31 : decode cX11_snap 31 = .ok (.iadd, 1) := by decide +kernel
theorem dX11_snap_32 : decode cX11_snap 32 = .ok (.iaload, 1) := by decide +kernel
theorem dX11_snap_33 : decode cX11_snap 33 = .ok (.iastore, 1) := by decide +kernel
theorem dX11_snap_34 : decode cX11_snap 34 = .ok (.iinc 1 1, 3) := by decide +kernel
theorem dX11_snap_37 : decode cX11_snap 37 = .ok (.goto (-26), 3) := by decide +kernel
theorem dX11_snap_40 : decode cX11_snap 40 = .ok (.aload_n 0, 1) := by decide +kernel
theorem dX11_snap_41 : decode cX11_snap 41 = .ok (.dup, 1) := by decide +kernel
theorem dX11_snap_42 : decode cX11_snap 42 = .ok (.getfield 157, 3) := by decide +kernel
theorem dX11_snap_45 : decode cX11_snap 45 = .ok (.iconst 1, 1) := by decide +kernel
theorem dX11_snap_46 : decode cX11_snap 46 = .ok (.isub, 1) := by decide +kernel
theorem dX11_snap_47 : decode cX11_snap 47 = .ok (.putfield 157, 3) := by decide +kernel
theorem dX11_snap_50 : decode cX11_snap 50 = .ok (.iconst 0, 1) := by decide +kernel
theorem dX11_snap_51 : decode cX11_snap 51 = .ok (.istore_n 1, 1) := by decide +kernel
theorem dX11_snap_52 : decode cX11_snap 52 = .ok (.iload_n 1, 1) := by decide +kernel
theorem dX11_snap_53 : decode cX11_snap 53 = .ok (.sipush 631, 3) := by decide +kernel
theorem dX11_snap_56 : decode cX11_snap 56 = .ok (.if_icmp .ge 30, 3) := by decide +kernel
theorem dX11_snap_59 : decode cX11_snap 59 = .ok (.aload_n 0, 1) := by decide +kernel
theorem dX11_snap_60 : decode cX11_snap 60 = .ok (.getfield 78, 3) := by decide +kernel
theorem dX11_snap_63 : decode cX11_snap 63 = .ok (.sipush 631, 3) := by decide +kernel
theorem dX11_snap_66 : decode cX11_snap 66 = .ok (.aload_n 0, 1) := by decide +kernel
theorem dX11_snap_67 : decode cX11_snap 67 = .ok (.getfield 157, 3) := by decide +kernel
theorem dX11_snap_70 : decode cX11_snap 70 = .ok (.imul, 1) := by decide +kernel
theorem dX11_snap_71 : decode cX11_snap 71 = .ok (.iload_n 1, 1) := by decide +kernel
theorem dX11_snap_72 : decode cX11_snap 72 = .ok (.iadd, 1) := by decide +kernel
theorem dX11_snap_73 : decode cX11_snap 73 = .ok (.aload_n 0, 1) := by decide +kernel
theorem dX11_snap_74 : decode cX11_snap 74 = .ok (.getfield 72, 3) := by decide +kernel
theorem dX11_snap_77 : decode cX11_snap 77 = .ok (.iload_n 1, 1) := by decide +kernel
theorem dX11_snap_78 : decode cX11_snap 78 = .ok (.iaload, 1) := by decide +kernel
theorem dX11_snap_79 : decode cX11_snap 79 = .ok (.iastore, 1) := by decide +kernel
theorem dX11_snap_80 : decode cX11_snap 80 = .ok (.iinc 1 1, 3) := by decide +kernel
theorem dX11_snap_83 : decode cX11_snap 83 = .ok (.goto (-31), 3) := by decide +kernel
theorem dX11_snap_86 : decode cX11_snap 86 = .ok (.aload_n 0, 1) := by decide +kernel
theorem dX11_snap_87 : decode cX11_snap 87 = .ok (.dup, 1) := by decide +kernel
theorem dX11_snap_88 : decode cX11_snap 88 = .ok (.getfield 157, 3) := by decide +kernel
theorem dX11_snap_91 : decode cX11_snap 91 = .ok (.iconst 1, 1) := by decide +kernel
theorem dX11_snap_92 : decode cX11_snap 92 = .ok (.iadd, 1) := by decide +kernel
theorem dX11_snap_93 : decode cX11_snap 93 = .ok (.putfield 157, 3) := by decide +kernel
theorem dX11_snap_96 : decode cX11_snap 96 = .ok (.return_, 1) := by decide +kernel
theorem dX11_stop_0 : decode cX11_stop 0 = .ok (.aload_n 0, 1) := by decide +kernel
theorem dX11_stop_1 : decode cX11_stop 1 = .ok (.iconst 0, 1) := by decide +kernel
theorem dX11_stop_2 : decode cX11_stop 2 = .ok (.putfield 1, 3) := by decide +kernel
theorem dX11_stop_5 : decode cX11_stop 5 = .ok (.aload_n 0, 1) := by decide +kernel
theorem dX11_stop_6 : decode cX11_stop 6 = .ok (.iload_n 1, 1) := by decide +kernel
theorem dX11_stop_7 : decode cX11_stop 7 = .ok (.invokevirtual 195, 3) := by decide +kernel
theorem dX11_stop_10 : decode cX11_stop 10 = .ok (.ifCond .eq 11, 3) := by decide +kernel
theorem dX11_stop_13 : decode cX11_stop 13 = .ok (.aload_n 0, 1) := by decide +kernel
theorem dX11_stop_14 : decode cX11_stop 14 = .ok (.iload_n 2, 1) := by decide +kernel
theorem dX11_stop_15 : decode cX11_stop 15 = .ok (.invokevirtual 250, 3) := by decide +kernel
theorem dX11_stop_18 : decode cX11_stop 18 = .ok (.ifCond .ne 5, 3) := by decide +kernel
theorem dX11_stop_21 : decode cX11_stop 21 = .ok (.iconst (-1), 1) := by decide +kernel
theorem dX11_stop_22 : decode cX11_stop 22 = .ok (.ireturn, 1) := by decide +kernel
theorem dX11_stop_23 : decode cX11_stop 23 = .ok (.aload_n 0, 1) := by decide +kernel
theorem dX11_stop_24 : decode cX11_stop 24 = .ok (.invokevirtual 259, 3) := by decide +kernel
theorem dX11_stop_27 : decode cX11_stop 27 = .ok (.aload_n 0, 1) := by decide +kernel
theorem dX11_stop_28 : decode cX11_stop 28 = .ok (.iload_n 1, 1) := by decide +kernel
theorem dX11_stop_29 : decode cX11_stop 29 = .ok (.iload_n 2, 1) := by decide +kernel
theorem dX11_stop_30 : decode cX11_stop 30 = .ok (.invokevirtual 253, 3) := by decide +kernel
theorem dX11_stop_33 : decode cX11_stop 33 = .ok (.istore_n 3, 1) := by decide +kernel
theorem dX11_stop_34 : decode cX11_stop 34 = .ok (.iload_n 3, 1) := by decide +kernel
theorem dX11_stop_35 : decode cX11_stop 35 = .ok (.ifCond .le 20, 3) := by decide +kernel
theorem dX11_stop_38 : decode cX11_stop 38 = .ok (.aload_n 0, 1) := by decide +kernel
theorem dX11_stop_39 : decode cX11_stop 39 = .ok (.getfield 72, 3) := by decide +kernel
theorem dX11_stop_42 : decode cX11_stop 42 = .ok (.bipush 79, 2) := by decide +kernel
theorem dX11_stop_44 : decode cX11_stop 44 = .ok (.iconst 3, 1) := by decide +kernel
theorem dX11_stop_45 : decode cX11_stop 45 = .ok (.iload_n 1, 1) := by decide +kernel
theorem dX11_stop_46 : decode cX11_stop 46 = .ok (.imul, 1) := by decide +kernel
theorem dX11_stop_47 : decode cX11_stop 47 = .ok (.iadd, 1) := by decide +kernel
theorem dX11_stop_48 : decode cX11_stop 48 = .ok (.iconst 2, 1) := by decide +kernel
theorem dX11_stop_49 : decode cX11_stop 49 = .ok (.iadd, 1) := by decide +kernel
theorem dX11_stop_50 : decode cX11_stop 50 = .ok (.dup2, 1) := by decide +kernel
theorem dX11_stop_51 : decode cX11_stop 51 = .ok (.iaload, 1) := by decide +kernel
theorem dX11_stop_52 : decode cX11_stop 52 = .ok (.iconst 1, 1) := by decide +kernel
theorem dX11_stop_53 : decode cX11_stop 53 = .ok (.iadd, 1) := by decide +kernel
theorem dX11_stop_54 : decode cX11_stop 54 = .ok (.iastore, 1) := by decide +kernel
theorem dX11_stop_55 : decode cX11_stop 55 = .ok (.iload_n 3, 1) := by decide +kernel
theorem dX11_stop_56 : decode cX11_stop 56 = .ok (.ireturn, 1) := by decide +kernel
theorem dX11_tapeAt_0 : decode cX11_tapeAt 0 = .ok (.iload_n 1, 1) := by decide +kernel
theorem dX11_tapeAt_1 : decode cX11_tapeAt 1 = .ok (.aload_n 0, 1) := by decide +kernel
theorem dX11_tapeAt_2 : decode cX11_tapeAt 2 = .ok (.getfield 18, 3) := by decide +kernel
theorem dX11_tapeAt_5 : decode cX11_tapeAt 5 = .ok (.if_icmp .ge 12, 3) := by decide +kernel
theorem dX11_tapeAt_8 : decode cX11_tapeAt 8 = .ok (.aload_n 0, 1) := by decide +kernel
theorem dX11_tapeAt_9 : decode cX11_tapeAt 9 = .ok (.getfield 7, 3) := by decide +kernel
theorem dX11_tapeAt_12 : decode cX11_tapeAt 12 = .ok (.iload_n 1, 1) := by decide +kernel
theorem dX11_tapeAt_13 : decode cX11_tapeAt 13 = .ok (.iaload, 1) := by decide +kernel
theorem dX11_tapeAt_14 : decode cX11_tapeAt 14 = .ok (.goto 4, 3) := by decide +kernel
theorem dX11_tapeAt_17 : decode cX11_tapeAt 17 = .ok (.iconst 0, 1) := by decide +kernel
theorem dX11_tapeAt_18 : decode cX11_tapeAt 18 = .ok (.ireturn, 1) := by decide +kernel
theorem dX11_text_0 : decode cX11_text 0 = .ok (.aload_n 0, 1) := by decide +kernel
theorem dX11_text_1 : decode cX11_text 1 = .ok (.iconst 0, 1) := by decide +kernel
theorem dX11_text_2 : decode cX11_text 2 = .ok (.putfield 1, 3) := by decide +kernel
theorem dX11_text_5 : decode cX11_text 5 = .ok (.aload_n 0, 1) := by decide +kernel
theorem dX11_text_6 : decode cX11_text 6 = .ok (.aload_n 0, 1) := by decide +kernel
theorem dX11_text_7 : decode cX11_text 7 = .ok (.getfield 11, 3) := by decide +kernel
theorem dX11_text_10 : decode cX11_text 10 = .ok (.putfield 18, 3) := by decide +kernel
theorem dX11_text_13 : decode cX11_text 13 = .ok (.aload_n 0, 1) := by decide +kernel
theorem dX11_text_14 : decode cX11_text 14 = .ok (.iconst 0, 1) := by decide +kernel
theorem dX11_text_15 : decode cX11_text 15 = .ok (.putfield 11, 3) := by decide +kernel
theorem dX11_text_18 : decode cX11_text 18 = .ok (.aload_n 0, 1) := by decide +kernel
theorem dX11_text_19 : decode cX11_text 19 = .ok (.iconst 0, 1) := by decide +kernel
theorem dX11_text_20 : decode cX11_text 20 = .ok (.putfield 60, 3) := by decide +kernel
theorem dX11_text_23 : decode cX11_text 23 = .ok (.aload_n 0, 1) := by decide +kernel
theorem dX11_text_24 : decode cX11_text 24 = .ok (.iconst 0, 1) := by decide +kernel
theorem dX11_text_25 : decode cX11_text 25 = .ok (.putfield 21, 3) := by decide +kernel
theorem dX11_text_28 : decode cX11_text 28 = .ok (.iconst 0, 1) := by decide +kernel
theorem dX11_text_29 : decode cX11_text 29 = .ok (.istore_n 1, 1) := by decide +kernel
theorem dX11_text_30 : decode cX11_text 30 = .ok (.iconst 0, 1) := by decide +kernel
theorem dX11_text_31 : decode cX11_text 31 = .ok (.istore_n 2, 1) := by decide +kernel
theorem dX11_text_32 : decode cX11_text 32 = .ok (.iload_n 2, 1) := by decide +kernel
theorem dX11_text_33 : decode cX11_text 33 = .ok (.sipush 631, 3) := by decide +kernel
theorem dX11_text_36 : decode cX11_text 36 = .ok (.if_icmp .ge 16, 3) := by decide +kernel
theorem dX11_text_39 : decode cX11_text 39 = .ok (.aload_n 0, 1) := by decide +kernel
theorem dX11_text_40 : decode cX11_text 40 = .ok (.getfield 75, 3) := by decide +kernel
theorem dX11_text_43 : decode cX11_text 43 = .ok (.iload_n 2, 1) := by decide +kernel
theorem dX11_text_44 : decode cX11_text 44 = .ok (.iconst 0, 1) := by decide +kernel
theorem dX11_text_45 : decode cX11_text 45 = .ok (.iastore, 1) := by decide +kernel
theorem dX11_text_46 : decode cX11_text 46 = .ok (.iinc 2 1, 3) := by decide +kernel
theorem dX11_text_49 : decode cX11_text 49 = .ok (.goto (-17), 3) := by decide +kernel
theorem dX11_text_52 : decode cX11_text 52 = .ok (.aload_n 0, 1) := by decide +kernel
theorem dX11_text_53 : decode cX11_text 53 = .ok (.getfield 75, 3) := by decide +kernel
theorem dX11_text_56 : decode cX11_text 56 = .ok (.iconst 1, 1) := by decide +kernel
theorem dX11_text_57 : decode cX11_text 57 = .ok (.iconst 1, 1) := by decide +kernel
theorem dX11_text_58 : decode cX11_text 58 = .ok (.iastore, 1) := by decide +kernel
theorem dX11_text_59 : decode cX11_text 59 = .ok (.aload_n 0, 1) := by decide +kernel
end
section
theorem dX11_text_60 : decode cX11_text 60 = .ok (.invokevirtual 110, 3) := by decide +kernel
theorem dX11_text_63 : decode cX11_text 63 = .ok (.aload_n 0, 1) := by decide +kernel
theorem dX11_text_64 : decode cX11_text 64 = .ok (.getfield 27, 3) := by decide +kernel
theorem dX11_text_67 : decode cX11_text 67 = .ok (.ifCond .eq 39, 3) := by decide +kernel
theorem dX11_text_70 : decode cX11_text 70 = .ok (.aload_n 0, 1) := by decide +kernel
theorem dX11_text_71 : decode cX11_text 71 = .ok (.iload_n 1, 1) := by decide +kernel
theorem dX11_text_72 : decode cX11_text 72 = .ok (.ifCond .ne 7, 3) := by decide +kernel
theorem dX11_text_75 : decode cX11_text 75 = .ok (.iconst 1, 1) := by decide +kernel
theorem dX11_text_76 : decode cX11_text 76 = .ok (.goto 4, 3) := by decide +kernel
theorem dX11_text_79 : decode cX11_text 79 = .ok (.iconst 0, 1) := by decide +kernel
theorem dX11_text_80 : decode cX11_text 80 = .ok (.invokevirtual 150, 3) := by decide +kernel
theorem dX11_text_83 : decode cX11_text 83 = .ok (.ifCond .eq 10, 3) := by decide +kernel
theorem dX11_text_86 : decode cX11_text 86 = .ok (.aload_n 0, 1) := by decide +kernel
theorem dX11_text_87 : decode cX11_text 87 = .ok (.invokevirtual 154, 3) := by decide +kernel
theorem dX11_text_90 : decode cX11_text 90 = .ok (.ifCond .ne 10, 3) := by decide +kernel
theorem dX11_text_93 : decode cX11_text 93 = .ok (.iconst (-1), 1) := by decide +kernel
theorem dX11_text_94 : decode cX11_text 94 = .ok (.aload_n 0, 1) := by decide +kernel
theorem dX11_text_95 : decode cX11_text 95 = .ok (.getfield 63, 3) := by decide +kernel
theorem dX11_text_98 : decode cX11_text 98 = .ok (.isub, 1) := by decide +kernel
theorem dX11_text_99 : decode cX11_text 99 = .ok (.ireturn, 1) := by decide +kernel
theorem dX11_text_100 : decode cX11_text 100 = .ok (.iinc 1 1, 3) := by decide +kernel
theorem dX11_text_103 : decode cX11_text 103 = .ok (.goto (-40), 3) := by decide +kernel
theorem dX11_text_106 : decode cX11_text 106 = .ok (.iconst 0, 1) := by decide +kernel
theorem dX11_text_107 : decode cX11_text 107 = .ok (.istore_n 2, 1) := by decide +kernel
theorem dX11_text_108 : decode cX11_text 108 = .ok (.iload_n 2, 1) := by decide +kernel
theorem dX11_text_109 : decode cX11_text 109 = .ok (.sipush 631, 3) := by decide +kernel
theorem dX11_text_112 : decode cX11_text 112 = .ok (.if_icmp .ge 21, 3) := by decide +kernel
theorem dX11_text_115 : decode cX11_text 115 = .ok (.aload_n 0, 1) := by decide +kernel
theorem dX11_text_116 : decode cX11_text 116 = .ok (.getfield 72, 3) := by decide +kernel
theorem dX11_text_119 : decode cX11_text 119 = .ok (.iload_n 2, 1) := by decide +kernel
theorem dX11_text_120 : decode cX11_text 120 = .ok (.aload_n 0, 1) := by decide +kernel
theorem dX11_text_121 : decode cX11_text 121 = .ok (.getfield 75, 3) := by decide +kernel
theorem dX11_text_124 : decode cX11_text 124 = .ok (.iload_n 2, 1) := by decide +kernel
theorem dX11_text_125 : decode cX11_text 125 = .ok (.iaload, 1) := by decide +kernel
theorem dX11_text_126 : decode cX11_text 126 = .ok (.iastore, 1) := by decide +kernel
theorem dX11_text_127 : decode cX11_text 127 = .ok (.iinc 2 1, 3) := by decide +kernel
theorem dX11_text_130 : decode cX11_text 130 = .ok (.goto (-22), 3) := by decide +kernel
theorem dX11_text_133 : decode cX11_text 133 = .ok (.aload_n 0, 1) := by decide +kernel
theorem dX11_text_134 : decode cX11_text 134 = .ok (.iconst 0, 1) := by decide +kernel
theorem dX11_text_135 : decode cX11_text 135 = .ok (.putfield 157, 3) := by decide +kernel
theorem dX11_text_138 : decode cX11_text 138 = .ok (.iload_n 1, 1) := by decide +kernel
theorem dX11_text_139 : decode cX11_text 139 = .ok (.ireturn, 1) := by decide +kernel
theorem dX11_thrown_0 : decode cX11_thrown 0 = .ok (.aload_n 0, 1) := by decide +kernel
theorem dX11_thrown_1 : decode cX11_thrown 1 = .ok (.getfield 1, 3) := by decide +kernel
theorem dX11_thrown_4 : decode cX11_thrown 4 = .ok (.ireturn, 1) := by decide +kernel
theorem dX11_told_0 : decode cX11_told 0 = .ok (.aload_n 0, 1) := by decide +kernel
theorem dX11_told_1 : decode cX11_told 1 = .ok (.getfield 27, 3) := by decide +kernel
theorem dX11_told_4 : decode cX11_told 4 = .ok (.iconst 3, 1) := by decide +kernel
theorem dX11_told_5 : decode cX11_told 5 = .ok (.if_icmp .eq 9, 3) := by decide +kernel
theorem dX11_told_8 : decode cX11_told 8 = .ok (.aload_n 0, 1) := by decide +kernel
theorem dX11_told_9 : decode cX11_told 9 = .ok (.iconst 1, 1) := by decide +kernel
theorem dX11_told_10 : decode cX11_told 10 = .ok (.invokevirtual 103, 3) := by decide +kernel
theorem dX11_told_13 : decode cX11_told 13 = .ok (.ireturn, 1) := by decide +kernel
theorem dX11_told_14 : decode cX11_told 14 = .ok (.aload_n 0, 1) := by decide +kernel
theorem dX11_told_15 : decode cX11_told 15 = .ok (.getfield 41, 3) := by decide +kernel
theorem dX11_told_18 : decode cX11_told 18 = .ok (.iload_n 2, 1) := by decide +kernel
theorem dX11_told_19 : decode cX11_told 19 = .ok (.iload_n 3, 1) := by decide +kernel
theorem dX11_told_20 : decode cX11_told 20 = .ok (.invokestatic 106, 3) := by decide +kernel
theorem dX11_told_23 : decode cX11_told 23 = .ok (.ifCond .ne 9, 3) := by decide +kernel
theorem dX11_told_26 : decode cX11_told 26 = .ok (.aload_n 0, 1) := by decide +kernel
theorem dX11_told_27 : decode cX11_told 27 = .ok (.iconst 2, 1) := by decide +kernel
theorem dX11_told_28 : decode cX11_told 28 = .ok (.invokevirtual 103, 3) := by decide +kernel
theorem dX11_told_31 : decode cX11_told 31 = .ok (.ireturn, 1) := by decide +kernel
theorem dX11_told_32 : decode cX11_told 32 = .ok (.aload_n 0, 1) := by decide +kernel
theorem dX11_told_33 : decode cX11_told 33 = .ok (.getfield 75, 3) := by decide +kernel
theorem dX11_told_36 : decode cX11_told 36 = .ok (.iload_n 1, 1) := by decide +kernel
theorem dX11_told_37 : decode cX11_told 37 = .ok (.aload_n 0, 1) := by decide +kernel
theorem dX11_told_38 : decode cX11_told 38 = .ok (.getfield 41, 3) := by decide +kernel
theorem dX11_told_41 : decode cX11_told 41 = .ok (.iastore, 1) := by decide +kernel
theorem dX11_told_42 : decode cX11_told 42 = .ok (.aload_n 0, 1) := by decide +kernel
theorem dX11_told_43 : decode cX11_told 43 = .ok (.invokevirtual 110, 3) := by decide +kernel
theorem dX11_told_46 : decode cX11_told 46 = .ok (.iconst 1, 1) := by decide +kernel
theorem dX11_told_47 : decode cX11_told 47 = .ok (.ireturn, 1) := by decide +kernel
theorem dX11_trip_0 : decode cX11_trip 0 = .ok (.aload_n 0, 1) := by decide +kernel
theorem dX11_trip_1 : decode cX11_trip 1 = .ok (.iconst 0, 1) := by decide +kernel
theorem dX11_trip_2 : decode cX11_trip 2 = .ok (.putfield 1, 3) := by decide +kernel
theorem dX11_trip_5 : decode cX11_trip 5 = .ok (.aload_n 0, 1) := by decide +kernel
theorem dX11_trip_6 : decode cX11_trip 6 = .ok (.iload_n 1, 1) := by decide +kernel
theorem dX11_trip_7 : decode cX11_trip 7 = .ok (.invokevirtual 207, 3) := by decide +kernel
theorem dX11_trip_10 : decode cX11_trip 10 = .ok (.ifCond .ne 5, 3) := by decide +kernel
theorem dX11_trip_13 : decode cX11_trip 13 = .ok (.iconst (-1), 1) := by decide +kernel
theorem dX11_trip_14 : decode cX11_trip 14 = .ok (.ireturn, 1) := by decide +kernel
theorem dX11_trip_15 : decode cX11_trip 15 = .ok (.iload_n 2, 1) := by decide +kernel
theorem dX11_trip_16 : decode cX11_trip 16 = .ok (.bipush 10, 2) := by decide +kernel
theorem dX11_trip_18 : decode cX11_trip 18 = .ok (.bipush 9, 2) := by decide +kernel
theorem dX11_trip_20 : decode cX11_trip 20 = .ok (.aload_n 0, 1) := by decide +kernel
theorem dX11_trip_21 : decode cX11_trip 21 = .ok (.iload_n 1, 1) := by decide +kernel
theorem dX11_trip_22 : decode cX11_trip 22 = .ok (.iconst 1, 1) := by decide +kernel
theorem dX11_trip_23 : decode cX11_trip 23 = .ok (.invokevirtual 160, 3) := by decide +kernel
theorem dX11_trip_26 : decode cX11_trip 26 = .ok (.iadd, 1) := by decide +kernel
theorem dX11_trip_27 : decode cX11_trip 27 = .ok (.invokestatic 106, 3) := by decide +kernel
theorem dX11_trip_30 : decode cX11_trip 30 = .ok (.ifCond .eq 16, 3) := by decide +kernel
theorem dX11_trip_33 : decode cX11_trip 33 = .ok (.aload_n 0, 1) := by decide +kernel
theorem dX11_trip_34 : decode cX11_trip 34 = .ok (.iload_n 1, 1) := by decide +kernel
theorem dX11_trip_35 : decode cX11_trip 35 = .ok (.bipush 7, 2) := by decide +kernel
theorem dX11_trip_37 : decode cX11_trip 37 = .ok (.iload_n 2, 1) := by decide +kernel
theorem dX11_trip_38 : decode cX11_trip 38 = .ok (.iadd, 1) := by decide +kernel
theorem dX11_trip_39 : decode cX11_trip 39 = .ok (.bipush 10, 2) := by decide +kernel
theorem dX11_trip_41 : decode cX11_trip 41 = .ok (.isub, 1) := by decide +kernel
theorem dX11_trip_42 : decode cX11_trip 42 = .ok (.invokevirtual 160, 3) := by decide +kernel
theorem dX11_trip_45 : decode cX11_trip 45 = .ok (.ireturn, 1) := by decide +kernel
theorem dX11_trip_46 : decode cX11_trip 46 = .ok (.iload_n 2, 1) := by decide +kernel
theorem dX11_trip_47 : decode cX11_trip 47 = .ok (.iconst 0, 1) := by decide +kernel
theorem dX11_trip_48 : decode cX11_trip 48 = .ok (.bipush 6, 2) := by decide +kernel
theorem dX11_trip_50 : decode cX11_trip 50 = .ok (.invokestatic 106, 3) := by decide +kernel
theorem dX11_trip_53 : decode cX11_trip 53 = .ok (.ifCond .eq 12, 3) := by decide +kernel
theorem dX11_trip_56 : decode cX11_trip 56 = .ok (.aload_n 0, 1) := by decide +kernel
theorem dX11_trip_57 : decode cX11_trip 57 = .ok (.iload_n 1, 1) := by decide +kernel
theorem dX11_trip_58 : decode cX11_trip 58 = .ok (.iload_n 2, 1) := by decide +kernel
theorem dX11_trip_59 : decode cX11_trip 59 = .ok (.invokevirtual 160, 3) := by decide +kernel
theorem dX11_trip_62 : decode cX11_trip 62 = .ok (.goto 4, 3) := by decide +kernel
theorem dX11_trip_65 : decode cX11_trip 65 = .ok (.iconst (-1), 1) := by decide +kernel
theorem dX11_trip_66 : decode cX11_trip 66 = .ok (.ireturn, 1) := by decide +kernel
theorem dX11_tripOf_0 : decode cX11_tripOf 0 = .ok (.iconst 0, 1) := by decide +kernel
theorem dX11_tripOf_1 : decode cX11_tripOf 1 = .ok (.istore_n 2, 1) := by decide +kernel
theorem dX11_tripOf_2 : decode cX11_tripOf 2 = .ok (.iload_n 2, 1) := by decide +kernel
theorem dX11_tripOf_3 : decode cX11_tripOf 3 = .ok (.aload_n 0, 1) := by decide +kernel
theorem dX11_tripOf_4 : decode cX11_tripOf 4 = .ok (.getfield 72, 3) := by decide +kernel
theorem dX11_tripOf_7 : decode cX11_tripOf 7 = .ok (.iconst 5, 1) := by decide +kernel
theorem dX11_tripOf_8 : decode cX11_tripOf 8 = .ok (.iaload, 1) := by decide +kernel
theorem dX11_tripOf_9 : decode cX11_tripOf 9 = .ok (.if_icmp .ge 31, 3) := by decide +kernel
theorem dX11_tripOf_12 : decode cX11_tripOf 12 = .ok (.aload_n 0, 1) := by decide +kernel
theorem dX11_tripOf_13 : decode cX11_tripOf 13 = .ok (.iload_n 2, 1) := by decide +kernel
theorem dX11_tripOf_14 : decode cX11_tripOf 14 = .ok (.iconst 0, 1) := by decide +kernel
theorem dX11_tripOf_15 : decode cX11_tripOf 15 = .ok (.invokevirtual 160, 3) := by decide +kernel
theorem dX11_tripOf_18 : decode cX11_tripOf 18 = .ok (.iload_n 1, 1) := by decide +kernel
theorem dX11_tripOf_19 : decode cX11_tripOf 19 = .ok (.if_icmp .ne 15, 3) := by decide +kernel
theorem dX11_tripOf_22 : decode cX11_tripOf 22 = .ok (.aload_n 0, 1) := by decide +kernel
theorem dX11_tripOf_23 : decode cX11_tripOf 23 = .ok (.iload_n 2, 1) := by decide +kernel
theorem dX11_tripOf_24 : decode cX11_tripOf 24 = .ok (.iconst 2, 1) := by decide +kernel
theorem dX11_tripOf_25 : decode cX11_tripOf 25 = .ok (.invokevirtual 160, 3) := by decide +kernel
theorem dX11_tripOf_28 : decode cX11_tripOf 28 = .ok (.iconst 2, 1) := by decide +kernel
theorem dX11_tripOf_29 : decode cX11_tripOf 29 = .ok (.if_icmp .eq 5, 3) := by decide +kernel
theorem dX11_tripOf_32 : decode cX11_tripOf 32 = .ok (.iload_n 2, 1) := by decide +kernel
theorem dX11_tripOf_33 : decode cX11_tripOf 33 = .ok (.ireturn, 1) := by decide +kernel
theorem dX11_tripOf_34 : decode cX11_tripOf 34 = .ok (.iinc 2 1, 3) := by decide +kernel
theorem dX11_tripOf_37 : decode cX11_tripOf 37 = .ok (.goto (-35), 3) := by decide +kernel
theorem dX11_tripOf_40 : decode cX11_tripOf 40 = .ok (.iconst (-1), 1) := by decide +kernel
theorem dX11_tripOf_41 : decode cX11_tripOf 41 = .ok (.ireturn, 1) := by decide +kernel
theorem dX11_type_0 : decode cX11_type 0 = .ok (.aload_n 0, 1) := by decide +kernel
theorem dX11_type_1 : decode cX11_type 1 = .ok (.iconst 0, 1) := by decide +kernel
theorem dX11_type_2 : decode cX11_type 2 = .ok (.putfield 1, 3) := by decide +kernel
theorem dX11_type_5 : decode cX11_type 5 = .ok (.aload_n 0, 1) := by decide +kernel
theorem dX11_type_6 : decode cX11_type 6 = .ok (.iload_n 1, 1) := by decide +kernel
theorem dX11_type_7 : decode cX11_type 7 = .ok (.invokevirtual 189, 3) := by decide +kernel
theorem dX11_type_10 : decode cX11_type 10 = .ok (.ifCond .eq 13, 3) := by decide +kernel
theorem dX11_type_13 : decode cX11_type 13 = .ok (.iload_n 2, 1) := by decide +kernel
theorem dX11_type_14 : decode cX11_type 14 = .ok (.iconst 0, 1) := by decide +kernel
theorem dX11_type_15 : decode cX11_type 15 = .ok (.bipush 7, 2) := by decide +kernel
theorem dX11_type_17 : decode cX11_type 17 = .ok (.invokestatic 106, 3) := by decide +kernel
theorem dX11_type_20 : decode cX11_type 20 = .ok (.ifCond .ne 7, 3) := by decide +kernel
theorem dX11_type_23 : decode cX11_type 23 = .ok (.iconst (-1), 1) := by decide +kernel
theorem dX11_type_24 : decode cX11_type 24 = .ok (.goto 23, 3) := by decide +kernel
theorem dX11_type_27 : decode cX11_type 27 = .ok (.iload_n 2, 1) := by decide +kernel
theorem dX11_type_28 : decode cX11_type 28 = .ok (.bipush 7, 2) := by decide +kernel
theorem dX11_type_30 : decode cX11_type 30 = .ok (.if_icmp .ge 12, 3) := by decide +kernel
theorem dX11_type_33 : decode cX11_type 33 = .ok (.aload_n 0, 1) := by decide +kernel
theorem dX11_type_34 : decode cX11_type 34 = .ok (.iload_n 1, 1) := by decide +kernel
theorem dX11_type_35 : decode cX11_type 35 = .ok (.iload_n 2, 1) := by decide +kernel
theorem dX11_type_36 : decode cX11_type 36 = .ok (.invokevirtual 167, 3) := by decide +kernel
theorem dX11_type_39 : decode cX11_type 39 = .ok (.goto 8, 3) := by decide +kernel
theorem dX11_type_42 : decode cX11_type 42 = .ok (.aload_n 0, 1) := by decide +kernel
theorem dX11_type_43 : decode cX11_type 43 = .ok (.iload_n 1, 1) := by decide +kernel
theorem dX11_type_44 : decode cX11_type 44 = .ok (.invokevirtual 192, 3) := by decide +kernel
theorem dX11_type_47 : decode cX11_type 47 = .ok (.ireturn, 1) := by decide +kernel
theorem dX11_typed_0 : decode cX11_typed 0 = .ok (.aload_n 0, 1) := by decide +kernel
theorem dX11_typed_1 : decode cX11_typed 1 = .ok (.getfield 72, 3) := by decide +kernel
theorem dX11_typed_4 : decode cX11_typed 4 = .ok (.bipush 7, 2) := by decide +kernel
theorem dX11_typed_6 : decode cX11_typed 6 = .ok (.bipush 12, 2) := by decide +kernel
theorem dX11_typed_8 : decode cX11_typed 8 = .ok (.iload_n 1, 1) := by decide +kernel
theorem dX11_typed_9 : decode cX11_typed 9 = .ok (.imul, 1) := by decide +kernel
theorem dX11_typed_10 : decode cX11_typed 10 = .ok (.iadd, 1) := by decide +kernel
theorem dX11_typed_11 : decode cX11_typed 11 = .ok (.iload_n 2, 1) := by decide +kernel
theorem dX11_typed_12 : decode cX11_typed 12 = .ok (.iadd, 1) := by decide +kernel
theorem dX11_typed_13 : decode cX11_typed 13 = .ok (.iaload, 1) := by decide +kernel
theorem dX11_typed_14 : decode cX11_typed 14 = .ok (.ireturn, 1) := by decide +kernel
theorem dX11_undo_0 : decode cX11_undo 0 = .ok (.aload_n 0, 1) := by decide +kernel
theorem dX11_undo_1 : decode cX11_undo 1 = .ok (.iconst 0, 1) := by decide +kernel
theorem dX11_undo_2 : decode cX11_undo 2 = .ok (.putfield 1, 3) := by decide +kernel
theorem dX11_undo_5 : decode cX11_undo 5 = .ok (.aload_n 0, 1) := by decide +kernel
theorem dX11_undo_6 : decode cX11_undo 6 = .ok (.getfield 157, 3) := by decide +kernel
theorem dX11_undo_9 : decode cX11_undo 9 = .ok (.ifCond .ne 5, 3) := by decide +kernel
theorem dX11_undo_12 : decode cX11_undo 12 = .ok (.iconst (-1), 1) := by decide +kernel
theorem dX11_undo_13 : decode cX11_undo 13 = .ok (.ireturn, 1) := by decide +kernel
theorem dX11_undo_14 : decode cX11_undo 14 = .ok (.aload_n 0, 1) := by decide +kernel
theorem dX11_undo_15 : decode cX11_undo 15 = .ok (.dup, 1) := by decide +kernel
theorem dX11_undo_16 : decode cX11_undo 16 = .ok (.getfield 157, 3) := by decide +kernel
theorem dX11_undo_19 : decode cX11_undo 19 = .ok (.iconst 1, 1) := by decide +kernel
theorem dX11_undo_20 : decode cX11_undo 20 = .ok (.isub, 1) := by decide +kernel
theorem dX11_undo_21 : decode cX11_undo 21 = .ok (.putfield 157, 3) := by decide +kernel
theorem dX11_undo_24 : decode cX11_undo 24 = .ok (.iconst 0, 1) := by decide +kernel
theorem dX11_undo_25 : decode cX11_undo 25 = .ok (.istore_n 1, 1) := by decide +kernel
theorem dX11_undo_26 : decode cX11_undo 26 = .ok (.iload_n 1, 1) := by decide +kernel
theorem dX11_undo_27 : decode cX11_undo 27 = .ok (.sipush 631, 3) := by decide +kernel
theorem dX11_undo_30 : decode cX11_undo 30 = .ok (.if_icmp .ge 30, 3) := by decide +kernel
theorem dX11_undo_33 : decode cX11_undo 33 = .ok (.aload_n 0, 1) := by decide +kernel
theorem dX11_undo_34 : decode cX11_undo 34 = .ok (.getfield 72, 3) := by decide +kernel
theorem dX11_undo_37 : decode cX11_undo 37 = .ok (.iload_n 1, 1) := by decide +kernel
theorem dX11_undo_38 : decode cX11_undo 38 = .ok (.aload_n 0, 1) := by decide +kernel
theorem dX11_undo_39 : decode cX11_undo 39 = .ok (.getfield 78, 3) := by decide +kernel
theorem dX11_undo_42 : decode cX11_undo 42 = .ok (.sipush 631, 3) := by decide +kernel
theorem dX11_undo_45 : decode cX11_undo 45 = .ok (.aload_n 0, 1) := by decide +kernel
theorem dX11_undo_46 : decode cX11_undo 46 = .ok (.getfield 157, 3) := by decide +kernel
theorem dX11_undo_49 : decode cX11_undo 49 = .ok (.imul, 1) := by decide +kernel
theorem dX11_undo_50 : decode cX11_undo 50 = .ok (.iload_n 1, 1) := by decide +kernel
theorem dX11_undo_51 : decode cX11_undo 51 = .ok (.iadd, 1) := by decide +kernel
theorem dX11_undo_52 : decode cX11_undo 52 = .ok (.iaload, 1) := by decide +kernel
theorem dX11_undo_53 : decode cX11_undo 53 = .ok (.iastore, 1) := by decide +kernel
theorem dX11_undo_54 : decode cX11_undo 54 = .ok (.iinc 1 1, 3) := by decide +kernel
theorem dX11_undo_57 : decode cX11_undo 57 = .ok (.goto (-31), 3) := by decide +kernel
theorem dX11_undo_60 : decode cX11_undo 60 = .ok (.aload_n 0, 1) := by decide +kernel
theorem dX11_undo_61 : decode cX11_undo 61 = .ok (.getfield 157, 3) := by decide +kernel
theorem dX11_undo_64 : decode cX11_undo 64 = .ok (.ireturn, 1) := by decide +kernel
theorem dX11_wayOf_0 : decode cX11_wayOf 0 = .ok (.iconst 0, 1) := by decide +kernel
theorem dX11_wayOf_1 : decode cX11_wayOf 1 = .ok (.istore_n 2, 1) := by decide +kernel
theorem dX11_wayOf_2 : decode cX11_wayOf 2 = .ok (.iconst 0, 1) := by decide +kernel
theorem dX11_wayOf_3 : decode cX11_wayOf 3 = .ok (.istore_n 3, 1) := by decide +kernel
theorem dX11_wayOf_4 : decode cX11_wayOf 4 = .ok (.iload_n 3, 1) := by decide +kernel
theorem dX11_wayOf_5 : decode cX11_wayOf 5 = .ok (.aload_n 0, 1) := by decide +kernel
theorem dX11_wayOf_6 : decode cX11_wayOf 6 = .ok (.iload_n 1, 1) := by decide +kernel
theorem dX11_wayOf_7 : decode cX11_wayOf 7 = .ok (.iconst 1, 1) := by decide +kernel
theorem dX11_wayOf_8 : decode cX11_wayOf 8 = .ok (.invokevirtual 160, 3) := by decide +kernel
theorem dX11_wayOf_11 : decode cX11_wayOf 11 = .ok (.if_icmp .ge 23, 3) := by decide +kernel
theorem dX11_wayOf_14 : decode cX11_wayOf 14 = .ok (.iload_n 2, 1) := by decide +kernel
theorem dX11_wayOf_15 : decode cX11_wayOf 15 = .ok (.iconst 1, 1) := by decide +kernel
theorem dX11_wayOf_16 : decode cX11_wayOf 16 = .ok (.aload_n 0, 1) := by decide +kernel
theorem dX11_wayOf_17 : decode cX11_wayOf 17 = .ok (.iload_n 1, 1) := by decide +kernel
theorem dX11_wayOf_18 : decode cX11_wayOf 18 = .ok (.bipush 7, 2) := by decide +kernel
theorem dX11_wayOf_20 : decode cX11_wayOf 20 = .ok (.iload_n 3, 1) := by decide +kernel
theorem dX11_wayOf_21 : decode cX11_wayOf 21 = .ok (.iadd, 1) := by decide +kernel
theorem dX11_wayOf_22 : decode cX11_wayOf 22 = .ok (.invokevirtual 160, 3) := by decide +kernel
theorem dX11_wayOf_25 : decode cX11_wayOf 25 = .ok (.ishl, 1) := by decide +kernel
theorem dX11_wayOf_26 : decode cX11_wayOf 26 = .ok (.ior, 1) := by decide +kernel
theorem dX11_wayOf_27 : decode cX11_wayOf 27 = .ok (.istore_n 2, 1) := by decide +kernel
theorem dX11_wayOf_28 : decode cX11_wayOf 28 = .ok (.iinc 3 1, 3) := by decide +kernel
theorem dX11_wayOf_31 : decode cX11_wayOf 31 = .ok (.goto (-27), 3) := by decide +kernel
theorem dX11_wayOf_34 : decode cX11_wayOf 34 = .ok (.iload_n 2, 1) := by decide +kernel
theorem dX11_wayOf_35 : decode cX11_wayOf 35 = .ok (.ireturn, 1) := by decide +kernel
theorem dX11_whyStopped_0 : decode cX11_whyStopped 0 = .ok (.aload_n 0, 1) := by decide +kernel
theorem dX11_whyStopped_1 : decode cX11_whyStopped 1 = .ok (.iload_n 1, 1) := by decide +kernel
theorem dX11_whyStopped_2 : decode cX11_whyStopped 2 = .ok (.invokevirtual 201, 3) := by decide +kernel
theorem dX11_whyStopped_5 : decode cX11_whyStopped 5 = .ok (.istore_n 3, 1) := by decide +kernel
theorem dX11_whyStopped_6 : decode cX11_whyStopped 6 = .ok (.iload_n 3, 1) := by decide +kernel
theorem dX11_whyStopped_7 : decode cX11_whyStopped 7 = .ok (.iconst (-1), 1) := by decide +kernel
theorem dX11_whyStopped_8 : decode cX11_whyStopped 8 = .ok (.if_icmp .eq 13, 3) := by decide +kernel
theorem dX11_whyStopped_11 : decode cX11_whyStopped 11 = .ok (.aload_n 0, 1) := by decide +kernel
theorem dX11_whyStopped_12 : decode cX11_whyStopped 12 = .ok (.iload_n 3, 1) := by decide +kernel
theorem dX11_whyStopped_13 : decode cX11_whyStopped 13 = .ok (.iconst 2, 1) := by decide +kernel
theorem dX11_whyStopped_14 : decode cX11_whyStopped 14 = .ok (.invokevirtual 160, 3) := by decide +kernel
theorem dX11_whyStopped_17 : decode cX11_whyStopped 17 = .ok (.iconst 1, 1) := by decide +kernel
theorem dX11_whyStopped_18 : decode cX11_whyStopped 18 = .ok (.if_icmp .eq 5, 3) := by decide +kernel
theorem dX11_whyStopped_21 : decode cX11_whyStopped 21 = .ok (.iconst 1, 1) := by decide +kernel
theorem dX11_whyStopped_22 : decode cX11_whyStopped 22 = .ok (.ireturn, 1) := by decide +kernel
theorem dX11_whyStopped_23 : decode cX11_whyStopped 23 = .ok (.aload_n 0, 1) := by decide +kernel
theorem dX11_whyStopped_24 : decode cX11_whyStopped 24 = .ok (.iload_n 3, 1) := by decide +kernel
theorem dX11_whyStopped_25 : decode cX11_whyStopped 25 = .ok (.invokevirtual 210, 3) := by decide +kernel
theorem dX11_whyStopped_28 : decode cX11_whyStopped 28 = .ok (.iload_n 2, 1) := by decide +kernel
theorem dX11_whyStopped_29 : decode cX11_whyStopped 29 = .ok (.invokestatic 113, 3) := by decide +kernel
theorem dX11_whyStopped_32 : decode cX11_whyStopped 32 = .ok (.ifCond .ne 5, 3) := by decide +kernel
theorem dX11_whyStopped_35 : decode cX11_whyStopped 35 = .ok (.iconst 2, 1) := by decide +kernel
theorem dX11_whyStopped_36 : decode cX11_whyStopped 36 = .ok (.ireturn, 1) := by decide +kernel
theorem dX11_whyStopped_37 : decode cX11_whyStopped 37 = .ok (.aload_n 0, 1) := by decide +kernel
theorem dX11_whyStopped_38 : decode cX11_whyStopped 38 = .ok (.getfield 72, 3) := by decide +kernel
theorem dX11_whyStopped_41 : decode cX11_whyStopped 41 = .ok (.bipush 6, 2) := by decide +kernel
theorem dX11_whyStopped_43 : decode cX11_whyStopped 43 = .ok (.iaload, 1) := by decide +kernel
theorem dX11_whyStopped_44 : decode cX11_whyStopped 44 = .ok (.aload_n 0, 1) := by decide +kernel
theorem dX11_whyStopped_45 : decode cX11_whyStopped 45 = .ok (.iload_n 3, 1) := by decide +kernel
theorem dX11_whyStopped_46 : decode cX11_whyStopped 46 = .ok (.iconst 4, 1) := by decide +kernel
theorem dX11_whyStopped_47 : decode cX11_whyStopped 47 = .ok (.invokevirtual 160, 3) := by decide +kernel
theorem dX11_whyStopped_50 : decode cX11_whyStopped 50 = .ok (.isub, 1) := by decide +kernel
theorem dX11_whyStopped_51 : decode cX11_whyStopped 51 = .ok (.aload_n 0, 1) := by decide +kernel
theorem dX11_whyStopped_52 : decode cX11_whyStopped 52 = .ok (.aload_n 0, 1) := by decide +kernel
theorem dX11_whyStopped_53 : decode cX11_whyStopped 53 = .ok (.iload_n 3, 1) := by decide +kernel
theorem dX11_whyStopped_54 : decode cX11_whyStopped 54 = .ok (.iconst 3, 1) := by decide +kernel
theorem dX11_whyStopped_55 : decode cX11_whyStopped 55 = .ok (.invokevirtual 160, 3) := by decide +kernel
theorem dX11_whyStopped_58 : decode cX11_whyStopped 58 = .ok (.iconst 5, 1) := by decide +kernel
theorem dX11_whyStopped_59 : decode cX11_whyStopped 59 = .ok (.invokevirtual 167, 3) := by decide +kernel
theorem dX11_whyStopped_62 : decode cX11_whyStopped 62 = .ok (.if_icmp .le 7, 3) := by decide +kernel
theorem dX11_whyStopped_65 : decode cX11_whyStopped 65 = .ok (.iconst 3, 1) := by decide +kernel
theorem dX11_whyStopped_66 : decode cX11_whyStopped 66 = .ok (.goto 4, 3) := by decide +kernel
theorem dX11_whyStopped_69 : decode cX11_whyStopped 69 = .ok (.iconst 0, 1) := by decide +kernel
theorem dX11_whyStopped_70 : decode cX11_whyStopped 70 = .ok (.ireturn, 1) := by decide +kernel
end
section
theorem lget_take {lv : List (Option Value)} : ∀ {n i : Nat} {v : Value}, lget (lv.take n) i = some v → lget lv i = some v := by
  induction lv with
  | nil => intro n i v h; simp [lget] at h
  | cons a l ih =>
    intro n i v h
    cases n with
    | zero => simp [lget] at h
    | succ n =>
      cases i with
      | zero => exact h
      | succ i => exact ih h
/-- fewer locals -/
theorem a_take {l : Launch} {G : GG} {d : Nat} {own : String} {cc : ByteArray} {nL : Nat} {ret : Option FieldType} {pc : Nat} {lv : List (Option Value)} {st : List Value} {h : AH} {Q : Option Value → AH → Prop} (n : Nat) (k : AW l G d own cc nL ret pc (lv.take n) st h Q) : AW l G d own cc nL ret pc lv st h Q := fun p e s m args below meth c H locs ls C hW hS hl => k p e s m args below meth c H locs ls C hW hS ⟨hl.1, hl.2.1, fun i v h => hl.2.2 i v (lget_take h)⟩
theorem ah_ext {h h2 : AH} (h1 : ∀ b k j, h.1 b k j = h2.1 b k j) (hl : h.2 = h2.2) : h = h2 := Prod.ext (funext fun b => funext fun k => funext fun j => h1 b k j) hl
end
section
theorem c2_has {l : Launch} {G : GG} {h : AH} {Q : Option Value → AH → Prop} {b : Nat} (hb : isB b) {x : Int32} (hQ : Q (some (.int (hasI (h.1 b 1 1) x))) h) : Ct l G 0 yX2_has cX2_has 2 (some .boolean) [.ref (G.1 b 1), .int x] h Q := by
  refine Ct.of (by decide) (Nat.le_of_ble_eq_true rfl) ?_
  show AW l G 0 RX2 cX2_has 2 (some .boolean) 0 [some (.ref (G.1 b 1)), some (.int x)] [] h Q
  refine a_iload_n dX2_has_0 rfl ?_
  refine a_if_lt dX2_has_1 (tgt := 16) (by decide) (fun c1 => ?_) (fun c1 => ?_)
  · refine a_iconst (v := 0) dX2_has_16 (by decide) ?_
    exact a_zret dX2_has_17 rfl rfl (by simpa [hasI, c1] using hQ)
  · refine a_iload_n dX2_has_4 rfl ?_
    refine a_aload_n dX2_has_5 rfl ?_
    refine a_getI (ci := 2) (j := 1) dX2_has_6 (kdB hb rfl) rfl (by decide) rfl fl_2_15 ?_
    refine a_icmp_ge dX2_has_9 (tgt := 16) (by decide) (fun c9 => ?_) (fun c9 => ?_)
    · refine a_iconst (v := 0) dX2_has_16 (by decide) ?_
      exact a_zret dX2_has_17 rfl rfl (by simpa [hasI, c1, c9] using hQ)
    · refine a_iconst (v := 1) dX2_has_12 (by decide) ?_
      refine a_goto dX2_has_13 (tgt := 17) (by decide) ?_
      exact a_zret dX2_has_17 rfl rfl (by simpa [hasI, c1, c9] using hQ)
theorem c3_has {l : Launch} {G : GG} {h : AH} {Q : Option Value → AH → Prop} {b : Nat} (hb : isB b) {x : Int32} (hQ : Q (some (.int (hasI (h.1 b 15 5) x))) h) : Ct l G 0 yX3_has cX3_has 2 (some .boolean) [.ref (G.1 b 15), .int x] h Q := by
  refine Ct.of (by decide) (Nat.le_of_ble_eq_true rfl) ?_
  show AW l G 0 RX3 cX3_has 2 (some .boolean) 0 [some (.ref (G.1 b 15)), some (.int x)] [] h Q
  refine a_iload_n dX3_has_0 rfl ?_
  refine a_if_lt dX3_has_1 (tgt := 16) (by decide) (fun c1 => ?_) (fun c1 => ?_)
  · refine a_iconst (v := 0) dX3_has_16 (by decide) ?_
    exact a_zret dX3_has_17 rfl rfl (by simpa [hasI, c1] using hQ)
  · refine a_iload_n dX3_has_4 rfl ?_
    refine a_aload_n dX3_has_5 rfl ?_
    refine a_getI (ci := 3) (j := 5) dX3_has_6 (kdB hb rfl) rfl (by decide) rfl fl_3_27 ?_
    refine a_icmp_ge dX3_has_9 (tgt := 16) (by decide) (fun c9 => ?_) (fun c9 => ?_)
    · refine a_iconst (v := 0) dX3_has_16 (by decide) ?_
      exact a_zret dX3_has_17 rfl rfl (by simpa [hasI, c1, c9] using hQ)
    · refine a_iconst (v := 1) dX3_has_12 (by decide) ?_
      refine a_goto dX3_has_13 (tgt := 17) (by decide) ?_
      exact a_zret dX3_has_17 rfl rfl (by simpa [hasI, c1, c9] using hQ)
theorem c4_has {l : Launch} {G : GG} {h : AH} {Q : Option Value → AH → Prop} {b : Nat} (hb : isB b) {x : Int32} (hQ : Q (some (.int (hasI (h.1 b 3 11) x))) h) : Ct l G 0 yX4_has cX4_has 2 (some .boolean) [.ref (G.1 b 3), .int x] h Q := by
  refine Ct.of (by decide) (Nat.le_of_ble_eq_true rfl) ?_
  show AW l G 0 RX4 cX4_has 2 (some .boolean) 0 [some (.ref (G.1 b 3)), some (.int x)] [] h Q
  refine a_iload_n dX4_has_0 rfl ?_
  refine a_if_lt dX4_has_1 (tgt := 16) (by decide) (fun c1 => ?_) (fun c1 => ?_)
  · refine a_iconst (v := 0) dX4_has_16 (by decide) ?_
    exact a_zret dX4_has_17 rfl rfl (by simpa [hasI, c1] using hQ)
  · refine a_iload_n dX4_has_4 rfl ?_
    refine a_aload_n dX4_has_5 rfl ?_
    refine a_getI (ci := 4) (j := 11) dX4_has_6 (kdB hb rfl) rfl (by decide) rfl fl_4_49 ?_
    refine a_icmp_ge dX4_has_9 (tgt := 16) (by decide) (fun c9 => ?_) (fun c9 => ?_)
    · refine a_iconst (v := 0) dX4_has_16 (by decide) ?_
      exact a_zret dX4_has_17 rfl rfl (by simpa [hasI, c1, c9] using hQ)
    · refine a_iconst (v := 1) dX4_has_12 (by decide) ?_
      refine a_goto dX4_has_13 (tgt := 17) (by decide) ?_
      exact a_zret dX4_has_17 rfl rfl (by simpa [hasI, c1, c9] using hQ)
theorem c9_has {l : Launch} {G : GG} {h : AH} {Q : Option Value → AH → Prop} {b : Nat} (hb : isB b) {x : Int32} (hQ : Q (some (.int (hasI (h.1 b 21 9) x))) h) : Ct l G 0 yX9_has cX9_has 2 (some .boolean) [.ref (G.1 b 21), .int x] h Q := by
  refine Ct.of (by decide) (Nat.le_of_ble_eq_true rfl) ?_
  show AW l G 0 RX9 cX9_has 2 (some .boolean) 0 [some (.ref (G.1 b 21)), some (.int x)] [] h Q
  refine a_iload_n dX9_has_0 rfl ?_
  refine a_if_lt dX9_has_1 (tgt := 16) (by decide) (fun c1 => ?_) (fun c1 => ?_)
  · refine a_iconst (v := 0) dX9_has_16 (by decide) ?_
    exact a_zret dX9_has_17 rfl rfl (by simpa [hasI, c1] using hQ)
  · refine a_iload_n dX9_has_4 rfl ?_
    refine a_aload_n dX9_has_5 rfl ?_
    refine a_getI (ci := 9) (j := 9) dX9_has_6 (kdB hb rfl) rfl (by decide) rfl fl_9_39 ?_
    refine a_icmp_ge dX9_has_9 (tgt := 16) (by decide) (fun c9 => ?_) (fun c9 => ?_)
    · refine a_iconst (v := 0) dX9_has_16 (by decide) ?_
      exact a_zret dX9_has_17 rfl rfl (by simpa [hasI, c1, c9] using hQ)
    · refine a_iconst (v := 1) dX9_has_12 (by decide) ?_
      refine a_goto dX9_has_13 (tgt := 17) (by decide) ?_
      exact a_zret dX9_has_17 rfl rfl (by simpa [hasI, c1, c9] using hQ)
def keepF (h : AH) (b : Nat) (kd wh am : Int32) : AH :=
  ui (ui (ui (ui (ui h b 32 (h.1 b 31 3).toNatClampNeg kd) b 33 (h.1 b 31 3).toNatClampNeg wh) b 34 (h.1 b 31 3).toNatClampNeg am) b 31 3 (h.1 b 31 3 + 1 - (h.1 b 31 3 + 1) / 10 * 10)) b 31 4 (if 10 < h.1 b 31 4 + 1 then 10 else h.1 b 31 4 + 1)
def takeX (x : Int32) : Int32 := ((if (0 : Int32) < x then x else 0) + 10 - 1) - ((if (0 : Int32) < x then x else 0) + 10 - 1) / 10 * 10
def takeF (h : AH) (b : Nat) : AH := ui (ui h b 31 3 (takeX (h.1 b 31 3))) b 31 4 (h.1 b 31 4 - 1)
theorem c0_keep {l : Launch} {G : GG} {h : AH} {Q : Option Value → AH → Prop} {b : Nat} (hb : isB b) {x y z : Int32} (hn : ¬ h.1 b 31 3 < 0) (hn2 : h.1 b 31 3 < 10) (hin : vp_in (h.1 b 31 3) 10) (hQ : Q none (keepF h b x y z)) : Ct l G 1 yX0_keep cX0_keep 4 none [.ref (G.1 b 31), .int x, .int y, .int z] h Q := by
  refine Ct.of (by decide) (Nat.le_of_ble_eq_true rfl) ?_
  show AW l G 1 RX0 cX0_keep 4 none 0 [some (.ref (G.1 b 31)), some (.int x), some (.int y), some (.int z)] [] h Q
  refine a_aload_n dX0_keep_0 rfl ?_
  refine a_getI (ci := 0) (j := 3) dX0_keep_1 (kdB hb rfl) rfl (by decide) rfl fl_0_21 ?_
  refine a_if_lt dX0_keep_4 (tgt := 16) (by decide) (fun c4 => ?_) (fun c4 => ?_)
  · exact absurd c4 hn
  · refine a_aload_n dX0_keep_7 rfl ?_
    refine a_getI (ci := 0) (j := 3) dX0_keep_8 (kdB hb rfl) rfl (by decide) rfl fl_0_21 ?_
    refine a_bipush (v := 10) dX0_keep_11 (by decide) ?_
    refine a_icmp_lt dX0_keep_13 (tgt := 21) (by decide) (fun c13 => ?_) (fun c13 => ?_)
    · refine a_aload_n dX0_keep_21 rfl ?_
      refine a_getR (ci := 0) (j := 0) dX0_keep_22 (kdB hb rfl) rfl (by decide) rfl fl_0_9 ?_
      refine a_aload_n dX0_keep_25 rfl ?_
      refine a_getI (ci := 0) (j := 3) dX0_keep_26 (kdB hb rfl) rfl (by decide) rfl fl_0_21 ?_
      refine a_iload_n dX0_keep_29 rfl ?_
      refine a_iastore dX0_keep_30 (kdB hb rfl) (by assumption) ?_
      refine a_aload_n dX0_keep_31 rfl ?_
      refine a_getR (ci := 0) (j := 1) dX0_keep_32 (kdB hb rfl) rfl (by decide) rfl fl_0_15 ?_
      refine a_aload_n dX0_keep_35 rfl ?_
      refine a_getI (ci := 0) (j := 3) dX0_keep_36 (kdB hb rfl) rfl (by decide) rfl fl_0_21 ?_
      try simp (disch := first | decide | assumption | omega) only [ui_eq, ui_k, ui_j, ui_b, ui_2, ul_1, ul_eq, ul_k, ul_j, ul_b]
      refine a_iload_n dX0_keep_39 rfl ?_
      refine a_iastore dX0_keep_40 (kdB hb rfl) (by assumption) ?_
      refine a_aload_n dX0_keep_41 rfl ?_
      refine a_getR (ci := 0) (j := 2) dX0_keep_42 (kdB hb rfl) rfl (by decide) rfl fl_0_18 ?_
      refine a_aload_n dX0_keep_45 rfl ?_
      refine a_getI (ci := 0) (j := 3) dX0_keep_46 (kdB hb rfl) rfl (by decide) rfl fl_0_21 ?_
      try simp (disch := first | decide | assumption | omega) only [ui_eq, ui_k, ui_j, ui_b, ui_2, ul_1, ul_eq, ul_k, ul_j, ul_b]
      refine a_iload_n dX0_keep_49 rfl ?_
      refine a_iastore dX0_keep_50 (kdB hb rfl) (by assumption) ?_
      refine a_aload_n dX0_keep_51 rfl ?_
      refine a_aload_n dX0_keep_52 rfl ?_
      refine a_getI (ci := 0) (j := 3) dX0_keep_53 (kdB hb rfl) rfl (by decide) rfl fl_0_21 ?_
      try simp (disch := first | decide | assumption | omega) only [ui_eq, ui_k, ui_j, ui_b, ui_2, ul_1, ul_eq, ul_k, ul_j, ul_b]
      refine a_iconst (v := 1) dX0_keep_56 (by decide) ?_
      refine a_iadd dX0_keep_57 ?_
      refine a_bipush (v := 10) dX0_keep_58 (by decide) ?_
      refine a_irem dX0_keep_60 (by decide) ?_
      refine a_putI (ci := 0) (j := 3) dX0_keep_61 (kdB hb rfl) rfl (by decide) (by decide) rfl fl_0_21 ?_
      refine a_aload_n dX0_keep_64 rfl ?_
      refine a_aload_n dX0_keep_65 rfl ?_
      refine a_getI (ci := 0) (j := 4) dX0_keep_66 (kdB hb rfl) rfl (by decide) rfl fl_0_25 ?_
      try simp (disch := first | decide | assumption | omega) only [ui_eq, ui_k, ui_j, ui_b, ui_2, ul_1, ul_eq, ul_k, ul_j, ul_b]
      refine a_iconst (v := 1) dX0_keep_69 (by decide) ?_
      refine a_iadd dX0_keep_70 ?_
      refine a_bipush (v := 10) dX0_keep_71 (by decide) ?_
      refine a_mmin dX0_keep_73 ml_0_28 (by decide) (Nat.le_of_ble_eq_true rfl) ?_
      refine a_putI (ci := 0) (j := 4) dX0_keep_76 (kdB hb rfl) rfl (by decide) (by decide) rfl fl_0_25 ?_
      exact a_vret dX0_keep_79 rfl hQ
    · exact absurd hn2 c13
theorem c0_takeLatest {l : Launch} {G : GG} {h : AH} {Q : Option Value → AH → Prop} {b : Nat} (hb : isB b) (hQ : Q (some (.int (takeX (h.1 b 31 3)))) (takeF h b)) : Ct l G 1 yX0_takeLatest cX0_takeLatest 1 (some .int) [.ref (G.1 b 31)] h Q := by
  refine Ct.of (by decide) (Nat.le_of_ble_eq_true rfl) ?_
  show AW l G 1 RX0 cX0_takeLatest 1 (some .int) 0 [some (.ref (G.1 b 31))] [] h Q
  refine a_aload_n dX0_takeLatest_0 rfl ?_
  refine a_iconst (v := 0) dX0_takeLatest_1 (by decide) ?_
  refine a_aload_n dX0_takeLatest_2 rfl ?_
  refine a_getI (ci := 0) (j := 3) dX0_takeLatest_3 (kdB hb rfl) rfl (by decide) rfl fl_0_21 ?_
  refine a_mmax dX0_takeLatest_6 ml_0_34 (by decide) (Nat.le_of_ble_eq_true rfl) ?_
  refine a_bipush (v := 10) dX0_takeLatest_9 (by decide) ?_
  refine a_iadd dX0_takeLatest_11 ?_
  refine a_iconst (v := 1) dX0_takeLatest_12 (by decide) ?_
  refine a_isub dX0_takeLatest_13 ?_
  refine a_bipush (v := 10) dX0_takeLatest_14 (by decide) ?_
  refine a_irem dX0_takeLatest_16 (by decide) ?_
  refine a_putI (ci := 0) (j := 3) dX0_takeLatest_17 (kdB hb rfl) rfl (by decide) (by decide) rfl fl_0_21 ?_
  refine a_aload_n dX0_takeLatest_20 rfl ?_
  refine a_dup dX0_takeLatest_21 rfl ?_
  refine a_getI (ci := 0) (j := 4) dX0_takeLatest_22 (kdB hb rfl) rfl (by decide) rfl fl_0_25 ?_
  try simp (disch := first | decide | assumption | omega) only [ui_eq, ui_k, ui_j, ui_b, ui_2, ul_1, ul_eq, ul_k, ul_j, ul_b]
  refine a_iconst (v := 1) dX0_takeLatest_25 (by decide) ?_
  refine a_isub dX0_takeLatest_26 ?_
  refine a_putI (ci := 0) (j := 4) dX0_takeLatest_27 (kdB hb rfl) rfl (by decide) (by decide) rfl fl_0_25 ?_
  refine a_aload_n dX0_takeLatest_30 rfl ?_
  refine a_getI (ci := 0) (j := 3) dX0_takeLatest_31 (kdB hb rfl) rfl (by decide) rfl fl_0_21 ?_
  try simp (disch := first | decide | assumption | omega) only [ui_eq, ui_k, ui_j, ui_b, ui_2, ul_1, ul_eq, ul_k, ul_j, ul_b]
  exact a_iret dX0_takeLatest_34 rfl hQ
end
section
def joinF (h : AH) (b : Nat) (x y : Int32) : Int32 := if hasI (h.1 b 1 1) x = 0 then 0 else if hasI (h.1 b 1 1) y = 0 then 0 else if (h.1 b 2 x.toNatClampNeg >>> (y &&& 31)) &&& 1 = 0 then 0 else 1
def clrL (h : AH) (b i : Nat) : AH := (fun b' k' j' => if b' = b ∧ k' = 2 ∧ j' < i then 0 else h.1 b' k' j', h.2)
theorem clrL_0 (h : AH) (b : Nat) : clrL h b 0 = h := by simp [clrL]
theorem clrL_s (h : AH) (b i : Nat) : ui (clrL h b i) b 2 i 0 = clrL h b (i + 1) := by
  apply Prod.ext
  · funext b' k' j'
    simp only [ui, clrL]
    by_cases h1 : b' = b ∧ k' = 2
    · obtain ⟨rfl, rfl⟩ := h1
      by_cases h2 : j' = i
      · simp [h2]
      · by_cases h3 : j' < i
        · simp [h2, h3, Nat.lt_succ_of_lt h3]
        · simp [h2, h3, show ¬ j' < i + 1 by omega]
    · have e1 : ¬ (b' = b ∧ k' = 2 ∧ j' = i) := fun q => h1 ⟨q.1, q.2.1⟩
      have e2 : ¬ (b' = b ∧ k' = 2 ∧ j' < i) := fun q => h1 ⟨q.1, q.2.1⟩
      have e3 : ¬ (b' = b ∧ k' = 2 ∧ j' < i + 1) := fun q => h1 ⟨q.1, q.2.1⟩
      simp [e1, e2, e3]
  · rfl
def clearL (h : AH) (b : Nat) : AH := ui (ui (clrL h b 8) b 1 1 0) b 1 2 0
def addBF (h : AH) (b : Nat) (x y : Int32) : AH :=
  if hasI (h.1 b 1 1) x = 0 then h else if hasI (h.1 b 1 1) y = 0 then h else if ¬ joinF h b x y = 0 then h else
    let h1 := ui h b 2 x.toNatClampNeg (h.1 b 2 x.toNatClampNeg ||| 1 <<< (y &&& 31))
    let h2 := ui h1 b 2 y.toNatClampNeg (h1.1 b 2 y.toNatClampNeg ||| 1 <<< (x &&& 31))
    ui h2 b 1 2 (h.1 b 1 2 + 1)
theorem l2_clear {l : Launch} {G : GG} {h : AH} {Q : Option Value → AH → Prop} {b : Nat} (hb : isB b) (i : Nat) (hi : i ≤ 8) (hQ : Q none (clearL h b)) : AW l G 0 RX2 cX2_clear 2 none 2 [some (.ref (G.1 b 1)), some (.int (nI i))] [] (clrL h b i) Q := by
  have hci : (nI i).toNatClampNeg = i := nI_clamp (by omega)
  refine a_iload_n dX2_clear_2 rfl ?_
  refine a_bipush (v := 8) dX2_clear_3 (by decide) ?_
  refine a_icmp_ge dX2_clear_5 (tgt := 21) (by decide) (fun c5 => ?_) (fun c5 => ?_)
  · have hlt : 8 ≤ i := le_of_le (b := 8) c5 (by omega) (by decide)
    have hie : i = 8 := by omega
    subst hie
    refine a_aload_n dX2_clear_21 rfl ?_
    refine a_iconst (v := 0) dX2_clear_22 (by decide) ?_
    refine a_putI (ci := 2) (j := 1) dX2_clear_23 (kdB hb rfl) rfl (by decide) (by decide) rfl fl_2_15 ?_
    refine a_aload_n dX2_clear_26 rfl ?_
    refine a_iconst (v := 0) dX2_clear_27 (by decide) ?_
    refine a_putI (ci := 2) (j := 2) dX2_clear_28 (kdB hb rfl) rfl (by decide) (by decide) rfl fl_2_19 ?_
    exact a_vret dX2_clear_31 rfl hQ
  · have hlt : i < 8 := lt_of_nle (b := 8) c5 (by omega) (by decide)
    refine a_aload_n dX2_clear_8 rfl ?_
    refine a_getR (ci := 2) (j := 0) dX2_clear_9 (kdB hb rfl) rfl (by decide) rfl fl_2_9 ?_
    refine a_iload_n dX2_clear_12 rfl ?_
    refine a_iconst (v := 0) dX2_clear_13 (by decide) ?_
    refine a_iastore dX2_clear_14 (kdB hb rfl) (vp_in_nI hlt (by decide)) ?_
    refine a_inc (c := 1) dX2_clear_15 rfl (by decide) (by decide) rfl ?_
    dsimp only [lset]
    refine a_goto dX2_clear_18 (tgt := 2) (by decide) ?_
    rw [hci, clrL_s, nI_1]
    exact l2_clear hb (i + 1) (by omega) hQ
termination_by 8 - i
decreasing_by all_goals omega
theorem c2_clear {l : Launch} {G : GG} {h : AH} {Q : Option Value → AH → Prop} {b : Nat} (hb : isB b) (hQ : Q none (clearL h b)) : Ct l G 0 yX2_clear cX2_clear 2 none [.ref (G.1 b 1)] h Q := by
  refine Ct.of (by decide) (Nat.le_of_ble_eq_true rfl) ?_
  show AW l G 0 RX2 cX2_clear 2 none 0 [some (.ref (G.1 b 1))] [] h Q
  refine a_iconst (v := 0) dX2_clear_0 (by decide) ?_
  refine a_istore_n dX2_clear_1 (by decide) rfl ?_
  dsimp only [lset]
  have e := l2_clear (l := l) (G := G) (h := h) hb 0 (by omega) hQ
  rw [clrL_0] at e
  exact e
theorem c2_areJoined {l : Launch} {G : GG} {h : AH} {Q : Option Value → AH → Prop} {b : Nat} (hb : isB b) {x y : Int32} (hl : (h.1 b 1 1).toInt ≤ 8) (hQ : Q (some (.int (joinF h b x y))) h) : Ct l G 1 yX2_areJoined cX2_areJoined 3 (some .boolean) [.ref (G.1 b 1), .int x, .int y] h Q := by
  refine Ct.of (by decide) (Nat.le_of_ble_eq_true rfl) ?_
  show AW l G 1 RX2 cX2_areJoined 3 (some .boolean) 0 [some (.ref (G.1 b 1)), some (.int x), some (.int y)] [] h Q
  refine a_aload_n dX2_areJoined_0 rfl ?_
  refine a_iload_n dX2_areJoined_1 rfl ?_
  refine a_cV1i dX2_areJoined_2 ml_2_22 wv_2_has (kdB hb rfl) rfl (by decide) (Nat.le_of_ble_eq_true rfl) (c2_has hb ⟨rfl, rfl⟩) ?_
  refine a_if_eq dX2_areJoined_5 (tgt := 33) (by decide) (fun c5 => ?_) (fun c5 => ?_)
  · refine a_iconst (v := 0) dX2_areJoined_33 (by decide) ?_
    exact a_zret dX2_areJoined_34 rfl rfl (by simpa [joinF, c5] using hQ)
  · refine a_aload_n dX2_areJoined_8 rfl ?_
    refine a_iload_n dX2_areJoined_9 rfl ?_
    refine a_cV1i dX2_areJoined_10 ml_2_22 wv_2_has (kdB hb rfl) rfl (by decide) (Nat.le_of_ble_eq_true rfl) (c2_has hb ⟨rfl, rfl⟩) ?_
    refine a_if_eq dX2_areJoined_13 (tgt := 33) (by decide) (fun c13 => ?_) (fun c13 => ?_)
    · refine a_iconst (v := 0) dX2_areJoined_33 (by decide) ?_
      exact a_zret dX2_areJoined_34 rfl rfl (by simpa [joinF, c5, c13] using hQ)
    · refine a_aload_n dX2_areJoined_16 rfl ?_
      refine a_getR (ci := 2) (j := 0) dX2_areJoined_17 (kdB hb rfl) rfl (by decide) rfl fl_2_9 ?_
      refine a_iload_n dX2_areJoined_20 rfl ?_
      refine a_iaload dX2_areJoined_21 (kdB hb rfl) (hasI_in c5 hl) ?_
      refine a_iload_n dX2_areJoined_22 rfl ?_
      refine a_ishr dX2_areJoined_23 ?_
      refine a_iconst (v := 1) dX2_areJoined_24 (by decide) ?_
      refine a_iand dX2_areJoined_25 ?_
      refine a_if_eq dX2_areJoined_26 (tgt := 33) (by decide) (fun c26 => ?_) (fun c26 => ?_)
      · refine a_iconst (v := 0) dX2_areJoined_33 (by decide) ?_
        exact a_zret dX2_areJoined_34 rfl rfl (by simpa [joinF, c5, c13, c26] using hQ)
      · refine a_iconst (v := 1) dX2_areJoined_29 (by decide) ?_
        refine a_goto dX2_areJoined_30 (tgt := 34) (by decide) ?_
        exact a_zret dX2_areJoined_34 rfl rfl (by simpa [joinF, c5, c13, c26] using hQ)
theorem c2_addBorder {l : Launch} {G : GG} {h : AH} {Q : Option Value → AH → Prop} {b : Nat} (hb : isB b) {x y : Int32} (hl : (h.1 b 1 1).toInt ≤ 8) (hQ : Q none (addBF h b x y)) : Ct l G 2 yX2_addBorder cX2_addBorder 3 none [.ref (G.1 b 1), .int x, .int y] h Q := by
  refine Ct.of (by decide) (Nat.le_of_ble_eq_true rfl) ?_
  show AW l G 2 RX2 cX2_addBorder 3 none 0 [some (.ref (G.1 b 1)), some (.int x), some (.int y)] [] h Q
  refine a_aload_n dX2_addBorder_0 rfl ?_
  refine a_iload_n dX2_addBorder_1 rfl ?_
  refine a_cV1i dX2_addBorder_2 ml_2_22 wv_2_has (kdB hb rfl) rfl (by decide) (Nat.le_of_ble_eq_true rfl) (c2_has hb ⟨rfl, rfl⟩) ?_
  refine a_if_eq dX2_addBorder_5 (tgt := 59) (by decide) (fun c5 => ?_) (fun c5 => ?_)
  · exact a_vret dX2_addBorder_59 rfl (by simpa [addBF, c5] using hQ)
  · refine a_aload_n dX2_addBorder_8 rfl ?_
    refine a_iload_n dX2_addBorder_9 rfl ?_
    refine a_cV1i dX2_addBorder_10 ml_2_22 wv_2_has (kdB hb rfl) rfl (by decide) (Nat.le_of_ble_eq_true rfl) (c2_has hb ⟨rfl, rfl⟩) ?_
    refine a_if_eq dX2_addBorder_13 (tgt := 59) (by decide) (fun c13 => ?_) (fun c13 => ?_)
    · exact a_vret dX2_addBorder_59 rfl (by simpa [addBF, c5, c13] using hQ)
    · refine a_aload_n dX2_addBorder_16 rfl ?_
      refine a_iload_n dX2_addBorder_17 rfl ?_
      refine a_iload_n dX2_addBorder_18 rfl ?_
      refine a_cV2i dX2_addBorder_19 ml_2_26 wv_2_areJoined (kdB hb rfl) rfl (by decide) (Nat.le_of_ble_eq_true rfl) (c2_areJoined hb hl ⟨rfl, rfl⟩) ?_
      refine a_if_ne dX2_addBorder_22 (tgt := 59) (by decide) (fun c22 => ?_) (fun c22 => ?_)
      · exact a_vret dX2_addBorder_59 rfl (by simpa [addBF, c5, c13, c22] using hQ)
      · refine a_aload_n dX2_addBorder_25 rfl ?_
        refine a_getR (ci := 2) (j := 0) dX2_addBorder_26 (kdB hb rfl) rfl (by decide) rfl fl_2_9 ?_
        refine a_iload_n dX2_addBorder_29 rfl ?_
        refine a_dup2 dX2_addBorder_30 rfl rfl ?_
        refine a_iaload dX2_addBorder_31 (kdB hb rfl) (hasI_in c5 hl) ?_
        refine a_iconst (v := 1) dX2_addBorder_32 (by decide) ?_
        refine a_iload_n dX2_addBorder_33 rfl ?_
        refine a_ishl dX2_addBorder_34 ?_
        refine a_ior dX2_addBorder_35 ?_
        refine a_iastore dX2_addBorder_36 (kdB hb rfl) (hasI_in c5 hl) ?_
        refine a_aload_n dX2_addBorder_37 rfl ?_
        refine a_getR (ci := 2) (j := 0) dX2_addBorder_38 (kdB hb rfl) rfl (by decide) rfl fl_2_9 ?_
        refine a_iload_n dX2_addBorder_41 rfl ?_
        refine a_dup2 dX2_addBorder_42 rfl rfl ?_
        refine a_iaload dX2_addBorder_43 (kdB hb rfl) (hasI_in c13 hl) ?_
        try simp (disch := first | decide | assumption | omega) only [ui_eq, ui_k, ui_j, ui_b, ui_2, ul_1, ul_eq, ul_k, ul_j, ul_b]
        refine a_iconst (v := 1) dX2_addBorder_44 (by decide) ?_
        refine a_iload_n dX2_addBorder_45 rfl ?_
        refine a_ishl dX2_addBorder_46 ?_
        refine a_ior dX2_addBorder_47 ?_
        refine a_iastore dX2_addBorder_48 (kdB hb rfl) (hasI_in c13 hl) ?_
        refine a_aload_n dX2_addBorder_49 rfl ?_
        refine a_dup dX2_addBorder_50 rfl ?_
        refine a_getI (ci := 2) (j := 2) dX2_addBorder_51 (kdB hb rfl) rfl (by decide) rfl fl_2_19 ?_
        try simp (disch := first | decide | assumption | omega) only [ui_eq, ui_k, ui_j, ui_b, ui_2, ul_1, ul_eq, ul_k, ul_j, ul_b]
        refine a_iconst (v := 1) dX2_addBorder_54 (by decide) ?_
        refine a_iadd dX2_addBorder_55 ?_
        refine a_putI (ci := 2) (j := 2) dX2_addBorder_56 (kdB hb rfl) rfl (by decide) (by decide) rfl fl_2_19 ?_
        exact a_vret dX2_addBorder_59 rfl (by simpa [addBF, c5, c13, c22] using hQ)
end
section
def rowG (h : AH) (b : Nat) : Nat → Int32 → Int32 → Int32 → Int32
  | 0, _, bits, rest => if rest = 0 then bits else 0
  | n + 1, bef, bits, rest => if joinF h b bef (rest - rest / 10 * 10) = 0 then 0 else if (bits >>> ((rest - rest / 10 * 10) &&& 31)) &&& 1 = 0 then rowG h b n (rest - rest / 10 * 10) (bits ||| 1 <<< ((rest - rest / 10 * 10) &&& 31)) (rest / 10) else 0
def rowF (h : AH) (b : Nat) (home row : Int32) (m : Nat) : Int32 := if row - row / 10 * 10 = home then rowG h b (m - 1) (row - row / 10 * 10) (1 <<< (home &&& 31)) (row / 10) else 0
def nextF (h : AH) (b : Nat) (r a : Int32) : Nat → Int32
  | 0 => r
  | n + 1 => if (r >>> (nI n &&& 31)) &&& 1 = 0 then nextF h b r a n else nextF h b r a n ||| (h.1 b 2 n &&& a)
def shortG (h : AH) (b n : Nat) (land a : Int32) : Nat → Nat → Int32 → Int32
  | 0, _, _ => -2
  | f + 1, m, r => if (nextF h b r a n >>> (land &&& 31)) &&& 1 = 0 then shortG h b n land a f (m + 1) (nextF h b r a n) else nI m
def shortF (h : AH) (b n : Nat) (home land a : Int32) : Int32 := shortG h b n land a 7 2 (1 <<< (home &&& 31))
theorem l2_row {l : Launch} {G : GG} {h : AH} {Q : Option Value → AH → Prop} {b : Nat} (hb : isB b) (hl : (h.1 b 1 1).toInt ≤ 8) {m : Nat} (hm : m ≤ 100) {x y bef bits rest : Int32} (k : Nat) (hk : k ≤ m) (hQ : Q (some (.int (rowG h b (m - k) bef bits rest))) h) : AW l G 2 RX2 cX2_bitsOfRow 9 (some .int) 28 [some (.ref (G.1 b 1)), some (.int x), some (.int y), some (.int (nI m)), some (.int bef), some (.int bits), some (.int rest), some (.int (nI k))] [] h Q := by
  refine a_iload dX2_bitsOfRow_28 rfl ?_
  refine a_iload_n dX2_bitsOfRow_30 rfl ?_
  refine a_icmp_ge dX2_bitsOfRow_31 (tgt := 90) (by decide) (fun c31 => ?_) (fun c31 => ?_)
  · have hge : m ≤ k := le_of_le c31 (by omega) (by omega)
    rw [show m - k = 0 by omega, rowG] at hQ
    refine a_iload dX2_bitsOfRow_90 rfl ?_
    refine a_if_ne dX2_bitsOfRow_92 (tgt := 100) (by decide) (fun c92 => ?_) (fun c92 => ?_)
    · refine a_iconst (v := 0) dX2_bitsOfRow_100 (by decide) ?_
      exact a_iret dX2_bitsOfRow_101 rfl (by simpa [c31, c92] using hQ)
    · refine a_iload dX2_bitsOfRow_95 rfl ?_
      refine a_goto dX2_bitsOfRow_97 (tgt := 101) (by decide) ?_
      exact a_iret dX2_bitsOfRow_101 rfl (by simpa [c31, c92] using hQ)
  · have hlt : k < m := lt_of_nle c31 (by omega) (by omega)
    rw [show m - k = (m - (k + 1)) + 1 by omega, rowG] at hQ
    refine a_iload dX2_bitsOfRow_34 rfl ?_
    refine a_bipush (v := 10) dX2_bitsOfRow_36 (by decide) ?_
    refine a_irem dX2_bitsOfRow_38 (by decide) ?_
    refine a_istore dX2_bitsOfRow_39 (by decide) rfl ?_
    dsimp only [lset]
    refine a_aload_n dX2_bitsOfRow_41 rfl ?_
    refine a_iload dX2_bitsOfRow_42 rfl ?_
    refine a_iload dX2_bitsOfRow_44 rfl ?_
    refine a_cV2i dX2_bitsOfRow_46 ml_2_26 wv_2_areJoined (kdB hb rfl) rfl (by decide) (Nat.le_of_ble_eq_true rfl) (c2_areJoined hb hl ⟨rfl, rfl⟩) ?_
    refine a_if_eq dX2_bitsOfRow_49 (tgt := 62) (by decide) (fun c49 => ?_) (fun c49 => ?_)
    · refine a_iconst (v := 0) dX2_bitsOfRow_62 (by decide) ?_
      exact a_iret dX2_bitsOfRow_63 rfl (by simpa [c31, c49] using hQ)
    · refine a_iload dX2_bitsOfRow_52 rfl ?_
      refine a_iload dX2_bitsOfRow_54 rfl ?_
      refine a_ishr dX2_bitsOfRow_56 ?_
      refine a_iconst (v := 1) dX2_bitsOfRow_57 (by decide) ?_
      refine a_iand dX2_bitsOfRow_58 ?_
      refine a_if_eq dX2_bitsOfRow_59 (tgt := 64) (by decide) (fun c59 => ?_) (fun c59 => ?_)
      · refine a_iload dX2_bitsOfRow_64 rfl ?_
        refine a_iconst (v := 1) dX2_bitsOfRow_66 (by decide) ?_
        refine a_iload dX2_bitsOfRow_67 rfl ?_
        refine a_ishl dX2_bitsOfRow_69 ?_
        refine a_ior dX2_bitsOfRow_70 ?_
        refine a_istore dX2_bitsOfRow_71 (by decide) rfl ?_
        dsimp only [lset]
        refine a_iload dX2_bitsOfRow_73 rfl ?_
        refine a_istore dX2_bitsOfRow_75 (by decide) rfl ?_
        dsimp only [lset]
        refine a_iload dX2_bitsOfRow_77 rfl ?_
        refine a_bipush (v := 10) dX2_bitsOfRow_79 (by decide) ?_
        refine a_idiv dX2_bitsOfRow_81 (by decide) ?_
        refine a_istore dX2_bitsOfRow_82 (by decide) rfl ?_
        dsimp only [lset]
        refine a_inc (c := 1) dX2_bitsOfRow_84 rfl (by decide) (by decide) rfl ?_
        dsimp only [lset]
        refine a_goto dX2_bitsOfRow_87 (tgt := 28) (by decide) ?_
        refine a_take 8 ?_
        dsimp only [List.take]
        rw [nI_1]
        exact l2_row hb hl hm (k + 1) (by omega) (by simpa [c49, c59] using hQ)
      · refine a_iconst (v := 0) dX2_bitsOfRow_62 (by decide) ?_
        exact a_iret dX2_bitsOfRow_63 rfl (by simpa [c31, c49, c59] using hQ)
termination_by m - k
decreasing_by all_goals omega
theorem c2_bitsOfRow {l : Launch} {G : GG} {h : AH} {Q : Option Value → AH → Prop} {b : Nat} (hb : isB b) (hl : (h.1 b 1 1).toInt ≤ 8) {m : Nat} (hm : m ≤ 100) (hm1 : 1 ≤ m) {x y : Int32} (hQ : Q (some (.int (rowF h b x y m))) h) : Ct l G 2 yX2_bitsOfRow cX2_bitsOfRow 9 (some .int) [.ref (G.1 b 1), .int x, .int y, .int (nI m)] h Q := by
  refine Ct.of (by decide) (Nat.le_of_ble_eq_true rfl) ?_
  show AW l G 2 RX2 cX2_bitsOfRow 9 (some .int) 0 [some (.ref (G.1 b 1)), some (.int x), some (.int y), some (.int (nI m))] [] h Q
  refine a_iload_n dX2_bitsOfRow_0 rfl ?_
  refine a_bipush (v := 10) dX2_bitsOfRow_1 (by decide) ?_
  refine a_irem dX2_bitsOfRow_3 (by decide) ?_
  refine a_istore dX2_bitsOfRow_4 (by decide) rfl ?_
  dsimp only [lset]
  refine a_iload dX2_bitsOfRow_6 rfl ?_
  refine a_iload_n dX2_bitsOfRow_8 rfl ?_
  refine a_icmp_eq dX2_bitsOfRow_9 (tgt := 14) (by decide) (fun c9 => ?_) (fun c9 => ?_)
  · refine a_iconst (v := 1) dX2_bitsOfRow_14 (by decide) ?_
    refine a_iload_n dX2_bitsOfRow_15 rfl ?_
    refine a_ishl dX2_bitsOfRow_16 ?_
    refine a_istore dX2_bitsOfRow_17 (by decide) rfl ?_
    dsimp only [lset]
    refine a_iload_n dX2_bitsOfRow_19 rfl ?_
    refine a_bipush (v := 10) dX2_bitsOfRow_20 (by decide) ?_
    refine a_idiv dX2_bitsOfRow_22 (by decide) ?_
    refine a_istore dX2_bitsOfRow_23 (by decide) rfl ?_
    dsimp only [lset]
    refine a_iconst (v := 1) dX2_bitsOfRow_25 (by decide) ?_
    refine a_istore dX2_bitsOfRow_26 (by decide) rfl ?_
    dsimp only [lset]
    exact l2_row hb hl hm 1 hm1 (by simpa [rowF, c9] using hQ)
  · refine a_iconst (v := 0) dX2_bitsOfRow_12 (by decide) ?_
    exact a_iret dX2_bitsOfRow_13 rfl (by simpa [rowF, c9] using hQ)
theorem l2_srI {l : Launch} {G : GG} {h : AH} {Q : Option Value → AH → Prop} {b : Nat} (hb : isB b) {n : Nat} (hn : h.1 b 1 1 = nI n) (h8 : n ≤ 8) {x y a r : Int32} {m : Nat} (k : Nat) (hk : k ≤ n) (hE : AW l G 0 RX2 cX2_shortestRow 8 (some .int) 61 [some (.ref (G.1 b 1)), some (.int x), some (.int y), some (.int a), some (.int r), some (.int (nI m)), some (.int (nextF h b r a n)), some (.int (nI n))] [] h Q) : AW l G 0 RX2 cX2_shortestRow 8 (some .int) 22 [some (.ref (G.1 b 1)), some (.int x), some (.int y), some (.int a), some (.int r), some (.int (nI m)), some (.int (nextF h b r a k)), some (.int (nI k))] [] h Q := by
  have hci : (nI k).toNatClampNeg = k := nI_clamp (by omega)
  refine a_iload dX2_shortestRow_22 rfl ?_
  refine a_aload_n dX2_shortestRow_24 rfl ?_
  refine a_getI (ci := 2) (j := 1) dX2_shortestRow_25 (kdB hb rfl) rfl (by decide) rfl fl_2_15 ?_
  try simp (disch := first | decide | assumption | omega) only [ui_eq, ui_k, ui_j, ui_b, ui_2, ul_1, ul_eq, ul_k, ul_j, ul_b, hci, hn]
  refine a_icmp_ge dX2_shortestRow_28 (tgt := 61) (by decide) (fun c28 => ?_) (fun c28 => ?_)
  · have hge : n ≤ k := le_of_le c28 (by omega) (by omega)
    have hke : k = n := by omega
    subst hke
    exact hE
  · have hlt : k < n := lt_of_nle c28 (by omega) (by omega)
    refine a_iload dX2_shortestRow_31 rfl ?_
    refine a_iload dX2_shortestRow_33 rfl ?_
    refine a_ishr dX2_shortestRow_35 ?_
    refine a_iconst (v := 1) dX2_shortestRow_36 (by decide) ?_
    refine a_iand dX2_shortestRow_37 ?_
    refine a_if_eq dX2_shortestRow_38 (tgt := 55) (by decide) (fun c38 => ?_) (fun c38 => ?_)
    · refine a_inc (c := 1) dX2_shortestRow_55 rfl (by decide) (by decide) rfl ?_
      dsimp only [lset]
      refine a_goto dX2_shortestRow_58 (tgt := 22) (by decide) ?_
      rw [nI_1]
      have e := l2_srI hb hn h8 (k + 1) (by omega) hE
      simpa [nextF, c38] using e
    · refine a_iload dX2_shortestRow_41 rfl ?_
      refine a_aload_n dX2_shortestRow_43 rfl ?_
      refine a_getR (ci := 2) (j := 0) dX2_shortestRow_44 (kdB hb rfl) rfl (by decide) rfl fl_2_9 ?_
      refine a_iload dX2_shortestRow_47 rfl ?_
      refine a_iaload dX2_shortestRow_49 (kdB hb rfl) (vp_in_nI (show k < 8 by omega) (by decide)) ?_
      try simp (disch := first | decide | assumption | omega) only [ui_eq, ui_k, ui_j, ui_b, ui_2, ul_1, ul_eq, ul_k, ul_j, ul_b, hci, hn]
      refine a_iload_n dX2_shortestRow_50 rfl ?_
      refine a_iand dX2_shortestRow_51 ?_
      refine a_ior dX2_shortestRow_52 ?_
      refine a_istore dX2_shortestRow_53 (by decide) rfl ?_
      dsimp only [lset]
      refine a_inc (c := 1) dX2_shortestRow_55 rfl (by decide) (by decide) rfl ?_
      dsimp only [lset]
      refine a_goto dX2_shortestRow_58 (tgt := 22) (by decide) ?_
      rw [nI_1]
      have e := l2_srI hb hn h8 (k + 1) (by omega) hE
      simpa [nextF, c38] using e
termination_by n - k
decreasing_by all_goals omega
theorem l2_sr {l : Launch} {G : GG} {h : AH} {Q : Option Value → AH → Prop} {b : Nat} (hb : isB b) {n : Nat} (hn : h.1 b 1 1 = nI n) (h8 : n ≤ 8) {x y a : Int32} (r : Int32) (m : Nat) (hm : m ≤ 9) (hQ : Q (some (.int (shortG h b n y a (9 - m) m r))) h) : AW l G 0 RX2 cX2_shortestRow 8 (some .int) 8 [some (.ref (G.1 b 1)), some (.int x), some (.int y), some (.int a), some (.int r), some (.int (nI m))] [] h Q := by
  refine a_iload dX2_shortestRow_8 rfl ?_
  refine a_bipush (v := 8) dX2_shortestRow_10 (by decide) ?_
  refine a_icmp_gt dX2_shortestRow_12 (tgt := 83) (by decide) (fun c12 => ?_) (fun c12 => ?_)
  · have hge : m = 9 := by
      have q : 8 < m := (nI_ltI (by decide) (by omega)).mp (show nI 8 < nI m from c12)
      omega
    subst hge
    rw [shortG] at hQ
    refine a_bipush (v := (-2)) dX2_shortestRow_83 (by decide) ?_
    exact a_iret dX2_shortestRow_85 rfl (by simpa [c12] using hQ)
  · have hle : m ≤ 8 := by
      rcases Nat.lt_or_ge 8 m with q | q
      · exact absurd ((nI_ltI (by decide) (by omega)).mpr q) c12
      · exact q
    rw [show 9 - m = (9 - (m + 1)) + 1 by omega, shortG] at hQ
    refine a_iload dX2_shortestRow_15 rfl ?_
    refine a_istore dX2_shortestRow_17 (by decide) rfl ?_
    dsimp only [lset]
    refine a_iconst (v := 0) dX2_shortestRow_19 (by decide) ?_
    refine a_istore dX2_shortestRow_20 (by decide) rfl ?_
    dsimp only [lset]
    refine l2_srI (k := 0) hb hn h8 (by omega) ?_
    refine a_iload dX2_shortestRow_61 rfl ?_
    refine a_iload_n dX2_shortestRow_63 rfl ?_
    refine a_ishr dX2_shortestRow_64 ?_
    refine a_iconst (v := 1) dX2_shortestRow_65 (by decide) ?_
    refine a_iand dX2_shortestRow_66 ?_
    refine a_if_eq dX2_shortestRow_67 (tgt := 73) (by decide) (fun c67 => ?_) (fun c67 => ?_)
    · refine a_iload dX2_shortestRow_73 rfl ?_
      refine a_istore dX2_shortestRow_75 (by decide) rfl ?_
      dsimp only [lset]
      refine a_inc (c := 1) dX2_shortestRow_77 rfl (by decide) (by decide) rfl ?_
      dsimp only [lset]
      refine a_goto dX2_shortestRow_80 (tgt := 8) (by decide) ?_
      refine a_take 6 ?_
      dsimp only [List.take]
      rw [nI_1]
      exact l2_sr hb hn h8 _ (m + 1) (by omega) (by simpa [c67] using hQ)
    · refine a_iload dX2_shortestRow_70 rfl ?_
      exact a_iret dX2_shortestRow_72 rfl (by simpa [c12, c67] using hQ)
termination_by 9 - m
decreasing_by all_goals omega
theorem c2_shortestRow {l : Launch} {G : GG} {h : AH} {Q : Option Value → AH → Prop} {b : Nat} (hb : isB b) {n : Nat} (hn : h.1 b 1 1 = nI n) (h8 : n ≤ 8) {x y a : Int32} (hQ : Q (some (.int (shortF h b n x y a))) h) : Ct l G 0 yX2_shortestRow cX2_shortestRow 8 (some .int) [.ref (G.1 b 1), .int x, .int y, .int a] h Q := by
  refine Ct.of (by decide) (Nat.le_of_ble_eq_true rfl) ?_
  show AW l G 0 RX2 cX2_shortestRow 8 (some .int) 0 [some (.ref (G.1 b 1)), some (.int x), some (.int y), some (.int a)] [] h Q
  refine a_iconst (v := 1) dX2_shortestRow_0 (by decide) ?_
  refine a_iload_n dX2_shortestRow_1 rfl ?_
  refine a_ishl dX2_shortestRow_2 ?_
  refine a_istore dX2_shortestRow_3 (by decide) rfl ?_
  dsimp only [lset]
  refine a_iconst (v := 2) dX2_shortestRow_5 (by decide) ?_
  refine a_istore dX2_shortestRow_6 (by decide) rfl ?_
  dsimp only [lset]
  exact l2_sr hb hn h8 _ 2 (by omega) hQ
end
section
def clrQ (h : AH) (b i : Nat) : AH := (fun b' k' j' => if b' = b ∧ j' < i ∧ (k' = 18 ∨ k' = 19 ∨ k' = 20) then (if k' = 18 then -1 else 0) else h.1 b' k' j', h.2)
theorem clrQ_0 (h : AH) (b : Nat) : clrQ h b 0 = h := by simp [clrQ]
theorem clrQ_s (h : AH) (b i : Nat) : ui (ui (ui (clrQ h b i) b 18 i (-1)) b 19 i 0) b 20 i 0 = clrQ h b (i + 1) := by
  refine ah_ext (fun b' k' j' => ?_) rfl
  simp only [ui, clrQ]
  by_cases hb : b' = b
  · by_cases h1 : k' = 18
    · by_cases h2 : j' = i
      · simp [hb, h1, h2]
      · simp [hb, h1, h2, show j' < i + 1 ↔ j' < i by omega]
    · by_cases h3 : k' = 19
      · by_cases h2 : j' = i
        · simp [hb, h3, h2]
        · simp [hb, h3, h2, show j' < i + 1 ↔ j' < i by omega]
      · by_cases h4 : k' = 20
        · by_cases h2 : j' = i
          · simp [hb, h4, h2]
          · simp [hb, h4, h2, show j' < i + 1 ↔ j' < i by omega]
        · simp [h1, h3, h4]
  · simp [hb]
def clearQ (h : AH) (b : Nat) : AH := clrQ (ui h b 15 5 0) b 8
def addQ (h : AH) (b : Nat) (x y : Int32) : AH := ui (ui (ui h b 16 (h.1 b 15 5).toNatClampNeg x) b 17 (h.1 b 15 5).toNatClampNeg y) b 15 5 (h.1 b 15 5 + 1)
theorem l3_clear {l : Launch} {G : GG} {h : AH} {Q : Option Value → AH → Prop} {b : Nat} (hb : isB b) (i : Nat) (hi : i ≤ 8) (hQ : Q none (clrQ h b 8)) : AW l G 0 RX3 cX3_clear 2 none 7 [some (.ref (G.1 b 15)), some (.int (nI i))] [] (clrQ h b i) Q := by
  have hci : (nI i).toNatClampNeg = i := nI_clamp (by omega)
  refine a_iload_n dX3_clear_7 rfl ?_
  refine a_bipush (v := 8) dX3_clear_8 (by decide) ?_
  refine a_icmp_ge dX3_clear_10 (tgt := 40) (by decide) (fun c10 => ?_) (fun c10 => ?_)
  · have hlt : 8 ≤ i := le_of_le (b := 8) c10 (by omega) (by decide)
    have hie : i = 8 := by omega
    subst hie
    exact a_vret dX3_clear_40 rfl hQ
  · have hlt : i < 8 := lt_of_nle (b := 8) c10 (by omega) (by decide)
    refine a_aload_n dX3_clear_13 rfl ?_
    refine a_getR (ci := 3) (j := 2) dX3_clear_14 (kdB hb rfl) rfl (by decide) rfl fl_3_18 ?_
    refine a_iload_n dX3_clear_17 rfl ?_
    refine a_iconst (v := (-1)) dX3_clear_18 (by decide) ?_
    refine a_iastore dX3_clear_19 (kdB hb rfl) (vp_in_nI hlt (by decide)) ?_
    refine a_aload_n dX3_clear_20 rfl ?_
    refine a_getR (ci := 3) (j := 3) dX3_clear_21 (kdB hb rfl) rfl (by decide) rfl fl_3_21 ?_
    refine a_iload_n dX3_clear_24 rfl ?_
    refine a_iconst (v := 0) dX3_clear_25 (by decide) ?_
    refine a_iastore dX3_clear_26 (kdB hb rfl) (vp_in_nI hlt (by decide)) ?_
    refine a_aload_n dX3_clear_27 rfl ?_
    refine a_getR (ci := 3) (j := 4) dX3_clear_28 (kdB hb rfl) rfl (by decide) rfl fl_3_24 ?_
    refine a_iload_n dX3_clear_31 rfl ?_
    refine a_iconst (v := 0) dX3_clear_32 (by decide) ?_
    refine a_iastore dX3_clear_33 (kdB hb rfl) (vp_in_nI hlt (by decide)) ?_
    refine a_inc (c := 1) dX3_clear_34 rfl (by decide) (by decide) rfl ?_
    dsimp only [lset]
    refine a_goto dX3_clear_37 (tgt := 7) (by decide) ?_
    rw [hci, clrQ_s, nI_1]
    exact l3_clear hb (i + 1) (by omega) hQ
termination_by 8 - i
decreasing_by all_goals omega
theorem c3_clear {l : Launch} {G : GG} {h : AH} {Q : Option Value → AH → Prop} {b : Nat} (hb : isB b) (hQ : Q none (clearQ h b)) : Ct l G 0 yX3_clear cX3_clear 2 none [.ref (G.1 b 15)] h Q := by
  refine Ct.of (by decide) (Nat.le_of_ble_eq_true rfl) ?_
  show AW l G 0 RX3 cX3_clear 2 none 0 [some (.ref (G.1 b 15))] [] h Q
  refine a_aload_n dX3_clear_0 rfl ?_
  refine a_iconst (v := 0) dX3_clear_1 (by decide) ?_
  refine a_putI (ci := 3) (j := 5) dX3_clear_2 (kdB hb rfl) rfl (by decide) (by decide) rfl fl_3_27 ?_
  refine a_iconst (v := 0) dX3_clear_5 (by decide) ?_
  refine a_istore_n dX3_clear_6 (by decide) rfl ?_
  dsimp only [lset]
  have e := l3_clear (l := l) (G := G) (h := ui h b 15 5 0) hb 0 (by omega) hQ
  rw [clrQ_0] at e
  exact e
theorem c3_add {l : Launch} {G : GG} {h : AH} {Q : Option Value → AH → Prop} {b : Nat} (hb : isB b) {x y : Int32} (hn : ¬ h.1 b 15 5 < 0) (hn2 : ¬ 8 ≤ h.1 b 15 5) (hin : vp_in (h.1 b 15 5) 8) (hQ : Q none (addQ h b x y)) : Ct l G 0 yX3_add cX3_add 3 none [.ref (G.1 b 15), .int x, .int y] h Q := by
  refine Ct.of (by decide) (Nat.le_of_ble_eq_true rfl) ?_
  show AW l G 0 RX3 cX3_add 3 none 0 [some (.ref (G.1 b 15)), some (.int x), some (.int y)] [] h Q
  refine a_aload_n dX3_add_0 rfl ?_
  refine a_getI (ci := 3) (j := 5) dX3_add_1 (kdB hb rfl) rfl (by decide) rfl fl_3_27 ?_
  refine a_if_lt dX3_add_4 (tgt := 46) (by decide) (fun c4 => ?_) (fun c4 => ?_)
  · exact absurd c4 hn
  · refine a_aload_n dX3_add_7 rfl ?_
    refine a_getI (ci := 3) (j := 5) dX3_add_8 (kdB hb rfl) rfl (by decide) rfl fl_3_27 ?_
    refine a_bipush (v := 8) dX3_add_11 (by decide) ?_
    refine a_icmp_ge dX3_add_13 (tgt := 46) (by decide) (fun c13 => ?_) (fun c13 => ?_)
    · exact absurd c13 hn2
    · refine a_aload_n dX3_add_16 rfl ?_
      refine a_getR (ci := 3) (j := 0) dX3_add_17 (kdB hb rfl) rfl (by decide) rfl fl_3_9 ?_
      refine a_aload_n dX3_add_20 rfl ?_
      refine a_getI (ci := 3) (j := 5) dX3_add_21 (kdB hb rfl) rfl (by decide) rfl fl_3_27 ?_
      refine a_iload_n dX3_add_24 rfl ?_
      refine a_iastore dX3_add_25 (kdB hb rfl) (by assumption) ?_
      refine a_aload_n dX3_add_26 rfl ?_
      refine a_getR (ci := 3) (j := 1) dX3_add_27 (kdB hb rfl) rfl (by decide) rfl fl_3_15 ?_
      refine a_aload_n dX3_add_30 rfl ?_
      refine a_getI (ci := 3) (j := 5) dX3_add_31 (kdB hb rfl) rfl (by decide) rfl fl_3_27 ?_
      try simp (disch := first | decide | assumption | omega) only [ui_eq, ui_k, ui_j, ui_b, ui_2, ul_1, ul_eq, ul_k, ul_j, ul_b]
      refine a_iload_n dX3_add_34 rfl ?_
      refine a_iastore dX3_add_35 (kdB hb rfl) (by assumption) ?_
      refine a_aload_n dX3_add_36 rfl ?_
      refine a_dup dX3_add_37 rfl ?_
      refine a_getI (ci := 3) (j := 5) dX3_add_38 (kdB hb rfl) rfl (by decide) rfl fl_3_27 ?_
      try simp (disch := first | decide | assumption | omega) only [ui_eq, ui_k, ui_j, ui_b, ui_2, ul_1, ul_eq, ul_k, ul_j, ul_b]
      refine a_iconst (v := 1) dX3_add_41 (by decide) ?_
      refine a_iadd dX3_add_42 ?_
      refine a_putI (ci := 3) (j := 5) dX3_add_43 (kdB hb rfl) rfl (by decide) (by decide) rfl fl_3_27 ?_
      exact a_vret dX3_add_46 rfl hQ
theorem l3_all {l : Launch} {G : GG} {h : AH} {Q : Option Value → AH → Prop} {b : Nat} (hb : isB b) {n : Nat} (hn : h.1 b 15 5 = nI n) (h8 : n ≤ 8) (i : Nat) (hi : i ≤ n) (hQ : Q (some (.int (sumI (h.1 b 19) n))) h) : AW l G 0 RX3 cX3_allMisuses 3 (some .int) 4 [some (.ref (G.1 b 15)), some (.int (sumI (h.1 b 19) i)), some (.int (nI i))] [] h Q := by
  have hci : (nI i).toNatClampNeg = i := nI_clamp (by omega)
  refine a_iload_n dX3_allMisuses_4 rfl ?_
  refine a_aload_n dX3_allMisuses_5 rfl ?_
  refine a_getI (ci := 3) (j := 5) dX3_allMisuses_6 (kdB hb rfl) rfl (by decide) rfl fl_3_27 ?_
  try simp (disch := first | decide | assumption | omega) only [ui_eq, ui_k, ui_j, ui_b, ui_2, ul_1, ul_eq, ul_k, ul_j, ul_b, hci, hn]
  refine a_icmp_ge dX3_allMisuses_9 (tgt := 27) (by decide) (fun c9 => ?_) (fun c9 => ?_)
  · have hge : n ≤ i := le_of_le c9 (by omega) (by omega)
    have hie : i = n := by omega
    subst hie
    refine a_iload_n dX3_allMisuses_27 rfl ?_
    exact a_iret dX3_allMisuses_28 rfl hQ
  · have hlt : i < n := lt_of_nle c9 (by omega) (by omega)
    refine a_iload_n dX3_allMisuses_12 rfl ?_
    refine a_aload_n dX3_allMisuses_13 rfl ?_
    refine a_getR (ci := 3) (j := 3) dX3_allMisuses_14 (kdB hb rfl) rfl (by decide) rfl fl_3_21 ?_
    refine a_iload_n dX3_allMisuses_17 rfl ?_
    refine a_iaload dX3_allMisuses_18 (kdB hb rfl) (vp_in_nI (show i < 8 by omega) (by decide)) ?_
    try simp (disch := first | decide | assumption | omega) only [ui_eq, ui_k, ui_j, ui_b, ui_2, ul_1, ul_eq, ul_k, ul_j, ul_b, hci, hn]
    refine a_iadd dX3_allMisuses_19 ?_
    refine a_istore_n dX3_allMisuses_20 (by decide) rfl ?_
    dsimp only [lset]
    refine a_inc (c := 1) dX3_allMisuses_21 rfl (by decide) (by decide) rfl ?_
    dsimp only [lset]
    refine a_goto dX3_allMisuses_24 (tgt := 4) (by decide) ?_
    rw [nI_1]
    exact l3_all hb hn h8 (i + 1) (by omega) hQ
termination_by n - i
decreasing_by all_goals omega
theorem c3_allMisuses {l : Launch} {G : GG} {h : AH} {Q : Option Value → AH → Prop} {b : Nat} (hb : isB b) {n : Nat} (hn : h.1 b 15 5 = nI n) (h8 : n ≤ 8) (hQ : Q (some (.int (sumI (h.1 b 19) n))) h) : Ct l G 0 yX3_allMisuses cX3_allMisuses 3 (some .int) [.ref (G.1 b 15)] h Q := by
  refine Ct.of (by decide) (Nat.le_of_ble_eq_true rfl) ?_
  show AW l G 0 RX3 cX3_allMisuses 3 (some .int) 0 [some (.ref (G.1 b 15))] [] h Q
  refine a_iconst (v := 0) dX3_allMisuses_0 (by decide) ?_
  refine a_istore_n dX3_allMisuses_1 (by decide) rfl ?_
  dsimp only [lset]
  refine a_iconst (v := 0) dX3_allMisuses_2 (by decide) ?_
  refine a_istore_n dX3_allMisuses_3 (by decide) rfl ?_
  dsimp only [lset]
  exact l3_all hb hn h8 0 (by omega) hQ
end
section
def mx1 (x : Int32) : Int32 := if (1 : Int32) < x then x else 1
def reisF (h : AH) (b : Nat) (x : Int32) : Int32 := h.1 b 14 x.toNatClampNeg / mx1 (h.1 b 3 12)
def outF (h : AH) (b : Nat) (x : Int32) : Int32 := (h.1 b 11 x.toNatClampNeg + mx1 (h.1 b 5 x.toNatClampNeg) - 1) / mx1 (h.1 b 5 x.toNatClampNeg)
def inF (h : AH) (b : Nat) (x : Int32) : Int32 := h.1 b 8 x.toNatClampNeg + reisF h b x - outF h b x - h.1 b 12 x.toNatClampNeg - h.1 b 13 x.toNatClampNeg - h.1 b 14 x.toNatClampNeg
def freeF (h : AH) (b : Nat) (x : Int32) : Int32 := inF h b x * h.1 b 5 x.toNatClampNeg + (outF h b x * h.1 b 5 x.toNatClampNeg - h.1 b 11 x.toNatClampNeg)
def forF (h : AH) (b : Nat) (x y : Int32) : Int32 := if y &&& (h.1 b 10 x.toNatClampNeg ^^^ (-1)) = 0 then 1 else 0
def engF (h : AH) (b : Nat) (x y : Int32) : Int32 := if y < h.1 b 6 x.toNatClampNeg then 0 else 1
def giveF (h : AH) (b : Nat) (x la t : Int32) : AH :=
  if hasI (h.1 b 3 11) x = 0 then h else
    let h1 := ui h b 11 x.toNatClampNeg (h.1 b 11 x.toNatClampNeg - t)
    if h.1 b 4 x.toNatClampNeg = 0 then (if la = 0 then ui h1 b 12 x.toNatClampNeg (h.1 b 12 x.toNatClampNeg + t) else ui h1 b 13 x.toNatClampNeg (h.1 b 13 x.toNatClampNeg + t)) else h1
def moveF (h : AH) (b : Nat) (x n : Int32) : AH :=
  if hasI (h.1 b 3 11) x = 0 then h else ui (ui h b 12 x.toNatClampNeg (h.1 b 12 x.toNatClampNeg - n)) b 14 x.toNatClampNeg (h.1 b 14 x.toNatClampNeg + n)
def clrP (h : AH) (b i : Nat) : AH := (fun b' k' j' => if b' = b ∧ j' < i ∧ (k' = 11 ∨ k' = 12 ∨ k' = 13 ∨ k' = 14) then 0 else h.1 b' k' j', h.2)
theorem clrP_0 (h : AH) (b : Nat) : clrP h b 0 = h := by simp [clrP]
theorem clrP_s (h : AH) (b i : Nat) : ui (ui (ui (ui (clrP h b i) b 11 i 0) b 12 i 0) b 13 i 0) b 14 i 0 = clrP h b (i + 1) := by
  refine ah_ext (fun b' k' j' => ?_) rfl
  simp only [ui, clrP]
  by_cases hb : b' = b
  · by_cases hk : k' = 11 ∨ k' = 12 ∨ k' = 13 ∨ k' = 14
    · by_cases h2 : j' = i
      · rcases hk with hk | hk | hk | hk <;> simp [hb, hk, h2]
      · rcases hk with hk | hk | hk | hk <;> simp [hb, hk, h2, show j' < i + 1 ↔ j' < i by omega]
    · have e1 : ¬ k' = 11 := by omega
      have e2 : ¬ k' = 12 := by omega
      have e3 : ¬ k' = 13 := by omega
      have e4 : ¬ k' = 14 := by omega
      simp [e1, e2, e3, e4]
  · simp [hb]
def clearP (h : AH) (b : Nat) : AH := clrP (ui (ui h b 3 11 0) b 3 12 1) b 6
def addP (h : AH) (b : Nat) (kd bits : Int32) : AH :=
  let c := (h.1 b 3 11).toNatClampNeg
  ui (ui (ui (ui (ui (ui (ui (ui h b 4 c kd) b 5 c (h.1 0 5 0)) b 6 c (h.1 0 5 1)) b 7 c (h.1 0 5 2)) b 8 c (h.1 0 5 3)) b 9 c (h.1 0 5 4)) b 10 c bits) b 3 11 (h.1 b 3 11 + 1)
theorem c4_isFor {l : Launch} {G : GG} {h : AH} {Q : Option Value → AH → Prop} {b : Nat} (hb : isB b) {x : Int32} (hx : vp_in x 6) {y : Int32} (hQ : Q (some (.int (forF h b x y))) h) : Ct l G 0 yX4_isFor cX4_isFor 3 (some .boolean) [.ref (G.1 b 3), .int x, .int y] h Q := by
  refine Ct.of (by decide) (Nat.le_of_ble_eq_true rfl) ?_
  show AW l G 0 RX4 cX4_isFor 3 (some .boolean) 0 [some (.ref (G.1 b 3)), some (.int x), some (.int y)] [] h Q
  refine a_iload_n dX4_isFor_0 rfl ?_
  refine a_aload_n dX4_isFor_1 rfl ?_
  refine a_getR (ci := 4) (j := 6) dX4_isFor_2 (kdB hb rfl) rfl (by decide) rfl fl_4_30 ?_
  refine a_iload_n dX4_isFor_5 rfl ?_
  refine a_iaload dX4_isFor_6 (kdB hb rfl) (by assumption) ?_
  refine a_iconst (v := (-1)) dX4_isFor_7 (by decide) ?_
  refine a_ixor dX4_isFor_8 ?_
  refine a_iand dX4_isFor_9 ?_
  refine a_if_ne dX4_isFor_10 (tgt := 17) (by decide) (fun c10 => ?_) (fun c10 => ?_)
  · refine a_iconst (v := 0) dX4_isFor_17 (by decide) ?_
    exact a_zret dX4_isFor_18 rfl rfl (by simp only [forF, c10, if_true, if_false, not_true_eq_false, not_false_eq_true, Classical.not_not] at hQ ⊢; exact hQ)
  · refine a_iconst (v := 1) dX4_isFor_13 (by decide) ?_
    refine a_goto dX4_isFor_14 (tgt := 18) (by decide) ?_
    exact a_zret dX4_isFor_18 rfl rfl (by simp only [forF, c10, if_true, if_false, not_true_eq_false, not_false_eq_true, Classical.not_not] at hQ ⊢; exact hQ)
theorem c4_suitsEngine {l : Launch} {G : GG} {h : AH} {Q : Option Value → AH → Prop} {b : Nat} (hb : isB b) {x : Int32} (hx : vp_in x 6) {y : Int32} (hQ : Q (some (.int (engF h b x y))) h) : Ct l G 0 yX4_suitsEngine cX4_suitsEngine 3 (some .boolean) [.ref (G.1 b 3), .int x, .int y] h Q := by
  refine Ct.of (by decide) (Nat.le_of_ble_eq_true rfl) ?_
  show AW l G 0 RX4 cX4_suitsEngine 3 (some .boolean) 0 [some (.ref (G.1 b 3)), some (.int x), some (.int y)] [] h Q
  refine a_iload_n dX4_suitsEngine_0 rfl ?_
  refine a_aload_n dX4_suitsEngine_1 rfl ?_
  refine a_getR (ci := 4) (j := 2) dX4_suitsEngine_2 (kdB hb rfl) rfl (by decide) rfl fl_4_18 ?_
  refine a_iload_n dX4_suitsEngine_5 rfl ?_
  refine a_iaload dX4_suitsEngine_6 (kdB hb rfl) (by assumption) ?_
  refine a_icmp_lt dX4_suitsEngine_7 (tgt := 14) (by decide) (fun c7 => ?_) (fun c7 => ?_)
  · refine a_iconst (v := 0) dX4_suitsEngine_14 (by decide) ?_
    exact a_zret dX4_suitsEngine_15 rfl rfl (by simpa [engF, c7] using hQ)
  · refine a_iconst (v := 1) dX4_suitsEngine_10 (by decide) ?_
    refine a_goto dX4_suitsEngine_11 (tgt := 15) (by decide) ?_
    exact a_zret dX4_suitsEngine_15 rfl rfl (by simpa [engF, c7] using hQ)
theorem c4_countReissued {l : Launch} {G : GG} {h : AH} {Q : Option Value → AH → Prop} {b : Nat} (hb : isB b) {x : Int32} (hx : vp_in x 6) (hQ : Q (some (.int (reisF h b x))) h) : Ct l G 1 yX4_countReissued cX4_countReissued 2 (some .int) [.ref (G.1 b 3), .int x] h Q := by
  refine Ct.of (by decide) (Nat.le_of_ble_eq_true rfl) ?_
  show AW l G 1 RX4 cX4_countReissued 2 (some .int) 0 [some (.ref (G.1 b 3)), some (.int x)] [] h Q
  refine a_aload_n dX4_countReissued_0 rfl ?_
  refine a_getR (ci := 4) (j := 10) dX4_countReissued_1 (kdB hb rfl) rfl (by decide) rfl fl_4_42 ?_
  refine a_iload_n dX4_countReissued_4 rfl ?_
  refine a_iaload dX4_countReissued_5 (kdB hb rfl) (by assumption) ?_
  refine a_iconst (v := 1) dX4_countReissued_6 (by decide) ?_
  refine a_aload_n dX4_countReissued_7 rfl ?_
  refine a_getI (ci := 4) (j := 12) dX4_countReissued_8 (kdB hb rfl) rfl (by decide) rfl fl_4_45 ?_
  refine a_mmax dX4_countReissued_11 ml_4_52 (by decide) (Nat.le_of_ble_eq_true rfl) ?_
  refine a_idiv dX4_countReissued_14 (max1_ne _) ?_
  exact a_iret dX4_countReissued_15 rfl hQ
theorem c4_countOut {l : Launch} {G : GG} {h : AH} {Q : Option Value → AH → Prop} {b : Nat} (hb : isB b) {x : Int32} (hx : vp_in x 6) (hQ : Q (some (.int (outF h b x))) h) : Ct l G 1 yX4_countOut cX4_countOut 3 (some .int) [.ref (G.1 b 3), .int x] h Q := by
  refine Ct.of (by decide) (Nat.le_of_ble_eq_true rfl) ?_
  show AW l G 1 RX4 cX4_countOut 3 (some .int) 0 [some (.ref (G.1 b 3)), some (.int x)] [] h Q
  refine a_iconst (v := 1) dX4_countOut_0 (by decide) ?_
  refine a_aload_n dX4_countOut_1 rfl ?_
  refine a_getR (ci := 4) (j := 1) dX4_countOut_2 (kdB hb rfl) rfl (by decide) rfl fl_4_15 ?_
  refine a_iload_n dX4_countOut_5 rfl ?_
  refine a_iaload dX4_countOut_6 (kdB hb rfl) (by assumption) ?_
  refine a_mmax dX4_countOut_7 ml_4_52 (by decide) (Nat.le_of_ble_eq_true rfl) ?_
  refine a_istore_n dX4_countOut_10 (by decide) rfl ?_
  dsimp only [lset]
  refine a_aload_n dX4_countOut_11 rfl ?_
  refine a_getR (ci := 4) (j := 7) dX4_countOut_12 (kdB hb rfl) rfl (by decide) rfl fl_4_33 ?_
  refine a_iload_n dX4_countOut_15 rfl ?_
  refine a_iaload dX4_countOut_16 (kdB hb rfl) (by assumption) ?_
  refine a_iload_n dX4_countOut_17 rfl ?_
  refine a_iadd dX4_countOut_18 ?_
  refine a_iconst (v := 1) dX4_countOut_19 (by decide) ?_
  refine a_isub dX4_countOut_20 ?_
  refine a_iload_n dX4_countOut_21 rfl ?_
  refine a_idiv dX4_countOut_22 (max1_ne _) ?_
  exact a_iret dX4_countOut_23 rfl hQ
theorem c4_countIn {l : Launch} {G : GG} {h : AH} {Q : Option Value → AH → Prop} {b : Nat} (hb : isB b) {x : Int32} (hx : vp_in x 6) (hQ : Q (some (.int (inF h b x))) h) : Ct l G 2 yX4_countIn cX4_countIn 2 (some .int) [.ref (G.1 b 3), .int x] h Q := by
  refine Ct.of (by decide) (Nat.le_of_ble_eq_true rfl) ?_
  show AW l G 2 RX4 cX4_countIn 2 (some .int) 0 [some (.ref (G.1 b 3)), some (.int x)] [] h Q
  refine a_aload_n dX4_countIn_0 rfl ?_
  refine a_getR (ci := 4) (j := 4) dX4_countIn_1 (kdB hb rfl) rfl (by decide) rfl fl_4_24 ?_
  refine a_iload_n dX4_countIn_4 rfl ?_
  refine a_iaload dX4_countIn_5 (kdB hb rfl) (by assumption) ?_
  refine a_aload_n dX4_countIn_6 rfl ?_
  refine a_iload_n dX4_countIn_7 rfl ?_
  refine a_cV1i dX4_countIn_8 ml_4_58 wv_4_countReissued (kdB hb rfl) rfl (by decide) (Nat.le_of_ble_eq_true rfl) (c4_countReissued hb hx ⟨rfl, rfl⟩) ?_
  refine a_iadd dX4_countIn_11 ?_
  refine a_aload_n dX4_countIn_12 rfl ?_
  refine a_iload_n dX4_countIn_13 rfl ?_
  refine a_cV1i dX4_countIn_14 ml_4_62 wv_4_countOut (kdB hb rfl) rfl (by decide) (Nat.le_of_ble_eq_true rfl) (c4_countOut hb hx ⟨rfl, rfl⟩) ?_
  refine a_isub dX4_countIn_17 ?_
  refine a_aload_n dX4_countIn_18 rfl ?_
  refine a_getR (ci := 4) (j := 8) dX4_countIn_19 (kdB hb rfl) rfl (by decide) rfl fl_4_36 ?_
  refine a_iload_n dX4_countIn_22 rfl ?_
  refine a_iaload dX4_countIn_23 (kdB hb rfl) (by assumption) ?_
  refine a_isub dX4_countIn_24 ?_
  refine a_aload_n dX4_countIn_25 rfl ?_
  refine a_getR (ci := 4) (j := 9) dX4_countIn_26 (kdB hb rfl) rfl (by decide) rfl fl_4_39 ?_
  refine a_iload_n dX4_countIn_29 rfl ?_
  refine a_iaload dX4_countIn_30 (kdB hb rfl) (by assumption) ?_
  refine a_isub dX4_countIn_31 ?_
  refine a_aload_n dX4_countIn_32 rfl ?_
  refine a_getR (ci := 4) (j := 10) dX4_countIn_33 (kdB hb rfl) rfl (by decide) rfl fl_4_42 ?_
  refine a_iload_n dX4_countIn_36 rfl ?_
  refine a_iaload dX4_countIn_37 (kdB hb rfl) (by assumption) ?_
  refine a_isub dX4_countIn_38 ?_
  exact a_iret dX4_countIn_39 rfl hQ
theorem c4_countFree {l : Launch} {G : GG} {h : AH} {Q : Option Value → AH → Prop} {b : Nat} (hb : isB b) {x : Int32} (hx : vp_in x 6) (hQ : Q (some (.int (freeF h b x))) h) : Ct l G 3 yX4_countFree cX4_countFree 3 (some .int) [.ref (G.1 b 3), .int x] h Q := by
  refine Ct.of (by decide) (Nat.le_of_ble_eq_true rfl) ?_
  show AW l G 3 RX4 cX4_countFree 3 (some .int) 0 [some (.ref (G.1 b 3)), some (.int x)] [] h Q
  refine a_aload_n dX4_countFree_0 rfl ?_
  refine a_iload_n dX4_countFree_1 rfl ?_
  refine a_cV1i dX4_countFree_2 ml_4_62 wv_4_countOut (kdB hb rfl) rfl (by decide) (Nat.le_of_ble_eq_true rfl) (c4_countOut hb hx ⟨rfl, rfl⟩) ?_
  refine a_aload_n dX4_countFree_5 rfl ?_
  refine a_getR (ci := 4) (j := 1) dX4_countFree_6 (kdB hb rfl) rfl (by decide) rfl fl_4_15 ?_
  refine a_iload_n dX4_countFree_9 rfl ?_
  refine a_iaload dX4_countFree_10 (kdB hb rfl) (by assumption) ?_
  refine a_imul dX4_countFree_11 ?_
  refine a_aload_n dX4_countFree_12 rfl ?_
  refine a_getR (ci := 4) (j := 7) dX4_countFree_13 (kdB hb rfl) rfl (by decide) rfl fl_4_33 ?_
  refine a_iload_n dX4_countFree_16 rfl ?_
  refine a_iaload dX4_countFree_17 (kdB hb rfl) (by assumption) ?_
  refine a_isub dX4_countFree_18 ?_
  refine a_istore_n dX4_countFree_19 (by decide) rfl ?_
  dsimp only [lset]
  refine a_aload_n dX4_countFree_20 rfl ?_
  refine a_iload_n dX4_countFree_21 rfl ?_
  refine a_cV1i dX4_countFree_22 ml_4_65 wv_4_countIn (kdB hb rfl) rfl (by decide) (Nat.le_of_ble_eq_true rfl) (c4_countIn hb hx ⟨rfl, rfl⟩) ?_
  refine a_aload_n dX4_countFree_25 rfl ?_
  refine a_getR (ci := 4) (j := 1) dX4_countFree_26 (kdB hb rfl) rfl (by decide) rfl fl_4_15 ?_
  refine a_iload_n dX4_countFree_29 rfl ?_
  refine a_iaload dX4_countFree_30 (kdB hb rfl) (by assumption) ?_
  refine a_imul dX4_countFree_31 ?_
  refine a_iload_n dX4_countFree_32 rfl ?_
  refine a_iadd dX4_countFree_33 ?_
  exact a_iret dX4_countFree_34 rfl hQ
theorem c4_giveUp {l : Launch} {G : GG} {h : AH} {Q : Option Value → AH → Prop} {b : Nat} (hb : isB b) {x la t : Int32} (hp : (h.1 b 3 11).toInt ≤ 6) (hQ : Q none (giveF h b x la t)) : Ct l G 1 yX4_giveUp cX4_giveUp 4 none [.ref (G.1 b 3), .int x, .int la, .int t] h Q := by
  refine Ct.of (by decide) (Nat.le_of_ble_eq_true rfl) ?_
  show AW l G 1 RX4 cX4_giveUp 4 none 0 [some (.ref (G.1 b 3)), some (.int x), some (.int la), some (.int t)] [] h Q
  refine a_aload_n dX4_giveUp_0 rfl ?_
  refine a_iload_n dX4_giveUp_1 rfl ?_
  refine a_cV1i dX4_giveUp_2 ml_4_68 wv_4_has (kdB hb rfl) rfl (by decide) (Nat.le_of_ble_eq_true rfl) (c4_has hb ⟨rfl, rfl⟩) ?_
  refine a_if_ne dX4_giveUp_5 (tgt := 9) (by decide) (fun c5 => ?_) (fun c5 => ?_)
  · refine a_aload_n dX4_giveUp_9 rfl ?_
    refine a_getR (ci := 4) (j := 7) dX4_giveUp_10 (kdB hb rfl) rfl (by decide) rfl fl_4_33 ?_
    refine a_iload_n dX4_giveUp_13 rfl ?_
    refine a_dup2 dX4_giveUp_14 rfl rfl ?_
    refine a_iaload dX4_giveUp_15 (kdB hb rfl) (hasI_in c5 hp) ?_
    refine a_iload_n dX4_giveUp_16 rfl ?_
    refine a_isub dX4_giveUp_17 ?_
    refine a_iastore dX4_giveUp_18 (kdB hb rfl) (hasI_in c5 hp) ?_
    refine a_aload_n dX4_giveUp_19 rfl ?_
    refine a_getR (ci := 4) (j := 0) dX4_giveUp_20 (kdB hb rfl) rfl (by decide) rfl fl_4_9 ?_
    refine a_iload_n dX4_giveUp_23 rfl ?_
    refine a_iaload dX4_giveUp_24 (kdB hb rfl) (hasI_in c5 hp) ?_
    try simp (disch := first | decide | assumption | omega) only [ui_eq, ui_k, ui_j, ui_b, ui_2, ul_1, ul_eq, ul_k, ul_j, ul_b]
    refine a_if_ne dX4_giveUp_25 (tgt := 45) (by decide) (fun c25 => ?_) (fun c25 => ?_)
    · refine a_aload_n dX4_giveUp_45 rfl ?_
      refine a_getR (ci := 4) (j := 0) dX4_giveUp_46 (kdB hb rfl) rfl (by decide) rfl fl_4_9 ?_
      refine a_iload_n dX4_giveUp_49 rfl ?_
      refine a_iaload dX4_giveUp_50 (kdB hb rfl) (hasI_in c5 hp) ?_
      try simp (disch := first | decide | assumption | omega) only [ui_eq, ui_k, ui_j, ui_b, ui_2, ul_1, ul_eq, ul_k, ul_j, ul_b]
      refine a_if_ne dX4_giveUp_51 (tgt := 64) (by decide) (fun c51 => ?_) (fun c51 => ?_)
      · exact a_vret dX4_giveUp_64 rfl (by simpa [giveF, c5, c25, c51] using hQ)
      · exact absurd c51 c25
    · refine a_iload_n dX4_giveUp_28 rfl ?_
      refine a_if_ne dX4_giveUp_29 (tgt := 45) (by decide) (fun c29 => ?_) (fun c29 => ?_)
      · refine a_aload_n dX4_giveUp_45 rfl ?_
        refine a_getR (ci := 4) (j := 0) dX4_giveUp_46 (kdB hb rfl) rfl (by decide) rfl fl_4_9 ?_
        refine a_iload_n dX4_giveUp_49 rfl ?_
        refine a_iaload dX4_giveUp_50 (kdB hb rfl) (hasI_in c5 hp) ?_
        try simp (disch := first | decide | assumption | omega) only [ui_eq, ui_k, ui_j, ui_b, ui_2, ul_1, ul_eq, ul_k, ul_j, ul_b]
        refine a_if_ne dX4_giveUp_51 (tgt := 64) (by decide) (fun c51v2 => ?_) (fun c51v2 => ?_)
        · exact absurd c25 c51v2
        · refine a_aload_n dX4_giveUp_54 rfl ?_
          refine a_getR (ci := 4) (j := 9) dX4_giveUp_55 (kdB hb rfl) rfl (by decide) rfl fl_4_39 ?_
          refine a_iload_n dX4_giveUp_58 rfl ?_
          refine a_dup2 dX4_giveUp_59 rfl rfl ?_
          refine a_iaload dX4_giveUp_60 (kdB hb rfl) (hasI_in c5 hp) ?_
          try simp (disch := first | decide | assumption | omega) only [ui_eq, ui_k, ui_j, ui_b, ui_2, ul_1, ul_eq, ul_k, ul_j, ul_b]
          refine a_iload_n dX4_giveUp_61 rfl ?_
          refine a_iadd dX4_giveUp_62 ?_
          refine a_iastore dX4_giveUp_63 (kdB hb rfl) (hasI_in c5 hp) ?_
          exact a_vret dX4_giveUp_64 rfl (by simpa [giveF, c5, c25, c29, c51v2] using hQ)
      · refine a_aload_n dX4_giveUp_32 rfl ?_
        refine a_getR (ci := 4) (j := 8) dX4_giveUp_33 (kdB hb rfl) rfl (by decide) rfl fl_4_36 ?_
        refine a_iload_n dX4_giveUp_36 rfl ?_
        refine a_dup2 dX4_giveUp_37 rfl rfl ?_
        refine a_iaload dX4_giveUp_38 (kdB hb rfl) (hasI_in c5 hp) ?_
        try simp (disch := first | decide | assumption | omega) only [ui_eq, ui_k, ui_j, ui_b, ui_2, ul_1, ul_eq, ul_k, ul_j, ul_b]
        refine a_iload_n dX4_giveUp_39 rfl ?_
        refine a_iadd dX4_giveUp_40 ?_
        refine a_iastore dX4_giveUp_41 (kdB hb rfl) (hasI_in c5 hp) ?_
        refine a_goto dX4_giveUp_42 (tgt := 64) (by decide) ?_
        exact a_vret dX4_giveUp_64 rfl (by simpa [giveF, c5, c25, c29] using hQ)
  · exact a_vret dX4_giveUp_8 rfl (by simpa [giveF, c5] using hQ)
theorem c4_moveBack {l : Launch} {G : GG} {h : AH} {Q : Option Value → AH → Prop} {b : Nat} (hb : isB b) {x y : Int32} (hp : (h.1 b 3 11).toInt ≤ 6) (hQ : Q none (moveF h b x y)) : Ct l G 1 yX4_moveBack cX4_moveBack 3 none [.ref (G.1 b 3), .int x, .int y] h Q := by
  refine Ct.of (by decide) (Nat.le_of_ble_eq_true rfl) ?_
  show AW l G 1 RX4 cX4_moveBack 3 none 0 [some (.ref (G.1 b 3)), some (.int x), some (.int y)] [] h Q
  refine a_aload_n dX4_moveBack_0 rfl ?_
  refine a_iload_n dX4_moveBack_1 rfl ?_
  refine a_cV1i dX4_moveBack_2 ml_4_68 wv_4_has (kdB hb rfl) rfl (by decide) (Nat.le_of_ble_eq_true rfl) (c4_has hb ⟨rfl, rfl⟩) ?_
  refine a_if_eq dX4_moveBack_5 (tgt := 28) (by decide) (fun c5 => ?_) (fun c5 => ?_)
  · exact a_vret dX4_moveBack_28 rfl (by simpa [moveF, c5] using hQ)
  · refine a_aload_n dX4_moveBack_8 rfl ?_
    refine a_getR (ci := 4) (j := 8) dX4_moveBack_9 (kdB hb rfl) rfl (by decide) rfl fl_4_36 ?_
    refine a_iload_n dX4_moveBack_12 rfl ?_
    refine a_dup2 dX4_moveBack_13 rfl rfl ?_
    refine a_iaload dX4_moveBack_14 (kdB hb rfl) (hasI_in c5 hp) ?_
    refine a_iload_n dX4_moveBack_15 rfl ?_
    refine a_isub dX4_moveBack_16 ?_
    refine a_iastore dX4_moveBack_17 (kdB hb rfl) (hasI_in c5 hp) ?_
    refine a_aload_n dX4_moveBack_18 rfl ?_
    refine a_getR (ci := 4) (j := 10) dX4_moveBack_19 (kdB hb rfl) rfl (by decide) rfl fl_4_42 ?_
    refine a_iload_n dX4_moveBack_22 rfl ?_
    refine a_dup2 dX4_moveBack_23 rfl rfl ?_
    refine a_iaload dX4_moveBack_24 (kdB hb rfl) (hasI_in c5 hp) ?_
    try simp (disch := first | decide | assumption | omega) only [ui_eq, ui_k, ui_j, ui_b, ui_2, ul_1, ul_eq, ul_k, ul_j, ul_b]
    refine a_iload_n dX4_moveBack_25 rfl ?_
    refine a_iadd dX4_moveBack_26 ?_
    refine a_iastore dX4_moveBack_27 (kdB hb rfl) (hasI_in c5 hp) ?_
    exact a_vret dX4_moveBack_28 rfl (by simpa [moveF, c5] using hQ)
theorem l4_clear {l : Launch} {G : GG} {h : AH} {Q : Option Value → AH → Prop} {b : Nat} (hb : isB b) (i : Nat) (hi : i ≤ 6) (hQ : Q none (clrP h b 6)) : AW l G 0 RX4 cX4_clear 2 none 12 [some (.ref (G.1 b 3)), some (.int (nI i))] [] (clrP h b i) Q := by
  have hci : (nI i).toNatClampNeg = i := nI_clamp (by omega)
  refine a_iload_n dX4_clear_12 rfl ?_
  refine a_bipush (v := 6) dX4_clear_13 (by decide) ?_
  refine a_icmp_ge dX4_clear_15 (tgt := 52) (by decide) (fun c15 => ?_) (fun c15 => ?_)
  · have hlt : 6 ≤ i := le_of_le (b := 6) c15 (by omega) (by decide)
    have hie : i = 6 := by omega
    subst hie
    exact a_vret dX4_clear_52 rfl hQ
  · have hlt : i < 6 := lt_of_nle (b := 6) c15 (by omega) (by decide)
    refine a_aload_n dX4_clear_18 rfl ?_
    refine a_getR (ci := 4) (j := 7) dX4_clear_19 (kdB hb rfl) rfl (by decide) rfl fl_4_33 ?_
    refine a_iload_n dX4_clear_22 rfl ?_
    refine a_iconst (v := 0) dX4_clear_23 (by decide) ?_
    refine a_iastore dX4_clear_24 (kdB hb rfl) (vp_in_nI hlt (by decide)) ?_
    refine a_aload_n dX4_clear_25 rfl ?_
    refine a_getR (ci := 4) (j := 8) dX4_clear_26 (kdB hb rfl) rfl (by decide) rfl fl_4_36 ?_
    refine a_iload_n dX4_clear_29 rfl ?_
    refine a_iconst (v := 0) dX4_clear_30 (by decide) ?_
    refine a_iastore dX4_clear_31 (kdB hb rfl) (vp_in_nI hlt (by decide)) ?_
    refine a_aload_n dX4_clear_32 rfl ?_
    refine a_getR (ci := 4) (j := 9) dX4_clear_33 (kdB hb rfl) rfl (by decide) rfl fl_4_39 ?_
    refine a_iload_n dX4_clear_36 rfl ?_
    refine a_iconst (v := 0) dX4_clear_37 (by decide) ?_
    refine a_iastore dX4_clear_38 (kdB hb rfl) (vp_in_nI hlt (by decide)) ?_
    refine a_aload_n dX4_clear_39 rfl ?_
    refine a_getR (ci := 4) (j := 10) dX4_clear_40 (kdB hb rfl) rfl (by decide) rfl fl_4_42 ?_
    refine a_iload_n dX4_clear_43 rfl ?_
    refine a_iconst (v := 0) dX4_clear_44 (by decide) ?_
    refine a_iastore dX4_clear_45 (kdB hb rfl) (vp_in_nI hlt (by decide)) ?_
    refine a_inc (c := 1) dX4_clear_46 rfl (by decide) (by decide) rfl ?_
    dsimp only [lset]
    refine a_goto dX4_clear_49 (tgt := 12) (by decide) ?_
    rw [hci, clrP_s, nI_1]
    exact l4_clear hb (i + 1) (by omega) hQ
termination_by 6 - i
decreasing_by all_goals omega
theorem c4_clear {l : Launch} {G : GG} {h : AH} {Q : Option Value → AH → Prop} {b : Nat} (hb : isB b) (hQ : Q none (clearP h b)) : Ct l G 0 yX4_clear cX4_clear 2 none [.ref (G.1 b 3)] h Q := by
  refine Ct.of (by decide) (Nat.le_of_ble_eq_true rfl) ?_
  show AW l G 0 RX4 cX4_clear 2 none 0 [some (.ref (G.1 b 3))] [] h Q
  refine a_aload_n dX4_clear_0 rfl ?_
  refine a_iconst (v := 0) dX4_clear_1 (by decide) ?_
  refine a_putI (ci := 4) (j := 11) dX4_clear_2 (kdB hb rfl) rfl (by decide) (by decide) rfl fl_4_49 ?_
  refine a_aload_n dX4_clear_5 rfl ?_
  refine a_iconst (v := 1) dX4_clear_6 (by decide) ?_
  refine a_putI (ci := 4) (j := 12) dX4_clear_7 (kdB hb rfl) rfl (by decide) (by decide) rfl fl_4_45 ?_
  refine a_iconst (v := 0) dX4_clear_10 (by decide) ?_
  refine a_istore_n dX4_clear_11 (by decide) rfl ?_
  dsimp only [lset]
  have e := l4_clear (l := l) (G := G) (h := ui (ui h b 3 11 0) b 3 12 1) hb 0 (by omega) hQ
  rw [clrP_0] at e
  exact e
theorem c4_add {l : Launch} {G : GG} {h : AH} {Q : Option Value → AH → Prop} {b : Nat} (hb : isB b) {x y : Int32} (hn : ¬ h.1 b 3 11 < 0) (hn2 : ¬ 6 ≤ h.1 b 3 11) (hin : vp_in (h.1 b 3 11) 6) (hQ : Q none (addP h b x y)) : Ct l G 0 yX4_add cX4_add 4 none [.ref (G.1 b 3), .int x, .ref (G.1 0 5), .int y] h Q := by
  refine Ct.of (by decide) (Nat.le_of_ble_eq_true rfl) ?_
  show AW l G 0 RX4 cX4_add 4 none 0 [some (.ref (G.1 b 3)), some (.int x), some (.ref (G.1 0 5)), some (.int y)] [] h Q
  have hb0 : (0 : Nat) ≠ b := by rcases hb with rfl | rfl <;> decide
  refine a_aload_n dX4_add_0 rfl ?_
  refine a_getI (ci := 4) (j := 11) dX4_add_1 (kdB hb rfl) rfl (by decide) rfl fl_4_49 ?_
  refine a_if_lt dX4_add_4 (tgt := 22) (by decide) (fun c4 => ?_) (fun c4 => ?_)
  · exact absurd c4 hn
  · refine a_aload_n dX4_add_7 rfl ?_
    refine a_getI (ci := 4) (j := 11) dX4_add_8 (kdB hb rfl) rfl (by decide) rfl fl_4_49 ?_
    refine a_bipush (v := 6) dX4_add_11 (by decide) ?_
    refine a_icmp_ge dX4_add_13 (tgt := 22) (by decide) (fun c13 => ?_) (fun c13 => ?_)
    · exact absurd c13 hn2
    · refine a_aload_n dX4_add_16 rfl ?_
      refine a_alen (v := 5) dX4_add_17 rfl (Or.inl rfl) (by decide) ?_
      refine a_iconst (v := 5) dX4_add_18 (by decide) ?_
      refine a_icmp_ge dX4_add_19 (tgt := 23) (by decide) (fun c19 => ?_) (fun c19 => ?_)
      · refine a_aload_n dX4_add_23 rfl ?_
        refine a_getR (ci := 4) (j := 0) dX4_add_24 (kdB hb rfl) rfl (by decide) rfl fl_4_9 ?_
        refine a_aload_n dX4_add_27 rfl ?_
        refine a_getI (ci := 4) (j := 11) dX4_add_28 (kdB hb rfl) rfl (by decide) rfl fl_4_49 ?_
        refine a_iload_n dX4_add_31 rfl ?_
        refine a_iastore dX4_add_32 (kdB hb rfl) (by assumption) ?_
        refine a_aload_n dX4_add_33 rfl ?_
        refine a_getR (ci := 4) (j := 1) dX4_add_34 (kdB hb rfl) rfl (by decide) rfl fl_4_15 ?_
        refine a_aload_n dX4_add_37 rfl ?_
        refine a_getI (ci := 4) (j := 11) dX4_add_38 (kdB hb rfl) rfl (by decide) rfl fl_4_49 ?_
        try simp (disch := first | decide | assumption | omega) only [ui_eq, ui_k, ui_j, ui_b, ui_2, ul_1, ul_eq, ul_k, ul_j, ul_b]
        refine a_aload_n dX4_add_41 rfl ?_
        refine a_iconst (v := 0) dX4_add_42 (by decide) ?_
        refine a_iaload dX4_add_43 rfl (by rw [vp_in_iff]; decide) ?_
        try simp (disch := first | decide | assumption | omega) only [ui_eq, ui_k, ui_j, ui_b, ui_2, ul_1, ul_eq, ul_k, ul_j, ul_b]
        refine a_iastore dX4_add_44 (kdB hb rfl) (by assumption) ?_
        refine a_aload_n dX4_add_45 rfl ?_
        refine a_getR (ci := 4) (j := 2) dX4_add_46 (kdB hb rfl) rfl (by decide) rfl fl_4_18 ?_
        refine a_aload_n dX4_add_49 rfl ?_
        refine a_getI (ci := 4) (j := 11) dX4_add_50 (kdB hb rfl) rfl (by decide) rfl fl_4_49 ?_
        try simp (disch := first | decide | assumption | omega) only [ui_eq, ui_k, ui_j, ui_b, ui_2, ul_1, ul_eq, ul_k, ul_j, ul_b]
        refine a_aload_n dX4_add_53 rfl ?_
        refine a_iconst (v := 1) dX4_add_54 (by decide) ?_
        refine a_iaload dX4_add_55 rfl (by rw [vp_in_iff]; decide) ?_
        try simp (disch := first | decide | assumption | omega) only [ui_eq, ui_k, ui_j, ui_b, ui_2, ul_1, ul_eq, ul_k, ul_j, ul_b]
        refine a_iastore dX4_add_56 (kdB hb rfl) (by assumption) ?_
        refine a_aload_n dX4_add_57 rfl ?_
        refine a_getR (ci := 4) (j := 3) dX4_add_58 (kdB hb rfl) rfl (by decide) rfl fl_4_21 ?_
        refine a_aload_n dX4_add_61 rfl ?_
        refine a_getI (ci := 4) (j := 11) dX4_add_62 (kdB hb rfl) rfl (by decide) rfl fl_4_49 ?_
        try simp (disch := first | decide | assumption | omega) only [ui_eq, ui_k, ui_j, ui_b, ui_2, ul_1, ul_eq, ul_k, ul_j, ul_b]
        refine a_aload_n dX4_add_65 rfl ?_
        refine a_iconst (v := 2) dX4_add_66 (by decide) ?_
        refine a_iaload dX4_add_67 rfl (by rw [vp_in_iff]; decide) ?_
        try simp (disch := first | decide | assumption | omega) only [ui_eq, ui_k, ui_j, ui_b, ui_2, ul_1, ul_eq, ul_k, ul_j, ul_b]
        refine a_iastore dX4_add_68 (kdB hb rfl) (by assumption) ?_
        refine a_aload_n dX4_add_69 rfl ?_
        refine a_getR (ci := 4) (j := 4) dX4_add_70 (kdB hb rfl) rfl (by decide) rfl fl_4_24 ?_
        refine a_aload_n dX4_add_73 rfl ?_
        refine a_getI (ci := 4) (j := 11) dX4_add_74 (kdB hb rfl) rfl (by decide) rfl fl_4_49 ?_
        try simp (disch := first | decide | assumption | omega) only [ui_eq, ui_k, ui_j, ui_b, ui_2, ul_1, ul_eq, ul_k, ul_j, ul_b]
        refine a_aload_n dX4_add_77 rfl ?_
        refine a_iconst (v := 3) dX4_add_78 (by decide) ?_
        refine a_iaload dX4_add_79 rfl (by rw [vp_in_iff]; decide) ?_
        try simp (disch := first | decide | assumption | omega) only [ui_eq, ui_k, ui_j, ui_b, ui_2, ul_1, ul_eq, ul_k, ul_j, ul_b]
        refine a_iastore dX4_add_80 (kdB hb rfl) (by assumption) ?_
        refine a_aload_n dX4_add_81 rfl ?_
        refine a_getR (ci := 4) (j := 5) dX4_add_82 (kdB hb rfl) rfl (by decide) rfl fl_4_27 ?_
        refine a_aload_n dX4_add_85 rfl ?_
        refine a_getI (ci := 4) (j := 11) dX4_add_86 (kdB hb rfl) rfl (by decide) rfl fl_4_49 ?_
        try simp (disch := first | decide | assumption | omega) only [ui_eq, ui_k, ui_j, ui_b, ui_2, ul_1, ul_eq, ul_k, ul_j, ul_b]
        refine a_aload_n dX4_add_89 rfl ?_
        refine a_iconst (v := 4) dX4_add_90 (by decide) ?_
        refine a_iaload dX4_add_91 rfl (by rw [vp_in_iff]; decide) ?_
        try simp (disch := first | decide | assumption | omega) only [ui_eq, ui_k, ui_j, ui_b, ui_2, ul_1, ul_eq, ul_k, ul_j, ul_b]
        refine a_iastore dX4_add_92 (kdB hb rfl) (by assumption) ?_
        refine a_aload_n dX4_add_93 rfl ?_
        refine a_getR (ci := 4) (j := 6) dX4_add_94 (kdB hb rfl) rfl (by decide) rfl fl_4_30 ?_
        refine a_aload_n dX4_add_97 rfl ?_
        refine a_getI (ci := 4) (j := 11) dX4_add_98 (kdB hb rfl) rfl (by decide) rfl fl_4_49 ?_
        try simp (disch := first | decide | assumption | omega) only [ui_eq, ui_k, ui_j, ui_b, ui_2, ul_1, ul_eq, ul_k, ul_j, ul_b]
        refine a_iload_n dX4_add_101 rfl ?_
        refine a_iastore dX4_add_102 (kdB hb rfl) (by assumption) ?_
        refine a_aload_n dX4_add_103 rfl ?_
        refine a_dup dX4_add_104 rfl ?_
        refine a_getI (ci := 4) (j := 11) dX4_add_105 (kdB hb rfl) rfl (by decide) rfl fl_4_49 ?_
        try simp (disch := first | decide | assumption | omega) only [ui_eq, ui_k, ui_j, ui_b, ui_2, ul_1, ul_eq, ul_k, ul_j, ul_b]
        refine a_iconst (v := 1) dX4_add_108 (by decide) ?_
        refine a_iadd dX4_add_109 ?_
        refine a_putI (ci := 4) (j := 11) dX4_add_110 (kdB hb rfl) rfl (by decide) (by decide) rfl fl_4_49 ?_
        exact a_vret dX4_add_113 rfl (by simpa [addP] using hQ)
      · exact absurd (by decide) c19
end
section
def bytF (n s : Int32) : Int32 := (n >>> (s &&& 31)).toInt8.toInt32
def putF (h : AH) (n : Int32) (L : Nat) : AH :=
  ui (ui (ui (ui (ui (ui (ui (ui h 0 2 L (bytF n 24)) 0 1 1 (nI (L + 1))) 0 2 (L + 1) (bytF n 16)) 0 1 1 (nI (L + 1 + 1))) 0 2 (L + 1 + 1) (bytF n 8)) 0 1 1 (nI (L + 1 + 1 + 1))) 0 2 (L + 1 + 1 + 1) (bytF n 0)) 0 1 1 (nI (L + 1 + 1 + 1 + 1))
def atF (h : AH) (x : Int32) : Int32 := if x < 0 then -1 else if h.1 0 1 1 ≤ x then -1 else if 740 ≤ x then -1 else h.1 0 2 x.toNatClampNeg &&& 255
theorem in_of {x : Int32} {n : Int32} {N : Nat} (h1 : ¬ x < 0) (h2 : ¬ n ≤ x) (hn : n.toInt = N := by decide) : vp_in x N := by
  rw [Int32.lt_iff_toInt_lt] at h1
  rw [Int32.le_iff_toInt_le] at h2
  rw [vp_in_iff]
  have : (0 : Int32).toInt = 0 := by decide
  omega
theorem c7_at {l : Launch} {G : GG} {h : AH} {Q : Option Value → AH → Prop} {x : Int32} (hQ : Q (some (.int (atF h x))) h) : Ct l G 0 yX7_at cX7_at 2 (some .int) [.ref (G.1 0 1), .int x] h Q := by
  refine Ct.of (by decide) (Nat.le_of_ble_eq_true rfl) ?_
  show AW l G 0 RX7 cX7_at 2 (some .int) 0 [some (.ref (G.1 0 1)), some (.int x)] [] h Q
  refine a_iload_n dX7_at_0 rfl ?_
  refine a_if_lt dX7_at_1 (tgt := 34) (by decide) (fun c1 => ?_) (fun c1 => ?_)
  · refine a_iconst (v := (-1)) dX7_at_34 (by decide) ?_
    exact a_iret dX7_at_35 rfl (by simpa [atF, c1] using hQ)
  · refine a_iload_n dX7_at_4 rfl ?_
    refine a_aload_n dX7_at_5 rfl ?_
    refine a_getI (ci := 7) (j := 1) dX7_at_6 rfl rfl (by decide) rfl fl_7_15 ?_
    refine a_icmp_ge dX7_at_9 (tgt := 34) (by decide) (fun c9 => ?_) (fun c9 => ?_)
    · refine a_iconst (v := (-1)) dX7_at_34 (by decide) ?_
      exact a_iret dX7_at_35 rfl (by simpa [atF, c1, c9] using hQ)
    · refine a_iload_n dX7_at_12 rfl ?_
      refine a_aload_n dX7_at_13 rfl ?_
      refine a_getR (ci := 7) (j := 0) dX7_at_14 rfl rfl (by decide) rfl fl_7_9 ?_
      refine a_alen (v := 740) dX7_at_17 rfl (Or.inr rfl) (by decide) ?_
      refine a_icmp_ge dX7_at_18 (tgt := 34) (by decide) (fun c18 => ?_) (fun c18 => ?_)
      · refine a_iconst (v := (-1)) dX7_at_34 (by decide) ?_
        exact a_iret dX7_at_35 rfl (by simpa [atF, c1, c9, c18] using hQ)
      · refine a_aload_n dX7_at_21 rfl ?_
        refine a_getR (ci := 7) (j := 0) dX7_at_22 rfl rfl (by decide) rfl fl_7_9 ?_
        refine a_iload_n dX7_at_25 rfl ?_
        refine a_baload dX7_at_26 rfl (in_of c1 c18) ?_
        refine a_sipush (v := 255) dX7_at_27 (by decide) ?_
        refine a_iand dX7_at_30 ?_
        refine a_goto dX7_at_31 (tgt := 35) (by decide) ?_
        exact a_iret dX7_at_35 rfl (by simpa [atF, c1, c9, c18] using hQ)
theorem c7_putNumber {l : Launch} {G : GG} {h : AH} {Q : Option Value → AH → Prop} {x : Int32} {L : Nat} (hL : h.1 0 1 1 = nI L) (h740 : L + 4 ≤ 740) (hQ : Q none (putF h x L)) : Ct l G 0 yX7_putNumber cX7_putNumber 3 none [.ref (G.1 0 1), .int x] h Q := by
  refine Ct.of (by decide) (Nat.le_of_ble_eq_true rfl) ?_
  show AW l G 0 RX7 cX7_putNumber 3 none 0 [some (.ref (G.1 0 1)), some (.int x)] [] h Q
  have e0 : (nI L).toNatClampNeg = L := nI_clamp (by omega)
  have e1 : (nI (L + 1)).toNatClampNeg = L + 1 := nI_clamp (by omega)
  have e2 : (nI (L + 1 + 1)).toNatClampNeg = L + 1 + 1 := nI_clamp (by omega)
  have e3 : (nI (L + 1 + 1 + 1)).toNatClampNeg = L + 1 + 1 + 1 := nI_clamp (by omega)
  refine a_bipush (v := 24) dX7_putNumber_0 (by decide) ?_
  refine a_istore_n dX7_putNumber_2 (by decide) rfl ?_
  dsimp only [lset]
  refine a_iload_n dX7_putNumber_3 rfl ?_
  refine a_if_lt dX7_putNumber_4 (tgt := 48) (by decide) (fun c4 => ?_) (fun c4 => ?_)
  · exact absurd c4 (by decide)
  · refine a_aload_n dX7_putNumber_7 rfl ?_
    refine a_getI (ci := 7) (j := 1) dX7_putNumber_8 rfl rfl (by decide) rfl fl_7_15 ?_
    try simp (disch := first | decide | assumption | omega) only [ui_eq, ui_k, ui_j, ui_b, ui_2, ul_1, ul_eq, ul_k, ul_j, ul_b, hL, nI_1]
    refine a_aload_n dX7_putNumber_11 rfl ?_
    refine a_getR (ci := 7) (j := 0) dX7_putNumber_12 rfl rfl (by decide) rfl fl_7_9 ?_
    refine a_alen (v := 740) dX7_putNumber_15 rfl (Or.inr rfl) (by decide) ?_
    refine a_icmp_ge dX7_putNumber_16 (tgt := 42) (by decide) (fun c16 => ?_) (fun c16 => ?_)
    · exact absurd c16 (nI_ge (b := 740) (by omega) (by decide))
    · refine a_aload_n dX7_putNumber_19 rfl ?_
      refine a_getR (ci := 7) (j := 0) dX7_putNumber_20 rfl rfl (by decide) rfl fl_7_9 ?_
      refine a_aload_n dX7_putNumber_23 rfl ?_
      refine a_getI (ci := 7) (j := 1) dX7_putNumber_24 rfl rfl (by decide) rfl fl_7_15 ?_
      try simp (disch := first | decide | assumption | omega) only [ui_eq, ui_k, ui_j, ui_b, ui_2, ul_1, ul_eq, ul_k, ul_j, ul_b, hL, nI_1]
      refine a_iload_n dX7_putNumber_27 rfl ?_
      refine a_iload_n dX7_putNumber_28 rfl ?_
      refine a_ishr dX7_putNumber_29 ?_
      refine a_i2b dX7_putNumber_30 ?_
      refine a_bastore dX7_putNumber_31 rfl (vp_in_nI (by omega) (by decide)) ?_
      refine a_aload_n dX7_putNumber_32 rfl ?_
      refine a_dup dX7_putNumber_33 rfl ?_
      refine a_getI (ci := 7) (j := 1) dX7_putNumber_34 rfl rfl (by decide) rfl fl_7_15 ?_
      try simp (disch := first | decide | assumption | omega) only [ui_eq, ui_k, ui_j, ui_b, ui_2, ul_1, ul_eq, ul_k, ul_j, ul_b, hL, nI_1]
      refine a_iconst (v := 1) dX7_putNumber_37 (by decide) ?_
      refine a_iadd dX7_putNumber_38 ?_
      refine a_putI (ci := 7) (j := 1) dX7_putNumber_39 rfl rfl (by decide) (by decide) rfl fl_7_15 ?_
      refine a_inc (c := (-8)) dX7_putNumber_42 rfl (by decide) (by decide) rfl ?_
      dsimp only [lset]
      refine a_goto dX7_putNumber_45 (tgt := 3) (by decide) ?_
      refine a_iload_n dX7_putNumber_3 rfl ?_
      refine a_if_lt dX7_putNumber_4 (tgt := 48) (by decide) (fun c4v2 => ?_) (fun c4v2 => ?_)
      · exact absurd c4v2 (by decide)
      · refine a_aload_n dX7_putNumber_7 rfl ?_
        refine a_getI (ci := 7) (j := 1) dX7_putNumber_8 rfl rfl (by decide) rfl fl_7_15 ?_
        try simp (disch := first | decide | assumption | omega) only [ui_eq, ui_k, ui_j, ui_b, ui_2, ul_1, ul_eq, ul_k, ul_j, ul_b, hL, nI_1]
        refine a_aload_n dX7_putNumber_11 rfl ?_
        refine a_getR (ci := 7) (j := 0) dX7_putNumber_12 rfl rfl (by decide) rfl fl_7_9 ?_
        refine a_alen (v := 740) dX7_putNumber_15 rfl (Or.inr rfl) (by decide) ?_
        refine a_icmp_ge dX7_putNumber_16 (tgt := 42) (by decide) (fun c16v2 => ?_) (fun c16v2 => ?_)
        · exact absurd c16v2 (nI_ge (b := 740) (by omega) (by decide))
        · refine a_aload_n dX7_putNumber_19 rfl ?_
          refine a_getR (ci := 7) (j := 0) dX7_putNumber_20 rfl rfl (by decide) rfl fl_7_9 ?_
          refine a_aload_n dX7_putNumber_23 rfl ?_
          refine a_getI (ci := 7) (j := 1) dX7_putNumber_24 rfl rfl (by decide) rfl fl_7_15 ?_
          try simp (disch := first | decide | assumption | omega) only [ui_eq, ui_k, ui_j, ui_b, ui_2, ul_1, ul_eq, ul_k, ul_j, ul_b, hL, nI_1]
          refine a_iload_n dX7_putNumber_27 rfl ?_
          refine a_iload_n dX7_putNumber_28 rfl ?_
          refine a_ishr dX7_putNumber_29 ?_
          refine a_i2b dX7_putNumber_30 ?_
          refine a_bastore dX7_putNumber_31 rfl (vp_in_nI (by omega) (by decide)) ?_
          refine a_aload_n dX7_putNumber_32 rfl ?_
          refine a_dup dX7_putNumber_33 rfl ?_
          refine a_getI (ci := 7) (j := 1) dX7_putNumber_34 rfl rfl (by decide) rfl fl_7_15 ?_
          try simp (disch := first | decide | assumption | omega) only [ui_eq, ui_k, ui_j, ui_b, ui_2, ul_1, ul_eq, ul_k, ul_j, ul_b, hL, nI_1]
          refine a_iconst (v := 1) dX7_putNumber_37 (by decide) ?_
          refine a_iadd dX7_putNumber_38 ?_
          refine a_putI (ci := 7) (j := 1) dX7_putNumber_39 rfl rfl (by decide) (by decide) rfl fl_7_15 ?_
          refine a_inc (c := (-8)) dX7_putNumber_42 rfl (by decide) (by decide) rfl ?_
          dsimp only [lset]
          refine a_goto dX7_putNumber_45 (tgt := 3) (by decide) ?_
          refine a_iload_n dX7_putNumber_3 rfl ?_
          refine a_if_lt dX7_putNumber_4 (tgt := 48) (by decide) (fun c4v3 => ?_) (fun c4v3 => ?_)
          · exact absurd c4v3 (by decide)
          · refine a_aload_n dX7_putNumber_7 rfl ?_
            refine a_getI (ci := 7) (j := 1) dX7_putNumber_8 rfl rfl (by decide) rfl fl_7_15 ?_
            try simp (disch := first | decide | assumption | omega) only [ui_eq, ui_k, ui_j, ui_b, ui_2, ul_1, ul_eq, ul_k, ul_j, ul_b, hL, nI_1]
            refine a_aload_n dX7_putNumber_11 rfl ?_
            refine a_getR (ci := 7) (j := 0) dX7_putNumber_12 rfl rfl (by decide) rfl fl_7_9 ?_
            refine a_alen (v := 740) dX7_putNumber_15 rfl (Or.inr rfl) (by decide) ?_
            refine a_icmp_ge dX7_putNumber_16 (tgt := 42) (by decide) (fun c16v3 => ?_) (fun c16v3 => ?_)
            · exact absurd c16v3 (nI_ge (b := 740) (by omega) (by decide))
            · refine a_aload_n dX7_putNumber_19 rfl ?_
              refine a_getR (ci := 7) (j := 0) dX7_putNumber_20 rfl rfl (by decide) rfl fl_7_9 ?_
              refine a_aload_n dX7_putNumber_23 rfl ?_
              refine a_getI (ci := 7) (j := 1) dX7_putNumber_24 rfl rfl (by decide) rfl fl_7_15 ?_
              try simp (disch := first | decide | assumption | omega) only [ui_eq, ui_k, ui_j, ui_b, ui_2, ul_1, ul_eq, ul_k, ul_j, ul_b, hL, nI_1]
              refine a_iload_n dX7_putNumber_27 rfl ?_
              refine a_iload_n dX7_putNumber_28 rfl ?_
              refine a_ishr dX7_putNumber_29 ?_
              refine a_i2b dX7_putNumber_30 ?_
              refine a_bastore dX7_putNumber_31 rfl (vp_in_nI (by omega) (by decide)) ?_
              refine a_aload_n dX7_putNumber_32 rfl ?_
              refine a_dup dX7_putNumber_33 rfl ?_
              refine a_getI (ci := 7) (j := 1) dX7_putNumber_34 rfl rfl (by decide) rfl fl_7_15 ?_
              try simp (disch := first | decide | assumption | omega) only [ui_eq, ui_k, ui_j, ui_b, ui_2, ul_1, ul_eq, ul_k, ul_j, ul_b, hL, nI_1]
              refine a_iconst (v := 1) dX7_putNumber_37 (by decide) ?_
              refine a_iadd dX7_putNumber_38 ?_
              refine a_putI (ci := 7) (j := 1) dX7_putNumber_39 rfl rfl (by decide) (by decide) rfl fl_7_15 ?_
              refine a_inc (c := (-8)) dX7_putNumber_42 rfl (by decide) (by decide) rfl ?_
              dsimp only [lset]
              refine a_goto dX7_putNumber_45 (tgt := 3) (by decide) ?_
              refine a_iload_n dX7_putNumber_3 rfl ?_
              refine a_if_lt dX7_putNumber_4 (tgt := 48) (by decide) (fun c4v4 => ?_) (fun c4v4 => ?_)
              · exact absurd c4v4 (by decide)
              · refine a_aload_n dX7_putNumber_7 rfl ?_
                refine a_getI (ci := 7) (j := 1) dX7_putNumber_8 rfl rfl (by decide) rfl fl_7_15 ?_
                try simp (disch := first | decide | assumption | omega) only [ui_eq, ui_k, ui_j, ui_b, ui_2, ul_1, ul_eq, ul_k, ul_j, ul_b, hL, nI_1]
                refine a_aload_n dX7_putNumber_11 rfl ?_
                refine a_getR (ci := 7) (j := 0) dX7_putNumber_12 rfl rfl (by decide) rfl fl_7_9 ?_
                refine a_alen (v := 740) dX7_putNumber_15 rfl (Or.inr rfl) (by decide) ?_
                refine a_icmp_ge dX7_putNumber_16 (tgt := 42) (by decide) (fun c16v4 => ?_) (fun c16v4 => ?_)
                · exact absurd c16v4 (nI_ge (b := 740) (by omega) (by decide))
                · refine a_aload_n dX7_putNumber_19 rfl ?_
                  refine a_getR (ci := 7) (j := 0) dX7_putNumber_20 rfl rfl (by decide) rfl fl_7_9 ?_
                  refine a_aload_n dX7_putNumber_23 rfl ?_
                  refine a_getI (ci := 7) (j := 1) dX7_putNumber_24 rfl rfl (by decide) rfl fl_7_15 ?_
                  try simp (disch := first | decide | assumption | omega) only [ui_eq, ui_k, ui_j, ui_b, ui_2, ul_1, ul_eq, ul_k, ul_j, ul_b, hL, nI_1]
                  refine a_iload_n dX7_putNumber_27 rfl ?_
                  refine a_iload_n dX7_putNumber_28 rfl ?_
                  refine a_ishr dX7_putNumber_29 ?_
                  refine a_i2b dX7_putNumber_30 ?_
                  refine a_bastore dX7_putNumber_31 rfl (vp_in_nI (by omega) (by decide)) ?_
                  refine a_aload_n dX7_putNumber_32 rfl ?_
                  refine a_dup dX7_putNumber_33 rfl ?_
                  refine a_getI (ci := 7) (j := 1) dX7_putNumber_34 rfl rfl (by decide) rfl fl_7_15 ?_
                  try simp (disch := first | decide | assumption | omega) only [ui_eq, ui_k, ui_j, ui_b, ui_2, ul_1, ul_eq, ul_k, ul_j, ul_b, hL, nI_1]
                  refine a_iconst (v := 1) dX7_putNumber_37 (by decide) ?_
                  refine a_iadd dX7_putNumber_38 ?_
                  refine a_putI (ci := 7) (j := 1) dX7_putNumber_39 rfl rfl (by decide) (by decide) rfl fl_7_15 ?_
                  refine a_inc (c := (-8)) dX7_putNumber_42 rfl (by decide) (by decide) rfl ?_
                  dsimp only [lset]
                  refine a_goto dX7_putNumber_45 (tgt := 3) (by decide) ?_
                  refine a_iload_n dX7_putNumber_3 rfl ?_
                  refine a_if_lt dX7_putNumber_4 (tgt := 48) (by decide) (fun c4v5 => ?_) (fun c4v5 => ?_)
                  · exact a_vret dX7_putNumber_48 rfl (by
    have s1 : (24 : Int32) + -8 = 16 := by decide
    have s2 : (16 : Int32) + -8 = 8 := by decide
    have s3 : (8 : Int32) + -8 = 0 := by decide
    simpa [putF, bytF, e0, e1, e2, e3, s1, s2, s3, pk_vb, nI_1] using hQ)
                  · exact absurd (by decide) c4v5
end
section
def addT (h : AH) (b : Nat) (lo row many bits : Int32) : AH :=
  let t := (h.1 b 21 9).toNatClampNeg
  ui (ui (ui (ui (ui (ui (ui (ui (ui (ui h b 22 t lo) b 24 t row) b 23 t many) b 25 t bits) b 26 t 0) b 27 t (-1)) b 28 t (-1)) b 29 t (-1)) b 30 t 0) b 21 9 (h.1 b 21 9 + 1)
def divG : Nat → Int32 → Int32
  | 0, r => r
  | n + 1, r => divG n (r / 10)
def landF (h : AH) (b : Nat) (x k : Int32) : Int32 := if k < 0 then -1 else if k < h.1 b 23 x.toNatClampNeg then (divG k.toNatClampNeg (h.1 b 24 x.toNatClampNeg) - divG k.toNatClampNeg (h.1 b 24 x.toNatClampNeg) / 10 * 10) else -1
theorem c9_add {l : Launch} {G : GG} {h : AH} {Q : Option Value → AH → Prop} {b : Nat} (hb : isB b) {x y z u : Int32} (hn : ¬ h.1 b 21 9 < 0) (hn2 : h.1 b 21 9 < 40) (hin : vp_in (h.1 b 21 9) 40) (hQ : Q (some (.int (h.1 b 21 9))) (addT h b x y z u)) : Ct l G 0 yX9_add cX9_add 6 (some .int) [.ref (G.1 b 21), .int x, .int y, .int z, .int u] h Q := by
  refine Ct.of (by decide) (Nat.le_of_ble_eq_true rfl) ?_
  show AW l G 0 RX9 cX9_add 6 (some .int) 0 [some (.ref (G.1 b 21)), some (.int x), some (.int y), some (.int z), some (.int u)] [] h Q
  refine a_aload_n dX9_add_0 rfl ?_
  refine a_getI (ci := 9) (j := 9) dX9_add_1 (kdB hb rfl) rfl (by decide) rfl fl_9_39 ?_
  refine a_if_lt dX9_add_4 (tgt := 16) (by decide) (fun c4 => ?_) (fun c4 => ?_)
  · exact absurd c4 hn
  · refine a_aload_n dX9_add_7 rfl ?_
    refine a_getI (ci := 9) (j := 9) dX9_add_8 (kdB hb rfl) rfl (by decide) rfl fl_9_39 ?_
    refine a_bipush (v := 40) dX9_add_11 (by decide) ?_
    refine a_icmp_lt dX9_add_13 (tgt := 18) (by decide) (fun c13 => ?_) (fun c13 => ?_)
    · refine a_aload_n dX9_add_18 rfl ?_
      refine a_getI (ci := 9) (j := 9) dX9_add_19 (kdB hb rfl) rfl (by decide) rfl fl_9_39 ?_
      refine a_istore dX9_add_22 (by decide) rfl ?_
      dsimp only [lset]
      refine a_aload_n dX9_add_24 rfl ?_
      refine a_getR (ci := 9) (j := 0) dX9_add_25 (kdB hb rfl) rfl (by decide) rfl fl_9_9 ?_
      refine a_iload dX9_add_28 rfl ?_
      refine a_iload_n dX9_add_30 rfl ?_
      refine a_iastore dX9_add_31 (kdB hb rfl) (by assumption) ?_
      refine a_aload_n dX9_add_32 rfl ?_
      refine a_getR (ci := 9) (j := 2) dX9_add_33 (kdB hb rfl) rfl (by decide) rfl fl_9_18 ?_
      refine a_iload dX9_add_36 rfl ?_
      refine a_iload_n dX9_add_38 rfl ?_
      refine a_iastore dX9_add_39 (kdB hb rfl) (by assumption) ?_
      refine a_aload_n dX9_add_40 rfl ?_
      refine a_getR (ci := 9) (j := 1) dX9_add_41 (kdB hb rfl) rfl (by decide) rfl fl_9_15 ?_
      refine a_iload dX9_add_44 rfl ?_
      refine a_iload_n dX9_add_46 rfl ?_
      refine a_iastore dX9_add_47 (kdB hb rfl) (by assumption) ?_
      refine a_aload_n dX9_add_48 rfl ?_
      refine a_getR (ci := 9) (j := 3) dX9_add_49 (kdB hb rfl) rfl (by decide) rfl fl_9_21 ?_
      refine a_iload dX9_add_52 rfl ?_
      refine a_iload dX9_add_54 rfl ?_
      refine a_iastore dX9_add_56 (kdB hb rfl) (by assumption) ?_
      refine a_aload_n dX9_add_57 rfl ?_
      refine a_getR (ci := 9) (j := 4) dX9_add_58 (kdB hb rfl) rfl (by decide) rfl fl_9_24 ?_
      refine a_iload dX9_add_61 rfl ?_
      refine a_iconst (v := 0) dX9_add_63 (by decide) ?_
      refine a_iastore dX9_add_64 (kdB hb rfl) (by assumption) ?_
      refine a_aload_n dX9_add_65 rfl ?_
      refine a_getR (ci := 9) (j := 5) dX9_add_66 (kdB hb rfl) rfl (by decide) rfl fl_9_27 ?_
      refine a_iload dX9_add_69 rfl ?_
      refine a_iconst (v := (-1)) dX9_add_71 (by decide) ?_
      refine a_iastore dX9_add_72 (kdB hb rfl) (by assumption) ?_
      refine a_aload_n dX9_add_73 rfl ?_
      refine a_getR (ci := 9) (j := 6) dX9_add_74 (kdB hb rfl) rfl (by decide) rfl fl_9_30 ?_
      refine a_iload dX9_add_77 rfl ?_
      refine a_iconst (v := (-1)) dX9_add_79 (by decide) ?_
      refine a_iastore dX9_add_80 (kdB hb rfl) (by assumption) ?_
      refine a_aload_n dX9_add_81 rfl ?_
      refine a_getR (ci := 9) (j := 7) dX9_add_82 (kdB hb rfl) rfl (by decide) rfl fl_9_33 ?_
      refine a_iload dX9_add_85 rfl ?_
      refine a_iconst (v := (-1)) dX9_add_87 (by decide) ?_
      refine a_iastore dX9_add_88 (kdB hb rfl) (by assumption) ?_
      refine a_aload_n dX9_add_89 rfl ?_
      refine a_getR (ci := 9) (j := 8) dX9_add_90 (kdB hb rfl) rfl (by decide) rfl fl_9_36 ?_
      refine a_iload dX9_add_93 rfl ?_
      refine a_iconst (v := 0) dX9_add_95 (by decide) ?_
      refine a_iastore dX9_add_96 (kdB hb rfl) (by assumption) ?_
      refine a_aload_n dX9_add_97 rfl ?_
      refine a_dup dX9_add_98 rfl ?_
      refine a_getI (ci := 9) (j := 9) dX9_add_99 (kdB hb rfl) rfl (by decide) rfl fl_9_39 ?_
      try simp (disch := first | decide | assumption | omega) only [ui_eq, ui_k, ui_j, ui_b, ui_2, ul_1, ul_eq, ul_k, ul_j, ul_b]
      refine a_iconst (v := 1) dX9_add_102 (by decide) ?_
      refine a_iadd dX9_add_103 ?_
      refine a_putI (ci := 9) (j := 9) dX9_add_104 (kdB hb rfl) rfl (by decide) (by decide) rfl fl_9_39 ?_
      refine a_iload dX9_add_107 rfl ?_
      exact a_iret dX9_add_109 rfl hQ
    · exact absurd hn2 c13
theorem l9_land {l : Launch} {G : GG} {h : AH} {Q : Option Value → AH → Prop} {b : Nat} (hb : isB b) {x : Int32} {m : Nat} (hm : m < 2 ^ 31) (r : Int32) (i : Nat) (hi : i ≤ m) (hQ : Q (some (.int (divG (m - i) r - divG (m - i) r / 10 * 10))) h) : AW l G 0 RX9 cX9_landOf 5 (some .int) 26 [some (.ref (G.1 b 21)), some (.int x), some (.int (nI m)), some (.int r), some (.int (nI i))] [] h Q := by
  refine a_iload dX9_landOf_26 rfl ?_
  refine a_iload_n dX9_landOf_28 rfl ?_
  refine a_icmp_ge dX9_landOf_29 (tgt := 43) (by decide) (fun c29 => ?_) (fun c29 => ?_)
  · have hge : m ≤ i := le_of_le c29 (by omega) (by omega)
    rw [show m - i = 0 by omega, divG] at hQ
    refine a_iload_n dX9_landOf_43 rfl ?_
    refine a_bipush (v := 10) dX9_landOf_44 (by decide) ?_
    refine a_irem dX9_landOf_46 (by decide) ?_
    exact a_iret dX9_landOf_47 rfl hQ
  · have hlt : i < m := lt_of_nle c29 (by omega) (by omega)
    rw [show m - i = (m - (i + 1)) + 1 by omega, divG] at hQ
    refine a_iload_n dX9_landOf_32 rfl ?_
    refine a_bipush (v := 10) dX9_landOf_33 (by decide) ?_
    refine a_idiv dX9_landOf_35 (by decide) ?_
    refine a_istore_n dX9_landOf_36 (by decide) rfl ?_
    dsimp only [lset]
    refine a_inc (c := 1) dX9_landOf_37 rfl (by decide) (by decide) rfl ?_
    dsimp only [lset]
    refine a_goto dX9_landOf_40 (tgt := 26) (by decide) ?_
    rw [nI_1]
    exact l9_land hb hm _ (i + 1) (by omega) hQ
termination_by m - i
decreasing_by all_goals omega
theorem c9_landOf {l : Launch} {G : GG} {h : AH} {Q : Option Value → AH → Prop} {b : Nat} (hb : isB b) {x k : Int32} (hx : vp_in x 40) (hQ : Q (some (.int (landF h b x k))) h) : Ct l G 0 yX9_landOf cX9_landOf 5 (some .int) [.ref (G.1 b 21), .int x, .int k] h Q := by
  refine Ct.of (by decide) (Nat.le_of_ble_eq_true rfl) ?_
  show AW l G 0 RX9 cX9_landOf 5 (some .int) 0 [some (.ref (G.1 b 21)), some (.int x), some (.int k)] [] h Q
  refine a_iload_n dX9_landOf_0 rfl ?_
  refine a_if_lt dX9_landOf_1 (tgt := 14) (by decide) (fun c1 => ?_) (fun c1 => ?_)
  · refine a_iconst (v := (-1)) dX9_landOf_14 (by decide) ?_
    exact a_iret dX9_landOf_15 rfl (by simpa [landF, c1] using hQ)
  · refine a_iload_n dX9_landOf_4 rfl ?_
    refine a_aload_n dX9_landOf_5 rfl ?_
    refine a_getR (ci := 9) (j := 1) dX9_landOf_6 (kdB hb rfl) rfl (by decide) rfl fl_9_15 ?_
    refine a_iload_n dX9_landOf_9 rfl ?_
    refine a_iaload dX9_landOf_10 (kdB hb rfl) (by assumption) ?_
    refine a_icmp_lt dX9_landOf_11 (tgt := 16) (by decide) (fun c11 => ?_) (fun c11 => ?_)
    · refine a_aload_n dX9_landOf_16 rfl ?_
      refine a_getR (ci := 9) (j := 2) dX9_landOf_17 (kdB hb rfl) rfl (by decide) rfl fl_9_18 ?_
      refine a_iload_n dX9_landOf_20 rfl ?_
      refine a_iaload dX9_landOf_21 (kdB hb rfl) (by assumption) ?_
      refine a_istore_n dX9_landOf_22 (by decide) rfl ?_
      dsimp only [lset]
      refine a_iconst (v := 0) dX9_landOf_23 (by decide) ?_
      refine a_istore dX9_landOf_24 (by decide) rfl ?_
      dsimp only [lset]
      obtain ⟨m, hm, rfl⟩ := nI_of c1
      exact l9_land hb hm _ 0 (by omega) (by simpa [landF, c1, c11, nI_clamp hm] using hQ)
    · refine a_iconst (v := (-1)) dX9_landOf_14 (by decide) ?_
      exact a_iret dX9_landOf_15 rfl (by simpa [landF, c1, c11] using hQ)
theorem l9_cnt {l : Launch} {G : GG} {h : AH} {Q : Option Value → AH → Prop} {b : Nat} (hb : isB b) {x : Int32} {n : Nat} (hn : h.1 b 21 9 = nI n) (h40 : n ≤ 40) (i : Nat) (hi : i ≤ n) (hQ : Q (some (.int (cntI (h.1 b 26) x n))) h) : AW l G 0 RX9 cX9_countIn 4 (some .int) 4 [some (.ref (G.1 b 21)), some (.int x), some (.int (cntI (h.1 b 26) x i)), some (.int (nI i))] [] h Q := by
  have hci : (nI i).toNatClampNeg = i := nI_clamp (by omega)
  refine a_iload_n dX9_countIn_4 rfl ?_
  refine a_aload_n dX9_countIn_5 rfl ?_
  refine a_getI (ci := 9) (j := 9) dX9_countIn_6 (kdB hb rfl) rfl (by decide) rfl fl_9_39 ?_
  try simp (disch := first | decide | assumption | omega) only [ui_eq, ui_k, ui_j, ui_b, ui_2, ul_1, ul_eq, ul_k, ul_j, ul_b, hci, hn]
  refine a_icmp_ge dX9_countIn_9 (tgt := 31) (by decide) (fun c9 => ?_) (fun c9 => ?_)
  · have hge : n ≤ i := le_of_le c9 (by omega) (by omega)
    have hie : i = n := by omega
    subst hie
    refine a_iload_n dX9_countIn_31 rfl ?_
    exact a_iret dX9_countIn_32 rfl hQ
  · have hlt : i < n := lt_of_nle c9 (by omega) (by omega)
    refine a_aload_n dX9_countIn_12 rfl ?_
    refine a_getR (ci := 9) (j := 4) dX9_countIn_13 (kdB hb rfl) rfl (by decide) rfl fl_9_24 ?_
    refine a_iload_n dX9_countIn_16 rfl ?_
    refine a_iaload dX9_countIn_17 (kdB hb rfl) (vp_in_nI (show i < 40 by omega) (by decide)) ?_
    try simp (disch := first | decide | assumption | omega) only [ui_eq, ui_k, ui_j, ui_b, ui_2, ul_1, ul_eq, ul_k, ul_j, ul_b, hci, hn]
    refine a_iload_n dX9_countIn_18 rfl ?_
    refine a_icmp_ne dX9_countIn_19 (tgt := 25) (by decide) (fun c19 => ?_) (fun c19 => ?_)
    · refine a_inc (c := 1) dX9_countIn_25 rfl (by decide) (by decide) rfl ?_
      dsimp only [lset]
      refine a_goto dX9_countIn_28 (tgt := 4) (by decide) ?_
      rw [nI_1]
      have e := l9_cnt (l := l) (G := G) hb hn h40 (i + 1) (by omega) hQ
      simpa [cntI, c19] using e
    · refine a_inc (c := 1) dX9_countIn_22 rfl (by decide) (by decide) rfl ?_
      dsimp only [lset]
      refine a_inc (c := 1) dX9_countIn_25 rfl (by decide) (by decide) rfl ?_
      dsimp only [lset]
      refine a_goto dX9_countIn_28 (tgt := 4) (by decide) ?_
      rw [nI_1]
      have e := l9_cnt (l := l) (G := G) hb hn h40 (i + 1) (by omega) hQ
      simpa [cntI, c19] using e
termination_by n - i
decreasing_by all_goals omega
theorem c9_countIn {l : Launch} {G : GG} {h : AH} {Q : Option Value → AH → Prop} {b : Nat} (hb : isB b) {x : Int32} {n : Nat} (hn : h.1 b 21 9 = nI n) (h40 : n ≤ 40) (hQ : Q (some (.int (cntI (h.1 b 26) x n))) h) : Ct l G 0 yX9_countIn cX9_countIn 4 (some .int) [.ref (G.1 b 21), .int x] h Q := by
  refine Ct.of (by decide) (Nat.le_of_ble_eq_true rfl) ?_
  show AW l G 0 RX9 cX9_countIn 4 (some .int) 0 [some (.ref (G.1 b 21)), some (.int x)] [] h Q
  refine a_iconst (v := 0) dX9_countIn_0 (by decide) ?_
  refine a_istore_n dX9_countIn_1 (by decide) rfl ?_
  dsimp only [lset]
  refine a_iconst (v := 0) dX9_countIn_2 (by decide) ?_
  refine a_istore_n dX9_countIn_3 (by decide) rfl ?_
  dsimp only [lset]
  exact l9_cnt hb hn h40 0 (by omega) hQ
end
section
theorem giveF_k {h : AH} {b : Nat} {x la t : Int32} {b' k' j' : Nat} (h1 : k' ≠ 11) (h2 : k' ≠ 12) (h3 : k' ≠ 13) : (giveF h b x la t).1 b' k' j' = h.1 b' k' j' := by
  unfold giveF
  split
  · rfl
  · dsimp only
    split
    · split
      · rw [ui_k h2, ui_k h1]
      · rw [ui_k h3, ui_k h1]
    · rw [ui_k h1]
def suitF (h : AH) (b : Nat) (x y : Int32) : Int32 :=
  if hasI (h.1 b 3 11) x = 0 then 0 else if hasI (h.1 b 21 9) y = 0 then 0 else if hasI (h.1 b 15 5) (h.1 b 22 y.toNatClampNeg) = 0 then 0 else
  if forF h b x (h.1 b 25 y.toNatClampNeg &&& ((1 <<< (h.1 b 16 (h.1 b 22 y.toNatClampNeg).toNatClampNeg &&& 31)) ^^^ (-1))) = 0 then 0 else
  if engF h b x (h.1 b 17 (h.1 b 22 y.toNatClampNeg).toNatClampNeg) = 0 then 0 else 1
def isOutF (h : AH) (b : Nat) (x : Int32) : Int32 :=
  if hasI (h.1 b 15 5) x = 0 then 0 else if hasI (h.1 b 21 9) (h.1 b 18 x.toNatClampNeg) = 0 then 0 else if h.1 b 26 (h.1 b 18 x.toNatClampNeg).toNatClampNeg = 1 then 1 else 0
def lateF (h : AH) (b : Nat) (x : Int32) : Int32 :=
  if hasI (h.1 b 21 9) x = 0 then 0 else if hasI (h.1 b 3 11) (h.1 b 27 x.toNatClampNeg) = 0 then 0 else
  if h.1 b 0 5 - h.1 b 28 x.toNatClampNeg ≤ h.1 b 9 (h.1 b 27 x.toNatClampNeg).toNatClampNeg then 0 else 1
def judgeF (h : AH) (b : Nat) (x y : Int32) : Int32 :=
  if isOutF h b x = 0 then 1 else if hasI (h.1 b 21 9) (h.1 b 18 x.toNatClampNeg) = 0 then 2 else
  if (h.1 b 25 (h.1 b 18 x.toNatClampNeg).toNatClampNeg >>> (y &&& 31)) &&& 1 = 0 then 2 else if lateF h b (h.1 b 18 x.toNatClampNeg) = 0 then 0 else 3
theorem isOutF_has {h : AH} {b : Nat} {x : Int32} (q : ¬ isOutF h b x = 0) : ¬ hasI (h.1 b 15 5) x = 0 := by
  intro e
  exact q (by simp [isOutF, e])
def sendV (h : AH) (b : Nat) (x y : Int32) : Int32 :=
  if hasI (h.1 b 21 9) x = 0 then 0 else if hasI (h.1 b 3 11) y = 0 then 0 else 1 <<< (h.1 b 22 x.toNatClampNeg &&& 31)
def sendF (h : AH) (b : Nat) (x y : Int32) : AH :=
  if hasI (h.1 b 21 9) x = 0 then h else if hasI (h.1 b 3 11) y = 0 then h else
  ui (ui (ui (ui h b 26 x.toNatClampNeg 1) b 27 x.toNatClampNeg y) b 28 x.toNatClampNeg (h.1 b 0 5)) b 11 y.toNatClampNeg (h.1 b 11 y.toNatClampNeg + 1)
def finF (h : AH) (b : Nat) (x : Int32) : AH :=
  if hasI (h.1 b 21 9) x = 0 then h else if hasI (h.1 b 15 5) (h.1 b 22 x.toNatClampNeg) = 0 then h else
  let lo := (h.1 b 22 x.toNatClampNeg).toNatClampNeg
  let la : Int32 := if lateF h b x = 0 then 0 else 1
  let h1 := ui (ui (ui h b 26 x.toNatClampNeg 2) b 29 x.toNatClampNeg (h.1 b 0 5)) b 30 x.toNatClampNeg la
  let h2 := giveF h1 b (h.1 b 27 x.toNatClampNeg) la 1
  ui (ui (ui h2 b 19 lo (h.1 b 19 lo + la)) b 18 lo (-1)) b 20 lo (h.1 b 20 lo + 1)
def tbTripF (h : AH) (b : Nat) (x : Int32) : AH := if hasI (h.1 b 15 5) x = 0 then h else if h.1 b 21 9 ≤ 0 then h else ui (ui h b 18 x.toNatClampNeg (-1)) b 21 9 (h.1 b 21 9 - 1)
def tbMisF (h : AH) (b : Nat) (x m : Int32) : AH := if hasI (h.1 b 15 5) x = 0 then h else ui h b 19 x.toNatClampNeg (h.1 b 19 x.toNatClampNeg - m)
def waitF (h : AH) (b : Nat) (x : Int32) : AH :=
  if hasI (h.1 b 21 9) x = 0 then h else if hasI (h.1 b 3 11) (h.1 b 27 x.toNatClampNeg) = 0 then h else
  let ty := (h.1 b 27 x.toNatClampNeg).toNatClampNeg
  ui (ui (ui (ui h b 11 ty (h.1 b 11 ty - 1)) b 26 x.toNatClampNeg 0) b 27 x.toNatClampNeg (-1)) b 28 x.toNatClampNeg (-1)
theorem waitF_k {h : AH} {b : Nat} {x : Int32} {b' k' j' : Nat} (h1 : k' ≠ 11) (h2 : k' ≠ 26) (h3 : k' ≠ 27) (h4 : k' ≠ 28) : (waitF h b x).1 b' k' j' = h.1 b' k' j' := by
  unfold waitF
  split
  · rfl
  · split
    · rfl
    · rw [ui_k h4, ui_k h3, ui_k h2, ui_k h1]
def callF (h : AH) (b : Nat) (bits : Int32) : Nat → AH
  | 0 => h
  | i + 1 => if (bits >>> (nI i &&& 31)) &&& 1 = 0 then callF h b bits i else if isOutF (callF h b bits i) b (nI i) = 0 then callF h b bits i else waitF (callF h b bits i) b ((callF h b bits i).1 b 18 i)
theorem callF_k {h : AH} {b : Nat} {bits : Int32} {i : Nat} {b' k' j' : Nat} (h1 : k' ≠ 11) (h2 : k' ≠ 26) (h3 : k' ≠ 27) (h4 : k' ≠ 28) : (callF h b bits i).1 b' k' j' = h.1 b' k' j' := by
  induction i with
  | zero => rfl
  | succ i ih =>
    unfold callF
    split
    · exact ih
    · split
      · exact ih
      · rw [waitF_k h1 h2 h3 h4, ih]
def reopF (h : AH) (b : Nat) (x : Int32) : AH :=
  if hasI (h.1 b 21 9) x = 0 then h else if hasI (h.1 b 15 5) (h.1 b 22 x.toNatClampNeg) = 0 then h else
  let lo := (h.1 b 22 x.toNatClampNeg).toNatClampNeg
  let la := h.1 b 30 x.toNatClampNeg
  let h1 := ui (ui (ui h b 26 x.toNatClampNeg (if h.1 b 27 x.toNatClampNeg = -1 then 0 else 1)) b 29 x.toNatClampNeg (-1)) b 30 x.toNatClampNeg 0
  let h2 := giveF h1 b (h.1 b 27 x.toNatClampNeg) la (-1)
  ui (ui (ui h2 b 19 lo (h.1 b 19 lo - la)) b 18 lo x) b 20 lo (h.1 b 20 lo - 1)
def clearB (h : AH) (b : Nat) : AH := ui (ui (ui (clearQ (clearP (clearL h b) b) b) b 21 9 0) b 31 4 0) b 0 5 0
def undoF (h : AH) (b : Nat) (act wh am : Int32) (n : Nat) : AH :=
  if act = 0 then tbTripF h b wh else if act = 1 then callF h b am n else if act = 2 then reopF h b wh else if act = 3 then tbMisF h b wh am else if act = 4 then moveF h b wh (-am) else ui h b 0 5 (h.1 b 0 5 - am)
theorem c1_suits {l : Launch} {G : GG} {h : AH} {Q : Option Value → AH → Prop} {b : Nat} (hb : isB b) {x y : Int32} (hp : (h.1 b 3 11).toInt ≤ 6) (ht : (h.1 b 21 9).toInt ≤ 40) (hq : (h.1 b 15 5).toInt ≤ 8) (hQ : Q (some (.int (suitF h b x y))) h) : Ct l G 1 yX1_suits cX1_suits 5 (some .boolean) [.ref (G.1 b 0), .int x, .int y] h Q := by
  refine Ct.of (by decide) (Nat.le_of_ble_eq_true rfl) ?_
  show AW l G 1 RX1 cX1_suits 5 (some .boolean) 0 [some (.ref (G.1 b 0)), some (.int x), some (.int y)] [] h Q
  refine a_aload_n dX1_suits_0 rfl ?_
  refine a_getR (ci := 1) (j := 1) dX1_suits_1 (kdB hb rfl) rfl (by decide) rfl fl_1_21 ?_
  refine a_iload_n dX1_suits_4 rfl ?_
  refine a_cV1i dX1_suits_5 ml_1_61 wv_4_has (kdB hb rfl) rfl (by decide) (Nat.le_of_ble_eq_true rfl) (c4_has hb ⟨rfl, rfl⟩) ?_
  refine a_if_eq dX1_suits_8 (tgt := 41) (by decide) (fun c8 => ?_) (fun c8 => ?_)
  · refine a_iconst (v := 0) dX1_suits_41 (by decide) ?_
    exact a_zret dX1_suits_42 rfl rfl (by simp only [suitF, c8, if_true, if_false, not_true_eq_false, not_false_eq_true, Classical.not_not] at hQ ⊢; exact hQ)
  · refine a_aload_n dX1_suits_11 rfl ?_
    refine a_getR (ci := 1) (j := 3) dX1_suits_12 (kdB hb rfl) rfl (by decide) rfl fl_1_35 ?_
    refine a_iload_n dX1_suits_15 rfl ?_
    refine a_cV1i dX1_suits_16 ml_1_65 wv_9_has (kdB hb rfl) rfl (by decide) (Nat.le_of_ble_eq_true rfl) (c9_has hb ⟨rfl, rfl⟩) ?_
    refine a_if_eq dX1_suits_19 (tgt := 41) (by decide) (fun c19 => ?_) (fun c19 => ?_)
    · refine a_iconst (v := 0) dX1_suits_41 (by decide) ?_
      exact a_zret dX1_suits_42 rfl rfl (by simp only [suitF, c8, c19, if_true, if_false, not_true_eq_false, not_false_eq_true, Classical.not_not] at hQ ⊢; exact hQ)
    · refine a_aload_n dX1_suits_22 rfl ?_
      refine a_getR (ci := 1) (j := 2) dX1_suits_23 (kdB hb rfl) rfl (by decide) rfl fl_1_28 ?_
      refine a_aload_n dX1_suits_26 rfl ?_
      refine a_getR (ci := 1) (j := 3) dX1_suits_27 (kdB hb rfl) rfl (by decide) rfl fl_1_35 ?_
      refine a_getR (ci := 9) (j := 0) dX1_suits_30 (kdB hb rfl) rfl (by decide) rfl fl_1_66 ?_
      refine a_iload_n dX1_suits_33 rfl ?_
      refine a_iaload dX1_suits_34 (kdB hb rfl) (hasI_in c19 ht) ?_
      refine a_cV1i dX1_suits_35 ml_1_70 wv_3_has (kdB hb rfl) rfl (by decide) (Nat.le_of_ble_eq_true rfl) (c3_has hb ⟨rfl, rfl⟩) ?_
      refine a_if_ne dX1_suits_38 (tgt := 43) (by decide) (fun c38 => ?_) (fun c38 => ?_)
      · refine a_aload_n dX1_suits_43 rfl ?_
        refine a_getR (ci := 1) (j := 3) dX1_suits_44 (kdB hb rfl) rfl (by decide) rfl fl_1_35 ?_
        refine a_getR (ci := 9) (j := 0) dX1_suits_47 (kdB hb rfl) rfl (by decide) rfl fl_1_66 ?_
        refine a_iload_n dX1_suits_50 rfl ?_
        refine a_iaload dX1_suits_51 (kdB hb rfl) (hasI_in c19 ht) ?_
        refine a_istore_n dX1_suits_52 (by decide) rfl ?_
        dsimp only [lset]
        refine a_aload_n dX1_suits_53 rfl ?_
        refine a_getR (ci := 1) (j := 3) dX1_suits_54 (kdB hb rfl) rfl (by decide) rfl fl_1_35 ?_
        refine a_getR (ci := 9) (j := 3) dX1_suits_57 (kdB hb rfl) rfl (by decide) rfl fl_1_71 ?_
        refine a_iload_n dX1_suits_60 rfl ?_
        refine a_iaload dX1_suits_61 (kdB hb rfl) (hasI_in c19 ht) ?_
        refine a_iconst (v := 1) dX1_suits_62 (by decide) ?_
        refine a_aload_n dX1_suits_63 rfl ?_
        refine a_getR (ci := 1) (j := 2) dX1_suits_64 (kdB hb rfl) rfl (by decide) rfl fl_1_28 ?_
        refine a_getR (ci := 3) (j := 0) dX1_suits_67 (kdB hb rfl) rfl (by decide) rfl fl_1_74 ?_
        refine a_iload_n dX1_suits_70 rfl ?_
        refine a_iaload dX1_suits_71 (kdB hb rfl) (hasI_in c38 hq) ?_
        refine a_ishl dX1_suits_72 ?_
        refine a_iconst (v := (-1)) dX1_suits_73 (by decide) ?_
        refine a_ixor dX1_suits_74 ?_
        refine a_iand dX1_suits_75 ?_
        refine a_istore dX1_suits_76 (by decide) rfl ?_
        dsimp only [lset]
        refine a_aload_n dX1_suits_78 rfl ?_
        refine a_getR (ci := 1) (j := 1) dX1_suits_79 (kdB hb rfl) rfl (by decide) rfl fl_1_21 ?_
        refine a_iload_n dX1_suits_82 rfl ?_
        refine a_iload dX1_suits_83 rfl ?_
        refine a_cV2i dX1_suits_85 ml_1_77 wv_4_isFor (kdB hb rfl) rfl (by decide) (Nat.le_of_ble_eq_true rfl) (c4_isFor hb (hasI_in c8 hp) ⟨rfl, rfl⟩) ?_
        refine a_if_eq dX1_suits_88 (tgt := 115) (by decide) (fun c88 => ?_) (fun c88 => ?_)
        · refine a_iconst (v := 0) dX1_suits_115 (by decide) ?_
          exact a_zret dX1_suits_116 rfl rfl (by simp only [suitF, c8, c19, c38, c88, if_true, if_false, not_true_eq_false, not_false_eq_true, Classical.not_not] at hQ ⊢; exact hQ)
        · refine a_aload_n dX1_suits_91 rfl ?_
          refine a_getR (ci := 1) (j := 1) dX1_suits_92 (kdB hb rfl) rfl (by decide) rfl fl_1_21 ?_
          refine a_iload_n dX1_suits_95 rfl ?_
          refine a_aload_n dX1_suits_96 rfl ?_
          refine a_getR (ci := 1) (j := 2) dX1_suits_97 (kdB hb rfl) rfl (by decide) rfl fl_1_28 ?_
          refine a_getR (ci := 3) (j := 1) dX1_suits_100 (kdB hb rfl) rfl (by decide) rfl fl_1_81 ?_
          refine a_iload_n dX1_suits_103 rfl ?_
          refine a_iaload dX1_suits_104 (kdB hb rfl) (hasI_in c38 hq) ?_
          refine a_cV2i dX1_suits_105 ml_1_84 wv_4_suitsEngine (kdB hb rfl) rfl (by decide) (Nat.le_of_ble_eq_true rfl) (c4_suitsEngine hb (hasI_in c8 hp) ⟨rfl, rfl⟩) ?_
          refine a_if_eq dX1_suits_108 (tgt := 115) (by decide) (fun c108 => ?_) (fun c108 => ?_)
          · refine a_iconst (v := 0) dX1_suits_115 (by decide) ?_
            exact a_zret dX1_suits_116 rfl rfl (by simp only [suitF, c8, c19, c38, c88, c108, if_true, if_false, not_true_eq_false, not_false_eq_true, Classical.not_not] at hQ ⊢; exact hQ)
          · refine a_iconst (v := 1) dX1_suits_111 (by decide) ?_
            refine a_goto dX1_suits_112 (tgt := 116) (by decide) ?_
            exact a_zret dX1_suits_116 rfl rfl (by simp only [suitF, c8, c19, c38, c88, c108, if_true, if_false, not_true_eq_false, not_false_eq_true, Classical.not_not] at hQ ⊢; exact hQ)
      · refine a_iconst (v := 0) dX1_suits_41 (by decide) ?_
        exact a_zret dX1_suits_42 rfl rfl (by simp only [suitF, c8, c19, c38, if_true, if_false, not_true_eq_false, not_false_eq_true, Classical.not_not] at hQ ⊢; exact hQ)
theorem c1_isOut {l : Launch} {G : GG} {h : AH} {Q : Option Value → AH → Prop} {b : Nat} (hb : isB b) {x : Int32} (ht : (h.1 b 21 9).toInt ≤ 40) (hq : (h.1 b 15 5).toInt ≤ 8) (hQ : Q (some (.int (isOutF h b x))) h) : Ct l G 1 yX1_isOut cX1_isOut 3 (some .boolean) [.ref (G.1 b 0), .int x] h Q := by
  refine Ct.of (by decide) (Nat.le_of_ble_eq_true rfl) ?_
  show AW l G 1 RX1 cX1_isOut 3 (some .boolean) 0 [some (.ref (G.1 b 0)), some (.int x)] [] h Q
  refine a_aload_n dX1_isOut_0 rfl ?_
  refine a_getR (ci := 1) (j := 2) dX1_isOut_1 (kdB hb rfl) rfl (by decide) rfl fl_1_28 ?_
  refine a_iload_n dX1_isOut_4 rfl ?_
  refine a_cV1i dX1_isOut_5 ml_1_70 wv_3_has (kdB hb rfl) rfl (by decide) (Nat.le_of_ble_eq_true rfl) (c3_has hb ⟨rfl, rfl⟩) ?_
  refine a_if_ne dX1_isOut_8 (tgt := 13) (by decide) (fun c8 => ?_) (fun c8 => ?_)
  · refine a_aload_n dX1_isOut_13 rfl ?_
    refine a_getR (ci := 1) (j := 2) dX1_isOut_14 (kdB hb rfl) rfl (by decide) rfl fl_1_28 ?_
    refine a_getR (ci := 3) (j := 2) dX1_isOut_17 (kdB hb rfl) rfl (by decide) rfl fl_1_87 ?_
    refine a_iload_n dX1_isOut_20 rfl ?_
    refine a_iaload dX1_isOut_21 (kdB hb rfl) (hasI_in c8 hq) ?_
    refine a_istore_n dX1_isOut_22 (by decide) rfl ?_
    dsimp only [lset]
    refine a_aload_n dX1_isOut_23 rfl ?_
    refine a_getR (ci := 1) (j := 3) dX1_isOut_24 (kdB hb rfl) rfl (by decide) rfl fl_1_35 ?_
    refine a_iload_n dX1_isOut_27 rfl ?_
    refine a_cV1i dX1_isOut_28 ml_1_65 wv_9_has (kdB hb rfl) rfl (by decide) (Nat.le_of_ble_eq_true rfl) (c9_has hb ⟨rfl, rfl⟩) ?_
    refine a_if_eq dX1_isOut_31 (tgt := 51) (by decide) (fun c31 => ?_) (fun c31 => ?_)
    · refine a_iconst (v := 0) dX1_isOut_51 (by decide) ?_
      exact a_zret dX1_isOut_52 rfl rfl (by simp only [isOutF, c8, c31, if_true, if_false, not_true_eq_false, not_false_eq_true, Classical.not_not] at hQ ⊢; exact hQ)
    · refine a_aload_n dX1_isOut_34 rfl ?_
      refine a_getR (ci := 1) (j := 3) dX1_isOut_35 (kdB hb rfl) rfl (by decide) rfl fl_1_35 ?_
      refine a_getR (ci := 9) (j := 4) dX1_isOut_38 (kdB hb rfl) rfl (by decide) rfl fl_1_90 ?_
      refine a_iload_n dX1_isOut_41 rfl ?_
      refine a_iaload dX1_isOut_42 (kdB hb rfl) (hasI_in c31 ht) ?_
      refine a_iconst (v := 1) dX1_isOut_43 (by decide) ?_
      refine a_icmp_ne dX1_isOut_44 (tgt := 51) (by decide) (fun c44 => ?_) (fun c44 => ?_)
      · refine a_iconst (v := 0) dX1_isOut_51 (by decide) ?_
        exact a_zret dX1_isOut_52 rfl rfl (by simp only [isOutF, c8, c31, c44, if_true, if_false, not_true_eq_false, not_false_eq_true, Classical.not_not] at hQ ⊢; exact hQ)
      · refine a_iconst (v := 1) dX1_isOut_47 (by decide) ?_
        refine a_goto dX1_isOut_48 (tgt := 52) (by decide) ?_
        exact a_zret dX1_isOut_52 rfl rfl (by simp only [isOutF, c8, c31, c44, if_true, if_false, not_true_eq_false, not_false_eq_true, Classical.not_not] at hQ ⊢; exact hQ)
  · refine a_iconst (v := 0) dX1_isOut_11 (by decide) ?_
    exact a_zret dX1_isOut_12 rfl rfl (by simp only [isOutF, c8, if_true, if_false, not_true_eq_false, not_false_eq_true, Classical.not_not] at hQ ⊢; exact hQ)
theorem c1_isLate {l : Launch} {G : GG} {h : AH} {Q : Option Value → AH → Prop} {b : Nat} (hb : isB b) {x : Int32} (hp : (h.1 b 3 11).toInt ≤ 6) (ht : (h.1 b 21 9).toInt ≤ 40) (hQ : Q (some (.int (lateF h b x))) h) : Ct l G 1 yX1_isLate cX1_isLate 2 (some .boolean) [.ref (G.1 b 0), .int x] h Q := by
  refine Ct.of (by decide) (Nat.le_of_ble_eq_true rfl) ?_
  show AW l G 1 RX1 cX1_isLate 2 (some .boolean) 0 [some (.ref (G.1 b 0)), some (.int x)] [] h Q
  refine a_aload_n dX1_isLate_0 rfl ?_
  refine a_getR (ci := 1) (j := 3) dX1_isLate_1 (kdB hb rfl) rfl (by decide) rfl fl_1_35 ?_
  refine a_iload_n dX1_isLate_4 rfl ?_
  refine a_cV1i dX1_isLate_5 ml_1_65 wv_9_has (kdB hb rfl) rfl (by decide) (Nat.le_of_ble_eq_true rfl) (c9_has hb ⟨rfl, rfl⟩) ?_
  refine a_if_eq dX1_isLate_8 (tgt := 30) (by decide) (fun c8 => ?_) (fun c8 => ?_)
  · refine a_iconst (v := 0) dX1_isLate_30 (by decide) ?_
    exact a_zret dX1_isLate_31 rfl rfl (by simp only [lateF, c8, if_true, if_false, not_true_eq_false, not_false_eq_true, Classical.not_not] at hQ ⊢; exact hQ)
  · refine a_aload_n dX1_isLate_11 rfl ?_
    refine a_getR (ci := 1) (j := 1) dX1_isLate_12 (kdB hb rfl) rfl (by decide) rfl fl_1_21 ?_
    refine a_aload_n dX1_isLate_15 rfl ?_
    refine a_getR (ci := 1) (j := 3) dX1_isLate_16 (kdB hb rfl) rfl (by decide) rfl fl_1_35 ?_
    refine a_getR (ci := 9) (j := 5) dX1_isLate_19 (kdB hb rfl) rfl (by decide) rfl fl_1_93 ?_
    refine a_iload_n dX1_isLate_22 rfl ?_
    refine a_iaload dX1_isLate_23 (kdB hb rfl) (hasI_in c8 ht) ?_
    refine a_cV1i dX1_isLate_24 ml_1_61 wv_4_has (kdB hb rfl) rfl (by decide) (Nat.le_of_ble_eq_true rfl) (c4_has hb ⟨rfl, rfl⟩) ?_
    refine a_if_ne dX1_isLate_27 (tgt := 32) (by decide) (fun c27 => ?_) (fun c27 => ?_)
    · refine a_aload_n dX1_isLate_32 rfl ?_
      refine a_getI (ci := 1) (j := 5) dX1_isLate_33 (kdB hb rfl) rfl (by decide) rfl fl_1_58 ?_
      refine a_aload_n dX1_isLate_36 rfl ?_
      refine a_getR (ci := 1) (j := 3) dX1_isLate_37 (kdB hb rfl) rfl (by decide) rfl fl_1_35 ?_
      refine a_getR (ci := 9) (j := 6) dX1_isLate_40 (kdB hb rfl) rfl (by decide) rfl fl_1_96 ?_
      refine a_iload_n dX1_isLate_43 rfl ?_
      refine a_iaload dX1_isLate_44 (kdB hb rfl) (hasI_in c8 ht) ?_
      refine a_isub dX1_isLate_45 ?_
      refine a_aload_n dX1_isLate_46 rfl ?_
      refine a_getR (ci := 1) (j := 1) dX1_isLate_47 (kdB hb rfl) rfl (by decide) rfl fl_1_21 ?_
      refine a_getR (ci := 4) (j := 5) dX1_isLate_50 (kdB hb rfl) rfl (by decide) rfl fl_1_99 ?_
      refine a_aload_n dX1_isLate_53 rfl ?_
      refine a_getR (ci := 1) (j := 3) dX1_isLate_54 (kdB hb rfl) rfl (by decide) rfl fl_1_35 ?_
      refine a_getR (ci := 9) (j := 5) dX1_isLate_57 (kdB hb rfl) rfl (by decide) rfl fl_1_93 ?_
      refine a_iload_n dX1_isLate_60 rfl ?_
      refine a_iaload dX1_isLate_61 (kdB hb rfl) (hasI_in c8 ht) ?_
      refine a_iaload dX1_isLate_62 (kdB hb rfl) (hasI_in c27 hp) ?_
      refine a_icmp_le dX1_isLate_63 (tgt := 70) (by decide) (fun c63 => ?_) (fun c63 => ?_)
      · refine a_iconst (v := 0) dX1_isLate_70 (by decide) ?_
        exact a_zret dX1_isLate_71 rfl rfl (by simp only [lateF, c8, c27, c63, if_true, if_false, not_true_eq_false, not_false_eq_true, Classical.not_not] at hQ ⊢; exact hQ)
      · refine a_iconst (v := 1) dX1_isLate_66 (by decide) ?_
        refine a_goto dX1_isLate_67 (tgt := 71) (by decide) ?_
        exact a_zret dX1_isLate_71 rfl rfl (by simp only [lateF, c8, c27, c63, if_true, if_false, not_true_eq_false, not_false_eq_true, Classical.not_not] at hQ ⊢; exact hQ)
    · refine a_iconst (v := 0) dX1_isLate_30 (by decide) ?_
      exact a_zret dX1_isLate_31 rfl rfl (by simp only [lateF, c8, c27, if_true, if_false, not_true_eq_false, not_false_eq_true, Classical.not_not] at hQ ⊢; exact hQ)
theorem c1_judge {l : Launch} {G : GG} {h : AH} {Q : Option Value → AH → Prop} {b : Nat} (hb : isB b) {x y : Int32} (hp : (h.1 b 3 11).toInt ≤ 6) (ht : (h.1 b 21 9).toInt ≤ 40) (hq : (h.1 b 15 5).toInt ≤ 8) (hQ : Q (some (.int (judgeF h b x y))) h) : Ct l G 2 yX1_judge cX1_judge 4 (some .int) [.ref (G.1 b 0), .int x, .int y] h Q := by
  refine Ct.of (by decide) (Nat.le_of_ble_eq_true rfl) ?_
  show AW l G 2 RX1 cX1_judge 4 (some .int) 0 [some (.ref (G.1 b 0)), some (.int x), some (.int y)] [] h Q
  refine a_aload_n dX1_judge_0 rfl ?_
  refine a_iload_n dX1_judge_1 rfl ?_
  refine a_cV1i dX1_judge_2 ml_1_102 wv_1_isOut (kdB hb rfl) rfl (by decide) (Nat.le_of_ble_eq_true rfl) (c1_isOut hb ht hq ⟨rfl, rfl⟩) ?_
  refine a_if_ne dX1_judge_5 (tgt := 10) (by decide) (fun c5 => ?_) (fun c5 => ?_)
  · refine a_aload_n dX1_judge_10 rfl ?_
    refine a_getR (ci := 1) (j := 2) dX1_judge_11 (kdB hb rfl) rfl (by decide) rfl fl_1_28 ?_
    refine a_getR (ci := 3) (j := 2) dX1_judge_14 (kdB hb rfl) rfl (by decide) rfl fl_1_87 ?_
    refine a_iload_n dX1_judge_17 rfl ?_
    refine a_iaload dX1_judge_18 (kdB hb rfl) (hasI_in (isOutF_has c5) hq) ?_
    refine a_istore_n dX1_judge_19 (by decide) rfl ?_
    dsimp only [lset]
    refine a_aload_n dX1_judge_20 rfl ?_
    refine a_getR (ci := 1) (j := 3) dX1_judge_21 (kdB hb rfl) rfl (by decide) rfl fl_1_35 ?_
    refine a_iload_n dX1_judge_24 rfl ?_
    refine a_cV1i dX1_judge_25 ml_1_65 wv_9_has (kdB hb rfl) rfl (by decide) (Nat.le_of_ble_eq_true rfl) (c9_has hb ⟨rfl, rfl⟩) ?_
    refine a_if_eq dX1_judge_28 (tgt := 47) (by decide) (fun c28 => ?_) (fun c28 => ?_)
    · refine a_iconst (v := 2) dX1_judge_47 (by decide) ?_
      exact a_iret dX1_judge_48 rfl (by simp only [judgeF, c5, c28, if_true, if_false, not_true_eq_false, not_false_eq_true, Classical.not_not] at hQ ⊢; exact hQ)
    · refine a_aload_n dX1_judge_31 rfl ?_
      refine a_getR (ci := 1) (j := 3) dX1_judge_32 (kdB hb rfl) rfl (by decide) rfl fl_1_35 ?_
      refine a_getR (ci := 9) (j := 3) dX1_judge_35 (kdB hb rfl) rfl (by decide) rfl fl_1_71 ?_
      refine a_iload_n dX1_judge_38 rfl ?_
      refine a_iaload dX1_judge_39 (kdB hb rfl) (hasI_in c28 ht) ?_
      refine a_iload_n dX1_judge_40 rfl ?_
      refine a_ishr dX1_judge_41 ?_
      refine a_iconst (v := 1) dX1_judge_42 (by decide) ?_
      refine a_iand dX1_judge_43 ?_
      refine a_if_ne dX1_judge_44 (tgt := 49) (by decide) (fun c44 => ?_) (fun c44 => ?_)
      · refine a_aload_n dX1_judge_49 rfl ?_
        refine a_iload_n dX1_judge_50 rfl ?_
        refine a_cV1i dX1_judge_51 ml_1_105 wv_1_isLate (kdB hb rfl) rfl (by decide) (Nat.le_of_ble_eq_true rfl) (c1_isLate hb hp ht ⟨rfl, rfl⟩) ?_
        refine a_if_eq dX1_judge_54 (tgt := 61) (by decide) (fun c54 => ?_) (fun c54 => ?_)
        · refine a_iconst (v := 0) dX1_judge_61 (by decide) ?_
          exact a_iret dX1_judge_62 rfl (by simp only [judgeF, c5, c28, c44, c54, if_true, if_false, not_true_eq_false, not_false_eq_true, Classical.not_not] at hQ ⊢; exact hQ)
        · refine a_iconst (v := 3) dX1_judge_57 (by decide) ?_
          refine a_goto dX1_judge_58 (tgt := 62) (by decide) ?_
          exact a_iret dX1_judge_62 rfl (by simp only [judgeF, c5, c28, c44, c54, if_true, if_false, not_true_eq_false, not_false_eq_true, Classical.not_not] at hQ ⊢; exact hQ)
      · refine a_iconst (v := 2) dX1_judge_47 (by decide) ?_
        exact a_iret dX1_judge_48 rfl (by simp only [judgeF, c5, c28, c44, if_true, if_false, not_true_eq_false, not_false_eq_true, Classical.not_not] at hQ ⊢; exact hQ)
  · refine a_iconst (v := 1) dX1_judge_8 (by decide) ?_
    exact a_iret dX1_judge_9 rfl (by simp only [judgeF, c5, if_true, if_false, not_true_eq_false, not_false_eq_true, Classical.not_not] at hQ ⊢; exact hQ)
theorem c1_sendOut {l : Launch} {G : GG} {h : AH} {Q : Option Value → AH → Prop} {b : Nat} (hb : isB b) {x y : Int32} (hp : (h.1 b 3 11).toInt ≤ 6) (ht : (h.1 b 21 9).toInt ≤ 40) (hQ : Q (some (.int (sendV h b x y))) (sendF h b x y)) : Ct l G 1 yX1_sendOut cX1_sendOut 3 (some .int) [.ref (G.1 b 0), .int x, .int y] h Q := by
  refine Ct.of (by decide) (Nat.le_of_ble_eq_true rfl) ?_
  show AW l G 1 RX1 cX1_sendOut 3 (some .int) 0 [some (.ref (G.1 b 0)), some (.int x), some (.int y)] [] h Q
  refine a_aload_n dX1_sendOut_0 rfl ?_
  refine a_getR (ci := 1) (j := 3) dX1_sendOut_1 (kdB hb rfl) rfl (by decide) rfl fl_1_35 ?_
  refine a_iload_n dX1_sendOut_4 rfl ?_
  refine a_cV1i dX1_sendOut_5 ml_1_65 wv_9_has (kdB hb rfl) rfl (by decide) (Nat.le_of_ble_eq_true rfl) (c9_has hb ⟨rfl, rfl⟩) ?_
  refine a_if_eq dX1_sendOut_8 (tgt := 22) (by decide) (fun c8 => ?_) (fun c8 => ?_)
  · refine a_iconst (v := 0) dX1_sendOut_22 (by decide) ?_
    exact a_iret dX1_sendOut_23 rfl (by simp only [sendF, sendV, c8, if_true, if_false, not_true_eq_false, not_false_eq_true, Classical.not_not] at hQ ⊢; exact hQ)
  · refine a_aload_n dX1_sendOut_11 rfl ?_
    refine a_getR (ci := 1) (j := 1) dX1_sendOut_12 (kdB hb rfl) rfl (by decide) rfl fl_1_21 ?_
    refine a_iload_n dX1_sendOut_15 rfl ?_
    refine a_cV1i dX1_sendOut_16 ml_1_61 wv_4_has (kdB hb rfl) rfl (by decide) (Nat.le_of_ble_eq_true rfl) (c4_has hb ⟨rfl, rfl⟩) ?_
    refine a_if_ne dX1_sendOut_19 (tgt := 24) (by decide) (fun c19 => ?_) (fun c19 => ?_)
    · refine a_aload_n dX1_sendOut_24 rfl ?_
      refine a_getR (ci := 1) (j := 3) dX1_sendOut_25 (kdB hb rfl) rfl (by decide) rfl fl_1_35 ?_
      refine a_getR (ci := 9) (j := 4) dX1_sendOut_28 (kdB hb rfl) rfl (by decide) rfl fl_1_90 ?_
      refine a_iload_n dX1_sendOut_31 rfl ?_
      refine a_iconst (v := 1) dX1_sendOut_32 (by decide) ?_
      refine a_iastore dX1_sendOut_33 (kdB hb rfl) (hasI_in c8 ht) ?_
      refine a_aload_n dX1_sendOut_34 rfl ?_
      refine a_getR (ci := 1) (j := 3) dX1_sendOut_35 (kdB hb rfl) rfl (by decide) rfl fl_1_35 ?_
      refine a_getR (ci := 9) (j := 5) dX1_sendOut_38 (kdB hb rfl) rfl (by decide) rfl fl_1_93 ?_
      refine a_iload_n dX1_sendOut_41 rfl ?_
      refine a_iload_n dX1_sendOut_42 rfl ?_
      refine a_iastore dX1_sendOut_43 (kdB hb rfl) (hasI_in c8 ht) ?_
      refine a_aload_n dX1_sendOut_44 rfl ?_
      refine a_getR (ci := 1) (j := 3) dX1_sendOut_45 (kdB hb rfl) rfl (by decide) rfl fl_1_35 ?_
      refine a_getR (ci := 9) (j := 6) dX1_sendOut_48 (kdB hb rfl) rfl (by decide) rfl fl_1_96 ?_
      refine a_iload_n dX1_sendOut_51 rfl ?_
      refine a_aload_n dX1_sendOut_52 rfl ?_
      refine a_getI (ci := 1) (j := 5) dX1_sendOut_53 (kdB hb rfl) rfl (by decide) rfl fl_1_58 ?_
      try simp (disch := first | decide | assumption | omega) only [ui_eq, ui_k, ui_j, ui_b, ui_2, ul_1, ul_eq, ul_k, ul_j, ul_b]
      refine a_iastore dX1_sendOut_56 (kdB hb rfl) (hasI_in c8 ht) ?_
      refine a_aload_n dX1_sendOut_57 rfl ?_
      refine a_getR (ci := 1) (j := 1) dX1_sendOut_58 (kdB hb rfl) rfl (by decide) rfl fl_1_21 ?_
      refine a_getR (ci := 4) (j := 7) dX1_sendOut_61 (kdB hb rfl) rfl (by decide) rfl fl_1_108 ?_
      refine a_iload_n dX1_sendOut_64 rfl ?_
      refine a_dup2 dX1_sendOut_65 rfl rfl ?_
      refine a_iaload dX1_sendOut_66 (kdB hb rfl) (hasI_in c19 hp) ?_
      try simp (disch := first | decide | assumption | omega) only [ui_eq, ui_k, ui_j, ui_b, ui_2, ul_1, ul_eq, ul_k, ul_j, ul_b]
      refine a_iconst (v := 1) dX1_sendOut_67 (by decide) ?_
      refine a_iadd dX1_sendOut_68 ?_
      refine a_iastore dX1_sendOut_69 (kdB hb rfl) (hasI_in c19 hp) ?_
      refine a_iconst (v := 1) dX1_sendOut_70 (by decide) ?_
      refine a_aload_n dX1_sendOut_71 rfl ?_
      refine a_getR (ci := 1) (j := 3) dX1_sendOut_72 (kdB hb rfl) rfl (by decide) rfl fl_1_35 ?_
      refine a_getR (ci := 9) (j := 0) dX1_sendOut_75 (kdB hb rfl) rfl (by decide) rfl fl_1_66 ?_
      refine a_iload_n dX1_sendOut_78 rfl ?_
      refine a_iaload dX1_sendOut_79 (kdB hb rfl) (hasI_in c8 ht) ?_
      try simp (disch := first | decide | assumption | omega) only [ui_eq, ui_k, ui_j, ui_b, ui_2, ul_1, ul_eq, ul_k, ul_j, ul_b]
      refine a_ishl dX1_sendOut_80 ?_
      exact a_iret dX1_sendOut_81 rfl (by simp only [sendF, sendV, c8, c19, if_true, if_false, not_true_eq_false, not_false_eq_true, Classical.not_not] at hQ ⊢; exact hQ)
    · refine a_iconst (v := 0) dX1_sendOut_22 (by decide) ?_
      exact a_iret dX1_sendOut_23 rfl (by simp only [sendF, sendV, c8, c19, if_true, if_false, not_true_eq_false, not_false_eq_true, Classical.not_not] at hQ ⊢; exact hQ)
theorem c1_finish {l : Launch} {G : GG} {h : AH} {Q : Option Value → AH → Prop} {b : Nat} (hb : isB b) {x : Int32} (hp : (h.1 b 3 11).toInt ≤ 6) (ht : (h.1 b 21 9).toInt ≤ 40) (hq : (h.1 b 15 5).toInt ≤ 8) (hQ : Q none (finF h b x)) : Ct l G 2 yX1_finish cX1_finish 4 none [.ref (G.1 b 0), .int x] h Q := by
  refine Ct.of (by decide) (Nat.le_of_ble_eq_true rfl) ?_
  show AW l G 2 RX1 cX1_finish 4 none 0 [some (.ref (G.1 b 0)), some (.int x)] [] h Q
  refine a_aload_n dX1_finish_0 rfl ?_
  refine a_getR (ci := 1) (j := 3) dX1_finish_1 (kdB hb rfl) rfl (by decide) rfl fl_1_35 ?_
  refine a_iload_n dX1_finish_4 rfl ?_
  refine a_cV1i dX1_finish_5 ml_1_65 wv_9_has (kdB hb rfl) rfl (by decide) (Nat.le_of_ble_eq_true rfl) (c9_has hb ⟨rfl, rfl⟩) ?_
  try simp (disch := first | decide | assumption | omega) only [ui_eq, ui_k, ui_j, ui_b, ui_2, ul_1, ul_eq, ul_k, ul_j, ul_b, giveF_k]
  refine a_if_eq dX1_finish_8 (tgt := 30) (by decide) (fun c8 => ?_) (fun c8 => ?_)
  · exact a_vret dX1_finish_30 rfl (by simp only [finF, c8, if_true, if_false, not_true_eq_false, not_false_eq_true, Classical.not_not] at hQ ⊢; exact hQ)
  · refine a_aload_n dX1_finish_11 rfl ?_
    refine a_getR (ci := 1) (j := 2) dX1_finish_12 (kdB hb rfl) rfl (by decide) rfl fl_1_28 ?_
    refine a_aload_n dX1_finish_15 rfl ?_
    refine a_getR (ci := 1) (j := 3) dX1_finish_16 (kdB hb rfl) rfl (by decide) rfl fl_1_35 ?_
    refine a_getR (ci := 9) (j := 0) dX1_finish_19 (kdB hb rfl) rfl (by decide) rfl fl_1_66 ?_
    refine a_iload_n dX1_finish_22 rfl ?_
    refine a_iaload dX1_finish_23 (kdB hb rfl) (hasI_in c8 ht) ?_
    try simp (disch := first | decide | assumption | omega) only [ui_eq, ui_k, ui_j, ui_b, ui_2, ul_1, ul_eq, ul_k, ul_j, ul_b, giveF_k]
    refine a_cV1i dX1_finish_24 ml_1_70 wv_3_has (kdB hb rfl) rfl (by decide) (Nat.le_of_ble_eq_true rfl) (c3_has hb ⟨rfl, rfl⟩) ?_
    try simp (disch := first | decide | assumption | omega) only [ui_eq, ui_k, ui_j, ui_b, ui_2, ul_1, ul_eq, ul_k, ul_j, ul_b, giveF_k]
    refine a_if_ne dX1_finish_27 (tgt := 31) (by decide) (fun c27 => ?_) (fun c27 => ?_)
    · refine a_aload_n dX1_finish_31 rfl ?_
      refine a_getR (ci := 1) (j := 3) dX1_finish_32 (kdB hb rfl) rfl (by decide) rfl fl_1_35 ?_
      refine a_getR (ci := 9) (j := 0) dX1_finish_35 (kdB hb rfl) rfl (by decide) rfl fl_1_66 ?_
      refine a_iload_n dX1_finish_38 rfl ?_
      refine a_iaload dX1_finish_39 (kdB hb rfl) (hasI_in c8 ht) ?_
      try simp (disch := first | decide | assumption | omega) only [ui_eq, ui_k, ui_j, ui_b, ui_2, ul_1, ul_eq, ul_k, ul_j, ul_b, giveF_k]
      refine a_istore_n dX1_finish_40 (by decide) rfl ?_
      dsimp only [lset]
      refine a_aload_n dX1_finish_41 rfl ?_
      refine a_iload_n dX1_finish_42 rfl ?_
      refine a_cV1i dX1_finish_43 ml_1_105 wv_1_isLate (kdB hb rfl) rfl (by decide) (Nat.le_of_ble_eq_true rfl) (c1_isLate hb hp ht ⟨rfl, rfl⟩) ?_
      try simp (disch := first | decide | assumption | omega) only [ui_eq, ui_k, ui_j, ui_b, ui_2, ul_1, ul_eq, ul_k, ul_j, ul_b, giveF_k]
      refine a_if_eq dX1_finish_46 (tgt := 53) (by decide) (fun c46 => ?_) (fun c46 => ?_)
      · refine a_iconst (v := 0) dX1_finish_53 (by decide) ?_
        refine a_istore_n dX1_finish_54 (by decide) rfl ?_
        dsimp only [lset]
        refine a_aload_n dX1_finish_55 rfl ?_
        refine a_getR (ci := 1) (j := 3) dX1_finish_56 (kdB hb rfl) rfl (by decide) rfl fl_1_35 ?_
        refine a_getR (ci := 9) (j := 4) dX1_finish_59 (kdB hb rfl) rfl (by decide) rfl fl_1_90 ?_
        refine a_iload_n dX1_finish_62 rfl ?_
        refine a_iconst (v := 2) dX1_finish_63 (by decide) ?_
        refine a_iastore dX1_finish_64 (kdB hb rfl) (hasI_in c8 ht) ?_
        refine a_aload_n dX1_finish_65 rfl ?_
        refine a_getR (ci := 1) (j := 3) dX1_finish_66 (kdB hb rfl) rfl (by decide) rfl fl_1_35 ?_
        refine a_getR (ci := 9) (j := 7) dX1_finish_69 (kdB hb rfl) rfl (by decide) rfl fl_1_111 ?_
        refine a_iload_n dX1_finish_72 rfl ?_
        refine a_aload_n dX1_finish_73 rfl ?_
        refine a_getI (ci := 1) (j := 5) dX1_finish_74 (kdB hb rfl) rfl (by decide) rfl fl_1_58 ?_
        try simp (disch := first | decide | assumption | omega) only [ui_eq, ui_k, ui_j, ui_b, ui_2, ul_1, ul_eq, ul_k, ul_j, ul_b, giveF_k]
        refine a_iastore dX1_finish_77 (kdB hb rfl) (hasI_in c8 ht) ?_
        refine a_aload_n dX1_finish_78 rfl ?_
        refine a_getR (ci := 1) (j := 3) dX1_finish_79 (kdB hb rfl) rfl (by decide) rfl fl_1_35 ?_
        refine a_getR (ci := 9) (j := 8) dX1_finish_82 (kdB hb rfl) rfl (by decide) rfl fl_1_114 ?_
        refine a_iload_n dX1_finish_85 rfl ?_
        refine a_iload_n dX1_finish_86 rfl ?_
        refine a_iastore dX1_finish_87 (kdB hb rfl) (hasI_in c8 ht) ?_
        refine a_aload_n dX1_finish_88 rfl ?_
        refine a_getR (ci := 1) (j := 1) dX1_finish_89 (kdB hb rfl) rfl (by decide) rfl fl_1_21 ?_
        refine a_aload_n dX1_finish_92 rfl ?_
        refine a_getR (ci := 1) (j := 3) dX1_finish_93 (kdB hb rfl) rfl (by decide) rfl fl_1_35 ?_
        refine a_getR (ci := 9) (j := 5) dX1_finish_96 (kdB hb rfl) rfl (by decide) rfl fl_1_93 ?_
        refine a_iload_n dX1_finish_99 rfl ?_
        refine a_iaload dX1_finish_100 (kdB hb rfl) (hasI_in c8 ht) ?_
        try simp (disch := first | decide | assumption | omega) only [ui_eq, ui_k, ui_j, ui_b, ui_2, ul_1, ul_eq, ul_k, ul_j, ul_b, giveF_k]
        refine a_iload_n dX1_finish_101 rfl ?_
        refine a_iconst (v := 1) dX1_finish_102 (by decide) ?_
        refine a_cV3v dX1_finish_103 ml_1_117 wv_4_giveUp (kdB hb rfl) rfl (by decide) (Nat.le_of_ble_eq_true rfl) (c4_giveUp hb (by simp (disch := first | decide | assumption) only [ui_eq, ui_k, ui_j, ui_b, giveF_k]; exact hp) ⟨rfl, rfl⟩) ?_
        try simp (disch := first | decide | assumption | omega) only [ui_eq, ui_k, ui_j, ui_b, ui_2, ul_1, ul_eq, ul_k, ul_j, ul_b, giveF_k]
        refine a_aload_n dX1_finish_106 rfl ?_
        refine a_getR (ci := 1) (j := 2) dX1_finish_107 (kdB hb rfl) rfl (by decide) rfl fl_1_28 ?_
        refine a_getR (ci := 3) (j := 3) dX1_finish_110 (kdB hb rfl) rfl (by decide) rfl fl_1_121 ?_
        refine a_iload_n dX1_finish_113 rfl ?_
        refine a_dup2 dX1_finish_114 rfl rfl ?_
        refine a_iaload dX1_finish_115 (kdB hb rfl) (hasI_in c27 hq) ?_
        try simp (disch := first | decide | assumption | omega) only [ui_eq, ui_k, ui_j, ui_b, ui_2, ul_1, ul_eq, ul_k, ul_j, ul_b, giveF_k]
        refine a_iload_n dX1_finish_116 rfl ?_
        refine a_iadd dX1_finish_117 ?_
        refine a_iastore dX1_finish_118 (kdB hb rfl) (hasI_in c27 hq) ?_
        refine a_aload_n dX1_finish_119 rfl ?_
        refine a_getR (ci := 1) (j := 2) dX1_finish_120 (kdB hb rfl) rfl (by decide) rfl fl_1_28 ?_
        refine a_getR (ci := 3) (j := 2) dX1_finish_123 (kdB hb rfl) rfl (by decide) rfl fl_1_87 ?_
        refine a_iload_n dX1_finish_126 rfl ?_
        refine a_iconst (v := (-1)) dX1_finish_127 (by decide) ?_
        refine a_iastore dX1_finish_128 (kdB hb rfl) (hasI_in c27 hq) ?_
        refine a_aload_n dX1_finish_129 rfl ?_
        refine a_getR (ci := 1) (j := 2) dX1_finish_130 (kdB hb rfl) rfl (by decide) rfl fl_1_28 ?_
        refine a_getR (ci := 3) (j := 4) dX1_finish_133 (kdB hb rfl) rfl (by decide) rfl fl_1_124 ?_
        refine a_iload_n dX1_finish_136 rfl ?_
        refine a_dup2 dX1_finish_137 rfl rfl ?_
        refine a_iaload dX1_finish_138 (kdB hb rfl) (hasI_in c27 hq) ?_
        try simp (disch := first | decide | assumption | omega) only [ui_eq, ui_k, ui_j, ui_b, ui_2, ul_1, ul_eq, ul_k, ul_j, ul_b, giveF_k]
        refine a_iconst (v := 1) dX1_finish_139 (by decide) ?_
        refine a_iadd dX1_finish_140 ?_
        refine a_iastore dX1_finish_141 (kdB hb rfl) (hasI_in c27 hq) ?_
        exact a_vret dX1_finish_142 rfl (by simp only [finF, c8, c27, c46, if_true, if_false, not_true_eq_false, not_false_eq_true, Classical.not_not] at hQ ⊢; exact hQ)
      · refine a_iconst (v := 1) dX1_finish_49 (by decide) ?_
        refine a_goto dX1_finish_50 (tgt := 54) (by decide) ?_
        refine a_istore_n dX1_finish_54 (by decide) rfl ?_
        dsimp only [lset]
        refine a_aload_n dX1_finish_55 rfl ?_
        refine a_getR (ci := 1) (j := 3) dX1_finish_56 (kdB hb rfl) rfl (by decide) rfl fl_1_35 ?_
        refine a_getR (ci := 9) (j := 4) dX1_finish_59 (kdB hb rfl) rfl (by decide) rfl fl_1_90 ?_
        refine a_iload_n dX1_finish_62 rfl ?_
        refine a_iconst (v := 2) dX1_finish_63 (by decide) ?_
        refine a_iastore dX1_finish_64 (kdB hb rfl) (hasI_in c8 ht) ?_
        refine a_aload_n dX1_finish_65 rfl ?_
        refine a_getR (ci := 1) (j := 3) dX1_finish_66 (kdB hb rfl) rfl (by decide) rfl fl_1_35 ?_
        refine a_getR (ci := 9) (j := 7) dX1_finish_69 (kdB hb rfl) rfl (by decide) rfl fl_1_111 ?_
        refine a_iload_n dX1_finish_72 rfl ?_
        refine a_aload_n dX1_finish_73 rfl ?_
        refine a_getI (ci := 1) (j := 5) dX1_finish_74 (kdB hb rfl) rfl (by decide) rfl fl_1_58 ?_
        try simp (disch := first | decide | assumption | omega) only [ui_eq, ui_k, ui_j, ui_b, ui_2, ul_1, ul_eq, ul_k, ul_j, ul_b, giveF_k]
        refine a_iastore dX1_finish_77 (kdB hb rfl) (hasI_in c8 ht) ?_
        refine a_aload_n dX1_finish_78 rfl ?_
        refine a_getR (ci := 1) (j := 3) dX1_finish_79 (kdB hb rfl) rfl (by decide) rfl fl_1_35 ?_
        refine a_getR (ci := 9) (j := 8) dX1_finish_82 (kdB hb rfl) rfl (by decide) rfl fl_1_114 ?_
        refine a_iload_n dX1_finish_85 rfl ?_
        refine a_iload_n dX1_finish_86 rfl ?_
        refine a_iastore dX1_finish_87 (kdB hb rfl) (hasI_in c8 ht) ?_
        refine a_aload_n dX1_finish_88 rfl ?_
        refine a_getR (ci := 1) (j := 1) dX1_finish_89 (kdB hb rfl) rfl (by decide) rfl fl_1_21 ?_
        refine a_aload_n dX1_finish_92 rfl ?_
        refine a_getR (ci := 1) (j := 3) dX1_finish_93 (kdB hb rfl) rfl (by decide) rfl fl_1_35 ?_
        refine a_getR (ci := 9) (j := 5) dX1_finish_96 (kdB hb rfl) rfl (by decide) rfl fl_1_93 ?_
        refine a_iload_n dX1_finish_99 rfl ?_
        refine a_iaload dX1_finish_100 (kdB hb rfl) (hasI_in c8 ht) ?_
        try simp (disch := first | decide | assumption | omega) only [ui_eq, ui_k, ui_j, ui_b, ui_2, ul_1, ul_eq, ul_k, ul_j, ul_b, giveF_k]
        refine a_iload_n dX1_finish_101 rfl ?_
        refine a_iconst (v := 1) dX1_finish_102 (by decide) ?_
        refine a_cV3v dX1_finish_103 ml_1_117 wv_4_giveUp (kdB hb rfl) rfl (by decide) (Nat.le_of_ble_eq_true rfl) (c4_giveUp hb (by simp (disch := first | decide | assumption) only [ui_eq, ui_k, ui_j, ui_b, giveF_k]; exact hp) ⟨rfl, rfl⟩) ?_
        try simp (disch := first | decide | assumption | omega) only [ui_eq, ui_k, ui_j, ui_b, ui_2, ul_1, ul_eq, ul_k, ul_j, ul_b, giveF_k]
        refine a_aload_n dX1_finish_106 rfl ?_
        refine a_getR (ci := 1) (j := 2) dX1_finish_107 (kdB hb rfl) rfl (by decide) rfl fl_1_28 ?_
        refine a_getR (ci := 3) (j := 3) dX1_finish_110 (kdB hb rfl) rfl (by decide) rfl fl_1_121 ?_
        refine a_iload_n dX1_finish_113 rfl ?_
        refine a_dup2 dX1_finish_114 rfl rfl ?_
        refine a_iaload dX1_finish_115 (kdB hb rfl) (hasI_in c27 hq) ?_
        try simp (disch := first | decide | assumption | omega) only [ui_eq, ui_k, ui_j, ui_b, ui_2, ul_1, ul_eq, ul_k, ul_j, ul_b, giveF_k]
        refine a_iload_n dX1_finish_116 rfl ?_
        refine a_iadd dX1_finish_117 ?_
        refine a_iastore dX1_finish_118 (kdB hb rfl) (hasI_in c27 hq) ?_
        refine a_aload_n dX1_finish_119 rfl ?_
        refine a_getR (ci := 1) (j := 2) dX1_finish_120 (kdB hb rfl) rfl (by decide) rfl fl_1_28 ?_
        refine a_getR (ci := 3) (j := 2) dX1_finish_123 (kdB hb rfl) rfl (by decide) rfl fl_1_87 ?_
        refine a_iload_n dX1_finish_126 rfl ?_
        refine a_iconst (v := (-1)) dX1_finish_127 (by decide) ?_
        refine a_iastore dX1_finish_128 (kdB hb rfl) (hasI_in c27 hq) ?_
        refine a_aload_n dX1_finish_129 rfl ?_
        refine a_getR (ci := 1) (j := 2) dX1_finish_130 (kdB hb rfl) rfl (by decide) rfl fl_1_28 ?_
        refine a_getR (ci := 3) (j := 4) dX1_finish_133 (kdB hb rfl) rfl (by decide) rfl fl_1_124 ?_
        refine a_iload_n dX1_finish_136 rfl ?_
        refine a_dup2 dX1_finish_137 rfl rfl ?_
        refine a_iaload dX1_finish_138 (kdB hb rfl) (hasI_in c27 hq) ?_
        try simp (disch := first | decide | assumption | omega) only [ui_eq, ui_k, ui_j, ui_b, ui_2, ul_1, ul_eq, ul_k, ul_j, ul_b, giveF_k]
        refine a_iconst (v := 1) dX1_finish_139 (by decide) ?_
        refine a_iadd dX1_finish_140 ?_
        refine a_iastore dX1_finish_141 (kdB hb rfl) (hasI_in c27 hq) ?_
        exact a_vret dX1_finish_142 rfl (by simp only [finF, c8, c27, c46, if_true, if_false, not_true_eq_false, not_false_eq_true, Classical.not_not] at hQ ⊢; exact hQ)
    · exact a_vret dX1_finish_30 rfl (by simp only [finF, c8, c27, if_true, if_false, not_true_eq_false, not_false_eq_true, Classical.not_not] at hQ ⊢; exact hQ)
theorem c1_takeBackTrip {l : Launch} {G : GG} {h : AH} {Q : Option Value → AH → Prop} {b : Nat} (hb : isB b) {x : Int32} (hq : (h.1 b 15 5).toInt ≤ 8) (hQ : Q none (tbTripF h b x)) : Ct l G 1 yX1_takeBackTrip cX1_takeBackTrip 2 none [.ref (G.1 b 0), .int x] h Q := by
  refine Ct.of (by decide) (Nat.le_of_ble_eq_true rfl) ?_
  show AW l G 1 RX1 cX1_takeBackTrip 2 none 0 [some (.ref (G.1 b 0)), some (.int x)] [] h Q
  refine a_aload_n dX1_takeBackTrip_0 rfl ?_
  refine a_getR (ci := 1) (j := 2) dX1_takeBackTrip_1 (kdB hb rfl) rfl (by decide) rfl fl_1_28 ?_
  refine a_iload_n dX1_takeBackTrip_4 rfl ?_
  refine a_cV1i dX1_takeBackTrip_5 ml_1_70 wv_3_has (kdB hb rfl) rfl (by decide) (Nat.le_of_ble_eq_true rfl) (c3_has hb ⟨rfl, rfl⟩) ?_
  refine a_if_eq dX1_takeBackTrip_8 (tgt := 44) (by decide) (fun c8 => ?_) (fun c8 => ?_)
  · exact a_vret dX1_takeBackTrip_44 rfl (by simp only [tbTripF, c8, if_true, if_false, not_true_eq_false, not_false_eq_true, Classical.not_not] at hQ ⊢; exact hQ)
  · refine a_aload_n dX1_takeBackTrip_11 rfl ?_
    refine a_getR (ci := 1) (j := 3) dX1_takeBackTrip_12 (kdB hb rfl) rfl (by decide) rfl fl_1_35 ?_
    refine a_getI (ci := 9) (j := 9) dX1_takeBackTrip_15 (kdB hb rfl) rfl (by decide) rfl fl_1_51 ?_
    refine a_if_le dX1_takeBackTrip_18 (tgt := 44) (by decide) (fun c18 => ?_) (fun c18 => ?_)
    · exact a_vret dX1_takeBackTrip_44 rfl (by simp only [tbTripF, c8, c18, if_true, if_false, not_true_eq_false, not_false_eq_true, Classical.not_not] at hQ ⊢; exact hQ)
    · refine a_aload_n dX1_takeBackTrip_21 rfl ?_
      refine a_getR (ci := 1) (j := 2) dX1_takeBackTrip_22 (kdB hb rfl) rfl (by decide) rfl fl_1_28 ?_
      refine a_getR (ci := 3) (j := 2) dX1_takeBackTrip_25 (kdB hb rfl) rfl (by decide) rfl fl_1_87 ?_
      refine a_iload_n dX1_takeBackTrip_28 rfl ?_
      refine a_iconst (v := (-1)) dX1_takeBackTrip_29 (by decide) ?_
      refine a_iastore dX1_takeBackTrip_30 (kdB hb rfl) (hasI_in c8 hq) ?_
      refine a_aload_n dX1_takeBackTrip_31 rfl ?_
      refine a_getR (ci := 1) (j := 3) dX1_takeBackTrip_32 (kdB hb rfl) rfl (by decide) rfl fl_1_35 ?_
      refine a_dup dX1_takeBackTrip_35 rfl ?_
      refine a_getI (ci := 9) (j := 9) dX1_takeBackTrip_36 (kdB hb rfl) rfl (by decide) rfl fl_1_51 ?_
      try simp (disch := first | decide | assumption | omega) only [ui_eq, ui_k, ui_j, ui_b, ui_2, ul_1, ul_eq, ul_k, ul_j, ul_b]
      refine a_iconst (v := 1) dX1_takeBackTrip_39 (by decide) ?_
      refine a_isub dX1_takeBackTrip_40 ?_
      refine a_putI (ci := 9) (j := 9) dX1_takeBackTrip_41 (kdB hb rfl) rfl (by decide) (by decide) rfl fl_1_51 ?_
      exact a_vret dX1_takeBackTrip_44 rfl (by simp only [tbTripF, c8, c18, if_true, if_false, not_true_eq_false, not_false_eq_true, Classical.not_not] at hQ ⊢; exact hQ)
theorem c1_takeBackMisuse {l : Launch} {G : GG} {h : AH} {Q : Option Value → AH → Prop} {b : Nat} (hb : isB b) {x y : Int32} (hq : (h.1 b 15 5).toInt ≤ 8) (hQ : Q none (tbMisF h b x y)) : Ct l G 1 yX1_takeBackMisuse cX1_takeBackMisuse 3 none [.ref (G.1 b 0), .int x, .int y] h Q := by
  refine Ct.of (by decide) (Nat.le_of_ble_eq_true rfl) ?_
  show AW l G 1 RX1 cX1_takeBackMisuse 3 none 0 [some (.ref (G.1 b 0)), some (.int x), some (.int y)] [] h Q
  refine a_aload_n dX1_takeBackMisuse_0 rfl ?_
  refine a_getR (ci := 1) (j := 2) dX1_takeBackMisuse_1 (kdB hb rfl) rfl (by decide) rfl fl_1_28 ?_
  refine a_iload_n dX1_takeBackMisuse_4 rfl ?_
  refine a_cV1i dX1_takeBackMisuse_5 ml_1_70 wv_3_has (kdB hb rfl) rfl (by decide) (Nat.le_of_ble_eq_true rfl) (c3_has hb ⟨rfl, rfl⟩) ?_
  refine a_if_eq dX1_takeBackMisuse_8 (tgt := 24) (by decide) (fun c8 => ?_) (fun c8 => ?_)
  · exact a_vret dX1_takeBackMisuse_24 rfl (by simp only [tbMisF, c8, if_true, if_false, not_true_eq_false, not_false_eq_true, Classical.not_not] at hQ ⊢; exact hQ)
  · refine a_aload_n dX1_takeBackMisuse_11 rfl ?_
    refine a_getR (ci := 1) (j := 2) dX1_takeBackMisuse_12 (kdB hb rfl) rfl (by decide) rfl fl_1_28 ?_
    refine a_getR (ci := 3) (j := 3) dX1_takeBackMisuse_15 (kdB hb rfl) rfl (by decide) rfl fl_1_121 ?_
    refine a_iload_n dX1_takeBackMisuse_18 rfl ?_
    refine a_dup2 dX1_takeBackMisuse_19 rfl rfl ?_
    refine a_iaload dX1_takeBackMisuse_20 (kdB hb rfl) (hasI_in c8 hq) ?_
    refine a_iload_n dX1_takeBackMisuse_21 rfl ?_
    refine a_isub dX1_takeBackMisuse_22 ?_
    refine a_iastore dX1_takeBackMisuse_23 (kdB hb rfl) (hasI_in c8 hq) ?_
    exact a_vret dX1_takeBackMisuse_24 rfl (by simp only [tbMisF, c8, if_true, if_false, not_true_eq_false, not_false_eq_true, Classical.not_not] at hQ ⊢; exact hQ)
theorem c1_waitAgain {l : Launch} {G : GG} {h : AH} {Q : Option Value → AH → Prop} {b : Nat} (hb : isB b) {x : Int32} (hp : (h.1 b 3 11).toInt ≤ 6) (ht : (h.1 b 21 9).toInt ≤ 40) (hQ : Q none (waitF h b x)) : Ct l G 1 yX1_waitAgain cX1_waitAgain 2 none [.ref (G.1 b 0), .int x] h Q := by
  refine Ct.of (by decide) (Nat.le_of_ble_eq_true rfl) ?_
  show AW l G 1 RX1 cX1_waitAgain 2 none 0 [some (.ref (G.1 b 0)), some (.int x)] [] h Q
  refine a_aload_n dX1_waitAgain_0 rfl ?_
  refine a_getR (ci := 1) (j := 3) dX1_waitAgain_1 (kdB hb rfl) rfl (by decide) rfl fl_1_35 ?_
  refine a_iload_n dX1_waitAgain_4 rfl ?_
  refine a_cV1i dX1_waitAgain_5 ml_1_65 wv_9_has (kdB hb rfl) rfl (by decide) (Nat.le_of_ble_eq_true rfl) (c9_has hb ⟨rfl, rfl⟩) ?_
  refine a_if_eq dX1_waitAgain_8 (tgt := 30) (by decide) (fun c8 => ?_) (fun c8 => ?_)
  · exact a_vret dX1_waitAgain_30 rfl (by simp only [waitF, c8, if_true, if_false, not_true_eq_false, not_false_eq_true, Classical.not_not] at hQ ⊢; exact hQ)
  · refine a_aload_n dX1_waitAgain_11 rfl ?_
    refine a_getR (ci := 1) (j := 1) dX1_waitAgain_12 (kdB hb rfl) rfl (by decide) rfl fl_1_21 ?_
    refine a_aload_n dX1_waitAgain_15 rfl ?_
    refine a_getR (ci := 1) (j := 3) dX1_waitAgain_16 (kdB hb rfl) rfl (by decide) rfl fl_1_35 ?_
    refine a_getR (ci := 9) (j := 5) dX1_waitAgain_19 (kdB hb rfl) rfl (by decide) rfl fl_1_93 ?_
    refine a_iload_n dX1_waitAgain_22 rfl ?_
    refine a_iaload dX1_waitAgain_23 (kdB hb rfl) (hasI_in c8 ht) ?_
    refine a_cV1i dX1_waitAgain_24 ml_1_61 wv_4_has (kdB hb rfl) rfl (by decide) (Nat.le_of_ble_eq_true rfl) (c4_has hb ⟨rfl, rfl⟩) ?_
    refine a_if_ne dX1_waitAgain_27 (tgt := 31) (by decide) (fun c27 => ?_) (fun c27 => ?_)
    · refine a_aload_n dX1_waitAgain_31 rfl ?_
      refine a_getR (ci := 1) (j := 1) dX1_waitAgain_32 (kdB hb rfl) rfl (by decide) rfl fl_1_21 ?_
      refine a_getR (ci := 4) (j := 7) dX1_waitAgain_35 (kdB hb rfl) rfl (by decide) rfl fl_1_108 ?_
      refine a_aload_n dX1_waitAgain_38 rfl ?_
      refine a_getR (ci := 1) (j := 3) dX1_waitAgain_39 (kdB hb rfl) rfl (by decide) rfl fl_1_35 ?_
      refine a_getR (ci := 9) (j := 5) dX1_waitAgain_42 (kdB hb rfl) rfl (by decide) rfl fl_1_93 ?_
      refine a_iload_n dX1_waitAgain_45 rfl ?_
      refine a_iaload dX1_waitAgain_46 (kdB hb rfl) (hasI_in c8 ht) ?_
      refine a_dup2 dX1_waitAgain_47 rfl rfl ?_
      refine a_iaload dX1_waitAgain_48 (kdB hb rfl) (hasI_in c27 hp) ?_
      refine a_iconst (v := 1) dX1_waitAgain_49 (by decide) ?_
      refine a_isub dX1_waitAgain_50 ?_
      refine a_iastore dX1_waitAgain_51 (kdB hb rfl) (hasI_in c27 hp) ?_
      refine a_aload_n dX1_waitAgain_52 rfl ?_
      refine a_getR (ci := 1) (j := 3) dX1_waitAgain_53 (kdB hb rfl) rfl (by decide) rfl fl_1_35 ?_
      refine a_getR (ci := 9) (j := 4) dX1_waitAgain_56 (kdB hb rfl) rfl (by decide) rfl fl_1_90 ?_
      refine a_iload_n dX1_waitAgain_59 rfl ?_
      refine a_iconst (v := 0) dX1_waitAgain_60 (by decide) ?_
      refine a_iastore dX1_waitAgain_61 (kdB hb rfl) (hasI_in c8 ht) ?_
      refine a_aload_n dX1_waitAgain_62 rfl ?_
      refine a_getR (ci := 1) (j := 3) dX1_waitAgain_63 (kdB hb rfl) rfl (by decide) rfl fl_1_35 ?_
      refine a_getR (ci := 9) (j := 5) dX1_waitAgain_66 (kdB hb rfl) rfl (by decide) rfl fl_1_93 ?_
      refine a_iload_n dX1_waitAgain_69 rfl ?_
      refine a_iconst (v := (-1)) dX1_waitAgain_70 (by decide) ?_
      refine a_iastore dX1_waitAgain_71 (kdB hb rfl) (hasI_in c8 ht) ?_
      refine a_aload_n dX1_waitAgain_72 rfl ?_
      refine a_getR (ci := 1) (j := 3) dX1_waitAgain_73 (kdB hb rfl) rfl (by decide) rfl fl_1_35 ?_
      refine a_getR (ci := 9) (j := 6) dX1_waitAgain_76 (kdB hb rfl) rfl (by decide) rfl fl_1_96 ?_
      refine a_iload_n dX1_waitAgain_79 rfl ?_
      refine a_iconst (v := (-1)) dX1_waitAgain_80 (by decide) ?_
      refine a_iastore dX1_waitAgain_81 (kdB hb rfl) (hasI_in c8 ht) ?_
      exact a_vret dX1_waitAgain_82 rfl (by simp only [waitF, c8, c27, if_true, if_false, not_true_eq_false, not_false_eq_true, Classical.not_not] at hQ ⊢; exact hQ)
    · exact a_vret dX1_waitAgain_30 rfl (by simp only [waitF, c8, c27, if_true, if_false, not_true_eq_false, not_false_eq_true, Classical.not_not] at hQ ⊢; exact hQ)
theorem c1_reopen {l : Launch} {G : GG} {h : AH} {Q : Option Value → AH → Prop} {b : Nat} (hb : isB b) {x : Int32} (hp : (h.1 b 3 11).toInt ≤ 6) (ht : (h.1 b 21 9).toInt ≤ 40) (hq : (h.1 b 15 5).toInt ≤ 8) (hQ : Q none (reopF h b x)) : Ct l G 2 yX1_reopen cX1_reopen 4 none [.ref (G.1 b 0), .int x] h Q := by
  refine Ct.of (by decide) (Nat.le_of_ble_eq_true rfl) ?_
  show AW l G 2 RX1 cX1_reopen 4 none 0 [some (.ref (G.1 b 0)), some (.int x)] [] h Q
  refine a_aload_n dX1_reopen_0 rfl ?_
  refine a_getR (ci := 1) (j := 3) dX1_reopen_1 (kdB hb rfl) rfl (by decide) rfl fl_1_35 ?_
  refine a_iload_n dX1_reopen_4 rfl ?_
  refine a_cV1i dX1_reopen_5 ml_1_65 wv_9_has (kdB hb rfl) rfl (by decide) (Nat.le_of_ble_eq_true rfl) (c9_has hb ⟨rfl, rfl⟩) ?_
  try simp (disch := first | decide | assumption | omega) only [ui_eq, ui_k, ui_j, ui_b, ui_2, ul_1, ul_eq, ul_k, ul_j, ul_b, giveF_k]
  refine a_if_eq dX1_reopen_8 (tgt := 30) (by decide) (fun c8 => ?_) (fun c8 => ?_)
  · exact a_vret dX1_reopen_30 rfl (by simp only [reopF, c8, if_true, if_false, not_true_eq_false, not_false_eq_true, Classical.not_not] at hQ ⊢; exact hQ)
  · refine a_aload_n dX1_reopen_11 rfl ?_
    refine a_getR (ci := 1) (j := 2) dX1_reopen_12 (kdB hb rfl) rfl (by decide) rfl fl_1_28 ?_
    refine a_aload_n dX1_reopen_15 rfl ?_
    refine a_getR (ci := 1) (j := 3) dX1_reopen_16 (kdB hb rfl) rfl (by decide) rfl fl_1_35 ?_
    refine a_getR (ci := 9) (j := 0) dX1_reopen_19 (kdB hb rfl) rfl (by decide) rfl fl_1_66 ?_
    refine a_iload_n dX1_reopen_22 rfl ?_
    refine a_iaload dX1_reopen_23 (kdB hb rfl) (hasI_in c8 ht) ?_
    try simp (disch := first | decide | assumption | omega) only [ui_eq, ui_k, ui_j, ui_b, ui_2, ul_1, ul_eq, ul_k, ul_j, ul_b, giveF_k]
    refine a_cV1i dX1_reopen_24 ml_1_70 wv_3_has (kdB hb rfl) rfl (by decide) (Nat.le_of_ble_eq_true rfl) (c3_has hb ⟨rfl, rfl⟩) ?_
    try simp (disch := first | decide | assumption | omega) only [ui_eq, ui_k, ui_j, ui_b, ui_2, ul_1, ul_eq, ul_k, ul_j, ul_b, giveF_k]
    refine a_if_ne dX1_reopen_27 (tgt := 31) (by decide) (fun c27 => ?_) (fun c27 => ?_)
    · refine a_aload_n dX1_reopen_31 rfl ?_
      refine a_getR (ci := 1) (j := 3) dX1_reopen_32 (kdB hb rfl) rfl (by decide) rfl fl_1_35 ?_
      refine a_getR (ci := 9) (j := 0) dX1_reopen_35 (kdB hb rfl) rfl (by decide) rfl fl_1_66 ?_
      refine a_iload_n dX1_reopen_38 rfl ?_
      refine a_iaload dX1_reopen_39 (kdB hb rfl) (hasI_in c8 ht) ?_
      try simp (disch := first | decide | assumption | omega) only [ui_eq, ui_k, ui_j, ui_b, ui_2, ul_1, ul_eq, ul_k, ul_j, ul_b, giveF_k]
      refine a_istore_n dX1_reopen_40 (by decide) rfl ?_
      dsimp only [lset]
      refine a_aload_n dX1_reopen_41 rfl ?_
      refine a_getR (ci := 1) (j := 3) dX1_reopen_42 (kdB hb rfl) rfl (by decide) rfl fl_1_35 ?_
      refine a_getR (ci := 9) (j := 8) dX1_reopen_45 (kdB hb rfl) rfl (by decide) rfl fl_1_114 ?_
      refine a_iload_n dX1_reopen_48 rfl ?_
      refine a_iaload dX1_reopen_49 (kdB hb rfl) (hasI_in c8 ht) ?_
      try simp (disch := first | decide | assumption | omega) only [ui_eq, ui_k, ui_j, ui_b, ui_2, ul_1, ul_eq, ul_k, ul_j, ul_b, giveF_k]
      refine a_istore_n dX1_reopen_50 (by decide) rfl ?_
      dsimp only [lset]
      refine a_aload_n dX1_reopen_51 rfl ?_
      refine a_getR (ci := 1) (j := 3) dX1_reopen_52 (kdB hb rfl) rfl (by decide) rfl fl_1_35 ?_
      refine a_getR (ci := 9) (j := 4) dX1_reopen_55 (kdB hb rfl) rfl (by decide) rfl fl_1_90 ?_
      refine a_iload_n dX1_reopen_58 rfl ?_
      refine a_aload_n dX1_reopen_59 rfl ?_
      refine a_getR (ci := 1) (j := 3) dX1_reopen_60 (kdB hb rfl) rfl (by decide) rfl fl_1_35 ?_
      refine a_getR (ci := 9) (j := 5) dX1_reopen_63 (kdB hb rfl) rfl (by decide) rfl fl_1_93 ?_
      refine a_iload_n dX1_reopen_66 rfl ?_
      refine a_iaload dX1_reopen_67 (kdB hb rfl) (hasI_in c8 ht) ?_
      try simp (disch := first | decide | assumption | omega) only [ui_eq, ui_k, ui_j, ui_b, ui_2, ul_1, ul_eq, ul_k, ul_j, ul_b, giveF_k]
      refine a_iconst (v := (-1)) dX1_reopen_68 (by decide) ?_
      refine a_icmp_ne dX1_reopen_69 (tgt := 76) (by decide) (fun c69 => ?_) (fun c69 => ?_)
      · refine a_iconst (v := 1) dX1_reopen_76 (by decide) ?_
        refine a_iastore dX1_reopen_77 (kdB hb rfl) (hasI_in c8 ht) ?_
        refine a_aload_n dX1_reopen_78 rfl ?_
        refine a_getR (ci := 1) (j := 3) dX1_reopen_79 (kdB hb rfl) rfl (by decide) rfl fl_1_35 ?_
        refine a_getR (ci := 9) (j := 7) dX1_reopen_82 (kdB hb rfl) rfl (by decide) rfl fl_1_111 ?_
        refine a_iload_n dX1_reopen_85 rfl ?_
        refine a_iconst (v := (-1)) dX1_reopen_86 (by decide) ?_
        refine a_iastore dX1_reopen_87 (kdB hb rfl) (hasI_in c8 ht) ?_
        refine a_aload_n dX1_reopen_88 rfl ?_
        refine a_getR (ci := 1) (j := 3) dX1_reopen_89 (kdB hb rfl) rfl (by decide) rfl fl_1_35 ?_
        refine a_getR (ci := 9) (j := 8) dX1_reopen_92 (kdB hb rfl) rfl (by decide) rfl fl_1_114 ?_
        refine a_iload_n dX1_reopen_95 rfl ?_
        refine a_iconst (v := 0) dX1_reopen_96 (by decide) ?_
        refine a_iastore dX1_reopen_97 (kdB hb rfl) (hasI_in c8 ht) ?_
        refine a_aload_n dX1_reopen_98 rfl ?_
        refine a_getR (ci := 1) (j := 1) dX1_reopen_99 (kdB hb rfl) rfl (by decide) rfl fl_1_21 ?_
        refine a_aload_n dX1_reopen_102 rfl ?_
        refine a_getR (ci := 1) (j := 3) dX1_reopen_103 (kdB hb rfl) rfl (by decide) rfl fl_1_35 ?_
        refine a_getR (ci := 9) (j := 5) dX1_reopen_106 (kdB hb rfl) rfl (by decide) rfl fl_1_93 ?_
        refine a_iload_n dX1_reopen_109 rfl ?_
        refine a_iaload dX1_reopen_110 (kdB hb rfl) (hasI_in c8 ht) ?_
        try simp (disch := first | decide | assumption | omega) only [ui_eq, ui_k, ui_j, ui_b, ui_2, ul_1, ul_eq, ul_k, ul_j, ul_b, giveF_k]
        refine a_iload_n dX1_reopen_111 rfl ?_
        refine a_iconst (v := (-1)) dX1_reopen_112 (by decide) ?_
        refine a_cV3v dX1_reopen_113 ml_1_117 wv_4_giveUp (kdB hb rfl) rfl (by decide) (Nat.le_of_ble_eq_true rfl) (c4_giveUp hb (by simp (disch := first | decide | assumption) only [ui_eq, ui_k, ui_j, ui_b, giveF_k]; exact hp) ⟨rfl, rfl⟩) ?_
        try simp (disch := first | decide | assumption | omega) only [ui_eq, ui_k, ui_j, ui_b, ui_2, ul_1, ul_eq, ul_k, ul_j, ul_b, giveF_k]
        refine a_aload_n dX1_reopen_116 rfl ?_
        refine a_getR (ci := 1) (j := 2) dX1_reopen_117 (kdB hb rfl) rfl (by decide) rfl fl_1_28 ?_
        refine a_getR (ci := 3) (j := 3) dX1_reopen_120 (kdB hb rfl) rfl (by decide) rfl fl_1_121 ?_
        refine a_iload_n dX1_reopen_123 rfl ?_
        refine a_dup2 dX1_reopen_124 rfl rfl ?_
        refine a_iaload dX1_reopen_125 (kdB hb rfl) (hasI_in c27 hq) ?_
        try simp (disch := first | decide | assumption | omega) only [ui_eq, ui_k, ui_j, ui_b, ui_2, ul_1, ul_eq, ul_k, ul_j, ul_b, giveF_k]
        refine a_iload_n dX1_reopen_126 rfl ?_
        refine a_isub dX1_reopen_127 ?_
        refine a_iastore dX1_reopen_128 (kdB hb rfl) (hasI_in c27 hq) ?_
        refine a_aload_n dX1_reopen_129 rfl ?_
        refine a_getR (ci := 1) (j := 2) dX1_reopen_130 (kdB hb rfl) rfl (by decide) rfl fl_1_28 ?_
        refine a_getR (ci := 3) (j := 2) dX1_reopen_133 (kdB hb rfl) rfl (by decide) rfl fl_1_87 ?_
        refine a_iload_n dX1_reopen_136 rfl ?_
        refine a_iload_n dX1_reopen_137 rfl ?_
        refine a_iastore dX1_reopen_138 (kdB hb rfl) (hasI_in c27 hq) ?_
        refine a_aload_n dX1_reopen_139 rfl ?_
        refine a_getR (ci := 1) (j := 2) dX1_reopen_140 (kdB hb rfl) rfl (by decide) rfl fl_1_28 ?_
        refine a_getR (ci := 3) (j := 4) dX1_reopen_143 (kdB hb rfl) rfl (by decide) rfl fl_1_124 ?_
        refine a_iload_n dX1_reopen_146 rfl ?_
        refine a_dup2 dX1_reopen_147 rfl rfl ?_
        refine a_iaload dX1_reopen_148 (kdB hb rfl) (hasI_in c27 hq) ?_
        try simp (disch := first | decide | assumption | omega) only [ui_eq, ui_k, ui_j, ui_b, ui_2, ul_1, ul_eq, ul_k, ul_j, ul_b, giveF_k]
        refine a_iconst (v := 1) dX1_reopen_149 (by decide) ?_
        refine a_isub dX1_reopen_150 ?_
        refine a_iastore dX1_reopen_151 (kdB hb rfl) (hasI_in c27 hq) ?_
        exact a_vret dX1_reopen_152 rfl (by simp only [reopF, c8, c27, c69, if_true, if_false, not_true_eq_false, not_false_eq_true, Classical.not_not] at hQ ⊢; exact hQ)
      · refine a_iconst (v := 0) dX1_reopen_72 (by decide) ?_
        refine a_goto dX1_reopen_73 (tgt := 77) (by decide) ?_
        refine a_iastore dX1_reopen_77 (kdB hb rfl) (hasI_in c8 ht) ?_
        refine a_aload_n dX1_reopen_78 rfl ?_
        refine a_getR (ci := 1) (j := 3) dX1_reopen_79 (kdB hb rfl) rfl (by decide) rfl fl_1_35 ?_
        refine a_getR (ci := 9) (j := 7) dX1_reopen_82 (kdB hb rfl) rfl (by decide) rfl fl_1_111 ?_
        refine a_iload_n dX1_reopen_85 rfl ?_
        refine a_iconst (v := (-1)) dX1_reopen_86 (by decide) ?_
        refine a_iastore dX1_reopen_87 (kdB hb rfl) (hasI_in c8 ht) ?_
        refine a_aload_n dX1_reopen_88 rfl ?_
        refine a_getR (ci := 1) (j := 3) dX1_reopen_89 (kdB hb rfl) rfl (by decide) rfl fl_1_35 ?_
        refine a_getR (ci := 9) (j := 8) dX1_reopen_92 (kdB hb rfl) rfl (by decide) rfl fl_1_114 ?_
        refine a_iload_n dX1_reopen_95 rfl ?_
        refine a_iconst (v := 0) dX1_reopen_96 (by decide) ?_
        refine a_iastore dX1_reopen_97 (kdB hb rfl) (hasI_in c8 ht) ?_
        refine a_aload_n dX1_reopen_98 rfl ?_
        refine a_getR (ci := 1) (j := 1) dX1_reopen_99 (kdB hb rfl) rfl (by decide) rfl fl_1_21 ?_
        refine a_aload_n dX1_reopen_102 rfl ?_
        refine a_getR (ci := 1) (j := 3) dX1_reopen_103 (kdB hb rfl) rfl (by decide) rfl fl_1_35 ?_
        refine a_getR (ci := 9) (j := 5) dX1_reopen_106 (kdB hb rfl) rfl (by decide) rfl fl_1_93 ?_
        refine a_iload_n dX1_reopen_109 rfl ?_
        refine a_iaload dX1_reopen_110 (kdB hb rfl) (hasI_in c8 ht) ?_
        try simp (disch := first | decide | assumption | omega) only [ui_eq, ui_k, ui_j, ui_b, ui_2, ul_1, ul_eq, ul_k, ul_j, ul_b, giveF_k]
        refine a_iload_n dX1_reopen_111 rfl ?_
        refine a_iconst (v := (-1)) dX1_reopen_112 (by decide) ?_
        refine a_cV3v dX1_reopen_113 ml_1_117 wv_4_giveUp (kdB hb rfl) rfl (by decide) (Nat.le_of_ble_eq_true rfl) (c4_giveUp hb (by simp (disch := first | decide | assumption) only [ui_eq, ui_k, ui_j, ui_b, giveF_k]; exact hp) ⟨rfl, rfl⟩) ?_
        try simp (disch := first | decide | assumption | omega) only [ui_eq, ui_k, ui_j, ui_b, ui_2, ul_1, ul_eq, ul_k, ul_j, ul_b, giveF_k]
        refine a_aload_n dX1_reopen_116 rfl ?_
        refine a_getR (ci := 1) (j := 2) dX1_reopen_117 (kdB hb rfl) rfl (by decide) rfl fl_1_28 ?_
        refine a_getR (ci := 3) (j := 3) dX1_reopen_120 (kdB hb rfl) rfl (by decide) rfl fl_1_121 ?_
        refine a_iload_n dX1_reopen_123 rfl ?_
        refine a_dup2 dX1_reopen_124 rfl rfl ?_
        refine a_iaload dX1_reopen_125 (kdB hb rfl) (hasI_in c27 hq) ?_
        try simp (disch := first | decide | assumption | omega) only [ui_eq, ui_k, ui_j, ui_b, ui_2, ul_1, ul_eq, ul_k, ul_j, ul_b, giveF_k]
        refine a_iload_n dX1_reopen_126 rfl ?_
        refine a_isub dX1_reopen_127 ?_
        refine a_iastore dX1_reopen_128 (kdB hb rfl) (hasI_in c27 hq) ?_
        refine a_aload_n dX1_reopen_129 rfl ?_
        refine a_getR (ci := 1) (j := 2) dX1_reopen_130 (kdB hb rfl) rfl (by decide) rfl fl_1_28 ?_
        refine a_getR (ci := 3) (j := 2) dX1_reopen_133 (kdB hb rfl) rfl (by decide) rfl fl_1_87 ?_
        refine a_iload_n dX1_reopen_136 rfl ?_
        refine a_iload_n dX1_reopen_137 rfl ?_
        refine a_iastore dX1_reopen_138 (kdB hb rfl) (hasI_in c27 hq) ?_
        refine a_aload_n dX1_reopen_139 rfl ?_
        refine a_getR (ci := 1) (j := 2) dX1_reopen_140 (kdB hb rfl) rfl (by decide) rfl fl_1_28 ?_
        refine a_getR (ci := 3) (j := 4) dX1_reopen_143 (kdB hb rfl) rfl (by decide) rfl fl_1_124 ?_
        refine a_iload_n dX1_reopen_146 rfl ?_
        refine a_dup2 dX1_reopen_147 rfl rfl ?_
        refine a_iaload dX1_reopen_148 (kdB hb rfl) (hasI_in c27 hq) ?_
        try simp (disch := first | decide | assumption | omega) only [ui_eq, ui_k, ui_j, ui_b, ui_2, ul_1, ul_eq, ul_k, ul_j, ul_b, giveF_k]
        refine a_iconst (v := 1) dX1_reopen_149 (by decide) ?_
        refine a_isub dX1_reopen_150 ?_
        refine a_iastore dX1_reopen_151 (kdB hb rfl) (hasI_in c27 hq) ?_
        exact a_vret dX1_reopen_152 rfl (by simp only [reopF, c8, c27, c69, if_true, if_false, not_true_eq_false, not_false_eq_true, Classical.not_not] at hQ ⊢; exact hQ)
    · exact a_vret dX1_reopen_30 rfl (by simp only [reopF, c8, c27, if_true, if_false, not_true_eq_false, not_false_eq_true, Classical.not_not] at hQ ⊢; exact hQ)
theorem l1_call {l : Launch} {G : GG} {h : AH} {Q : Option Value → AH → Prop} {b : Nat} (hb : isB b) {x : Int32} (hp : (h.1 b 3 11).toInt ≤ 6) (ht : (h.1 b 21 9).toInt ≤ 40) {n : Nat} (hn : h.1 b 15 5 = nI n) (h8 : n ≤ 8) (i : Nat) (hi : i ≤ n) (hQ : Q none (callF h b x n)) : AW l G 2 RX1 cX1_callBack 3 none 2 [some (.ref (G.1 b 0)), some (.int x), some (.int (nI i))] [] (callF h b x i) Q := by
  have hci : (nI i).toNatClampNeg = i := nI_clamp (by omega)
  have hq : (h.1 b 15 5).toInt ≤ 8 := by rw [hn, nI_toInt (by omega)]; omega
  refine a_iload_n dX1_callBack_2 rfl ?_
  refine a_aload_n dX1_callBack_3 rfl ?_
  refine a_getR (ci := 1) (j := 2) dX1_callBack_4 (kdB hb rfl) rfl (by decide) rfl fl_1_28 ?_
  refine a_getI (ci := 3) (j := 5) dX1_callBack_7 (kdB hb rfl) rfl (by decide) rfl fl_1_144 ?_
  try simp (disch := first | decide | assumption | omega) only [ui_eq, ui_k, ui_j, ui_b, ui_2, ul_1, ul_eq, ul_k, ul_j, ul_b, hci, hn, callF_k]
  refine a_icmp_ge dX1_callBack_10 (tgt := 48) (by decide) (fun c10 => ?_) (fun c10 => ?_)
  · have hge : n ≤ i := le_of_le c10 (by omega) (by omega)
    have hie : i = n := by omega
    subst hie
    exact a_vret dX1_callBack_48 rfl hQ
  · have hlt : i < n := lt_of_nle c10 (by omega) (by omega)
    refine a_iload_n dX1_callBack_13 rfl ?_
    refine a_iload_n dX1_callBack_14 rfl ?_
    refine a_ishr dX1_callBack_15 ?_
    refine a_iconst (v := 1) dX1_callBack_16 (by decide) ?_
    refine a_iand dX1_callBack_17 ?_
    refine a_if_eq dX1_callBack_18 (tgt := 42) (by decide) (fun c18 => ?_) (fun c18 => ?_)
    · refine a_inc (c := 1) dX1_callBack_42 rfl (by decide) (by decide) rfl ?_
      dsimp only [lset]
      refine a_goto dX1_callBack_45 (tgt := 2) (by decide) ?_
      rw [nI_1]
      have e := l1_call (l := l) (G := G) hb hp ht hn h8 (i + 1) (by omega) hQ
      simp only [callF, c10, c18, if_true, if_false] at e
      try simp (disch := decide) only [callF_k] at e
      exact e
    · refine a_aload_n dX1_callBack_21 rfl ?_
      refine a_iload_n dX1_callBack_22 rfl ?_
      refine a_cV1i dX1_callBack_23 ml_1_102 wv_1_isOut (kdB hb rfl) rfl (by decide) (Nat.le_of_ble_eq_true rfl) (c1_isOut hb (by simp (disch := first | decide | assumption) only [ui_eq, ui_k, ui_j, ui_b, giveF_k, callF_k]; exact ht) (by simp (disch := first | decide | assumption) only [ui_eq, ui_k, ui_j, ui_b, giveF_k, callF_k]; exact hq) ⟨rfl, rfl⟩) ?_
      try simp (disch := first | decide | assumption | omega) only [ui_eq, ui_k, ui_j, ui_b, ui_2, ul_1, ul_eq, ul_k, ul_j, ul_b, hci, hn, callF_k]
      refine a_if_eq dX1_callBack_26 (tgt := 42) (by decide) (fun c26 => ?_) (fun c26 => ?_)
      · refine a_inc (c := 1) dX1_callBack_42 rfl (by decide) (by decide) rfl ?_
        dsimp only [lset]
        refine a_goto dX1_callBack_45 (tgt := 2) (by decide) ?_
        rw [nI_1]
        have e := l1_call (l := l) (G := G) hb hp ht hn h8 (i + 1) (by omega) hQ
        simp only [callF, c10, c18, c26, if_true, if_false] at e
        try simp (disch := decide) only [callF_k] at e
        exact e
      · refine a_aload_n dX1_callBack_29 rfl ?_
        refine a_aload_n dX1_callBack_30 rfl ?_
        refine a_getR (ci := 1) (j := 2) dX1_callBack_31 (kdB hb rfl) rfl (by decide) rfl fl_1_28 ?_
        refine a_getR (ci := 3) (j := 2) dX1_callBack_34 (kdB hb rfl) rfl (by decide) rfl fl_1_87 ?_
        refine a_iload_n dX1_callBack_37 rfl ?_
        refine a_iaload dX1_callBack_38 (kdB hb rfl) (vp_in_nI (show i < 8 by omega) (by decide)) ?_
        try simp (disch := first | decide | assumption | omega) only [ui_eq, ui_k, ui_j, ui_b, ui_2, ul_1, ul_eq, ul_k, ul_j, ul_b, hci, hn, callF_k]
        refine a_cV1v dX1_callBack_39 ml_1_145 wv_1_waitAgain (kdB hb rfl) rfl (by decide) (Nat.le_of_ble_eq_true rfl) (c1_waitAgain hb (by simp (disch := first | decide | assumption) only [ui_eq, ui_k, ui_j, ui_b, giveF_k, callF_k]; exact hp) (by simp (disch := first | decide | assumption) only [ui_eq, ui_k, ui_j, ui_b, giveF_k, callF_k]; exact ht) ⟨rfl, rfl⟩) ?_
        try simp (disch := first | decide | assumption | omega) only [ui_eq, ui_k, ui_j, ui_b, ui_2, ul_1, ul_eq, ul_k, ul_j, ul_b, hci, hn, callF_k]
        refine a_inc (c := 1) dX1_callBack_42 rfl (by decide) (by decide) rfl ?_
        dsimp only [lset]
        refine a_goto dX1_callBack_45 (tgt := 2) (by decide) ?_
        rw [nI_1]
        have e := l1_call (l := l) (G := G) hb hp ht hn h8 (i + 1) (by omega) hQ
        simp only [callF, c10, c18, c26, if_true, if_false] at e
        try simp (disch := decide) only [callF_k] at e
        exact e
termination_by n - i
decreasing_by all_goals omega
theorem c1_callBack {l : Launch} {G : GG} {h : AH} {Q : Option Value → AH → Prop} {b : Nat} (hb : isB b) {x : Int32} (hp : (h.1 b 3 11).toInt ≤ 6) (ht : (h.1 b 21 9).toInt ≤ 40) {n : Nat} (hn : h.1 b 15 5 = nI n) (h8 : n ≤ 8) (hQ : Q none (callF h b x n)) : Ct l G 2 yX1_callBack cX1_callBack 3 none [.ref (G.1 b 0), .int x] h Q := by
  refine Ct.of (by decide) (Nat.le_of_ble_eq_true rfl) ?_
  show AW l G 2 RX1 cX1_callBack 3 none 0 [some (.ref (G.1 b 0)), some (.int x)] [] h Q
  refine a_iconst (v := 0) dX1_callBack_0 (by decide) ?_
  refine a_istore_n dX1_callBack_1 (by decide) rfl ?_
  dsimp only [lset]
  exact l1_call hb hp ht hn h8 0 (by omega) hQ
theorem c1_takeBack {l : Launch} {G : GG} {h : AH} {Q : Option Value → AH → Prop} {b : Nat} (hb : isB b) {x y z : Int32} (hp : (h.1 b 3 11).toInt ≤ 6) (ht : (h.1 b 21 9).toInt ≤ 40) (hq : (h.1 b 15 5).toInt ≤ 8) {n : Nat} (hn : h.1 b 15 5 = nI n) (h8 : n ≤ 8) (hQ : Q none (undoF h b x y z n)) : Ct l G 3 yX1_takeBack cX1_takeBack 4 none [.ref (G.1 b 0), .int x, .int y, .int z] h Q := by
  refine Ct.of (by decide) (Nat.le_of_ble_eq_true rfl) ?_
  show AW l G 3 RX1 cX1_takeBack 4 none 0 [some (.ref (G.1 b 0)), some (.int x), some (.int y), some (.int z)] [] h Q
  refine a_iload_n dX1_takeBack_0 rfl ?_
  by_cases s1_0 : x = 0
  · rw [s1_0]
    refine a_tableIn dX1_takeBack_1 (off := 35) (by decide) (by decide) (by decide) (tgt := 36) (by decide) ?_
    refine a_aload_n dX1_takeBack_36 rfl ?_
    refine a_iload_n dX1_takeBack_37 rfl ?_
    refine a_cV1v dX1_takeBack_38 ml_1_127 wv_1_takeBackTrip (kdB hb rfl) rfl (by decide) (Nat.le_of_ble_eq_true rfl) (c1_takeBackTrip hb hq ⟨rfl, rfl⟩) ?_
    try simp (disch := first | decide | assumption | omega) only [ui_eq, ui_k, ui_j, ui_b, ui_2, ul_1, ul_eq, ul_k, ul_j, ul_b]
    refine a_goto dX1_takeBack_41 (tgt := 92) (by decide) ?_
    exact a_vret dX1_takeBack_92 rfl (by simpa [undoF, s1_0] using hQ)
  by_cases s1_1 : x = 1
  · rw [s1_1]
    refine a_tableIn dX1_takeBack_1 (off := 43) (by decide) (by decide) (by decide) (tgt := 44) (by decide) ?_
    refine a_aload_n dX1_takeBack_44 rfl ?_
    refine a_iload_n dX1_takeBack_45 rfl ?_
    refine a_cV1v dX1_takeBack_46 ml_1_131 wv_1_callBack (kdB hb rfl) rfl (by decide) (Nat.le_of_ble_eq_true rfl) (c1_callBack hb hp ht hn h8 ⟨rfl, rfl⟩) ?_
    try simp (disch := first | decide | assumption | omega) only [ui_eq, ui_k, ui_j, ui_b, ui_2, ul_1, ul_eq, ul_k, ul_j, ul_b]
    refine a_goto dX1_takeBack_49 (tgt := 92) (by decide) ?_
    exact a_vret dX1_takeBack_92 rfl (by simpa [undoF, s1_1] using hQ)
  by_cases s1_2 : x = 2
  · rw [s1_2]
    refine a_tableIn dX1_takeBack_1 (off := 51) (by decide) (by decide) (by decide) (tgt := 52) (by decide) ?_
    refine a_aload_n dX1_takeBack_52 rfl ?_
    refine a_iload_n dX1_takeBack_53 rfl ?_
    refine a_cV1v dX1_takeBack_54 ml_1_134 wv_1_reopen (kdB hb rfl) rfl (by decide) (Nat.le_of_ble_eq_true rfl) (c1_reopen hb hp ht hq ⟨rfl, rfl⟩) ?_
    try simp (disch := first | decide | assumption | omega) only [ui_eq, ui_k, ui_j, ui_b, ui_2, ul_1, ul_eq, ul_k, ul_j, ul_b]
    refine a_goto dX1_takeBack_57 (tgt := 92) (by decide) ?_
    exact a_vret dX1_takeBack_92 rfl (by simpa [undoF, s1_2] using hQ)
  by_cases s1_3 : x = 3
  · rw [s1_3]
    refine a_tableIn dX1_takeBack_1 (off := 59) (by decide) (by decide) (by decide) (tgt := 60) (by decide) ?_
    refine a_aload_n dX1_takeBack_60 rfl ?_
    refine a_iload_n dX1_takeBack_61 rfl ?_
    refine a_iload_n dX1_takeBack_62 rfl ?_
    refine a_cV2v dX1_takeBack_63 ml_1_137 wv_1_takeBackMisuse (kdB hb rfl) rfl (by decide) (Nat.le_of_ble_eq_true rfl) (c1_takeBackMisuse hb hq ⟨rfl, rfl⟩) ?_
    try simp (disch := first | decide | assumption | omega) only [ui_eq, ui_k, ui_j, ui_b, ui_2, ul_1, ul_eq, ul_k, ul_j, ul_b]
    refine a_goto dX1_takeBack_66 (tgt := 92) (by decide) ?_
    exact a_vret dX1_takeBack_92 rfl (by simpa [undoF, s1_3] using hQ)
  by_cases s1_4 : x = 4
  · rw [s1_4]
    refine a_tableIn dX1_takeBack_1 (off := 68) (by decide) (by decide) (by decide) (tgt := 69) (by decide) ?_
    refine a_aload_n dX1_takeBack_69 rfl ?_
    refine a_getR (ci := 1) (j := 1) dX1_takeBack_70 (kdB hb rfl) rfl (by decide) rfl fl_1_21 ?_
    refine a_iload_n dX1_takeBack_73 rfl ?_
    refine a_iload_n dX1_takeBack_74 rfl ?_
    refine a_ineg dX1_takeBack_75 ?_
    refine a_cV2v dX1_takeBack_76 ml_1_141 wv_4_moveBack (kdB hb rfl) rfl (by decide) (Nat.le_of_ble_eq_true rfl) (c4_moveBack hb hp ⟨rfl, rfl⟩) ?_
    try simp (disch := first | decide | assumption | omega) only [ui_eq, ui_k, ui_j, ui_b, ui_2, ul_1, ul_eq, ul_k, ul_j, ul_b]
    refine a_goto dX1_takeBack_79 (tgt := 92) (by decide) ?_
    exact a_vret dX1_takeBack_92 rfl (by simpa [undoF, s1_4] using hQ)
  refine a_tableOut dX1_takeBack_1 (by have q0 := lv_neT (a := 0) s1_0 (by decide); have q1 := lv_neT (a := 1) s1_1 (by decide); have q2 := lv_neT (a := 2) s1_2 (by decide); have q3 := lv_neT (a := 3) s1_3 (by decide); have q4 := lv_neT (a := 4) s1_4 (by decide); omega) (tgt := 82) (by decide) ?_
  refine a_aload_n dX1_takeBack_82 rfl ?_
  refine a_dup dX1_takeBack_83 rfl ?_
  refine a_getI (ci := 1) (j := 5) dX1_takeBack_84 (kdB hb rfl) rfl (by decide) rfl fl_1_58 ?_
  try simp (disch := first | decide | assumption | omega) only [ui_eq, ui_k, ui_j, ui_b, ui_2, ul_1, ul_eq, ul_k, ul_j, ul_b]
  refine a_iload_n dX1_takeBack_87 rfl ?_
  refine a_isub dX1_takeBack_88 ?_
  refine a_putI (ci := 1) (j := 5) dX1_takeBack_89 (kdB hb rfl) rfl (by decide) (by decide) rfl fl_1_58 ?_
  exact a_vret dX1_takeBack_92 rfl (by simpa [undoF, s1_0, s1_1, s1_2, s1_3, s1_4] using hQ)
theorem c1_clear {l : Launch} {G : GG} {h : AH} {Q : Option Value → AH → Prop} {b : Nat} (hb : isB b) (hQ : Q none (clearB h b)) : Ct l G 1 yX1_clear cX1_clear 1 none [.ref (G.1 b 0)] h Q := by
  refine Ct.of (by decide) (Nat.le_of_ble_eq_true rfl) ?_
  show AW l G 1 RX1 cX1_clear 1 none 0 [some (.ref (G.1 b 0))] [] h Q
  refine a_aload_n dX1_clear_0 rfl ?_
  refine a_getR (ci := 1) (j := 0) dX1_clear_1 (kdB hb rfl) rfl (by decide) rfl fl_1_12 ?_
  refine a_cV0v dX1_clear_4 ml_1_46 wv_2_clear (kdB hb rfl) rfl (by decide) (Nat.le_of_ble_eq_true rfl) (c2_clear hb ⟨rfl, rfl⟩) ?_
  try simp (disch := first | decide | assumption | omega) only [ui_eq, ui_k, ui_j, ui_b, ui_2, ul_1, ul_eq, ul_k, ul_j, ul_b]
  refine a_aload_n dX1_clear_7 rfl ?_
  refine a_getR (ci := 1) (j := 1) dX1_clear_8 (kdB hb rfl) rfl (by decide) rfl fl_1_21 ?_
  refine a_cV0v dX1_clear_11 ml_1_49 wv_4_clear (kdB hb rfl) rfl (by decide) (Nat.le_of_ble_eq_true rfl) (c4_clear hb ⟨rfl, rfl⟩) ?_
  try simp (disch := first | decide | assumption | omega) only [ui_eq, ui_k, ui_j, ui_b, ui_2, ul_1, ul_eq, ul_k, ul_j, ul_b]
  refine a_aload_n dX1_clear_14 rfl ?_
  refine a_getR (ci := 1) (j := 2) dX1_clear_15 (kdB hb rfl) rfl (by decide) rfl fl_1_28 ?_
  refine a_cV0v dX1_clear_18 ml_1_50 wv_3_clear (kdB hb rfl) rfl (by decide) (Nat.le_of_ble_eq_true rfl) (c3_clear hb ⟨rfl, rfl⟩) ?_
  try simp (disch := first | decide | assumption | omega) only [ui_eq, ui_k, ui_j, ui_b, ui_2, ul_1, ul_eq, ul_k, ul_j, ul_b]
  refine a_aload_n dX1_clear_21 rfl ?_
  refine a_getR (ci := 1) (j := 3) dX1_clear_22 (kdB hb rfl) rfl (by decide) rfl fl_1_35 ?_
  refine a_iconst (v := 0) dX1_clear_25 (by decide) ?_
  refine a_putI (ci := 9) (j := 9) dX1_clear_26 (kdB hb rfl) rfl (by decide) (by decide) rfl fl_1_51 ?_
  refine a_aload_n dX1_clear_29 rfl ?_
  refine a_getR (ci := 1) (j := 4) dX1_clear_30 (kdB hb rfl) rfl (by decide) rfl fl_1_42 ?_
  refine a_iconst (v := 0) dX1_clear_33 (by decide) ?_
  refine a_putI (ci := 0) (j := 4) dX1_clear_34 (kdB hb rfl) rfl (by decide) (by decide) rfl fl_1_55 ?_
  refine a_aload_n dX1_clear_37 rfl ?_
  refine a_iconst (v := 0) dX1_clear_38 (by decide) ?_
  refine a_putI (ci := 1) (j := 5) dX1_clear_39 (kdB hb rfl) rfl (by decide) (by decide) rfl fl_1_58 ?_
  exact a_vret dX1_clear_42 rfl hQ
end
