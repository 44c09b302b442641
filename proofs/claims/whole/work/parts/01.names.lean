-- ===== PART A: goes FIRST, ahead of the names: the tables' words, and 'selects' of the private methods out of them =====
/-- a private method of a class that the tables say can be made, by its rows of tables_1 -/
def lw_okq (q : MethodName × Nat) : Prop := (q.1.cls ≠ "java/lang/invoke/MethodHandle" ∧ q.1.cls ≠ "java/lang/invoke/VarHandle") ∧ Cond.instantiable q.1.cls q.2 ∈ tables_1 ∧ Cond.privateMethod q.1 ∈ tables_1 ∧ Cond.instanceMethod q.1 ∈ tables_1
theorem lw_p0 : lw_okq (⟨"StageRatios", "refuse", "(I)I"⟩, 20) := ⟨⟨by decide +kernel, by decide +kernel⟩, List.mem_of_getElem? (i := 23) (by decide +kernel), List.mem_of_getElem? (i := 500) (by decide +kernel), List.mem_of_getElem? (i := 501) (by decide +kernel)⟩
theorem lw_p1 : lw_okq (⟨"StageRatios$Tape", "byteAt", "(I)I"⟩, 7) := ⟨⟨by decide +kernel, by decide +kernel⟩, List.mem_of_getElem? (i := 31) (by decide +kernel), List.mem_of_getElem? (i := 520) (by decide +kernel), List.mem_of_getElem? (i := 521) (by decide +kernel)⟩
theorem lw_p2 : lw_okq (⟨"StageRatios$Reader", "readLine", "(LStageRatios$Rocket;)Z"⟩, 12) := ⟨⟨by decide +kernel, by decide +kernel⟩, List.mem_of_getElem? (i := 64) (by decide +kernel), List.mem_of_getElem? (i := 529) (by decide +kernel), List.mem_of_getElem? (i := 530) (by decide +kernel)⟩
theorem lw_p3 : lw_okq (⟨"StageRatios$Reader", "stop", "(I)Z"⟩, 12) := ⟨⟨by decide +kernel, by decide +kernel⟩, List.mem_of_getElem? (i := 64) (by decide +kernel), List.mem_of_getElem? (i := 533) (by decide +kernel), List.mem_of_getElem? (i := 534) (by decide +kernel)⟩
theorem lw_p4 : lw_okq (⟨"StageRatios$Reader", "readRocket", "(LStageRatios$Rocket;)Z"⟩, 12) := ⟨⟨by decide +kernel, by decide +kernel⟩, List.mem_of_getElem? (i := 64) (by decide +kernel), List.mem_of_getElem? (i := 537) (by decide +kernel), List.mem_of_getElem? (i := 538) (by decide +kernel)⟩
theorem lw_p5 : lw_okq (⟨"StageRatios$Reader", "takeWord", "(Ljava/lang/String;)Z"⟩, 12) := ⟨⟨by decide +kernel, by decide +kernel⟩, List.mem_of_getElem? (i := 64) (by decide +kernel), List.mem_of_getElem? (i := 543) (by decide +kernel), List.mem_of_getElem? (i := 544) (by decide +kernel)⟩
theorem lw_p6 : lw_okq (⟨"StageRatios$Reader", "takeWhole", "(II)Z"⟩, 12) := ⟨⟨by decide +kernel, by decide +kernel⟩, List.mem_of_getElem? (i := 64) (by decide +kernel), List.mem_of_getElem? (i := 547) (by decide +kernel), List.mem_of_getElem? (i := 548) (by decide +kernel)⟩
theorem lw_p7 : lw_okq (⟨"StageRatios$Reader", "hasRoomFor", "(II)Z"⟩, 12) := ⟨⟨by decide +kernel, by decide +kernel⟩, List.mem_of_getElem? (i := 64) (by decide +kernel), List.mem_of_getElem? (i := 555) (by decide +kernel), List.mem_of_getElem? (i := 556) (by decide +kernel)⟩
theorem lw_p8 : lw_okq (⟨"StageRatios$Reader", "readStage", "(LStageRatios$Rocket;)Z"⟩, 12) := ⟨⟨by decide +kernel, by decide +kernel⟩, List.mem_of_getElem? (i := 64) (by decide +kernel), List.mem_of_getElem? (i := 559) (by decide +kernel), List.mem_of_getElem? (i := 560) (by decide +kernel)⟩
theorem lw_p9 : lw_okq (⟨"StageRatios$Reader", "takeNewName", "(I)Z"⟩, 12) := ⟨⟨by decide +kernel, by decide +kernel⟩, List.mem_of_getElem? (i := 64) (by decide +kernel), List.mem_of_getElem? (i := 563) (by decide +kernel), List.mem_of_getElem? (i := 564) (by decide +kernel)⟩
theorem lw_p10 : lw_okq (⟨"StageRatios$Reader", "isName", "()Z"⟩, 12) := ⟨⟨by decide +kernel, by decide +kernel⟩, List.mem_of_getElem? (i := 64) (by decide +kernel), List.mem_of_getElem? (i := 567) (by decide +kernel), List.mem_of_getElem? (i := 568) (by decide +kernel)⟩
theorem lw_p11 : lw_okq (⟨"StageRatios$Reader", "nameAt", "(JI)I"⟩, 12) := ⟨⟨by decide +kernel, by decide +kernel⟩, List.mem_of_getElem? (i := 64) (by decide +kernel), List.mem_of_getElem? (i := 571) (by decide +kernel), List.mem_of_getElem? (i := 572) (by decide +kernel)⟩
theorem lw_p12 : lw_okq (⟨"StageRatios$Reader", "takeKind", "(LStageRatios$Rocket;I)Z"⟩, 12) := ⟨⟨by decide +kernel, by decide +kernel⟩, List.mem_of_getElem? (i := 64) (by decide +kernel), List.mem_of_getElem? (i := 575) (by decide +kernel), List.mem_of_getElem? (i := 576) (by decide +kernel)⟩
theorem lw_p13 : lw_okq (⟨"StageRatios$Reader", "gradeOf", "(J)I"⟩, 12) := ⟨⟨by decide +kernel, by decide +kernel⟩, List.mem_of_getElem? (i := 64) (by decide +kernel), List.mem_of_getElem? (i := 579) (by decide +kernel), List.mem_of_getElem? (i := 580) (by decide +kernel)⟩
theorem lw_p14 : lw_okq (⟨"StageRatios$Reader", "readFail", "(LStageRatios$Rocket;)Z"⟩, 12) := ⟨⟨by decide +kernel, by decide +kernel⟩, List.mem_of_getElem? (i := 64) (by decide +kernel), List.mem_of_getElem? (i := 609) (by decide +kernel), List.mem_of_getElem? (i := 610) (by decide +kernel)⟩
theorem lw_p15 : lw_okq (⟨"StageRatios", "layFirst", "()V"⟩, 20) := ⟨⟨by decide +kernel, by decide +kernel⟩, List.mem_of_getElem? (i := 23) (by decide +kernel), List.mem_of_getElem? (i := 632) (by decide +kernel), List.mem_of_getElem? (i := 633) (by decide +kernel)⟩
def lw_privs_1 : List (MethodName × Nat) := [(⟨"StageRatios", "refuse", "(I)I"⟩, 20), (⟨"StageRatios$Tape", "byteAt", "(I)I"⟩, 7), (⟨"StageRatios$Reader", "readLine", "(LStageRatios$Rocket;)Z"⟩, 12), (⟨"StageRatios$Reader", "stop", "(I)Z"⟩, 12), (⟨"StageRatios$Reader", "readRocket", "(LStageRatios$Rocket;)Z"⟩, 12), (⟨"StageRatios$Reader", "takeWord", "(Ljava/lang/String;)Z"⟩, 12), (⟨"StageRatios$Reader", "takeWhole", "(II)Z"⟩, 12), (⟨"StageRatios$Reader", "hasRoomFor", "(II)Z"⟩, 12), (⟨"StageRatios$Reader", "readStage", "(LStageRatios$Rocket;)Z"⟩, 12), (⟨"StageRatios$Reader", "takeNewName", "(I)Z"⟩, 12), (⟨"StageRatios$Reader", "isName", "()Z"⟩, 12), (⟨"StageRatios$Reader", "nameAt", "(JI)I"⟩, 12), (⟨"StageRatios$Reader", "takeKind", "(LStageRatios$Rocket;I)Z"⟩, 12), (⟨"StageRatios$Reader", "gradeOf", "(J)I"⟩, 12), (⟨"StageRatios$Reader", "readFail", "(LStageRatios$Rocket;)Z"⟩, 12), (⟨"StageRatios", "layFirst", "()V"⟩, 20)]
theorem lw_r1 : ∀ q ∈ lw_privs_1, lw_okq q := List.forall_mem_cons.mpr ⟨lw_p0, List.forall_mem_cons.mpr ⟨lw_p1, List.forall_mem_cons.mpr ⟨lw_p2, List.forall_mem_cons.mpr ⟨lw_p3, List.forall_mem_cons.mpr ⟨lw_p4, List.forall_mem_cons.mpr ⟨lw_p5, List.forall_mem_cons.mpr ⟨lw_p6, List.forall_mem_cons.mpr ⟨lw_p7, List.forall_mem_cons.mpr ⟨lw_p8, List.forall_mem_cons.mpr ⟨lw_p9, List.forall_mem_cons.mpr ⟨lw_p10, List.forall_mem_cons.mpr ⟨lw_p11, List.forall_mem_cons.mpr ⟨lw_p12, List.forall_mem_cons.mpr ⟨lw_p13, List.forall_mem_cons.mpr ⟨lw_p14, List.forall_mem_cons.mpr ⟨lw_p15, fun _ h => absurd h List.not_mem_nil⟩⟩⟩⟩⟩⟩⟩⟩⟩⟩⟩⟩⟩⟩⟩⟩
theorem lw_p16 : lw_okq (⟨"StageRatios", "answer", "(I)I"⟩, 20) := ⟨⟨by decide +kernel, by decide +kernel⟩, List.mem_of_getElem? (i := 23) (by decide +kernel), List.mem_of_getElem? (i := 638) (by decide +kernel), List.mem_of_getElem? (i := 639) (by decide +kernel)⟩
theorem lw_p17 : lw_okq (⟨"StageRatios", "has", "(I)Z"⟩, 20) := ⟨⟨by decide +kernel, by decide +kernel⟩, List.mem_of_getElem? (i := 23) (by decide +kernel), List.mem_of_getElem? (i := 659) (by decide +kernel), List.mem_of_getElem? (i := 660) (by decide +kernel)⟩
theorem lw_p18 : lw_okq (⟨"StageRatios", "weighAsItIs", "()V"⟩, 20) := ⟨⟨by decide +kernel, by decide +kernel⟩, List.mem_of_getElem? (i := 23) (by decide +kernel), List.mem_of_getElem? (i := 672) (by decide +kernel), List.mem_of_getElem? (i := 673) (by decide +kernel)⟩
theorem lw_p19 : lw_okq (⟨"StageRatios", "layUnits", "()V"⟩, 20) := ⟨⟨by decide +kernel, by decide +kernel⟩, List.mem_of_getElem? (i := 23) (by decide +kernel), List.mem_of_getElem? (i := 676) (by decide +kernel), List.mem_of_getElem? (i := 677) (by decide +kernel)⟩
theorem lw_p20 : lw_okq (⟨"StageRatios", "powerAsItIs", "()I"⟩, 20) := ⟨⟨by decide +kernel, by decide +kernel⟩, List.mem_of_getElem? (i := 23) (by decide +kernel), List.mem_of_getElem? (i := 719) (by decide +kernel), List.mem_of_getElem? (i := 720) (by decide +kernel)⟩
theorem lw_p21 : lw_okq (⟨"StageRatios$Scale", "isNoLess", "(LStageRatios$Ratio;III)Z"⟩, 2) := ⟨⟨by decide +kernel, by decide +kernel⟩, List.mem_of_getElem? (i := 218) (by decide +kernel), List.mem_of_getElem? (i := 749) (by decide +kernel), List.mem_of_getElem? (i := 750) (by decide +kernel)⟩
theorem lw_p22 : lw_okq (⟨"StageRatios$Ratio", "takeOut", "(I)I"⟩, 4) := ⟨⟨by decide +kernel, by decide +kernel⟩, List.mem_of_getElem? (i := 199) (by decide +kernel), List.mem_of_getElem? (i := 783) (by decide +kernel), List.mem_of_getElem? (i := 784) (by decide +kernel)⟩
theorem lw_p23 : lw_okq (⟨"StageRatios", "isFull", "(I)Z"⟩, 20) := ⟨⟨by decide +kernel, by decide +kernel⟩, List.mem_of_getElem? (i := 23) (by decide +kernel), List.mem_of_getElem? (i := 801) (by decide +kernel), List.mem_of_getElem? (i := 802) (by decide +kernel)⟩
theorem lw_p24 : lw_okq (⟨"StageRatios", "weighWithOneMore", "(I)V"⟩, 20) := ⟨⟨by decide +kernel, by decide +kernel⟩, List.mem_of_getElem? (i := 23) (by decide +kernel), List.mem_of_getElem? (i := 805) (by decide +kernel), List.mem_of_getElem? (i := 806) (by decide +kernel)⟩
theorem lw_p25 : lw_okq (⟨"StageRatios$Choice", "powerHeld", "(LStageRatios$Rocket;ILStageRatios$Weights;)I"⟩, 6) := ⟨⟨by decide +kernel, by decide +kernel⟩, List.mem_of_getElem? (i := 244) (by decide +kernel), List.mem_of_getElem? (i := 838) (by decide +kernel), List.mem_of_getElem? (i := 839) (by decide +kernel)⟩
theorem lw_p26 : lw_okq (⟨"StageRatios$Choice", "isInside", "(I)Z"⟩, 6) := ⟨⟨by decide +kernel, by decide +kernel⟩, List.mem_of_getElem? (i := 244) (by decide +kernel), List.mem_of_getElem? (i := 854) (by decide +kernel), List.mem_of_getElem? (i := 855) (by decide +kernel)⟩
theorem lw_p27 : lw_okq (⟨"StageRatios$Front", "isFaster", "(LStageRatios$Rocket;III)Z"⟩, 9) := ⟨⟨by decide +kernel, by decide +kernel⟩, List.mem_of_getElem? (i := 271) (by decide +kernel), List.mem_of_getElem? (i := 912) (by decide +kernel), List.mem_of_getElem? (i := 913) (by decide +kernel)⟩
theorem lw_p28 : lw_okq (⟨"StageRatios", "flyAsItIs", "()V"⟩, 20) := ⟨⟨by decide +kernel, by decide +kernel⟩, List.mem_of_getElem? (i := 23) (by decide +kernel), List.mem_of_getElem? (i := 960) (by decide +kernel), List.mem_of_getElem? (i := 961) (by decide +kernel)⟩
theorem lw_p29 : lw_okq (⟨"StageRatios$Flight", "burn", "(LStageRatios$Rocket;LStageRatios$Weights;II)V"⟩, 10) := ⟨⟨by decide +kernel, by decide +kernel⟩, List.mem_of_getElem? (i := 311) (by decide +kernel), List.mem_of_getElem? (i := 969) (by decide +kernel), List.mem_of_getElem? (i := 970) (by decide +kernel)⟩
theorem lw_p30 : lw_okq (⟨"StageRatios", "powerFlown", "(LStageRatios$Flight;)I"⟩, 20) := ⟨⟨by decide +kernel, by decide +kernel⟩, List.mem_of_getElem? (i := 23) (by decide +kernel), List.mem_of_getElem? (i := 994) (by decide +kernel), List.mem_of_getElem? (i := 995) (by decide +kernel)⟩
theorem lw_p31 : lw_okq (⟨"StageRatios", "powerAtRisk", "(II)I"⟩, 20) := ⟨⟨by decide +kernel, by decide +kernel⟩, List.mem_of_getElem? (i := 23) (by decide +kernel), List.mem_of_getElem? (i := 1006) (by decide +kernel), List.mem_of_getElem? (i := 1007) (by decide +kernel)⟩
def lw_privs_2 : List (MethodName × Nat) := [(⟨"StageRatios", "answer", "(I)I"⟩, 20), (⟨"StageRatios", "has", "(I)Z"⟩, 20), (⟨"StageRatios", "weighAsItIs", "()V"⟩, 20), (⟨"StageRatios", "layUnits", "()V"⟩, 20), (⟨"StageRatios", "powerAsItIs", "()I"⟩, 20), (⟨"StageRatios$Scale", "isNoLess", "(LStageRatios$Ratio;III)Z"⟩, 2), (⟨"StageRatios$Ratio", "takeOut", "(I)I"⟩, 4), (⟨"StageRatios", "isFull", "(I)Z"⟩, 20), (⟨"StageRatios", "weighWithOneMore", "(I)V"⟩, 20), (⟨"StageRatios$Choice", "powerHeld", "(LStageRatios$Rocket;ILStageRatios$Weights;)I"⟩, 6), (⟨"StageRatios$Choice", "isInside", "(I)Z"⟩, 6), (⟨"StageRatios$Front", "isFaster", "(LStageRatios$Rocket;III)Z"⟩, 9), (⟨"StageRatios", "flyAsItIs", "()V"⟩, 20), (⟨"StageRatios$Flight", "burn", "(LStageRatios$Rocket;LStageRatios$Weights;II)V"⟩, 10), (⟨"StageRatios", "powerFlown", "(LStageRatios$Flight;)I"⟩, 20), (⟨"StageRatios", "powerAtRisk", "(II)I"⟩, 20)]
theorem lw_r2 : ∀ q ∈ lw_privs_2, lw_okq q := List.forall_mem_cons.mpr ⟨lw_p16, List.forall_mem_cons.mpr ⟨lw_p17, List.forall_mem_cons.mpr ⟨lw_p18, List.forall_mem_cons.mpr ⟨lw_p19, List.forall_mem_cons.mpr ⟨lw_p20, List.forall_mem_cons.mpr ⟨lw_p21, List.forall_mem_cons.mpr ⟨lw_p22, List.forall_mem_cons.mpr ⟨lw_p23, List.forall_mem_cons.mpr ⟨lw_p24, List.forall_mem_cons.mpr ⟨lw_p25, List.forall_mem_cons.mpr ⟨lw_p26, List.forall_mem_cons.mpr ⟨lw_p27, List.forall_mem_cons.mpr ⟨lw_p28, List.forall_mem_cons.mpr ⟨lw_p29, List.forall_mem_cons.mpr ⟨lw_p30, List.forall_mem_cons.mpr ⟨lw_p31, fun _ h => absurd h List.not_mem_nil⟩⟩⟩⟩⟩⟩⟩⟩⟩⟩⟩⟩⟩⟩⟩⟩
theorem lw_p32 : lw_okq (⟨"StageRatios", "keep", "()V"⟩, 20) := ⟨⟨by decide +kernel, by decide +kernel⟩, List.mem_of_getElem? (i := 23) (by decide +kernel), List.mem_of_getElem? (i := 1026) (by decide +kernel), List.mem_of_getElem? (i := 1027) (by decide +kernel)⟩
theorem lw_p33 : lw_okq (⟨"StageRatios", "change", "(II)I"⟩, 20) := ⟨⟨by decide +kernel, by decide +kernel⟩, List.mem_of_getElem? (i := 23) (by decide +kernel), List.mem_of_getElem? (i := 1034) (by decide +kernel), List.mem_of_getElem? (i := 1035) (by decide +kernel)⟩
theorem lw_p34 : lw_okq (⟨"StageRatios", "weakest", "(I)I"⟩, 20) := ⟨⟨by decide +kernel, by decide +kernel⟩, List.mem_of_getElem? (i := 23) (by decide +kernel), List.mem_of_getElem? (i := 1070) (by decide +kernel), List.mem_of_getElem? (i := 1071) (by decide +kernel)⟩
theorem lw_p35 : lw_okq (⟨"java/lang/Throwable", "fillInStackTrace", "(I)Ljava/lang/Throwable;"⟩, 6) := ⟨⟨by decide +kernel, by decide +kernel⟩, List.mem_of_getElem? (i := 1110) (by decide +kernel), List.mem_of_getElem? (i := 1108) (by decide +kernel), List.mem_of_getElem? (i := 1109) (by decide +kernel)⟩
theorem lw_p36 : lw_okq (⟨"StageRatiosModel", "refused", "(I)I"⟩, 61) := ⟨⟨by decide +kernel, by decide +kernel⟩, List.mem_of_getElem? (i := 1135) (by decide +kernel), List.mem_of_getElem? (i := 1338) (by decide +kernel), List.mem_of_getElem? (i := 1339) (by decide +kernel)⟩
theorem lw_p37 : lw_okq (⟨"StageRatiosModel", "readAll", "()V"⟩, 61) := ⟨⟨by decide +kernel, by decide +kernel⟩, List.mem_of_getElem? (i := 1135) (by decide +kernel), List.mem_of_getElem? (i := 1342) (by decide +kernel), List.mem_of_getElem? (i := 1343) (by decide +kernel)⟩
theorem lw_p38 : lw_okq (⟨"StageRatiosModel", "next", "()V"⟩, 61) := ⟨⟨by decide +kernel, by decide +kernel⟩, List.mem_of_getElem? (i := 1135) (by decide +kernel), List.mem_of_getElem? (i := 1346) (by decide +kernel), List.mem_of_getElem? (i := 1347) (by decide +kernel)⟩
theorem lw_p39 : lw_okq (⟨"StageRatiosModel", "byteAt", "(I)I"⟩, 61) := ⟨⟨by decide +kernel, by decide +kernel⟩, List.mem_of_getElem? (i := 1135) (by decide +kernel), List.mem_of_getElem? (i := 1350) (by decide +kernel), List.mem_of_getElem? (i := 1351) (by decide +kernel)⟩
theorem lw_p40 : lw_okq (⟨"StageRatiosModel", "nextWord", "()V"⟩, 61) := ⟨⟨by decide +kernel, by decide +kernel⟩, List.mem_of_getElem? (i := 1135) (by decide +kernel), List.mem_of_getElem? (i := 1357) (by decide +kernel), List.mem_of_getElem? (i := 1358) (by decide +kernel)⟩
theorem lw_p41 : lw_okq (⟨"StageRatiosModel", "nextWhole", "()V"⟩, 61) := ⟨⟨by decide +kernel, by decide +kernel⟩, List.mem_of_getElem? (i := 1135) (by decide +kernel), List.mem_of_getElem? (i := 1361) (by decide +kernel), List.mem_of_getElem? (i := 1362) (by decide +kernel)⟩
theorem lw_p42 : lw_okq (⟨"StageRatiosModel", "readLine", "()V"⟩, 61) := ⟨⟨by decide +kernel, by decide +kernel⟩, List.mem_of_getElem? (i := 1135) (by decide +kernel), List.mem_of_getElem? (i := 1365) (by decide +kernel), List.mem_of_getElem? (i := 1366) (by decide +kernel)⟩
theorem lw_p43 : lw_okq (⟨"StageRatiosModel", "isWord", "(Ljava/lang/String;)Z"⟩, 61) := ⟨⟨by decide +kernel, by decide +kernel⟩, List.mem_of_getElem? (i := 1135) (by decide +kernel), List.mem_of_getElem? (i := 1370) (by decide +kernel), List.mem_of_getElem? (i := 1371) (by decide +kernel)⟩
theorem lw_p44 : lw_okq (⟨"StageRatiosModel", "readRocket", "()V"⟩, 61) := ⟨⟨by decide +kernel, by decide +kernel⟩, List.mem_of_getElem? (i := 1135) (by decide +kernel), List.mem_of_getElem? (i := 1376) (by decide +kernel), List.mem_of_getElem? (i := 1377) (by decide +kernel)⟩
theorem lw_p45 : lw_okq (⟨"StageRatiosModel", "flaw", "(I)V"⟩, 61) := ⟨⟨by decide +kernel, by decide +kernel⟩, List.mem_of_getElem? (i := 1135) (by decide +kernel), List.mem_of_getElem? (i := 1380) (by decide +kernel), List.mem_of_getElem? (i := 1381) (by decide +kernel)⟩
theorem lw_p46 : lw_okq (⟨"StageRatiosModel", "readPart", "(Ljava/lang/String;II)I"⟩, 61) := ⟨⟨by decide +kernel, by decide +kernel⟩, List.mem_of_getElem? (i := 1135) (by decide +kernel), List.mem_of_getElem? (i := 1385) (by decide +kernel), List.mem_of_getElem? (i := 1386) (by decide +kernel)⟩
theorem lw_p47 : lw_okq (⟨"StageRatiosModel", "readWhole", "(II)I"⟩, 61) := ⟨⟨by decide +kernel, by decide +kernel⟩, List.mem_of_getElem? (i := 1135) (by decide +kernel), List.mem_of_getElem? (i := 1389) (by decide +kernel), List.mem_of_getElem? (i := 1390) (by decide +kernel)⟩
def lw_privs_3 : List (MethodName × Nat) := [(⟨"StageRatios", "keep", "()V"⟩, 20), (⟨"StageRatios", "change", "(II)I"⟩, 20), (⟨"StageRatios", "weakest", "(I)I"⟩, 20), (⟨"java/lang/Throwable", "fillInStackTrace", "(I)Ljava/lang/Throwable;"⟩, 6), (⟨"StageRatiosModel", "refused", "(I)I"⟩, 61), (⟨"StageRatiosModel", "readAll", "()V"⟩, 61), (⟨"StageRatiosModel", "next", "()V"⟩, 61), (⟨"StageRatiosModel", "byteAt", "(I)I"⟩, 61), (⟨"StageRatiosModel", "nextWord", "()V"⟩, 61), (⟨"StageRatiosModel", "nextWhole", "()V"⟩, 61), (⟨"StageRatiosModel", "readLine", "()V"⟩, 61), (⟨"StageRatiosModel", "isWord", "(Ljava/lang/String;)Z"⟩, 61), (⟨"StageRatiosModel", "readRocket", "()V"⟩, 61), (⟨"StageRatiosModel", "flaw", "(I)V"⟩, 61), (⟨"StageRatiosModel", "readPart", "(Ljava/lang/String;II)I"⟩, 61), (⟨"StageRatiosModel", "readWhole", "(II)I"⟩, 61)]
theorem lw_r3 : ∀ q ∈ lw_privs_3, lw_okq q := List.forall_mem_cons.mpr ⟨lw_p32, List.forall_mem_cons.mpr ⟨lw_p33, List.forall_mem_cons.mpr ⟨lw_p34, List.forall_mem_cons.mpr ⟨lw_p35, List.forall_mem_cons.mpr ⟨lw_p36, List.forall_mem_cons.mpr ⟨lw_p37, List.forall_mem_cons.mpr ⟨lw_p38, List.forall_mem_cons.mpr ⟨lw_p39, List.forall_mem_cons.mpr ⟨lw_p40, List.forall_mem_cons.mpr ⟨lw_p41, List.forall_mem_cons.mpr ⟨lw_p42, List.forall_mem_cons.mpr ⟨lw_p43, List.forall_mem_cons.mpr ⟨lw_p44, List.forall_mem_cons.mpr ⟨lw_p45, List.forall_mem_cons.mpr ⟨lw_p46, List.forall_mem_cons.mpr ⟨lw_p47, fun _ h => absurd h List.not_mem_nil⟩⟩⟩⟩⟩⟩⟩⟩⟩⟩⟩⟩⟩⟩⟩⟩
theorem lw_p48 : lw_okq (⟨"StageRatiosModel", "readStageLine", "()V"⟩, 61) := ⟨⟨by decide +kernel, by decide +kernel⟩, List.mem_of_getElem? (i := 1135) (by decide +kernel), List.mem_of_getElem? (i := 1398) (by decide +kernel), List.mem_of_getElem? (i := 1399) (by decide +kernel)⟩
theorem lw_p49 : lw_okq (⟨"StageRatiosModel", "begins", "(Z)V"⟩, 61) := ⟨⟨by decide +kernel, by decide +kernel⟩, List.mem_of_getElem? (i := 1135) (by decide +kernel), List.mem_of_getElem? (i := 1402) (by decide +kernel), List.mem_of_getElem? (i := 1403) (by decide +kernel)⟩
theorem lw_p50 : lw_okq (⟨"StageRatiosModel", "isName", "()Z"⟩, 61) := ⟨⟨by decide +kernel, by decide +kernel⟩, List.mem_of_getElem? (i := 1135) (by decide +kernel), List.mem_of_getElem? (i := 1406) (by decide +kernel), List.mem_of_getElem? (i := 1407) (by decide +kernel)⟩
theorem lw_p51 : lw_okq (⟨"StageRatiosModel", "stageHere", "()I"⟩, 61) := ⟨⟨by decide +kernel, by decide +kernel⟩, List.mem_of_getElem? (i := 1135) (by decide +kernel), List.mem_of_getElem? (i := 1411) (by decide +kernel), List.mem_of_getElem? (i := 1412) (by decide +kernel)⟩
theorem lw_p52 : lw_okq (⟨"StageRatiosModel", "readKind", "()I"⟩, 61) := ⟨⟨by decide +kernel, by decide +kernel⟩, List.mem_of_getElem? (i := 1135) (by decide +kernel), List.mem_of_getElem? (i := 1415) (by decide +kernel), List.mem_of_getElem? (i := 1416) (by decide +kernel)⟩
theorem lw_p53 : lw_okq (⟨"StageRatiosModel", "readFailLine", "()V"⟩, 61) := ⟨⟨by decide +kernel, by decide +kernel⟩, List.mem_of_getElem? (i := 1135) (by decide +kernel), List.mem_of_getElem? (i := 1430) (by decide +kernel), List.mem_of_getElem? (i := 1431) (by decide +kernel)⟩
theorem lw_p54 : lw_okq (⟨"StageRatiosModel", "latestFail", "(I)I"⟩, 61) := ⟨⟨by decide +kernel, by decide +kernel⟩, List.mem_of_getElem? (i := 1135) (by decide +kernel), List.mem_of_getElem? (i := 1434) (by decide +kernel), List.mem_of_getElem? (i := 1435) (by decide +kernel)⟩
theorem lw_p55 : lw_okq (⟨"StageRatiosModel", "told", "(II)I"⟩, 61) := ⟨⟨by decide +kernel, by decide +kernel⟩, List.mem_of_getElem? (i := 1135) (by decide +kernel), List.mem_of_getElem? (i := 1438) (by decide +kernel), List.mem_of_getElem? (i := 1439) (by decide +kernel)⟩
theorem lw_p56 : lw_okq (⟨"StageRatiosModel", "good", "(I)I"⟩, 61) := ⟨⟨by decide +kernel, by decide +kernel⟩, List.mem_of_getElem? (i := 1135) (by decide +kernel), List.mem_of_getElem? (i := 1442) (by decide +kernel), List.mem_of_getElem? (i := 1443) (by decide +kernel)⟩
theorem lw_p57 : lw_okq (⟨"StageRatiosModel", "isStage", "(I)Z"⟩, 61) := ⟨⟨by decide +kernel, by decide +kernel⟩, List.mem_of_getElem? (i := 1135) (by decide +kernel), List.mem_of_getElem? (i := 1462) (by decide +kernel), List.mem_of_getElem? (i := 1463) (by decide +kernel)⟩
theorem lw_p58 : lw_okq (⟨"StageRatiosModel", "shell", "(II)I"⟩, 61) := ⟨⟨by decide +kernel, by decide +kernel⟩, List.mem_of_getElem? (i := 1135) (by decide +kernel), List.mem_of_getElem? (i := 1466) (by decide +kernel), List.mem_of_getElem? (i := 1467) (by decide +kernel)⟩
theorem lw_p59 : lw_okq (⟨"StageRatiosModel", "laysOwn", "()V"⟩, 61) := ⟨⟨by decide +kernel, by decide +kernel⟩, List.mem_of_getElem? (i := 1135) (by decide +kernel), List.mem_of_getElem? (i := 1474) (by decide +kernel), List.mem_of_getElem? (i := 1475) (by decide +kernel)⟩
theorem lw_p60 : lw_okq (⟨"StageRatiosModel", "start", "(I)I"⟩, 61) := ⟨⟨by decide +kernel, by decide +kernel⟩, List.mem_of_getElem? (i := 1135) (by decide +kernel), List.mem_of_getElem? (i := 1478) (by decide +kernel), List.mem_of_getElem? (i := 1479) (by decide +kernel)⟩
theorem lw_p61 : lw_okq (⟨"StageRatiosModel", "stageHolds", "(I)Z"⟩, 61) := ⟨⟨by decide +kernel, by decide +kernel⟩, List.mem_of_getElem? (i := 1135) (by decide +kernel), List.mem_of_getElem? (i := 1482) (by decide +kernel), List.mem_of_getElem? (i := 1483) (by decide +kernel)⟩
theorem lw_p62 : lw_okq (⟨"StageRatiosModel", "marginOf", "(II)I"⟩, 61) := ⟨⟨by decide +kernel, by decide +kernel⟩, List.mem_of_getElem? (i := 1135) (by decide +kernel), List.mem_of_getElem? (i := 1486) (by decide +kernel), List.mem_of_getElem? (i := 1487) (by decide +kernel)⟩
theorem lw_p63 : lw_okq (⟨"StageRatiosModel", "refusesPower", "(ZI)I"⟩, 61) := ⟨⟨by decide +kernel, by decide +kernel⟩, List.mem_of_getElem? (i := 1135) (by decide +kernel), List.mem_of_getElem? (i := 1506) (by decide +kernel), List.mem_of_getElem? (i := 1507) (by decide +kernel)⟩
def lw_privs_4 : List (MethodName × Nat) := [(⟨"StageRatiosModel", "readStageLine", "()V"⟩, 61), (⟨"StageRatiosModel", "begins", "(Z)V"⟩, 61), (⟨"StageRatiosModel", "isName", "()Z"⟩, 61), (⟨"StageRatiosModel", "stageHere", "()I"⟩, 61), (⟨"StageRatiosModel", "readKind", "()I"⟩, 61), (⟨"StageRatiosModel", "readFailLine", "()V"⟩, 61), (⟨"StageRatiosModel", "latestFail", "(I)I"⟩, 61), (⟨"StageRatiosModel", "told", "(II)I"⟩, 61), (⟨"StageRatiosModel", "good", "(I)I"⟩, 61), (⟨"StageRatiosModel", "isStage", "(I)Z"⟩, 61), (⟨"StageRatiosModel", "shell", "(II)I"⟩, 61), (⟨"StageRatiosModel", "laysOwn", "()V"⟩, 61), (⟨"StageRatiosModel", "start", "(I)I"⟩, 61), (⟨"StageRatiosModel", "stageHolds", "(I)Z"⟩, 61), (⟨"StageRatiosModel", "marginOf", "(II)I"⟩, 61), (⟨"StageRatiosModel", "refusesPower", "(ZI)I"⟩, 61)]
theorem lw_r4 : ∀ q ∈ lw_privs_4, lw_okq q := List.forall_mem_cons.mpr ⟨lw_p48, List.forall_mem_cons.mpr ⟨lw_p49, List.forall_mem_cons.mpr ⟨lw_p50, List.forall_mem_cons.mpr ⟨lw_p51, List.forall_mem_cons.mpr ⟨lw_p52, List.forall_mem_cons.mpr ⟨lw_p53, List.forall_mem_cons.mpr ⟨lw_p54, List.forall_mem_cons.mpr ⟨lw_p55, List.forall_mem_cons.mpr ⟨lw_p56, List.forall_mem_cons.mpr ⟨lw_p57, List.forall_mem_cons.mpr ⟨lw_p58, List.forall_mem_cons.mpr ⟨lw_p59, List.forall_mem_cons.mpr ⟨lw_p60, List.forall_mem_cons.mpr ⟨lw_p61, List.forall_mem_cons.mpr ⟨lw_p62, List.forall_mem_cons.mpr ⟨lw_p63, fun _ h => absurd h List.not_mem_nil⟩⟩⟩⟩⟩⟩⟩⟩⟩⟩⟩⟩⟩⟩⟩⟩
theorem lw_p64 : lw_okq (⟨"StageRatiosModel", "divReaches", "(I)Z"⟩, 61) := ⟨⟨by decide +kernel, by decide +kernel⟩, List.mem_of_getElem? (i := 1135) (by decide +kernel), List.mem_of_getElem? (i := 1510) (by decide +kernel), List.mem_of_getElem? (i := 1511) (by decide +kernel)⟩
theorem lw_p65 : lw_okq (⟨"StageRatiosModel", "laysSpeed", "()V"⟩, 61) := ⟨⟨by decide +kernel, by decide +kernel⟩, List.mem_of_getElem? (i := 1135) (by decide +kernel), List.mem_of_getElem? (i := 1514) (by decide +kernel), List.mem_of_getElem? (i := 1515) (by decide +kernel)⟩
theorem lw_p66 : lw_okq (⟨"StageRatiosModel", "one", "()V"⟩, 61) := ⟨⟨by decide +kernel, by decide +kernel⟩, List.mem_of_getElem? (i := 1135) (by decide +kernel), List.mem_of_getElem? (i := 1518) (by decide +kernel), List.mem_of_getElem? (i := 1519) (by decide +kernel)⟩
theorem lw_p67 : lw_okq (⟨"StageRatiosModel", "times", "(III)V"⟩, 61) := ⟨⟨by decide +kernel, by decide +kernel⟩, List.mem_of_getElem? (i := 1135) (by decide +kernel), List.mem_of_getElem? (i := 1522) (by decide +kernel), List.mem_of_getElem? (i := 1523) (by decide +kernel)⟩
theorem lw_p68 : lw_okq (⟨"StageRatiosModel", "timesOver", "(I)V"⟩, 61) := ⟨⟨by decide +kernel, by decide +kernel⟩, List.mem_of_getElem? (i := 1135) (by decide +kernel), List.mem_of_getElem? (i := 1526) (by decide +kernel), List.mem_of_getElem? (i := 1527) (by decide +kernel)⟩
theorem lw_p69 : lw_okq (⟨"StageRatiosModel", "timesUnder", "(I)V"⟩, 61) := ⟨⟨by decide +kernel, by decide +kernel⟩, List.mem_of_getElem? (i := 1135) (by decide +kernel), List.mem_of_getElem? (i := 1531) (by decide +kernel), List.mem_of_getElem? (i := 1532) (by decide +kernel)⟩
theorem lw_p70 : lw_okq (⟨"StageRatiosModel", "reachesBy", "(I)Z"⟩, 61) := ⟨⟨by decide +kernel, by decide +kernel⟩, List.mem_of_getElem? (i := 1135) (by decide +kernel), List.mem_of_getElem? (i := 1535) (by decide +kernel), List.mem_of_getElem? (i := 1536) (by decide +kernel)⟩
theorem lw_p71 : lw_okq (⟨"StageRatiosModel", "compares", "()I"⟩, 61) := ⟨⟨by decide +kernel, by decide +kernel⟩, List.mem_of_getElem? (i := 1135) (by decide +kernel), List.mem_of_getElem? (i := 1539) (by decide +kernel), List.mem_of_getElem? (i := 1540) (by decide +kernel)⟩
theorem lw_p72 : lw_okq (⟨"StageRatiosModel", "greatestBy", "()I"⟩, 61) := ⟨⟨by decide +kernel, by decide +kernel⟩, List.mem_of_getElem? (i := 1135) (by decide +kernel), List.mem_of_getElem? (i := 1547) (by decide +kernel), List.mem_of_getElem? (i := 1548) (by decide +kernel)⟩
theorem lw_p73 : lw_okq (⟨"StageRatiosModel", "allHold", "()Z"⟩, 61) := ⟨⟨by decide +kernel, by decide +kernel⟩, List.mem_of_getElem? (i := 1135) (by decide +kernel), List.mem_of_getElem? (i := 1555) (by decide +kernel), List.mem_of_getElem? (i := 1556) (by decide +kernel)⟩
theorem lw_p74 : lw_okq (⟨"StageRatiosModel", "noFactors", "()V"⟩, 61) := ⟨⟨by decide +kernel, by decide +kernel⟩, List.mem_of_getElem? (i := 1135) (by decide +kernel), List.mem_of_getElem? (i := 1563) (by decide +kernel), List.mem_of_getElem? (i := 1564) (by decide +kernel)⟩
theorem lw_p75 : lw_okq (⟨"StageRatiosModel", "ratio", "(III)V"⟩, 61) := ⟨⟨by decide +kernel, by decide +kernel⟩, List.mem_of_getElem? (i := 1135) (by decide +kernel), List.mem_of_getElem? (i := 1567) (by decide +kernel), List.mem_of_getElem? (i := 1568) (by decide +kernel)⟩
theorem lw_p76 : lw_okq (⟨"StageRatiosModel", "factors", "(II)V"⟩, 61) := ⟨⟨by decide +kernel, by decide +kernel⟩, List.mem_of_getElem? (i := 1135) (by decide +kernel), List.mem_of_getElem? (i := 1571) (by decide +kernel), List.mem_of_getElem? (i := 1572) (by decide +kernel)⟩
theorem lw_p77 : lw_okq (⟨"StageRatiosModel", "lowest", "(Z)I"⟩, 61) := ⟨⟨by decide +kernel, by decide +kernel⟩, List.mem_of_getElem? (i := 1135) (by decide +kernel), List.mem_of_getElem? (i := 1575) (by decide +kernel), List.mem_of_getElem? (i := 1576) (by decide +kernel)⟩
theorem lw_p78 : lw_okq (⟨"StageRatiosModel", "laysBox", "()V"⟩, 61) := ⟨⟨by decide +kernel, by decide +kernel⟩, List.mem_of_getElem? (i := 1135) (by decide +kernel), List.mem_of_getElem? (i := 1588) (by decide +kernel), List.mem_of_getElem? (i := 1589) (by decide +kernel)⟩
theorem lw_p79 : lw_okq (⟨"StageRatiosModel", "laysBest", "(I)V"⟩, 61) := ⟨⟨by decide +kernel, by decide +kernel⟩, List.mem_of_getElem? (i := 1135) (by decide +kernel), List.mem_of_getElem? (i := 1592) (by decide +kernel), List.mem_of_getElem? (i := 1593) (by decide +kernel)⟩
def lw_privs_5 : List (MethodName × Nat) := [(⟨"StageRatiosModel", "divReaches", "(I)Z"⟩, 61), (⟨"StageRatiosModel", "laysSpeed", "()V"⟩, 61), (⟨"StageRatiosModel", "one", "()V"⟩, 61), (⟨"StageRatiosModel", "times", "(III)V"⟩, 61), (⟨"StageRatiosModel", "timesOver", "(I)V"⟩, 61), (⟨"StageRatiosModel", "timesUnder", "(I)V"⟩, 61), (⟨"StageRatiosModel", "reachesBy", "(I)Z"⟩, 61), (⟨"StageRatiosModel", "compares", "()I"⟩, 61), (⟨"StageRatiosModel", "greatestBy", "()I"⟩, 61), (⟨"StageRatiosModel", "allHold", "()Z"⟩, 61), (⟨"StageRatiosModel", "noFactors", "()V"⟩, 61), (⟨"StageRatiosModel", "ratio", "(III)V"⟩, 61), (⟨"StageRatiosModel", "factors", "(II)V"⟩, 61), (⟨"StageRatiosModel", "lowest", "(Z)I"⟩, 61), (⟨"StageRatiosModel", "laysBox", "()V"⟩, 61), (⟨"StageRatiosModel", "laysBest", "(I)V"⟩, 61)]
theorem lw_r5 : ∀ q ∈ lw_privs_5, lw_okq q := List.forall_mem_cons.mpr ⟨lw_p64, List.forall_mem_cons.mpr ⟨lw_p65, List.forall_mem_cons.mpr ⟨lw_p66, List.forall_mem_cons.mpr ⟨lw_p67, List.forall_mem_cons.mpr ⟨lw_p68, List.forall_mem_cons.mpr ⟨lw_p69, List.forall_mem_cons.mpr ⟨lw_p70, List.forall_mem_cons.mpr ⟨lw_p71, List.forall_mem_cons.mpr ⟨lw_p72, List.forall_mem_cons.mpr ⟨lw_p73, List.forall_mem_cons.mpr ⟨lw_p74, List.forall_mem_cons.mpr ⟨lw_p75, List.forall_mem_cons.mpr ⟨lw_p76, List.forall_mem_cons.mpr ⟨lw_p77, List.forall_mem_cons.mpr ⟨lw_p78, List.forall_mem_cons.mpr ⟨lw_p79, fun _ h => absurd h List.not_mem_nil⟩⟩⟩⟩⟩⟩⟩⟩⟩⟩⟩⟩⟩⟩⟩⟩
theorem lw_p80 : lw_okq (⟨"StageRatiosModel", "goesOn", "()Z"⟩, 61) := ⟨⟨by decide +kernel, by decide +kernel⟩, List.mem_of_getElem? (i := 1135) (by decide +kernel), List.mem_of_getElem? (i := 1596) (by decide +kernel), List.mem_of_getElem? (i := 1597) (by decide +kernel)⟩
theorem lw_p81 : lw_okq (⟨"StageRatiosModel", "isAny", "()Z"⟩, 61) := ⟨⟨by decide +kernel, by decide +kernel⟩, List.mem_of_getElem? (i := 1135) (by decide +kernel), List.mem_of_getElem? (i := 1612) (by decide +kernel), List.mem_of_getElem? (i := 1613) (by decide +kernel)⟩
theorem lw_p82 : lw_okq (⟨"StageRatiosModel", "laysWays", "(II)V"⟩, 61) := ⟨⟨by decide +kernel, by decide +kernel⟩, List.mem_of_getElem? (i := 1135) (by decide +kernel), List.mem_of_getElem? (i := 1624) (by decide +kernel), List.mem_of_getElem? (i := 1625) (by decide +kernel)⟩
theorem lw_p83 : lw_okq (⟨"StageRatiosModel", "laysFront", "()V"⟩, 61) := ⟨⟨by decide +kernel, by decide +kernel⟩, List.mem_of_getElem? (i := 1135) (by decide +kernel), List.mem_of_getElem? (i := 1636) (by decide +kernel), List.mem_of_getElem? (i := 1637) (by decide +kernel)⟩
theorem lw_p84 : lw_okq (⟨"StageRatiosModel", "puts", "([II)V"⟩, 61) := ⟨⟨by decide +kernel, by decide +kernel⟩, List.mem_of_getElem? (i := 1135) (by decide +kernel), List.mem_of_getElem? (i := 1640) (by decide +kernel), List.mem_of_getElem? (i := 1641) (by decide +kernel)⟩
theorem lw_p85 : lw_okq (⟨"StageRatiosModel", "comparesSpeeds", "([II[II)I"⟩, 61) := ⟨⟨by decide +kernel, by decide +kernel⟩, List.mem_of_getElem? (i := 1135) (by decide +kernel), List.mem_of_getElem? (i := 1644) (by decide +kernel), List.mem_of_getElem? (i := 1645) (by decide +kernel)⟩
theorem lw_p86 : lw_okq (⟨"StageRatiosModel", "takes", "([II)V"⟩, 61) := ⟨⟨by decide +kernel, by decide +kernel⟩, List.mem_of_getElem? (i := 1135) (by decide +kernel), List.mem_of_getElem? (i := 1648) (by decide +kernel), List.mem_of_getElem? (i := 1649) (by decide +kernel)⟩
theorem lw_p87 : lw_okq (⟨"StageRatiosModel", "flies", "(II)V"⟩, 61) := ⟨⟨by decide +kernel, by decide +kernel⟩, List.mem_of_getElem? (i := 1135) (by decide +kernel), List.mem_of_getElem? (i := 1668) (by decide +kernel), List.mem_of_getElem? (i := 1669) (by decide +kernel)⟩
theorem lw_p88 : lw_okq (⟨"StageRatiosModel", "failsIn", "(IIII)I"⟩, 61) := ⟨⟨by decide +kernel, by decide +kernel⟩, List.mem_of_getElem? (i := 1135) (by decide +kernel), List.mem_of_getElem? (i := 1672) (by decide +kernel), List.mem_of_getElem? (i := 1673) (by decide +kernel)⟩
theorem lw_p89 : lw_okq (⟨"StageRatiosModel", "leastPushAt", "()I"⟩, 61) := ⟨⟨by decide +kernel, by decide +kernel⟩, List.mem_of_getElem? (i := 1135) (by decide +kernel), List.mem_of_getElem? (i := 1676) (by decide +kernel), List.mem_of_getElem? (i := 1677) (by decide +kernel)⟩
theorem lw_p90 : lw_okq (⟨"StageRatiosModel", "laysFlown", "()V"⟩, 61) := ⟨⟨by decide +kernel, by decide +kernel⟩, List.mem_of_getElem? (i := 1135) (by decide +kernel), List.mem_of_getElem? (i := 1680) (by decide +kernel), List.mem_of_getElem? (i := 1681) (by decide +kernel)⟩
theorem lw_p91 : lw_okq (⟨"StageRatiosModel", "riskOf", "(II)I"⟩, 61) := ⟨⟨by decide +kernel, by decide +kernel⟩, List.mem_of_getElem? (i := 1135) (by decide +kernel), List.mem_of_getElem? (i := 1700) (by decide +kernel), List.mem_of_getElem? (i := 1701) (by decide +kernel)⟩
theorem lw_p92 : lw_okq (⟨"StageRatiosModel", "remembers", "()V"⟩, 61) := ⟨⟨by decide +kernel, by decide +kernel⟩, List.mem_of_getElem? (i := 1135) (by decide +kernel), List.mem_of_getElem? (i := 1712) (by decide +kernel), List.mem_of_getElem? (i := 1713) (by decide +kernel)⟩
def lw_privs_6 : List (MethodName × Nat) := [(⟨"StageRatiosModel", "goesOn", "()Z"⟩, 61), (⟨"StageRatiosModel", "isAny", "()Z"⟩, 61), (⟨"StageRatiosModel", "laysWays", "(II)V"⟩, 61), (⟨"StageRatiosModel", "laysFront", "()V"⟩, 61), (⟨"StageRatiosModel", "puts", "([II)V"⟩, 61), (⟨"StageRatiosModel", "comparesSpeeds", "([II[II)I"⟩, 61), (⟨"StageRatiosModel", "takes", "([II)V"⟩, 61), (⟨"StageRatiosModel", "flies", "(II)V"⟩, 61), (⟨"StageRatiosModel", "failsIn", "(IIII)I"⟩, 61), (⟨"StageRatiosModel", "leastPushAt", "()I"⟩, 61), (⟨"StageRatiosModel", "laysFlown", "()V"⟩, 61), (⟨"StageRatiosModel", "riskOf", "(II)I"⟩, 61), (⟨"StageRatiosModel", "remembers", "()V"⟩, 61)]
theorem lw_r6 : ∀ q ∈ lw_privs_6, lw_okq q := List.forall_mem_cons.mpr ⟨lw_p80, List.forall_mem_cons.mpr ⟨lw_p81, List.forall_mem_cons.mpr ⟨lw_p82, List.forall_mem_cons.mpr ⟨lw_p83, List.forall_mem_cons.mpr ⟨lw_p84, List.forall_mem_cons.mpr ⟨lw_p85, List.forall_mem_cons.mpr ⟨lw_p86, List.forall_mem_cons.mpr ⟨lw_p87, List.forall_mem_cons.mpr ⟨lw_p88, List.forall_mem_cons.mpr ⟨lw_p89, List.forall_mem_cons.mpr ⟨lw_p90, List.forall_mem_cons.mpr ⟨lw_p91, List.forall_mem_cons.mpr ⟨lw_p92, fun _ h => absurd h List.not_mem_nil⟩⟩⟩⟩⟩⟩⟩⟩⟩⟩⟩⟩⟩
def lw_privs : List (MethodName × Nat) := lw_privs_1 ++ (lw_privs_2 ++ (lw_privs_3 ++ (lw_privs_4 ++ (lw_privs_5 ++ (lw_privs_6)))))
def lw_tbl : List Cond := k2_sels lw_privs ++ tables_1
theorem lw_privs_ok : ∀ q ∈ lw_privs, lw_okq q := by
  show ∀ q ∈ lw_privs_1 ++ (lw_privs_2 ++ (lw_privs_3 ++ (lw_privs_4 ++ (lw_privs_5 ++ (lw_privs_6))))), lw_okq q
  exact List.forall_mem_append.mpr ⟨lw_r1, List.forall_mem_append.mpr ⟨lw_r2, List.forall_mem_append.mpr ⟨lw_r3, List.forall_mem_append.mpr ⟨lw_r4, List.forall_mem_append.mpr ⟨lw_r5, lw_r6⟩⟩⟩⟩⟩
/-- the streams that the claim lets the run draw from -/
abbrev lw_cs : List Choice := [Jvm.Choice.named "NaN.bits"]
theorem lw_bits : nanBits ∈ lw_cs := by first | decide | exact List.mem_cons_self | simp [lw_cs, nanBits]

def RX0 : String := "StageRatios$Big"
def TX0 : u_T := fun k => match k with
  | 0 => ("StageRatios$Big", "limbs", "[J", true)
  | _ => ("StageRatios$Big", "used", "I", false)
def tyX0 : Nat → FieldType := fun k => match k with
  | 0 => .array .long
  | _ => .int
abbrev wsX00 : List Cond := u_ws RX0 TX0 2
theorem nmX0 : ∀ a, a < 2 → ∀ b, b < 2 → a ≠ b → (TX0 a).2.1 ≠ (TX0 b).2.1 := by decide +kernel
theorem tyX0_ok : ∀ k, k < 2 → parseFieldDescriptor (TX0 k).2.2.1 = some (tyX0 k) := by decide +kernel
abbrev cX0_init : ByteArray := prog_2_method_1_code
def yX0_init : MethodName := ⟨RX0, "<init>", "()V"⟩
abbrev cX0_setOne : ByteArray := prog_2_method_2_code
def yX0_setOne : MethodName := ⟨RX0, "setOne", "()V"⟩
abbrev cX0_multiply : ByteArray := prog_2_method_3_code
def yX0_multiply : MethodName := ⟨RX0, "multiply", "(I)V"⟩
abbrev cX0_compare : ByteArray := prog_2_method_4_code
def yX0_compare : MethodName := ⟨RX0, "compare", "(LStageRatios$Big;)I"⟩
def RX1 : String := "StageRatios$Choice"
def TX1 : u_T := fun k => match k with
  | 0 => ("StageRatios$Choice", "cells", "[I", true)
  | 1 => ("StageRatios$Choice", "low", "[I", true)
  | 2 => ("StageRatios$Choice", "high", "[I", true)
  | 3 => ("StageRatios$Choice", "ratio", "LStageRatios$Ratio;", true)
  | 4 => ("StageRatios$Choice", "scale", "LStageRatios$Scale;", true)
  | _ => ("StageRatios$Choice", "known", "I", false)
def tyX1 : Nat → FieldType := fun k => match k with
  | 0 => .array .int
  | 1 => .array .int
  | 2 => .array .int
  | 3 => .object "StageRatios$Ratio"
  | 4 => .object "StageRatios$Scale"
  | _ => .int
abbrev wsX10 : List Cond := u_ws RX1 TX1 6
theorem nmX1 : ∀ a, a < 6 → ∀ b, b < 6 → a ≠ b → (TX1 a).2.1 ≠ (TX1 b).2.1 := by decide +kernel
theorem tyX1_ok : ∀ k, k < 6 → parseFieldDescriptor (TX1 k).2.2.1 = some (tyX1 k) := by decide +kernel
abbrev cX1_init : ByteArray := prog_3_method_1_code
def yX1_init : MethodName := ⟨RX1, "<init>", "(LStageRatios$Scale;)V"⟩
abbrev cX1_unitsOf : ByteArray := prog_3_method_2_code
def yX1_unitsOf : MethodName := ⟨RX1, "unitsOf", "(II)I"⟩
abbrev cX1_cellCount : ByteArray := prog_3_method_3_code
def yX1_cellCount : MethodName := ⟨RX1, "cellCount", "()I"⟩
abbrev cX1_forget : ByteArray := prog_3_method_4_code
def yX1_forget : MethodName := ⟨RX1, "forget", "()V"⟩
abbrev cX1_bound : ByteArray := prog_3_method_5_code
def yX1_bound : MethodName := ⟨RX1, "bound", "(III)V"⟩
abbrev cX1_prepare : ByteArray := prog_3_method_6_code
def yX1_prepare : MethodName := ⟨RX1, "prepare", "(LStageRatios$Rocket;[ILStageRatios$Weights;)V"⟩
abbrev cX1_isWithinMost : ByteArray := prog_3_method_7_code
def yX1_isWithinMost : MethodName := ⟨RX1, "isWithinMost", "(LStageRatios$Rocket;LStageRatios$Weights;)Z"⟩
abbrev cX1_powerHeld : ByteArray := prog_3_method_8_code
def yX1_powerHeld : MethodName := ⟨RX1, "powerHeld", "(LStageRatios$Rocket;ILStageRatios$Weights;)I"⟩
abbrev cX1_isInside : ByteArray := prog_3_method_9_code
def yX1_isInside : MethodName := ⟨RX1, "isInside", "(I)Z"⟩
abbrev cX1_counts : ByteArray := prog_3_method_10_code
def yX1_counts : MethodName := ⟨RX1, "counts", "(I)Z"⟩
abbrev cX1_weightOf : ByteArray := prog_3_method_11_code
def yX1_weightOf : MethodName := ⟨RX1, "weightOf", "(I)I"⟩
abbrev cX1_powerOf : ByteArray := prog_3_method_12_code
def yX1_powerOf : MethodName := ⟨RX1, "powerOf", "(I)I"⟩
abbrev cX1_best : ByteArray := prog_3_method_13_code
def yX1_best : MethodName := ⟨RX1, "best", "(I)I"⟩
abbrev cX1_highestPower : ByteArray := prog_3_method_14_code
def yX1_highestPower : MethodName := ⟨RX1, "highestPower", "()I"⟩
abbrev cX1_count : ByteArray := prog_3_method_15_code
def yX1_count : MethodName := ⟨RX1, "count", "(I)I"⟩
abbrev cX1_extreme : ByteArray := prog_3_method_16_code
def yX1_extreme : MethodName := ⟨RX1, "extreme", "(IIZ)I"⟩
abbrev cX1_heaviestLoad : ByteArray := prog_3_method_17_code
def yX1_heaviestLoad : MethodName := ⟨RX1, "heaviestLoad", "(LStageRatios$Rocket;ILStageRatios$Weights;)I"⟩
def RX2 : String := "StageRatios$Flight"
def TX2 : u_T := fun k => match k with
  | 0 => ("StageRatios$Flight", "stageAt", "[I", true)
  | 1 => ("StageRatios$Flight", "tickOfBurn", "[I", true)
  | 2 => ("StageRatios$Flight", "ahead", "[I", true)
  | 3 => ("StageRatios$Flight", "behind", "[I", true)
  | 4 => ("StageRatios$Flight", "running", "[I", true)
  | 5 => ("StageRatios$Flight", "push", "[I", true)
  | 6 => ("StageRatios$Flight", "product", "LStageRatios$Ratio;", true)
  | 7 => ("StageRatios$Flight", "ticks", "I", false)
  | 8 => ("StageRatios$Flight", "dropped", "I", false)
  | _ => ("StageRatios$Flight", "stopped", "I", false)
def tyX2 : Nat → FieldType := fun k => match k with
  | 0 => .array .int
  | 1 => .array .int
  | 2 => .array .int
  | 3 => .array .int
  | 4 => .array .int
  | 5 => .array .int
  | 6 => .object "StageRatios$Ratio"
  | 7 => .int
  | 8 => .int
  | _ => .int
abbrev wsX20 : List Cond := u_ws RX2 TX2 10
theorem nmX2 : ∀ a, a < 10 → ∀ b, b < 10 → a ≠ b → (TX2 a).2.1 ≠ (TX2 b).2.1 := by decide +kernel
theorem tyX2_ok : ∀ k, k < 10 → parseFieldDescriptor (TX2 k).2.2.1 = some (tyX2 k) := by decide +kernel
abbrev cX2_init : ByteArray := prog_4_method_1_code
def yX2_init : MethodName := ⟨RX2, "<init>", "()V"⟩
abbrev cX2_fly : ByteArray := prog_4_method_2_code
def yX2_fly : MethodName := ⟨RX2, "fly", "(LStageRatios$Rocket;LStageRatios$Weights;II)V"⟩
abbrev cX2_burn : ByteArray := prog_4_method_3_code
def yX2_burn : MethodName := ⟨RX2, "burn", "(LStageRatios$Rocket;LStageRatios$Weights;II)V"⟩
abbrev cX2_leastPush : ByteArray := prog_4_method_4_code
def yX2_leastPush : MethodName := ⟨RX2, "leastPush", "()I"⟩
abbrev cX2_firstOfLeastPush : ByteArray := prog_4_method_5_code
def yX2_firstOfLeastPush : MethodName := ⟨RX2, "firstOfLeastPush", "()I"⟩
def RX3 : String := "StageRatios$Front"
def TX3 : u_T := fun k => match k with
  | 0 => ("StageRatios$Front", "byMass", "[I", true)
  | 1 => ("StageRatios$Front", "codes", "[I", true)
  | 2 => ("StageRatios$Front", "count", "I", false)
  | 3 => ("StageRatios$Front", "drawn", "I", false)
  | 4 => ("StageRatios$Front", "choice", "LStageRatios$Choice;", true)
  | 5 => ("StageRatios$Front", "scale", "LStageRatios$Scale;", true)
  | 6 => ("StageRatios$Front", "weights", "LStageRatios$Weights;", true)
  | 7 => ("StageRatios$Front", "one", "LStageRatios$Ratio;", true)
  | _ => ("StageRatios$Front", "other", "LStageRatios$Ratio;", true)
def tyX3 : Nat → FieldType := fun k => match k with
  | 0 => .array .int
  | 1 => .array .int
  | 2 => .int
  | 3 => .int
  | 4 => .object "StageRatios$Choice"
  | 5 => .object "StageRatios$Scale"
  | 6 => .object "StageRatios$Weights"
  | 7 => .object "StageRatios$Ratio"
  | _ => .object "StageRatios$Ratio"
abbrev wsX30 : List Cond := u_ws RX3 TX3 9
theorem nmX3 : ∀ a, a < 9 → ∀ b, b < 9 → a ≠ b → (TX3 a).2.1 ≠ (TX3 b).2.1 := by decide +kernel
theorem tyX3_ok : ∀ k, k < 9 → parseFieldDescriptor (TX3 k).2.2.1 = some (tyX3 k) := by decide +kernel
abbrev cX3_init : ByteArray := prog_5_method_1_code
def yX3_init : MethodName := ⟨RX3, "<init>", "(LStageRatios$Choice;LStageRatios$Scale;)V"⟩
abbrev cX3_draw : ByteArray := prog_5_method_2_code
def yX3_draw : MethodName := ⟨RX3, "draw", "(LStageRatios$Rocket;II)V"⟩
abbrev cX3_isFaster : ByteArray := prog_5_method_3_code
def yX3_isFaster : MethodName := ⟨RX3, "isFaster", "(LStageRatios$Rocket;III)Z"⟩
def RX4 : String := "StageRatios$Ratio"
def TX4 : u_T := fun k => match k with
  | 0 => ("StageRatios$Ratio", "bases", "[I", true)
  | 1 => ("StageRatios$Ratio", "powers", "[I", true)
  | 2 => ("StageRatios$Ratio", "rests", "[I", true)
  | _ => ("StageRatios$Ratio", "count", "I", false)
def tyX4 : Nat → FieldType := fun k => match k with
  | 0 => .array .int
  | 1 => .array .int
  | 2 => .array .int
  | _ => .int
abbrev wsX40 : List Cond := u_ws RX4 TX4 4
theorem nmX4 : ∀ a, a < 4 → ∀ b, b < 4 → a ≠ b → (TX4 a).2.1 ≠ (TX4 b).2.1 := by decide +kernel
theorem tyX4_ok : ∀ k, k < 4 → parseFieldDescriptor (TX4 k).2.2.1 = some (tyX4 k) := by decide +kernel
abbrev cX4_init : ByteArray := prog_6_method_1_code
def yX4_init : MethodName := ⟨RX4, "<init>", "()V"⟩
abbrev cX4_clear : ByteArray := prog_6_method_2_code
def yX4_clear : MethodName := ⟨RX4, "clear", "()V"⟩
abbrev cX4_multiply : ByteArray := prog_6_method_3_code
def yX4_multiply : MethodName := ⟨RX4, "multiply", "(II)V"⟩
abbrev cX4_multiplyInto : ByteArray := prog_6_method_4_code
def yX4_multiplyInto : MethodName := ⟨RX4, "multiplyInto", "(LStageRatios$Big;LStageRatios$Big;)V"⟩
abbrev cX4_roughly : ByteArray := prog_6_method_5_code
def yX4_roughly : MethodName := ⟨RX4, "roughly", "()D"⟩
abbrev cX4_lowest : ByteArray := prog_6_method_6_code
def yX4_lowest : MethodName := ⟨RX4, "lowest", "(Z)I"⟩
abbrev cX4_takeOut : ByteArray := prog_6_method_7_code
def yX4_takeOut : MethodName := ⟨RX4, "takeOut", "(I)I"⟩
def RX5 : String := "StageRatios$Reader"
def TX5 : u_T := fun k => match k with
  | 0 => ("StageRatios$Reader", "tape", "LStageRatios$Tape;", true)
  | 1 => ("StageRatios$Reader", "names", "[J", true)
  | 2 => ("StageRatios$Reader", "rocketWord", "J", true)
  | 3 => ("StageRatios$Reader", "stageWord", "J", true)
  | 4 => ("StageRatios$Reader", "failWord", "J", true)
  | 5 => ("StageRatios$Reader", "solidWord", "J", true)
  | 6 => ("StageRatios$Reader", "oilWord", "J", true)
  | 7 => ("StageRatios$Reader", "gasWord", "J", true)
  | 8 => ("StageRatios$Reader", "begun", "Z", false)
  | 9 => ("StageRatios$Reader", "taken", "I", false)
  | 10 => ("StageRatios$Reader", "number", "I", false)
  | _ => ("StageRatios$Reader", "place", "I", false)
def tyX5 : Nat → FieldType := fun k => match k with
  | 0 => .object "StageRatios$Tape"
  | 1 => .array .long
  | 2 => .long
  | 3 => .long
  | 4 => .long
  | 5 => .long
  | 6 => .long
  | 7 => .long
  | 8 => .boolean
  | 9 => .int
  | 10 => .int
  | _ => .int
abbrev wsX50 : List Cond := u_ws RX5 TX5 12
theorem nmX5 : ∀ a, a < 12 → ∀ b, b < 12 → a ≠ b → (TX5 a).2.1 ≠ (TX5 b).2.1 := by decide +kernel
theorem tyX5_ok : ∀ k, k < 12 → parseFieldDescriptor (TX5 k).2.2.1 = some (tyX5 k) := by decide +kernel
abbrev cX5_init : ByteArray := prog_7_method_1_code
def yX5_init : MethodName := ⟨RX5, "<init>", "(LStageRatios$Tape;)V"⟩
abbrev cX5_read : ByteArray := prog_7_method_2_code
def yX5_read : MethodName := ⟨RX5, "read", "(ILStageRatios$Rocket;)Z"⟩
abbrev cX5_stop : ByteArray := prog_7_method_3_code
def yX5_stop : MethodName := ⟨RX5, "stop", "(I)Z"⟩
abbrev cX5_readLine : ByteArray := prog_7_method_4_code
def yX5_readLine : MethodName := ⟨RX5, "readLine", "(LStageRatios$Rocket;)Z"⟩
abbrev cX5_hasRoomFor : ByteArray := prog_7_method_5_code
def yX5_hasRoomFor : MethodName := ⟨RX5, "hasRoomFor", "(II)Z"⟩
abbrev cX5_readRocket : ByteArray := prog_7_method_6_code
def yX5_readRocket : MethodName := ⟨RX5, "readRocket", "(LStageRatios$Rocket;)Z"⟩
abbrev cX5_readStage : ByteArray := prog_7_method_7_code
def yX5_readStage : MethodName := ⟨RX5, "readStage", "(LStageRatios$Rocket;)Z"⟩
abbrev cX5_readFail : ByteArray := prog_7_method_8_code
def yX5_readFail : MethodName := ⟨RX5, "readFail", "(LStageRatios$Rocket;)Z"⟩
abbrev cX5_isName : ByteArray := prog_7_method_9_code
def yX5_isName : MethodName := ⟨RX5, "isName", "()Z"⟩
abbrev cX5_nameAt : ByteArray := prog_7_method_10_code
def yX5_nameAt : MethodName := ⟨RX5, "nameAt", "(JI)I"⟩
abbrev cX5_takeNewName : ByteArray := prog_7_method_11_code
def yX5_takeNewName : MethodName := ⟨RX5, "takeNewName", "(I)Z"⟩
abbrev cX5_takeKind : ByteArray := prog_7_method_12_code
def yX5_takeKind : MethodName := ⟨RX5, "takeKind", "(LStageRatios$Rocket;I)Z"⟩
abbrev cX5_gradeOf : ByteArray := prog_7_method_13_code
def yX5_gradeOf : MethodName := ⟨RX5, "gradeOf", "(J)I"⟩
abbrev cX5_takeWord : ByteArray := prog_7_method_14_code
def yX5_takeWord : MethodName := ⟨RX5, "takeWord", "(Ljava/lang/String;)Z"⟩
abbrev cX5_takeWhole : ByteArray := prog_7_method_15_code
def yX5_takeWhole : MethodName := ⟨RX5, "takeWhole", "(II)Z"⟩
def RX6 : String := "StageRatios$Rocket"
def TX6 : u_T := fun k => match k with
  | 0 => ("StageRatios$Rocket", "firstPayload", "I", false)
  | 1 => ("StageRatios$Rocket", "firstPower", "I", false)
  | 2 => ("StageRatios$Rocket", "upper", "I", false)
  | 3 => ("StageRatios$Rocket", "lower", "I", false)
  | 4 => ("StageRatios$Rocket", "pull", "I", false)
  | 5 => ("StageRatios$Rocket", "stages", "I", false)
  | 6 => ("StageRatios$Rocket", "fails", "I", false)
  | 7 => ("StageRatios$Rocket", "facts", "[I", true)
  | 8 => ("StageRatios$Rocket", "failStage", "[I", true)
  | 9 => ("StageRatios$Rocket", "failTick", "[I", true)
  | _ => ("StageRatios$Rocket", "failCount", "[I", true)
def tyX6 : Nat → FieldType := fun k => match k with
  | 0 => .int
  | 1 => .int
  | 2 => .int
  | 3 => .int
  | 4 => .int
  | 5 => .int
  | 6 => .int
  | 7 => .array .int
  | 8 => .array .int
  | 9 => .array .int
  | _ => .array .int
abbrev wsX60 : List Cond := u_ws RX6 TX6 11
theorem nmX6 : ∀ a, a < 11 → ∀ b, b < 11 → a ≠ b → (TX6 a).2.1 ≠ (TX6 b).2.1 := by decide +kernel
theorem tyX6_ok : ∀ k, k < 11 → parseFieldDescriptor (TX6 k).2.2.1 = some (tyX6 k) := by decide +kernel
abbrev cX6_init : ByteArray := prog_8_method_1_code
def yX6_init : MethodName := ⟨RX6, "<init>", "()V"⟩
abbrev cX6_clear : ByteArray := prog_8_method_2_code
def yX6_clear : MethodName := ⟨RX6, "clear", "()V"⟩
abbrev cX6_wordOf : ByteArray := prog_8_method_3_code
def yX6_wordOf : MethodName := ⟨RX6, "wordOf", "(I)Ljava/lang/String;"⟩
abbrev cX6_lowBoundOf : ByteArray := prog_8_method_4_code
def yX6_lowBoundOf : MethodName := ⟨RX6, "lowBoundOf", "(I)I"⟩
abbrev cX6_highBoundOf : ByteArray := prog_8_method_5_code
def yX6_highBoundOf : MethodName := ⟨RX6, "highBoundOf", "(I)I"⟩
abbrev cX6_fact : ByteArray := prog_8_method_6_code
def yX6_fact : MethodName := ⟨RX6, "fact", "(II)I"⟩
abbrev cX6_setFact : ByteArray := prog_8_method_7_code
def yX6_setFact : MethodName := ⟨RX6, "setFact", "(III)V"⟩
abbrev cX6_addFail : ByteArray := prog_8_method_8_code
def yX6_addFail : MethodName := ⟨RX6, "addFail", "(III)V"⟩
abbrev cX6_lastFailOf : ByteArray := prog_8_method_9_code
def yX6_lastFailOf : MethodName := ⟨RX6, "lastFailOf", "(I)I"⟩
abbrev cX6_failing : ByteArray := prog_8_method_10_code
def yX6_failing : MethodName := ⟨RX6, "failing", "(II)I"⟩
abbrev cX6_shell : ByteArray := prog_8_method_11_code
def yX6_shell : MethodName := ⟨RX6, "shell", "(II)I"⟩
def RX7 : String := "StageRatios$Scale"
def TX7 : u_T := fun k => match k with
  | 0 => ("StageRatios$Scale", "left", "LStageRatios$Big;", true)
  | _ => ("StageRatios$Scale", "right", "LStageRatios$Big;", true)
def tyX7 : Nat → FieldType := fun k => match k with
  | 0 => .object "StageRatios$Big"
  | _ => .object "StageRatios$Big"
abbrev wsX70 : List Cond := u_ws RX7 TX7 2
theorem nmX7 : ∀ a, a < 2 → ∀ b, b < 2 → a ≠ b → (TX7 a).2.1 ≠ (TX7 b).2.1 := by decide +kernel
theorem tyX7_ok : ∀ k, k < 2 → parseFieldDescriptor (TX7 k).2.2.1 = some (tyX7 k) := by decide +kernel
abbrev cX7_init : ByteArray := prog_9_method_1_code
def yX7_init : MethodName := ⟨RX7, "<init>", "()V"⟩
abbrev cX7_compare : ByteArray := prog_9_method_2_code
def yX7_compare : MethodName := ⟨RX7, "compare", "(LStageRatios$Ratio;LStageRatios$Ratio;)I"⟩
abbrev cX7_powerOf : ByteArray := prog_9_method_3_code
def yX7_powerOf : MethodName := ⟨RX7, "powerOf", "(LStageRatios$Ratio;II)I"⟩
abbrev cX7_isNoLess : ByteArray := prog_9_method_4_code
def yX7_isNoLess : MethodName := ⟨RX7, "isNoLess", "(LStageRatios$Ratio;III)Z"⟩
def RX8 : String := "StageRatios$Tape"
def TX8 : u_T := fun k => match k with
  | 0 => ("StageRatios$Tape", "bytes", "[I", true)
  | 1 => ("StageRatios$Tape", "held", "I", false)
  | 2 => ("StageRatios$Tape", "kind", "I", false)
  | 3 => ("StageRatios$Tape", "place", "I", false)
  | 4 => ("StageRatios$Tape", "value", "J", false)
  | 5 => ("StageRatios$Tape", "end", "I", false)
  | _ => ("StageRatios$Tape", "next", "I", false)
def tyX8 : Nat → FieldType := fun k => match k with
  | 0 => .array .int
  | 1 => .int
  | 2 => .int
  | 3 => .int
  | 4 => .long
  | 5 => .int
  | _ => .int
abbrev wsX80 : List Cond := u_ws RX8 TX8 7
theorem nmX8 : ∀ a, a < 7 → ∀ b, b < 7 → a ≠ b → (TX8 a).2.1 ≠ (TX8 b).2.1 := by decide +kernel
theorem tyX8_ok : ∀ k, k < 7 → parseFieldDescriptor (TX8 k).2.2.1 = some (tyX8 k) := by decide +kernel
abbrev cX8_init : ByteArray := prog_10_method_1_code
def yX8_init : MethodName := ⟨RX8, "<init>", "()V"⟩
abbrev cX8_hasRoom : ByteArray := prog_10_method_2_code
def yX8_hasRoom : MethodName := ⟨RX8, "hasRoom", "(I)Z"⟩
abbrev cX8_append : ByteArray := prog_10_method_3_code
def yX8_append : MethodName := ⟨RX8, "append", "(I)V"⟩
abbrev cX8_clear : ByteArray := prog_10_method_4_code
def yX8_clear : MethodName := ⟨RX8, "clear", "()V"⟩
abbrev cX8_begin : ByteArray := prog_10_method_5_code
def yX8_begin : MethodName := ⟨RX8, "begin", "(I)V"⟩
abbrev cX8_step : ByteArray := prog_10_method_6_code
def yX8_step : MethodName := ⟨RX8, "step", "()V"⟩
abbrev cX8_byteAt : ByteArray := prog_10_method_7_code
def yX8_byteAt : MethodName := ⟨RX8, "byteAt", "(I)I"⟩
abbrev cX8_kindOf : ByteArray := prog_10_method_8_code
def yX8_kindOf : MethodName := ⟨RX8, "kindOf", "(I)I"⟩
abbrev cX8_numberOf : ByteArray := prog_10_method_9_code
def yX8_numberOf : MethodName := ⟨RX8, "numberOf", "(Ljava/lang/String;)J"⟩
abbrev cX8_withLetter : ByteArray := prog_10_method_10_code
def yX8_withLetter : MethodName := ⟨RX8, "withLetter", "(JI)J"⟩
def RX9 : String := "StageRatios$Weights"
def TX9 : u_T := fun k => match k with
  | 0 => ("StageRatios$Weights", "units", "[I", true)
  | 1 => ("StageRatios$Weights", "start", "[I", true)
  | 2 => ("StageRatios$Weights", "end", "[I", true)
  | _ => ("StageRatios$Weights", "whole", "I", false)
def tyX9 : Nat → FieldType := fun k => match k with
  | 0 => .array .int
  | 1 => .array .int
  | 2 => .array .int
  | _ => .int
abbrev wsX90 : List Cond := u_ws RX9 TX9 4
theorem nmX9 : ∀ a, a < 4 → ∀ b, b < 4 → a ≠ b → (TX9 a).2.1 ≠ (TX9 b).2.1 := by decide +kernel
theorem tyX9_ok : ∀ k, k < 4 → parseFieldDescriptor (TX9 k).2.2.1 = some (tyX9 k) := by decide +kernel
abbrev cX9_init : ByteArray := prog_11_method_1_code
def yX9_init : MethodName := ⟨RX9, "<init>", "()V"⟩
abbrev cX9_weigh : ByteArray := prog_11_method_2_code
def yX9_weigh : MethodName := ⟨RX9, "weigh", "(LStageRatios$Rocket;I)V"⟩
abbrev cX9_layCode : ByteArray := prog_11_method_3_code
def yX9_layCode : MethodName := ⟨RX9, "layCode", "(I)V"⟩
abbrev cX9_weighCode : ByteArray := prog_11_method_4_code
def yX9_weighCode : MethodName := ⟨RX9, "weighCode", "(LStageRatios$Rocket;II)V"⟩
abbrev cX9_pushWithout : ByteArray := prog_11_method_5_code
def yX9_pushWithout : MethodName := ⟨RX9, "pushWithout", "(LStageRatios$Rocket;II)I"⟩
abbrev cX9_holdsAt : ByteArray := prog_11_method_6_code
def yX9_holdsAt : MethodName := ⟨RX9, "holdsAt", "(LStageRatios$Rocket;I)Z"⟩
abbrev cX9_holdsAll : ByteArray := prog_11_method_7_code
def yX9_holdsAll : MethodName := ⟨RX9, "holdsAll", "(LStageRatios$Rocket;)Z"⟩
abbrev cX9_speedInto : ByteArray := prog_11_method_8_code
def yX9_speedInto : MethodName := ⟨RX9, "speedInto", "(LStageRatios$Rocket;LStageRatios$Ratio;)V"⟩
abbrev cX9_hundredfold : ByteArray := prog_11_method_9_code
def yX9_hundredfold : MethodName := ⟨RX9, "hundredfold", "(II)I"⟩
def RX10 : String := "StageRatios"
def TX10 : u_T := fun k => match k with
  | 0 => ("StageRatios", "tape", "LStageRatios$Tape;", true)
  | 1 => ("StageRatios", "reader", "LStageRatios$Reader;", true)
  | 2 => ("StageRatios", "now", "[I", true)
  | 3 => ("StageRatios", "past", "[I", true)
  | 4 => ("StageRatios", "weights", "LStageRatios$Weights;", true)
  | 5 => ("StageRatios", "another", "LStageRatios$Weights;", true)
  | 6 => ("StageRatios", "ratio", "LStageRatios$Ratio;", true)
  | 7 => ("StageRatios", "second", "LStageRatios$Ratio;", true)
  | 8 => ("StageRatios", "scale", "LStageRatios$Scale;", true)
  | 9 => ("StageRatios", "choice", "LStageRatios$Choice;", true)
  | 10 => ("StageRatios", "outline", "LStageRatios$Front;", true)
  | 11 => ("StageRatios", "course", "LStageRatios$Flight;", true)
  | 12 => ("StageRatios", "trial", "LStageRatios$Flight;", true)
  | 13 => ("StageRatios", "current", "LStageRatios$Rocket;", false)
  | 14 => ("StageRatios", "draft", "LStageRatios$Rocket;", false)
  | 15 => ("StageRatios", "told", "Z", false)
  | 16 => ("StageRatios", "kept", "I", false)
  | 17 => ("StageRatios", "changes", "I", false)
  | 18 => ("StageRatios", "trouble", "I", false)
  | _ => ("StageRatios", "latestFault", "I", false)
def tyX10 : Nat → FieldType := fun k => match k with
  | 0 => .object "StageRatios$Tape"
  | 1 => .object "StageRatios$Reader"
  | 2 => .array .int
  | 3 => .array .int
  | 4 => .object "StageRatios$Weights"
  | 5 => .object "StageRatios$Weights"
  | 6 => .object "StageRatios$Ratio"
  | 7 => .object "StageRatios$Ratio"
  | 8 => .object "StageRatios$Scale"
  | 9 => .object "StageRatios$Choice"
  | 10 => .object "StageRatios$Front"
  | 11 => .object "StageRatios$Flight"
  | 12 => .object "StageRatios$Flight"
  | 13 => .object "StageRatios$Rocket"
  | 14 => .object "StageRatios$Rocket"
  | 15 => .boolean
  | 16 => .int
  | 17 => .int
  | 18 => .int
  | _ => .int
abbrev wsX100 : List Cond := u_ws RX10 TX10 20
theorem nmX10 : ∀ a, a < 20 → ∀ b, b < 20 → a ≠ b → (TX10 a).2.1 ≠ (TX10 b).2.1 := by decide +kernel
theorem tyX10_ok : ∀ k, k < 20 → parseFieldDescriptor (TX10 k).2.2.1 = some (tyX10 k) := by decide +kernel
abbrev cX10_init : ByteArray := prog_1_method_1_code
def yX10_init : MethodName := ⟨RX10, "<init>", "()V"⟩
abbrev cX10_feed : ByteArray := prog_1_method_2_code
def yX10_feed : MethodName := ⟨RX10, "feed", "(IIIII)I"⟩
abbrev cX10_rocket : ByteArray := prog_1_method_3_code
def yX10_rocket : MethodName := ⟨RX10, "rocket", "(I)I"⟩
abbrev cX10_fault : ByteArray := prog_1_method_4_code
def yX10_fault : MethodName := ⟨RX10, "fault", "()I"⟩
abbrev cX10_where : ByteArray := prog_1_method_5_code
def yX10_where : MethodName := ⟨RX10, "where", "()I"⟩
abbrev cX10_about : ByteArray := prog_1_method_6_code
def yX10_about : MethodName := ⟨RX10, "about", "(I)I"⟩
abbrev cX10_stage : ByteArray := prog_1_method_7_code
def yX10_stage : MethodName := ⟨RX10, "stage", "(II)I"⟩
abbrev cX10_part : ByteArray := prog_1_method_8_code
def yX10_part : MethodName := ⟨RX10, "part", "(II)I"⟩
abbrev cX10_margin : ByteArray := prog_1_method_9_code
def yX10_margin : MethodName := ⟨RX10, "margin", "(II)I"⟩
abbrev cX10_spare : ByteArray := prog_1_method_10_code
def yX10_spare : MethodName := ⟨RX10, "spare", "(I)I"⟩
abbrev cX10_mass : ByteArray := prog_1_method_11_code
def yX10_mass : MethodName := ⟨RX10, "mass", "()I"⟩
abbrev cX10_reaches : ByteArray := prog_1_method_12_code
def yX10_reaches : MethodName := ⟨RX10, "reaches", "(I)I"⟩
abbrev cX10_greatest : ByteArray := prog_1_method_13_code
def yX10_greatest : MethodName := ⟨RX10, "greatest", "()I"⟩
abbrev cX10_speed : ByteArray := prog_1_method_14_code
def yX10_speed : MethodName := ⟨RX10, "speed", "(Z)I"⟩
abbrev cX10_holds : ByteArray := prog_1_method_15_code
def yX10_holds : MethodName := ⟨RX10, "holds", "()I"⟩
abbrev cX10_richer : ByteArray := prog_1_method_16_code
def yX10_richer : MethodName := ⟨RX10, "richer", "(II)I"⟩
abbrev cX10_least : ByteArray := prog_1_method_17_code
def yX10_least : MethodName := ⟨RX10, "least", "(I)I"⟩
abbrev cX10_fuel : ByteArray := prog_1_method_18_code
def yX10_fuel : MethodName := ⟨RX10, "fuel", "(II)I"⟩
abbrev cX10_farthest : ByteArray := prog_1_method_19_code
def yX10_farthest : MethodName := ⟨RX10, "farthest", "()I"⟩
abbrev cX10_lifts : ByteArray := prog_1_method_20_code
def yX10_lifts : MethodName := ⟨RX10, "lifts", "()I"⟩
abbrev cX10_needs : ByteArray := prog_1_method_21_code
def yX10_needs : MethodName := ⟨RX10, "needs", "(I)I"⟩
abbrev cX10_fronts : ByteArray := prog_1_method_22_code
def yX10_fronts : MethodName := ⟨RX10, "fronts", "()I"⟩
abbrev cX10_front : ByteArray := prog_1_method_23_code
def yX10_front : MethodName := ⟨RX10, "front", "(II)I"⟩
abbrev cX10_beaten : ByteArray := prog_1_method_24_code
def yX10_beaten : MethodName := ⟨RX10, "beaten", "()I"⟩
abbrev cX10_box : ByteArray := prog_1_method_25_code
def yX10_box : MethodName := ⟨RX10, "box", "(IZ)I"⟩
abbrev cX10_range : ByteArray := prog_1_method_26_code
def yX10_range : MethodName := ⟨RX10, "range", "(IIZ)I"⟩
abbrev cX10_ways : ByteArray := prog_1_method_27_code
def yX10_ways : MethodName := ⟨RX10, "ways", "(I)I"⟩
abbrev cX10_flight : ByteArray := prog_1_method_28_code
def yX10_flight : MethodName := ⟨RX10, "flight", "(I)I"⟩
abbrev cX10_tick : ByteArray := prog_1_method_29_code
def yX10_tick : MethodName := ⟨RX10, "tick", "(II)I"⟩
abbrev cX10_risk : ByteArray := prog_1_method_30_code
def yX10_risk : MethodName := ⟨RX10, "risk", "(II)I"⟩
abbrev cX10_riskiest : ByteArray := prog_1_method_31_code
def yX10_riskiest : MethodName := ⟨RX10, "riskiest", "()I"⟩
abbrev cX10_arrives : ByteArray := prog_1_method_32_code
def yX10_arrives : MethodName := ⟨RX10, "arrives", "()I"⟩
abbrev cX10_flown : ByteArray := prog_1_method_33_code
def yX10_flown : MethodName := ⟨RX10, "flown", "(Z)I"⟩
abbrev cX10_bounds : ByteArray := prog_1_method_34_code
def yX10_bounds : MethodName := ⟨RX10, "bounds", "(III)I"⟩
abbrev cX10_load : ByteArray := prog_1_method_35_code
def yX10_load : MethodName := ⟨RX10, "load", "(II)I"⟩
abbrev cX10_adopt : ByteArray := prog_1_method_36_code
def yX10_adopt : MethodName := ⟨RX10, "adopt", "()I"⟩
abbrev cX10_payload : ByteArray := prog_1_method_37_code
def yX10_payload : MethodName := ⟨RX10, "payload", "(I)I"⟩
abbrev cX10_power : ByteArray := prog_1_method_38_code
def yX10_power : MethodName := ⟨RX10, "power", "(I)I"⟩
abbrev cX10_undo : ByteArray := prog_1_method_39_code
def yX10_undo : MethodName := ⟨RX10, "undo", "()Z"⟩
abbrev cX10_weak : ByteArray := prog_1_method_40_code
def yX10_weak : MethodName := ⟨RX10, "weak", "(I)I"⟩
abbrev cX10_size : ByteArray := prog_1_method_41_code
def yX10_size : MethodName := ⟨RX10, "size", "(I)I"⟩
abbrev cX10_trouble : ByteArray := prog_1_method_42_code
def yX10_trouble : MethodName := ⟨RX10, "trouble", "()I"⟩
abbrev cX10_refuse : ByteArray := prog_1_method_43_code
def yX10_refuse : MethodName := ⟨RX10, "refuse", "(I)I"⟩
abbrev cX10_answer : ByteArray := prog_1_method_44_code
def yX10_answer : MethodName := ⟨RX10, "answer", "(I)I"⟩
abbrev cX10_has : ByteArray := prog_1_method_45_code
def yX10_has : MethodName := ⟨RX10, "has", "(I)Z"⟩
abbrev cX10_isPower : ByteArray := prog_1_method_46_code
def yX10_isPower : MethodName := ⟨RX10, "isPower", "(I)Z"⟩
abbrev cX10_isFull : ByteArray := prog_1_method_47_code
def yX10_isFull : MethodName := ⟨RX10, "isFull", "(I)Z"⟩
abbrev cX10_layFirst : ByteArray := prog_1_method_48_code
def yX10_layFirst : MethodName := ⟨RX10, "layFirst", "()V"⟩
abbrev cX10_keep : ByteArray := prog_1_method_49_code
def yX10_keep : MethodName := ⟨RX10, "keep", "()V"⟩
abbrev cX10_change : ByteArray := prog_1_method_50_code
def yX10_change : MethodName := ⟨RX10, "change", "(II)I"⟩
abbrev cX10_layUnits : ByteArray := prog_1_method_51_code
def yX10_layUnits : MethodName := ⟨RX10, "layUnits", "()V"⟩
abbrev cX10_weighAsItIs : ByteArray := prog_1_method_52_code
def yX10_weighAsItIs : MethodName := ⟨RX10, "weighAsItIs", "()V"⟩
abbrev cX10_weighWithOneMore : ByteArray := prog_1_method_53_code
def yX10_weighWithOneMore : MethodName := ⟨RX10, "weighWithOneMore", "(I)V"⟩
abbrev cX10_powerAsItIs : ByteArray := prog_1_method_54_code
def yX10_powerAsItIs : MethodName := ⟨RX10, "powerAsItIs", "()I"⟩
abbrev cX10_flyAsItIs : ByteArray := prog_1_method_55_code
def yX10_flyAsItIs : MethodName := ⟨RX10, "flyAsItIs", "()V"⟩
abbrev cX10_powerFlown : ByteArray := prog_1_method_56_code
def yX10_powerFlown : MethodName := ⟨RX10, "powerFlown", "(LStageRatios$Flight;)I"⟩
abbrev cX10_powerAtRisk : ByteArray := prog_1_method_57_code
def yX10_powerAtRisk : MethodName := ⟨RX10, "powerAtRisk", "(II)I"⟩
abbrev cX10_weakest : ByteArray := prog_1_method_58_code
def yX10_weakest : MethodName := ⟨RX10, "weakest", "(I)I"⟩
abbrev cX10_at : ByteArray := prog_1_method_59_code
def yX10_at : MethodName := ⟨RX10, "at", "([II)I"⟩
abbrev cX10_put : ByteArray := prog_1_method_60_code
def yX10_put : MethodName := ⟨RX10, "put", "([III)V"⟩
def RX11 : String := "StageRatiosModel"
def TX11 : u_T := fun k => match k with
  | 0 => ("StageRatiosModel", "thrown", "I", false)
  | 1 => ("StageRatiosModel", "trouble", "I", false)
  | 2 => ("StageRatiosModel", "wrongAt", "I", false)
  | 3 => ("StageRatiosModel", "stage", "[I", true)
  | 4 => ("StageRatiosModel", "fail", "[I", true)
  | 5 => ("StageRatiosModel", "readStage", "[I", true)
  | 6 => ("StageRatiosModel", "readFail", "[I", true)
  | 7 => ("StageRatiosModel", "names", "[J", true)
  | 8 => ("StageRatiosModel", "upper", "I", false)
  | 9 => ("StageRatiosModel", "lower", "I", false)
  | 10 => ("StageRatiosModel", "pull", "I", false)
  | 11 => ("StageRatiosModel", "stages", "I", false)
  | 12 => ("StageRatiosModel", "fails", "I", false)
  | 13 => ("StageRatiosModel", "readUpper", "I", false)
  | 14 => ("StageRatiosModel", "readLower", "I", false)
  | 15 => ("StageRatiosModel", "readPull", "I", false)
  | 16 => ("StageRatiosModel", "readPower", "I", false)
  | 17 => ("StageRatiosModel", "readPayload", "I", false)
  | 18 => ("StageRatiosModel", "readStages", "I", false)
  | 19 => ("StageRatiosModel", "readFails", "I", false)
  | 20 => ("StageRatiosModel", "isThere", "Z", false)
  | 21 => ("StageRatiosModel", "x", "[I", true)
  | 22 => ("StageRatiosModel", "past", "[I", true)
  | 23 => ("StageRatiosModel", "acts", "I", false)
  | 24 => ("StageRatiosModel", "tape", "[B", true)
  | 25 => ("StageRatiosModel", "taped", "I", false)
  | 26 => ("StageRatiosModel", "size", "I", false)
  | 27 => ("StageRatiosModel", "spot", "I", false)
  | 28 => ("StageRatiosModel", "token", "I", false)
  | 29 => ("StageRatiosModel", "at", "I", false)
  | 30 => ("StageRatiosModel", "number", "I", false)
  | 31 => ("StageRatiosModel", "fault", "I", false)
  | 32 => ("StageRatiosModel", "word", "J", false)
  | 33 => ("StageRatiosModel", "div", "[I", true)
  | 34 => ("StageRatiosModel", "payloadNow", "I", false)
  | 35 => ("StageRatiosModel", "over", "[I", true)
  | 36 => ("StageRatiosModel", "under", "[I", true)
  | 37 => ("StageRatiosModel", "overMany", "I", false)
  | 38 => ("StageRatiosModel", "underMany", "I", false)
  | 39 => ("StageRatiosModel", "exponent", "[I", true)
  | 40 => ("StageRatiosModel", "from", "[I", true)
  | 41 => ("StageRatiosModel", "till", "[I", true)
  | 42 => ("StageRatiosModel", "bestDiv", "[I", true)
  | 43 => ("StageRatiosModel", "bestMass", "I", false)
  | 44 => ("StageRatiosModel", "waysOf", "I", false)
  | 45 => ("StageRatiosModel", "leastFuel", "I", false)
  | 46 => ("StageRatiosModel", "mostFuel", "I", false)
  | 47 => ("StageRatiosModel", "fastest", "[I", true)
  | 48 => ("StageRatiosModel", "frontMass", "[I", true)
  | 49 => ("StageRatiosModel", "ownDiv", "[I", true)
  | 50 => ("StageRatiosModel", "hasMass", "[Z", true)
  | 51 => ("StageRatiosModel", "frontMany", "I", false)
  | 52 => ("StageRatiosModel", "tickStage", "[I", true)
  | 53 => ("StageRatiosModel", "tickOwn", "[I", true)
  | 54 => ("StageRatiosModel", "tickAhead", "[I", true)
  | 55 => ("StageRatiosModel", "tickBehind", "[I", true)
  | 56 => ("StageRatiosModel", "tickRuns", "[I", true)
  | 57 => ("StageRatiosModel", "tickPush", "[I", true)
  | 58 => ("StageRatiosModel", "ticks", "I", false)
  | 59 => ("StageRatiosModel", "dropped", "I", false)
  | _ => ("StageRatiosModel", "failed", "I", false)
def tyX11 : Nat → FieldType := fun k => match k with
  | 0 => .int
  | 1 => .int
  | 2 => .int
  | 3 => .array .int
  | 4 => .array .int
  | 5 => .array .int
  | 6 => .array .int
  | 7 => .array .long
  | 8 => .int
  | 9 => .int
  | 10 => .int
  | 11 => .int
  | 12 => .int
  | 13 => .int
  | 14 => .int
  | 15 => .int
  | 16 => .int
  | 17 => .int
  | 18 => .int
  | 19 => .int
  | 20 => .boolean
  | 21 => .array .int
  | 22 => .array .int
  | 23 => .int
  | 24 => .array .byte
  | 25 => .int
  | 26 => .int
  | 27 => .int
  | 28 => .int
  | 29 => .int
  | 30 => .int
  | 31 => .int
  | 32 => .long
  | 33 => .array .int
  | 34 => .int
  | 35 => .array .int
  | 36 => .array .int
  | 37 => .int
  | 38 => .int
  | 39 => .array .int
  | 40 => .array .int
  | 41 => .array .int
  | 42 => .array .int
  | 43 => .int
  | 44 => .int
  | 45 => .int
  | 46 => .int
  | 47 => .array .int
  | 48 => .array .int
  | 49 => .array .int
  | 50 => .array .boolean
  | 51 => .int
  | 52 => .array .int
  | 53 => .array .int
  | 54 => .array .int
  | 55 => .array .int
  | 56 => .array .int
  | 57 => .array .int
  | 58 => .int
  | 59 => .int
  | _ => .int
abbrev wsX110 : List Cond := u_ws RX11 TX11 61
theorem nmX11 : ∀ a, a < 61 → ∀ b, b < 61 → a ≠ b → (TX11 a).2.1 ≠ (TX11 b).2.1 := by decide +kernel
theorem tyX11_ok : ∀ k, k < 61 → parseFieldDescriptor (TX11 k).2.2.1 = some (tyX11 k) := by decide +kernel
abbrev cX11_init : ByteArray := prog_13_method_1_code
def yX11_init : MethodName := ⟨RX11, "<init>", "()V"⟩
abbrev cX11_thrown : ByteArray := prog_13_method_2_code
def yX11_thrown : MethodName := ⟨RX11, "thrown", "()I"⟩
abbrev cX11_refused : ByteArray := prog_13_method_3_code
def yX11_refused : MethodName := ⟨RX11, "refused", "(I)I"⟩
abbrev cX11_good : ByteArray := prog_13_method_4_code
def yX11_good : MethodName := ⟨RX11, "good", "(I)I"⟩
abbrev cX11_in : ByteArray := prog_13_method_5_code
def yX11_in : MethodName := ⟨RX11, "in", "(III)Z"⟩
abbrev cX11_byteAt : ByteArray := prog_13_method_6_code
def yX11_byteAt : MethodName := ⟨RX11, "byteAt", "(I)I"⟩
abbrev cX11_next : ByteArray := prog_13_method_7_code
def yX11_next : MethodName := ⟨RX11, "next", "()V"⟩
abbrev cX11_nextWord : ByteArray := prog_13_method_8_code
def yX11_nextWord : MethodName := ⟨RX11, "nextWord", "()V"⟩
abbrev cX11_nextWhole : ByteArray := prog_13_method_9_code
def yX11_nextWhole : MethodName := ⟨RX11, "nextWhole", "()V"⟩
abbrev cX11_flaw : ByteArray := prog_13_method_10_code
def yX11_flaw : MethodName := ⟨RX11, "flaw", "(I)V"⟩
abbrev cX11_isWord : ByteArray := prog_13_method_11_code
def yX11_isWord : MethodName := ⟨RX11, "isWord", "(Ljava/lang/String;)Z"⟩
abbrev cX11_readWhole : ByteArray := prog_13_method_12_code
def yX11_readWhole : MethodName := ⟨RX11, "readWhole", "(II)I"⟩
abbrev cX11_readPart : ByteArray := prog_13_method_13_code
def yX11_readPart : MethodName := ⟨RX11, "readPart", "(Ljava/lang/String;II)I"⟩
abbrev cX11_isName : ByteArray := prog_13_method_14_code
def yX11_isName : MethodName := ⟨RX11, "isName", "()Z"⟩
abbrev cX11_stageHere : ByteArray := prog_13_method_15_code
def yX11_stageHere : MethodName := ⟨RX11, "stageHere", "()I"⟩
abbrev cX11_readAll : ByteArray := prog_13_method_16_code
def yX11_readAll : MethodName := ⟨RX11, "readAll", "()V"⟩
abbrev cX11_readLine : ByteArray := prog_13_method_17_code
def yX11_readLine : MethodName := ⟨RX11, "readLine", "()V"⟩
abbrev cX11_readRocket : ByteArray := prog_13_method_18_code
def yX11_readRocket : MethodName := ⟨RX11, "readRocket", "()V"⟩
abbrev cX11_begins : ByteArray := prog_13_method_19_code
def yX11_begins : MethodName := ⟨RX11, "begins", "(Z)V"⟩
abbrev cX11_readKind : ByteArray := prog_13_method_20_code
def yX11_readKind : MethodName := ⟨RX11, "readKind", "()I"⟩
abbrev cX11_readStageLine : ByteArray := prog_13_method_21_code
def yX11_readStageLine : MethodName := ⟨RX11, "readStageLine", "()V"⟩
abbrev cX11_latestFail : ByteArray := prog_13_method_22_code
def yX11_latestFail : MethodName := ⟨RX11, "latestFail", "(I)I"⟩
abbrev cX11_readFailLine : ByteArray := prog_13_method_23_code
def yX11_readFailLine : MethodName := ⟨RX11, "readFailLine", "()V"⟩
abbrev cX11_feed : ByteArray := prog_13_method_24_code
def yX11_feed : MethodName := ⟨RX11, "feed", "(IIIII)I"⟩
abbrev cX11_rocket : ByteArray := prog_13_method_25_code
def yX11_rocket : MethodName := ⟨RX11, "rocket", "(I)I"⟩
abbrev cX11_fault : ByteArray := prog_13_method_26_code
def yX11_fault : MethodName := ⟨RX11, "fault", "()I"⟩
abbrev cX11_where : ByteArray := prog_13_method_27_code
def yX11_where : MethodName := ⟨RX11, "where", "()I"⟩
abbrev cX11_about : ByteArray := prog_13_method_28_code
def yX11_about : MethodName := ⟨RX11, "about", "(I)I"⟩
abbrev cX11_isStage : ByteArray := prog_13_method_29_code
def yX11_isStage : MethodName := ⟨RX11, "isStage", "(I)Z"⟩
abbrev cX11_told : ByteArray := prog_13_method_30_code
def yX11_told : MethodName := ⟨RX11, "told", "(II)I"⟩
abbrev cX11_shell : ByteArray := prog_13_method_31_code
def yX11_shell : MethodName := ⟨RX11, "shell", "(II)I"⟩
abbrev cX11_start : ByteArray := prog_13_method_32_code
def yX11_start : MethodName := ⟨RX11, "start", "(I)I"⟩
abbrev cX11_marginOf : ByteArray := prog_13_method_33_code
def yX11_marginOf : MethodName := ⟨RX11, "marginOf", "(II)I"⟩
abbrev cX11_stageHolds : ByteArray := prog_13_method_34_code
def yX11_stageHolds : MethodName := ⟨RX11, "stageHolds", "(I)Z"⟩
abbrev cX11_allHold : ByteArray := prog_13_method_35_code
def yX11_allHold : MethodName := ⟨RX11, "allHold", "()Z"⟩
abbrev cX11_laysOwn : ByteArray := prog_13_method_36_code
def yX11_laysOwn : MethodName := ⟨RX11, "laysOwn", "()V"⟩
abbrev cX11_stage : ByteArray := prog_13_method_37_code
def yX11_stage : MethodName := ⟨RX11, "stage", "(II)I"⟩
abbrev cX11_part : ByteArray := prog_13_method_38_code
def yX11_part : MethodName := ⟨RX11, "part", "(II)I"⟩
abbrev cX11_margin : ByteArray := prog_13_method_39_code
def yX11_margin : MethodName := ⟨RX11, "margin", "(II)I"⟩
abbrev cX11_spare : ByteArray := prog_13_method_40_code
def yX11_spare : MethodName := ⟨RX11, "spare", "(I)I"⟩
abbrev cX11_mass : ByteArray := prog_13_method_41_code
def yX11_mass : MethodName := ⟨RX11, "mass", "()I"⟩
abbrev cX11_one : ByteArray := prog_13_method_42_code
def yX11_one : MethodName := ⟨RX11, "one", "()V"⟩
abbrev cX11_timesOver : ByteArray := prog_13_method_43_code
def yX11_timesOver : MethodName := ⟨RX11, "timesOver", "(I)V"⟩
abbrev cX11_timesUnder : ByteArray := prog_13_method_44_code
def yX11_timesUnder : MethodName := ⟨RX11, "timesUnder", "(I)V"⟩
abbrev cX11_compares : ByteArray := prog_13_method_45_code
def yX11_compares : MethodName := ⟨RX11, "compares", "()I"⟩
abbrev cX11_times : ByteArray := prog_13_method_46_code
def yX11_times : MethodName := ⟨RX11, "times", "(III)V"⟩
abbrev cX11_laysSpeed : ByteArray := prog_13_method_47_code
def yX11_laysSpeed : MethodName := ⟨RX11, "laysSpeed", "()V"⟩
abbrev cX11_reachesBy : ByteArray := prog_13_method_48_code
def yX11_reachesBy : MethodName := ⟨RX11, "reachesBy", "(I)Z"⟩
abbrev cX11_greatestBy : ByteArray := prog_13_method_49_code
def yX11_greatestBy : MethodName := ⟨RX11, "greatestBy", "()I"⟩
abbrev cX11_divReaches : ByteArray := prog_13_method_50_code
def yX11_divReaches : MethodName := ⟨RX11, "divReaches", "(I)Z"⟩
abbrev cX11_refusesPower : ByteArray := prog_13_method_51_code
def yX11_refusesPower : MethodName := ⟨RX11, "refusesPower", "(ZI)I"⟩
abbrev cX11_reaches : ByteArray := prog_13_method_52_code
def yX11_reaches : MethodName := ⟨RX11, "reaches", "(I)I"⟩
abbrev cX11_greatest : ByteArray := prog_13_method_53_code
def yX11_greatest : MethodName := ⟨RX11, "greatest", "()I"⟩
abbrev cX11_holds : ByteArray := prog_13_method_54_code
def yX11_holds : MethodName := ⟨RX11, "holds", "()I"⟩
abbrev cX11_factors : ByteArray := prog_13_method_55_code
def yX11_factors : MethodName := ⟨RX11, "factors", "(II)V"⟩
abbrev cX11_ratio : ByteArray := prog_13_method_56_code
def yX11_ratio : MethodName := ⟨RX11, "ratio", "(III)V"⟩
abbrev cX11_lowest : ByteArray := prog_13_method_57_code
def yX11_lowest : MethodName := ⟨RX11, "lowest", "(Z)I"⟩
abbrev cX11_noFactors : ByteArray := prog_13_method_58_code
def yX11_noFactors : MethodName := ⟨RX11, "noFactors", "()V"⟩
abbrev cX11_speed : ByteArray := prog_13_method_59_code
def yX11_speed : MethodName := ⟨RX11, "speed", "(Z)I"⟩
abbrev cX11_richer : ByteArray := prog_13_method_60_code
def yX11_richer : MethodName := ⟨RX11, "richer", "(II)I"⟩
abbrev cX11_laysBox : ByteArray := prog_13_method_61_code
def yX11_laysBox : MethodName := ⟨RX11, "laysBox", "()V"⟩
abbrev cX11_goesOn : ByteArray := prog_13_method_62_code
def yX11_goesOn : MethodName := ⟨RX11, "goesOn", "()Z"⟩
abbrev cX11_laysBest : ByteArray := prog_13_method_63_code
def yX11_laysBest : MethodName := ⟨RX11, "laysBest", "(I)V"⟩
abbrev cX11_least : ByteArray := prog_13_method_64_code
def yX11_least : MethodName := ⟨RX11, "least", "(I)I"⟩
abbrev cX11_fuel : ByteArray := prog_13_method_65_code
def yX11_fuel : MethodName := ⟨RX11, "fuel", "(II)I"⟩
abbrev cX11_farthest : ByteArray := prog_13_method_66_code
def yX11_farthest : MethodName := ⟨RX11, "farthest", "()I"⟩
abbrev cX11_isAny : ByteArray := prog_13_method_67_code
def yX11_isAny : MethodName := ⟨RX11, "isAny", "()Z"⟩
abbrev cX11_lifts : ByteArray := prog_13_method_68_code
def yX11_lifts : MethodName := ⟨RX11, "lifts", "()I"⟩
abbrev cX11_needs : ByteArray := prog_13_method_69_code
def yX11_needs : MethodName := ⟨RX11, "needs", "(I)I"⟩
abbrev cX11_laysWays : ByteArray := prog_13_method_70_code
def yX11_laysWays : MethodName := ⟨RX11, "laysWays", "(II)V"⟩
abbrev cX11_ways : ByteArray := prog_13_method_71_code
def yX11_ways : MethodName := ⟨RX11, "ways", "(I)I"⟩
abbrev cX11_range : ByteArray := prog_13_method_72_code
def yX11_range : MethodName := ⟨RX11, "range", "(IIZ)I"⟩
abbrev cX11_takes : ByteArray := prog_13_method_73_code
def yX11_takes : MethodName := ⟨RX11, "takes", "([II)V"⟩
abbrev cX11_puts : ByteArray := prog_13_method_74_code
def yX11_puts : MethodName := ⟨RX11, "puts", "([II)V"⟩
abbrev cX11_comparesSpeeds : ByteArray := prog_13_method_75_code
def yX11_comparesSpeeds : MethodName := ⟨RX11, "comparesSpeeds", "([II[II)I"⟩
abbrev cX11_laysFront : ByteArray := prog_13_method_76_code
def yX11_laysFront : MethodName := ⟨RX11, "laysFront", "()V"⟩
abbrev cX11_fronts : ByteArray := prog_13_method_77_code
def yX11_fronts : MethodName := ⟨RX11, "fronts", "()I"⟩
abbrev cX11_front : ByteArray := prog_13_method_78_code
def yX11_front : MethodName := ⟨RX11, "front", "(II)I"⟩
abbrev cX11_beaten : ByteArray := prog_13_method_79_code
def yX11_beaten : MethodName := ⟨RX11, "beaten", "()I"⟩
abbrev cX11_box : ByteArray := prog_13_method_80_code
def yX11_box : MethodName := ⟨RX11, "box", "(IZ)I"⟩
abbrev cX11_failsIn : ByteArray := prog_13_method_81_code
def yX11_failsIn : MethodName := ⟨RX11, "failsIn", "(IIII)I"⟩
abbrev cX11_flies : ByteArray := prog_13_method_82_code
def yX11_flies : MethodName := ⟨RX11, "flies", "(II)V"⟩
abbrev cX11_laysFlown : ByteArray := prog_13_method_83_code
def yX11_laysFlown : MethodName := ⟨RX11, "laysFlown", "()V"⟩
abbrev cX11_leastPushAt : ByteArray := prog_13_method_84_code
def yX11_leastPushAt : MethodName := ⟨RX11, "leastPushAt", "()I"⟩
abbrev cX11_flight : ByteArray := prog_13_method_85_code
def yX11_flight : MethodName := ⟨RX11, "flight", "(I)I"⟩
abbrev cX11_tick : ByteArray := prog_13_method_86_code
def yX11_tick : MethodName := ⟨RX11, "tick", "(II)I"⟩
abbrev cX11_arrives : ByteArray := prog_13_method_87_code
def yX11_arrives : MethodName := ⟨RX11, "arrives", "()I"⟩
abbrev cX11_flown : ByteArray := prog_13_method_88_code
def yX11_flown : MethodName := ⟨RX11, "flown", "(Z)I"⟩
abbrev cX11_riskOf : ByteArray := prog_13_method_89_code
def yX11_riskOf : MethodName := ⟨RX11, "riskOf", "(II)I"⟩
abbrev cX11_risk : ByteArray := prog_13_method_90_code
def yX11_risk : MethodName := ⟨RX11, "risk", "(II)I"⟩
abbrev cX11_riskiest : ByteArray := prog_13_method_91_code
def yX11_riskiest : MethodName := ⟨RX11, "riskiest", "()I"⟩
abbrev cX11_remembers : ByteArray := prog_13_method_92_code
def yX11_remembers : MethodName := ⟨RX11, "remembers", "()V"⟩
abbrev cX11_load : ByteArray := prog_13_method_93_code
def yX11_load : MethodName := ⟨RX11, "load", "(II)I"⟩
abbrev cX11_bounds : ByteArray := prog_13_method_94_code
def yX11_bounds : MethodName := ⟨RX11, "bounds", "(III)I"⟩
abbrev cX11_adopt : ByteArray := prog_13_method_95_code
def yX11_adopt : MethodName := ⟨RX11, "adopt", "()I"⟩
abbrev cX11_payload : ByteArray := prog_13_method_96_code
def yX11_payload : MethodName := ⟨RX11, "payload", "(I)I"⟩
abbrev cX11_power : ByteArray := prog_13_method_97_code
def yX11_power : MethodName := ⟨RX11, "power", "(I)I"⟩
abbrev cX11_undo : ByteArray := prog_13_method_98_code
def yX11_undo : MethodName := ⟨RX11, "undo", "()Z"⟩
abbrev cX11_weak : ByteArray := prog_13_method_99_code
def yX11_weak : MethodName := ⟨RX11, "weak", "(I)I"⟩
abbrev cX11_size : ByteArray := prog_13_method_100_code
def yX11_size : MethodName := ⟨RX11, "size", "(I)I"⟩
abbrev cX11_trouble : ByteArray := prog_13_method_101_code
def yX11_trouble : MethodName := ⟨RX11, "trouble", "()I"⟩
def RJ9 : String := "java/lang/Math"
abbrev cJ9_abs_0f7a4 : ByteArray := prog_18_method_59_code
def yJ9_abs_0f7a4 : MethodName := ⟨RJ9, "abs", "(I)I"⟩
abbrev cJ9_max_7cf53 : ByteArray := prog_18_method_65_code
def yJ9_max_7cf53 : MethodName := ⟨RJ9, "max", "(II)I"⟩
abbrev cJ9_min_7cf53 : ByteArray := prog_18_method_69_code
def yJ9_min_7cf53 : MethodName := ⟨RJ9, "min", "(II)I"⟩
def RJ0 : String := "java/lang/String"
abbrev cJ0_length_8abf5 : ByteArray := prog_20_method_54_code
def yJ0_length_8abf5 : MethodName := ⟨RJ0, "length", "()I"⟩
abbrev cJ0_charAt_5068e : ByteArray := prog_20_method_56_code
def yJ0_charAt_5068e : MethodName := ⟨RJ0, "charAt", "(I)C"⟩
abbrev cJ0_coder_7d493 : ByteArray := prog_20_method_152_code
def yJ0_coder_7d493 : MethodName := ⟨RJ0, "coder", "()B"⟩
abbrev cJ0_isLatin1_aae02 : ByteArray := prog_20_method_154_code
def yJ0_isLatin1_aae02 : MethodName := ⟨RJ0, "isLatin1", "()Z"⟩
abbrev cJ0_checkIndex_df160 : ByteArray := prog_20_method_155_code
def yJ0_checkIndex_df160 : MethodName := ⟨RJ0, "checkIndex", "(II)V"⟩
def RJ1 : String := "java/lang/StringLatin1"
abbrev cJ1_charAt_3b067 : ByteArray := prog_21_method_2_code
def yJ1_charAt_3b067 : MethodName := ⟨RJ1, "charAt", "([BI)C"⟩
def RJ2 : String := "java/lang/StringUTF16"
abbrev cJ2_getChar_3b067 : ByteArray := prog_22_method_5_code
def yJ2_getChar_3b067 : MethodName := ⟨RJ2, "getChar", "([BI)C"⟩
abbrev cJ2_length_9d52b : ByteArray := prog_22_method_6_code
def yJ2_length_9d52b : MethodName := ⟨RJ2, "length", "([B)I"⟩
abbrev cJ2_charAt_3b067 : ByteArray := prog_22_method_83_code
def yJ2_charAt_3b067 : MethodName := ⟨RJ2, "charAt", "([BI)C"⟩
abbrev cJ2_checkIndex_2214a : ByteArray := prog_22_method_91_code
def yJ2_checkIndex_2214a : MethodName := ⟨RJ2, "checkIndex", "(I[B)V"⟩
def RJ3 : String := "jdk/internal/util/Preconditions"
abbrev cJ3_checkIndex_8e157 : ByteArray := prog_27_method_11_code
def yJ3_checkIndex_8e157 : MethodName := ⟨RJ3, "checkIndex", "(IILjava/util/function/BiFunction;)I"⟩
def RL : String := "StageRatiosLaw"
abbrev cL_weak : ByteArray := method_3_code
def yL_weak : MethodName := ⟨RL, "weak", "(LStageRatios;I[J)I"⟩
abbrev cL_law : ByteArray := code
def yL_law : MethodName := ⟨RL, "law", "([I)Z"⟩
