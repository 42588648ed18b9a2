section
-- ===== PART A: goes FIRST, ahead of the names: the tables' words, and 'selects' of the private methods out of them =====
/-- a private method of a class that the tables say can be made, by its rows of tables_1 -/
def lw_okq (q : MethodName × Nat) : Prop := (q.1.cls ≠ "java/lang/invoke/MethodHandle" ∧ q.1.cls ≠ "java/lang/invoke/VarHandle") ∧ Cond.instantiable q.1.cls q.2 ∈ tables_1 ∧ Cond.privateMethod q.1 ∈ tables_1 ∧ Cond.instanceMethod q.1 ∈ tables_1
theorem lw_p0 : lw_okq (⟨"QueueBlame$Replayer", "admits", "(II)Z"⟩, 9) := ⟨⟨by decide +kernel, by decide +kernel⟩, List.mem_of_getElem? (i := 95) (by decide +kernel), List.mem_of_getElem? (i := 308) (by decide +kernel), List.mem_of_getElem? (i := 309) (by decide +kernel)⟩
theorem lw_p1 : lw_okq (⟨"QueueBlame$Replayer", "holds", "(I)Z"⟩, 9) := ⟨⟨by decide +kernel, by decide +kernel⟩, List.mem_of_getElem? (i := 95) (by decide +kernel), List.mem_of_getElem? (i := 312) (by decide +kernel), List.mem_of_getElem? (i := 313) (by decide +kernel)⟩
theorem lw_p2 : lw_okq (⟨"QueueBlame$Replayer", "makesRoomAtHead", "(I)Z"⟩, 9) := ⟨⟨by decide +kernel, by decide +kernel⟩, List.mem_of_getElem? (i := 95) (by decide +kernel), List.mem_of_getElem? (i := 319) (by decide +kernel), List.mem_of_getElem? (i := 320) (by decide +kernel)⟩
theorem lw_p3 : lw_okq (⟨"QueueBlame$Replayer", "makesRoomInLongestFlow", "(II)Z"⟩, 9) := ⟨⟨by decide +kernel, by decide +kernel⟩, List.mem_of_getElem? (i := 95) (by decide +kernel), List.mem_of_getElem? (i := 338) (by decide +kernel), List.mem_of_getElem? (i := 339) (by decide +kernel)⟩
theorem lw_p4 : lw_okq (⟨"QueueBlame$Replayer", "longestFlow", "(II)I"⟩, 9) := ⟨⟨by decide +kernel, by decide +kernel⟩, List.mem_of_getElem? (i := 95) (by decide +kernel), List.mem_of_getElem? (i := 342) (by decide +kernel), List.mem_of_getElem? (i := 343) (by decide +kernel)⟩
theorem lw_p5 : lw_okq (⟨"QueueBlame$Replayer", "lastNotBegunOf", "(I)I"⟩, 9) := ⟨⟨by decide +kernel, by decide +kernel⟩, List.mem_of_getElem? (i := 95) (by decide +kernel), List.mem_of_getElem? (i := 346) (by decide +kernel), List.mem_of_getElem? (i := 347) (by decide +kernel)⟩
theorem lw_p6 : lw_okq (⟨"QueueBlame$Replayer", "bytesForThreshold", "(II)I"⟩, 9) := ⟨⟨by decide +kernel, by decide +kernel⟩, List.mem_of_getElem? (i := 95) (by decide +kernel), List.mem_of_getElem? (i := 350) (by decide +kernel), List.mem_of_getElem? (i := 351) (by decide +kernel)⟩
theorem lw_p7 : lw_okq (⟨"QueueBlame$Replayer", "isDroppedEarly", "()Z"⟩, 9) := ⟨⟨by decide +kernel, by decide +kernel⟩, List.mem_of_getElem? (i := 95) (by decide +kernel), List.mem_of_getElem? (i := 357) (by decide +kernel), List.mem_of_getElem? (i := 358) (by decide +kernel)⟩
theorem lw_p8 : lw_okq (⟨"QueueBlame$Replayer", "isLastOfItsTick", "(I)Z"⟩, 9) := ⟨⟨by decide +kernel, by decide +kernel⟩, List.mem_of_getElem? (i := 95) (by decide +kernel), List.mem_of_getElem? (i := 365) (by decide +kernel), List.mem_of_getElem? (i := 366) (by decide +kernel)⟩
theorem lw_p9 : lw_okq (⟨"QueueBlame$Replayer", "serveBehind", "(I)V"⟩, 9) := ⟨⟨by decide +kernel, by decide +kernel⟩, List.mem_of_getElem? (i := 95) (by decide +kernel), List.mem_of_getElem? (i := 369) (by decide +kernel), List.mem_of_getElem? (i := 370) (by decide +kernel)⟩
theorem lw_p10 : lw_okq (⟨"QueueBlame$Replayer", "bytesUntilNext", "(I)I"⟩, 9) := ⟨⟨by decide +kernel, by decide +kernel⟩, List.mem_of_getElem? (i := 95) (by decide +kernel), List.mem_of_getElem? (i := 373) (by decide +kernel), List.mem_of_getElem? (i := 374) (by decide +kernel)⟩
theorem lw_p11 : lw_okq (⟨"QueueBlame$Replayer", "chosenPosition", "()I"⟩, 9) := ⟨⟨by decide +kernel, by decide +kernel⟩, List.mem_of_getElem? (i := 95) (by decide +kernel), List.mem_of_getElem? (i := 382) (by decide +kernel), List.mem_of_getElem? (i := 383) (by decide +kernel)⟩
theorem lw_p12 : lw_okq (⟨"QueueBlame$Replayer", "turnOf", "(I)I"⟩, 9) := ⟨⟨by decide +kernel, by decide +kernel⟩, List.mem_of_getElem? (i := 95) (by decide +kernel), List.mem_of_getElem? (i := 390) (by decide +kernel), List.mem_of_getElem? (i := 391) (by decide +kernel)⟩
theorem lw_p13 : lw_okq (⟨"QueueBlame$Replayer", "measureOf", "(I)I"⟩, 9) := ⟨⟨by decide +kernel, by decide +kernel⟩, List.mem_of_getElem? (i := 95) (by decide +kernel), List.mem_of_getElem? (i := 403) (by decide +kernel), List.mem_of_getElem? (i := 404) (by decide +kernel)⟩
theorem lw_p14 : lw_okq (⟨"QueueBlame$Script", "endOf", "(II)I"⟩, 5) := ⟨⟨by decide +kernel, by decide +kernel⟩, List.mem_of_getElem? (i := 194) (by decide +kernel), List.mem_of_getElem? (i := 423) (by decide +kernel), List.mem_of_getElem? (i := 424) (by decide +kernel)⟩
theorem lw_p15 : lw_okq (⟨"QueueBlame$Script", "commandAt", "(II)LQueueBlame$Command;"⟩, 5) := ⟨⟨by decide +kernel, by decide +kernel⟩, List.mem_of_getElem? (i := 194) (by decide +kernel), List.mem_of_getElem? (i := 427) (by decide +kernel), List.mem_of_getElem? (i := 428) (by decide +kernel)⟩
def lw_privs_1 : List (MethodName × Nat) := [(⟨"QueueBlame$Replayer", "admits", "(II)Z"⟩, 9), (⟨"QueueBlame$Replayer", "holds", "(I)Z"⟩, 9), (⟨"QueueBlame$Replayer", "makesRoomAtHead", "(I)Z"⟩, 9), (⟨"QueueBlame$Replayer", "makesRoomInLongestFlow", "(II)Z"⟩, 9), (⟨"QueueBlame$Replayer", "longestFlow", "(II)I"⟩, 9), (⟨"QueueBlame$Replayer", "lastNotBegunOf", "(I)I"⟩, 9), (⟨"QueueBlame$Replayer", "bytesForThreshold", "(II)I"⟩, 9), (⟨"QueueBlame$Replayer", "isDroppedEarly", "()Z"⟩, 9), (⟨"QueueBlame$Replayer", "isLastOfItsTick", "(I)Z"⟩, 9), (⟨"QueueBlame$Replayer", "serveBehind", "(I)V"⟩, 9), (⟨"QueueBlame$Replayer", "bytesUntilNext", "(I)I"⟩, 9), (⟨"QueueBlame$Replayer", "chosenPosition", "()I"⟩, 9), (⟨"QueueBlame$Replayer", "turnOf", "(I)I"⟩, 9), (⟨"QueueBlame$Replayer", "measureOf", "(I)I"⟩, 9), (⟨"QueueBlame$Script", "endOf", "(II)I"⟩, 5), (⟨"QueueBlame$Script", "commandAt", "(II)LQueueBlame$Command;"⟩, 5)]
theorem lw_r1 : ∀ q ∈ lw_privs_1, lw_okq q := List.forall_mem_cons.mpr ⟨lw_p0, List.forall_mem_cons.mpr ⟨lw_p1, List.forall_mem_cons.mpr ⟨lw_p2, List.forall_mem_cons.mpr ⟨lw_p3, List.forall_mem_cons.mpr ⟨lw_p4, List.forall_mem_cons.mpr ⟨lw_p5, List.forall_mem_cons.mpr ⟨lw_p6, List.forall_mem_cons.mpr ⟨lw_p7, List.forall_mem_cons.mpr ⟨lw_p8, List.forall_mem_cons.mpr ⟨lw_p9, List.forall_mem_cons.mpr ⟨lw_p10, List.forall_mem_cons.mpr ⟨lw_p11, List.forall_mem_cons.mpr ⟨lw_p12, List.forall_mem_cons.mpr ⟨lw_p13, List.forall_mem_cons.mpr ⟨lw_p14, List.forall_mem_cons.mpr ⟨lw_p15, fun _ h => absurd h List.not_mem_nil⟩⟩⟩⟩⟩⟩⟩⟩⟩⟩⟩⟩⟩⟩⟩⟩
theorem lw_p16 : lw_okq (⟨"QueueBlame$Script", "isWordAt", "(Ljava/lang/String;II)Z"⟩, 5) := ⟨⟨by decide +kernel, by decide +kernel⟩, List.mem_of_getElem? (i := 194) (by decide +kernel), List.mem_of_getElem? (i := 433) (by decide +kernel), List.mem_of_getElem? (i := 434) (by decide +kernel)⟩
theorem lw_p17 : lw_okq (⟨"QueueBlame$Script", "numberAt", "(II)I"⟩, 5) := ⟨⟨by decide +kernel, by decide +kernel⟩, List.mem_of_getElem? (i := 194) (by decide +kernel), List.mem_of_getElem? (i := 485) (by decide +kernel), List.mem_of_getElem? (i := 486) (by decide +kernel)⟩
theorem lw_p18 : lw_okq (⟨"QueueBlame", "fillWorths", "(I)V"⟩, 8) := ⟨⟨by decide +kernel, by decide +kernel⟩, List.mem_of_getElem? (i := 25) (by decide +kernel), List.mem_of_getElem? (i := 494) (by decide +kernel), List.mem_of_getElem? (i := 495) (by decide +kernel)⟩
theorem lw_p19 : lw_okq (⟨"QueueBlame", "worthOf", "(II)I"⟩, 8) := ⟨⟨by decide +kernel, by decide +kernel⟩, List.mem_of_getElem? (i := 25) (by decide +kernel), List.mem_of_getElem? (i := 502) (by decide +kernel), List.mem_of_getElem? (i := 503) (by decide +kernel)⟩
theorem lw_p20 : lw_okq (⟨"java/lang/Throwable", "fillInStackTrace", "(I)Ljava/lang/Throwable;"⟩, 6) := ⟨⟨by decide +kernel, by decide +kernel⟩, List.mem_of_getElem? (i := 562) (by decide +kernel), List.mem_of_getElem? (i := 560) (by decide +kernel), List.mem_of_getElem? (i := 561) (by decide +kernel)⟩
theorem lw_p21 : lw_okq (⟨"QueueBlame$Recording", "shift", "(II)V"⟩, 5) := ⟨⟨by decide +kernel, by decide +kernel⟩, List.mem_of_getElem? (i := 33) (by decide +kernel), List.mem_of_getElem? (i := 646) (by decide +kernel), List.mem_of_getElem? (i := 647) (by decide +kernel)⟩
theorem lw_p22 : lw_okq (⟨"QueueBlame", "requirePacket", "(I)V"⟩, 8) := ⟨⟨by decide +kernel, by decide +kernel⟩, List.mem_of_getElem? (i := 25) (by decide +kernel), List.mem_of_getElem? (i := 657) (by decide +kernel), List.mem_of_getElem? (i := 658) (by decide +kernel)⟩
theorem lw_p23 : lw_okq (⟨"QueueBlame", "change", "(II)I"⟩, 8) := ⟨⟨by decide +kernel, by decide +kernel⟩, List.mem_of_getElem? (i := 25) (by decide +kernel), List.mem_of_getElem? (i := 681) (by decide +kernel), List.mem_of_getElem? (i := 682) (by decide +kernel)⟩
theorem lw_p24 : lw_okq (⟨"QueueBlame", "sumOverOrders", "(I)I"⟩, 8) := ⟨⟨by decide +kernel, by decide +kernel⟩, List.mem_of_getElem? (i := 25) (by decide +kernel), List.mem_of_getElem? (i := 794) (by decide +kernel), List.mem_of_getElem? (i := 795) (by decide +kernel)⟩
theorem lw_p25 : lw_okq (⟨"QueueBlame", "contributionTo", "(II)I"⟩, 8) := ⟨⟨by decide +kernel, by decide +kernel⟩, List.mem_of_getElem? (i := 25) (by decide +kernel), List.mem_of_getElem? (i := 806) (by decide +kernel), List.mem_of_getElem? (i := 807) (by decide +kernel)⟩
theorem lw_p26 : lw_okq (⟨"QueueBlame", "sumOverSets", "(I)I"⟩, 8) := ⟨⟨by decide +kernel, by decide +kernel⟩, List.mem_of_getElem? (i := 25) (by decide +kernel), List.mem_of_getElem? (i := 834) (by decide +kernel), List.mem_of_getElem? (i := 835) (by decide +kernel)⟩
theorem lw_p27 : lw_okq (⟨"QueueBlame", "sumOfInteractions", "(II)I"⟩, 8) := ⟨⟨by decide +kernel, by decide +kernel⟩, List.mem_of_getElem? (i := 25) (by decide +kernel), List.mem_of_getElem? (i := 846) (by decide +kernel), List.mem_of_getElem? (i := 847) (by decide +kernel)⟩
theorem lw_p28 : lw_okq (⟨"QueueBlame", "rankByBlames", "(I)I"⟩, 8) := ⟨⟨by decide +kernel, by decide +kernel⟩, List.mem_of_getElem? (i := 25) (by decide +kernel), List.mem_of_getElem? (i := 857) (by decide +kernel), List.mem_of_getElem? (i := 858) (by decide +kernel)⟩
theorem lw_p29 : lw_okq (⟨"QueueBlame", "drawOrder", "(J)J"⟩, 8) := ⟨⟨by decide +kernel, by decide +kernel⟩, List.mem_of_getElem? (i := 25) (by decide +kernel), List.mem_of_getElem? (i := 869) (by decide +kernel), List.mem_of_getElem? (i := 870) (by decide +kernel)⟩
theorem lw_p30 : lw_okq (⟨"QueueBlame", "flowsBefore", "(I)I"⟩, 8) := ⟨⟨by decide +kernel, by decide +kernel⟩, List.mem_of_getElem? (i := 25) (by decide +kernel), List.mem_of_getElem? (i := 876) (by decide +kernel), List.mem_of_getElem? (i := 877) (by decide +kernel)⟩
theorem lw_p31 : lw_okq (⟨"QueueBlame", "smallestCause", "(I)I"⟩, 8) := ⟨⟨by decide +kernel, by decide +kernel⟩, List.mem_of_getElem? (i := 25) (by decide +kernel), List.mem_of_getElem? (i := 887) (by decide +kernel), List.mem_of_getElem? (i := 888) (by decide +kernel)⟩
def lw_privs_2 : List (MethodName × Nat) := [(⟨"QueueBlame$Script", "isWordAt", "(Ljava/lang/String;II)Z"⟩, 5), (⟨"QueueBlame$Script", "numberAt", "(II)I"⟩, 5), (⟨"QueueBlame", "fillWorths", "(I)V"⟩, 8), (⟨"QueueBlame", "worthOf", "(II)I"⟩, 8), (⟨"java/lang/Throwable", "fillInStackTrace", "(I)Ljava/lang/Throwable;"⟩, 6), (⟨"QueueBlame$Recording", "shift", "(II)V"⟩, 5), (⟨"QueueBlame", "requirePacket", "(I)V"⟩, 8), (⟨"QueueBlame", "change", "(II)I"⟩, 8), (⟨"QueueBlame", "sumOverOrders", "(I)I"⟩, 8), (⟨"QueueBlame", "contributionTo", "(II)I"⟩, 8), (⟨"QueueBlame", "sumOverSets", "(I)I"⟩, 8), (⟨"QueueBlame", "sumOfInteractions", "(II)I"⟩, 8), (⟨"QueueBlame", "rankByBlames", "(I)I"⟩, 8), (⟨"QueueBlame", "drawOrder", "(J)J"⟩, 8), (⟨"QueueBlame", "flowsBefore", "(I)I"⟩, 8), (⟨"QueueBlame", "smallestCause", "(I)I"⟩, 8)]
theorem lw_r2 : ∀ q ∈ lw_privs_2, lw_okq q := List.forall_mem_cons.mpr ⟨lw_p16, List.forall_mem_cons.mpr ⟨lw_p17, List.forall_mem_cons.mpr ⟨lw_p18, List.forall_mem_cons.mpr ⟨lw_p19, List.forall_mem_cons.mpr ⟨lw_p20, List.forall_mem_cons.mpr ⟨lw_p21, List.forall_mem_cons.mpr ⟨lw_p22, List.forall_mem_cons.mpr ⟨lw_p23, List.forall_mem_cons.mpr ⟨lw_p24, List.forall_mem_cons.mpr ⟨lw_p25, List.forall_mem_cons.mpr ⟨lw_p26, List.forall_mem_cons.mpr ⟨lw_p27, List.forall_mem_cons.mpr ⟨lw_p28, List.forall_mem_cons.mpr ⟨lw_p29, List.forall_mem_cons.mpr ⟨lw_p30, List.forall_mem_cons.mpr ⟨lw_p31, fun _ h => absurd h List.not_mem_nil⟩⟩⟩⟩⟩⟩⟩⟩⟩⟩⟩⟩⟩⟩⟩⟩
theorem lw_p32 : lw_okq (⟨"QueueBlame", "isDroppedWith", "(II)Z"⟩, 8) := ⟨⟨by decide +kernel, by decide +kernel⟩, List.mem_of_getElem? (i := 25) (by decide +kernel), List.mem_of_getElem? (i := 891) (by decide +kernel), List.mem_of_getElem? (i := 892) (by decide +kernel)⟩
theorem lw_p33 : lw_okq (⟨"QueueBlame", "isCause", "(II)Z"⟩, 8) := ⟨⟨by decide +kernel, by decide +kernel⟩, List.mem_of_getElem? (i := 25) (by decide +kernel), List.mem_of_getElem? (i := 895) (by decide +kernel), List.mem_of_getElem? (i := 896) (by decide +kernel)⟩
theorem lw_p34 : lw_okq (⟨"QueueBlame", "carryOut", "(LQueueBlame$Command;I)Z"⟩, 8) := ⟨⟨by decide +kernel, by decide +kernel⟩, List.mem_of_getElem? (i := 25) (by decide +kernel), List.mem_of_getElem? (i := 941) (by decide +kernel), List.mem_of_getElem? (i := 942) (by decide +kernel)⟩
theorem lw_p35 : lw_okq (⟨"QueueBlameModel", "noRecord", "(III)I"⟩, 31) := ⟨⟨by decide +kernel, by decide +kernel⟩, List.mem_of_getElem? (i := 966) (by decide +kernel), List.mem_of_getElem? (i := 1074) (by decide +kernel), List.mem_of_getElem? (i := 1075) (by decide +kernel)⟩
theorem lw_p36 : lw_okq (⟨"QueueBlameModel", "refuses", "(I)Z"⟩, 31) := ⟨⟨by decide +kernel, by decide +kernel⟩, List.mem_of_getElem? (i := 966) (by decide +kernel), List.mem_of_getElem? (i := 1084) (by decide +kernel), List.mem_of_getElem? (i := 1085) (by decide +kernel)⟩
theorem lw_p37 : lw_okq (⟨"QueueBlameModel", "keeps", "()V"⟩, 31) := ⟨⟨by decide +kernel, by decide +kernel⟩, List.mem_of_getElem? (i := 966) (by decide +kernel), List.mem_of_getElem? (i := 1088) (by decide +kernel), List.mem_of_getElem? (i := 1089) (by decide +kernel)⟩
theorem lw_p38 : lw_okq (⟨"QueueBlameModel", "records", "(III)I"⟩, 31) := ⟨⟨by decide +kernel, by decide +kernel⟩, List.mem_of_getElem? (i := 966) (by decide +kernel), List.mem_of_getElem? (i := 1092) (by decide +kernel), List.mem_of_getElem? (i := 1093) (by decide +kernel)⟩
theorem lw_p39 : lw_okq (⟨"QueueBlameModel", "of", "(II)I"⟩, 31) := ⟨⟨by decide +kernel, by decide +kernel⟩, List.mem_of_getElem? (i := 966) (by decide +kernel), List.mem_of_getElem? (i := 1096) (by decide +kernel), List.mem_of_getElem? (i := 1097) (by decide +kernel)⟩
theorem lw_p40 : lw_okq (⟨"QueueBlameModel", "isPacket", "(I)Z"⟩, 31) := ⟨⟨by decide +kernel, by decide +kernel⟩, List.mem_of_getElem? (i := 966) (by decide +kernel), List.mem_of_getElem? (i := 1104) (by decide +kernel), List.mem_of_getElem? (i := 1105) (by decide +kernel)⟩
theorem lw_p41 : lw_okq (⟨"QueueBlameModel", "sets", "(II)I"⟩, 31) := ⟨⟨by decide +kernel, by decide +kernel⟩, List.mem_of_getElem? (i := 966) (by decide +kernel), List.mem_of_getElem? (i := 1120) (by decide +kernel), List.mem_of_getElem? (i := 1121) (by decide +kernel)⟩
theorem lw_p42 : lw_okq (⟨"QueueBlameModel", "becomes", "(II)I"⟩, 31) := ⟨⟨by decide +kernel, by decide +kernel⟩, List.mem_of_getElem? (i := 966) (by decide +kernel), List.mem_of_getElem? (i := 1133) (by decide +kernel), List.mem_of_getElem? (i := 1134) (by decide +kernel)⟩
theorem lw_p43 : lw_okq (⟨"QueueBlameModel", "replays", "(I)V"⟩, 31) := ⟨⟨by decide +kernel, by decide +kernel⟩, List.mem_of_getElem? (i := 966) (by decide +kernel), List.mem_of_getElem? (i := 1173) (by decide +kernel), List.mem_of_getElem? (i := 1174) (by decide +kernel)⟩
theorem lw_p44 : lw_okq (⟨"QueueBlameModel", "arrives", "(I)V"⟩, 31) := ⟨⟨by decide +kernel, by decide +kernel⟩, List.mem_of_getElem? (i := 966) (by decide +kernel), List.mem_of_getElem? (i := 1177) (by decide +kernel), List.mem_of_getElem? (i := 1178) (by decide +kernel)⟩
theorem lw_p45 : lw_okq (⟨"QueueBlameModel", "isAccepted", "(I)Z"⟩, 31) := ⟨⟨by decide +kernel, by decide +kernel⟩, List.mem_of_getElem? (i := 966) (by decide +kernel), List.mem_of_getElem? (i := 1181) (by decide +kernel), List.mem_of_getElem? (i := 1182) (by decide +kernel)⟩
theorem lw_p46 : lw_okq (⟨"QueueBlameModel", "makesRoom", "(I)Z"⟩, 31) := ⟨⟨by decide +kernel, by decide +kernel⟩, List.mem_of_getElem? (i := 966) (by decide +kernel), List.mem_of_getElem? (i := 1185) (by decide +kernel), List.mem_of_getElem? (i := 1186) (by decide +kernel)⟩
theorem lw_p47 : lw_okq (⟨"QueueBlameModel", "firstWhole", "()I"⟩, 31) := ⟨⟨by decide +kernel, by decide +kernel⟩, List.mem_of_getElem? (i := 966) (by decide +kernel), List.mem_of_getElem? (i := 1189) (by decide +kernel), List.mem_of_getElem? (i := 1190) (by decide +kernel)⟩
def lw_privs_3 : List (MethodName × Nat) := [(⟨"QueueBlame", "isDroppedWith", "(II)Z"⟩, 8), (⟨"QueueBlame", "isCause", "(II)Z"⟩, 8), (⟨"QueueBlame", "carryOut", "(LQueueBlame$Command;I)Z"⟩, 8), (⟨"QueueBlameModel", "noRecord", "(III)I"⟩, 31), (⟨"QueueBlameModel", "refuses", "(I)Z"⟩, 31), (⟨"QueueBlameModel", "keeps", "()V"⟩, 31), (⟨"QueueBlameModel", "records", "(III)I"⟩, 31), (⟨"QueueBlameModel", "of", "(II)I"⟩, 31), (⟨"QueueBlameModel", "isPacket", "(I)Z"⟩, 31), (⟨"QueueBlameModel", "sets", "(II)I"⟩, 31), (⟨"QueueBlameModel", "becomes", "(II)I"⟩, 31), (⟨"QueueBlameModel", "replays", "(I)V"⟩, 31), (⟨"QueueBlameModel", "arrives", "(I)V"⟩, 31), (⟨"QueueBlameModel", "isAccepted", "(I)Z"⟩, 31), (⟨"QueueBlameModel", "makesRoom", "(I)Z"⟩, 31), (⟨"QueueBlameModel", "firstWhole", "()I"⟩, 31)]
theorem lw_r3 : ∀ q ∈ lw_privs_3, lw_okq q := List.forall_mem_cons.mpr ⟨lw_p32, List.forall_mem_cons.mpr ⟨lw_p33, List.forall_mem_cons.mpr ⟨lw_p34, List.forall_mem_cons.mpr ⟨lw_p35, List.forall_mem_cons.mpr ⟨lw_p36, List.forall_mem_cons.mpr ⟨lw_p37, List.forall_mem_cons.mpr ⟨lw_p38, List.forall_mem_cons.mpr ⟨lw_p39, List.forall_mem_cons.mpr ⟨lw_p40, List.forall_mem_cons.mpr ⟨lw_p41, List.forall_mem_cons.mpr ⟨lw_p42, List.forall_mem_cons.mpr ⟨lw_p43, List.forall_mem_cons.mpr ⟨lw_p44, List.forall_mem_cons.mpr ⟨lw_p45, List.forall_mem_cons.mpr ⟨lw_p46, List.forall_mem_cons.mpr ⟨lw_p47, fun _ h => absurd h List.not_mem_nil⟩⟩⟩⟩⟩⟩⟩⟩⟩⟩⟩⟩⟩⟩⟩⟩
theorem lw_p48 : lw_okq (⟨"QueueBlameModel", "isWhole", "(I)Z"⟩, 31) := ⟨⟨by decide +kernel, by decide +kernel⟩, List.mem_of_getElem? (i := 966) (by decide +kernel), List.mem_of_getElem? (i := 1193) (by decide +kernel), List.mem_of_getElem? (i := 1194) (by decide +kernel)⟩
theorem lw_p49 : lw_okq (⟨"QueueBlameModel", "longest", "(I)I"⟩, 31) := ⟨⟨by decide +kernel, by decide +kernel⟩, List.mem_of_getElem? (i := 966) (by decide +kernel), List.mem_of_getElem? (i := 1197) (by decide +kernel), List.mem_of_getElem? (i := 1198) (by decide +kernel)⟩
theorem lw_p50 : lw_okq (⟨"QueueBlameModel", "lastWhole", "(I)I"⟩, 31) := ⟨⟨by decide +kernel, by decide +kernel⟩, List.mem_of_getElem? (i := 966) (by decide +kernel), List.mem_of_getElem? (i := 1201) (by decide +kernel), List.mem_of_getElem? (i := 1202) (by decide +kernel)⟩
theorem lw_p51 : lw_okq (⟨"QueueBlameModel", "dropsAt", "(I)V"⟩, 31) := ⟨⟨by decide +kernel, by decide +kernel⟩, List.mem_of_getElem? (i := 966) (by decide +kernel), List.mem_of_getElem? (i := 1205) (by decide +kernel), List.mem_of_getElem? (i := 1206) (by decide +kernel)⟩
theorem lw_p52 : lw_okq (⟨"QueueBlameModel", "leaves", "(I)V"⟩, 31) := ⟨⟨by decide +kernel, by decide +kernel⟩, List.mem_of_getElem? (i := 966) (by decide +kernel), List.mem_of_getElem? (i := 1209) (by decide +kernel), List.mem_of_getElem? (i := 1210) (by decide +kernel)⟩
theorem lw_p53 : lw_okq (⟨"QueueBlameModel", "drops", "(I)V"⟩, 31) := ⟨⟨by decide +kernel, by decide +kernel⟩, List.mem_of_getElem? (i := 966) (by decide +kernel), List.mem_of_getElem? (i := 1213) (by decide +kernel), List.mem_of_getElem? (i := 1214) (by decide +kernel)⟩
theorem lw_p54 : lw_okq (⟨"QueueBlameModel", "isOverShare", "(I)Z"⟩, 31) := ⟨⟨by decide +kernel, by decide +kernel⟩, List.mem_of_getElem? (i := 966) (by decide +kernel), List.mem_of_getElem? (i := 1217) (by decide +kernel), List.mem_of_getElem? (i := 1218) (by decide +kernel)⟩
theorem lw_p55 : lw_okq (⟨"QueueBlameModel", "serves", "(I)V"⟩, 31) := ⟨⟨by decide +kernel, by decide +kernel⟩, List.mem_of_getElem? (i := 966) (by decide +kernel), List.mem_of_getElem? (i := 1221) (by decide +kernel), List.mem_of_getElem? (i := 1222) (by decide +kernel)⟩
theorem lw_p56 : lw_okq (⟨"QueueBlameModel", "chosen", "()I"⟩, 31) := ⟨⟨by decide +kernel, by decide +kernel⟩, List.mem_of_getElem? (i := 966) (by decide +kernel), List.mem_of_getElem? (i := 1225) (by decide +kernel), List.mem_of_getElem? (i := 1226) (by decide +kernel)⟩
theorem lw_p57 : lw_okq (⟨"QueueBlameModel", "scheduled", "()I"⟩, 31) := ⟨⟨by decide +kernel, by decide +kernel⟩, List.mem_of_getElem? (i := 966) (by decide +kernel), List.mem_of_getElem? (i := 1229) (by decide +kernel), List.mem_of_getElem? (i := 1230) (by decide +kernel)⟩
theorem lw_p58 : lw_okq (⟨"QueueBlameModel", "firstOf", "(I)I"⟩, 31) := ⟨⟨by decide +kernel, by decide +kernel⟩, List.mem_of_getElem? (i := 966) (by decide +kernel), List.mem_of_getElem? (i := 1233) (by decide +kernel), List.mem_of_getElem? (i := 1234) (by decide +kernel)⟩
theorem lw_p59 : lw_okq (⟨"QueueBlameModel", "worthOf", "(II)I"⟩, 31) := ⟨⟨by decide +kernel, by decide +kernel⟩, List.mem_of_getElem? (i := 966) (by decide +kernel), List.mem_of_getElem? (i := 1257) (by decide +kernel), List.mem_of_getElem? (i := 1258) (by decide +kernel)⟩
theorem lw_p60 : lw_okq (⟨"QueueBlameModel", "weighsAll", "(I)V"⟩, 31) := ⟨⟨by decide +kernel, by decide +kernel⟩, List.mem_of_getElem? (i := 966) (by decide +kernel), List.mem_of_getElem? (i := 1273) (by decide +kernel), List.mem_of_getElem? (i := 1274) (by decide +kernel)⟩
theorem lw_p61 : lw_okq (⟨"QueueBlameModel", "contributions", "(IZ)J"⟩, 31) := ⟨⟨by decide +kernel, by decide +kernel⟩, List.mem_of_getElem? (i := 966) (by decide +kernel), List.mem_of_getElem? (i := 1277) (by decide +kernel), List.mem_of_getElem? (i := 1278) (by decide +kernel)⟩
theorem lw_p62 : lw_okq (⟨"QueueBlameModel", "shuffles", "()V"⟩, 31) := ⟨⟨by decide +kernel, by decide +kernel⟩, List.mem_of_getElem? (i := 966) (by decide +kernel), List.mem_of_getElem? (i := 1313) (by decide +kernel), List.mem_of_getElem? (i := 1314) (by decide +kernel)⟩
theorem lw_p63 : lw_okq (⟨"QueueBlameModel", "smallest", "(I)I"⟩, 31) := ⟨⟨by decide +kernel, by decide +kernel⟩, List.mem_of_getElem? (i := 966) (by decide +kernel), List.mem_of_getElem? (i := 1325) (by decide +kernel), List.mem_of_getElem? (i := 1326) (by decide +kernel)⟩
def lw_privs_4 : List (MethodName × Nat) := [(⟨"QueueBlameModel", "isWhole", "(I)Z"⟩, 31), (⟨"QueueBlameModel", "longest", "(I)I"⟩, 31), (⟨"QueueBlameModel", "lastWhole", "(I)I"⟩, 31), (⟨"QueueBlameModel", "dropsAt", "(I)V"⟩, 31), (⟨"QueueBlameModel", "leaves", "(I)V"⟩, 31), (⟨"QueueBlameModel", "drops", "(I)V"⟩, 31), (⟨"QueueBlameModel", "isOverShare", "(I)Z"⟩, 31), (⟨"QueueBlameModel", "serves", "(I)V"⟩, 31), (⟨"QueueBlameModel", "chosen", "()I"⟩, 31), (⟨"QueueBlameModel", "scheduled", "()I"⟩, 31), (⟨"QueueBlameModel", "firstOf", "(I)I"⟩, 31), (⟨"QueueBlameModel", "worthOf", "(II)I"⟩, 31), (⟨"QueueBlameModel", "weighsAll", "(I)V"⟩, 31), (⟨"QueueBlameModel", "contributions", "(IZ)J"⟩, 31), (⟨"QueueBlameModel", "shuffles", "()V"⟩, 31), (⟨"QueueBlameModel", "smallest", "(I)I"⟩, 31)]
theorem lw_r4 : ∀ q ∈ lw_privs_4, lw_okq q := List.forall_mem_cons.mpr ⟨lw_p48, List.forall_mem_cons.mpr ⟨lw_p49, List.forall_mem_cons.mpr ⟨lw_p50, List.forall_mem_cons.mpr ⟨lw_p51, List.forall_mem_cons.mpr ⟨lw_p52, List.forall_mem_cons.mpr ⟨lw_p53, List.forall_mem_cons.mpr ⟨lw_p54, List.forall_mem_cons.mpr ⟨lw_p55, List.forall_mem_cons.mpr ⟨lw_p56, List.forall_mem_cons.mpr ⟨lw_p57, List.forall_mem_cons.mpr ⟨lw_p58, List.forall_mem_cons.mpr ⟨lw_p59, List.forall_mem_cons.mpr ⟨lw_p60, List.forall_mem_cons.mpr ⟨lw_p61, List.forall_mem_cons.mpr ⟨lw_p62, List.forall_mem_cons.mpr ⟨lw_p63, fun _ h => absurd h List.not_mem_nil⟩⟩⟩⟩⟩⟩⟩⟩⟩⟩⟩⟩⟩⟩⟩⟩
theorem lw_p64 : lw_okq (⟨"QueueBlameModel", "isDropped", "(II)Z"⟩, 31) := ⟨⟨by decide +kernel, by decide +kernel⟩, List.mem_of_getElem? (i := 966) (by decide +kernel), List.mem_of_getElem? (i := 1329) (by decide +kernel), List.mem_of_getElem? (i := 1330) (by decide +kernel)⟩
theorem lw_p65 : lw_okq (⟨"QueueBlameModel", "reads", "()I"⟩, 31) := ⟨⟨by decide +kernel, by decide +kernel⟩, List.mem_of_getElem? (i := 966) (by decide +kernel), List.mem_of_getElem? (i := 1357) (by decide +kernel), List.mem_of_getElem? (i := 1358) (by decide +kernel)⟩
theorem lw_p66 : lw_okq (⟨"QueueBlameModel", "skipsSpaces", "()V"⟩, 31) := ⟨⟨by decide +kernel, by decide +kernel⟩, List.mem_of_getElem? (i := 966) (by decide +kernel), List.mem_of_getElem? (i := 1361) (by decide +kernel), List.mem_of_getElem? (i := 1362) (by decide +kernel)⟩
theorem lw_p67 : lw_okq (⟨"QueueBlameModel", "at", "(I)I"⟩, 31) := ⟨⟨by decide +kernel, by decide +kernel⟩, List.mem_of_getElem? (i := 966) (by decide +kernel), List.mem_of_getElem? (i := 1365) (by decide +kernel), List.mem_of_getElem? (i := 1366) (by decide +kernel)⟩
theorem lw_p68 : lw_okq (⟨"QueueBlameModel", "word", "()J"⟩, 31) := ⟨⟨by decide +kernel, by decide +kernel⟩, List.mem_of_getElem? (i := 966) (by decide +kernel), List.mem_of_getElem? (i := 1369) (by decide +kernel), List.mem_of_getElem? (i := 1370) (by decide +kernel)⟩
theorem lw_p69 : lw_okq (⟨"QueueBlameModel", "readsNumber", "(I)Z"⟩, 31) := ⟨⟨by decide +kernel, by decide +kernel⟩, List.mem_of_getElem? (i := 966) (by decide +kernel), List.mem_of_getElem? (i := 1388) (by decide +kernel), List.mem_of_getElem? (i := 1389) (by decide +kernel)⟩
theorem lw_p70 : lw_okq (⟨"QueueBlameModel", "does", "(I)Z"⟩, 31) := ⟨⟨by decide +kernel, by decide +kernel⟩, List.mem_of_getElem? (i := 966) (by decide +kernel), List.mem_of_getElem? (i := 1399) (by decide +kernel), List.mem_of_getElem? (i := 1400) (by decide +kernel)⟩
def lw_privs_5 : List (MethodName × Nat) := [(⟨"QueueBlameModel", "isDropped", "(II)Z"⟩, 31), (⟨"QueueBlameModel", "reads", "()I"⟩, 31), (⟨"QueueBlameModel", "skipsSpaces", "()V"⟩, 31), (⟨"QueueBlameModel", "at", "(I)I"⟩, 31), (⟨"QueueBlameModel", "word", "()J"⟩, 31), (⟨"QueueBlameModel", "readsNumber", "(I)Z"⟩, 31), (⟨"QueueBlameModel", "does", "(I)Z"⟩, 31)]
theorem lw_r5 : ∀ q ∈ lw_privs_5, lw_okq q := List.forall_mem_cons.mpr ⟨lw_p64, List.forall_mem_cons.mpr ⟨lw_p65, List.forall_mem_cons.mpr ⟨lw_p66, List.forall_mem_cons.mpr ⟨lw_p67, List.forall_mem_cons.mpr ⟨lw_p68, List.forall_mem_cons.mpr ⟨lw_p69, List.forall_mem_cons.mpr ⟨lw_p70, fun _ h => absurd h List.not_mem_nil⟩⟩⟩⟩⟩⟩⟩
def lw_privs : List (MethodName × Nat) := lw_privs_1 ++ (lw_privs_2 ++ (lw_privs_3 ++ (lw_privs_4 ++ (lw_privs_5))))
def lw_tbl : List Cond := k2_sels lw_privs ++ tables_1
theorem lw_privs_ok : ∀ q ∈ lw_privs, lw_okq q := by
  show ∀ q ∈ lw_privs_1 ++ (lw_privs_2 ++ (lw_privs_3 ++ (lw_privs_4 ++ (lw_privs_5)))), lw_okq q
  exact List.forall_mem_append.mpr ⟨lw_r1, List.forall_mem_append.mpr ⟨lw_r2, List.forall_mem_append.mpr ⟨lw_r3, List.forall_mem_append.mpr ⟨lw_r4, lw_r5⟩⟩⟩⟩
-- ===== end of PART A; then your names; then what follows =====
end
section
/-! ===== BEGIN printed: names, fields, word lists, decode rows ===== -/
def RX0 : String := "QueueBlame$Command"
def TX0 : u_T := fun k => match k with
  | _ => ("", "", "", false)
def tyX0 : Nat → FieldType := fun k => match k with
  | _ => .int
abbrev wsX00 : List Cond := u_ws RX0 TX0 0
theorem nmX0 : ∀ a, a < 0 → ∀ b, b < 0 → a ≠ b → (TX0 a).2.1 ≠ (TX0 b).2.1 := by decide +kernel
theorem tyX0_ok : ∀ k, k < 0 → parseFieldDescriptor (TX0 k).2.2.1 = some (tyX0 k) := by decide +kernel
def RX1 : String := "QueueBlame$History"
def TX1 : u_T := fun k => match k with
  | 0 => ("QueueBlame$History", "states", "[LQueueBlame$Recording;", true)
  | 1 => ("QueueBlame$History", "count", "I", false)
  | _ => ("QueueBlame$History", "newest", "I", false)
def tyX1 : Nat → FieldType := fun k => match k with
  | 0 => .array (.object "QueueBlame$Recording")
  | 1 => .int
  | _ => .int
abbrev wsX10 : List Cond := u_ws RX1 TX1 3
theorem nmX1 : ∀ a, a < 3 → ∀ b, b < 3 → a ≠ b → (TX1 a).2.1 ≠ (TX1 b).2.1 := by decide +kernel
theorem tyX1_ok : ∀ k, k < 3 → parseFieldDescriptor (TX1 k).2.2.1 = some (tyX1 k) := by decide +kernel
abbrev cX1_init : ByteArray := prog_3_method_1_code
def yX1_init : MethodName := ⟨RX1, "<init>", "()V"⟩
abbrev cX1_save : ByteArray := prog_3_method_2_code
def yX1_save : MethodName := ⟨RX1, "save", "(LQueueBlame$Recording;)V"⟩
abbrev cX1_restore : ByteArray := prog_3_method_3_code
def yX1_restore : MethodName := ⟨RX1, "restore", "(LQueueBlame$Recording;)V"⟩
def RX2 : String := "QueueBlame$Line"
def TX2 : u_T := fun k => match k with
  | 0 => ("QueueBlame$Line", "length", "I", false)
  | 1 => ("QueueBlame$Line", "waiting", "[I", true)
  | 2 => ("QueueBlame$Line", "remaining", "[I", true)
  | 3 => ("QueueBlame$Line", "load", "I", false)
  | _ => ("QueueBlame$Line", "begun", "I", false)
def tyX2 : Nat → FieldType := fun k => match k with
  | 0 => .int
  | 1 => .array .int
  | 2 => .array .int
  | 3 => .int
  | _ => .int
abbrev wsX20 : List Cond := u_ws RX2 TX2 5
theorem nmX2 : ∀ a, a < 5 → ∀ b, b < 5 → a ≠ b → (TX2 a).2.1 ≠ (TX2 b).2.1 := by decide +kernel
theorem tyX2_ok : ∀ k, k < 5 → parseFieldDescriptor (TX2 k).2.2.1 = some (tyX2 k) := by decide +kernel
abbrev cX2_init : ByteArray := prog_4_method_1_code
def yX2_init : MethodName := ⟨RX2, "<init>", "()V"⟩
abbrev cX2_empty : ByteArray := prog_4_method_2_code
def yX2_empty : MethodName := ⟨RX2, "empty", "()V"⟩
abbrev cX2_join : ByteArray := prog_4_method_3_code
def yX2_join : MethodName := ⟨RX2, "join", "(II)V"⟩
abbrev cX2_takeOut : ByteArray := prog_4_method_4_code
def yX2_takeOut : MethodName := ⟨RX2, "takeOut", "(I)I"⟩
abbrev cX2_send : ByteArray := prog_4_method_5_code
def yX2_send : MethodName := ⟨RX2, "send", "(II)Z"⟩
abbrev cX2_positionOfBegun : ByteArray := prog_4_method_6_code
def yX2_positionOfBegun : MethodName := ⟨RX2, "positionOfBegun", "()I"⟩
abbrev cX2_firstNotBegun : ByteArray := prog_4_method_7_code
def yX2_firstNotBegun : MethodName := ⟨RX2, "firstNotBegun", "()I"⟩
def RX3 : String := "QueueBlame$Outcome"
def TX3 : u_T := fun k => match k with
  | 0 => ("QueueBlame$Outcome", "exists", "Z", false)
  | 1 => ("QueueBlame$Outcome", "count", "I", false)
  | 2 => ("QueueBlame$Outcome", "fates", "[I", true)
  | 3 => ("QueueBlame$Outcome", "dropCount", "I", false)
  | 4 => ("QueueBlame$Outcome", "drops", "[I", true)
  | 5 => ("QueueBlame$Outcome", "rate", "I", false)
  | 6 => ("QueueBlame$Outcome", "markCount", "I", false)
  | 7 => ("QueueBlame$Outcome", "markTicks", "[I", true)
  | _ => ("QueueBlame$Outcome", "markLoads", "[I", true)
def tyX3 : Nat → FieldType := fun k => match k with
  | 0 => .boolean
  | 1 => .int
  | 2 => .array .int
  | 3 => .int
  | 4 => .array .int
  | 5 => .int
  | 6 => .int
  | 7 => .array .int
  | _ => .array .int
abbrev wsX30 : List Cond := u_ws RX3 TX3 9
theorem nmX3 : ∀ a, a < 9 → ∀ b, b < 9 → a ≠ b → (TX3 a).2.1 ≠ (TX3 b).2.1 := by decide +kernel
theorem tyX3_ok : ∀ k, k < 9 → parseFieldDescriptor (TX3 k).2.2.1 = some (tyX3 k) := by decide +kernel
abbrev cX3_init : ByteArray := prog_5_method_1_code
def yX3_init : MethodName := ⟨RX3, "<init>", "()V"⟩
abbrev cX3_begin : ByteArray := prog_5_method_2_code
def yX3_begin : MethodName := ⟨RX3, "begin", "(II)V"⟩
abbrev cX3_noteDrop : ByteArray := prog_5_method_3_code
def yX3_noteDrop : MethodName := ⟨RX3, "noteDrop", "(I)V"⟩
abbrev cX3_noteLoad : ByteArray := prog_5_method_4_code
def yX3_noteLoad : MethodName := ⟨RX3, "noteLoad", "(II)V"⟩
abbrev cX3_fateOf : ByteArray := prog_5_method_5_code
def yX3_fateOf : MethodName := ⟨RX3, "fateOf", "(I)I"⟩
abbrev cX3_dropNumbered : ByteArray := prog_5_method_6_code
def yX3_dropNumbered : MethodName := ⟨RX3, "dropNumbered", "(I)I"⟩
abbrev cX3_loadAfter : ByteArray := prog_5_method_7_code
def yX3_loadAfter : MethodName := ⟨RX3, "loadAfter", "(I)I"⟩
abbrev cX3_greatestLoad : ByteArray := prog_5_method_8_code
def yX3_greatestLoad : MethodName := ⟨RX3, "greatestLoad", "()I"⟩
def RX4 : String := "QueueBlame$Recording"
def TX4 : u_T := fun k => match k with
  | 0 => ("QueueBlame$Recording", "count", "I", false)
  | 1 => ("QueueBlame$Recording", "times", "[I", true)
  | 2 => ("QueueBlame$Recording", "flows", "[I", true)
  | 3 => ("QueueBlame$Recording", "sizes", "[I", true)
  | _ => ("QueueBlame$Recording", "settings", "[I", true)
def tyX4 : Nat → FieldType := fun k => match k with
  | 0 => .int
  | 1 => .array .int
  | 2 => .array .int
  | 3 => .array .int
  | _ => .array .int
abbrev wsX40 : List Cond := u_ws RX4 TX4 5
theorem nmX4 : ∀ a, a < 5 → ∀ b, b < 5 → a ≠ b → (TX4 a).2.1 ≠ (TX4 b).2.1 := by decide +kernel
theorem tyX4_ok : ∀ k, k < 5 → parseFieldDescriptor (TX4 k).2.2.1 = some (tyX4 k) := by decide +kernel
abbrev cX4_init : ByteArray := prog_6_method_1_code
def yX4_init : MethodName := ⟨RX4, "<init>", "()V"⟩
abbrev cX4_isFull : ByteArray := prog_6_method_2_code
def yX4_isFull : MethodName := ⟨RX4, "isFull", "()Z"⟩
abbrev cX4_insert : ByteArray := prog_6_method_3_code
def yX4_insert : MethodName := ⟨RX4, "insert", "(III)I"⟩
abbrev cX4_delete : ByteArray := prog_6_method_4_code
def yX4_delete : MethodName := ⟨RX4, "delete", "(I)V"⟩
abbrev cX4_shift : ByteArray := prog_6_method_5_code
def yX4_shift : MethodName := ⟨RX4, "shift", "(II)V"⟩
abbrev cX4_set : ByteArray := prog_6_method_6_code
def yX4_set : MethodName := ⟨RX4, "set", "(II)Z"⟩
abbrev cX4_flowSet : ByteArray := prog_6_method_7_code
def yX4_flowSet : MethodName := ⟨RX4, "flowSet", "()I"⟩
abbrev cX4_copyFrom : ByteArray := prog_6_method_8_code
def yX4_copyFrom : MethodName := ⟨RX4, "copyFrom", "(LQueueBlame$Recording;)V"⟩
def RX5 : String := "QueueBlame$Replayer"
def TX5 : u_T := fun k => match k with
  | 0 => ("QueueBlame$Replayer", "recording", "LQueueBlame$Recording;", true)
  | 1 => ("QueueBlame$Replayer", "outcome", "LQueueBlame$Outcome;", true)
  | 2 => ("QueueBlame$Replayer", "line", "LQueueBlame$Line;", true)
  | 3 => ("QueueBlame$Replayer", "amounts", "[I", true)
  | 4 => ("QueueBlame$Replayer", "capacity", "I", false)
  | 5 => ("QueueBlame$Replayer", "nextCapacity", "I", false)
  | 6 => ("QueueBlame$Replayer", "rate", "I", false)
  | 7 => ("QueueBlame$Replayer", "earlyCount", "I", false)
  | _ => ("QueueBlame$Replayer", "lastFlow", "I", false)
def tyX5 : Nat → FieldType := fun k => match k with
  | 0 => .object "QueueBlame$Recording"
  | 1 => .object "QueueBlame$Outcome"
  | 2 => .object "QueueBlame$Line"
  | 3 => .array .int
  | 4 => .int
  | 5 => .int
  | 6 => .int
  | 7 => .int
  | _ => .int
abbrev wsX50 : List Cond := u_ws RX5 TX5 9
theorem nmX5 : ∀ a, a < 9 → ∀ b, b < 9 → a ≠ b → (TX5 a).2.1 ≠ (TX5 b).2.1 := by decide +kernel
theorem tyX5_ok : ∀ k, k < 9 → parseFieldDescriptor (TX5 k).2.2.1 = some (tyX5 k) := by decide +kernel
abbrev cX5_init : ByteArray := prog_7_method_1_code
def yX5_init : MethodName := ⟨RX5, "<init>", "(LQueueBlame$Recording;)V"⟩
abbrev cX5_play : ByteArray := prog_7_method_2_code
def yX5_play : MethodName := ⟨RX5, "play", "(III)V"⟩
abbrev cX5_measureFor : ByteArray := prog_7_method_3_code
def yX5_measureFor : MethodName := ⟨RX5, "measureFor", "(I)I"⟩
abbrev cX5_measureOf : ByteArray := prog_7_method_4_code
def yX5_measureOf : MethodName := ⟨RX5, "measureOf", "(I)I"⟩
abbrev cX5_holds : ByteArray := prog_7_method_5_code
def yX5_holds : MethodName := ⟨RX5, "holds", "(I)Z"⟩
abbrev cX5_admits : ByteArray := prog_7_method_6_code
def yX5_admits : MethodName := ⟨RX5, "admits", "(II)Z"⟩
abbrev cX5_makesRoomAtHead : ByteArray := prog_7_method_7_code
def yX5_makesRoomAtHead : MethodName := ⟨RX5, "makesRoomAtHead", "(I)Z"⟩
abbrev cX5_makesRoomInLongestFlow : ByteArray := prog_7_method_8_code
def yX5_makesRoomInLongestFlow : MethodName := ⟨RX5, "makesRoomInLongestFlow", "(II)Z"⟩
abbrev cX5_longestFlow : ByteArray := prog_7_method_9_code
def yX5_longestFlow : MethodName := ⟨RX5, "longestFlow", "(II)I"⟩
abbrev cX5_lastNotBegunOf : ByteArray := prog_7_method_10_code
def yX5_lastNotBegunOf : MethodName := ⟨RX5, "lastNotBegunOf", "(I)I"⟩
abbrev cX5_bytesForThreshold : ByteArray := prog_7_method_11_code
def yX5_bytesForThreshold : MethodName := ⟨RX5, "bytesForThreshold", "(II)I"⟩
abbrev cX5_isDroppedEarly : ByteArray := prog_7_method_12_code
def yX5_isDroppedEarly : MethodName := ⟨RX5, "isDroppedEarly", "()Z"⟩
abbrev cX5_isLastOfItsTick : ByteArray := prog_7_method_13_code
def yX5_isLastOfItsTick : MethodName := ⟨RX5, "isLastOfItsTick", "(I)Z"⟩
abbrev cX5_bytesUntilNext : ByteArray := prog_7_method_14_code
def yX5_bytesUntilNext : MethodName := ⟨RX5, "bytesUntilNext", "(I)I"⟩
abbrev cX5_serveBehind : ByteArray := prog_7_method_15_code
def yX5_serveBehind : MethodName := ⟨RX5, "serveBehind", "(I)V"⟩
abbrev cX5_chosenPosition : ByteArray := prog_7_method_16_code
def yX5_chosenPosition : MethodName := ⟨RX5, "chosenPosition", "()I"⟩
abbrev cX5_turnOf : ByteArray := prog_7_method_17_code
def yX5_turnOf : MethodName := ⟨RX5, "turnOf", "(I)I"⟩
def RX6 : String := "QueueBlame$Script"
def TX6 : u_T := fun k => match k with
  | 0 => ("QueueBlame$Script", "codes", "[I", true)
  | 1 => ("QueueBlame$Script", "length", "I", false)
  | 2 => ("QueueBlame$Script", "commands", "[LQueueBlame$Command;", true)
  | 3 => ("QueueBlame$Script", "numbers", "[I", true)
  | _ => ("QueueBlame$Script", "commandCount", "I", false)
def tyX6 : Nat → FieldType := fun k => match k with
  | 0 => .array .int
  | 1 => .int
  | 2 => .array (.object "QueueBlame$Command")
  | 3 => .array .int
  | _ => .int
abbrev wsX60 : List Cond := u_ws RX6 TX6 5
theorem nmX6 : ∀ a, a < 5 → ∀ b, b < 5 → a ≠ b → (TX6 a).2.1 ≠ (TX6 b).2.1 := by decide +kernel
theorem tyX6_ok : ∀ k, k < 5 → parseFieldDescriptor (TX6 k).2.2.1 = some (tyX6 k) := by decide +kernel
abbrev cX6_init : ByteArray := prog_8_method_1_code
def yX6_init : MethodName := ⟨RX6, "<init>", "()V"⟩
abbrev cX6_isFull : ByteArray := prog_8_method_2_code
def yX6_isFull : MethodName := ⟨RX6, "isFull", "()Z"⟩
abbrev cX6_append : ByteArray := prog_8_method_3_code
def yX6_append : MethodName := ⟨RX6, "append", "(I)V"⟩
abbrev cX6_parse : ByteArray := prog_8_method_4_code
def yX6_parse : MethodName := ⟨RX6, "parse", "()I"⟩
abbrev cX6_kindOf : ByteArray := prog_8_method_5_code
def yX6_kindOf : MethodName := ⟨RX6, "kindOf", "(I)I"⟩
abbrev cX6_endOf : ByteArray := prog_8_method_6_code
def yX6_endOf : MethodName := ⟨RX6, "endOf", "(II)I"⟩
abbrev cX6_commandAt : ByteArray := prog_8_method_7_code
def yX6_commandAt : MethodName := ⟨RX6, "commandAt", "(II)LQueueBlame$Command;"⟩
abbrev cX6_isWordAt : ByteArray := prog_8_method_8_code
def yX6_isWordAt : MethodName := ⟨RX6, "isWordAt", "(Ljava/lang/String;II)Z"⟩
abbrev cX6_numberAt : ByteArray := prog_8_method_9_code
def yX6_numberAt : MethodName := ⟨RX6, "numberAt", "(II)I"⟩
def RX7 : String := "QueueBlame"
def TX7 : u_T := fun k => match k with
  | 0 => ("QueueBlame", "recording", "LQueueBlame$Recording;", true)
  | 1 => ("QueueBlame", "history", "LQueueBlame$History;", true)
  | 2 => ("QueueBlame", "latest", "LQueueBlame$Replayer;", true)
  | 3 => ("QueueBlame", "trial", "LQueueBlame$Replayer;", true)
  | 4 => ("QueueBlame", "script", "LQueueBlame$Script;", true)
  | 5 => ("QueueBlame", "worths", "[I", true)
  | 6 => ("QueueBlame", "blames", "[I", true)
  | _ => ("QueueBlame", "order", "[I", true)
def tyX7 : Nat → FieldType := fun k => match k with
  | 0 => .object "QueueBlame$Recording"
  | 1 => .object "QueueBlame$History"
  | 2 => .object "QueueBlame$Replayer"
  | 3 => .object "QueueBlame$Replayer"
  | 4 => .object "QueueBlame$Script"
  | 5 => .array .int
  | 6 => .array .int
  | _ => .array .int
abbrev wsX70 : List Cond := u_ws RX7 TX7 8
theorem nmX7 : ∀ a, a < 8 → ∀ b, b < 8 → a ≠ b → (TX7 a).2.1 ≠ (TX7 b).2.1 := by decide +kernel
theorem tyX7_ok : ∀ k, k < 8 → parseFieldDescriptor (TX7 k).2.2.1 = some (tyX7 k) := by decide +kernel
abbrev cX7_init : ByteArray := prog_1_method_1_code
def yX7_init : MethodName := ⟨RX7, "<init>", "()V"⟩
abbrev cX7_record : ByteArray := prog_1_method_2_code
def yX7_record : MethodName := ⟨RX7, "record", "(III)I"⟩
abbrev cX7_erase : ByteArray := prog_1_method_3_code
def yX7_erase : MethodName := ⟨RX7, "erase", "(I)I"⟩
abbrev cX7_packets : ByteArray := prog_1_method_4_code
def yX7_packets : MethodName := ⟨RX7, "packets", "()I"⟩
abbrev cX7_packet : ByteArray := prog_1_method_5_code
def yX7_packet : MethodName := ⟨RX7, "packet", "(II)I"⟩
abbrev cX7_setCapacity : ByteArray := prog_1_method_6_code
def yX7_setCapacity : MethodName := ⟨RX7, "setCapacity", "(I)I"⟩
abbrev cX7_setRate : ByteArray := prog_1_method_7_code
def yX7_setRate : MethodName := ⟨RX7, "setRate", "(I)I"⟩
abbrev cX7_setPolicy : ByteArray := prog_1_method_8_code
def yX7_setPolicy : MethodName := ⟨RX7, "setPolicy", "(I)I"⟩
abbrev cX7_setScheduler : ByteArray := prog_1_method_9_code
def yX7_setScheduler : MethodName := ⟨RX7, "setScheduler", "(I)I"⟩
abbrev cX7_setFactor : ByteArray := prog_1_method_10_code
def yX7_setFactor : MethodName := ⟨RX7, "setFactor", "(I)I"⟩
abbrev cX7_setThreshold : ByteArray := prog_1_method_11_code
def yX7_setThreshold : MethodName := ⟨RX7, "setThreshold", "(I)I"⟩
abbrev cX7_setInterval : ByteArray := prog_1_method_12_code
def yX7_setInterval : MethodName := ⟨RX7, "setInterval", "(I)I"⟩
abbrev cX7_setMeasure : ByteArray := prog_1_method_13_code
def yX7_setMeasure : MethodName := ⟨RX7, "setMeasure", "(I)I"⟩
abbrev cX7_setPriority : ByteArray := prog_1_method_14_code
def yX7_setPriority : MethodName := ⟨RX7, "setPriority", "(II)I"⟩
abbrev cX7_replay : ByteArray := prog_1_method_15_code
def yX7_replay : MethodName := ⟨RX7, "replay", "(I)I"⟩
abbrev cX7_fate : ByteArray := prog_1_method_16_code
def yX7_fate : MethodName := ⟨RX7, "fate", "(I)I"⟩
abbrev cX7_loadAt : ByteArray := prog_1_method_17_code
def yX7_loadAt : MethodName := ⟨RX7, "loadAt", "(I)I"⟩
abbrev cX7_peak : ByteArray := prog_1_method_18_code
def yX7_peak : MethodName := ⟨RX7, "peak", "()I"⟩
abbrev cX7_dropped : ByteArray := prog_1_method_19_code
def yX7_dropped : MethodName := ⟨RX7, "dropped", "(I)I"⟩
abbrev cX7_worth : ByteArray := prog_1_method_20_code
def yX7_worth : MethodName := ⟨RX7, "worth", "(I)I"⟩
abbrev cX7_worthFor : ByteArray := prog_1_method_21_code
def yX7_worthFor : MethodName := ⟨RX7, "worthFor", "(II)I"⟩
abbrev cX7_contribution : ByteArray := prog_1_method_22_code
def yX7_contribution : MethodName := ⟨RX7, "contribution", "(II)I"⟩
abbrev cX7_blame : ByteArray := prog_1_method_23_code
def yX7_blame : MethodName := ⟨RX7, "blame", "(II)I"⟩
abbrev cX7_blameFor : ByteArray := prog_1_method_24_code
def yX7_blameFor : MethodName := ⟨RX7, "blameFor", "(III)I"⟩
abbrev cX7_index : ByteArray := prog_1_method_25_code
def yX7_index : MethodName := ⟨RX7, "index", "(II)I"⟩
abbrev cX7_interaction : ByteArray := prog_1_method_26_code
def yX7_interaction : MethodName := ⟨RX7, "interaction", "(III)I"⟩
abbrev cX7_ranked : ByteArray := prog_1_method_27_code
def yX7_ranked : MethodName := ⟨RX7, "ranked", "(I)I"⟩
abbrev cX7_sampled : ByteArray := prog_1_method_28_code
def yX7_sampled : MethodName := ⟨RX7, "sampled", "(III)I"⟩
abbrev cX7_cause : ByteArray := prog_1_method_29_code
def yX7_cause : MethodName := ⟨RX7, "cause", "(I)I"⟩
abbrev cX7_suspects : ByteArray := prog_1_method_30_code
def yX7_suspects : MethodName := ⟨RX7, "suspects", "(I)I"⟩
abbrev cX7_capacityFor : ByteArray := prog_1_method_31_code
def yX7_capacityFor : MethodName := ⟨RX7, "capacityFor", "(I)I"⟩
abbrev cX7_bestPolicy : ByteArray := prog_1_method_32_code
def yX7_bestPolicy : MethodName := ⟨RX7, "bestPolicy", "()I"⟩
abbrev cX7_type : ByteArray := prog_1_method_33_code
def yX7_type : MethodName := ⟨RX7, "type", "(I)I"⟩
abbrev cX7_clearText : ByteArray := prog_1_method_34_code
def yX7_clearText : MethodName := ⟨RX7, "clearText", "()I"⟩
abbrev cX7_fault : ByteArray := prog_1_method_35_code
def yX7_fault : MethodName := ⟨RX7, "fault", "()I"⟩
abbrev cX7_run : ByteArray := prog_1_method_36_code
def yX7_run : MethodName := ⟨RX7, "run", "()I"⟩
abbrev cX7_undo : ByteArray := prog_1_method_37_code
def yX7_undo : MethodName := ⟨RX7, "undo", "()I"⟩
abbrev cX7_checksum : ByteArray := prog_1_method_38_code
def yX7_checksum : MethodName := ⟨RX7, "checksum", "()J"⟩
abbrev cX7_requireFlow : ByteArray := prog_1_method_39_code
def yX7_requireFlow : MethodName := ⟨RX7, "requireFlow", "(I)V"⟩
abbrev cX7_requireSet : ByteArray := prog_1_method_40_code
def yX7_requireSet : MethodName := ⟨RX7, "requireSet", "(I)V"⟩
abbrev cX7_requirePart : ByteArray := prog_1_method_41_code
def yX7_requirePart : MethodName := ⟨RX7, "requirePart", "(I)V"⟩
abbrev cX7_requirePacket : ByteArray := prog_1_method_42_code
def yX7_requirePacket : MethodName := ⟨RX7, "requirePacket", "(I)V"⟩
abbrev cX7_isFlow : ByteArray := prog_1_method_43_code
def yX7_isFlow : MethodName := ⟨RX7, "isFlow", "(I)Z"⟩
abbrev cX7_isPacket : ByteArray := prog_1_method_44_code
def yX7_isPacket : MethodName := ⟨RX7, "isPacket", "(III)Z"⟩
abbrev cX7_isAllowed : ByteArray := prog_1_method_45_code
def yX7_isAllowed : MethodName := ⟨RX7, "isAllowed", "(II)Z"⟩
abbrev cX7_contains : ByteArray := prog_1_method_46_code
def yX7_contains : MethodName := ⟨RX7, "contains", "(II)Z"⟩
abbrev cX7_quotient : ByteArray := prog_1_method_47_code
def yX7_quotient : MethodName := ⟨RX7, "quotient", "(II)I"⟩
abbrev cX7_change : ByteArray := prog_1_method_48_code
def yX7_change : MethodName := ⟨RX7, "change", "(II)I"⟩
abbrev cX7_worthOf : ByteArray := prog_1_method_49_code
def yX7_worthOf : MethodName := ⟨RX7, "worthOf", "(II)I"⟩
abbrev cX7_fillWorths : ByteArray := prog_1_method_50_code
def yX7_fillWorths : MethodName := ⟨RX7, "fillWorths", "(I)V"⟩
abbrev cX7_contributionTo : ByteArray := prog_1_method_51_code
def yX7_contributionTo : MethodName := ⟨RX7, "contributionTo", "(II)I"⟩
abbrev cX7_sumOverOrders : ByteArray := prog_1_method_52_code
def yX7_sumOverOrders : MethodName := ⟨RX7, "sumOverOrders", "(I)I"⟩
abbrev cX7_sumOverSets : ByteArray := prog_1_method_53_code
def yX7_sumOverSets : MethodName := ⟨RX7, "sumOverSets", "(I)I"⟩
abbrev cX7_sumOfInteractions : ByteArray := prog_1_method_54_code
def yX7_sumOfInteractions : MethodName := ⟨RX7, "sumOfInteractions", "(II)I"⟩
abbrev cX7_partOfFraction : ByteArray := prog_1_method_55_code
def yX7_partOfFraction : MethodName := ⟨RX7, "partOfFraction", "(III)I"⟩
abbrev cX7_commonDivisor : ByteArray := prog_1_method_56_code
def yX7_commonDivisor : MethodName := ⟨RX7, "commonDivisor", "(II)I"⟩
abbrev cX7_rankByBlames : ByteArray := prog_1_method_57_code
def yX7_rankByBlames : MethodName := ⟨RX7, "rankByBlames", "(I)I"⟩
abbrev cX7_drawOrder : ByteArray := prog_1_method_58_code
def yX7_drawOrder : MethodName := ⟨RX7, "drawOrder", "(J)J"⟩
abbrev cX7_flowsBefore : ByteArray := prog_1_method_59_code
def yX7_flowsBefore : MethodName := ⟨RX7, "flowsBefore", "(I)I"⟩
abbrev cX7_smallestCause : ByteArray := prog_1_method_60_code
def yX7_smallestCause : MethodName := ⟨RX7, "smallestCause", "(I)I"⟩
abbrev cX7_isCause : ByteArray := prog_1_method_61_code
def yX7_isCause : MethodName := ⟨RX7, "isCause", "(II)Z"⟩
abbrev cX7_isDroppedWith : ByteArray := prog_1_method_62_code
def yX7_isDroppedWith : MethodName := ⟨RX7, "isDroppedWith", "(II)Z"⟩
abbrev cX7_carryOut : ByteArray := prog_1_method_63_code
def yX7_carryOut : MethodName := ⟨RX7, "carryOut", "(LQueueBlame$Command;I)Z"⟩
def RX8 : String := "QueueBlameModel"
def TX8 : u_T := fun k => match k with
  | 0 => ("QueueBlameModel", "now", "[I", true)
  | 1 => ("QueueBlameModel", "past", "[I", true)
  | 2 => ("QueueBlameModel", "kept", "I", false)
  | 3 => ("QueueBlameModel", "thrown", "I", false)
  | 4 => ("QueueBlameModel", "fates", "[I", true)
  | 5 => ("QueueBlameModel", "drops", "[I", true)
  | 6 => ("QueueBlameModel", "dropMany", "I", false)
  | 7 => ("QueueBlameModel", "loads", "[I", true)
  | 8 => ("QueueBlameModel", "ticks", "I", false)
  | 9 => ("QueueBlameModel", "waiting", "[I", true)
  | 10 => ("QueueBlameModel", "waits", "I", false)
  | 11 => ("QueueBlameModel", "rest", "[I", true)
  | 12 => ("QueueBlameModel", "load", "I", false)
  | 13 => ("QueueBlameModel", "counted", "I", false)
  | 14 => ("QueueBlameModel", "lastFlow", "I", false)
  | 15 => ("QueueBlameModel", "hasReplay", "Z", false)
  | 16 => ("QueueBlameModel", "latestMany", "I", false)
  | 17 => ("QueueBlameModel", "latestFates", "[I", true)
  | 18 => ("QueueBlameModel", "latestDropMany", "I", false)
  | 19 => ("QueueBlameModel", "latestDrops", "[I", true)
  | 20 => ("QueueBlameModel", "latestTicks", "I", false)
  | 21 => ("QueueBlameModel", "latestLoads", "[I", true)
  | 22 => ("QueueBlameModel", "worths", "[I", true)
  | 23 => ("QueueBlameModel", "order", "[I", true)
  | 24 => ("QueueBlameModel", "random", "J", false)
  | 25 => ("QueueBlameModel", "causesUnion", "I", false)
  | 26 => ("QueueBlameModel", "text", "[I", true)
  | 27 => ("QueueBlameModel", "letters", "I", false)
  | 28 => ("QueueBlameModel", "spot", "I", false)
  | 29 => ("QueueBlameModel", "commands", "I", false)
  | _ => ("QueueBlameModel", "command", "[I", true)
def tyX8 : Nat → FieldType := fun k => match k with
  | 0 => .array .int
  | 1 => .array .int
  | 2 => .int
  | 3 => .int
  | 4 => .array .int
  | 5 => .array .int
  | 6 => .int
  | 7 => .array .int
  | 8 => .int
  | 9 => .array .int
  | 10 => .int
  | 11 => .array .int
  | 12 => .int
  | 13 => .int
  | 14 => .int
  | 15 => .boolean
  | 16 => .int
  | 17 => .array .int
  | 18 => .int
  | 19 => .array .int
  | 20 => .int
  | 21 => .array .int
  | 22 => .array .int
  | 23 => .array .int
  | 24 => .long
  | 25 => .int
  | 26 => .array .int
  | 27 => .int
  | 28 => .int
  | 29 => .int
  | _ => .array .int
abbrev wsX80 : List Cond := u_ws RX8 TX8 31
theorem nmX8 : ∀ a, a < 31 → ∀ b, b < 31 → a ≠ b → (TX8 a).2.1 ≠ (TX8 b).2.1 := by decide +kernel
theorem tyX8_ok : ∀ k, k < 31 → parseFieldDescriptor (TX8 k).2.2.1 = some (tyX8 k) := by decide +kernel
abbrev cX8_init : ByteArray := prog_10_method_1_code
def yX8_init : MethodName := ⟨RX8, "<init>", "()V"⟩
abbrev cX8_thrown : ByteArray := prog_10_method_2_code
def yX8_thrown : MethodName := ⟨RX8, "thrown", "()I"⟩
abbrev cX8_in : ByteArray := prog_10_method_3_code
def yX8_in : MethodName := ⟨RX8, "in", "(III)Z"⟩
abbrev cX8_refuses : ByteArray := prog_10_method_4_code
def yX8_refuses : MethodName := ⟨RX8, "refuses", "(I)Z"⟩
abbrev cX8_keeps : ByteArray := prog_10_method_5_code
def yX8_keeps : MethodName := ⟨RX8, "keeps", "()V"⟩
abbrev cX8_isFlow : ByteArray := prog_10_method_6_code
def yX8_isFlow : MethodName := ⟨RX8, "isFlow", "(I)Z"⟩
abbrev cX8_isPacket : ByteArray := prog_10_method_7_code
def yX8_isPacket : MethodName := ⟨RX8, "isPacket", "(I)Z"⟩
abbrev cX8_of : ByteArray := prog_10_method_8_code
def yX8_of : MethodName := ⟨RX8, "of", "(II)I"⟩
abbrev cX8_noRecord : ByteArray := prog_10_method_9_code
def yX8_noRecord : MethodName := ⟨RX8, "noRecord", "(III)I"⟩
abbrev cX8_records : ByteArray := prog_10_method_10_code
def yX8_records : MethodName := ⟨RX8, "records", "(III)I"⟩
abbrev cX8_record : ByteArray := prog_10_method_11_code
def yX8_record : MethodName := ⟨RX8, "record", "(III)I"⟩
abbrev cX8_erase : ByteArray := prog_10_method_12_code
def yX8_erase : MethodName := ⟨RX8, "erase", "(I)I"⟩
abbrev cX8_packets : ByteArray := prog_10_method_13_code
def yX8_packets : MethodName := ⟨RX8, "packets", "()I"⟩
abbrev cX8_packet : ByteArray := prog_10_method_14_code
def yX8_packet : MethodName := ⟨RX8, "packet", "(II)I"⟩
abbrev cX8_least : ByteArray := prog_10_method_15_code
def yX8_least : MethodName := ⟨RX8, "least", "(I)I"⟩
abbrev cX8_greatest : ByteArray := prog_10_method_16_code
def yX8_greatest : MethodName := ⟨RX8, "greatest", "(I)I"⟩
abbrev cX8_fits : ByteArray := prog_10_method_17_code
def yX8_fits : MethodName := ⟨RX8, "fits", "(II)Z"⟩
abbrev cX8_becomes : ByteArray := prog_10_method_18_code
def yX8_becomes : MethodName := ⟨RX8, "becomes", "(II)I"⟩
abbrev cX8_sets : ByteArray := prog_10_method_19_code
def yX8_sets : MethodName := ⟨RX8, "sets", "(II)I"⟩
abbrev cX8_setCapacity : ByteArray := prog_10_method_20_code
def yX8_setCapacity : MethodName := ⟨RX8, "setCapacity", "(I)I"⟩
abbrev cX8_setRate : ByteArray := prog_10_method_21_code
def yX8_setRate : MethodName := ⟨RX8, "setRate", "(I)I"⟩
abbrev cX8_setPolicy : ByteArray := prog_10_method_22_code
def yX8_setPolicy : MethodName := ⟨RX8, "setPolicy", "(I)I"⟩
abbrev cX8_setScheduler : ByteArray := prog_10_method_23_code
def yX8_setScheduler : MethodName := ⟨RX8, "setScheduler", "(I)I"⟩
abbrev cX8_setFactor : ByteArray := prog_10_method_24_code
def yX8_setFactor : MethodName := ⟨RX8, "setFactor", "(I)I"⟩
abbrev cX8_setThreshold : ByteArray := prog_10_method_25_code
def yX8_setThreshold : MethodName := ⟨RX8, "setThreshold", "(I)I"⟩
abbrev cX8_setInterval : ByteArray := prog_10_method_26_code
def yX8_setInterval : MethodName := ⟨RX8, "setInterval", "(I)I"⟩
abbrev cX8_setMeasure : ByteArray := prog_10_method_27_code
def yX8_setMeasure : MethodName := ⟨RX8, "setMeasure", "(I)I"⟩
abbrev cX8_setPriority : ByteArray := prog_10_method_28_code
def yX8_setPriority : MethodName := ⟨RX8, "setPriority", "(II)I"⟩
abbrev cX8_isWhole : ByteArray := prog_10_method_29_code
def yX8_isWhole : MethodName := ⟨RX8, "isWhole", "(I)Z"⟩
abbrev cX8_leaves : ByteArray := prog_10_method_30_code
def yX8_leaves : MethodName := ⟨RX8, "leaves", "(I)V"⟩
abbrev cX8_drops : ByteArray := prog_10_method_31_code
def yX8_drops : MethodName := ⟨RX8, "drops", "(I)V"⟩
abbrev cX8_dropsAt : ByteArray := prog_10_method_32_code
def yX8_dropsAt : MethodName := ⟨RX8, "dropsAt", "(I)V"⟩
abbrev cX8_firstWhole : ByteArray := prog_10_method_33_code
def yX8_firstWhole : MethodName := ⟨RX8, "firstWhole", "()I"⟩
abbrev cX8_lastWhole : ByteArray := prog_10_method_34_code
def yX8_lastWhole : MethodName := ⟨RX8, "lastWhole", "(I)I"⟩
abbrev cX8_longest : ByteArray := prog_10_method_35_code
def yX8_longest : MethodName := ⟨RX8, "longest", "(I)I"⟩
abbrev cX8_makesRoom : ByteArray := prog_10_method_36_code
def yX8_makesRoom : MethodName := ⟨RX8, "makesRoom", "(I)Z"⟩
abbrev cX8_isOverShare : ByteArray := prog_10_method_37_code
def yX8_isOverShare : MethodName := ⟨RX8, "isOverShare", "(I)Z"⟩
abbrev cX8_isAccepted : ByteArray := prog_10_method_38_code
def yX8_isAccepted : MethodName := ⟨RX8, "isAccepted", "(I)Z"⟩
abbrev cX8_arrives : ByteArray := prog_10_method_39_code
def yX8_arrives : MethodName := ⟨RX8, "arrives", "(I)V"⟩
abbrev cX8_firstOf : ByteArray := prog_10_method_40_code
def yX8_firstOf : MethodName := ⟨RX8, "firstOf", "(I)I"⟩
abbrev cX8_scheduled : ByteArray := prog_10_method_41_code
def yX8_scheduled : MethodName := ⟨RX8, "scheduled", "()I"⟩
abbrev cX8_chosen : ByteArray := prog_10_method_42_code
def yX8_chosen : MethodName := ⟨RX8, "chosen", "()I"⟩
abbrev cX8_serves : ByteArray := prog_10_method_43_code
def yX8_serves : MethodName := ⟨RX8, "serves", "(I)V"⟩
abbrev cX8_replays : ByteArray := prog_10_method_44_code
def yX8_replays : MethodName := ⟨RX8, "replays", "(I)V"⟩
abbrev cX8_worthOf : ByteArray := prog_10_method_45_code
def yX8_worthOf : MethodName := ⟨RX8, "worthOf", "(II)I"⟩
abbrev cX8_replay : ByteArray := prog_10_method_46_code
def yX8_replay : MethodName := ⟨RX8, "replay", "(I)I"⟩
abbrev cX8_fate : ByteArray := prog_10_method_47_code
def yX8_fate : MethodName := ⟨RX8, "fate", "(I)I"⟩
abbrev cX8_loadAt : ByteArray := prog_10_method_48_code
def yX8_loadAt : MethodName := ⟨RX8, "loadAt", "(I)I"⟩
abbrev cX8_peak : ByteArray := prog_10_method_49_code
def yX8_peak : MethodName := ⟨RX8, "peak", "()I"⟩
abbrev cX8_dropped : ByteArray := prog_10_method_50_code
def yX8_dropped : MethodName := ⟨RX8, "dropped", "(I)I"⟩
abbrev cX8_worth : ByteArray := prog_10_method_51_code
def yX8_worth : MethodName := ⟨RX8, "worth", "(I)I"⟩
abbrev cX8_worthFor : ByteArray := prog_10_method_52_code
def yX8_worthFor : MethodName := ⟨RX8, "worthFor", "(II)I"⟩
abbrev cX8_weighsAll : ByteArray := prog_10_method_53_code
def yX8_weighsAll : MethodName := ⟨RX8, "weighsAll", "(I)V"⟩
abbrev cX8_size : ByteArray := prog_10_method_54_code
def yX8_size : MethodName := ⟨RX8, "size", "(I)I"⟩
abbrev cX8_orders : ByteArray := prog_10_method_55_code
def yX8_orders : MethodName := ⟨RX8, "orders", "(I)I"⟩
abbrev cX8_contributions : ByteArray := prog_10_method_56_code
def yX8_contributions : MethodName := ⟨RX8, "contributions", "(IZ)J"⟩
abbrev cX8_partOf : ByteArray := prog_10_method_57_code
def yX8_partOf : MethodName := ⟨RX8, "partOf", "(JJI)I"⟩
abbrev cX8_contribution : ByteArray := prog_10_method_58_code
def yX8_contribution : MethodName := ⟨RX8, "contribution", "(II)I"⟩
abbrev cX8_blame : ByteArray := prog_10_method_59_code
def yX8_blame : MethodName := ⟨RX8, "blame", "(II)I"⟩
abbrev cX8_blameFor : ByteArray := prog_10_method_60_code
def yX8_blameFor : MethodName := ⟨RX8, "blameFor", "(III)I"⟩
abbrev cX8_index : ByteArray := prog_10_method_61_code
def yX8_index : MethodName := ⟨RX8, "index", "(II)I"⟩
abbrev cX8_interaction : ByteArray := prog_10_method_62_code
def yX8_interaction : MethodName := ⟨RX8, "interaction", "(III)I"⟩
abbrev cX8_ranked : ByteArray := prog_10_method_63_code
def yX8_ranked : MethodName := ⟨RX8, "ranked", "(I)I"⟩
abbrev cX8_shuffles : ByteArray := prog_10_method_64_code
def yX8_shuffles : MethodName := ⟨RX8, "shuffles", "()V"⟩
abbrev cX8_sampled : ByteArray := prog_10_method_65_code
def yX8_sampled : MethodName := ⟨RX8, "sampled", "(III)I"⟩
abbrev cX8_isDropped : ByteArray := prog_10_method_66_code
def yX8_isDropped : MethodName := ⟨RX8, "isDropped", "(II)Z"⟩
abbrev cX8_smallest : ByteArray := prog_10_method_67_code
def yX8_smallest : MethodName := ⟨RX8, "smallest", "(I)I"⟩
abbrev cX8_cause : ByteArray := prog_10_method_68_code
def yX8_cause : MethodName := ⟨RX8, "cause", "(I)I"⟩
abbrev cX8_suspects : ByteArray := prog_10_method_69_code
def yX8_suspects : MethodName := ⟨RX8, "suspects", "(I)I"⟩
abbrev cX8_capacityFor : ByteArray := prog_10_method_70_code
def yX8_capacityFor : MethodName := ⟨RX8, "capacityFor", "(I)I"⟩
abbrev cX8_bestPolicy : ByteArray := prog_10_method_71_code
def yX8_bestPolicy : MethodName := ⟨RX8, "bestPolicy", "()I"⟩
abbrev cX8_type : ByteArray := prog_10_method_72_code
def yX8_type : MethodName := ⟨RX8, "type", "(I)I"⟩
abbrev cX8_clearText : ByteArray := prog_10_method_73_code
def yX8_clearText : MethodName := ⟨RX8, "clearText", "()I"⟩
abbrev cX8_at : ByteArray := prog_10_method_74_code
def yX8_at : MethodName := ⟨RX8, "at", "(I)I"⟩
abbrev cX8_skipsSpaces : ByteArray := prog_10_method_75_code
def yX8_skipsSpaces : MethodName := ⟨RX8, "skipsSpaces", "()V"⟩
abbrev cX8_isLetter : ByteArray := prog_10_method_76_code
def yX8_isLetter : MethodName := ⟨RX8, "isLetter", "(I)Z"⟩
abbrev cX8_isDigit : ByteArray := prog_10_method_77_code
def yX8_isDigit : MethodName := ⟨RX8, "isDigit", "(I)Z"⟩
abbrev cX8_word : ByteArray := prog_10_method_78_code
def yX8_word : MethodName := ⟨RX8, "word", "()J"⟩
abbrev cX8_meant : ByteArray := prog_10_method_79_code
def yX8_meant : MethodName := ⟨RX8, "meant", "(J)I"⟩
abbrev cX8_readsNumber : ByteArray := prog_10_method_80_code
def yX8_readsNumber : MethodName := ⟨RX8, "readsNumber", "(I)Z"⟩
abbrev cX8_reads : ByteArray := prog_10_method_81_code
def yX8_reads : MethodName := ⟨RX8, "reads", "()I"⟩
abbrev cX8_fault : ByteArray := prog_10_method_82_code
def yX8_fault : MethodName := ⟨RX8, "fault", "()I"⟩
abbrev cX8_does : ByteArray := prog_10_method_83_code
def yX8_does : MethodName := ⟨RX8, "does", "(I)Z"⟩
abbrev cX8_run : ByteArray := prog_10_method_84_code
def yX8_run : MethodName := ⟨RX8, "run", "()I"⟩
abbrev cX8_undo : ByteArray := prog_10_method_85_code
def yX8_undo : MethodName := ⟨RX8, "undo", "()I"⟩
abbrev cX8_checksum : ByteArray := prog_10_method_86_code
def yX8_checksum : MethodName := ⟨RX8, "checksum", "()J"⟩
def RJx8e188 : String := "java/lang/Cloneable"
def TJx8e188 : u_T := fun k => match k with
  | _ => ("", "", "", false)
def tyJx8e188 : Nat → FieldType := fun k => match k with
  | _ => .int
abbrev wsJx8e1880 : List Cond := u_ws RJx8e188 TJx8e188 0
theorem nmJx8e188 : ∀ a, a < 0 → ∀ b, b < 0 → a ≠ b → (TJx8e188 a).2.1 ≠ (TJx8e188 b).2.1 := by decide +kernel
theorem tyJx8e188_ok : ∀ k, k < 0 → parseFieldDescriptor (TJx8e188 k).2.2.1 = some (tyJx8e188 k) := by decide +kernel
def RJx29ce0 : String := "java/lang/Enum"
def TJx29ce0 : u_T := fun k => match k with
  | _ => ("", "", "", false)
def tyJx29ce0 : Nat → FieldType := fun k => match k with
  | _ => .int
abbrev wsJx29ce00 : List Cond := u_ws RJx29ce0 TJx29ce0 0
theorem nmJx29ce0 : ∀ a, a < 0 → ∀ b, b < 0 → a ≠ b → (TJx29ce0 a).2.1 ≠ (TJx29ce0 b).2.1 := by decide +kernel
theorem tyJx29ce0_ok : ∀ k, k < 0 → parseFieldDescriptor (TJx29ce0 k).2.2.1 = some (tyJx29ce0 k) := by decide +kernel
def RJ6 : String := "java/lang/Integer"
def TJ6 : u_T := fun k => match k with
  | _ => ("", "", "", false)
def tyJ6 : Nat → FieldType := fun k => match k with
  | _ => .int
abbrev wsJ60 : List Cond := u_ws RJ6 TJ6 0
theorem nmJ6 : ∀ a, a < 0 → ∀ b, b < 0 → a ≠ b → (TJ6 a).2.1 ≠ (TJ6 b).2.1 := by decide +kernel
theorem tyJ6_ok : ∀ k, k < 0 → parseFieldDescriptor (TJ6 k).2.2.1 = some (tyJ6 k) := by decide +kernel
abbrev cJ6_bitCount_0f7a4 : ByteArray := prog_17_method_49_code
def yJ6_bitCount_0f7a4 : MethodName := ⟨RJ6, "bitCount", "(I)I"⟩
def RJ9 : String := "java/lang/Math"
def TJ9 : u_T := fun k => match k with
  | _ => ("", "", "", false)
def tyJ9 : Nat → FieldType := fun k => match k with
  | _ => .int
abbrev wsJ90 : List Cond := u_ws RJ9 TJ9 0
theorem nmJ9 : ∀ a, a < 0 → ∀ b, b < 0 → a ≠ b → (TJ9 a).2.1 ≠ (TJ9 b).2.1 := by decide +kernel
theorem tyJ9_ok : ∀ k, k < 0 → parseFieldDescriptor (TJ9 k).2.2.1 = some (tyJ9 k) := by decide +kernel
abbrev cJ9_abs_0f7a4 : ByteArray := prog_18_method_59_code
def yJ9_abs_0f7a4 : MethodName := ⟨RJ9, "abs", "(I)I"⟩
abbrev cJ9_max_7cf53 : ByteArray := prog_18_method_65_code
def yJ9_max_7cf53 : MethodName := ⟨RJ9, "max", "(II)I"⟩
abbrev cJ9_max_f86c9 : ByteArray := prog_18_method_66_code
def yJ9_max_f86c9 : MethodName := ⟨RJ9, "max", "(JJ)J"⟩
abbrev cJ9_min_7cf53 : ByteArray := prog_18_method_69_code
def yJ9_min_7cf53 : MethodName := ⟨RJ9, "min", "(II)I"⟩
def RJ0 : String := "java/lang/String"
def TJ0 : u_T := fun k => match k with
  | _ => ("", "", "", false)
def tyJ0 : Nat → FieldType := fun k => match k with
  | _ => .int
abbrev wsJ00 : List Cond := u_ws RJ0 TJ0 0
theorem nmJ0 : ∀ a, a < 0 → ∀ b, b < 0 → a ≠ b → (TJ0 a).2.1 ≠ (TJ0 b).2.1 := by decide +kernel
theorem tyJ0_ok : ∀ k, k < 0 → parseFieldDescriptor (TJ0 k).2.2.1 = some (tyJ0 k) := by decide +kernel
abbrev cJ0_length_8abf5 : ByteArray := prog_20_method_54_code
def yJ0_length_8abf5 : MethodName := ⟨RJ0, "length", "()I"⟩
abbrev cJ0_charAt_5068e : ByteArray := prog_20_method_56_code
def yJ0_charAt_5068e : MethodName := ⟨RJ0, "charAt", "(I)C"⟩
abbrev cJ0_coder_7d493 : ByteArray := prog_20_method_152_code
def yJ0_coder_7d493 : MethodName := ⟨RJ0, "coder", "()B"⟩
abbrev cJ0_isLatin1_aae02 : ByteArray := prog_20_method_154_code
def yJ0_isLatin1_aae02 : MethodName := ⟨RJ0, "isLatin1", "()Z"⟩
abbrev cJ0_checkIndex_df160 : ByteArray := prog_20_method_155_code
def yJ0_checkIndex_df160 : MethodName := ⟨RJ0, "checkIndex", "(II)V"⟩
def RJ1 : String := "java/lang/StringLatin1"
def TJ1 : u_T := fun k => match k with
  | _ => ("", "", "", false)
def tyJ1 : Nat → FieldType := fun k => match k with
  | _ => .int
abbrev wsJ10 : List Cond := u_ws RJ1 TJ1 0
theorem nmJ1 : ∀ a, a < 0 → ∀ b, b < 0 → a ≠ b → (TJ1 a).2.1 ≠ (TJ1 b).2.1 := by decide +kernel
theorem tyJ1_ok : ∀ k, k < 0 → parseFieldDescriptor (TJ1 k).2.2.1 = some (tyJ1 k) := by decide +kernel
abbrev cJ1_charAt_3b067 : ByteArray := prog_21_method_2_code
def yJ1_charAt_3b067 : MethodName := ⟨RJ1, "charAt", "([BI)C"⟩
def RJ2 : String := "java/lang/StringUTF16"
def TJ2 : u_T := fun k => match k with
  | _ => ("", "", "", false)
def tyJ2 : Nat → FieldType := fun k => match k with
  | _ => .int
abbrev wsJ20 : List Cond := u_ws RJ2 TJ2 0
theorem nmJ2 : ∀ a, a < 0 → ∀ b, b < 0 → a ≠ b → (TJ2 a).2.1 ≠ (TJ2 b).2.1 := by decide +kernel
theorem tyJ2_ok : ∀ k, k < 0 → parseFieldDescriptor (TJ2 k).2.2.1 = some (tyJ2 k) := by decide +kernel
abbrev cJ2_getChar_3b067 : ByteArray := prog_22_method_5_code
def yJ2_getChar_3b067 : MethodName := ⟨RJ2, "getChar", "([BI)C"⟩
abbrev cJ2_length_9d52b : ByteArray := prog_22_method_6_code
def yJ2_length_9d52b : MethodName := ⟨RJ2, "length", "([B)I"⟩
abbrev cJ2_charAt_3b067 : ByteArray := prog_22_method_83_code
def yJ2_charAt_3b067 : MethodName := ⟨RJ2, "charAt", "([BI)C"⟩
abbrev cJ2_checkIndex_2214a : ByteArray := prog_22_method_91_code
def yJ2_checkIndex_2214a : MethodName := ⟨RJ2, "checkIndex", "(I[B)V"⟩
def RJ10 : String := "java/lang/System"
def TJ10 : u_T := fun k => match k with
  | _ => ("", "", "", false)
def tyJ10 : Nat → FieldType := fun k => match k with
  | _ => .int
abbrev wsJ100 : List Cond := u_ws RJ10 TJ10 0
theorem nmJ10 : ∀ a, a < 0 → ∀ b, b < 0 → a ≠ b → (TJ10 a).2.1 ≠ (TJ10 b).2.1 := by decide +kernel
theorem tyJ10_ok : ∀ k, k < 0 → parseFieldDescriptor (TJ10 k).2.2.1 = some (tyJ10 k) := by decide +kernel
def RJ3 : String := "jdk/internal/util/Preconditions"
def TJ3 : u_T := fun k => match k with
  | _ => ("", "", "", false)
def tyJ3 : Nat → FieldType := fun k => match k with
  | _ => .int
abbrev wsJ30 : List Cond := u_ws RJ3 TJ3 0
theorem nmJ3 : ∀ a, a < 0 → ∀ b, b < 0 → a ≠ b → (TJ3 a).2.1 ≠ (TJ3 b).2.1 := by decide +kernel
theorem tyJ3_ok : ∀ k, k < 0 → parseFieldDescriptor (TJ3 k).2.2.1 = some (tyJ3 k) := by decide +kernel
abbrev cJ3_checkIndex_8e157 : ByteArray := prog_25_method_11_code
def yJ3_checkIndex_8e157 : MethodName := ⟨RJ3, "checkIndex", "(IILjava/util/function/BiFunction;)I"⟩
def RL : String := "QueueBlameLaw"
abbrev cL_record : ByteArray := method_3_code
def yL_record : MethodName := ⟨RL, "record", "(LQueueBlame;III[J)I"⟩
abbrev cL_erase : ByteArray := method_4_code
def yL_erase : MethodName := ⟨RL, "erase", "(LQueueBlame;I[J)I"⟩
abbrev cL_packet : ByteArray := method_5_code
def yL_packet : MethodName := ⟨RL, "packet", "(LQueueBlame;II[J)I"⟩
abbrev cL_setCapacity : ByteArray := method_6_code
def yL_setCapacity : MethodName := ⟨RL, "setCapacity", "(LQueueBlame;I[J)I"⟩
abbrev cL_setRate : ByteArray := method_7_code
def yL_setRate : MethodName := ⟨RL, "setRate", "(LQueueBlame;I[J)I"⟩
abbrev cL_setPolicy : ByteArray := method_8_code
def yL_setPolicy : MethodName := ⟨RL, "setPolicy", "(LQueueBlame;I[J)I"⟩
abbrev cL_setScheduler : ByteArray := method_9_code
def yL_setScheduler : MethodName := ⟨RL, "setScheduler", "(LQueueBlame;I[J)I"⟩
abbrev cL_setFactor : ByteArray := method_10_code
def yL_setFactor : MethodName := ⟨RL, "setFactor", "(LQueueBlame;I[J)I"⟩
abbrev cL_setThreshold : ByteArray := method_11_code
def yL_setThreshold : MethodName := ⟨RL, "setThreshold", "(LQueueBlame;I[J)I"⟩
abbrev cL_setInterval : ByteArray := method_12_code
def yL_setInterval : MethodName := ⟨RL, "setInterval", "(LQueueBlame;I[J)I"⟩
abbrev cL_setMeasure : ByteArray := method_13_code
def yL_setMeasure : MethodName := ⟨RL, "setMeasure", "(LQueueBlame;I[J)I"⟩
abbrev cL_setPriority : ByteArray := method_14_code
def yL_setPriority : MethodName := ⟨RL, "setPriority", "(LQueueBlame;II[J)I"⟩
abbrev cL_replay : ByteArray := method_15_code
def yL_replay : MethodName := ⟨RL, "replay", "(LQueueBlame;I[J)I"⟩
abbrev cL_worth : ByteArray := method_16_code
def yL_worth : MethodName := ⟨RL, "worth", "(LQueueBlame;I[J)I"⟩
abbrev cL_worthFor : ByteArray := method_17_code
def yL_worthFor : MethodName := ⟨RL, "worthFor", "(LQueueBlame;II[J)I"⟩
abbrev cL_contribution : ByteArray := method_18_code
def yL_contribution : MethodName := ⟨RL, "contribution", "(LQueueBlame;II[J)I"⟩
abbrev cL_blame : ByteArray := method_19_code
def yL_blame : MethodName := ⟨RL, "blame", "(LQueueBlame;II[J)I"⟩
abbrev cL_blameFor : ByteArray := method_20_code
def yL_blameFor : MethodName := ⟨RL, "blameFor", "(LQueueBlame;III[J)I"⟩
abbrev cL_index : ByteArray := method_21_code
def yL_index : MethodName := ⟨RL, "index", "(LQueueBlame;II[J)I"⟩
abbrev cL_interaction : ByteArray := method_22_code
def yL_interaction : MethodName := ⟨RL, "interaction", "(LQueueBlame;III[J)I"⟩
abbrev cL_ranked : ByteArray := method_23_code
def yL_ranked : MethodName := ⟨RL, "ranked", "(LQueueBlame;I[J)I"⟩
abbrev cL_sampled : ByteArray := method_24_code
def yL_sampled : MethodName := ⟨RL, "sampled", "(LQueueBlame;III[J)I"⟩
abbrev cL_cause : ByteArray := method_25_code
def yL_cause : MethodName := ⟨RL, "cause", "(LQueueBlame;I[J)I"⟩
abbrev cL_suspects : ByteArray := method_26_code
def yL_suspects : MethodName := ⟨RL, "suspects", "(LQueueBlame;I[J)I"⟩
abbrev cL_capacityFor : ByteArray := method_27_code
def yL_capacityFor : MethodName := ⟨RL, "capacityFor", "(LQueueBlame;I[J)I"⟩
abbrev cL_type : ByteArray := method_28_code
def yL_type : MethodName := ⟨RL, "type", "(LQueueBlame;I[J)I"⟩
abbrev cL_run : ByteArray := method_29_code
def yL_run : MethodName := ⟨RL, "run", "(LQueueBlame;[J)I"⟩
abbrev cL_undo : ByteArray := method_30_code
def yL_undo : MethodName := ⟨RL, "undo", "(LQueueBlame;[J)I"⟩
abbrev cL_law : ByteArray := code
def yL_law : MethodName := ⟨RL, "law", "([I)Z"⟩
end
section
/-! ===== BEGIN words of one list among another's, by their places ===== -/
theorem goodIn_r {big : List Cond} (ws : List Cond) (ps : List Nat) (hp : ws = ps.filterMap (fun i => big[i]?)) (h : ws.all goodWord = true) : GoodIn big ws := by
  intro w hw
  have h1 := List.all_eq_true.mp h w hw
  rw [hp] at hw
  obtain ⟨i, -, hi⟩ := List.mem_filterMap.mp hw
  have hm : w ∈ big := by first | exact List.mem_of_getElem? hi | exact List.getElem?_mem hi
  exact ⟨hm, good_of_word h1⟩
theorem goodIn_app {big a b : List Cond} (ha : GoodIn big a) (hb : GoodIn big b) : GoodIn big (a ++ b) := fun w h => (List.mem_append.mp h).elim (ha w) (hb w)
theorem goodIn_ca {big a b : List Cond} {c : Cond} (ha : GoodIn big (c :: a)) (hb : GoodIn big b) : GoodIn big (c :: (a ++ b)) := fun w h => (List.mem_cons.mp h).elim (fun e => ha w (List.mem_cons.mpr (Or.inl e))) (fun h => (List.mem_append.mp h).elim (fun h => ha w (List.mem_cons.mpr (Or.inr h))) (hb w))
theorem goodIn_sub {big ws : List Cond} (hm : ∀ w ∈ ws, w ∈ big) (h : ws.all goodWord = true) : GoodIn big ws := fun w hw => ⟨hm w hw, good_of_word (List.all_eq_true.mp h w hw)⟩
/-! ===== END ===== -/

/-! ===== BEGIN exceptions that leave a method, and their catching by the caller (launches without stack traces) ===== -/
section VXA
/-! The laws vx_back, vx_callV, vx_callS, vx_callSW, vx_throw0, vx_throwS follow proofs of the library, with one case more: JvmDerived/Free/Laws.lean (Back.of_free), Shelf42/LK1.lean (callV, callS), Shelf/KitTraced.lean (throwNew0V, throwNewS). -/
/-- where a method has thrown q: the class by its name, the cell, what was written, the world -/
def vx_T (XC : String → State → State → Prop) (st : State) (q : Addr) (t : State) (mc ms : Nat) (free : Addr → Prop) : Prop :=
  ∃ (E : String) (ce : Cell) (L : List Loc), XC E st t ∧ t.heap[q]? = some ce ∧ ce.vm = .none ∧ st.vm.findClass E = some ce.cls ∧ st.WarmedH t.vm ∧ st.sameButNew ({ t with vm := st.vm } : State) L mc ms ∧ ∀ z ∈ L, free z.base
def vx_Q (Qc : Array Value → State → Outcome → State → Prop) (XC : String → State → State → Prop) (mc ms : Nat) (free : Addr → Prop) : Array Value → State → Outcome → State → Prop := fun a st o t =>
  (Qc a st o t ∧ ∃ L, FrameEnd st o t L mc ms ∧ ∀ q ∈ L, free q.base) ∨ ∃ q, o = .threw q ∧ vx_T XC st q t mc ms free
/-- a callee that returns or throws -/
def vx_Met (l : Launch) (y : MethodName) (ws : List Cond) (rm : Room) (Pc : Array Value → State → Prop) (Qc : Array Value → State → Outcome → State → Prop) (XC : String → State → State → Prop) (mc ms : Nat) (free : Addr → Prop) : Prop :=
  MetFree l y (headSpec ws rm) Pc (fun _ _ _ _ _ => True) (vx_Q Qc XC mc ms free)
def vx_Post (XC : String → State → State → Prop) (mc ms : Nat) (free : Addr → Prop) : Pt → Array Value → Addr → Pt → Prop := fun A a q B =>
  ∃ (g : JFrame) (mk : MethodId) (t : State) (L : List Loc) (E : String) (ce : Cell), B.U.heap = t.heap ∧ B.U.vm = t.vm ∧ XC E (A.U.calling g mk a) t ∧ t.heap[q]? = some ce ∧ ce.vm = .none ∧ A.U.vm.findClass E = some ce.cls ∧ B.locs = A.locs ++ L ∧ (∀ z ∈ L, free z.base) ∧ B.cells = A.cells + mc ∧ B.slots = A.slots + ms
def vx_Back (l : Launch) (R : Room) (p : Program) (e : Env) (below : List Frame) (s : State) (sargs : Array Value) (y : MethodName) (len W9 : Nat)
    (Pre : Pt → Array Value → Prop) (Post : Pt → Array Value → Option Value → Pt → Prop) (PostX : Pt → Array Value → Addr → Pt → Prop) : Prop :=
  ∀ (m : MethodId) (meth : Method) (c : Code) (A : Pt) (g : JFrame) (ig : Instr) (mk : MethodId) (a : Array Value),
    Stand p l e R s m sargs below meth c A.U A.locs A.cells A.slots → g.method = m → g.locals.size = c.maxLocals → decode c.code g.pc = .ok (ig, len) →
    2 * g.monitorRoom + (g.stack.map fun v => v.category).sum ≤ W9 → A.U.methodNamed? y = some mk → Pre A a →
    (∃ (v : Option Value) (B : Pt), Stand p l e R s m sargs below meth c B.U B.locs B.cells B.slots ∧ Post A a v B ∧
      Steps p.tables e below (doInvoke e (A.U.setTop g) [] mk a).1 (B.U.setTop { g with pc := g.pc + len, stack := v.toList ++ g.stack })) ∨
    (∃ (q : Addr) (B : Pt), Stand p l e R s m sargs below meth c B.U B.locs B.cells B.slots ∧ PostX A a q B ∧
      Steps p.tables e below (doInvoke e (A.U.setTop g) [] mk a).1 ((B.U.setTop g).pushFrame (.throwing q)))
section Payer
variable {l : Launch} {R : Room} {p : Program} {e : Env} {below : List Frame} {s : State} {sargs : Array Value} {y : MethodName} {len W9 : Nat}
theorem vx_back {ws : List Cond} {rm : Room} {Pc : Array Value → State → Prop} {Qc : Array Value → State → Outcome → State → Prop} {XC : String → State → State → Prop} {mc ms : Nat} {free : Addr → Prop} {bytes : ByteArray} {maxL : Nat} {ret : Option FieldType}
    (hM : vx_Met l y ws rm Pc Qc XC mc ms free) (hblind : FrameBlind Pc) (hrc : rm.cells = mc) (hrs : rm.slots = ms)
    (hframes : rm.frames + 1 ≤ R.frames) (hlocals : W9 + (maxL + 11) + rm.locals ≤ R.locals)
    (hws : ∀ w ∈ ws, ∀ a' U, s.WarmedH U.vm → w.before a' U = true) (hcode : Cond.code y bytes maxL ret ∈ ws) (hinit : ∀ a' U, s.WarmedH U.vm → (Cond.initialized y.cls).before a' U = true) :
    vx_Back l R p e below s sargs y len W9 (PreOf R mc ms Pc) (PostOf Qc mc ms free) (vx_Post XC mc ms free) := by
  intro m meth c A g ig mk a X hg hsize hdg hW hn hp
  have h1 : (headSpec ws rm).pre.before a A.U = true := atoms_intro fun w hw => hws w hw _ _ X.warmed
  have h2 : (Cond.code y bytes maxL ret).before a A.U = true := hws _ hcode _ _ X.warmed
  have h3 : (Cond.initialized y.cls).before a A.U = true := hinit _ _ X.warmed
  have h4 : A.cells + (headSpec ws rm).room.cells ≤ R.cells := by rw [show (headSpec ws rm).room.cells = mc from hrc]; exact hp.1
  have h5 : A.slots + (headSpec ws rm).room.slots ≤ R.slots := by rw [show (headSpec ws rm).room.slots = ms from hrs]; exact hp.2.1
  have hPc : Pc a (A.U.calling g mk a) := hblind _ _ _ _ hp.2.2
  obtain ⟨U, Ls, c0, s0⟩ := A
  dsimp only [Pt.U, Pt.locs, Pt.cells, Pt.slots] at h1 h2 h3 h4 h5 X hn hPc ⊢
  obtain ⟨methY, cY, hmY, hcY, -, hlY, -, -, -, -⟩ := Cond.code_spec hn h2
  obtain ⟨kY, hkY, -⟩ := className_of_methodNamed hn
  have hinitY : kY.init = .initialized := Cond.initialized_spec (findClass_of_methodNamed hn) hkY h3
  have h : At U g.method c below := by rw [hg]; exact X.here
  have hlocals9 : W9 + (maxL + 11) + (headSpec ws rm).room.locals ≤ R.locals := hlocals
  have happ : (headSpec ws rm).appliesLoose y e.platform (U.calling g mk a) = true :=
    Spec.appliesLoose_calling (g := g) h hdg hn hkY hinitY
      (X.room_calling (g := g) (R' := (headSpec ws rm).room) hsize hmY hcY hframes (by rw [hlY]; omega) h4 h5) h1
  obtain ⟨mid, hmid⟩ := h.above
  have hfr : (U.setTop g).frames = (.java g :: mid) ++ below := by rw [State.frames_setTop' g h.top, hmid]; rfl
  obtain ⟨o, s₂, hsteps, -, hend, hq⟩ := Steps.callFree hM p X.admits X.cas X.clock (acts := []) hfr happ hPc trivial
  have hq' : vx_Q Qc XC mc ms free a (U.calling g mk a) o s₂ := hq
  rw [State.frames_setTop' g h.top] at hend
  obtain ⟨g₀, hg0⟩ := Option.isSome_iff_exists.mp h.top
  obtain ⟨r, hr⟩ := State.topJava?_eq_some.mp hg0
  have hr' : (({ U with heap := s₂.heap, slotsUsed := s₂.slotsUsed } : State).setVm s₂.vm).frames = .java g₀ :: r := hr
  rcases hq' with ⟨hqc, L, hfe, hL⟩ | ⟨q, rfl, E, ce, L, hx, hce, hcv, hcl, hW₂, hsm, hL⟩
  · obtain ⟨⟨v, rfl⟩, hW₂, e2, q2, q3, q4, q5, q6⟩ := id hfe
    have e3 : s₂ = ({ (U.calling g mk a).setFrames s₂.frames with heap := s₂.heap, slotsUsed := s₂.slotsUsed } : State).setVm s₂.vm := by
      have : s₂ = ({ s₂ with vm := (U.calling g mk a).vm } : State).setVm s₂.vm := rfl
      rw [e2] at this
      exact this
    obtain ⟨c₂, i₂, len₂, hc₂, hd₂, hf₂⟩ := hend
    have hW' : U.WarmedH s₂.vm := hW₂
    have hcc : c₂ = c := by
      have h1 : s₂.code? g.method = U.code? g.method := by
        rw [State.code?_eq, State.code?_eq, hW'.alike.method?]
      exact Option.some.inj (hc₂.symm.trans (h1.trans h.code))
    subst hcc
    have hlen : len₂ = len := by rw [hdg] at hd₂; cases hd₂; rfl
    subst hlen
    have hs₂ : s₂ = (({ U with heap := s₂.heap, slotsUsed := s₂.slotsUsed } : State).setVm s₂.vm).setTop { g with pc := g.pc + len₂, stack := v.toList ++ g.stack } := by
      refine e3.trans ?_
      rw [hf₂, State.calling_eq h.top, State.setFrames_setFrames, State.setTop_of_frames _ hr', hr]
      rfl
    have hsame : U.sameButNew ({ U with heap := s₂.heap, slotsUsed := s₂.slotsUsed } : State) L mc ms := by
      refine ⟨?_, q2, q3, q4, q5, q6⟩
      obtain ⟨t, ht, -⟩ := State.frames_cons hr
      show ({ U with heap := s₂.heap, slotsUsed := s₂.slotsUsed } : State) = { U.setFrames U.frames with heap := s₂.heap, slotsUsed := s₂.slotsUsed }
      rw [State.setFrames_self ht]
    subst hg
    refine Or.inl ⟨v, ⟨(({ U with heap := s₂.heap, slotsUsed := s₂.slotsUsed } : State).setVm s₂.vm), Ls ++ L, c0 + mc, s0 + ms⟩,
      ⟨X.admits, X.cas, X.clock, X.frames, X.room, X.hears, X.method, X.code, (X.here.setHeapUsed s₂.heap s₂.slotsUsed).setVm hW'.alike, X.tail, State.WarmedH.trans X.warmed hW', X.limits, X.bytes, X.same.trans (hsame.setVm s.vm)⟩,
      ⟨g, mk, s₂, L, rfl, rfl, hqc, rfl, hL, rfl, rfl⟩, ?_⟩
    show Steps p.tables e below _ ((({ U with heap := s₂.heap, slotsUsed := s₂.slotsUsed } : State).setVm s₂.vm).setTop { g with pc := g.pc + len₂, stack := v.toList ++ g.stack })
    rw [← hs₂]
    exact hsteps
  · obtain ⟨e2, q2, q3, q4, q5, q6⟩ := id hsm
    have e3 : s₂ = ({ (U.calling g mk a).setFrames s₂.frames with heap := s₂.heap, slotsUsed := s₂.slotsUsed } : State).setVm s₂.vm := by
      have : s₂ = ({ s₂ with vm := (U.calling g mk a).vm } : State).setVm s₂.vm := rfl
      rw [e2] at this
      exact this
    have hf₂ : s₂.frames = .throwing q :: .java g :: U.frames.tail := hend
    have hW' : U.WarmedH s₂.vm := hW₂
    have hs₂ : s₂ = ((({ U with heap := s₂.heap, slotsUsed := s₂.slotsUsed } : State).setVm s₂.vm).setTop g).pushFrame (.throwing q) := by
      refine e3.trans ?_
      rw [hf₂, State.calling_eq h.top, State.setFrames_setFrames, State.pushFrame, State.frames_setTop _ hr', State.setTop_of_frames _ hr', State.setFrames_setFrames, hr]
      rfl
    have hsame : U.sameButNew ({ U with heap := s₂.heap, slotsUsed := s₂.slotsUsed } : State) L mc ms := by
      refine ⟨?_, q2, q3, q4, q5, q6⟩
      obtain ⟨t, ht, -⟩ := State.frames_cons hr
      show ({ U with heap := s₂.heap, slotsUsed := s₂.slotsUsed } : State) = { U.setFrames U.frames with heap := s₂.heap, slotsUsed := s₂.slotsUsed }
      rw [State.setFrames_self ht]
    subst hg
    refine Or.inr ⟨q, ⟨(({ U with heap := s₂.heap, slotsUsed := s₂.slotsUsed } : State).setVm s₂.vm), Ls ++ L, c0 + mc, s0 + ms⟩,
      ⟨X.admits, X.cas, X.clock, X.frames, X.room, X.hears, X.method, X.code, (X.here.setHeapUsed s₂.heap s₂.slotsUsed).setVm hW'.alike, X.tail, State.WarmedH.trans X.warmed hW', X.limits, X.bytes, X.same.trans (hsame.setVm s.vm)⟩,
      ⟨g, mk, s₂, L, E, ce, rfl, rfl, hx, hce, hcv, hcl, rfl, hL, rfl, rfl⟩, ?_⟩
    show Steps p.tables e below _ (((({ U with heap := s₂.heap, slotsUsed := s₂.slotsUsed } : State).setVm s₂.vm).setTop g).pushFrame (.throwing q))
    rw [← hs₂]
    exact hsteps
end Payer
section Calls
variable {p : Program} {l : Launch} {e : Env} {R : Room} {s : State} {m : MethodId} {args : Array Value} {below : List Frame} {meth : Method} {c : Code} {T : State} {locs : List Loc} {cells slots : Nat}
theorem vx_callV (X : Stand p l e R s m args below meth c T locs cells slots) (hexec : p.tables.exec = Jvm.exec) {own C : String} {index : Nat} {y : MethodName} {bytes : ByteArray} {maxL : Nat} {ret : Option FieldType}
    (hown : s.vm.findClass own = some m.cls) (hlink : (Cond.methodLink own index y).before args s = true) (hinst : (Cond.instanceMethod y).before args s = true) (hsel : (Cond.selects C y y).before args s = true)
    (hcode : (Cond.code y bytes maxL ret).before args s = true) (hy : y.cls ≠ "java/lang/invoke/MethodHandle" ∧ y.cls ≠ "java/lang/invoke/VarHandle")
    {W9 : Nat} {Pre : Pt → Array Value → Prop} {Post : Pt → Array Value → Option Value → Pt → Prop} {PostX : Pt → Array Value → Addr → Pt → Prop} (hK : vx_Back l R p e below s args y 3 W9 Pre Post PostX)
    {b : Addr} {cellB : Cell} (hcell : T.heap[b]? = some cellB) (hobj : cellB.vm.isStatics = false) (hcls : s.vm.findClass C = some cellB.cls)
    {g : JFrame} (hg : g.method = m) (hsize : g.locals.size = c.maxLocals) {argsL rest : List Value} (hlen : ∀ sig, parseMethodDescriptor y.desc = some sig → argsL.length = sig.parameters.length)
    (hstack : g.stack = argsL.reverse ++ .ref b :: rest) (hW : 2 * g.monitorRoom + (rest.map fun v => v.category).sum ≤ W9) (hdg : decode c.code g.pc = .ok (.invokevirtual index, 3))
    (hpre : ∀ vm₁, s.WarmedH vm₁ → Pre ⟨T.setVm vm₁, locs, cells, slots⟩ (Value.ref b :: argsL).toArray) :
    (∃ (v : Option Value) (vm₁ : Vm) (B : Pt), s.WarmedH vm₁ ∧ Stand p l e R s m args below meth c B.U B.locs B.cells B.slots ∧ Post ⟨T.setVm vm₁, locs, cells, slots⟩ (Value.ref b :: argsL).toArray v B ∧
      ∀ target, Steps p.tables e below (B.U.setTop { g with pc := g.pc + 3, stack := v.toList ++ rest }) target → Steps p.tables e below (T.setTop g) target) ∨
    (∃ (q : Addr) (vm₁ : Vm) (B : Pt), s.WarmedH vm₁ ∧ Stand p l e R s m args below meth c B.U B.locs B.cells B.slots ∧ PostX ⟨T.setVm vm₁, locs, cells, slots⟩ (Value.ref b :: argsL).toArray q B ∧
      Steps p.tables e below (T.setTop g) ((B.U.setTop { g with stack := rest }).pushFrame (.throwing q))) := by
  obtain ⟨mk, methM, hnamed, hmethM, hstM, habM⟩ := Cond.instanceMethod_spec hinst
  obtain ⟨methM', cM, hmethM', -, -, -, -, -, -, hsigM⟩ := Cond.code_spec hnamed hcode
  cases hmethM.symm.trans hmethM'
  obtain ⟨c2, r2, m2, q1, q2, q3, q4, kP, hkP, hkPi⟩ := Cond.selects_spec hsel
  cases hcls.symm.trans q1
  cases (State.methodFound?_of_named hnamed hy).symm.trans q2
  cases hnamed.symm.trans q3
  have hselP : selectMethod e.platform s.vm cellB.cls mk = .method mk := by rw [Launch.admits_selectMethod X.admits]; exact q4
  obtain ⟨vm₁, X₁, hstep₁⟩ := X.invokevirtual hexec hown hlink hnamed hmethM hstM hkP hkPi hy (a := b) (cell := cellB) hcell
    (fun z h => by rw [h] at hobj; cases hobj) hselP hmethM habM hkP hkPi (g := g) hg (argsL := argsL) (rest := rest) (hlen _ hsigM) hstack hdg
  rcases hK m meth c ⟨T.setVm vm₁, locs, cells, slots⟩ { g with stack := rest } (.invokevirtual index) mk (Value.ref b :: argsL).toArray X₁ hg hsize hdg hW (X₁.named hnamed) (hpre vm₁ X₁.warmed) with ⟨v, B, X', hpost, hsteps⟩ | ⟨q, B, X', hpost, hsteps⟩
  · exact Or.inl ⟨v, vm₁, B, X₁.warmed, X', hpost, fun target h => hstep₁ _ fun acts => by rw [doInvoke_state]; exact hsteps.trans h⟩
  · exact Or.inr ⟨q, vm₁, B, X₁.warmed, X', hpost, hstep₁ _ fun acts => by rw [doInvoke_state]; exact hsteps⟩
theorem vx_callS (X : Stand p l e R s m args below meth c T locs cells slots) (hexec : p.tables.exec = Jvm.exec) {own : String} {index : Nat} {y : MethodName} {bytes : ByteArray} {maxL : Nat} {ret : Option FieldType}
    (hown : s.vm.findClass own = some m.cls) (hlink : (Cond.methodLink own index y).before args s = true) (hstat : (Cond.static y).before args s = true) (hinit : (Cond.initialized y.cls).before args s = true)
    (hcode : (Cond.code y bytes maxL ret).before args s = true) (hy : y.cls ≠ "java/lang/invoke/MethodHandle" ∧ y.cls ≠ "java/lang/invoke/VarHandle")
    {W9 : Nat} {Pre : Pt → Array Value → Prop} {Post : Pt → Array Value → Option Value → Pt → Prop} {PostX : Pt → Array Value → Addr → Pt → Prop} (hK : vx_Back l R p e below s args y 3 W9 Pre Post PostX)
    {g : JFrame} (hg : g.method = m) (hsize : g.locals.size = c.maxLocals) {argsL rest : List Value} (hlen : ∀ sig, parseMethodDescriptor y.desc = some sig → argsL.length = sig.parameters.length)
    (hstack : g.stack = argsL.reverse ++ rest) (hW : 2 * g.monitorRoom + (rest.map fun v => v.category).sum ≤ W9) (hdg : decode c.code g.pc = .ok (.invokestatic index, 3))
    (hpre : ∀ vm₁, s.WarmedH vm₁ → Pre ⟨T.setVm vm₁, locs, cells, slots⟩ argsL.toArray) :
    (∃ (v : Option Value) (vm₁ : Vm) (B : Pt), s.WarmedH vm₁ ∧ Stand p l e R s m args below meth c B.U B.locs B.cells B.slots ∧ Post ⟨T.setVm vm₁, locs, cells, slots⟩ argsL.toArray v B ∧
      ∀ target, Steps p.tables e below (B.U.setTop { g with pc := g.pc + 3, stack := v.toList ++ rest }) target → Steps p.tables e below (T.setTop g) target) ∨
    (∃ (q : Addr) (vm₁ : Vm) (B : Pt), s.WarmedH vm₁ ∧ Stand p l e R s m args below meth c B.U B.locs B.cells B.slots ∧ PostX ⟨T.setVm vm₁, locs, cells, slots⟩ argsL.toArray q B ∧
      Steps p.tables e below (T.setTop g) ((B.U.setTop { g with stack := rest }).pushFrame (.throwing q))) := by
  obtain ⟨mk, hnamed⟩ := Cond.code_named hcode
  obtain ⟨methM, cM, hmethM, -, -, -, -, -, -, hsigM⟩ := Cond.code_spec hnamed hcode
  have hstatic : methM.isStatic = true := Cond.static_spec hnamed hmethM hstat
  obtain ⟨kP, hkP, -⟩ := className_of_methodNamed hnamed
  have hinitP : kP.init = .initialized := Cond.initialized_spec (findClass_of_methodNamed hnamed) hkP hinit
  obtain ⟨vm₁, X₁, hstep₁⟩ := X.invokestatic hexec hown hlink hnamed hmethM hstatic hkP hinitP hy (g := g) hg (argsL := argsL) (rest := rest) (hlen _ hsigM) hstack hdg
  rcases hK m meth c ⟨T.setVm vm₁, locs, cells, slots⟩ { g with stack := rest } (.invokestatic index) mk argsL.toArray X₁ hg hsize hdg hW (X₁.named hnamed) (hpre vm₁ X₁.warmed) with ⟨v, B, X', hpost, hsteps⟩ | ⟨q, B, X', hpost, hsteps⟩
  · exact Or.inl ⟨v, vm₁, B, X₁.warmed, X', hpost, fun target h => hstep₁ _ fun acts => by rw [doInvoke_state]; exact hsteps.trans h⟩
  · exact Or.inr ⟨q, vm₁, B, X₁.warmed, X', hpost, hstep₁ _ fun acts => by rw [doInvoke_state]; exact hsteps⟩
end Calls
theorem vx_cls {s : State} {T : State} {vm₁ : Vm} {E : String} {k : ClassId} (hW : s.WarmedH vm₁) (h : (T.setVm vm₁).vm.findClass E = some k) : s.vm.findClass E = some k := by
  have h1 : vm₁.findClass E = some k := h
  rw [hW.alike.findClass] at h1
  exact h1
/-- the method's frame g, with q thrown over it -/
def vx_W (p : Program) (l : Launch) (e : Env) (R : Room) (s : State) (m : MethodId) (args : Array Value) (below : List Frame) (meth : Method) (c : Code) (H : Heap) (locs : List Loc) (cells slots : Nat) (Q : State → Prop) (g : JFrame) (q : Addr) : Prop :=
  ∀ T : State, T.heap = H → Stand p l e R s m args below meth c T locs cells slots → ∃ t, Steps p.tables e below ((T.setTop g).pushFrame (.throwing q)) t ∧ Q t
def vx_Run (p : Program) (l : Launch) (e : Env) (R : Room) (s : State) (m : MethodId) (args : Array Value) (below : List Frame) (meth : Method) (c : Code) (H : Heap) (locs : List Loc) (cells slots mc ms : Nat) (g : JFrame) (rest : List Value) (Qa : State → Outcome → State → Prop) (XC : String → State → State → Prop) (free : Addr → Prop) : Prop :=
  ∀ T : State, T.heap = H → Stand p l e R s m args below meth c T locs cells slots →
    (∃ (v : Option Value) (st₀ t T' : State) (L : List Loc), st₀.heap = H ∧ Stand p l e R s m args below meth c T' (locs ++ L) (cells + mc) (slots + ms) ∧ (∀ q ∈ L, free q.base) ∧ T'.heap = t.heap ∧ T'.vm = t.vm ∧ Qa st₀ (.returned v) t ∧
      Goes p e below T g T' { g with pc := g.pc + 3, stack := v.toList ++ rest }) ∨
    (∃ (q : Addr) (st₀ t T' : State) (L : List Loc) (E : String) (ce : Cell), st₀.heap = H ∧ Stand p l e R s m args below meth c T' (locs ++ L) (cells + mc) (slots + ms) ∧ (∀ z ∈ L, free z.base) ∧ T'.heap = t.heap ∧ T'.vm = t.vm ∧ XC E st₀ t ∧ t.heap[q]? = some ce ∧ ce.vm = .none ∧ s.vm.findClass E = some ce.cls ∧
      Steps p.tables e below (T.setTop g) ((T'.setTop { g with stack := rest }).pushFrame (.throwing q)))
def vx_X {S : Type} (px : S → Prop) (B : String → S → State → Prop) (A : Nat → Prop) : String → State → State → Prop := fun E st t => ∃ u : S, px u ∧ B E u t ∧ va_F A st t
section Runs
variable {p : Program} {l : Launch} {e : Env} {R : Room} {s : State} {m : MethodId} {args : Array Value} {below : List Frame} {meth : Method} {c : Code} {H : Heap} {locs : List Loc} {cells slots : Nat}
variable {y : MethodName} {bytes cc : ByteArray} {maxL nL mc ms n index : Nat} {ret : Option FieldType} {ws : List Cond} {rm : Room} {Pc : Array Value → State → Prop} {Qc : Array Value → State → Outcome → State → Prop} {XC : String → State → State → Prop} {free : Addr → Prop} {Ts : List Cond} {own C : String} {b : Addr} {As rest : List Value} {g : JFrame}
theorem vx_callBack (cb : CallB R s args own index y bytes maxL ret ws rm mc ms n) (hM : vx_Met l y ws rm Pc Qc XC mc ms free) (hbl : FrameBlind Pc) : vx_Back l R p e below s args y 3 8 (PreOf R mc ms Pc) (PostOf Qc mc ms free) (vx_Post XC mc ms free) := by
  obtain ⟨hrc, hrs, hfr, hlo, hws, hcw, -, hini, -⟩ := cb
  exact vx_back (bytes := bytes) (maxL := maxL) (ret := ret) hM hbl hrc hrs hfr hlo hws hcw (fun a' U hW => word_at hW (Or.inl (by first | rfl | simp [Cond.onTables, Cond.keeps, Cond.steady])) hini)
theorem vx_runV (S : CallFix p m c cc nL s args Ts own) (hM : vx_Met l y ws rm Pc Qc XC mc ms free) (cw : CallW R s args own C index y bytes maxL ret ws rm mc ms n) (hp : PreV s H C b Pc As)
    (hg : g.method = m) (hn : As.length = n) (hsize : g.locals.size = nL) (hstack : g.stack = As.reverse ++ .ref b :: rest) (hW : 2 * g.monitorRoom + (rest.map fun v => v.category).sum ≤ 8) (hdg : decode cc g.pc = .ok (.invokevirtual index, 3)) (hf : cells + mc ≤ R.cells ∧ slots + ms ≤ R.slots) :
    vx_Run p l e R s m args below meth c H locs cells slots mc ms g rest (Qc (Value.ref b :: As).toArray) XC free := by
  have hK : vx_Back l R p e below s args y 3 8 (PreOf R mc ms Pc) (PostOf Qc mc ms free) (vx_Post XC mc ms free) := vx_callBack cw.1 hM hp.1
  obtain ⟨⟨-, -, -, -, -, -, hcode, -, hy, hlen, hl⟩, hin, hse⟩ := cw
  obtain ⟨hx, hb, hml, ho, -⟩ := S
  obtain ⟨-, ⟨cellB, hcB, hoB, hclB⟩, hPc⟩ := hp
  intro T hT X
  rcases vx_callV X hx (C := C) (bytes := bytes) (maxL := maxL) (ret := ret) ho hl hin hse hcode hy hK (by rw [hT]; exact hcB) hoB hclB hg (hsize.trans hml.symm) (argsL := As) (rest := rest) (fun sig h => hn.trans (hlen sig h)) hstack hW (by rw [hb]; exact hdg)
    (fun vm₁ hW₁ => ⟨hf.1, hf.2, hPc (T.setVm vm₁) hT hW₁⟩) with ⟨v, vm₁, ⟨U', l2, c2, s2⟩, hW₁, X', ⟨g', mk, t, L, e1, e2, hq, h1, hL, h2, h3⟩, st⟩ | ⟨q, vm₁, ⟨U', l2, c2, s2⟩, hW₁, X', ⟨g', mk, t, L, E, ce, e1, e2, hq, hce, hcv, hcl, h1, hL, h2, h3⟩, st⟩
  · dsimp only [Pt.U, Pt.locs, Pt.cells, Pt.slots] at X' e1 e2 h1 h2 h3 st
    subst h1; subst h2; subst h3
    exact Or.inl ⟨v, (T.setVm vm₁).calling g' mk (Value.ref b :: As).toArray, t, U', L, hT, X', hL, e1, e2, hq, st⟩
  · dsimp only [Pt.U, Pt.locs, Pt.cells, Pt.slots] at X' e1 e2 h1 h2 h3 st hcl
    subst h1; subst h2; subst h3
    exact Or.inr ⟨q, (T.setVm vm₁).calling g' mk (Value.ref b :: As).toArray, t, U', L, E, ce, hT, X', hL, e1, e2, hq, hce, hcv, vx_cls hW₁ hcl, st⟩
theorem vx_runS (S : CallFix p m c cc nL s args Ts own) (hM : vx_Met l y ws rm Pc Qc XC mc ms free) (cw : CallB R s args own index y bytes maxL ret ws rm mc ms n ∧ (Cond.static y).before args s = true) (hp : PreS s H Pc As)
    (hg : g.method = m) (hn : As.length = n) (hsize : g.locals.size = nL) (hstack : g.stack = As.reverse ++ rest) (hW : 2 * g.monitorRoom + (rest.map fun v => v.category).sum ≤ 8) (hdg : decode cc g.pc = .ok (.invokestatic index, 3)) (hf : cells + mc ≤ R.cells ∧ slots + ms ≤ R.slots) :
    vx_Run p l e R s m args below meth c H locs cells slots mc ms g rest (Qc As.toArray) XC free := by
  have hK : vx_Back l R p e below s args y 3 8 (PreOf R mc ms Pc) (PostOf Qc mc ms free) (vx_Post XC mc ms free) := vx_callBack cw.1 hM hp.1
  obtain ⟨⟨-, -, -, -, -, -, hcode, hini, hy, hlen, hl⟩, hstt⟩ := cw
  obtain ⟨hx, hb, hml, ho, -⟩ := S
  intro T hT X
  rcases vx_callS X hx (bytes := bytes) (maxL := maxL) (ret := ret) ho hl hstt hini hcode hy hK hg (hsize.trans hml.symm) (argsL := As) (rest := rest) (fun sig h => hn.trans (hlen sig h)) hstack hW (by rw [hb]; exact hdg)
    (fun vm₁ hW₁ => ⟨hf.1, hf.2, hp.2 (T.setVm vm₁) hT hW₁⟩) with ⟨v, vm₁, ⟨U', l2, c2, s2⟩, hW₁, X', ⟨g', mk, t, L, e1, e2, hq, h1, hL, h2, h3⟩, st⟩ | ⟨q, vm₁, ⟨U', l2, c2, s2⟩, hW₁, X', ⟨g', mk, t, L, E, ce, e1, e2, hq, hce, hcv, hcl, h1, hL, h2, h3⟩, st⟩
  · dsimp only [Pt.U, Pt.locs, Pt.cells, Pt.slots] at X' e1 e2 h1 h2 h3 st
    subst h1; subst h2; subst h3
    exact Or.inl ⟨v, (T.setVm vm₁).calling g' mk As.toArray, t, U', L, hT, X', hL, e1, e2, hq, st⟩
  · dsimp only [Pt.U, Pt.locs, Pt.cells, Pt.slots] at X' e1 e2 h1 h2 h3 st hcl
    subst h1; subst h2; subst h3
    exact Or.inr ⟨q, (T.setVm vm₁).calling g' mk As.toArray, t, U', L, E, ce, hT, X', hL, e1, e2, hq, hce, hcv, vx_cls hW₁ hcl, st⟩
end Runs
section Rows
variable {p : Program} {l : Launch} {e : Env} {R : Room} {s : State} {m : MethodId} {args : Array Value} {below : List Frame} {meth : Method} {c : Code} {H : Heap} {locs : List Loc} {cells slots : Nat} {Q : State → Prop}
variable {mc ms : Nat} {free : Addr → Prop} {A0 A1 : Nat → Prop} {H0 : Heap} {a : Array Value} {pc : Nat} {ls : Array Slot} {st0 rest : List Value}
theorem vx_keep {st₀ t T' : State} {L : List Loc} (h0 : st₀.heap = H) (e1 : T'.heap = t.heap) (hS : va_S A0 H0 H locs) (hA : ∀ q, q < H.size → A1 q → A0 q) (hf : ∀ q, free q → A0 q) (hL : ∀ q ∈ L, free q.base) (hF : va_F A1 st₀ t) :
    H.size ≤ T'.heap.size ∧ (∀ q : Nat, q < H.size → ¬ A1 q → T'.heap[q]? = H[q]?) ∧ va_S A0 H0 T'.heap (locs ++ L) := by
  obtain ⟨hz, hk⟩ := hF
  rw [h0] at hz hk
  exact ⟨by rw [e1]; exact hz, fun q h1 h2 => by rw [e1]; exact hk q h1 h2,
    ⟨Nat.le_trans hS.1 (by rw [e1]; exact hz), fun q h1 h2 => by rw [e1, hk q (Nat.lt_of_lt_of_le h1 hS.1) (fun z => h2 (hA q (Nat.lt_of_lt_of_le h1 hS.1) z))]; exact hS.2.1 q h1 h2, fun q hq => by
      rcases List.mem_append.mp hq with h | h
      · exact hS.2.2 q h
      · exact hf _ (hL q h)⟩⟩
theorem vx_calli {S SX : Type} {post : Int32 → S → Prop} {px : SX → Prop} {B : S → State → Prop} {BX : String → SX → State → Prop} {AX : Nat → Prop} (hr : vx_Run p l e R s m args below meth c H locs cells slots mc ms (F0 m pc ls st0) rest (va_Qi post B A1 a) (vx_X px BX AX) free) (hS : va_S A0 H0 H locs) (hA : ∀ q, q < H.size → A1 q → A0 q) (hf : ∀ q, free q → A0 q) (hAX : ∀ q, q < H.size → AX q → A0 q)
    (kx : ∀ (E : String) (ce : Cell) (q9 : Addr) (u : SX) (t : State) (H1 : Heap) (locs1 : List Loc), t.heap = H1 → s.vm.Alike t.vm → px u → BX E u t → H.size ≤ H1.size → (∀ q : Nat, q < H.size → ¬ AX q → H1[q]? = H[q]?) → va_S A0 H0 H1 locs1 → H1[q9]? = some ce → ce.vm = .none → s.vm.findClass E = some ce.cls → vx_W p l e R s m args below meth c H1 locs1 (cells + mc) (slots + ms) Q (F0 m pc ls rest) q9)
    (kk : ∀ (r : Int32) (u : S) (t : State) (H1 : Heap) (locs1 : List Loc), t.heap = H1 → s.vm.Alike t.vm → post r u → B u t → H.size ≤ H1.size → (∀ q : Nat, q < H.size → ¬ A1 q → H1[q]? = H[q]?) → va_S A0 H0 H1 locs1 → W p l e R s m args below meth c H1 locs1 (cells + mc) (slots + ms) Q (F0 m (pc + 3) ls (.int r :: rest))) : W p l e R s m args below meth c H locs cells slots Q (F0 m pc ls st0) := by
  intro T hT X
  rcases hr T hT X with ⟨v, st₀, t, T', L, h0, X', hL, e1, e2, ⟨⟨r, u, hv, hp, hb⟩, hF⟩, st⟩ | ⟨q, st₀, t, T', L, E, ce, h0, X', hL, e1, e2, ⟨u, hp, hb, hF⟩, hce, hcv, hcl, st⟩
  · cases hv
    obtain ⟨k1, k2, k3⟩ := vx_keep h0 e1 hS hA hf hL hF
    obtain ⟨t2, a1, b1⟩ := kk r u t T'.heap (locs ++ L) e1.symm (by rw [← e2]; exact X'.warmed.alike) hp hb k1 k2 k3 T' rfl X'
    exact ⟨t2, st t2 a1, b1⟩
  · obtain ⟨k1, k2, k3⟩ := vx_keep h0 e1 hS hAX hf hL hF
    obtain ⟨t2, a1, b1⟩ := kx E ce q u t T'.heap (locs ++ L) e1.symm (by rw [← e2]; exact X'.warmed.alike) hp hb k1 k2 k3 (by rw [e1]; exact hce) hcv hcl T' rfl X'
    exact ⟨t2, st.trans a1, b1⟩
theorem vx_calll {S SX : Type} {post : Int64 → S → Prop} {px : SX → Prop} {B : S → State → Prop} {BX : String → SX → State → Prop} {AX : Nat → Prop} (hr : vx_Run p l e R s m args below meth c H locs cells slots mc ms (F0 m pc ls st0) rest (va_Ql post B A1 a) (vx_X px BX AX) free) (hS : va_S A0 H0 H locs) (hA : ∀ q, q < H.size → A1 q → A0 q) (hf : ∀ q, free q → A0 q) (hAX : ∀ q, q < H.size → AX q → A0 q)
    (kx : ∀ (E : String) (ce : Cell) (q9 : Addr) (u : SX) (t : State) (H1 : Heap) (locs1 : List Loc), t.heap = H1 → s.vm.Alike t.vm → px u → BX E u t → H.size ≤ H1.size → (∀ q : Nat, q < H.size → ¬ AX q → H1[q]? = H[q]?) → va_S A0 H0 H1 locs1 → H1[q9]? = some ce → ce.vm = .none → s.vm.findClass E = some ce.cls → vx_W p l e R s m args below meth c H1 locs1 (cells + mc) (slots + ms) Q (F0 m pc ls rest) q9)
    (kk : ∀ (r : Int64) (u : S) (t : State) (H1 : Heap) (locs1 : List Loc), t.heap = H1 → s.vm.Alike t.vm → post r u → B u t → H.size ≤ H1.size → (∀ q : Nat, q < H.size → ¬ A1 q → H1[q]? = H[q]?) → va_S A0 H0 H1 locs1 → W p l e R s m args below meth c H1 locs1 (cells + mc) (slots + ms) Q (F0 m (pc + 3) ls (.long r :: rest))) : W p l e R s m args below meth c H locs cells slots Q (F0 m pc ls st0) := by
  intro T hT X
  rcases hr T hT X with ⟨v, st₀, t, T', L, h0, X', hL, e1, e2, ⟨⟨r, u, hv, hp, hb⟩, hF⟩, st⟩ | ⟨q, st₀, t, T', L, E, ce, h0, X', hL, e1, e2, ⟨u, hp, hb, hF⟩, hce, hcv, hcl, st⟩
  · cases hv
    obtain ⟨k1, k2, k3⟩ := vx_keep h0 e1 hS hA hf hL hF
    obtain ⟨t2, a1, b1⟩ := kk r u t T'.heap (locs ++ L) e1.symm (by rw [← e2]; exact X'.warmed.alike) hp hb k1 k2 k3 T' rfl X'
    exact ⟨t2, st t2 a1, b1⟩
  · obtain ⟨k1, k2, k3⟩ := vx_keep h0 e1 hS hAX hf hL hF
    obtain ⟨t2, a1, b1⟩ := kx E ce q u t T'.heap (locs ++ L) e1.symm (by rw [← e2]; exact X'.warmed.alike) hp hb k1 k2 k3 (by rw [e1]; exact hce) hcv hcl T' rfl X'
    exact ⟨t2, st.trans a1, b1⟩
theorem vx_callf {S SX : Type} {post : UInt32 → S → Prop} {px : SX → Prop} {B : S → State → Prop} {BX : String → SX → State → Prop} {AX : Nat → Prop} (hr : vx_Run p l e R s m args below meth c H locs cells slots mc ms (F0 m pc ls st0) rest (va_Qf post B A1 a) (vx_X px BX AX) free) (hS : va_S A0 H0 H locs) (hA : ∀ q, q < H.size → A1 q → A0 q) (hf : ∀ q, free q → A0 q) (hAX : ∀ q, q < H.size → AX q → A0 q)
    (kx : ∀ (E : String) (ce : Cell) (q9 : Addr) (u : SX) (t : State) (H1 : Heap) (locs1 : List Loc), t.heap = H1 → s.vm.Alike t.vm → px u → BX E u t → H.size ≤ H1.size → (∀ q : Nat, q < H.size → ¬ AX q → H1[q]? = H[q]?) → va_S A0 H0 H1 locs1 → H1[q9]? = some ce → ce.vm = .none → s.vm.findClass E = some ce.cls → vx_W p l e R s m args below meth c H1 locs1 (cells + mc) (slots + ms) Q (F0 m pc ls rest) q9)
    (kk : ∀ (r : UInt32) (u : S) (t : State) (H1 : Heap) (locs1 : List Loc), t.heap = H1 → s.vm.Alike t.vm → post r u → B u t → H.size ≤ H1.size → (∀ q : Nat, q < H.size → ¬ A1 q → H1[q]? = H[q]?) → va_S A0 H0 H1 locs1 → W p l e R s m args below meth c H1 locs1 (cells + mc) (slots + ms) Q (F0 m (pc + 3) ls (.float r :: rest))) : W p l e R s m args below meth c H locs cells slots Q (F0 m pc ls st0) := by
  intro T hT X
  rcases hr T hT X with ⟨v, st₀, t, T', L, h0, X', hL, e1, e2, ⟨⟨r, u, hv, hp, hb⟩, hF⟩, st⟩ | ⟨q, st₀, t, T', L, E, ce, h0, X', hL, e1, e2, ⟨u, hp, hb, hF⟩, hce, hcv, hcl, st⟩
  · cases hv
    obtain ⟨k1, k2, k3⟩ := vx_keep h0 e1 hS hA hf hL hF
    obtain ⟨t2, a1, b1⟩ := kk r u t T'.heap (locs ++ L) e1.symm (by rw [← e2]; exact X'.warmed.alike) hp hb k1 k2 k3 T' rfl X'
    exact ⟨t2, st t2 a1, b1⟩
  · obtain ⟨k1, k2, k3⟩ := vx_keep h0 e1 hS hAX hf hL hF
    obtain ⟨t2, a1, b1⟩ := kx E ce q u t T'.heap (locs ++ L) e1.symm (by rw [← e2]; exact X'.warmed.alike) hp hb k1 k2 k3 (by rw [e1]; exact hce) hcv hcl T' rfl X'
    exact ⟨t2, st.trans a1, b1⟩
theorem vx_calld {S SX : Type} {post : UInt64 → S → Prop} {px : SX → Prop} {B : S → State → Prop} {BX : String → SX → State → Prop} {AX : Nat → Prop} (hr : vx_Run p l e R s m args below meth c H locs cells slots mc ms (F0 m pc ls st0) rest (va_Qd post B A1 a) (vx_X px BX AX) free) (hS : va_S A0 H0 H locs) (hA : ∀ q, q < H.size → A1 q → A0 q) (hf : ∀ q, free q → A0 q) (hAX : ∀ q, q < H.size → AX q → A0 q)
    (kx : ∀ (E : String) (ce : Cell) (q9 : Addr) (u : SX) (t : State) (H1 : Heap) (locs1 : List Loc), t.heap = H1 → s.vm.Alike t.vm → px u → BX E u t → H.size ≤ H1.size → (∀ q : Nat, q < H.size → ¬ AX q → H1[q]? = H[q]?) → va_S A0 H0 H1 locs1 → H1[q9]? = some ce → ce.vm = .none → s.vm.findClass E = some ce.cls → vx_W p l e R s m args below meth c H1 locs1 (cells + mc) (slots + ms) Q (F0 m pc ls rest) q9)
    (kk : ∀ (r : UInt64) (u : S) (t : State) (H1 : Heap) (locs1 : List Loc), t.heap = H1 → s.vm.Alike t.vm → post r u → B u t → H.size ≤ H1.size → (∀ q : Nat, q < H.size → ¬ A1 q → H1[q]? = H[q]?) → va_S A0 H0 H1 locs1 → W p l e R s m args below meth c H1 locs1 (cells + mc) (slots + ms) Q (F0 m (pc + 3) ls (.double r :: rest))) : W p l e R s m args below meth c H locs cells slots Q (F0 m pc ls st0) := by
  intro T hT X
  rcases hr T hT X with ⟨v, st₀, t, T', L, h0, X', hL, e1, e2, ⟨⟨r, u, hv, hp, hb⟩, hF⟩, st⟩ | ⟨q, st₀, t, T', L, E, ce, h0, X', hL, e1, e2, ⟨u, hp, hb, hF⟩, hce, hcv, hcl, st⟩
  · cases hv
    obtain ⟨k1, k2, k3⟩ := vx_keep h0 e1 hS hA hf hL hF
    obtain ⟨t2, a1, b1⟩ := kk r u t T'.heap (locs ++ L) e1.symm (by rw [← e2]; exact X'.warmed.alike) hp hb k1 k2 k3 T' rfl X'
    exact ⟨t2, st t2 a1, b1⟩
  · obtain ⟨k1, k2, k3⟩ := vx_keep h0 e1 hS hAX hf hL hF
    obtain ⟨t2, a1, b1⟩ := kx E ce q u t T'.heap (locs ++ L) e1.symm (by rw [← e2]; exact X'.warmed.alike) hp hb k1 k2 k3 (by rw [e1]; exact hce) hcv hcl T' rfl X'
    exact ⟨t2, st.trans a1, b1⟩
theorem vx_callv {S SX : Type} {post : S → Prop} {px : SX → Prop} {B : S → State → Prop} {BX : String → SX → State → Prop} {AX : Nat → Prop} (hr : vx_Run p l e R s m args below meth c H locs cells slots mc ms (F0 m pc ls st0) rest (va_Qv post B A1 a) (vx_X px BX AX) free) (hS : va_S A0 H0 H locs) (hA : ∀ q, q < H.size → A1 q → A0 q) (hf : ∀ q, free q → A0 q) (hAX : ∀ q, q < H.size → AX q → A0 q)
    (kx : ∀ (E : String) (ce : Cell) (q9 : Addr) (u : SX) (t : State) (H1 : Heap) (locs1 : List Loc), t.heap = H1 → s.vm.Alike t.vm → px u → BX E u t → H.size ≤ H1.size → (∀ q : Nat, q < H.size → ¬ AX q → H1[q]? = H[q]?) → va_S A0 H0 H1 locs1 → H1[q9]? = some ce → ce.vm = .none → s.vm.findClass E = some ce.cls → vx_W p l e R s m args below meth c H1 locs1 (cells + mc) (slots + ms) Q (F0 m pc ls rest) q9)
    (kk : ∀ (u : S) (t : State) (H1 : Heap) (locs1 : List Loc), t.heap = H1 → s.vm.Alike t.vm → post u → B u t → H.size ≤ H1.size → (∀ q : Nat, q < H.size → ¬ A1 q → H1[q]? = H[q]?) → va_S A0 H0 H1 locs1 → W p l e R s m args below meth c H1 locs1 (cells + mc) (slots + ms) Q (F0 m (pc + 3) ls (rest))) : W p l e R s m args below meth c H locs cells slots Q (F0 m pc ls st0) := by
  intro T hT X
  rcases hr T hT X with ⟨v, st₀, t, T', L, h0, X', hL, e1, e2, ⟨⟨u, hv, hp, hb⟩, hF⟩, st⟩ | ⟨q, st₀, t, T', L, E, ce, h0, X', hL, e1, e2, ⟨u, hp, hb, hF⟩, hce, hcv, hcl, st⟩
  · cases hv
    obtain ⟨k1, k2, k3⟩ := vx_keep h0 e1 hS hA hf hL hF
    obtain ⟨t2, a1, b1⟩ := kk u t T'.heap (locs ++ L) e1.symm (by rw [← e2]; exact X'.warmed.alike) hp hb k1 k2 k3 T' rfl X'
    exact ⟨t2, st t2 a1, b1⟩
  · obtain ⟨k1, k2, k3⟩ := vx_keep h0 e1 hS hAX hf hL hF
    obtain ⟨t2, a1, b1⟩ := kx E ce q u t T'.heap (locs ++ L) e1.symm (by rw [← e2]; exact X'.warmed.alike) hp hb k1 k2 k3 (by rw [e1]; exact hce) hcv hcl T' rfl X'
    exact ⟨t2, st.trans a1, b1⟩
/-- caught by the row x of this method's table; the rows ahead don't take it -/
theorem vx_catch {own name : String} {E : String} {ce : Cell} {q : Addr} (hown : s.vm.findClass own = some m.cls) (pre : List ExceptionTableEntry) (x : ExceptionTableEntry) (suf : List ExceptionTableEntry) (hsplit : c.exceptionTable.toList = pre ++ x :: suf)
    (hpass : ∀ z ∈ pre, covers z pc = false ∨ (z.catchType ≠ 0 ∧ ∃ nm : String, (Cond.classLink own z.catchType nm).before args s = true ∧ va_Nc E nm s)) (hx : covers x pc = true) (h0 : x.catchType ≠ 0)
    (hlink : (Cond.classLink own x.catchType name).before args s = true) (hcast : (Cond.castable E name).before args s = true) (hcell : H[q]? = some ce) (hv : ce.vm = .none) (hcl : s.vm.findClass E = some ce.cls)
    (kk : W p l e R s m args below meth c H locs cells slots Q (F0 m x.handlerPc ls [.ref q])) : vx_W p l e R s m args below meth c H locs cells slots Q (F0 m pc ls rest) q := by
  intro T hT X
  have hpl : e.platform.magicAccessors = ({} : Platform).magicAccessors := by rw [X.admits.platform]
  obtain ⟨c3, c4, hc3, hc4, hasg⟩ := Cond.castable_spec hcast
  cases Option.some.inj (hc3.symm.trans hcl)
  obtain ⟨c5, hc5, hcl5⟩ := Cond.classLink_spec hown hlink e.platform hpl
  cases Option.some.inj (hc4.symm.trans hc5)
  obtain ⟨vm', X', st⟩ := X.thenCaughtThrough q (g := F0 m pc ls rest) rfl (Steps.refl _) (by rw [hT]; exact hcell) (by rw [hv]; rfl) (by obtain ⟨k9, h9, -⟩ := Vm.findClass_spec hcl; exact ⟨k9, h9⟩) pre x suf hsplit
    (fun z hz => by
      rcases hpass z hz with h | ⟨hz0, nm, hl1, hn1⟩
      · exact Or.inl h
      · obtain ⟨c6, hc6, hcl6⟩ := Cond.classLink_spec hown hl1 e.platform hpl
        obtain ⟨a8, b8, h1, h2, h3⟩ := hn1
        cases Option.some.inj (h1.symm.trans hcl)
        cases Option.some.inj (h2.symm.trans hc6)
        exact Or.inr ⟨hz0, _, hcl6, h3⟩) hx (Or.inr ⟨h0, c4, hcl5, hasg⟩)
  obtain ⟨t, a1, b1⟩ := kk (T.setVm vm') hT X'
  exact ⟨t, st.trans a1, b1⟩
end Rows
section Ends
variable {p : Program} {l : Launch} {e : Env} {R : Room} {s : State} {m : MethodId} {args : Array Value} {below : List Frame} {meth : Method} {c : Code} {H : Heap} {locs : List Loc} {cells slots : Nat} {Q : State → Prop}
variable {mc ms : Nat} {free : Addr → Prop} {A0 A1 : Nat → Prop} {H0 : Heap} {a : Array Value} {ls : Array Slot} {st0 rest : List Value}
variable {Qc : Array Value → State → Outcome → State → Prop} {XC : String → State → State → Prop}
/-- what a body that may throw owes at its end -/
def vx_MQ (below : List Frame) (Qc : Array Value → State → Outcome → State → Prop) (XC : String → State → State → Prop) (a : Array Value) (s : State) (mc ms : Nat) (free : Addr → Prop) : State → Prop := fun t =>
  ∃ o, t.status = .running ∧ Ended t below o ∧ vx_Q Qc XC mc ms free a s o t
theorem vx_ret {g : JFrame} {mc ms : Nat} (k : W p l e R s m args below meth c H locs cells slots (MQ below Qc args s mc ms free) g) : W p l e R s m args below meth c H locs cells slots (vx_MQ below Qc XC args s mc ms free) g := by
  intro T hT X
  obtain ⟨t, a1, o, b1, b2, b3, b4⟩ := k T hT X
  exact ⟨t, a1, o, b1, b2, Or.inl ⟨b3, b4⟩⟩
/-- not caught here: it goes on to the caller -/
theorem vx_widen {g : JFrame} {q : Addr} {k n : Nat} (h1 : cells ≤ k) (h2 : slots ≤ n) (kk : vx_W p l e R s m args below meth c H locs k n Q g q) : vx_W p l e R s m args below meth c H locs cells slots Q g q := fun T hT X => kk T hT (stand_widen X h1 h2)
theorem vx_out {pc : Nat} {E : String} {ce : Cell} {q : Addr} {mc ms : Nat} (hout : ∀ x ∈ c.exceptionTable.toList, covers x pc = false) (hlocks : meth.locks = false) (hcell : H[q]? = some ce) (hv : ce.vm = .none) (hcl : s.vm.findClass E = some ce.cls)
    (hx : ∀ t : State, t.heap = H → s.vm.Alike t.vm → XC E s t) (hf : ∀ z ∈ locs, free z.base) (hc : cells ≤ mc) (hs : slots ≤ ms) :
    vx_W p l e R s m args below meth c H locs cells slots (vx_MQ below Qc XC args s mc ms free) (F0 m pc ls rest) q := by
  intro T hT X
  obtain ⟨st1, hrun, hend, hW, hsm⟩ := X.leaveThrown q (g := F0 m pc ls rest) rfl rfl rfl hout hlocks
  have hcell9 : (T.setFrames (.throwing q :: below)).heap[q]? = some ce := by
    show T.heap[q]? = some ce
    rw [hT]; exact hcell
  exact ⟨_, st1, .threw q, hrun, hend, Or.inr ⟨q, rfl, E, ce, locs, hx _ hT hW.alike, hcell9, hv, hcl, hW, hsm.mono hc hs, hf⟩⟩
theorem vx_frame {U : State} {k n : Nat} (h : s.sameButNew ({ U with vm := s.vm } : State) locs k n) : s.heap.size ≤ U.heap.size ∧ ∀ q : Nat, q < s.heap.size → (∀ z ∈ locs, z.base ≠ q) → U.heap[q]? = s.heap[q]? := by
  obtain ⟨-, h2, -, -, -, h6⟩ := h
  refine ⟨h2, fun q hq hz => ?_⟩
  obtain ⟨c9, e1, e2, e3, e4⟩ := h6 q _ (Array.getElem?_eq_getElem hq)
  have hs : c9.slots = (s.heap[q]).slots := Array.ext_getElem? fun i => e4 i fun hm => hz _ hm rfl
  have h9 : c9 = s.heap[q] := by
    rw [hs] at e2
    exact e2
  have e5 : U.heap[q]? = some c9 := e1
  rw [e5, h9, Array.getElem?_eq_getElem hq]
/-- the words of a throw but the four that speak of the heap -/
def vx_no (w : Cond) : Bool := decide (w ≠ .isRef (.static Bundle.tN "UNASSIGNED_STACK" Bundle.steD)) && decide (w ≠ .isRef (.static Bundle.tN "SUPPRESSED_SENTINEL" Bundle.listD)) && decide (w ≠ .laysStatic Bundle.tN "UNASSIGNED_STACK" Bundle.steD) && decide (w ≠ .laysStatic Bundle.tN "SUPPRESSED_SENTINEL" Bundle.listD)
def vx_at0 (own : String) (ic : Nat) (X : String) (names : List String) : List Cond := (Bundle.ownAtoms0 own ic X names).filter vx_no
def vx_atS (own : String) (ic : Nat) (X : String) (names : List String) : List Cond := (Bundle.ownAtoms own ic X names).filter vx_no
/-- a word that the tables alone decide, or a good one -/
def vx_ot (w : Cond) : Bool := w.onTables || goodWord w
theorem vx_ot_at {args a' : Array Value} {s U : State} {w : Cond} (hW : s.WarmedH U.vm) (hvm : s.vm = U.vm) (hg : vx_ot w = true) (h : w.before args s = true) : w.before a' U = true := by
  simp only [vx_ot, Bool.or_eq_true] at hg
  rcases hg with hg | hg
  · exact va_tabs hg hvm h
  · exact word_at hW (good_of_word hg) h
/-- a list's words: the good ones out of the method's own list, the others by premises of their own -/
theorem vx_hat {args : Array Value} {s : State} {L B : List Cond} (h1 : ∀ w ∈ L.filter goodWord, w.before args s = true) (h2 : ∀ w ∈ L.filter (fun w => !goodWord w), w ∈ B) (h3 : ∀ w ∈ B, w.before args s = true) : ∀ w ∈ L, w.before args s = true := by
  intro w hw
  by_cases g : goodWord w = true
  · exact h1 w (List.mem_filter.mpr ⟨hw, g⟩)
  · refine h3 w (h2 w (List.mem_filter.mpr ⟨hw, ?_⟩))
    show (!goodWord w) = true
    cases hgw : goodWord w
    · rfl
    · exact absurd hgw g
theorem vx_c {args : Array Value} {s : State} {w : Cond} {B : List Cond} (h : w.before args s = true) (t : ∀ w ∈ B, w.before args s = true) : ∀ w' ∈ w :: B, w'.before args s = true := fun w' h' => (List.mem_cons.mp h').elim (fun e => by rw [e]; exact h) (t w')
theorem vx_n {args : Array Value} {s : State} : ∀ w ∈ ([] : List Cond), w.before args s = true := fun _ h => nomatch h
theorem vx_own {args : Array Value} {s : State} {L : List Cond} (h1 : ∀ w ∈ L.filter vx_no, w.before args s = true)
    (hU : (Cond.isRef (.static Bundle.tN "UNASSIGNED_STACK" Bundle.steD)).before args s = true) (hN : (Cond.isRef (.static Bundle.tN "SUPPRESSED_SENTINEL" Bundle.listD)).before args s = true)
    (lU : (Cond.laysStatic Bundle.tN "UNASSIGNED_STACK" Bundle.steD).before args s = true) (lN : (Cond.laysStatic Bundle.tN "SUPPRESSED_SENTINEL" Bundle.listD).before args s = true) : ∀ w ∈ L, w.before args s = true := by
  intro w hw
  by_cases e1 : w = .isRef (.static Bundle.tN "UNASSIGNED_STACK" Bundle.steD)
  · rw [e1]; exact hU
  · by_cases e2 : w = .isRef (.static Bundle.tN "SUPPRESSED_SENTINEL" Bundle.listD)
    · rw [e2]; exact hN
    · by_cases e3 : w = .laysStatic Bundle.tN "UNASSIGNED_STACK" Bundle.steD
      · rw [e3]; exact lU
      · by_cases e4 : w = .laysStatic Bundle.tN "SUPPRESSED_SENTINEL" Bundle.listD
        · rw [e4]; exact lN
        · exact h1 w (List.mem_filter.mpr ⟨hw, by unfold vx_no; rw [decide_eq_true e1, decide_eq_true e2, decide_eq_true e3, decide_eq_true e4]; rfl⟩)
/-- where a static field lies, its class's statics cell in H -/
def vx_L (C n d : String) (A : Nat → Prop) (U : State) (H : Heap) : Prop := ∃ (c : ClassId) (k : Class) (i : Nat) (f : Field) (a : Nat) (cell : Cell), U.vm.findClass C = some c ∧ U.fieldFound? C n d = some (c, k, i, f) ∧ f.isStatic = true ∧ k.statics = some a ∧ H[a]? = some cell ∧ cell.vm.isStatics = true ∧ cell.cls = c ∧ f.slot < cell.slots.size ∧ k.staticTypes[f.slot]? = some f.type ∧ ¬ A a
theorem vx_L.moved {C n d : String} {A : Nat → Prop} {u U : State} {H : Heap} (hvm : u.vm.Alike U.vm) (h : vx_L C n d A u H) : vx_L C n d A U H := by
  obtain ⟨c, k, i, f, a, cell, h1, h2, h3, h4, h5, h6, h7, h8, h9, h10⟩ := h
  obtain ⟨k', hi', he⟩ := State.fieldFound?_setVm hvm h2
  exact ⟨c, k', i, f, a, cell, by rw [hvm.findClass]; exact h1, hi', h3, by rw [he]; exact h4, h5, h6, h7, h8, by rw [he]; exact h9, h10⟩
theorem vx_L.kept {C n d : String} {A : Nat → Prop} {U : State} {H H1 : Heap} (h : vx_L C n d A U H) (hq : ∀ a : Nat, a < H.size → ¬ A a → H1[a]? = H[a]?) : vx_L C n d A U H1 := by
  obtain ⟨c, k, i, f, a, cell, h1, h2, h3, h4, h5, h6, h7, h8, h9, h10⟩ := h
  exact ⟨c, k, i, f, a, cell, h1, h2, h3, h4, by rw [hq a (Array.getElem?_eq_some_iff.mp h5).1 h10]; exact h5, h6, h7, h8, h9, h10⟩
theorem vx_L.narrow {C n d : String} {A B : Nat → Prop} {U : State} {H : Heap} (h : vx_L C n d A U H) (hAB : ∀ q, B q → A q) : vx_L C n d B U H := by
  obtain ⟨c, k, i, f, a, cell, h1, h2, h3, h4, h5, h6, h7, h8, h9, h10⟩ := h
  exact ⟨c, k, i, f, a, cell, h1, h2, h3, h4, h5, h6, h7, h8, h9, fun z => h10 (hAB _ z)⟩
theorem vx_L.word {C n d : String} {A : Nat → Prop} {s : State} {args : Array Value} (h : vx_L C n d A s s.heap) : (Cond.laysStatic C n d).before args s = true := by
  obtain ⟨c, k, i, f, a, cell, h1, h2, h3, h4, h5, h6, h7, h8, h9, -⟩ := h
  show (Cond.laysStatic C n d).holds args s none s [] = true
  exact Cond.laysStatic_of h1 h2 h3 h4 h5 h6 h7 h8 h9
/-- .. and what it holds: null or some reference -/
def vx_Zq (C n d : String) (A : Nat → Prop) (U : State) (H : Heap) : Prop := va_Zq C n d A U H ∧ vx_L C n d A U H
theorem vx_Zq.moved {C n d : String} {A : Nat → Prop} {u U : State} {H : Heap} (hvm : u.vm.Alike U.vm) (h : vx_Zq C n d A u H) : vx_Zq C n d A U H := ⟨va_Zq.moved hvm h.1, vx_L.moved hvm h.2⟩
theorem vx_Zq.kept {C n d : String} {A : Nat → Prop} {U : State} {H H1 : Heap} (h : vx_Zq C n d A U H) (hq : ∀ a : Nat, a < H.size → ¬ A a → H1[a]? = H[a]?) : vx_Zq C n d A U H1 := ⟨va_Zq.kept h.1 hq, vx_L.kept h.2 hq⟩
theorem vx_Zq.narrow {C n d : String} {A B : Nat → Prop} {U : State} {H : Heap} (h : vx_Zq C n d A U H) (hAB : ∀ q, B q → A q) : vx_Zq C n d B U H := ⟨va_Zq.narrow h.1 hAB, vx_L.narrow h.2 hAB⟩
theorem vx_Zqof {args : Array Value} {s : State} {C n d : String} {A : Nat → Prop} (hl : (Cond.laysStatic C n d).before args s = true) (hini : (Cond.initialized C).before args s = true) (h : (Cond.isRef (.static C n d)).before args s = true) (hA : ∀ a : Nat, a < s.heap.size → ¬ A a) : vx_Zq C n d A s s.heap := by
  refine ⟨va_Zqof hl hini h hA, ?_⟩
  obtain ⟨c, k, i, f, a, cell, h1, h2, h3, h4, h5, h6, h7, h8, h9⟩ := Cond.laysStatic_spec hl
  exact ⟨c, k, i, f, a, cell, h1, h2, h3, h4, h5, h6, h7, h8, h9, hA a (Array.getElem?_eq_some_iff.mp h5).1⟩
theorem vx_isRef {C n d : String} {v : Value} {A : Nat → Prop} {s : State} {args : Array Value} (h : va_Z C n d v A s s.heap) (hv : v.isRef = true) : (Cond.isRef (.static C n d)).before args s = true := by
  obtain ⟨cf, kf, fi, f, a, cell, h1, h2, h3, h4, h5, h6, h7, -⟩ := h
  have he : (Term.static C n d).eval args s none [] s = some v := by
    simp [Term.eval, State.fieldNamed?, h1, h2, h4, h5, h6, h7]
  simp only [Cond.before, Cond.holds, Cond.value, he]
  cases v <;> simp_all [Value.isRef]
theorem vx_isRefq {C n d : String} {A : Nat → Prop} {s : State} {args : Array Value} (h : va_Zq C n d A s s.heap) : (Cond.isRef (.static C n d)).before args s = true := by
  rcases h with h | ⟨t, h⟩
  · exact vx_isRef h rfl
  · exact vx_isRef h rfl
/-- the same frame, seen from here: as if the method were called anew in this heap -/
theorem vx_rebase {T : State} (X : Stand p l e R s m args below meth c T locs cells slots) {R' : Room} (hf : R'.frames ≤ R.frames) (hl : R'.locals ≤ R.locals) (hc : cells + R'.cells ≤ R.cells) (hs : slots + R'.slots ≤ R.slots) :
    Stand p l e R' ((T.setVm s.vm).setFrames (.invoking m args :: below)) m args below meth c T [] 0 0 := by
  have htop : (T.setVm s.vm).topJava?.isSome := X.here.top
  have hF : ((T.setVm s.vm).setFrames (.invoking m args :: below)).frames = .invoking m args :: below := State.frames_setFrames _ (State.cur_lt_of_top htop)
  obtain ⟨g₀, hg0⟩ := Option.isSome_iff_exists.mp htop
  obtain ⟨r, hr⟩ := State.topJava?_eq_some.mp hg0
  have hl9 : e.platform.stackLimits (T.setVm s.vm).me = e.platform.stackLimits s.me := X.limits
  have hb9 : (T.setVm s.vm).me.stackBytes = s.me.stackBytes := X.bytes
  refine ⟨X.admits, X.cas, X.clock, hF, ?_, X.hears, X.method, X.code, X.here, X.tail, X.warmed, ?_, ?_, ?_⟩
  · have h := X.room
    have hU : ((T.setVm s.vm).setFrames (.invoking m args :: below)).localsInUse = s.localsInUse := by
      rw [State.localsInUse_invoking hF (meth := meth) (c := c) X.method X.code, State.localsInUse_invoking X.frames X.method X.code]
    simp only [State.hasRoom, Bool.and_eq_true, decide_eq_true_eq] at h ⊢
    obtain ⟨⟨⟨⟨h1, h2, h3, h4, h5, h6⟩, h7⟩, h8⟩, h9⟩ := h
    rw [X.frames, List.length_cons] at h2 h3
    have q1 := X.heapSize
    have q2 := X.used
    simp only [hF, hU, List.length_cons, State.stackLimits_setFrames, State.stackBytes_setFrames, hl9, hb9]
    refine ⟨⟨⟨⟨by omega, by omega, by omega, by omega, by omega, h6⟩, ?_⟩, ?_⟩, X.book⟩
    · show T.heap.size + R'.cells ≤ e.platform.maxCells
      omega
    · show T.slotsUsed + R'.slots ≤ e.platform.maxSlots
      omega
  · rw [State.stackLimits_setFrames]; rfl
  · rw [State.stackBytes_setFrames]; rfl
  · refine ⟨?_, Nat.le_refl _, Nat.le_refl _, ?_, ?_, fun a c9 h9 => ⟨c9, h9, rfl, rfl, fun _ _ => rfl⟩⟩
    · obtain ⟨t, ht, -⟩ := State.frames_cons hr
      show T.setVm s.vm = { ((T.setVm s.vm).setFrames (.invoking m args :: below)).setFrames (T.setVm s.vm).frames with heap := T.heap, slotsUsed := T.slotsUsed }
      rw [State.setFrames_setFrames, State.setFrames_self ht]
      rfl
    · show T.slotsUsed = T.slotsUsed + ((T.heap.toList.drop T.heap.size).map (·.slots.size)).sum
      rw [List.drop_eq_nil_of_le (Nat.le_of_eq Array.length_toList)]
      rfl
    · show ((T.heap.toList.drop T.heap.size).map (·.slots.size)).sum ≤ 0
      rw [List.drop_eq_nil_of_le (Nat.le_of_eq Array.length_toList)]
      exact Nat.le_refl _
/-- 'throw new E()': new; dup; invokespecial; athrow -/
theorem vx_throw0 {cc : ByteArray} {pc : Nat} (hexec : p.tables.exec = Jvm.exec) (hb : c.code = cc) (hl : l.stackTraces = false) {own cls : String} {names : List String} {ik ic mc ms : Nat} {A : Nat → Prop}
    (hown : s.vm.findClass own = some m.cls) (hcls : Bundle.fit cls = true) (hnames : ∀ n ∈ names, Bundle.fit n = true)
    (hk : (Cond.classLink own ik cls).before args s = true) (hini : (Cond.initialized cls).before args s = true) (hat : ∀ w ∈ vx_at0 own ic cls names, w.before args s = true)
    (hgood : ∀ w ∈ Cond.classLink own ik cls :: Cond.initialized cls :: vx_at0 own ic cls names, vx_ot w = true)
    (hU : vx_Zq Bundle.tN "UNASSIGNED_STACK" Bundle.steD A s s.heap) (hN : vx_Zq Bundle.tN "SUPPRESSED_SENTINEL" Bundle.listD A s s.heap) (hS : va_S A s.heap H locs) (hsize : ls.size = c.maxLocals)
    (d0 : decode cc pc = .ok (.new ik, 3)) (d3 : decode cc (pc + 3) = .ok (.dup, 1)) (d4 : decode cc (pc + 4) = .ok (.invokespecial ic, 3)) (d7 : decode cc (pc + 7) = .ok (.athrow, 1))
    (hout : ∀ x ∈ c.exceptionTable.toList, covers x (pc + 7) = false)
    (hRframes : names.length + 3 < R.frames) (hRlocals : (rest.map fun v => v.category).sum + (13 * (names.length + 1) + 42) ≤ R.locals) (hRcells : cells + 1 ≤ R.cells) (hRslots : slots + 6 ≤ R.slots) (hlocks : meth.locks = false)
    (hx : ∀ t : State, s.vm.Alike t.vm → H.size ≤ t.heap.size → (∀ q : Nat, q < H.size → t.heap[q]? = H[q]?) → XC cls s t)
    (hf : ∀ z ∈ locs, free z.base) (hc : cells + 1 ≤ mc) (hs : slots + 6 ≤ ms) :
    W p l e R s m args below meth c H locs cells slots (vx_MQ below Qc XC args s mc ms free) (F0 m pc ls rest) := by
  intro T hT X
  have htr : e.platform.stackTraces = false := (show e.platform.stackTraces = l.stackTraces by rw [X.admits.platform]).trans hl
  have Y := vx_rebase X (R' := { frames := R.frames, locals := R.locals, cells := 1, slots := 6 }) (Nat.le_refl _) (Nat.le_refl _) hRcells hRslots
  obtain ⟨s', hA⟩ : ∃ z, z = (T.setVm s.vm).setFrames (.invoking m args :: below) := ⟨_, rfl⟩
  rw [← hA] at Y
  have hvm : s'.vm = s.vm := by rw [hA]; rfl
  have hhp : s'.heap = H := by rw [hA]; exact hT
  have hW0 : s.WarmedH s'.vm := by rw [hvm]; exact State.WarmedH.refl s
  have hat' : ∀ w ∈ vx_at0 own ic cls names, w.before args s' = true := fun w hw => vx_ot_at hW0 hvm.symm (hgood w (List.mem_cons_of_mem _ (List.mem_cons_of_mem _ hw))) (hat w hw)
  have hk' : (Cond.classLink own ik cls).before args s' = true := vx_ot_at hW0 hvm.symm (hgood _ List.mem_cons_self) hk
  have hini' : (Cond.initialized cls).before args s' = true := vx_ot_at hW0 hvm.symm (hgood _ (List.mem_cons_of_mem _ List.mem_cons_self)) hini
  have hU' : vx_Zq Bundle.tN "UNASSIGNED_STACK" Bundle.steD A s' s'.heap := by rw [hhp]; exact vx_Zq.moved hW0.alike (hU.kept hS.2.1)
  have hN' : vx_Zq Bundle.tN "SUPPRESSED_SENTINEL" Bundle.listD A s' s'.heap := by rw [hhp]; exact vx_Zq.moved hW0.alike (hN.kept hS.2.1)
  have h : ∀ w ∈ Bundle.ownAtoms0 own ic cls names, w.before args s' = true := vx_own hat' (vx_isRefq hU'.1) (vx_isRefq hN'.1) hU'.2.word hN'.2.word
  have hown' : s'.vm.findClass own = some m.cls := by rw [hvm]; exact hown
  have hins : (Cond.instantiable cls 6).before args s' = true := h _ (by simp [Bundle.ownAtoms0])
  obtain ⟨vm₁, cX, kX, hfX, hkX, -, -, X₁, st1⟩ := Y.newCold hexec (own := own) (C := cls) (index := ik) (n := 6) hown' hk' hins hini'
    (g := F0 m pc ls rest) rfl (by rw [hb]; exact d0) (Nat.le_refl _) (Nat.le_refl _)
  generalize hT1 : (T.setVm vm₁).pushCell { cls := cX, slots := kX.instanceTypes.map defaultValue, vm := .none } = T1 at X₁ st1
  have hcat : (Value.ref T.heap.size).category = 1 := rfl
  have hcellA : T1.heap[T.heap.size]? = some (freshCell cX kX) := by rw [← hT1]; exact State.heap_pushCell_size _ _
  have d3' : decode c.code (pc + 3) = .ok (.dup, 1) := by rw [hb]; exact d3
  obtain ⟨U, hsteps, hrun, hend, hW, hsame, ce, hce, hO⟩ := X₁.ctorThrow0 hexec htr (own := own) (cls := cls) (names := names) (ic := ic) hown' hcls hnames h (fun x hx => nomatch hx) hfX hkX hcellA (by rw [hhp, hT]; exact Nat.le_refl _)
    (g := { method := m, pc := pc + 4, locals := ls, stack := .ref T.heap.size :: .ref T.heap.size :: rest, locked := none }) rfl hsize rfl rfl (rest := rest) rfl
    (by rw [hb]; exact d4) (by rw [hb]; exact d7) hout hRframes (by simp only [List.map_cons, List.sum_cons, hcat]; omega) hlocks
  obtain ⟨f1, f2⟩ := vx_frame hsame
  rw [hhp] at f1 f2
  have hWs : s.WarmedH U.vm := State.WarmedH.trans hW0 hW
  have hcl : s.vm.findClass cls = some ce.cls := by
    have h9 := hO.cls
    rw [hvm] at h9
    exact h9
  have hall : s.sameButNew ({ U with vm := s.vm } : State) locs mc ms := by
    subst hA
    obtain ⟨e1, e2⟩ := hsame
    rw [State.setFrames_setFrames] at e1
    have h2 : (T.setVm s.vm).sameButNew ({ U with vm := s.vm } : State) [] (0 + 1) (0 + 6) := ⟨e1, e2⟩
    have h3 := X.same.trans h2
    rw [List.append_nil] at h3
    exact h3.mono hc hs
  refine ⟨U, ?_, .threw T.heap.size, hrun, hend, Or.inr ⟨T.heap.size, rfl, cls, ce, locs, hx U hWs.alike f1 (fun q hq => f2 q hq (fun z hz => nomatch hz)), hce, hO.vm, hcl, hWs, hall, hf⟩⟩
  refine st1 _ ?_
  show Steps p.tables e below (T1.setTop { method := m, pc := pc + 3, locals := ls, stack := .ref T.heap.size :: rest, locked := none }) _
  jvm_step X₁.here [X₁.here.top, hexec, d3', Value.category]
  exact hsteps
/-- 'throw new E("text")': new; dup; ldc; invokespecial; athrow -/
theorem vx_throwS {cc : ByteArray} {pc : Nat} (hexec : p.tables.exec = Jvm.exec) (hb : c.code = cc) (hl : l.stackTraces = false) {own cls text : String} {names : List String} {ik is ic mc ms sa : Nat} {A : Nat → Prop}
    (hown : s.vm.findClass own = some m.cls) (hcls : Bundle.fit cls = true) (hnames : ∀ n ∈ names, Bundle.fit n = true)
    (hk : (Cond.classLink own ik cls).before args s = true) (hini : (Cond.initialized cls).before args s = true) (hstr : vk_R own is text sa s) (hat : ∀ w ∈ vx_atS own ic cls names, w.before args s = true)
    (hgood : ∀ w ∈ Cond.classLink own ik cls :: Cond.initialized cls :: vx_atS own ic cls names, vx_ot w = true)
    (hU : vx_Zq Bundle.tN "UNASSIGNED_STACK" Bundle.steD A s s.heap) (hN : vx_Zq Bundle.tN "SUPPRESSED_SENTINEL" Bundle.listD A s s.heap) (hS : va_S A s.heap H locs) (hsize : ls.size = c.maxLocals)
    (d0 : decode cc pc = .ok (.new ik, 3)) (d3 : decode cc (pc + 3) = .ok (.dup, 1)) (d4 : decode cc (pc + 4) = .ok (.ldc is, 2)) (d6 : decode cc (pc + 6) = .ok (.invokespecial ic, 3)) (d9 : decode cc (pc + 9) = .ok (.athrow, 1))
    (hout : ∀ x ∈ c.exceptionTable.toList, covers x (pc + 9) = false)
    (hRframes : names.length + 3 < R.frames) (hRlocals : (rest.map fun v => v.category).sum + (13 * (names.length + 1) + 43) ≤ R.locals) (hRcells : cells + 1 ≤ R.cells) (hRslots : slots + 6 ≤ R.slots) (hlocks : meth.locks = false)
    (hx : ∀ t : State, s.vm.Alike t.vm → H.size ≤ t.heap.size → (∀ q : Nat, q < H.size → t.heap[q]? = H[q]?) → XC cls s t)
    (hf : ∀ z ∈ locs, free z.base) (hc : cells + 1 ≤ mc) (hs : slots + 6 ≤ ms) :
    W p l e R s m args below meth c H locs cells slots (vx_MQ below Qc XC args s mc ms free) (F0 m pc ls rest) := by
  intro T hT X
  have htr : e.platform.stackTraces = false := (show e.platform.stackTraces = l.stackTraces by rw [X.admits.platform]).trans hl
  have Y := vx_rebase X (R' := { frames := R.frames, locals := R.locals, cells := 1, slots := 6 }) (Nat.le_refl _) (Nat.le_refl _) hRcells hRslots
  obtain ⟨s', hA⟩ : ∃ z, z = (T.setVm s.vm).setFrames (.invoking m args :: below) := ⟨_, rfl⟩
  rw [← hA] at Y
  have hvm : s'.vm = s.vm := by rw [hA]; rfl
  have hhp : s'.heap = H := by rw [hA]; exact hT
  have hW0 : s.WarmedH s'.vm := by rw [hvm]; exact State.WarmedH.refl s
  have hat' : ∀ w ∈ vx_atS own ic cls names, w.before args s' = true := fun w hw => vx_ot_at hW0 hvm.symm (hgood w (List.mem_cons_of_mem _ (List.mem_cons_of_mem _ hw))) (hat w hw)
  have hk' : (Cond.classLink own ik cls).before args s' = true := vx_ot_at hW0 hvm.symm (hgood _ List.mem_cons_self) hk
  have hini' : (Cond.initialized cls).before args s' = true := vx_ot_at hW0 hvm.symm (hgood _ (List.mem_cons_of_mem _ List.mem_cons_self)) hini
  have hU' : vx_Zq Bundle.tN "UNASSIGNED_STACK" Bundle.steD A s' s'.heap := by rw [hhp]; exact vx_Zq.moved hW0.alike (hU.kept hS.2.1)
  have hN' : vx_Zq Bundle.tN "SUPPRESSED_SENTINEL" Bundle.listD A s' s'.heap := by rw [hhp]; exact vx_Zq.moved hW0.alike (hN.kept hS.2.1)
  have h : ∀ w ∈ Bundle.ownAtoms own ic cls names, w.before args s' = true := vx_own hat' (vx_isRefq hU'.1) (vx_isRefq hN'.1) hU'.2.word hN'.2.word
  have hown' : s'.vm.findClass own = some m.cls := by rw [hvm]; exact hown
  have hins : (Cond.instantiable cls 6).before args s' = true := h _ (by simp [Bundle.ownAtoms])
  obtain ⟨vm₁, cX, kX, hfX, hkX, -, -, X₁, st1⟩ := Y.newCold hexec (own := own) (C := cls) (index := ik) (n := 6) hown' hk' hins hini'
    (g := F0 m pc ls rest) rfl (by rw [hb]; exact d0) (Nat.le_refl _) (Nat.le_refl _)
  generalize hT1 : (T.setVm vm₁).pushCell { cls := cX, slots := kX.instanceTypes.map defaultValue, vm := .none } = T1 at X₁ st1
  have hcat : (Value.ref T.heap.size).category = 1 := rfl
  have hcellA : T1.heap[T.heap.size]? = some (freshCell cX kX) := by rw [← hT1]; exact State.heap_pushCell_size _ _
  have d3' : decode c.code (pc + 3) = .ok (.dup, 1) := by rw [hb]; exact d3
  have d4' : decode c.code (pc + 4) = .ok (.ldc is, 2) := by rw [hb]; exact d4
  have hstr' : vk_R own is text sa s' := vk_R.warm hW0 hstr
  obtain ⟨U, hsteps, hrun, hend, hW, hsame, ce, hce, hO⟩ := X₁.ctorThrowS hexec htr (own := own) (cls := cls) (names := names) (ic := ic) hown' hcls hnames h (fun x hx => nomatch hx) hfX hkX hcellA (by rw [hhp, hT]; exact Nat.le_refl _) (msg := .ref sa) rfl
    (g := { method := m, pc := pc + 6, locals := ls, stack := .ref sa :: .ref T.heap.size :: .ref T.heap.size :: rest, locked := none }) rfl hsize rfl rfl (rest := rest) rfl
    (by rw [hb]; exact d6) (by rw [hb]; exact d9) hout hRframes (by simp only [List.map_cons, List.sum_cons, hcat]; omega) hlocks
  obtain ⟨f1, f2⟩ := vx_frame hsame
  rw [hhp] at f1 f2
  have hWs : s.WarmedH U.vm := State.WarmedH.trans hW0 hW
  have hcl : s.vm.findClass cls = some ce.cls := by
    have h9 := hO.cls
    rw [hvm] at h9
    exact h9
  have hall : s.sameButNew ({ U with vm := s.vm } : State) locs mc ms := by
    subst hA
    obtain ⟨e1, e2⟩ := hsame
    rw [State.setFrames_setFrames] at e1
    have h2 : (T.setVm s.vm).sameButNew ({ U with vm := s.vm } : State) [] (0 + 1) (0 + 6) := ⟨e1, e2⟩
    have h3 := X.same.trans h2
    rw [List.append_nil] at h3
    exact h3.mono hc hs
  refine ⟨U, ?_, .threw T.heap.size, hrun, hend, Or.inr ⟨T.heap.size, rfl, cls, ce, locs, hx U hWs.alike f1 (fun q hq => f2 q hq (fun z hz => nomatch hz)), hce, hO.vm, hcl, hWs, hall, hf⟩⟩
  refine st1 _ ?_
  show Steps p.tables e below (T1.setTop { method := m, pc := pc + 3, locals := ls, stack := .ref T.heap.size :: rest, locked := none }) _
  jvm_step X₁.here [X₁.here.top, hexec, d3', Value.category]
  exact X₁.ldcString hexec (own := own) (text := text) (index := is) (a := sa) hown' hstr'.1 hstr'.2
    (g := { method := m, pc := pc + 4, locals := ls, stack := .ref T.heap.size :: .ref T.heap.size :: rest, locked := none }) rfl d4' _ hsteps
/-- 'throw new E("text")', the text by a wide index -/
theorem vx_throwSW {cc : ByteArray} {pc : Nat} (hexec : p.tables.exec = Jvm.exec) (hb : c.code = cc) (hl : l.stackTraces = false) {own cls text : String} {names : List String} {ik is ic mc ms sa : Nat} {A : Nat → Prop}
    (hown : s.vm.findClass own = some m.cls) (hcls : Bundle.fit cls = true) (hnames : ∀ n ∈ names, Bundle.fit n = true)
    (hk : (Cond.classLink own ik cls).before args s = true) (hini : (Cond.initialized cls).before args s = true) (hstr : vk_R own is text sa s) (hat : ∀ w ∈ vx_atS own ic cls names, w.before args s = true)
    (hgood : ∀ w ∈ Cond.classLink own ik cls :: Cond.initialized cls :: vx_atS own ic cls names, vx_ot w = true)
    (hU : vx_Zq Bundle.tN "UNASSIGNED_STACK" Bundle.steD A s s.heap) (hN : vx_Zq Bundle.tN "SUPPRESSED_SENTINEL" Bundle.listD A s s.heap) (hS : va_S A s.heap H locs) (hsize : ls.size = c.maxLocals)
    (d0 : decode cc pc = .ok (.new ik, 3)) (d3 : decode cc (pc + 3) = .ok (.dup, 1)) (d4 : decode cc (pc + 4) = .ok (.ldc_w is, 3)) (d7 : decode cc (pc + 7) = .ok (.invokespecial ic, 3)) (d10 : decode cc (pc + 10) = .ok (.athrow, 1))
    (hout : ∀ x ∈ c.exceptionTable.toList, covers x (pc + 10) = false)
    (hRframes : names.length + 3 < R.frames) (hRlocals : (rest.map fun v => v.category).sum + (13 * (names.length + 1) + 43) ≤ R.locals) (hRcells : cells + 1 ≤ R.cells) (hRslots : slots + 6 ≤ R.slots) (hlocks : meth.locks = false)
    (hx : ∀ t : State, s.vm.Alike t.vm → H.size ≤ t.heap.size → (∀ q : Nat, q < H.size → t.heap[q]? = H[q]?) → XC cls s t)
    (hf : ∀ z ∈ locs, free z.base) (hc : cells + 1 ≤ mc) (hs : slots + 6 ≤ ms) :
    W p l e R s m args below meth c H locs cells slots (vx_MQ below Qc XC args s mc ms free) (F0 m pc ls rest) := by
  intro T hT X
  have htr : e.platform.stackTraces = false := (show e.platform.stackTraces = l.stackTraces by rw [X.admits.platform]).trans hl
  have Y := vx_rebase X (R' := { frames := R.frames, locals := R.locals, cells := 1, slots := 6 }) (Nat.le_refl _) (Nat.le_refl _) hRcells hRslots
  obtain ⟨s', hA⟩ : ∃ z, z = (T.setVm s.vm).setFrames (.invoking m args :: below) := ⟨_, rfl⟩
  rw [← hA] at Y
  have hvm : s'.vm = s.vm := by rw [hA]; rfl
  have hhp : s'.heap = H := by rw [hA]; exact hT
  have hW0 : s.WarmedH s'.vm := by rw [hvm]; exact State.WarmedH.refl s
  have hat' : ∀ w ∈ vx_atS own ic cls names, w.before args s' = true := fun w hw => vx_ot_at hW0 hvm.symm (hgood w (List.mem_cons_of_mem _ (List.mem_cons_of_mem _ hw))) (hat w hw)
  have hk' : (Cond.classLink own ik cls).before args s' = true := vx_ot_at hW0 hvm.symm (hgood _ List.mem_cons_self) hk
  have hini' : (Cond.initialized cls).before args s' = true := vx_ot_at hW0 hvm.symm (hgood _ (List.mem_cons_of_mem _ List.mem_cons_self)) hini
  have hU' : vx_Zq Bundle.tN "UNASSIGNED_STACK" Bundle.steD A s' s'.heap := by rw [hhp]; exact vx_Zq.moved hW0.alike (hU.kept hS.2.1)
  have hN' : vx_Zq Bundle.tN "SUPPRESSED_SENTINEL" Bundle.listD A s' s'.heap := by rw [hhp]; exact vx_Zq.moved hW0.alike (hN.kept hS.2.1)
  have h : ∀ w ∈ Bundle.ownAtoms own ic cls names, w.before args s' = true := vx_own hat' (vx_isRefq hU'.1) (vx_isRefq hN'.1) hU'.2.word hN'.2.word
  have hown' : s'.vm.findClass own = some m.cls := by rw [hvm]; exact hown
  have hins : (Cond.instantiable cls 6).before args s' = true := h _ (by simp [Bundle.ownAtoms])
  obtain ⟨vm₁, cX, kX, hfX, hkX, -, -, X₁, st1⟩ := Y.newCold hexec (own := own) (C := cls) (index := ik) (n := 6) hown' hk' hins hini'
    (g := F0 m pc ls rest) rfl (by rw [hb]; exact d0) (Nat.le_refl _) (Nat.le_refl _)
  generalize hT1 : (T.setVm vm₁).pushCell { cls := cX, slots := kX.instanceTypes.map defaultValue, vm := .none } = T1 at X₁ st1
  have hcat : (Value.ref T.heap.size).category = 1 := rfl
  have hcellA : T1.heap[T.heap.size]? = some (freshCell cX kX) := by rw [← hT1]; exact State.heap_pushCell_size _ _
  have d3' : decode c.code (pc + 3) = .ok (.dup, 1) := by rw [hb]; exact d3
  have d4' : decode c.code (pc + 4) = .ok (.ldc_w is, 3) := by rw [hb]; exact d4
  have hstr' : vk_R own is text sa s' := vk_R.warm hW0 hstr
  obtain ⟨U, hsteps, hrun, hend, hW, hsame, ce, hce, hO⟩ := X₁.ctorThrowS hexec htr (own := own) (cls := cls) (names := names) (ic := ic) hown' hcls hnames h (fun x hx => nomatch hx) hfX hkX hcellA (by rw [hhp, hT]; exact Nat.le_refl _) (msg := .ref sa) rfl
    (g := { method := m, pc := pc + 7, locals := ls, stack := .ref sa :: .ref T.heap.size :: .ref T.heap.size :: rest, locked := none }) rfl hsize rfl rfl (rest := rest) rfl
    (by rw [hb]; exact d7) (by rw [hb]; exact d10) hout hRframes (by simp only [List.map_cons, List.sum_cons, hcat]; omega) hlocks
  obtain ⟨f1, f2⟩ := vx_frame hsame
  rw [hhp] at f1 f2
  have hWs : s.WarmedH U.vm := State.WarmedH.trans hW0 hW
  have hcl : s.vm.findClass cls = some ce.cls := by
    have h9 := hO.cls
    rw [hvm] at h9
    exact h9
  have hall : s.sameButNew ({ U with vm := s.vm } : State) locs mc ms := by
    subst hA
    obtain ⟨e1, e2⟩ := hsame
    rw [State.setFrames_setFrames] at e1
    have h2 : (T.setVm s.vm).sameButNew ({ U with vm := s.vm } : State) [] (0 + 1) (0 + 6) := ⟨e1, e2⟩
    have h3 := X.same.trans h2
    rw [List.append_nil] at h3
    exact h3.mono hc hs
  refine ⟨U, ?_, .threw T.heap.size, hrun, hend, Or.inr ⟨T.heap.size, rfl, cls, ce, locs, hx U hWs.alike f1 (fun q hq => f2 q hq (fun z hz => nomatch hz)), hce, hO.vm, hcl, hWs, hall, hf⟩⟩
  refine st1 _ ?_
  show Steps p.tables e below (T1.setTop { method := m, pc := pc + 3, locals := ls, stack := .ref T.heap.size :: rest, locked := none }) _
  jvm_step X₁.here [X₁.here.top, hexec, d3', Value.category]
  exact X₁.ldcStringW hexec (own := own) (text := text) (index := is) (a := sa) hown' hstr'.1 hstr'.2
    (g := { method := m, pc := pc + 4, locals := ls, stack := .ref T.heap.size :: .ref T.heap.size :: rest, locked := none }) rfl d4' _ hsteps
end Ends
section Bodies
variable {l : Launch}
theorem vx_ofW {y : MethodName} {ws ws' : List Cond} {rm : Room} {Pc : Array Value → State → Prop} {Qc : Array Value → State → Outcome → State → Prop} {XC : String → State → State → Prop} {mc ms : Nat} {free : Addr → Prop} {cc : ByteArray} {maxL : Nat} {ret : Option FieldType}
    (hy : plainName y.cls = true) (hw : ws = Cond.code y cc maxL ret :: ws')
    (body : ∀ p e s m args below meth c s₁, BodyLoose p l y (headSpec ws rm) cc maxL ret e s m args below meth c s₁ → c.maxLocals = maxL → (∀ x ∈ c.exceptionTable.toList, False) → Pc args s →
      W p l e (headSpec ws rm).room s m args below meth c s.heap [] 0 0 (vx_MQ below Qc XC args s mc ms free) (entryFrame m args maxL)) : vx_Met l y ws rm Pc Qc XC mc ms free := by
  refine MetFree.of_bodyS (code := cc) (maxLocals := maxL) (ret := ret) hy ?_ ?_
  · intro args s m h hn
    obtain ⟨meth, c, h1, h2, h3, h4, h5, h6, -, -⟩ := Cond.code_spec hn (atoms_spec (ws := ws) h _ (by rw [hw]; exact List.mem_cons_self))
    exact ⟨meth, c, h1, h2, h3, h4, h5, h6⟩
  · intro p e s m args below meth c s₁ B hml hP _
    have hh0 : s₁.heap = s.heap := by rw [B.state]; rfl
    have ht : ∀ x ∈ c.exceptionTable.toList, False := by
      obtain ⟨meth9, c9, h1, h2, -, -, -, -, h7, -⟩ := Cond.code_spec B.named (atoms_spec (ws := ws) B.pre _ (by rw [hw]; exact List.mem_cons_self))
      cases Option.some.inj (h1.symm.trans B.method)
      cases Option.some.inj (h2.symm.trans (Stand.of_body B).code)
      intro x hx
      rw [Array.isEmpty_iff.mp h7] at hx
      cases hx
    obtain ⟨t, a1, o, b1, b2, b3⟩ := body p e s m args below meth c s₁ B hml ht hP s₁ hh0 (Stand.of_body B)
    exact ⟨t, o, a1, b1, b2, b3⟩
/-- the table of a body with handlers -/
theorem vx_table {p : Program} {x y : MethodName} {S : Spec} {cc bytes : ByteArray} {maxL maxL' : Nat} {ret ret' : Option FieldType} {e : Env} {s s₁ : State} {m : MethodId} {args : Array Value} {below : List Frame} {meth : Method} {c : Code} {hh : List (Nat × Nat × Nat × Nat)}
    (B : BodyLoose p l y S cc maxL ret e s m args below meth c s₁) (h : (Cond.codeWith y bytes maxL' ret' hh).before args s = true) : c.exceptionTable.toList = tableOf hh := by
  obtain ⟨m9, meth9, c9, hn9, h1, h2, -, -, h6, -⟩ := Cond.codeWith_spec h
  cases Option.some.inj (hn9.symm.trans B.named)
  cases Option.some.inj (h1.symm.trans B.method)
  cases Option.some.inj (h2.symm.trans (Stand.of_body B).code)
  rw [← h6, table_eq]
end Bodies
end VXA
/-! ===== END ===== -/
/-! ===== BEGIN a static call of a method with an exception table ===== -/
section VXS
variable {p : Program} {l : Launch} {e : Env} {R : Room} {s : State} {m : MethodId} {args : Array Value} {below : List Frame} {meth : Method} {c : Code} {T : State} {H : Heap} {locs : List Loc} {cells slots : Nat}
abbrev vx_CSW (R : Room) (s : State) (args : Array Value) (own : String) (index : Nat) (y : MethodName) (bytes : ByteArray) (maxL : Nat) (ret : Option FieldType) (hh : List (Nat × Nat × Nat × Nat)) (ws : List Cond) (rm : Room) (mc ms n : Nat) : Prop :=
  (rm.cells = mc ∧ rm.slots = ms ∧ rm.frames + 1 ≤ R.frames ∧ 8 + (maxL + 11) + rm.locals ≤ R.locals ∧ (∀ w ∈ ws, ∀ (a' : Array Value) (U : State), s.WarmedH U.vm → w.before a' U = true) ∧ Cond.codeWith y bytes maxL ret hh ∈ ws) ∧
  (Cond.codeWith y bytes maxL ret hh).before args s = true ∧ (Cond.initialized y.cls).before args s = true ∧ (y.cls ≠ "java/lang/invoke/MethodHandle" ∧ y.cls ≠ "java/lang/invoke/VarHandle") ∧
  (∀ sig, parseMethodDescriptor y.desc = some sig → n = sig.parameters.length) ∧ (Cond.methodLink own index y).before args s = true ∧ (Cond.static y).before args s = true
theorem vx_cwSW {own : String} {index maxL mc ms : Nat} {y : MethodName} {bytes : ByteArray} {ret : Option FieldType} {hh : List (Nat × Nat × Nat × Nat)} {Ts ws ws' : List Cond} {rm : Room} (n : Nat) (ht : ∀ w ∈ Ts, w.before args s = true) (hT : GoodIn Ts (va_wsS own index y ws)) (hw : ws = Cond.codeWith y bytes maxL ret hh :: ws') (hrc : rm.cells = mc) (hrs : rm.slots = ms)
    (hd : y.cls ≠ "java/lang/invoke/MethodHandle" ∧ y.cls ≠ "java/lang/invoke/VarHandle" ∧ (parseMethodDescriptor y.desc).map (fun d => d.parameters.length) = some n) (hR : rm.frames + 1 ≤ R.frames ∧ 8 + (maxL + 11) + rm.locals ≤ R.locals) :
    vx_CSW R s args own index y bytes maxL ret hh ws rm mc ms n := by
  have ok : ∀ w ∈ va_wsS own index y ws, w.before args s = true := fun w h => ht w (hT w h).1
  have hG : GoodIn Ts ws := fun w h => hT w (by unfold va_wsS; exact List.mem_append_right _ h)
  have hc : Cond.codeWith y bytes maxL ret hh ∈ ws := by rw [hw]; exact List.mem_cons_self
  refine ⟨⟨hrc, hrs, hR.1, hR.2, pay_in ht hG, hc⟩, ht _ (hG _ hc).1, ok _ (by simp [va_wsS]), ⟨hd.1, hd.2.1⟩, fun sig h => ?_, ok _ (by simp [va_wsS]), ok _ (by simp [va_wsS])⟩
  have h2 := hd.2.2
  rw [h] at h2
  exact (Option.some.inj h2).symm
theorem vx_callSW (X : Stand p l e R s m args below meth c T locs cells slots) (hexec : p.tables.exec = Jvm.exec) {own : String} {index : Nat} {y : MethodName} {bytes : ByteArray} {maxL : Nat} {ret : Option FieldType} {hh : List (Nat × Nat × Nat × Nat)}
    (hown : s.vm.findClass own = some m.cls) (hlink : (Cond.methodLink own index y).before args s = true) (hstat : (Cond.static y).before args s = true) (hinit : (Cond.initialized y.cls).before args s = true)
    (hcode : (Cond.codeWith y bytes maxL ret hh).before args s = true) (hy : y.cls ≠ "java/lang/invoke/MethodHandle" ∧ y.cls ≠ "java/lang/invoke/VarHandle")
    {W9 : Nat} {Pre : Pt → Array Value → Prop} {Post : Pt → Array Value → Option Value → Pt → Prop} (hK : Back l R p e below s args y 3 W9 Pre Post)
    {g : JFrame} (hg : g.method = m) (hsize : g.locals.size = c.maxLocals) {argsL rest : List Value} (hlen : ∀ sig, parseMethodDescriptor y.desc = some sig → argsL.length = sig.parameters.length)
    (hstack : g.stack = argsL.reverse ++ rest) (hW : 2 * g.monitorRoom + (rest.map fun v => v.category).sum ≤ W9) (hdg : decode c.code g.pc = .ok (.invokestatic index, 3))
    (hpre : ∀ vm₁, s.WarmedH vm₁ → Pre ⟨T.setVm vm₁, locs, cells, slots⟩ argsL.toArray) :
    ∃ (v : Option Value) (vm₁ : Vm) (B : Pt), s.WarmedH vm₁ ∧ Stand p l e R s m args below meth c B.U B.locs B.cells B.slots ∧ Post ⟨T.setVm vm₁, locs, cells, slots⟩ argsL.toArray v B ∧
      ∀ target, Steps p.tables e below (B.U.setTop { g with pc := g.pc + 3, stack := v.toList ++ rest }) target → Steps p.tables e below (T.setTop g) target := by
  obtain ⟨mk, methM, cM, hnamed, hmethM, -, -, -, -, -, -, hsigM⟩ := Cond.codeWith_spec hcode
  have hstatic : methM.isStatic = true := Cond.static_spec hnamed hmethM hstat
  obtain ⟨kP, hkP, -⟩ := className_of_methodNamed hnamed
  have hinitP : kP.init = .initialized := Cond.initialized_spec (findClass_of_methodNamed hnamed) hkP hinit
  obtain ⟨vm₁, X₁, hstep₁⟩ := X.invokestatic hexec hown hlink hnamed hmethM hstatic hkP hinitP hy (g := g) hg (argsL := argsL) (rest := rest) (hlen _ hsigM) hstack hdg
  obtain ⟨v, B, X', hpost, hsteps⟩ := hK m meth c ⟨T.setVm vm₁, locs, cells, slots⟩ { g with stack := rest } (.invokestatic index) mk argsL.toArray X₁ hg hsize hdg hW (X₁.named hnamed) (hpre vm₁ X₁.warmed)
  exact ⟨v, vm₁, B, X₁.warmed, X', hpost, fun target h => hstep₁ _ fun acts => by rw [doInvoke_state]; exact hsteps.trans h⟩
theorem vx_runSW {y : MethodName} {bytes cc : ByteArray} {maxL nL mc ms n index : Nat} {ret : Option FieldType} {hh : List (Nat × Nat × Nat × Nat)} {ws : List Cond} {rm : Room} {Pc : Array Value → State → Prop} {Qc : Array Value → State → Outcome → State → Prop} {free : Addr → Prop} {Ts : List Cond} {own : String} {As rest : List Value} {g : JFrame}
    (S : CallFix p m c cc nL s args Ts own) (hM : Met l y ws rm Pc Qc mc ms free) (cw : vx_CSW R s args own index y bytes maxL ret hh ws rm mc ms n) (hp : PreS s H Pc As)
    (hg : g.method = m) (hn : As.length = n) (hsize : g.locals.size = nL) (hstack : g.stack = As.reverse ++ rest) (hW : 2 * g.monitorRoom + (rest.map fun v => v.category).sum ≤ 8) (hdg : decode cc g.pc = .ok (.invokestatic index, 3)) (hf : cells + mc ≤ R.cells ∧ slots + ms ≤ R.slots) :
    va_Run p l e R s m args below meth c H locs cells slots mc ms g rest (Qc As.toArray) (free) := by
  obtain ⟨⟨hrc, hrs, hfr, hlo, hws, hcw⟩, hcode, hini, hy, hlen, hl, hstt⟩ := cw
  have hK : Back l R p e below s args y 3 8 (PreOf R mc ms Pc) (PostOf Qc mc ms free) := va_backW (hh := hh) (bytes := bytes) (maxL := maxL) (ret := ret) hM hp.1 hrc hrs hfr hlo hws hcw (fun a' U hW => word_at hW (Or.inl (by first | rfl | simp [Cond.onTables, Cond.keeps, Cond.steady])) hini)
  obtain ⟨hx, hb, hml, ho, -⟩ := S
  intro T hT X
  obtain ⟨v, vm₁, ⟨U', l2, c2, s2⟩, hW₁, X', ⟨g', mk, t, L, e1, e2, hq, h1, hL, h2, h3⟩, st⟩ := vx_callSW X hx (hh := hh) (bytes := bytes) (maxL := maxL) (ret := ret) ho hl hstt hini hcode hy hK hg (hsize.trans hml.symm) (argsL := As) (rest := rest) (fun sig h => hn.trans (hlen sig h)) hstack hW (by rw [hb]; exact hdg)
    (fun vm₁ hW₁ => ⟨hf.1, hf.2, hp.2 (T.setVm vm₁) hT hW₁⟩)
  dsimp only [Pt.U, Pt.locs, Pt.cells, Pt.slots] at X' e1 e2 h1 h2 h3 st
  subst h1; subst h2; subst h3
  exact ⟨v, (T.setVm vm₁).calling g' mk As.toArray, t, U', L, hT, X', hL, e1, e2, hq, st⟩
/-- not caught here, past rows that name other classes: it goes on to the caller -/
theorem vx_outP {p : Program} {l : Launch} {e : Env} {R : Room} {s : State} {m : MethodId} {args : Array Value} {below : List Frame} {meth : Method} {c : Code} {H : Heap} {locs : List Loc} {cells slots : Nat} {free : Addr → Prop} {ls : Array Slot} {rest : List Value} {Qc : Array Value → State → Outcome → State → Prop} {XC : String → State → State → Prop}
    {pc : Nat} {own E : String} {ce : Cell} {q : Addr} {mc ms : Nat} (hown : s.vm.findClass own = some m.cls) (hlocks : meth.locks = false)
    (hpass : ∀ z ∈ c.exceptionTable.toList, covers z pc = false ∨ (z.catchType ≠ 0 ∧ ∃ nm : String, (Cond.classLink own z.catchType nm).before args s = true ∧ va_Nc E nm s)) (hcell : H[q]? = some ce) (hv : ce.vm = .none) (hcl : s.vm.findClass E = some ce.cls)
    (hx : ∀ t : State, t.heap = H → s.vm.Alike t.vm → XC E s t) (hf : ∀ z ∈ locs, free z.base) (hc : cells ≤ mc) (hs : slots ≤ ms) :
    vx_W p l e R s m args below meth c H locs cells slots (vx_MQ below Qc XC args s mc ms free) (F0 m pc ls rest) q := by
  intro T hT X
  have hpl : e.platform.magicAccessors = ({} : Platform).magicAccessors := by rw [X.admits.platform]
  obtain ⟨vm', hW', X', st⟩ := X.outThrough hlocks q (g := F0 m pc ls rest) rfl rfl rfl (cell := ce) (by rw [hT]; exact hcell) (by rw [hv]; rfl)
    (by obtain ⟨k9, h9, -⟩ := Vm.findClass_spec hcl; exact ⟨k9, h9⟩) (fun z hz => by
      rcases hpass z hz with h | ⟨hz0, nm, hl1, hn1⟩
      · exact Or.inl h
      · obtain ⟨c6, hc6, hcl6⟩ := Cond.classLink_spec hown hl1 e.platform hpl
        obtain ⟨a8, b8, h1, h2, h3⟩ := hn1
        cases Option.some.inj (h1.symm.trans hcl)
        cases Option.some.inj (h2.symm.trans hc6)
        exact Or.inr ⟨hz0, _, hcl6, h3⟩)
  obtain ⟨g₀, hfr⟩ := X'.frames_eq
  have hcell9 : ((T.setVm vm').setFrames (.throwing q :: below)).heap[q]? = some ce := by
    show T.heap[q]? = some ce
    rw [hT]; exact hcell
  have hend : Ended ((T.setVm vm').setFrames (.throwing q :: below)) below (.threw q) := State.frames_setFrames _ (State.cur_lt_of_frames hfr)
  refine ⟨(T.setVm vm').setFrames (.throwing q :: below), ?_, .threw q, X'.here.running, hend, Or.inr ⟨q, rfl, E, ce, locs, hx _ hT (X'.ends _).1.alike, hcell9, hv, hcl, (X'.ends _).1, (X'.ends _).2.mono hc hs, hf⟩⟩
  rw [X.pushThrowing_eq]
  exact st
/-- a thing of a world lies in the heap -/
theorem vx_lt {D : va_G} {cl : List vw_C} {ws : va_W} {H1 : Heap} (h : va_P D cl ws H1) {k : Nat} {q : Nat × va_E} (hk : ws[k]? = some q) : q.1 < H1.size := (h k q hk).lt
end VXS
/-! ===== END ===== -/
/-! ===== BEGIN methods with a table of their own: called by a name, returning or throwing ===== -/
section VXH
/-! vx_backW, vx_callVX, vx_callSX, vx_callVW, vx_runVW, vx_runVX, vx_runSX, vx_ofWH follow the same proofs as their sisters above (Free/Laws.lean, Shelf42/LK1.lean); vx_outP calls Shelf42/NT130.lean (outThrough). -/
section
variable {l : Launch} {R : Room} {p : Program} {e : Env} {below : List Frame} {s : State} {sargs : Array Value} {y : MethodName} {len W9 : Nat}
theorem vx_backW {ws : List Cond} {rm : Room} {Pc : Array Value → State → Prop} {Qc : Array Value → State → Outcome → State → Prop} {XC : String → State → State → Prop} {mc ms : Nat} {free : Addr → Prop} {bytes : ByteArray} {maxL : Nat} {ret : Option FieldType} {hh : List (Nat × Nat × Nat × Nat)}
    (hM : vx_Met l y ws rm Pc Qc XC mc ms free) (hblind : FrameBlind Pc) (hrc : rm.cells = mc) (hrs : rm.slots = ms)
    (hframes : rm.frames + 1 ≤ R.frames) (hlocals : W9 + (maxL + 11) + rm.locals ≤ R.locals)
    (hws : ∀ w ∈ ws, ∀ a' U, s.WarmedH U.vm → w.before a' U = true) (hcode : Cond.codeWith y bytes maxL ret hh ∈ ws) (hinit : ∀ a' U, s.WarmedH U.vm → (Cond.initialized y.cls).before a' U = true) :
    vx_Back l R p e below s sargs y len W9 (PreOf R mc ms Pc) (PostOf Qc mc ms free) (vx_Post XC mc ms free) := by
  intro m meth c A g ig mk a X hg hsize hdg hW hn hp
  have h1 : (headSpec ws rm).pre.before a A.U = true := atoms_intro fun w hw => hws w hw _ _ X.warmed
  have h2 : (Cond.codeWith y bytes maxL ret hh).before a A.U = true := hws _ hcode _ _ X.warmed
  have h3 : (Cond.initialized y.cls).before a A.U = true := hinit _ _ X.warmed
  have h4 : A.cells + (headSpec ws rm).room.cells ≤ R.cells := by rw [show (headSpec ws rm).room.cells = mc from hrc]; exact hp.1
  have h5 : A.slots + (headSpec ws rm).room.slots ≤ R.slots := by rw [show (headSpec ws rm).room.slots = ms from hrs]; exact hp.2.1
  have hPc : Pc a (A.U.calling g mk a) := hblind _ _ _ _ hp.2.2
  obtain ⟨U, Ls, c0, s0⟩ := A
  dsimp only [Pt.U, Pt.locs, Pt.cells, Pt.slots] at h1 h2 h3 h4 h5 X hn hPc ⊢
  obtain ⟨m9, methY, cY, hn9, hmY, hcY, -, hlY, -⟩ := Cond.codeWith_spec h2
  cases Option.some.inj (hn9.symm.trans hn)
  obtain ⟨kY, hkY, -⟩ := className_of_methodNamed hn
  have hinitY : kY.init = .initialized := Cond.initialized_spec (findClass_of_methodNamed hn) hkY h3
  have h : At U g.method c below := by rw [hg]; exact X.here
  have hlocals9 : W9 + (maxL + 11) + (headSpec ws rm).room.locals ≤ R.locals := hlocals
  have happ : (headSpec ws rm).appliesLoose y e.platform (U.calling g mk a) = true :=
    Spec.appliesLoose_calling (g := g) h hdg hn hkY hinitY
      (X.room_calling (g := g) (R' := (headSpec ws rm).room) hsize hmY hcY hframes (by rw [hlY]; omega) h4 h5) h1
  obtain ⟨mid, hmid⟩ := h.above
  have hfr : (U.setTop g).frames = (.java g :: mid) ++ below := by rw [State.frames_setTop' g h.top, hmid]; rfl
  obtain ⟨o, s₂, hsteps, -, hend, hq⟩ := Steps.callFree hM p X.admits X.cas X.clock (acts := []) hfr happ hPc trivial
  have hq' : vx_Q Qc XC mc ms free a (U.calling g mk a) o s₂ := hq
  rw [State.frames_setTop' g h.top] at hend
  obtain ⟨g₀, hg0⟩ := Option.isSome_iff_exists.mp h.top
  obtain ⟨r, hr⟩ := State.topJava?_eq_some.mp hg0
  have hr' : (({ U with heap := s₂.heap, slotsUsed := s₂.slotsUsed } : State).setVm s₂.vm).frames = .java g₀ :: r := hr
  rcases hq' with ⟨hqc, L, hfe, hL⟩ | ⟨q, rfl, E, ce, L, hx, hce, hcv, hcl, hW₂, hsm, hL⟩
  · obtain ⟨⟨v, rfl⟩, hW₂, e2, q2, q3, q4, q5, q6⟩ := id hfe
    have e3 : s₂ = ({ (U.calling g mk a).setFrames s₂.frames with heap := s₂.heap, slotsUsed := s₂.slotsUsed } : State).setVm s₂.vm := by
      have : s₂ = ({ s₂ with vm := (U.calling g mk a).vm } : State).setVm s₂.vm := rfl
      rw [e2] at this
      exact this
    obtain ⟨c₂, i₂, len₂, hc₂, hd₂, hf₂⟩ := hend
    have hW' : U.WarmedH s₂.vm := hW₂
    have hcc : c₂ = c := by
      have h1 : s₂.code? g.method = U.code? g.method := by
        rw [State.code?_eq, State.code?_eq, hW'.alike.method?]
      exact Option.some.inj (hc₂.symm.trans (h1.trans h.code))
    subst hcc
    have hlen : len₂ = len := by rw [hdg] at hd₂; cases hd₂; rfl
    subst hlen
    have hs₂ : s₂ = (({ U with heap := s₂.heap, slotsUsed := s₂.slotsUsed } : State).setVm s₂.vm).setTop { g with pc := g.pc + len₂, stack := v.toList ++ g.stack } := by
      refine e3.trans ?_
      rw [hf₂, State.calling_eq h.top, State.setFrames_setFrames, State.setTop_of_frames _ hr', hr]
      rfl
    have hsame : U.sameButNew ({ U with heap := s₂.heap, slotsUsed := s₂.slotsUsed } : State) L mc ms := by
      refine ⟨?_, q2, q3, q4, q5, q6⟩
      obtain ⟨t, ht, -⟩ := State.frames_cons hr
      show ({ U with heap := s₂.heap, slotsUsed := s₂.slotsUsed } : State) = { U.setFrames U.frames with heap := s₂.heap, slotsUsed := s₂.slotsUsed }
      rw [State.setFrames_self ht]
    subst hg
    refine Or.inl ⟨v, ⟨(({ U with heap := s₂.heap, slotsUsed := s₂.slotsUsed } : State).setVm s₂.vm), Ls ++ L, c0 + mc, s0 + ms⟩,
      ⟨X.admits, X.cas, X.clock, X.frames, X.room, X.hears, X.method, X.code, (X.here.setHeapUsed s₂.heap s₂.slotsUsed).setVm hW'.alike, X.tail, State.WarmedH.trans X.warmed hW', X.limits, X.bytes, X.same.trans (hsame.setVm s.vm)⟩,
      ⟨g, mk, s₂, L, rfl, rfl, hqc, rfl, hL, rfl, rfl⟩, ?_⟩
    show Steps p.tables e below _ ((({ U with heap := s₂.heap, slotsUsed := s₂.slotsUsed } : State).setVm s₂.vm).setTop { g with pc := g.pc + len₂, stack := v.toList ++ g.stack })
    rw [← hs₂]
    exact hsteps
  · obtain ⟨e2, q2, q3, q4, q5, q6⟩ := id hsm
    have e3 : s₂ = ({ (U.calling g mk a).setFrames s₂.frames with heap := s₂.heap, slotsUsed := s₂.slotsUsed } : State).setVm s₂.vm := by
      have : s₂ = ({ s₂ with vm := (U.calling g mk a).vm } : State).setVm s₂.vm := rfl
      rw [e2] at this
      exact this
    have hf₂ : s₂.frames = .throwing q :: .java g :: U.frames.tail := hend
    have hW' : U.WarmedH s₂.vm := hW₂
    have hs₂ : s₂ = ((({ U with heap := s₂.heap, slotsUsed := s₂.slotsUsed } : State).setVm s₂.vm).setTop g).pushFrame (.throwing q) := by
      refine e3.trans ?_
      rw [hf₂, State.calling_eq h.top, State.setFrames_setFrames, State.pushFrame, State.frames_setTop _ hr', State.setTop_of_frames _ hr', State.setFrames_setFrames, hr]
      rfl
    have hsame : U.sameButNew ({ U with heap := s₂.heap, slotsUsed := s₂.slotsUsed } : State) L mc ms := by
      refine ⟨?_, q2, q3, q4, q5, q6⟩
      obtain ⟨t, ht, -⟩ := State.frames_cons hr
      show ({ U with heap := s₂.heap, slotsUsed := s₂.slotsUsed } : State) = { U.setFrames U.frames with heap := s₂.heap, slotsUsed := s₂.slotsUsed }
      rw [State.setFrames_self ht]
    subst hg
    refine Or.inr ⟨q, ⟨(({ U with heap := s₂.heap, slotsUsed := s₂.slotsUsed } : State).setVm s₂.vm), Ls ++ L, c0 + mc, s0 + ms⟩,
      ⟨X.admits, X.cas, X.clock, X.frames, X.room, X.hears, X.method, X.code, (X.here.setHeapUsed s₂.heap s₂.slotsUsed).setVm hW'.alike, X.tail, State.WarmedH.trans X.warmed hW', X.limits, X.bytes, X.same.trans (hsame.setVm s.vm)⟩,
      ⟨g, mk, s₂, L, E, ce, rfl, rfl, hx, hce, hcv, hcl, rfl, hL, rfl, rfl⟩, ?_⟩
    show Steps p.tables e below _ (((({ U with heap := s₂.heap, slotsUsed := s₂.slotsUsed } : State).setVm s₂.vm).setTop g).pushFrame (.throwing q))
    rw [← hs₂]
    exact hsteps
end
variable {p : Program} {l : Launch} {e : Env} {R : Room} {s : State} {m : MethodId} {args : Array Value} {below : List Frame} {meth : Method} {c : Code} {T : State} {H : Heap} {locs : List Loc} {cells slots : Nat}
theorem vx_callVX (X : Stand p l e R s m args below meth c T locs cells slots) (hexec : p.tables.exec = Jvm.exec) {own C : String} {index : Nat} {y : MethodName} {bytes : ByteArray} {maxL : Nat} {ret : Option FieldType} {hh : List (Nat × Nat × Nat × Nat)}
    (hown : s.vm.findClass own = some m.cls) (hlink : (Cond.methodLink own index y).before args s = true) (hinst : (Cond.instanceMethod y).before args s = true) (hsel : (Cond.selects C y y).before args s = true)
    (hcode : (Cond.codeWith y bytes maxL ret hh).before args s = true) (hy : y.cls ≠ "java/lang/invoke/MethodHandle" ∧ y.cls ≠ "java/lang/invoke/VarHandle")
    {W9 : Nat} {Pre : Pt → Array Value → Prop} {Post : Pt → Array Value → Option Value → Pt → Prop} {PostX : Pt → Array Value → Addr → Pt → Prop} (hK : vx_Back l R p e below s args y 3 W9 Pre Post PostX)
    {b : Addr} {cellB : Cell} (hcell : T.heap[b]? = some cellB) (hobj : cellB.vm.isStatics = false) (hcls : s.vm.findClass C = some cellB.cls)
    {g : JFrame} (hg : g.method = m) (hsize : g.locals.size = c.maxLocals) {argsL rest : List Value} (hlen : ∀ sig, parseMethodDescriptor y.desc = some sig → argsL.length = sig.parameters.length)
    (hstack : g.stack = argsL.reverse ++ .ref b :: rest) (hW : 2 * g.monitorRoom + (rest.map fun v => v.category).sum ≤ W9) (hdg : decode c.code g.pc = .ok (.invokevirtual index, 3))
    (hpre : ∀ vm₁, s.WarmedH vm₁ → Pre ⟨T.setVm vm₁, locs, cells, slots⟩ (Value.ref b :: argsL).toArray) :
    (∃ (v : Option Value) (vm₁ : Vm) (B : Pt), s.WarmedH vm₁ ∧ Stand p l e R s m args below meth c B.U B.locs B.cells B.slots ∧ Post ⟨T.setVm vm₁, locs, cells, slots⟩ (Value.ref b :: argsL).toArray v B ∧
      ∀ target, Steps p.tables e below (B.U.setTop { g with pc := g.pc + 3, stack := v.toList ++ rest }) target → Steps p.tables e below (T.setTop g) target) ∨
    (∃ (q : Addr) (vm₁ : Vm) (B : Pt), s.WarmedH vm₁ ∧ Stand p l e R s m args below meth c B.U B.locs B.cells B.slots ∧ PostX ⟨T.setVm vm₁, locs, cells, slots⟩ (Value.ref b :: argsL).toArray q B ∧
      Steps p.tables e below (T.setTop g) ((B.U.setTop { g with stack := rest }).pushFrame (.throwing q))) := by
  obtain ⟨mk, methM, hnamed, hmethM, hstM, habM⟩ := Cond.instanceMethod_spec hinst
  obtain ⟨m8, methM', cM, hn8, hmethM', -, -, -, -, -, -, hsigM⟩ := Cond.codeWith_spec hcode
  cases Option.some.inj (hn8.symm.trans hnamed)
  cases hmethM.symm.trans hmethM'
  obtain ⟨c2, r2, m2, q1, q2, q3, q4, kP, hkP, hkPi⟩ := Cond.selects_spec hsel
  cases hcls.symm.trans q1
  cases (State.methodFound?_of_named hnamed hy).symm.trans q2
  cases hnamed.symm.trans q3
  have hselP : selectMethod e.platform s.vm cellB.cls mk = .method mk := by rw [Launch.admits_selectMethod X.admits]; exact q4
  obtain ⟨vm₁, X₁, hstep₁⟩ := X.invokevirtual hexec hown hlink hnamed hmethM hstM hkP hkPi hy (a := b) (cell := cellB) hcell
    (fun z h => by rw [h] at hobj; cases hobj) hselP hmethM habM hkP hkPi (g := g) hg (argsL := argsL) (rest := rest) (hlen _ hsigM) hstack hdg
  rcases hK m meth c ⟨T.setVm vm₁, locs, cells, slots⟩ { g with stack := rest } (.invokevirtual index) mk (Value.ref b :: argsL).toArray X₁ hg hsize hdg hW (X₁.named hnamed) (hpre vm₁ X₁.warmed) with ⟨v, B, X', hpost, hsteps⟩ | ⟨q, B, X', hpost, hsteps⟩
  · exact Or.inl ⟨v, vm₁, B, X₁.warmed, X', hpost, fun target h => hstep₁ _ fun acts => by rw [doInvoke_state]; exact hsteps.trans h⟩
  · exact Or.inr ⟨q, vm₁, B, X₁.warmed, X', hpost, hstep₁ _ fun acts => by rw [doInvoke_state]; exact hsteps⟩
theorem vx_callSX (X : Stand p l e R s m args below meth c T locs cells slots) (hexec : p.tables.exec = Jvm.exec) {own : String} {index : Nat} {y : MethodName} {bytes : ByteArray} {maxL : Nat} {ret : Option FieldType} {hh : List (Nat × Nat × Nat × Nat)}
    (hown : s.vm.findClass own = some m.cls) (hlink : (Cond.methodLink own index y).before args s = true) (hstat : (Cond.static y).before args s = true) (hinit : (Cond.initialized y.cls).before args s = true)
    (hcode : (Cond.codeWith y bytes maxL ret hh).before args s = true) (hy : y.cls ≠ "java/lang/invoke/MethodHandle" ∧ y.cls ≠ "java/lang/invoke/VarHandle")
    {W9 : Nat} {Pre : Pt → Array Value → Prop} {Post : Pt → Array Value → Option Value → Pt → Prop} {PostX : Pt → Array Value → Addr → Pt → Prop} (hK : vx_Back l R p e below s args y 3 W9 Pre Post PostX)
    {g : JFrame} (hg : g.method = m) (hsize : g.locals.size = c.maxLocals) {argsL rest : List Value} (hlen : ∀ sig, parseMethodDescriptor y.desc = some sig → argsL.length = sig.parameters.length)
    (hstack : g.stack = argsL.reverse ++ rest) (hW : 2 * g.monitorRoom + (rest.map fun v => v.category).sum ≤ W9) (hdg : decode c.code g.pc = .ok (.invokestatic index, 3))
    (hpre : ∀ vm₁, s.WarmedH vm₁ → Pre ⟨T.setVm vm₁, locs, cells, slots⟩ argsL.toArray) :
    (∃ (v : Option Value) (vm₁ : Vm) (B : Pt), s.WarmedH vm₁ ∧ Stand p l e R s m args below meth c B.U B.locs B.cells B.slots ∧ Post ⟨T.setVm vm₁, locs, cells, slots⟩ argsL.toArray v B ∧
      ∀ target, Steps p.tables e below (B.U.setTop { g with pc := g.pc + 3, stack := v.toList ++ rest }) target → Steps p.tables e below (T.setTop g) target) ∨
    (∃ (q : Addr) (vm₁ : Vm) (B : Pt), s.WarmedH vm₁ ∧ Stand p l e R s m args below meth c B.U B.locs B.cells B.slots ∧ PostX ⟨T.setVm vm₁, locs, cells, slots⟩ argsL.toArray q B ∧
      Steps p.tables e below (T.setTop g) ((B.U.setTop { g with stack := rest }).pushFrame (.throwing q))) := by
  obtain ⟨mk, methM, cM, hnamed, hmethM, -, -, -, -, -, -, hsigM⟩ := Cond.codeWith_spec hcode
  have hstatic : methM.isStatic = true := Cond.static_spec hnamed hmethM hstat
  obtain ⟨kP, hkP, -⟩ := className_of_methodNamed hnamed
  have hinitP : kP.init = .initialized := Cond.initialized_spec (findClass_of_methodNamed hnamed) hkP hinit
  obtain ⟨vm₁, X₁, hstep₁⟩ := X.invokestatic hexec hown hlink hnamed hmethM hstatic hkP hinitP hy (g := g) hg (argsL := argsL) (rest := rest) (hlen _ hsigM) hstack hdg
  rcases hK m meth c ⟨T.setVm vm₁, locs, cells, slots⟩ { g with stack := rest } (.invokestatic index) mk argsL.toArray X₁ hg hsize hdg hW (X₁.named hnamed) (hpre vm₁ X₁.warmed) with ⟨v, B, X', hpost, hsteps⟩ | ⟨q, B, X', hpost, hsteps⟩
  · exact Or.inl ⟨v, vm₁, B, X₁.warmed, X', hpost, fun target h => hstep₁ _ fun acts => by rw [doInvoke_state]; exact hsteps.trans h⟩
  · exact Or.inr ⟨q, vm₁, B, X₁.warmed, X', hpost, hstep₁ _ fun acts => by rw [doInvoke_state]; exact hsteps⟩
theorem vx_callVW (X : Stand p l e R s m args below meth c T locs cells slots) (hexec : p.tables.exec = Jvm.exec) {own C : String} {index : Nat} {y : MethodName} {bytes : ByteArray} {maxL : Nat} {ret : Option FieldType} {hh : List (Nat × Nat × Nat × Nat)}
    (hown : s.vm.findClass own = some m.cls) (hlink : (Cond.methodLink own index y).before args s = true) (hinst : (Cond.instanceMethod y).before args s = true) (hsel : (Cond.selects C y y).before args s = true)
    (hcode : (Cond.codeWith y bytes maxL ret hh).before args s = true) (hy : y.cls ≠ "java/lang/invoke/MethodHandle" ∧ y.cls ≠ "java/lang/invoke/VarHandle")
    {W9 : Nat} {Pre : Pt → Array Value → Prop} {Post : Pt → Array Value → Option Value → Pt → Prop} (hK : Back l R p e below s args y 3 W9 Pre Post)
    {b : Addr} {cellB : Cell} (hcell : T.heap[b]? = some cellB) (hobj : cellB.vm.isStatics = false) (hcls : s.vm.findClass C = some cellB.cls)
    {g : JFrame} (hg : g.method = m) (hsize : g.locals.size = c.maxLocals) {argsL rest : List Value} (hlen : ∀ sig, parseMethodDescriptor y.desc = some sig → argsL.length = sig.parameters.length)
    (hstack : g.stack = argsL.reverse ++ .ref b :: rest) (hW : 2 * g.monitorRoom + (rest.map fun v => v.category).sum ≤ W9) (hdg : decode c.code g.pc = .ok (.invokevirtual index, 3))
    (hpre : ∀ vm₁, s.WarmedH vm₁ → Pre ⟨T.setVm vm₁, locs, cells, slots⟩ (Value.ref b :: argsL).toArray) :
    ∃ (v : Option Value) (vm₁ : Vm) (B : Pt), s.WarmedH vm₁ ∧ Stand p l e R s m args below meth c B.U B.locs B.cells B.slots ∧ Post ⟨T.setVm vm₁, locs, cells, slots⟩ (Value.ref b :: argsL).toArray v B ∧
      ∀ target, Steps p.tables e below (B.U.setTop { g with pc := g.pc + 3, stack := v.toList ++ rest }) target → Steps p.tables e below (T.setTop g) target := by
  obtain ⟨mk, methM, hnamed, hmethM, hstM, habM⟩ := Cond.instanceMethod_spec hinst
  obtain ⟨m8, methM', cM, hn8, hmethM', -, -, -, -, -, -, hsigM⟩ := Cond.codeWith_spec hcode
  cases Option.some.inj (hn8.symm.trans hnamed)
  cases hmethM.symm.trans hmethM'
  obtain ⟨c2, r2, m2, q1, q2, q3, q4, kP, hkP, hkPi⟩ := Cond.selects_spec hsel
  cases hcls.symm.trans q1
  cases (State.methodFound?_of_named hnamed hy).symm.trans q2
  cases hnamed.symm.trans q3
  have hselP : selectMethod e.platform s.vm cellB.cls mk = .method mk := by rw [Launch.admits_selectMethod X.admits]; exact q4
  obtain ⟨vm₁, X₁, hstep₁⟩ := X.invokevirtual hexec hown hlink hnamed hmethM hstM hkP hkPi hy (a := b) (cell := cellB) hcell
    (fun z h => by rw [h] at hobj; cases hobj) hselP hmethM habM hkP hkPi (g := g) hg (argsL := argsL) (rest := rest) (hlen _ hsigM) hstack hdg
  obtain ⟨v, B, X', hpost, hsteps⟩ := hK m meth c ⟨T.setVm vm₁, locs, cells, slots⟩ { g with stack := rest } (.invokevirtual index) mk (Value.ref b :: argsL).toArray X₁ hg hsize hdg hW (X₁.named hnamed) (hpre vm₁ X₁.warmed)
  exact ⟨v, vm₁, B, X₁.warmed, X', hpost, fun target h => hstep₁ _ fun acts => by rw [doInvoke_state]; exact hsteps.trans h⟩
abbrev vx_CVW (R : Room) (s : State) (args : Array Value) (own C : String) (index : Nat) (y : MethodName) (bytes : ByteArray) (maxL : Nat) (ret : Option FieldType) (hh : List (Nat × Nat × Nat × Nat)) (ws : List Cond) (rm : Room) (mc ms n : Nat) : Prop :=
  (rm.cells = mc ∧ rm.slots = ms ∧ rm.frames + 1 ≤ R.frames ∧ 8 + (maxL + 11) + rm.locals ≤ R.locals ∧ (∀ w ∈ ws, ∀ (a' : Array Value) (U : State), s.WarmedH U.vm → w.before a' U = true) ∧ Cond.codeWith y bytes maxL ret hh ∈ ws) ∧
  (Cond.codeWith y bytes maxL ret hh).before args s = true ∧ (Cond.initialized y.cls).before args s = true ∧ (y.cls ≠ "java/lang/invoke/MethodHandle" ∧ y.cls ≠ "java/lang/invoke/VarHandle") ∧
  (∀ sig, parseMethodDescriptor y.desc = some sig → n = sig.parameters.length) ∧ (Cond.methodLink own index y).before args s = true ∧ (Cond.instanceMethod y).before args s = true ∧ (Cond.selects C y y).before args s = true
theorem vx_cwVW {own C : String} {index maxL mc ms : Nat} {y : MethodName} {bytes : ByteArray} {ret : Option FieldType} {hh : List (Nat × Nat × Nat × Nat)} {Ts ws ws' : List Cond} {rm : Room} (n : Nat) (ht : ∀ w ∈ Ts, w.before args s = true) (hT : GoodIn Ts (wsV own index C y ws)) (hw : ws = Cond.codeWith y bytes maxL ret hh :: ws') (hrc : rm.cells = mc) (hrs : rm.slots = ms)
    (hd : y.cls = C ∧ y.cls ≠ "java/lang/invoke/MethodHandle" ∧ y.cls ≠ "java/lang/invoke/VarHandle" ∧ (parseMethodDescriptor y.desc).map (fun d => d.parameters.length) = some n) (hR : rm.frames + 1 ≤ R.frames ∧ 8 + (maxL + 11) + rm.locals ≤ R.locals) :
    vx_CVW R s args own C index y bytes maxL ret hh ws rm mc ms n := by
  obtain ⟨hC, hd⟩ := hd
  subst hC
  have ok : ∀ w ∈ wsV own index y.cls y ws, w.before args s = true := fun w h => ht w (hT w h).1
  have hG : GoodIn Ts ws := fun w h => hT w (by unfold wsV; exact List.mem_append_right _ h)
  have hc : Cond.codeWith y bytes maxL ret hh ∈ ws := by rw [hw]; exact List.mem_cons_self
  refine ⟨⟨hrc, hrs, hR.1, hR.2, pay_in ht hG, hc⟩, ht _ (hG _ hc).1, ok _ (by simp [wsV]), ⟨hd.1, hd.2.1⟩, fun sig h => ?_, ok _ (by simp [wsV]), ok _ (by simp [wsV]), ok _ (by simp [wsV])⟩
  have h2 := hd.2.2
  rw [h] at h2
  exact (Option.some.inj h2).symm
theorem vx_runVW {y : MethodName} {bytes cc : ByteArray} {maxL nL mc ms n index : Nat} {ret : Option FieldType} {hh : List (Nat × Nat × Nat × Nat)} {ws : List Cond} {rm : Room} {Pc : Array Value → State → Prop} {Qc : Array Value → State → Outcome → State → Prop} {free : Addr → Prop} {Ts : List Cond} {own C : String} {b : Addr} {As rest : List Value} {g : JFrame}
    (S : CallFix p m c cc nL s args Ts own) (hM : Met l y ws rm Pc Qc mc ms free) (cw : vx_CVW R s args own C index y bytes maxL ret hh ws rm mc ms n) (hp : PreV s H C b Pc As)
    (hg : g.method = m) (hn : As.length = n) (hsize : g.locals.size = nL) (hstack : g.stack = As.reverse ++ .ref b :: rest) (hW : 2 * g.monitorRoom + (rest.map fun v => v.category).sum ≤ 8) (hdg : decode cc g.pc = .ok (.invokevirtual index, 3)) (hf : cells + mc ≤ R.cells ∧ slots + ms ≤ R.slots) :
    va_Run p l e R s m args below meth c H locs cells slots mc ms g rest (Qc (Value.ref b :: As).toArray) free := by
  obtain ⟨⟨hrc, hrs, hfr, hlo, hws, hcw⟩, hcode, hini, hy, hlen, hl, hin, hse⟩ := cw
  have hK : Back l R p e below s args y 3 8 (PreOf R mc ms Pc) (PostOf Qc mc ms free) := va_backW (hh := hh) (bytes := bytes) (maxL := maxL) (ret := ret) hM hp.1 hrc hrs hfr hlo hws hcw (fun a' U hW => word_at hW (Or.inl (by first | rfl | simp [Cond.onTables, Cond.keeps, Cond.steady])) hini)
  obtain ⟨hx, hb, hml, ho, -⟩ := S
  obtain ⟨-, ⟨cellB, hcB, hoB, hclB⟩, hPc⟩ := hp
  intro T hT X
  obtain ⟨v, vm₁, ⟨U', l2, c2, s2⟩, hW₁, X', ⟨g', mk, t, L, e1, e2, hq, h1, hL, h2, h3⟩, st⟩ := vx_callVW X hx (C := C) (hh := hh) (bytes := bytes) (maxL := maxL) (ret := ret) ho hl hin hse hcode hy hK (by rw [hT]; exact hcB) hoB hclB hg (hsize.trans hml.symm) (argsL := As) (rest := rest) (fun sig h => hn.trans (hlen sig h)) hstack hW (by rw [hb]; exact hdg)
    (fun vm₁ hW₁ => ⟨hf.1, hf.2, hPc (T.setVm vm₁) hT hW₁⟩)
  dsimp only [Pt.U, Pt.locs, Pt.cells, Pt.slots] at X' e1 e2 h1 h2 h3 st
  subst h1; subst h2; subst h3
  exact ⟨v, (T.setVm vm₁).calling g' mk (Value.ref b :: As).toArray, t, U', L, hT, X', hL, e1, e2, hq, st⟩
section
variable {y : MethodName} {bytes cc : ByteArray} {maxL nL mc ms n index : Nat} {ret : Option FieldType} {ws : List Cond} {rm : Room} {Pc : Array Value → State → Prop} {Qc : Array Value → State → Outcome → State → Prop} {XC : String → State → State → Prop} {free : Addr → Prop} {Ts : List Cond} {own C : String} {b : Addr} {As rest : List Value} {g : JFrame}
theorem vx_runVX {hh : List (Nat × Nat × Nat × Nat)} (S : CallFix p m c cc nL s args Ts own) (hM : vx_Met l y ws rm Pc Qc XC mc ms free) (cw : vx_CVW R s args own C index y bytes maxL ret hh ws rm mc ms n) (hp : PreV s H C b Pc As)
    (hg : g.method = m) (hn : As.length = n) (hsize : g.locals.size = nL) (hstack : g.stack = As.reverse ++ .ref b :: rest) (hW : 2 * g.monitorRoom + (rest.map fun v => v.category).sum ≤ 8) (hdg : decode cc g.pc = .ok (.invokevirtual index, 3)) (hf : cells + mc ≤ R.cells ∧ slots + ms ≤ R.slots) :
    vx_Run p l e R s m args below meth c H locs cells slots mc ms g rest (Qc (Value.ref b :: As).toArray) XC free := by
  obtain ⟨⟨hrc, hrs, hfr, hlo, hws, hcw⟩, hcode, hini, hy, hlen, hl, hin, hse⟩ := cw
  have hK : vx_Back l R p e below s args y 3 8 (PreOf R mc ms Pc) (PostOf Qc mc ms free) (vx_Post XC mc ms free) := vx_backW (hh := hh) (bytes := bytes) (maxL := maxL) (ret := ret) hM hp.1 hrc hrs hfr hlo hws hcw (fun a' U hW => word_at hW (Or.inl (by first | rfl | simp [Cond.onTables, Cond.keeps, Cond.steady])) hini)
  obtain ⟨hx, hb, hml, ho, -⟩ := S
  obtain ⟨-, ⟨cellB, hcB, hoB, hclB⟩, hPc⟩ := hp
  intro T hT X
  rcases vx_callVX X hx (C := C) (hh := hh) (bytes := bytes) (maxL := maxL) (ret := ret) ho hl hin hse hcode hy hK (by rw [hT]; exact hcB) hoB hclB hg (hsize.trans hml.symm) (argsL := As) (rest := rest) (fun sig h => hn.trans (hlen sig h)) hstack hW (by rw [hb]; exact hdg)
    (fun vm₁ hW₁ => ⟨hf.1, hf.2, hPc (T.setVm vm₁) hT hW₁⟩) with ⟨v, vm₁, ⟨U', l2, c2, s2⟩, hW₁, X', ⟨g', mk, t, L, e1, e2, hq, h1, hL, h2, h3⟩, st⟩ | ⟨q, vm₁, ⟨U', l2, c2, s2⟩, hW₁, X', ⟨g', mk, t, L, E, ce, e1, e2, hq, hce, hcv, hcl, h1, hL, h2, h3⟩, st⟩
  · dsimp only [Pt.U, Pt.locs, Pt.cells, Pt.slots] at X' e1 e2 h1 h2 h3 st
    subst h1; subst h2; subst h3
    exact Or.inl ⟨v, (T.setVm vm₁).calling g' mk (Value.ref b :: As).toArray, t, U', L, hT, X', hL, e1, e2, hq, st⟩
  · dsimp only [Pt.U, Pt.locs, Pt.cells, Pt.slots] at X' e1 e2 h1 h2 h3 st hcl
    subst h1; subst h2; subst h3
    exact Or.inr ⟨q, (T.setVm vm₁).calling g' mk (Value.ref b :: As).toArray, t, U', L, E, ce, hT, X', hL, e1, e2, hq, hce, hcv, vx_cls hW₁ hcl, st⟩
theorem vx_runSX {hh : List (Nat × Nat × Nat × Nat)} (S : CallFix p m c cc nL s args Ts own) (hM : vx_Met l y ws rm Pc Qc XC mc ms free) (cw : vx_CSW R s args own index y bytes maxL ret hh ws rm mc ms n) (hp : PreS s H Pc As)
    (hg : g.method = m) (hn : As.length = n) (hsize : g.locals.size = nL) (hstack : g.stack = As.reverse ++ rest) (hW : 2 * g.monitorRoom + (rest.map fun v => v.category).sum ≤ 8) (hdg : decode cc g.pc = .ok (.invokestatic index, 3)) (hf : cells + mc ≤ R.cells ∧ slots + ms ≤ R.slots) :
    vx_Run p l e R s m args below meth c H locs cells slots mc ms g rest (Qc As.toArray) XC free := by
  obtain ⟨⟨hrc, hrs, hfr, hlo, hws, hcw⟩, hcode, hini, hy, hlen, hl, hstt⟩ := cw
  have hK : vx_Back l R p e below s args y 3 8 (PreOf R mc ms Pc) (PostOf Qc mc ms free) (vx_Post XC mc ms free) := vx_backW (hh := hh) (bytes := bytes) (maxL := maxL) (ret := ret) hM hp.1 hrc hrs hfr hlo hws hcw (fun a' U hW => word_at hW (Or.inl (by first | rfl | simp [Cond.onTables, Cond.keeps, Cond.steady])) hini)
  obtain ⟨hx, hb, hml, ho, -⟩ := S
  intro T hT X
  rcases vx_callSX X hx (hh := hh) (bytes := bytes) (maxL := maxL) (ret := ret) ho hl hstt hini hcode hy hK hg (hsize.trans hml.symm) (argsL := As) (rest := rest) (fun sig h => hn.trans (hlen sig h)) hstack hW (by rw [hb]; exact hdg)
    (fun vm₁ hW₁ => ⟨hf.1, hf.2, hp.2 (T.setVm vm₁) hT hW₁⟩) with ⟨v, vm₁, ⟨U', l2, c2, s2⟩, hW₁, X', ⟨g', mk, t, L, e1, e2, hq, h1, hL, h2, h3⟩, st⟩ | ⟨q, vm₁, ⟨U', l2, c2, s2⟩, hW₁, X', ⟨g', mk, t, L, E, ce, e1, e2, hq, hce, hcv, hcl, h1, hL, h2, h3⟩, st⟩
  · dsimp only [Pt.U, Pt.locs, Pt.cells, Pt.slots] at X' e1 e2 h1 h2 h3 st
    subst h1; subst h2; subst h3
    exact Or.inl ⟨v, (T.setVm vm₁).calling g' mk As.toArray, t, U', L, hT, X', hL, e1, e2, hq, st⟩
  · dsimp only [Pt.U, Pt.locs, Pt.cells, Pt.slots] at X' e1 e2 h1 h2 h3 st hcl
    subst h1; subst h2; subst h3
    exact Or.inr ⟨q, (T.setVm vm₁).calling g' mk As.toArray, t, U', L, E, ce, hT, X', hL, e1, e2, hq, hce, hcv, vx_cls hW₁ hcl, st⟩
end
end VXH
theorem vx_ofWH {l : Launch} {y : MethodName} {ws ws' : List Cond} {rm : Room} {Pc : Array Value → State → Prop} {Qc : Array Value → State → Outcome → State → Prop} {XC : String → State → State → Prop} {mc ms : Nat} {free : Addr → Prop} {cc : ByteArray} {maxL : Nat} {ret : Option FieldType} {hh : List (Nat × Nat × Nat × Nat)}
    (hy : plainName y.cls = true) (hw : ws = Cond.codeWith y cc maxL ret hh :: ws')
    (body : ∀ p e s m args below meth c s₁, BodyLoose p l y (headSpec ws rm) cc maxL ret e s m args below meth c s₁ → c.maxLocals = maxL → Pc args s →
      W p l e (headSpec ws rm).room s m args below meth c s.heap [] 0 0 (vx_MQ below Qc XC args s mc ms free) (entryFrame m args maxL)) : vx_Met l y ws rm Pc Qc XC mc ms free := by
  refine MetFree.of_bodyS (code := cc) (maxLocals := maxL) (ret := ret) hy ?_ ?_
  · intro args s m h hn
    obtain ⟨m9, meth, c, hn9, h1, h2, h3, h4, -, h5, h6, -⟩ := Cond.codeWith_spec (atoms_spec (ws := ws) h _ (by rw [hw]; exact List.mem_cons_self))
    cases hn.symm.trans hn9
    exact ⟨meth, c, h1, h2, h3, h4, h5, h6⟩
  · intro p e s m args below meth c s₁ B hml hP _
    have hh0 : s₁.heap = s.heap := by rw [B.state]; rfl
    obtain ⟨t, a1, o, b1, b2, b3⟩ := body p e s m args below meth c s₁ B hml hP s₁ hh0 (Stand.of_body B)
    exact ⟨t, o, a1, b1, b2, b3⟩
/-! ===== END ===== -/
end
section
theorem dX1_init_0 : decode cX1_init 0 = .ok (.aload_n 0, 1) := by decide +kernel
theorem dX1_init_1 : decode cX1_init 1 = .ok (.invokespecial 3, 3) := by decide +kernel
theorem dX1_init_4 : decode cX1_init 4 = .ok (.aload_n 0, 1) := by decide +kernel
theorem dX1_init_5 : decode cX1_init 5 = .ok (.bipush 8, 2) := by decide +kernel
theorem dX1_init_7 : decode cX1_init 7 = .ok (.anewarray 9, 3) := by decide +kernel
theorem dX1_init_10 : decode cX1_init 10 = .ok (.putfield 11, 3) := by decide +kernel
theorem dX1_init_13 : decode cX1_init 13 = .ok (.iconst 0, 1) := by decide +kernel
theorem dX1_init_14 : decode cX1_init 14 = .ok (.istore_n 1, 1) := by decide +kernel
theorem dX1_init_15 : decode cX1_init 15 = .ok (.iload_n 1, 1) := by decide +kernel
theorem dX1_init_16 : decode cX1_init 16 = .ok (.bipush 8, 2) := by decide +kernel
theorem dX1_init_18 : decode cX1_init 18 = .ok (.if_icmp .ge 22, 3) := by decide +kernel
theorem dX1_init_21 : decode cX1_init 21 = .ok (.aload_n 0, 1) := by decide +kernel
theorem dX1_init_22 : decode cX1_init 22 = .ok (.getfield 11, 3) := by decide +kernel
theorem dX1_init_25 : decode cX1_init 25 = .ok (.iload_n 1, 1) := by decide +kernel
theorem dX1_init_26 : decode cX1_init 26 = .ok (.new 9, 3) := by decide +kernel
theorem dX1_init_29 : decode cX1_init 29 = .ok (.dup, 1) := by decide +kernel
theorem dX1_init_30 : decode cX1_init 30 = .ok (.invokespecial 17, 3) := by decide +kernel
theorem dX1_init_33 : decode cX1_init 33 = .ok (.aastore, 1) := by decide +kernel
theorem dX1_init_34 : decode cX1_init 34 = .ok (.iinc 1 1, 3) := by decide +kernel
theorem dX1_init_37 : decode cX1_init 37 = .ok (.goto (-22), 3) := by decide +kernel
theorem dX1_init_40 : decode cX1_init 40 = .ok (.return_, 1) := by decide +kernel
theorem dX1_save_0 : decode cX1_save 0 = .ok (.aload_n 0, 1) := by decide +kernel
theorem dX1_save_1 : decode cX1_save 1 = .ok (.aload_n 0, 1) := by decide +kernel
theorem dX1_save_2 : decode cX1_save 2 = .ok (.getfield 18, 3) := by decide +kernel
theorem dX1_save_5 : decode cX1_save 5 = .ok (.iconst 1, 1) := by decide +kernel
theorem dX1_save_6 : decode cX1_save 6 = .ok (.iadd, 1) := by decide +kernel
theorem dX1_save_7 : decode cX1_save 7 = .ok (.bipush 8, 2) := by decide +kernel
theorem dX1_save_9 : decode cX1_save 9 = .ok (.irem, 1) := by decide +kernel
theorem dX1_save_10 : decode cX1_save 10 = .ok (.putfield 18, 3) := by decide +kernel
theorem dX1_save_13 : decode cX1_save 13 = .ok (.aload_n 0, 1) := by decide +kernel
theorem dX1_save_14 : decode cX1_save 14 = .ok (.getfield 11, 3) := by decide +kernel
theorem dX1_save_17 : decode cX1_save 17 = .ok (.aload_n 0, 1) := by decide +kernel
theorem dX1_save_18 : decode cX1_save 18 = .ok (.getfield 18, 3) := by decide +kernel
theorem dX1_save_21 : decode cX1_save 21 = .ok (.aaload, 1) := by decide +kernel
theorem dX1_save_22 : decode cX1_save 22 = .ok (.aload_n 1, 1) := by decide +kernel
theorem dX1_save_23 : decode cX1_save 23 = .ok (.invokevirtual 22, 3) := by decide +kernel
theorem dX1_save_26 : decode cX1_save 26 = .ok (.aload_n 0, 1) := by decide +kernel
theorem dX1_save_27 : decode cX1_save 27 = .ok (.aload_n 0, 1) := by decide +kernel
theorem dX1_save_28 : decode cX1_save 28 = .ok (.getfield 26, 3) := by decide +kernel
theorem dX1_save_31 : decode cX1_save 31 = .ok (.iconst 1, 1) := by decide +kernel
theorem dX1_save_32 : decode cX1_save 32 = .ok (.iadd, 1) := by decide +kernel
theorem dX1_save_33 : decode cX1_save 33 = .ok (.bipush 8, 2) := by decide +kernel
theorem dX1_save_35 : decode cX1_save 35 = .ok (.invokestatic 29, 3) := by decide +kernel
theorem dX1_save_38 : decode cX1_save 38 = .ok (.putfield 26, 3) := by decide +kernel
theorem dX1_save_41 : decode cX1_save 41 = .ok (.return_, 1) := by decide +kernel
theorem dX1_restore_0 : decode cX1_restore 0 = .ok (.aload_n 1, 1) := by decide +kernel
theorem dX1_restore_1 : decode cX1_restore 1 = .ok (.aload_n 0, 1) := by decide +kernel
theorem dX1_restore_2 : decode cX1_restore 2 = .ok (.getfield 11, 3) := by decide +kernel
theorem dX1_restore_5 : decode cX1_restore 5 = .ok (.aload_n 0, 1) := by decide +kernel
theorem dX1_restore_6 : decode cX1_restore 6 = .ok (.getfield 18, 3) := by decide +kernel
theorem dX1_restore_9 : decode cX1_restore 9 = .ok (.aaload, 1) := by decide +kernel
theorem dX1_restore_10 : decode cX1_restore 10 = .ok (.invokevirtual 22, 3) := by decide +kernel
theorem dX1_restore_13 : decode cX1_restore 13 = .ok (.aload_n 0, 1) := by decide +kernel
theorem dX1_restore_14 : decode cX1_restore 14 = .ok (.aload_n 0, 1) := by decide +kernel
theorem dX1_restore_15 : decode cX1_restore 15 = .ok (.getfield 18, 3) := by decide +kernel
theorem dX1_restore_18 : decode cX1_restore 18 = .ok (.bipush 8, 2) := by decide +kernel
theorem dX1_restore_20 : decode cX1_restore 20 = .ok (.iadd, 1) := by decide +kernel
theorem dX1_restore_21 : decode cX1_restore 21 = .ok (.iconst 1, 1) := by decide +kernel
theorem dX1_restore_22 : decode cX1_restore 22 = .ok (.isub, 1) := by decide +kernel
theorem dX1_restore_23 : decode cX1_restore 23 = .ok (.bipush 8, 2) := by decide +kernel
theorem dX1_restore_25 : decode cX1_restore 25 = .ok (.irem, 1) := by decide +kernel
theorem dX1_restore_26 : decode cX1_restore 26 = .ok (.putfield 18, 3) := by decide +kernel
theorem dX1_restore_29 : decode cX1_restore 29 = .ok (.aload_n 0, 1) := by decide +kernel
theorem dX1_restore_30 : decode cX1_restore 30 = .ok (.dup, 1) := by decide +kernel
theorem dX1_restore_31 : decode cX1_restore 31 = .ok (.getfield 26, 3) := by decide +kernel
theorem dX1_restore_34 : decode cX1_restore 34 = .ok (.iconst 1, 1) := by decide +kernel
theorem dX1_restore_35 : decode cX1_restore 35 = .ok (.isub, 1) := by decide +kernel
theorem dX1_restore_36 : decode cX1_restore 36 = .ok (.putfield 26, 3) := by decide +kernel
theorem dX1_restore_39 : decode cX1_restore 39 = .ok (.return_, 1) := by decide +kernel
theorem dX2_init_0 : decode cX2_init 0 = .ok (.aload_n 0, 1) := by decide +kernel
theorem dX2_init_1 : decode cX2_init 1 = .ok (.invokespecial 3, 3) := by decide +kernel
theorem dX2_init_4 : decode cX2_init 4 = .ok (.aload_n 0, 1) := by decide +kernel
theorem dX2_init_5 : decode cX2_init 5 = .ok (.bipush 40, 2) := by decide +kernel
theorem dX2_init_7 : decode cX2_init 7 = .ok (.newarray .int, 2) := by decide +kernel
theorem dX2_init_9 : decode cX2_init 9 = .ok (.putfield 9, 3) := by decide +kernel
theorem dX2_init_12 : decode cX2_init 12 = .ok (.aload_n 0, 1) := by decide +kernel
theorem dX2_init_13 : decode cX2_init 13 = .ok (.bipush 40, 2) := by decide +kernel
theorem dX2_init_15 : decode cX2_init 15 = .ok (.newarray .int, 2) := by decide +kernel
theorem dX2_init_17 : decode cX2_init 17 = .ok (.putfield 15, 3) := by decide +kernel
theorem dX2_init_20 : decode cX2_init 20 = .ok (.return_, 1) := by decide +kernel
theorem dX2_empty_0 : decode cX2_empty 0 = .ok (.aload_n 0, 1) := by decide +kernel
theorem dX2_empty_1 : decode cX2_empty 1 = .ok (.iconst 0, 1) := by decide +kernel
theorem dX2_empty_2 : decode cX2_empty 2 = .ok (.putfield 18, 3) := by decide +kernel
theorem dX2_empty_5 : decode cX2_empty 5 = .ok (.aload_n 0, 1) := by decide +kernel
theorem dX2_empty_6 : decode cX2_empty 6 = .ok (.iconst 0, 1) := by decide +kernel
theorem dX2_empty_7 : decode cX2_empty 7 = .ok (.putfield 22, 3) := by decide +kernel
theorem dX2_empty_10 : decode cX2_empty 10 = .ok (.aload_n 0, 1) := by decide +kernel
theorem dX2_empty_11 : decode cX2_empty 11 = .ok (.iconst (-1), 1) := by decide +kernel
theorem dX2_empty_12 : decode cX2_empty 12 = .ok (.putfield 25, 3) := by decide +kernel
theorem dX2_empty_15 : decode cX2_empty 15 = .ok (.return_, 1) := by decide +kernel
theorem dX2_join_0 : decode cX2_join 0 = .ok (.aload_n 0, 1) := by decide +kernel
theorem dX2_join_1 : decode cX2_join 1 = .ok (.getfield 18, 3) := by decide +kernel
theorem dX2_join_4 : decode cX2_join 4 = .ok (.bipush 40, 2) := by decide +kernel
theorem dX2_join_6 : decode cX2_join 6 = .ok (.if_icmp .ge 40, 3) := by decide +kernel
theorem dX2_join_9 : decode cX2_join 9 = .ok (.aload_n 0, 1) := by decide +kernel
theorem dX2_join_10 : decode cX2_join 10 = .ok (.getfield 9, 3) := by decide +kernel
theorem dX2_join_13 : decode cX2_join 13 = .ok (.aload_n 0, 1) := by decide +kernel
theorem dX2_join_14 : decode cX2_join 14 = .ok (.getfield 18, 3) := by decide +kernel
theorem dX2_join_17 : decode cX2_join 17 = .ok (.iload_n 1, 1) := by decide +kernel
theorem dX2_join_18 : decode cX2_join 18 = .ok (.iastore, 1) := by decide +kernel
theorem dX2_join_19 : decode cX2_join 19 = .ok (.aload_n 0, 1) := by decide +kernel
theorem dX2_join_20 : decode cX2_join 20 = .ok (.getfield 15, 3) := by decide +kernel
theorem dX2_join_23 : decode cX2_join 23 = .ok (.iload_n 1, 1) := by decide +kernel
theorem dX2_join_24 : decode cX2_join 24 = .ok (.iload_n 2, 1) := by decide +kernel
theorem dX2_join_25 : decode cX2_join 25 = .ok (.iastore, 1) := by decide +kernel
theorem dX2_join_26 : decode cX2_join 26 = .ok (.aload_n 0, 1) := by decide +kernel
theorem dX2_join_27 : decode cX2_join 27 = .ok (.dup, 1) := by decide +kernel
theorem dX2_join_28 : decode cX2_join 28 = .ok (.getfield 18, 3) := by decide +kernel
theorem dX2_join_31 : decode cX2_join 31 = .ok (.iconst 1, 1) := by decide +kernel
theorem dX2_join_32 : decode cX2_join 32 = .ok (.iadd, 1) := by decide +kernel
theorem dX2_join_33 : decode cX2_join 33 = .ok (.putfield 18, 3) := by decide +kernel
theorem dX2_join_36 : decode cX2_join 36 = .ok (.aload_n 0, 1) := by decide +kernel
theorem dX2_join_37 : decode cX2_join 37 = .ok (.dup, 1) := by decide +kernel
theorem dX2_join_38 : decode cX2_join 38 = .ok (.getfield 22, 3) := by decide +kernel
theorem dX2_join_41 : decode cX2_join 41 = .ok (.iload_n 2, 1) := by decide +kernel
theorem dX2_join_42 : decode cX2_join 42 = .ok (.iadd, 1) := by decide +kernel
theorem dX2_join_43 : decode cX2_join 43 = .ok (.putfield 22, 3) := by decide +kernel
theorem dX2_join_46 : decode cX2_join 46 = .ok (.return_, 1) := by decide +kernel
theorem dX2_takeOut_0 : decode cX2_takeOut 0 = .ok (.iload_n 1, 1) := by decide +kernel
theorem dX2_takeOut_1 : decode cX2_takeOut 1 = .ok (.ifCond .lt 11, 3) := by decide +kernel
theorem dX2_takeOut_4 : decode cX2_takeOut 4 = .ok (.iload_n 1, 1) := by decide +kernel
theorem dX2_takeOut_5 : decode cX2_takeOut 5 = .ok (.aload_n 0, 1) := by decide +kernel
theorem dX2_takeOut_6 : decode cX2_takeOut 6 = .ok (.getfield 18, 3) := by decide +kernel
theorem dX2_takeOut_9 : decode cX2_takeOut 9 = .ok (.if_icmp .lt 5, 3) := by decide +kernel
theorem dX2_takeOut_12 : decode cX2_takeOut 12 = .ok (.iconst (-1), 1) := by decide +kernel
theorem dX2_takeOut_13 : decode cX2_takeOut 13 = .ok (.ireturn, 1) := by decide +kernel
theorem dX2_takeOut_14 : decode cX2_takeOut 14 = .ok (.aload_n 0, 1) := by decide +kernel
theorem dX2_takeOut_15 : decode cX2_takeOut 15 = .ok (.getfield 9, 3) := by decide +kernel
theorem dX2_takeOut_18 : decode cX2_takeOut 18 = .ok (.iload_n 1, 1) := by decide +kernel
theorem dX2_takeOut_19 : decode cX2_takeOut 19 = .ok (.iaload, 1) := by decide +kernel
theorem dX2_takeOut_20 : decode cX2_takeOut 20 = .ok (.istore_n 2, 1) := by decide +kernel
theorem dX2_takeOut_21 : decode cX2_takeOut 21 = .ok (.aload_n 0, 1) := by decide +kernel
theorem dX2_takeOut_22 : decode cX2_takeOut 22 = .ok (.dup, 1) := by decide +kernel
theorem dX2_takeOut_23 : decode cX2_takeOut 23 = .ok (.getfield 22, 3) := by decide +kernel
theorem dX2_takeOut_26 : decode cX2_takeOut 26 = .ok (.aload_n 0, 1) := by decide +kernel
theorem dX2_takeOut_27 : decode cX2_takeOut 27 = .ok (.getfield 15, 3) := by decide +kernel
theorem dX2_takeOut_30 : decode cX2_takeOut 30 = .ok (.iload_n 2, 1) := by decide +kernel
theorem dX2_takeOut_31 : decode cX2_takeOut 31 = .ok (.iaload, 1) := by decide +kernel
theorem dX2_takeOut_32 : decode cX2_takeOut 32 = .ok (.isub, 1) := by decide +kernel
theorem dX2_takeOut_33 : decode cX2_takeOut 33 = .ok (.putfield 22, 3) := by decide +kernel
theorem dX2_takeOut_36 : decode cX2_takeOut 36 = .ok (.aload_n 0, 1) := by decide +kernel
theorem dX2_takeOut_37 : decode cX2_takeOut 37 = .ok (.dup, 1) := by decide +kernel
theorem dX2_takeOut_38 : decode cX2_takeOut 38 = .ok (.getfield 18, 3) := by decide +kernel
theorem dX2_takeOut_41 : decode cX2_takeOut 41 = .ok (.iconst 1, 1) := by decide +kernel
theorem dX2_takeOut_42 : decode cX2_takeOut 42 = .ok (.isub, 1) := by decide +kernel
theorem dX2_takeOut_43 : decode cX2_takeOut 43 = .ok (.putfield 18, 3) := by decide +kernel
theorem dX2_takeOut_46 : decode cX2_takeOut 46 = .ok (.aload_n 0, 1) := by decide +kernel
theorem dX2_takeOut_47 : decode cX2_takeOut 47 = .ok (.getfield 9, 3) := by decide +kernel
theorem dX2_takeOut_50 : decode cX2_takeOut 50 = .ok (.iload_n 1, 1) := by decide +kernel
theorem dX2_takeOut_51 : decode cX2_takeOut 51 = .ok (.iconst 1, 1) := by decide +kernel
theorem dX2_takeOut_52 : decode cX2_takeOut 52 = .ok (.iadd, 1) := by decide +kernel
theorem dX2_takeOut_53 : decode cX2_takeOut 53 = .ok (.aload_n 0, 1) := by decide +kernel
theorem dX2_takeOut_54 : decode cX2_takeOut 54 = .ok (.getfield 9, 3) := by decide +kernel
theorem dX2_takeOut_57 : decode cX2_takeOut 57 = .ok (.iload_n 1, 1) := by decide +kernel
theorem dX2_takeOut_58 : decode cX2_takeOut 58 = .ok (.aload_n 0, 1) := by decide +kernel
theorem dX2_takeOut_59 : decode cX2_takeOut 59 = .ok (.getfield 18, 3) := by decide +kernel
theorem dX2_takeOut_62 : decode cX2_takeOut 62 = .ok (.iload_n 1, 1) := by decide +kernel
theorem dX2_takeOut_63 : decode cX2_takeOut 63 = .ok (.isub, 1) := by decide +kernel
theorem dX2_takeOut_64 : decode cX2_takeOut 64 = .ok (.invokestatic 28, 3) := by decide +kernel
theorem dX2_takeOut_67 : decode cX2_takeOut 67 = .ok (.iload_n 2, 1) := by decide +kernel
theorem dX2_takeOut_68 : decode cX2_takeOut 68 = .ok (.ireturn, 1) := by decide +kernel
theorem dX2_send_0 : decode cX2_send 0 = .ok (.aload_n 0, 1) := by decide +kernel
theorem dX2_send_1 : decode cX2_send 1 = .ok (.getfield 9, 3) := by decide +kernel
theorem dX2_send_4 : decode cX2_send 4 = .ok (.iload_n 1, 1) := by decide +kernel
theorem dX2_send_5 : decode cX2_send 5 = .ok (.iaload, 1) := by decide +kernel
theorem dX2_send_6 : decode cX2_send 6 = .ok (.istore_n 3, 1) := by decide +kernel
theorem dX2_send_7 : decode cX2_send 7 = .ok (.aload_n 0, 1) := by decide +kernel
theorem dX2_send_8 : decode cX2_send 8 = .ok (.getfield 15, 3) := by decide +kernel
theorem dX2_send_11 : decode cX2_send 11 = .ok (.iload_n 3, 1) := by decide +kernel
theorem dX2_send_12 : decode cX2_send 12 = .ok (.dup2, 1) := by decide +kernel
theorem dX2_send_13 : decode cX2_send 13 = .ok (.iaload, 1) := by decide +kernel
theorem dX2_send_14 : decode cX2_send 14 = .ok (.iload_n 2, 1) := by decide +kernel
theorem dX2_send_15 : decode cX2_send 15 = .ok (.isub, 1) := by decide +kernel
theorem dX2_send_16 : decode cX2_send 16 = .ok (.iastore, 1) := by decide +kernel
theorem dX2_send_17 : decode cX2_send 17 = .ok (.aload_n 0, 1) := by decide +kernel
theorem dX2_send_18 : decode cX2_send 18 = .ok (.dup, 1) := by decide +kernel
theorem dX2_send_19 : decode cX2_send 19 = .ok (.getfield 22, 3) := by decide +kernel
theorem dX2_send_22 : decode cX2_send 22 = .ok (.iload_n 2, 1) := by decide +kernel
theorem dX2_send_23 : decode cX2_send 23 = .ok (.isub, 1) := by decide +kernel
theorem dX2_send_24 : decode cX2_send 24 = .ok (.putfield 22, 3) := by decide +kernel
theorem dX2_send_27 : decode cX2_send 27 = .ok (.aload_n 0, 1) := by decide +kernel
theorem dX2_send_28 : decode cX2_send 28 = .ok (.getfield 15, 3) := by decide +kernel
theorem dX2_send_31 : decode cX2_send 31 = .ok (.iload_n 3, 1) := by decide +kernel
theorem dX2_send_32 : decode cX2_send 32 = .ok (.iaload, 1) := by decide +kernel
theorem dX2_send_33 : decode cX2_send 33 = .ok (.ifCond .ne 7, 3) := by decide +kernel
theorem dX2_send_36 : decode cX2_send 36 = .ok (.iconst 1, 1) := by decide +kernel
theorem dX2_send_37 : decode cX2_send 37 = .ok (.goto 4, 3) := by decide +kernel
theorem dX2_send_40 : decode cX2_send 40 = .ok (.iconst 0, 1) := by decide +kernel
theorem dX2_send_41 : decode cX2_send 41 = .ok (.istore 4, 2) := by decide +kernel
theorem dX2_send_43 : decode cX2_send 43 = .ok (.aload_n 0, 1) := by decide +kernel
theorem dX2_send_44 : decode cX2_send 44 = .ok (.iload 4, 2) := by decide +kernel
theorem dX2_send_46 : decode cX2_send 46 = .ok (.ifCond .eq 7, 3) := by decide +kernel
theorem dX2_send_49 : decode cX2_send 49 = .ok (.iconst (-1), 1) := by decide +kernel
theorem dX2_send_50 : decode cX2_send 50 = .ok (.goto 4, 3) := by decide +kernel
theorem dX2_send_53 : decode cX2_send 53 = .ok (.iload_n 3, 1) := by decide +kernel
theorem dX2_send_54 : decode cX2_send 54 = .ok (.putfield 25, 3) := by decide +kernel
theorem dX2_send_57 : decode cX2_send 57 = .ok (.iload 4, 2) := by decide +kernel
theorem dX2_send_59 : decode cX2_send 59 = .ok (.ifCond .eq 9, 3) := by decide +kernel
theorem dX2_send_62 : decode cX2_send 62 = .ok (.aload_n 0, 1) := by decide +kernel
theorem dX2_send_63 : decode cX2_send 63 = .ok (.iload_n 1, 1) := by decide +kernel
theorem dX2_send_64 : decode cX2_send 64 = .ok (.invokevirtual 34, 3) := by decide +kernel
theorem dX2_send_67 : decode cX2_send 67 = .ok (.pop, 1) := by decide +kernel
theorem dX2_send_68 : decode cX2_send 68 = .ok (.iload 4, 2) := by decide +kernel
theorem dX2_send_70 : decode cX2_send 70 = .ok (.ireturn, 1) := by decide +kernel
theorem dX2_positionOfBegun_0 : decode cX2_positionOfBegun 0 = .ok (.iconst 0, 1) := by decide +kernel
theorem dX2_positionOfBegun_1 : decode cX2_positionOfBegun 1 = .ok (.istore_n 1, 1) := by decide +kernel
theorem dX2_positionOfBegun_2 : decode cX2_positionOfBegun 2 = .ok (.iload_n 1, 1) := by decide +kernel
theorem dX2_positionOfBegun_3 : decode cX2_positionOfBegun 3 = .ok (.aload_n 0, 1) := by decide +kernel
theorem dX2_positionOfBegun_4 : decode cX2_positionOfBegun 4 = .ok (.getfield 18, 3) := by decide +kernel
theorem dX2_positionOfBegun_7 : decode cX2_positionOfBegun 7 = .ok (.if_icmp .ge 24, 3) := by decide +kernel
theorem dX2_positionOfBegun_10 : decode cX2_positionOfBegun 10 = .ok (.aload_n 0, 1) := by decide +kernel
theorem dX2_positionOfBegun_11 : decode cX2_positionOfBegun 11 = .ok (.getfield 9, 3) := by decide +kernel
theorem dX2_positionOfBegun_14 : decode cX2_positionOfBegun 14 = .ok (.iload_n 1, 1) := by decide +kernel
theorem dX2_positionOfBegun_15 : decode cX2_positionOfBegun 15 = .ok (.iaload, 1) := by decide +kernel
theorem dX2_positionOfBegun_16 : decode cX2_positionOfBegun 16 = .ok (.aload_n 0, 1) := by decide +kernel
theorem dX2_positionOfBegun_17 : decode cX2_positionOfBegun 17 = .ok (.getfield 25, 3) := by decide +kernel
theorem dX2_positionOfBegun_20 : decode cX2_positionOfBegun 20 = .ok (.if_icmp .ne 5, 3) := by decide +kernel
theorem dX2_positionOfBegun_23 : decode cX2_positionOfBegun 23 = .ok (.iload_n 1, 1) := by decide +kernel
theorem dX2_positionOfBegun_24 : decode cX2_positionOfBegun 24 = .ok (.ireturn, 1) := by decide +kernel
theorem dX2_positionOfBegun_25 : decode cX2_positionOfBegun 25 = .ok (.iinc 1 1, 3) := by decide +kernel
theorem dX2_positionOfBegun_28 : decode cX2_positionOfBegun 28 = .ok (.goto (-26), 3) := by decide +kernel
theorem dX2_positionOfBegun_31 : decode cX2_positionOfBegun 31 = .ok (.iconst (-1), 1) := by decide +kernel
theorem dX2_positionOfBegun_32 : decode cX2_positionOfBegun 32 = .ok (.ireturn, 1) := by decide +kernel
theorem dX2_firstNotBegun_0 : decode cX2_firstNotBegun 0 = .ok (.iconst 0, 1) := by decide +kernel
theorem dX2_firstNotBegun_1 : decode cX2_firstNotBegun 1 = .ok (.istore_n 1, 1) := by decide +kernel
theorem dX2_firstNotBegun_2 : decode cX2_firstNotBegun 2 = .ok (.iload_n 1, 1) := by decide +kernel
theorem dX2_firstNotBegun_3 : decode cX2_firstNotBegun 3 = .ok (.aload_n 0, 1) := by decide +kernel
theorem dX2_firstNotBegun_4 : decode cX2_firstNotBegun 4 = .ok (.getfield 18, 3) := by decide +kernel
theorem dX2_firstNotBegun_7 : decode cX2_firstNotBegun 7 = .ok (.if_icmp .ge 24, 3) := by decide +kernel
theorem dX2_firstNotBegun_10 : decode cX2_firstNotBegun 10 = .ok (.aload_n 0, 1) := by decide +kernel
theorem dX2_firstNotBegun_11 : decode cX2_firstNotBegun 11 = .ok (.getfield 9, 3) := by decide +kernel
theorem dX2_firstNotBegun_14 : decode cX2_firstNotBegun 14 = .ok (.iload_n 1, 1) := by decide +kernel
theorem dX2_firstNotBegun_15 : decode cX2_firstNotBegun 15 = .ok (.iaload, 1) := by decide +kernel
theorem dX2_firstNotBegun_16 : decode cX2_firstNotBegun 16 = .ok (.aload_n 0, 1) := by decide +kernel
theorem dX2_firstNotBegun_17 : decode cX2_firstNotBegun 17 = .ok (.getfield 25, 3) := by decide +kernel
theorem dX2_firstNotBegun_20 : decode cX2_firstNotBegun 20 = .ok (.if_icmp .eq 5, 3) := by decide +kernel
theorem dX2_firstNotBegun_23 : decode cX2_firstNotBegun 23 = .ok (.iload_n 1, 1) := by decide +kernel
theorem dX2_firstNotBegun_24 : decode cX2_firstNotBegun 24 = .ok (.ireturn, 1) := by decide +kernel
theorem dX2_firstNotBegun_25 : decode cX2_firstNotBegun 25 = .ok (.iinc 1 1, 3) := by decide +kernel
theorem dX2_firstNotBegun_28 : decode cX2_firstNotBegun 28 = .ok (.goto (-26), 3) := by decide +kernel
theorem dX2_firstNotBegun_31 : decode cX2_firstNotBegun 31 = .ok (.iconst (-1), 1) := by decide +kernel
theorem dX2_firstNotBegun_32 : decode cX2_firstNotBegun 32 = .ok (.ireturn, 1) := by decide +kernel
theorem dX3_init_0 : decode cX3_init 0 = .ok (.aload_n 0, 1) := by decide +kernel
theorem dX3_init_1 : decode cX3_init 1 = .ok (.invokespecial 3, 3) := by decide +kernel
theorem dX3_init_4 : decode cX3_init 4 = .ok (.aload_n 0, 1) := by decide +kernel
theorem dX3_init_5 : decode cX3_init 5 = .ok (.bipush 40, 2) := by decide +kernel
theorem dX3_init_7 : decode cX3_init 7 = .ok (.newarray .int, 2) := by decide +kernel
theorem dX3_init_9 : decode cX3_init 9 = .ok (.putfield 9, 3) := by decide +kernel
theorem dX3_init_12 : decode cX3_init 12 = .ok (.aload_n 0, 1) := by decide +kernel
theorem dX3_init_13 : decode cX3_init 13 = .ok (.bipush 40, 2) := by decide +kernel
theorem dX3_init_15 : decode cX3_init 15 = .ok (.newarray .int, 2) := by decide +kernel
theorem dX3_init_17 : decode cX3_init 17 = .ok (.putfield 15, 3) := by decide +kernel
theorem dX3_init_20 : decode cX3_init 20 = .ok (.aload_n 0, 1) := by decide +kernel
theorem dX3_init_21 : decode cX3_init 21 = .ok (.bipush 40, 2) := by decide +kernel
theorem dX3_init_23 : decode cX3_init 23 = .ok (.newarray .int, 2) := by decide +kernel
theorem dX3_init_25 : decode cX3_init 25 = .ok (.putfield 18, 3) := by decide +kernel
theorem dX3_init_28 : decode cX3_init 28 = .ok (.aload_n 0, 1) := by decide +kernel
theorem dX3_init_29 : decode cX3_init 29 = .ok (.bipush 40, 2) := by decide +kernel
theorem dX3_init_31 : decode cX3_init 31 = .ok (.newarray .int, 2) := by decide +kernel
theorem dX3_init_33 : decode cX3_init 33 = .ok (.putfield 21, 3) := by decide +kernel
theorem dX3_init_36 : decode cX3_init 36 = .ok (.return_, 1) := by decide +kernel
theorem dX3_begin_0 : decode cX3_begin 0 = .ok (.aload_n 0, 1) := by decide +kernel
theorem dX3_begin_1 : decode cX3_begin 1 = .ok (.iconst 1, 1) := by decide +kernel
theorem dX3_begin_2 : decode cX3_begin 2 = .ok (.putfield 24, 3) := by decide +kernel
theorem dX3_begin_5 : decode cX3_begin 5 = .ok (.aload_n 0, 1) := by decide +kernel
theorem dX3_begin_6 : decode cX3_begin 6 = .ok (.iload_n 1, 1) := by decide +kernel
theorem dX3_begin_7 : decode cX3_begin 7 = .ok (.putfield 28, 3) := by decide +kernel
theorem dX3_begin_10 : decode cX3_begin 10 = .ok (.aload_n 0, 1) := by decide +kernel
theorem dX3_begin_11 : decode cX3_begin 11 = .ok (.iload_n 2, 1) := by decide +kernel
theorem dX3_begin_12 : decode cX3_begin 12 = .ok (.putfield 32, 3) := by decide +kernel
theorem dX3_begin_15 : decode cX3_begin 15 = .ok (.aload_n 0, 1) := by decide +kernel
theorem dX3_begin_16 : decode cX3_begin 16 = .ok (.iconst 0, 1) := by decide +kernel
theorem dX3_begin_17 : decode cX3_begin 17 = .ok (.putfield 35, 3) := by decide +kernel
theorem dX3_begin_20 : decode cX3_begin 20 = .ok (.aload_n 0, 1) := by decide +kernel
theorem dX3_begin_21 : decode cX3_begin 21 = .ok (.iconst 0, 1) := by decide +kernel
theorem dX3_begin_22 : decode cX3_begin 22 = .ok (.putfield 38, 3) := by decide +kernel
theorem dX3_begin_25 : decode cX3_begin 25 = .ok (.return_, 1) := by decide +kernel
theorem dX3_noteDrop_0 : decode cX3_noteDrop 0 = .ok (.iload_n 1, 1) := by decide +kernel
theorem dX3_noteDrop_1 : decode cX3_noteDrop 1 = .ok (.ifCond .lt 48, 3) := by decide +kernel
theorem dX3_noteDrop_4 : decode cX3_noteDrop 4 = .ok (.iload_n 1, 1) := by decide +kernel
theorem dX3_noteDrop_5 : decode cX3_noteDrop 5 = .ok (.aload_n 0, 1) := by decide +kernel
theorem dX3_noteDrop_6 : decode cX3_noteDrop 6 = .ok (.getfield 28, 3) := by decide +kernel
theorem dX3_noteDrop_9 : decode cX3_noteDrop 9 = .ok (.if_icmp .ge 40, 3) := by decide +kernel
theorem dX3_noteDrop_12 : decode cX3_noteDrop 12 = .ok (.aload_n 0, 1) := by decide +kernel
theorem dX3_noteDrop_13 : decode cX3_noteDrop 13 = .ok (.getfield 35, 3) := by decide +kernel
theorem dX3_noteDrop_16 : decode cX3_noteDrop 16 = .ok (.bipush 40, 2) := by decide +kernel
theorem dX3_noteDrop_18 : decode cX3_noteDrop 18 = .ok (.if_icmp .ge 31, 3) := by decide +kernel
theorem dX3_noteDrop_21 : decode cX3_noteDrop 21 = .ok (.aload_n 0, 1) := by decide +kernel
theorem dX3_noteDrop_22 : decode cX3_noteDrop 22 = .ok (.getfield 9, 3) := by decide +kernel
theorem dX3_noteDrop_25 : decode cX3_noteDrop 25 = .ok (.iload_n 1, 1) := by decide +kernel
theorem dX3_noteDrop_26 : decode cX3_noteDrop 26 = .ok (.bipush (-2), 2) := by decide +kernel
theorem dX3_noteDrop_28 : decode cX3_noteDrop 28 = .ok (.iastore, 1) := by decide +kernel
theorem dX3_noteDrop_29 : decode cX3_noteDrop 29 = .ok (.aload_n 0, 1) := by decide +kernel
theorem dX3_noteDrop_30 : decode cX3_noteDrop 30 = .ok (.getfield 15, 3) := by decide +kernel
theorem dX3_noteDrop_33 : decode cX3_noteDrop 33 = .ok (.aload_n 0, 1) := by decide +kernel
theorem dX3_noteDrop_34 : decode cX3_noteDrop 34 = .ok (.getfield 35, 3) := by decide +kernel
theorem dX3_noteDrop_37 : decode cX3_noteDrop 37 = .ok (.iload_n 1, 1) := by decide +kernel
theorem dX3_noteDrop_38 : decode cX3_noteDrop 38 = .ok (.iastore, 1) := by decide +kernel
theorem dX3_noteDrop_39 : decode cX3_noteDrop 39 = .ok (.aload_n 0, 1) := by decide +kernel
theorem dX3_noteDrop_40 : decode cX3_noteDrop 40 = .ok (.dup, 1) := by decide +kernel
theorem dX3_noteDrop_41 : decode cX3_noteDrop 41 = .ok (.getfield 35, 3) := by decide +kernel
theorem dX3_noteDrop_44 : decode cX3_noteDrop 44 = .ok (.iconst 1, 1) := by decide +kernel
theorem dX3_noteDrop_45 : decode cX3_noteDrop 45 = .ok (.iadd, 1) := by decide +kernel
theorem dX3_noteDrop_46 : decode cX3_noteDrop 46 = .ok (.putfield 35, 3) := by decide +kernel
theorem dX3_noteDrop_49 : decode cX3_noteDrop 49 = .ok (.return_, 1) := by decide +kernel
theorem dX3_noteLoad_0 : decode cX3_noteLoad 0 = .ok (.aload_n 0, 1) := by decide +kernel
theorem dX3_noteLoad_1 : decode cX3_noteLoad 1 = .ok (.getfield 38, 3) := by decide +kernel
theorem dX3_noteLoad_4 : decode cX3_noteLoad 4 = .ok (.bipush 40, 2) := by decide +kernel
theorem dX3_noteLoad_6 : decode cX3_noteLoad 6 = .ok (.if_icmp .ge 33, 3) := by decide +kernel
theorem dX3_noteLoad_9 : decode cX3_noteLoad 9 = .ok (.aload_n 0, 1) := by decide +kernel
theorem dX3_noteLoad_10 : decode cX3_noteLoad 10 = .ok (.getfield 18, 3) := by decide +kernel
theorem dX3_noteLoad_13 : decode cX3_noteLoad 13 = .ok (.aload_n 0, 1) := by decide +kernel
theorem dX3_noteLoad_14 : decode cX3_noteLoad 14 = .ok (.getfield 38, 3) := by decide +kernel
theorem dX3_noteLoad_17 : decode cX3_noteLoad 17 = .ok (.iload_n 1, 1) := by decide +kernel
theorem dX3_noteLoad_18 : decode cX3_noteLoad 18 = .ok (.iastore, 1) := by decide +kernel
theorem dX3_noteLoad_19 : decode cX3_noteLoad 19 = .ok (.aload_n 0, 1) := by decide +kernel
theorem dX3_noteLoad_20 : decode cX3_noteLoad 20 = .ok (.getfield 21, 3) := by decide +kernel
theorem dX3_noteLoad_23 : decode cX3_noteLoad 23 = .ok (.aload_n 0, 1) := by decide +kernel
theorem dX3_noteLoad_24 : decode cX3_noteLoad 24 = .ok (.getfield 38, 3) := by decide +kernel
theorem dX3_noteLoad_27 : decode cX3_noteLoad 27 = .ok (.iload_n 2, 1) := by decide +kernel
theorem dX3_noteLoad_28 : decode cX3_noteLoad 28 = .ok (.iastore, 1) := by decide +kernel
theorem dX3_noteLoad_29 : decode cX3_noteLoad 29 = .ok (.aload_n 0, 1) := by decide +kernel
theorem dX3_noteLoad_30 : decode cX3_noteLoad 30 = .ok (.dup, 1) := by decide +kernel
theorem dX3_noteLoad_31 : decode cX3_noteLoad 31 = .ok (.getfield 38, 3) := by decide +kernel
theorem dX3_noteLoad_34 : decode cX3_noteLoad 34 = .ok (.iconst 1, 1) := by decide +kernel
theorem dX3_noteLoad_35 : decode cX3_noteLoad 35 = .ok (.iadd, 1) := by decide +kernel
theorem dX3_noteLoad_36 : decode cX3_noteLoad 36 = .ok (.putfield 38, 3) := by decide +kernel
theorem dX3_noteLoad_39 : decode cX3_noteLoad 39 = .ok (.return_, 1) := by decide +kernel
theorem dX3_fateOf_0 : decode cX3_fateOf 0 = .ok (.aload_n 0, 1) := by decide +kernel
theorem dX3_fateOf_1 : decode cX3_fateOf 1 = .ok (.getfield 24, 3) := by decide +kernel
theorem dX3_fateOf_4 : decode cX3_fateOf 4 = .ok (.ifCond .eq 24, 3) := by decide +kernel
theorem dX3_fateOf_7 : decode cX3_fateOf 7 = .ok (.iload_n 1, 1) := by decide +kernel
theorem dX3_fateOf_8 : decode cX3_fateOf 8 = .ok (.ifCond .lt 20, 3) := by decide +kernel
theorem dX3_fateOf_11 : decode cX3_fateOf 11 = .ok (.iload_n 1, 1) := by decide +kernel
theorem dX3_fateOf_12 : decode cX3_fateOf 12 = .ok (.aload_n 0, 1) := by decide +kernel
theorem dX3_fateOf_13 : decode cX3_fateOf 13 = .ok (.getfield 28, 3) := by decide +kernel
theorem dX3_fateOf_16 : decode cX3_fateOf 16 = .ok (.if_icmp .ge 12, 3) := by decide +kernel
theorem dX3_fateOf_19 : decode cX3_fateOf 19 = .ok (.aload_n 0, 1) := by decide +kernel
theorem dX3_fateOf_20 : decode cX3_fateOf 20 = .ok (.getfield 9, 3) := by decide +kernel
theorem dX3_fateOf_23 : decode cX3_fateOf 23 = .ok (.iload_n 1, 1) := by decide +kernel
theorem dX3_fateOf_24 : decode cX3_fateOf 24 = .ok (.iaload, 1) := by decide +kernel
theorem dX3_fateOf_25 : decode cX3_fateOf 25 = .ok (.goto 4, 3) := by decide +kernel
theorem dX3_fateOf_28 : decode cX3_fateOf 28 = .ok (.iconst (-1), 1) := by decide +kernel
theorem dX3_fateOf_29 : decode cX3_fateOf 29 = .ok (.ireturn, 1) := by decide +kernel
theorem dX3_dropNumbered_0 : decode cX3_dropNumbered 0 = .ok (.aload_n 0, 1) := by decide +kernel
theorem dX3_dropNumbered_1 : decode cX3_dropNumbered 1 = .ok (.getfield 24, 3) := by decide +kernel
theorem dX3_dropNumbered_4 : decode cX3_dropNumbered 4 = .ok (.ifCond .eq 24, 3) := by decide +kernel
theorem dX3_dropNumbered_7 : decode cX3_dropNumbered 7 = .ok (.iload_n 1, 1) := by decide +kernel
theorem dX3_dropNumbered_8 : decode cX3_dropNumbered 8 = .ok (.ifCond .lt 20, 3) := by decide +kernel
theorem dX3_dropNumbered_11 : decode cX3_dropNumbered 11 = .ok (.iload_n 1, 1) := by decide +kernel
theorem dX3_dropNumbered_12 : decode cX3_dropNumbered 12 = .ok (.aload_n 0, 1) := by decide +kernel
theorem dX3_dropNumbered_13 : decode cX3_dropNumbered 13 = .ok (.getfield 35, 3) := by decide +kernel
theorem dX3_dropNumbered_16 : decode cX3_dropNumbered 16 = .ok (.if_icmp .ge 12, 3) := by decide +kernel
theorem dX3_dropNumbered_19 : decode cX3_dropNumbered 19 = .ok (.aload_n 0, 1) := by decide +kernel
theorem dX3_dropNumbered_20 : decode cX3_dropNumbered 20 = .ok (.getfield 15, 3) := by decide +kernel
theorem dX3_dropNumbered_23 : decode cX3_dropNumbered 23 = .ok (.iload_n 1, 1) := by decide +kernel
theorem dX3_dropNumbered_24 : decode cX3_dropNumbered 24 = .ok (.iaload, 1) := by decide +kernel
theorem dX3_dropNumbered_25 : decode cX3_dropNumbered 25 = .ok (.goto 4, 3) := by decide +kernel
theorem dX3_dropNumbered_28 : decode cX3_dropNumbered 28 = .ok (.iconst (-1), 1) := by decide +kernel
theorem dX3_dropNumbered_29 : decode cX3_dropNumbered 29 = .ok (.ireturn, 1) := by decide +kernel
theorem dX3_loadAfter_0 : decode cX3_loadAfter 0 = .ok (.aload_n 0, 1) := by decide +kernel
theorem dX3_loadAfter_1 : decode cX3_loadAfter 1 = .ok (.getfield 24, 3) := by decide +kernel
theorem dX3_loadAfter_4 : decode cX3_loadAfter 4 = .ok (.ifCond .eq 7, 3) := by decide +kernel
theorem dX3_loadAfter_7 : decode cX3_loadAfter 7 = .ok (.iload_n 1, 1) := by decide +kernel
theorem dX3_loadAfter_8 : decode cX3_loadAfter 8 = .ok (.ifCond .ge 5, 3) := by decide +kernel
theorem dX3_loadAfter_11 : decode cX3_loadAfter 11 = .ok (.iconst (-1), 1) := by decide +kernel
theorem dX3_loadAfter_12 : decode cX3_loadAfter 12 = .ok (.ireturn, 1) := by decide +kernel
theorem dX3_loadAfter_13 : decode cX3_loadAfter 13 = .ok (.lconst 0, 1) := by decide +kernel
theorem dX3_loadAfter_14 : decode cX3_loadAfter 14 = .ok (.lstore_n 2, 1) := by decide +kernel
theorem dX3_loadAfter_15 : decode cX3_loadAfter 15 = .ok (.iconst 0, 1) := by decide +kernel
theorem dX3_loadAfter_16 : decode cX3_loadAfter 16 = .ok (.istore 4, 2) := by decide +kernel
theorem dX3_loadAfter_18 : decode cX3_loadAfter 18 = .ok (.iload 4, 2) := by decide +kernel
theorem dX3_loadAfter_20 : decode cX3_loadAfter 20 = .ok (.aload_n 0, 1) := by decide +kernel
theorem dX3_loadAfter_21 : decode cX3_loadAfter 21 = .ok (.getfield 38, 3) := by decide +kernel
theorem dX3_loadAfter_24 : decode cX3_loadAfter 24 = .ok (.if_icmp .ge 50, 3) := by decide +kernel
theorem dX3_loadAfter_27 : decode cX3_loadAfter 27 = .ok (.aload_n 0, 1) := by decide +kernel
theorem dX3_loadAfter_28 : decode cX3_loadAfter 28 = .ok (.getfield 18, 3) := by decide +kernel
theorem dX3_loadAfter_31 : decode cX3_loadAfter 31 = .ok (.iload 4, 2) := by decide +kernel
theorem dX3_loadAfter_33 : decode cX3_loadAfter 33 = .ok (.iaload, 1) := by decide +kernel
theorem dX3_loadAfter_34 : decode cX3_loadAfter 34 = .ok (.iload_n 1, 1) := by decide +kernel
theorem dX3_loadAfter_35 : decode cX3_loadAfter 35 = .ok (.if_icmp .gt 39, 3) := by decide +kernel
theorem dX3_loadAfter_38 : decode cX3_loadAfter 38 = .ok (.lconst 0, 1) := by decide +kernel
theorem dX3_loadAfter_39 : decode cX3_loadAfter 39 = .ok (.aload_n 0, 1) := by decide +kernel
theorem dX3_loadAfter_40 : decode cX3_loadAfter 40 = .ok (.getfield 21, 3) := by decide +kernel
theorem dX3_loadAfter_43 : decode cX3_loadAfter 43 = .ok (.iload 4, 2) := by decide +kernel
theorem dX3_loadAfter_45 : decode cX3_loadAfter 45 = .ok (.iaload, 1) := by decide +kernel
theorem dX3_loadAfter_46 : decode cX3_loadAfter 46 = .ok (.i2l, 1) := by decide +kernel
theorem dX3_loadAfter_47 : decode cX3_loadAfter 47 = .ok (.aload_n 0, 1) := by decide +kernel
theorem dX3_loadAfter_48 : decode cX3_loadAfter 48 = .ok (.getfield 32, 3) := by decide +kernel
theorem dX3_loadAfter_51 : decode cX3_loadAfter 51 = .ok (.i2l, 1) := by decide +kernel
theorem dX3_loadAfter_52 : decode cX3_loadAfter 52 = .ok (.iload_n 1, 1) := by decide +kernel
theorem dX3_loadAfter_53 : decode cX3_loadAfter 53 = .ok (.aload_n 0, 1) := by decide +kernel
theorem dX3_loadAfter_54 : decode cX3_loadAfter 54 = .ok (.getfield 18, 3) := by decide +kernel
theorem dX3_loadAfter_57 : decode cX3_loadAfter 57 = .ok (.iload 4, 2) := by decide +kernel
theorem dX3_loadAfter_59 : decode cX3_loadAfter 59 = .ok (.iaload, 1) := by decide +kernel
theorem dX3_loadAfter_60 : decode cX3_loadAfter 60 = .ok (.isub, 1) := by decide +kernel
theorem dX3_loadAfter_61 : decode cX3_loadAfter 61 = .ok (.i2l, 1) := by decide +kernel
theorem dX3_loadAfter_62 : decode cX3_loadAfter 62 = .ok (.lmul, 1) := by decide +kernel
theorem dX3_loadAfter_63 : decode cX3_loadAfter 63 = .ok (.lsub, 1) := by decide +kernel
theorem dX3_loadAfter_64 : decode cX3_loadAfter 64 = .ok (.invokestatic 41, 3) := by decide +kernel
theorem dX3_loadAfter_67 : decode cX3_loadAfter 67 = .ok (.lstore_n 2, 1) := by decide +kernel
theorem dX3_loadAfter_68 : decode cX3_loadAfter 68 = .ok (.iinc 4 1, 3) := by decide +kernel
theorem dX3_loadAfter_71 : decode cX3_loadAfter 71 = .ok (.goto (-53), 3) := by decide +kernel
theorem dX3_loadAfter_74 : decode cX3_loadAfter 74 = .ok (.lload_n 2, 1) := by decide +kernel
theorem dX3_loadAfter_75 : decode cX3_loadAfter 75 = .ok (.l2i, 1) := by decide +kernel
theorem dX3_loadAfter_76 : decode cX3_loadAfter 76 = .ok (.ireturn, 1) := by decide +kernel
theorem dX3_greatestLoad_0 : decode cX3_greatestLoad 0 = .ok (.aload_n 0, 1) := by decide +kernel
theorem dX3_greatestLoad_1 : decode cX3_greatestLoad 1 = .ok (.getfield 24, 3) := by decide +kernel
theorem dX3_greatestLoad_4 : decode cX3_greatestLoad 4 = .ok (.ifCond .ne 5, 3) := by decide +kernel
theorem dX3_greatestLoad_7 : decode cX3_greatestLoad 7 = .ok (.iconst (-1), 1) := by decide +kernel
theorem dX3_greatestLoad_8 : decode cX3_greatestLoad 8 = .ok (.ireturn, 1) := by decide +kernel
theorem dX3_greatestLoad_9 : decode cX3_greatestLoad 9 = .ok (.iconst 0, 1) := by decide +kernel
theorem dX3_greatestLoad_10 : decode cX3_greatestLoad 10 = .ok (.istore_n 1, 1) := by decide +kernel
theorem dX3_greatestLoad_11 : decode cX3_greatestLoad 11 = .ok (.iconst 0, 1) := by decide +kernel
theorem dX3_greatestLoad_12 : decode cX3_greatestLoad 12 = .ok (.istore_n 2, 1) := by decide +kernel
theorem dX3_greatestLoad_13 : decode cX3_greatestLoad 13 = .ok (.iload_n 2, 1) := by decide +kernel
theorem dX3_greatestLoad_14 : decode cX3_greatestLoad 14 = .ok (.aload_n 0, 1) := by decide +kernel
theorem dX3_greatestLoad_15 : decode cX3_greatestLoad 15 = .ok (.getfield 38, 3) := by decide +kernel
theorem dX3_greatestLoad_18 : decode cX3_greatestLoad 18 = .ok (.if_icmp .ge 20, 3) := by decide +kernel
theorem dX3_greatestLoad_21 : decode cX3_greatestLoad 21 = .ok (.iload_n 1, 1) := by decide +kernel
theorem dX3_greatestLoad_22 : decode cX3_greatestLoad 22 = .ok (.aload_n 0, 1) := by decide +kernel
theorem dX3_greatestLoad_23 : decode cX3_greatestLoad 23 = .ok (.getfield 21, 3) := by decide +kernel
theorem dX3_greatestLoad_26 : decode cX3_greatestLoad 26 = .ok (.iload_n 2, 1) := by decide +kernel
theorem dX3_greatestLoad_27 : decode cX3_greatestLoad 27 = .ok (.iaload, 1) := by decide +kernel
theorem dX3_greatestLoad_28 : decode cX3_greatestLoad 28 = .ok (.invokestatic 47, 3) := by decide +kernel
theorem dX3_greatestLoad_31 : decode cX3_greatestLoad 31 = .ok (.istore_n 1, 1) := by decide +kernel
theorem dX3_greatestLoad_32 : decode cX3_greatestLoad 32 = .ok (.iinc 2 1, 3) := by decide +kernel
theorem dX3_greatestLoad_35 : decode cX3_greatestLoad 35 = .ok (.goto (-22), 3) := by decide +kernel
theorem dX3_greatestLoad_38 : decode cX3_greatestLoad 38 = .ok (.iload_n 1, 1) := by decide +kernel
theorem dX3_greatestLoad_39 : decode cX3_greatestLoad 39 = .ok (.ireturn, 1) := by decide +kernel
theorem dX4_init_0 : decode cX4_init 0 = .ok (.aload_n 0, 1) := by decide +kernel
theorem dX4_init_1 : decode cX4_init 1 = .ok (.invokespecial 3, 3) := by decide +kernel
theorem dX4_init_4 : decode cX4_init 4 = .ok (.aload_n 0, 1) := by decide +kernel
theorem dX4_init_5 : decode cX4_init 5 = .ok (.bipush 40, 2) := by decide +kernel
theorem dX4_init_7 : decode cX4_init 7 = .ok (.newarray .int, 2) := by decide +kernel
theorem dX4_init_9 : decode cX4_init 9 = .ok (.putfield 9, 3) := by decide +kernel
theorem dX4_init_12 : decode cX4_init 12 = .ok (.aload_n 0, 1) := by decide +kernel
theorem dX4_init_13 : decode cX4_init 13 = .ok (.bipush 40, 2) := by decide +kernel
theorem dX4_init_15 : decode cX4_init 15 = .ok (.newarray .int, 2) := by decide +kernel
theorem dX4_init_17 : decode cX4_init 17 = .ok (.putfield 15, 3) := by decide +kernel
theorem dX4_init_20 : decode cX4_init 20 = .ok (.aload_n 0, 1) := by decide +kernel
theorem dX4_init_21 : decode cX4_init 21 = .ok (.bipush 40, 2) := by decide +kernel
theorem dX4_init_23 : decode cX4_init 23 = .ok (.newarray .int, 2) := by decide +kernel
theorem dX4_init_25 : decode cX4_init 25 = .ok (.putfield 18, 3) := by decide +kernel
theorem dX4_init_28 : decode cX4_init 28 = .ok (.aload_n 0, 1) := by decide +kernel
theorem dX4_init_29 : decode cX4_init 29 = .ok (.getstatic 21, 3) := by decide +kernel
theorem dX4_init_32 : decode cX4_init 32 = .ok (.invokevirtual 24, 3) := by decide +kernel
theorem dX4_init_35 : decode cX4_init 35 = .ok (.checkcast 25, 3) := by decide +kernel
theorem dX4_init_38 : decode cX4_init 38 = .ok (.putfield 29, 3) := by decide +kernel
theorem dX4_init_41 : decode cX4_init 41 = .ok (.return_, 1) := by decide +kernel
theorem dX4_isFull_0 : decode cX4_isFull 0 = .ok (.aload_n 0, 1) := by decide +kernel
theorem dX4_isFull_1 : decode cX4_isFull 1 = .ok (.getfield 32, 3) := by decide +kernel
theorem dX4_isFull_4 : decode cX4_isFull 4 = .ok (.bipush 40, 2) := by decide +kernel
theorem dX4_isFull_6 : decode cX4_isFull 6 = .ok (.if_icmp .lt 7, 3) := by decide +kernel
theorem dX4_isFull_9 : decode cX4_isFull 9 = .ok (.iconst 1, 1) := by decide +kernel
theorem dX4_isFull_10 : decode cX4_isFull 10 = .ok (.goto 4, 3) := by decide +kernel
theorem dX4_isFull_13 : decode cX4_isFull 13 = .ok (.iconst 0, 1) := by decide +kernel
theorem dX4_isFull_14 : decode cX4_isFull 14 = .ok (.ireturn, 1) := by decide +kernel
theorem dX4_insert_0 : decode cX4_insert 0 = .ok (.aload_n 0, 1) := by decide +kernel
theorem dX4_insert_1 : decode cX4_insert 1 = .ok (.invokevirtual 36, 3) := by decide +kernel
theorem dX4_insert_4 : decode cX4_insert 4 = .ok (.ifCond .eq 5, 3) := by decide +kernel
theorem dX4_insert_7 : decode cX4_insert 7 = .ok (.iconst (-1), 1) := by decide +kernel
theorem dX4_insert_8 : decode cX4_insert 8 = .ok (.ireturn, 1) := by decide +kernel
theorem dX4_insert_9 : decode cX4_insert 9 = .ok (.aload_n 0, 1) := by decide +kernel
theorem dX4_insert_10 : decode cX4_insert 10 = .ok (.getfield 32, 3) := by decide +kernel
theorem dX4_insert_13 : decode cX4_insert 13 = .ok (.istore 4, 2) := by decide +kernel
theorem dX4_insert_15 : decode cX4_insert 15 = .ok (.iload 4, 2) := by decide +kernel
theorem dX4_insert_17 : decode cX4_insert 17 = .ok (.ifCond .le 22, 3) := by decide +kernel
theorem dX4_insert_20 : decode cX4_insert 20 = .ok (.aload_n 0, 1) := by decide +kernel
theorem dX4_insert_21 : decode cX4_insert 21 = .ok (.getfield 9, 3) := by decide +kernel
theorem dX4_insert_24 : decode cX4_insert 24 = .ok (.iload 4, 2) := by decide +kernel
theorem dX4_insert_26 : decode cX4_insert 26 = .ok (.iconst 1, 1) := by decide +kernel
theorem dX4_insert_27 : decode cX4_insert 27 = .ok (.isub, 1) := by decide +kernel
theorem dX4_insert_28 : decode cX4_insert 28 = .ok (.iaload, 1) := by decide +kernel
theorem dX4_insert_29 : decode cX4_insert 29 = .ok (.iload_n 1, 1) := by decide +kernel
theorem dX4_insert_30 : decode cX4_insert 30 = .ok (.if_icmp .le 9, 3) := by decide +kernel
theorem dX4_insert_33 : decode cX4_insert 33 = .ok (.iinc 4 (-1), 3) := by decide +kernel
theorem dX4_insert_36 : decode cX4_insert 36 = .ok (.goto (-21), 3) := by decide +kernel
theorem dX4_insert_39 : decode cX4_insert 39 = .ok (.aload_n 0, 1) := by decide +kernel
theorem dX4_insert_40 : decode cX4_insert 40 = .ok (.iload 4, 2) := by decide +kernel
theorem dX4_insert_42 : decode cX4_insert 42 = .ok (.iload 4, 2) := by decide +kernel
theorem dX4_insert_44 : decode cX4_insert 44 = .ok (.iconst 1, 1) := by decide +kernel
theorem dX4_insert_45 : decode cX4_insert 45 = .ok (.iadd, 1) := by decide +kernel
theorem dX4_insert_46 : decode cX4_insert 46 = .ok (.invokevirtual 40, 3) := by decide +kernel
theorem dX4_insert_49 : decode cX4_insert 49 = .ok (.aload_n 0, 1) := by decide +kernel
theorem dX4_insert_50 : decode cX4_insert 50 = .ok (.getfield 9, 3) := by decide +kernel
theorem dX4_insert_53 : decode cX4_insert 53 = .ok (.iload 4, 2) := by decide +kernel
theorem dX4_insert_55 : decode cX4_insert 55 = .ok (.iload_n 1, 1) := by decide +kernel
theorem dX4_insert_56 : decode cX4_insert 56 = .ok (.iastore, 1) := by decide +kernel
theorem dX4_insert_57 : decode cX4_insert 57 = .ok (.aload_n 0, 1) := by decide +kernel
theorem dX4_insert_58 : decode cX4_insert 58 = .ok (.getfield 15, 3) := by decide +kernel
theorem dX4_insert_61 : decode cX4_insert 61 = .ok (.iload 4, 2) := by decide +kernel
theorem dX4_insert_63 : decode cX4_insert 63 = .ok (.iload_n 2, 1) := by decide +kernel
theorem dX4_insert_64 : decode cX4_insert 64 = .ok (.iastore, 1) := by decide +kernel
theorem dX4_insert_65 : decode cX4_insert 65 = .ok (.aload_n 0, 1) := by decide +kernel
theorem dX4_insert_66 : decode cX4_insert 66 = .ok (.getfield 18, 3) := by decide +kernel
theorem dX4_insert_69 : decode cX4_insert 69 = .ok (.iload 4, 2) := by decide +kernel
theorem dX4_insert_71 : decode cX4_insert 71 = .ok (.iload_n 3, 1) := by decide +kernel
theorem dX4_insert_72 : decode cX4_insert 72 = .ok (.iastore, 1) := by decide +kernel
theorem dX4_insert_73 : decode cX4_insert 73 = .ok (.aload_n 0, 1) := by decide +kernel
theorem dX4_insert_74 : decode cX4_insert 74 = .ok (.dup, 1) := by decide +kernel
theorem dX4_insert_75 : decode cX4_insert 75 = .ok (.getfield 32, 3) := by decide +kernel
theorem dX4_insert_78 : decode cX4_insert 78 = .ok (.iconst 1, 1) := by decide +kernel
theorem dX4_insert_79 : decode cX4_insert 79 = .ok (.iadd, 1) := by decide +kernel
theorem dX4_insert_80 : decode cX4_insert 80 = .ok (.putfield 32, 3) := by decide +kernel
theorem dX4_insert_83 : decode cX4_insert 83 = .ok (.iload 4, 2) := by decide +kernel
theorem dX4_insert_85 : decode cX4_insert 85 = .ok (.ireturn, 1) := by decide +kernel
theorem dX4_delete_0 : decode cX4_delete 0 = .ok (.iload_n 1, 1) := by decide +kernel
theorem dX4_delete_1 : decode cX4_delete 1 = .ok (.ifCond .lt 29, 3) := by decide +kernel
theorem dX4_delete_4 : decode cX4_delete 4 = .ok (.iload_n 1, 1) := by decide +kernel
theorem dX4_delete_5 : decode cX4_delete 5 = .ok (.aload_n 0, 1) := by decide +kernel
theorem dX4_delete_6 : decode cX4_delete 6 = .ok (.getfield 32, 3) := by decide +kernel
theorem dX4_delete_9 : decode cX4_delete 9 = .ok (.if_icmp .ge 21, 3) := by decide +kernel
theorem dX4_delete_12 : decode cX4_delete 12 = .ok (.aload_n 0, 1) := by decide +kernel
theorem dX4_delete_13 : decode cX4_delete 13 = .ok (.iload_n 1, 1) := by decide +kernel
theorem dX4_delete_14 : decode cX4_delete 14 = .ok (.iconst 1, 1) := by decide +kernel
theorem dX4_delete_15 : decode cX4_delete 15 = .ok (.iadd, 1) := by decide +kernel
theorem dX4_delete_16 : decode cX4_delete 16 = .ok (.iload_n 1, 1) := by decide +kernel
theorem dX4_delete_17 : decode cX4_delete 17 = .ok (.invokevirtual 40, 3) := by decide +kernel
theorem dX4_delete_20 : decode cX4_delete 20 = .ok (.aload_n 0, 1) := by decide +kernel
theorem dX4_delete_21 : decode cX4_delete 21 = .ok (.dup, 1) := by decide +kernel
theorem dX4_delete_22 : decode cX4_delete 22 = .ok (.getfield 32, 3) := by decide +kernel
theorem dX4_delete_25 : decode cX4_delete 25 = .ok (.iconst 1, 1) := by decide +kernel
theorem dX4_delete_26 : decode cX4_delete 26 = .ok (.isub, 1) := by decide +kernel
theorem dX4_delete_27 : decode cX4_delete 27 = .ok (.putfield 32, 3) := by decide +kernel
theorem dX4_delete_30 : decode cX4_delete 30 = .ok (.return_, 1) := by decide +kernel
theorem dX4_shift_0 : decode cX4_shift 0 = .ok (.aload_n 0, 1) := by decide +kernel
theorem dX4_shift_1 : decode cX4_shift 1 = .ok (.getfield 9, 3) := by decide +kernel
theorem dX4_shift_4 : decode cX4_shift 4 = .ok (.iload_n 1, 1) := by decide +kernel
theorem dX4_shift_5 : decode cX4_shift 5 = .ok (.aload_n 0, 1) := by decide +kernel
theorem dX4_shift_6 : decode cX4_shift 6 = .ok (.getfield 9, 3) := by decide +kernel
theorem dX4_shift_9 : decode cX4_shift 9 = .ok (.iload_n 2, 1) := by decide +kernel
theorem dX4_shift_10 : decode cX4_shift 10 = .ok (.aload_n 0, 1) := by decide +kernel
theorem dX4_shift_11 : decode cX4_shift 11 = .ok (.getfield 32, 3) := by decide +kernel
theorem dX4_shift_14 : decode cX4_shift 14 = .ok (.iload_n 1, 1) := by decide +kernel
theorem dX4_shift_15 : decode cX4_shift 15 = .ok (.isub, 1) := by decide +kernel
theorem dX4_shift_16 : decode cX4_shift 16 = .ok (.invokestatic 44, 3) := by decide +kernel
theorem dX4_shift_19 : decode cX4_shift 19 = .ok (.aload_n 0, 1) := by decide +kernel
theorem dX4_shift_20 : decode cX4_shift 20 = .ok (.getfield 15, 3) := by decide +kernel
theorem dX4_shift_23 : decode cX4_shift 23 = .ok (.iload_n 1, 1) := by decide +kernel
theorem dX4_shift_24 : decode cX4_shift 24 = .ok (.aload_n 0, 1) := by decide +kernel
theorem dX4_shift_25 : decode cX4_shift 25 = .ok (.getfield 15, 3) := by decide +kernel
theorem dX4_shift_28 : decode cX4_shift 28 = .ok (.iload_n 2, 1) := by decide +kernel
theorem dX4_shift_29 : decode cX4_shift 29 = .ok (.aload_n 0, 1) := by decide +kernel
theorem dX4_shift_30 : decode cX4_shift 30 = .ok (.getfield 32, 3) := by decide +kernel
theorem dX4_shift_33 : decode cX4_shift 33 = .ok (.iload_n 1, 1) := by decide +kernel
theorem dX4_shift_34 : decode cX4_shift 34 = .ok (.isub, 1) := by decide +kernel
theorem dX4_shift_35 : decode cX4_shift 35 = .ok (.invokestatic 44, 3) := by decide +kernel
theorem dX4_shift_38 : decode cX4_shift 38 = .ok (.aload_n 0, 1) := by decide +kernel
theorem dX4_shift_39 : decode cX4_shift 39 = .ok (.getfield 18, 3) := by decide +kernel
theorem dX4_shift_42 : decode cX4_shift 42 = .ok (.iload_n 1, 1) := by decide +kernel
theorem dX4_shift_43 : decode cX4_shift 43 = .ok (.aload_n 0, 1) := by decide +kernel
theorem dX4_shift_44 : decode cX4_shift 44 = .ok (.getfield 18, 3) := by decide +kernel
theorem dX4_shift_47 : decode cX4_shift 47 = .ok (.iload_n 2, 1) := by decide +kernel
theorem dX4_shift_48 : decode cX4_shift 48 = .ok (.aload_n 0, 1) := by decide +kernel
theorem dX4_shift_49 : decode cX4_shift 49 = .ok (.getfield 32, 3) := by decide +kernel
theorem dX4_shift_52 : decode cX4_shift 52 = .ok (.iload_n 1, 1) := by decide +kernel
theorem dX4_shift_53 : decode cX4_shift 53 = .ok (.isub, 1) := by decide +kernel
theorem dX4_shift_54 : decode cX4_shift 54 = .ok (.invokestatic 44, 3) := by decide +kernel
theorem dX4_shift_57 : decode cX4_shift 57 = .ok (.return_, 1) := by decide +kernel
theorem dX4_set_0 : decode cX4_set 0 = .ok (.iload_n 1, 1) := by decide +kernel
theorem dX4_set_1 : decode cX4_set 1 = .ok (.iload_n 2, 1) := by decide +kernel
theorem dX4_set_2 : decode cX4_set 2 = .ok (.invokestatic 50, 3) := by decide +kernel
theorem dX4_set_5 : decode cX4_set 5 = .ok (.istore_n 3, 1) := by decide +kernel
theorem dX4_set_6 : decode cX4_set 6 = .ok (.iload_n 3, 1) := by decide +kernel
theorem dX4_set_7 : decode cX4_set 7 = .ok (.ifCond .eq 10, 3) := by decide +kernel
theorem dX4_set_10 : decode cX4_set 10 = .ok (.aload_n 0, 1) := by decide +kernel
theorem dX4_set_11 : decode cX4_set 11 = .ok (.getfield 29, 3) := by decide +kernel
theorem dX4_set_14 : decode cX4_set 14 = .ok (.iload_n 1, 1) := by decide +kernel
theorem dX4_set_15 : decode cX4_set 15 = .ok (.iload_n 2, 1) := by decide +kernel
theorem dX4_set_16 : decode cX4_set 16 = .ok (.iastore, 1) := by decide +kernel
theorem dX4_set_17 : decode cX4_set 17 = .ok (.iload_n 3, 1) := by decide +kernel
theorem dX4_set_18 : decode cX4_set 18 = .ok (.ireturn, 1) := by decide +kernel
theorem dX4_flowSet_0 : decode cX4_flowSet 0 = .ok (.iconst 0, 1) := by decide +kernel
theorem dX4_flowSet_1 : decode cX4_flowSet 1 = .ok (.istore_n 1, 1) := by decide +kernel
theorem dX4_flowSet_2 : decode cX4_flowSet 2 = .ok (.iconst 0, 1) := by decide +kernel
theorem dX4_flowSet_3 : decode cX4_flowSet 3 = .ok (.istore_n 2, 1) := by decide +kernel
theorem dX4_flowSet_4 : decode cX4_flowSet 4 = .ok (.iload_n 2, 1) := by decide +kernel
theorem dX4_flowSet_5 : decode cX4_flowSet 5 = .ok (.aload_n 0, 1) := by decide +kernel
theorem dX4_flowSet_6 : decode cX4_flowSet 6 = .ok (.getfield 32, 3) := by decide +kernel
theorem dX4_flowSet_9 : decode cX4_flowSet 9 = .ok (.if_icmp .ge 20, 3) := by decide +kernel
theorem dX4_flowSet_12 : decode cX4_flowSet 12 = .ok (.iload_n 1, 1) := by decide +kernel
theorem dX4_flowSet_13 : decode cX4_flowSet 13 = .ok (.iconst 1, 1) := by decide +kernel
theorem dX4_flowSet_14 : decode cX4_flowSet 14 = .ok (.aload_n 0, 1) := by decide +kernel
theorem dX4_flowSet_15 : decode cX4_flowSet 15 = .ok (.getfield 15, 3) := by decide +kernel
theorem dX4_flowSet_18 : decode cX4_flowSet 18 = .ok (.iload_n 2, 1) := by decide +kernel
theorem dX4_flowSet_19 : decode cX4_flowSet 19 = .ok (.iaload, 1) := by decide +kernel
theorem dX4_flowSet_20 : decode cX4_flowSet 20 = .ok (.ishl, 1) := by decide +kernel
theorem dX4_flowSet_21 : decode cX4_flowSet 21 = .ok (.ior, 1) := by decide +kernel
theorem dX4_flowSet_22 : decode cX4_flowSet 22 = .ok (.istore_n 1, 1) := by decide +kernel
theorem dX4_flowSet_23 : decode cX4_flowSet 23 = .ok (.iinc 2 1, 3) := by decide +kernel
theorem dX4_flowSet_26 : decode cX4_flowSet 26 = .ok (.goto (-22), 3) := by decide +kernel
theorem dX4_flowSet_29 : decode cX4_flowSet 29 = .ok (.iload_n 1, 1) := by decide +kernel
theorem dX4_flowSet_30 : decode cX4_flowSet 30 = .ok (.ireturn, 1) := by decide +kernel
theorem dX4_copyFrom_0 : decode cX4_copyFrom 0 = .ok (.aload_n 0, 1) := by decide +kernel
theorem dX4_copyFrom_1 : decode cX4_copyFrom 1 = .ok (.aload_n 1, 1) := by decide +kernel
theorem dX4_copyFrom_2 : decode cX4_copyFrom 2 = .ok (.getfield 32, 3) := by decide +kernel
theorem dX4_copyFrom_5 : decode cX4_copyFrom 5 = .ok (.putfield 32, 3) := by decide +kernel
theorem dX4_copyFrom_8 : decode cX4_copyFrom 8 = .ok (.aload_n 1, 1) := by decide +kernel
theorem dX4_copyFrom_9 : decode cX4_copyFrom 9 = .ok (.getfield 9, 3) := by decide +kernel
theorem dX4_copyFrom_12 : decode cX4_copyFrom 12 = .ok (.iconst 0, 1) := by decide +kernel
theorem dX4_copyFrom_13 : decode cX4_copyFrom 13 = .ok (.aload_n 0, 1) := by decide +kernel
theorem dX4_copyFrom_14 : decode cX4_copyFrom 14 = .ok (.getfield 9, 3) := by decide +kernel
theorem dX4_copyFrom_17 : decode cX4_copyFrom 17 = .ok (.iconst 0, 1) := by decide +kernel
theorem dX4_copyFrom_18 : decode cX4_copyFrom 18 = .ok (.bipush 40, 2) := by decide +kernel
theorem dX4_copyFrom_20 : decode cX4_copyFrom 20 = .ok (.invokestatic 44, 3) := by decide +kernel
theorem dX4_copyFrom_23 : decode cX4_copyFrom 23 = .ok (.aload_n 1, 1) := by decide +kernel
theorem dX4_copyFrom_24 : decode cX4_copyFrom 24 = .ok (.getfield 15, 3) := by decide +kernel
theorem dX4_copyFrom_27 : decode cX4_copyFrom 27 = .ok (.iconst 0, 1) := by decide +kernel
theorem dX4_copyFrom_28 : decode cX4_copyFrom 28 = .ok (.aload_n 0, 1) := by decide +kernel
theorem dX4_copyFrom_29 : decode cX4_copyFrom 29 = .ok (.getfield 15, 3) := by decide +kernel
theorem dX4_copyFrom_32 : decode cX4_copyFrom 32 = .ok (.iconst 0, 1) := by decide +kernel
theorem dX4_copyFrom_33 : decode cX4_copyFrom 33 = .ok (.bipush 40, 2) := by decide +kernel
theorem dX4_copyFrom_35 : decode cX4_copyFrom 35 = .ok (.invokestatic 44, 3) := by decide +kernel
theorem dX4_copyFrom_38 : decode cX4_copyFrom 38 = .ok (.aload_n 1, 1) := by decide +kernel
theorem dX4_copyFrom_39 : decode cX4_copyFrom 39 = .ok (.getfield 18, 3) := by decide +kernel
theorem dX4_copyFrom_42 : decode cX4_copyFrom 42 = .ok (.iconst 0, 1) := by decide +kernel
theorem dX4_copyFrom_43 : decode cX4_copyFrom 43 = .ok (.aload_n 0, 1) := by decide +kernel
theorem dX4_copyFrom_44 : decode cX4_copyFrom 44 = .ok (.getfield 18, 3) := by decide +kernel
theorem dX4_copyFrom_47 : decode cX4_copyFrom 47 = .ok (.iconst 0, 1) := by decide +kernel
theorem dX4_copyFrom_48 : decode cX4_copyFrom 48 = .ok (.bipush 40, 2) := by decide +kernel
theorem dX4_copyFrom_50 : decode cX4_copyFrom 50 = .ok (.invokestatic 44, 3) := by decide +kernel
theorem dX4_copyFrom_53 : decode cX4_copyFrom 53 = .ok (.aload_n 1, 1) := by decide +kernel
theorem dX4_copyFrom_54 : decode cX4_copyFrom 54 = .ok (.getfield 29, 3) := by decide +kernel
theorem dX4_copyFrom_57 : decode cX4_copyFrom 57 = .ok (.iconst 0, 1) := by decide +kernel
theorem dX4_copyFrom_58 : decode cX4_copyFrom 58 = .ok (.aload_n 0, 1) := by decide +kernel
theorem dX4_copyFrom_59 : decode cX4_copyFrom 59 = .ok (.getfield 29, 3) := by decide +kernel
theorem dX4_copyFrom_62 : decode cX4_copyFrom 62 = .ok (.iconst 0, 1) := by decide +kernel
theorem dX4_copyFrom_63 : decode cX4_copyFrom 63 = .ok (.bipush 14, 2) := by decide +kernel
theorem dX4_copyFrom_65 : decode cX4_copyFrom 65 = .ok (.invokestatic 44, 3) := by decide +kernel
theorem dX4_copyFrom_68 : decode cX4_copyFrom 68 = .ok (.return_, 1) := by decide +kernel
theorem dX5_init_0 : decode cX5_init 0 = .ok (.aload_n 0, 1) := by decide +kernel
theorem dX5_init_1 : decode cX5_init 1 = .ok (.invokespecial 3, 3) := by decide +kernel
theorem dX5_init_4 : decode cX5_init 4 = .ok (.aload_n 0, 1) := by decide +kernel
theorem dX5_init_5 : decode cX5_init 5 = .ok (.new 9, 3) := by decide +kernel
theorem dX5_init_8 : decode cX5_init 8 = .ok (.dup, 1) := by decide +kernel
theorem dX5_init_9 : decode cX5_init 9 = .ok (.invokespecial 11, 3) := by decide +kernel
theorem dX5_init_12 : decode cX5_init 12 = .ok (.putfield 12, 3) := by decide +kernel
theorem dX5_init_15 : decode cX5_init 15 = .ok (.aload_n 0, 1) := by decide +kernel
theorem dX5_init_16 : decode cX5_init 16 = .ok (.new 18, 3) := by decide +kernel
theorem dX5_init_19 : decode cX5_init 19 = .ok (.dup, 1) := by decide +kernel
theorem dX5_init_20 : decode cX5_init 20 = .ok (.invokespecial 20, 3) := by decide +kernel
theorem dX5_init_23 : decode cX5_init 23 = .ok (.putfield 21, 3) := by decide +kernel
theorem dX5_init_26 : decode cX5_init 26 = .ok (.aload_n 0, 1) := by decide +kernel
theorem dX5_init_27 : decode cX5_init 27 = .ok (.bipush 6, 2) := by decide +kernel
theorem dX5_init_29 : decode cX5_init 29 = .ok (.newarray .int, 2) := by decide +kernel
theorem dX5_init_31 : decode cX5_init 31 = .ok (.putfield 25, 3) := by decide +kernel
theorem dX5_init_34 : decode cX5_init 34 = .ok (.aload_n 0, 1) := by decide +kernel
theorem dX5_init_35 : decode cX5_init 35 = .ok (.aload_n 1, 1) := by decide +kernel
theorem dX5_init_36 : decode cX5_init 36 = .ok (.putfield 29, 3) := by decide +kernel
theorem dX5_init_39 : decode cX5_init 39 = .ok (.return_, 1) := by decide +kernel
theorem dX5_play_0 : decode cX5_play 0 = .ok (.aload_n 0, 1) := by decide +kernel
theorem dX5_play_1 : decode cX5_play 1 = .ok (.iload_n 2, 1) := by decide +kernel
theorem dX5_play_2 : decode cX5_play 2 = .ok (.putfield 33, 3) := by decide +kernel
theorem dX5_play_5 : decode cX5_play 5 = .ok (.aload_n 0, 1) := by decide +kernel
theorem dX5_play_6 : decode cX5_play 6 = .ok (.sipush 1001, 3) := by decide +kernel
theorem dX5_play_9 : decode cX5_play 9 = .ok (.putfield 37, 3) := by decide +kernel
theorem dX5_play_12 : decode cX5_play 12 = .ok (.aload_n 0, 1) := by decide +kernel
theorem dX5_play_13 : decode cX5_play 13 = .ok (.aload_n 0, 1) := by decide +kernel
theorem dX5_play_14 : decode cX5_play 14 = .ok (.getfield 29, 3) := by decide +kernel
theorem dX5_play_17 : decode cX5_play 17 = .ok (.getfield 40, 3) := by decide +kernel
theorem dX5_play_20 : decode cX5_play 20 = .ok (.iconst 1, 1) := by decide +kernel
theorem dX5_play_21 : decode cX5_play 21 = .ok (.iaload, 1) := by decide +kernel
theorem dX5_play_22 : decode cX5_play 22 = .ok (.putfield 45, 3) := by decide +kernel
theorem dX5_play_25 : decode cX5_play 25 = .ok (.aload_n 0, 1) := by decide +kernel
theorem dX5_play_26 : decode cX5_play 26 = .ok (.iconst 0, 1) := by decide +kernel
theorem dX5_play_27 : decode cX5_play 27 = .ok (.putfield 48, 3) := by decide +kernel
theorem dX5_play_30 : decode cX5_play 30 = .ok (.aload_n 0, 1) := by decide +kernel
theorem dX5_play_31 : decode cX5_play 31 = .ok (.iconst 5, 1) := by decide +kernel
theorem dX5_play_32 : decode cX5_play 32 = .ok (.putfield 51, 3) := by decide +kernel
theorem dX5_play_35 : decode cX5_play 35 = .ok (.aload_n 0, 1) := by decide +kernel
theorem dX5_play_36 : decode cX5_play 36 = .ok (.getfield 21, 3) := by decide +kernel
theorem dX5_play_39 : decode cX5_play 39 = .ok (.invokevirtual 54, 3) := by decide +kernel
theorem dX5_play_42 : decode cX5_play 42 = .ok (.aload_n 0, 1) := by decide +kernel
theorem dX5_play_43 : decode cX5_play 43 = .ok (.getfield 12, 3) := by decide +kernel
theorem dX5_play_46 : decode cX5_play 46 = .ok (.aload_n 0, 1) := by decide +kernel
theorem dX5_play_47 : decode cX5_play 47 = .ok (.getfield 29, 3) := by decide +kernel
theorem dX5_play_50 : decode cX5_play 50 = .ok (.getfield 57, 3) := by decide +kernel
theorem dX5_play_53 : decode cX5_play 53 = .ok (.aload_n 0, 1) := by decide +kernel
theorem dX5_play_54 : decode cX5_play 54 = .ok (.getfield 45, 3) := by decide +kernel
theorem dX5_play_57 : decode cX5_play 57 = .ok (.invokevirtual 60, 3) := by decide +kernel
theorem dX5_play_60 : decode cX5_play 60 = .ok (.iconst 0, 1) := by decide +kernel
theorem dX5_play_61 : decode cX5_play 61 = .ok (.istore 4, 2) := by decide +kernel
theorem dX5_play_63 : decode cX5_play 63 = .ok (.iload 4, 2) := by decide +kernel
theorem dX5_play_65 : decode cX5_play 65 = .ok (.aload_n 0, 1) := by decide +kernel
theorem dX5_play_66 : decode cX5_play 66 = .ok (.getfield 29, 3) := by decide +kernel
theorem dX5_play_69 : decode cX5_play 69 = .ok (.getfield 57, 3) := by decide +kernel
theorem dX5_play_72 : decode cX5_play 72 = .ok (.if_icmp .ge 97, 3) := by decide +kernel
theorem dX5_play_75 : decode cX5_play 75 = .ok (.iload_n 1, 1) := by decide +kernel
theorem dX5_play_76 : decode cX5_play 76 = .ok (.aload_n 0, 1) := by decide +kernel
theorem dX5_play_77 : decode cX5_play 77 = .ok (.getfield 29, 3) := by decide +kernel
theorem dX5_play_80 : decode cX5_play 80 = .ok (.getfield 64, 3) := by decide +kernel
theorem dX5_play_83 : decode cX5_play 83 = .ok (.iload 4, 2) := by decide +kernel
theorem dX5_play_85 : decode cX5_play 85 = .ok (.iaload, 1) := by decide +kernel
theorem dX5_play_86 : decode cX5_play 86 = .ok (.invokestatic 67, 3) := by decide +kernel
theorem dX5_play_89 : decode cX5_play 89 = .ok (.ifCond .ne 18, 3) := by decide +kernel
theorem dX5_play_92 : decode cX5_play 92 = .ok (.aload_n 0, 1) := by decide +kernel
theorem dX5_play_93 : decode cX5_play 93 = .ok (.getfield 12, 3) := by decide +kernel
theorem dX5_play_96 : decode cX5_play 96 = .ok (.getfield 71, 3) := by decide +kernel
theorem dX5_play_99 : decode cX5_play 99 = .ok (.iload 4, 2) := by decide +kernel
theorem dX5_play_101 : decode cX5_play 101 = .ok (.bipush (-3), 2) := by decide +kernel
theorem dX5_play_103 : decode cX5_play 103 = .ok (.iastore, 1) := by decide +kernel
theorem dX5_play_104 : decode cX5_play 104 = .ok (.goto 44, 3) := by decide +kernel
theorem dX5_play_107 : decode cX5_play 107 = .ok (.aload_n 0, 1) := by decide +kernel
theorem dX5_play_108 : decode cX5_play 108 = .ok (.iload 4, 2) := by decide +kernel
theorem dX5_play_110 : decode cX5_play 110 = .ok (.iload_n 3, 1) := by decide +kernel
theorem dX5_play_111 : decode cX5_play 111 = .ok (.invokevirtual 74, 3) := by decide +kernel
theorem dX5_play_114 : decode cX5_play 114 = .ok (.ifCond .eq 25, 3) := by decide +kernel
theorem dX5_play_117 : decode cX5_play 117 = .ok (.aload_n 0, 1) := by decide +kernel
theorem dX5_play_118 : decode cX5_play 118 = .ok (.getfield 21, 3) := by decide +kernel
theorem dX5_play_121 : decode cX5_play 121 = .ok (.iload 4, 2) := by decide +kernel
theorem dX5_play_123 : decode cX5_play 123 = .ok (.aload_n 0, 1) := by decide +kernel
theorem dX5_play_124 : decode cX5_play 124 = .ok (.getfield 29, 3) := by decide +kernel
theorem dX5_play_127 : decode cX5_play 127 = .ok (.getfield 77, 3) := by decide +kernel
theorem dX5_play_130 : decode cX5_play 130 = .ok (.iload 4, 2) := by decide +kernel
theorem dX5_play_132 : decode cX5_play 132 = .ok (.iaload, 1) := by decide +kernel
theorem dX5_play_133 : decode cX5_play 133 = .ok (.invokevirtual 80, 3) := by decide +kernel
theorem dX5_play_136 : decode cX5_play 136 = .ok (.goto 12, 3) := by decide +kernel
theorem dX5_play_139 : decode cX5_play 139 = .ok (.aload_n 0, 1) := by decide +kernel
theorem dX5_play_140 : decode cX5_play 140 = .ok (.getfield 12, 3) := by decide +kernel
theorem dX5_play_143 : decode cX5_play 143 = .ok (.iload 4, 2) := by decide +kernel
theorem dX5_play_145 : decode cX5_play 145 = .ok (.invokevirtual 83, 3) := by decide +kernel
theorem dX5_play_148 : decode cX5_play 148 = .ok (.aload_n 0, 1) := by decide +kernel
theorem dX5_play_149 : decode cX5_play 149 = .ok (.iload 4, 2) := by decide +kernel
theorem dX5_play_151 : decode cX5_play 151 = .ok (.invokevirtual 87, 3) := by decide +kernel
theorem dX5_play_154 : decode cX5_play 154 = .ok (.ifCond .eq 9, 3) := by decide +kernel
theorem dX5_play_157 : decode cX5_play 157 = .ok (.aload_n 0, 1) := by decide +kernel
theorem dX5_play_158 : decode cX5_play 158 = .ok (.iload 4, 2) := by decide +kernel
theorem dX5_play_160 : decode cX5_play 160 = .ok (.invokevirtual 91, 3) := by decide +kernel
theorem dX5_play_163 : decode cX5_play 163 = .ok (.iinc 4 1, 3) := by decide +kernel
theorem dX5_play_166 : decode cX5_play 166 = .ok (.goto (-103), 3) := by decide +kernel
theorem dX5_play_169 : decode cX5_play 169 = .ok (.return_, 1) := by decide +kernel
theorem dX5_measureFor_0 : decode cX5_measureFor 0 = .ok (.iconst 0, 1) := by decide +kernel
theorem dX5_measureFor_1 : decode cX5_measureFor 1 = .ok (.istore_n 2, 1) := by decide +kernel
theorem dX5_measureFor_2 : decode cX5_measureFor 2 = .ok (.iconst 0, 1) := by decide +kernel
theorem dX5_measureFor_3 : decode cX5_measureFor 3 = .ok (.istore_n 3, 1) := by decide +kernel
theorem dX5_measureFor_4 : decode cX5_measureFor 4 = .ok (.iload_n 3, 1) := by decide +kernel
theorem dX5_measureFor_5 : decode cX5_measureFor 5 = .ok (.aload_n 0, 1) := by decide +kernel
theorem dX5_measureFor_6 : decode cX5_measureFor 6 = .ok (.getfield 29, 3) := by decide +kernel
theorem dX5_measureFor_9 : decode cX5_measureFor 9 = .ok (.getfield 57, 3) := by decide +kernel
theorem dX5_measureFor_12 : decode cX5_measureFor 12 = .ok (.if_icmp .ge 35, 3) := by decide +kernel
theorem dX5_measureFor_15 : decode cX5_measureFor 15 = .ok (.iload_n 1, 1) := by decide +kernel
theorem dX5_measureFor_16 : decode cX5_measureFor 16 = .ok (.iconst (-1), 1) := by decide +kernel
theorem dX5_measureFor_17 : decode cX5_measureFor 17 = .ok (.if_icmp .eq 16, 3) := by decide +kernel
theorem dX5_measureFor_20 : decode cX5_measureFor 20 = .ok (.iload_n 1, 1) := by decide +kernel
theorem dX5_measureFor_21 : decode cX5_measureFor 21 = .ok (.aload_n 0, 1) := by decide +kernel
theorem dX5_measureFor_22 : decode cX5_measureFor 22 = .ok (.getfield 29, 3) := by decide +kernel
theorem dX5_measureFor_25 : decode cX5_measureFor 25 = .ok (.getfield 64, 3) := by decide +kernel
theorem dX5_measureFor_28 : decode cX5_measureFor 28 = .ok (.iload_n 3, 1) := by decide +kernel
theorem dX5_measureFor_29 : decode cX5_measureFor 29 = .ok (.iaload, 1) := by decide +kernel
theorem dX5_measureFor_30 : decode cX5_measureFor 30 = .ok (.if_icmp .ne 11, 3) := by decide +kernel
theorem dX5_measureFor_33 : decode cX5_measureFor 33 = .ok (.iload_n 2, 1) := by decide +kernel
theorem dX5_measureFor_34 : decode cX5_measureFor 34 = .ok (.aload_n 0, 1) := by decide +kernel
theorem dX5_measureFor_35 : decode cX5_measureFor 35 = .ok (.iload_n 3, 1) := by decide +kernel
theorem dX5_measureFor_36 : decode cX5_measureFor 36 = .ok (.invokevirtual 94, 3) := by decide +kernel
theorem dX5_measureFor_39 : decode cX5_measureFor 39 = .ok (.iadd, 1) := by decide +kernel
theorem dX5_measureFor_40 : decode cX5_measureFor 40 = .ok (.istore_n 2, 1) := by decide +kernel
theorem dX5_measureFor_41 : decode cX5_measureFor 41 = .ok (.iinc 3 1, 3) := by decide +kernel
theorem dX5_measureFor_44 : decode cX5_measureFor 44 = .ok (.goto (-40), 3) := by decide +kernel
theorem dX5_measureFor_47 : decode cX5_measureFor 47 = .ok (.iload_n 2, 1) := by decide +kernel
theorem dX5_measureFor_48 : decode cX5_measureFor 48 = .ok (.ireturn, 1) := by decide +kernel
theorem dX5_measureOf_0 : decode cX5_measureOf 0 = .ok (.aload_n 0, 1) := by decide +kernel
theorem dX5_measureOf_1 : decode cX5_measureOf 1 = .ok (.getfield 12, 3) := by decide +kernel
theorem dX5_measureOf_4 : decode cX5_measureOf 4 = .ok (.iload_n 1, 1) := by decide +kernel
theorem dX5_measureOf_5 : decode cX5_measureOf 5 = .ok (.invokevirtual 98, 3) := by decide +kernel
theorem dX5_measureOf_8 : decode cX5_measureOf 8 = .ok (.istore_n 2, 1) := by decide +kernel
theorem dX5_measureOf_9 : decode cX5_measureOf 9 = .ok (.aload_n 0, 1) := by decide +kernel
theorem dX5_measureOf_10 : decode cX5_measureOf 10 = .ok (.getfield 29, 3) := by decide +kernel
theorem dX5_measureOf_13 : decode cX5_measureOf 13 = .ok (.getfield 40, 3) := by decide +kernel
theorem dX5_measureOf_16 : decode cX5_measureOf 16 = .ok (.bipush 7, 2) := by decide +kernel
theorem dX5_measureOf_18 : decode cX5_measureOf 18 = .ok (.iaload, 1) := by decide +kernel
theorem dX5_measureOf_19 : decode cX5_measureOf 19 = .ok (.lookupswitch 57 #[(0, 25), (1, 37)], 25) := by decide +kernel
theorem dX5_measureOf_44 : decode cX5_measureOf 44 = .ok (.iload_n 2, 1) := by decide +kernel
theorem dX5_measureOf_45 : decode cX5_measureOf 45 = .ok (.bipush (-2), 2) := by decide +kernel
theorem dX5_measureOf_47 : decode cX5_measureOf 47 = .ok (.if_icmp .ne 7, 3) := by decide +kernel
theorem dX5_measureOf_50 : decode cX5_measureOf 50 = .ok (.iconst 1, 1) := by decide +kernel
theorem dX5_measureOf_51 : decode cX5_measureOf 51 = .ok (.goto 4, 3) := by decide +kernel
theorem dX5_measureOf_54 : decode cX5_measureOf 54 = .ok (.iconst 0, 1) := by decide +kernel
theorem dX5_measureOf_55 : decode cX5_measureOf 55 = .ok (.ireturn, 1) := by decide +kernel
theorem dX5_measureOf_56 : decode cX5_measureOf 56 = .ok (.iload_n 2, 1) := by decide +kernel
theorem dX5_measureOf_57 : decode cX5_measureOf 57 = .ok (.bipush (-2), 2) := by decide +kernel
theorem dX5_measureOf_59 : decode cX5_measureOf 59 = .ok (.if_icmp .ne 15, 3) := by decide +kernel
theorem dX5_measureOf_62 : decode cX5_measureOf 62 = .ok (.aload_n 0, 1) := by decide +kernel
theorem dX5_measureOf_63 : decode cX5_measureOf 63 = .ok (.getfield 29, 3) := by decide +kernel
theorem dX5_measureOf_66 : decode cX5_measureOf 66 = .ok (.getfield 77, 3) := by decide +kernel
theorem dX5_measureOf_69 : decode cX5_measureOf 69 = .ok (.iload_n 1, 1) := by decide +kernel
theorem dX5_measureOf_70 : decode cX5_measureOf 70 = .ok (.iaload, 1) := by decide +kernel
theorem dX5_measureOf_71 : decode cX5_measureOf 71 = .ok (.goto 4, 3) := by decide +kernel
theorem dX5_measureOf_74 : decode cX5_measureOf 74 = .ok (.iconst 0, 1) := by decide +kernel
theorem dX5_measureOf_75 : decode cX5_measureOf 75 = .ok (.ireturn, 1) := by decide +kernel
theorem dX5_measureOf_76 : decode cX5_measureOf 76 = .ok (.iload_n 2, 1) := by decide +kernel
theorem dX5_measureOf_77 : decode cX5_measureOf 77 = .ok (.ifCond .lt 17, 3) := by decide +kernel
theorem dX5_measureOf_80 : decode cX5_measureOf 80 = .ok (.iload_n 2, 1) := by decide +kernel
theorem dX5_measureOf_81 : decode cX5_measureOf 81 = .ok (.aload_n 0, 1) := by decide +kernel
theorem dX5_measureOf_82 : decode cX5_measureOf 82 = .ok (.getfield 29, 3) := by decide +kernel
theorem dX5_measureOf_85 : decode cX5_measureOf 85 = .ok (.getfield 101, 3) := by decide +kernel
theorem dX5_measureOf_88 : decode cX5_measureOf 88 = .ok (.iload_n 1, 1) := by decide +kernel
theorem dX5_measureOf_89 : decode cX5_measureOf 89 = .ok (.iaload, 1) := by decide +kernel
theorem dX5_measureOf_90 : decode cX5_measureOf 90 = .ok (.isub, 1) := by decide +kernel
theorem dX5_measureOf_91 : decode cX5_measureOf 91 = .ok (.goto 4, 3) := by decide +kernel
theorem dX5_measureOf_94 : decode cX5_measureOf 94 = .ok (.iconst 0, 1) := by decide +kernel
theorem dX5_measureOf_95 : decode cX5_measureOf 95 = .ok (.ireturn, 1) := by decide +kernel
theorem dX5_holds_0 : decode cX5_holds 0 = .ok (.iload_n 1, 1) := by decide +kernel
theorem dX5_holds_1 : decode cX5_holds 1 = .ok (.aload_n 0, 1) := by decide +kernel
theorem dX5_holds_2 : decode cX5_holds 2 = .ok (.getfield 33, 3) := by decide +kernel
theorem dX5_holds_5 : decode cX5_holds 5 = .ok (.if_icmp .gt 5, 3) := by decide +kernel
theorem dX5_holds_8 : decode cX5_holds 8 = .ok (.iconst 1, 1) := by decide +kernel
theorem dX5_holds_9 : decode cX5_holds 9 = .ok (.ireturn, 1) := by decide +kernel
theorem dX5_holds_10 : decode cX5_holds 10 = .ok (.aload_n 0, 1) := by decide +kernel
theorem dX5_holds_11 : decode cX5_holds 11 = .ok (.aload_n 0, 1) := by decide +kernel
theorem dX5_holds_12 : decode cX5_holds 12 = .ok (.getfield 37, 3) := by decide +kernel
theorem dX5_holds_15 : decode cX5_holds 15 = .ok (.iload_n 1, 1) := by decide +kernel
theorem dX5_holds_16 : decode cX5_holds 16 = .ok (.invokestatic 104, 3) := by decide +kernel
theorem dX5_holds_19 : decode cX5_holds 19 = .ok (.putfield 37, 3) := by decide +kernel
theorem dX5_holds_22 : decode cX5_holds 22 = .ok (.iconst 0, 1) := by decide +kernel
theorem dX5_holds_23 : decode cX5_holds 23 = .ok (.ireturn, 1) := by decide +kernel
theorem dX5_admits_0 : decode cX5_admits 0 = .ok (.aload_n 0, 1) := by decide +kernel
theorem dX5_admits_1 : decode cX5_admits 1 = .ok (.getfield 29, 3) := by decide +kernel
theorem dX5_admits_4 : decode cX5_admits 4 = .ok (.getfield 64, 3) := by decide +kernel
theorem dX5_admits_7 : decode cX5_admits 7 = .ok (.iload_n 1, 1) := by decide +kernel
theorem dX5_admits_8 : decode cX5_admits 8 = .ok (.iaload, 1) := by decide +kernel
theorem dX5_admits_9 : decode cX5_admits 9 = .ok (.istore_n 3, 1) := by decide +kernel
theorem dX5_admits_10 : decode cX5_admits 10 = .ok (.aload_n 0, 1) := by decide +kernel
theorem dX5_admits_11 : decode cX5_admits 11 = .ok (.getfield 29, 3) := by decide +kernel
theorem dX5_admits_14 : decode cX5_admits 14 = .ok (.getfield 77, 3) := by decide +kernel
theorem dX5_admits_17 : decode cX5_admits 17 = .ok (.iload_n 1, 1) := by decide +kernel
theorem dX5_admits_18 : decode cX5_admits 18 = .ok (.iaload, 1) := by decide +kernel
theorem dX5_admits_19 : decode cX5_admits 19 = .ok (.istore 4, 2) := by decide +kernel
theorem dX5_admits_21 : decode cX5_admits 21 = .ok (.aload_n 0, 1) := by decide +kernel
theorem dX5_admits_22 : decode cX5_admits 22 = .ok (.iload 4, 2) := by decide +kernel
theorem dX5_admits_24 : decode cX5_admits 24 = .ok (.invokevirtual 110, 3) := by decide +kernel
theorem dX5_admits_27 : decode cX5_admits 27 = .ok (.ifCond .ne 5, 3) := by decide +kernel
theorem dX5_admits_30 : decode cX5_admits 30 = .ok (.iconst 0, 1) := by decide +kernel
theorem dX5_admits_31 : decode cX5_admits 31 = .ok (.ireturn, 1) := by decide +kernel
theorem dX5_admits_32 : decode cX5_admits 32 = .ok (.iload_n 2, 1) := by decide +kernel
theorem dX5_admits_33 : decode cX5_admits 33 = .ok (.tableswitch 121 1 4 #[31, 38, 46, 91], 31) := by decide +kernel
theorem dX5_admits_64 : decode cX5_admits 64 = .ok (.aload_n 0, 1) := by decide +kernel
theorem dX5_admits_65 : decode cX5_admits 65 = .ok (.iload 4, 2) := by decide +kernel
theorem dX5_admits_67 : decode cX5_admits 67 = .ok (.invokevirtual 113, 3) := by decide +kernel
theorem dX5_admits_70 : decode cX5_admits 70 = .ok (.ireturn, 1) := by decide +kernel
theorem dX5_admits_71 : decode cX5_admits 71 = .ok (.aload_n 0, 1) := by decide +kernel
theorem dX5_admits_72 : decode cX5_admits 72 = .ok (.iload_n 3, 1) := by decide +kernel
theorem dX5_admits_73 : decode cX5_admits 73 = .ok (.iload 4, 2) := by decide +kernel
theorem dX5_admits_75 : decode cX5_admits 75 = .ok (.invokevirtual 116, 3) := by decide +kernel
theorem dX5_admits_78 : decode cX5_admits 78 = .ok (.ireturn, 1) := by decide +kernel
theorem dX5_admits_79 : decode cX5_admits 79 = .ok (.aload_n 0, 1) := by decide +kernel
theorem dX5_admits_80 : decode cX5_admits 80 = .ok (.aload_n 0, 1) := by decide +kernel
theorem dX5_admits_81 : decode cX5_admits 81 = .ok (.getfield 21, 3) := by decide +kernel
theorem dX5_admits_84 : decode cX5_admits 84 = .ok (.getfield 119, 3) := by decide +kernel
theorem dX5_admits_87 : decode cX5_admits 87 = .ok (.iload 4, 2) := by decide +kernel
theorem dX5_admits_89 : decode cX5_admits 89 = .ok (.iadd, 1) := by decide +kernel
theorem dX5_admits_90 : decode cX5_admits 90 = .ok (.invokevirtual 110, 3) := by decide +kernel
theorem dX5_admits_93 : decode cX5_admits 93 = .ok (.ifCond .eq 29, 3) := by decide +kernel
theorem dX5_admits_96 : decode cX5_admits 96 = .ok (.aload_n 0, 1) := by decide +kernel
theorem dX5_admits_97 : decode cX5_admits 97 = .ok (.aload_n 0, 1) := by decide +kernel
theorem dX5_admits_98 : decode cX5_admits 98 = .ok (.getfield 21, 3) := by decide +kernel
theorem dX5_admits_101 : decode cX5_admits 101 = .ok (.getfield 119, 3) := by decide +kernel
theorem dX5_admits_104 : decode cX5_admits 104 = .ok (.aload_n 0, 1) := by decide +kernel
theorem dX5_admits_105 : decode cX5_admits 105 = .ok (.iload_n 3, 1) := by decide +kernel
theorem dX5_admits_106 : decode cX5_admits 106 = .ok (.iload 4, 2) := by decide +kernel
theorem dX5_admits_108 : decode cX5_admits 108 = .ok (.invokevirtual 122, 3) := by decide +kernel
theorem dX5_admits_111 : decode cX5_admits 111 = .ok (.iadd, 1) := by decide +kernel
theorem dX5_admits_112 : decode cX5_admits 112 = .ok (.invokevirtual 110, 3) := by decide +kernel
theorem dX5_admits_115 : decode cX5_admits 115 = .ok (.ifCond .eq 7, 3) := by decide +kernel
theorem dX5_admits_118 : decode cX5_admits 118 = .ok (.iconst 1, 1) := by decide +kernel
theorem dX5_admits_119 : decode cX5_admits 119 = .ok (.goto 4, 3) := by decide +kernel
theorem dX5_admits_122 : decode cX5_admits 122 = .ok (.iconst 0, 1) := by decide +kernel
theorem dX5_admits_123 : decode cX5_admits 123 = .ok (.ireturn, 1) := by decide +kernel
theorem dX5_admits_124 : decode cX5_admits 124 = .ok (.aload_n 0, 1) := by decide +kernel
theorem dX5_admits_125 : decode cX5_admits 125 = .ok (.aload_n 0, 1) := by decide +kernel
theorem dX5_admits_126 : decode cX5_admits 126 = .ok (.getfield 21, 3) := by decide +kernel
theorem dX5_admits_129 : decode cX5_admits 129 = .ok (.getfield 119, 3) := by decide +kernel
theorem dX5_admits_132 : decode cX5_admits 132 = .ok (.iload 4, 2) := by decide +kernel
theorem dX5_admits_134 : decode cX5_admits 134 = .ok (.iadd, 1) := by decide +kernel
theorem dX5_admits_135 : decode cX5_admits 135 = .ok (.invokevirtual 110, 3) := by decide +kernel
theorem dX5_admits_138 : decode cX5_admits 138 = .ok (.ifCond .eq 14, 3) := by decide +kernel
theorem dX5_admits_141 : decode cX5_admits 141 = .ok (.aload_n 0, 1) := by decide +kernel
theorem dX5_admits_142 : decode cX5_admits 142 = .ok (.invokevirtual 125, 3) := by decide +kernel
theorem dX5_admits_145 : decode cX5_admits 145 = .ok (.ifCond .ne 7, 3) := by decide +kernel
theorem dX5_admits_148 : decode cX5_admits 148 = .ok (.iconst 1, 1) := by decide +kernel
theorem dX5_admits_149 : decode cX5_admits 149 = .ok (.goto 4, 3) := by decide +kernel
theorem dX5_admits_152 : decode cX5_admits 152 = .ok (.iconst 0, 1) := by decide +kernel
theorem dX5_admits_153 : decode cX5_admits 153 = .ok (.ireturn, 1) := by decide +kernel
theorem dX5_admits_154 : decode cX5_admits 154 = .ok (.aload_n 0, 1) := by decide +kernel
theorem dX5_admits_155 : decode cX5_admits 155 = .ok (.aload_n 0, 1) := by decide +kernel
theorem dX5_admits_156 : decode cX5_admits 156 = .ok (.getfield 21, 3) := by decide +kernel
theorem dX5_admits_159 : decode cX5_admits 159 = .ok (.getfield 119, 3) := by decide +kernel
theorem dX5_admits_162 : decode cX5_admits 162 = .ok (.iload 4, 2) := by decide +kernel
theorem dX5_admits_164 : decode cX5_admits 164 = .ok (.iadd, 1) := by decide +kernel
theorem dX5_admits_165 : decode cX5_admits 165 = .ok (.invokevirtual 110, 3) := by decide +kernel
theorem dX5_admits_168 : decode cX5_admits 168 = .ok (.ireturn, 1) := by decide +kernel
theorem dX5_makesRoomAtHead_0 : decode cX5_makesRoomAtHead 0 = .ok (.iconst 0, 1) := by decide +kernel
theorem dX5_makesRoomAtHead_1 : decode cX5_makesRoomAtHead 1 = .ok (.istore_n 2, 1) := by decide +kernel
theorem dX5_makesRoomAtHead_2 : decode cX5_makesRoomAtHead 2 = .ok (.iload_n 2, 1) := by decide +kernel
theorem dX5_makesRoomAtHead_3 : decode cX5_makesRoomAtHead 3 = .ok (.bipush 40, 2) := by decide +kernel
theorem dX5_makesRoomAtHead_5 : decode cX5_makesRoomAtHead 5 = .ok (.if_icmp .gt 55, 3) := by decide +kernel
theorem dX5_makesRoomAtHead_8 : decode cX5_makesRoomAtHead 8 = .ok (.aload_n 0, 1) := by decide +kernel
theorem dX5_makesRoomAtHead_9 : decode cX5_makesRoomAtHead 9 = .ok (.aload_n 0, 1) := by decide +kernel
theorem dX5_makesRoomAtHead_10 : decode cX5_makesRoomAtHead 10 = .ok (.getfield 21, 3) := by decide +kernel
theorem dX5_makesRoomAtHead_13 : decode cX5_makesRoomAtHead 13 = .ok (.getfield 119, 3) := by decide +kernel
theorem dX5_makesRoomAtHead_16 : decode cX5_makesRoomAtHead 16 = .ok (.iload_n 1, 1) := by decide +kernel
theorem dX5_makesRoomAtHead_17 : decode cX5_makesRoomAtHead 17 = .ok (.iadd, 1) := by decide +kernel
theorem dX5_makesRoomAtHead_18 : decode cX5_makesRoomAtHead 18 = .ok (.invokevirtual 110, 3) := by decide +kernel
theorem dX5_makesRoomAtHead_21 : decode cX5_makesRoomAtHead 21 = .ok (.ifCond .ne 39, 3) := by decide +kernel
theorem dX5_makesRoomAtHead_24 : decode cX5_makesRoomAtHead 24 = .ok (.aload_n 0, 1) := by decide +kernel
theorem dX5_makesRoomAtHead_25 : decode cX5_makesRoomAtHead 25 = .ok (.getfield 21, 3) := by decide +kernel
theorem dX5_makesRoomAtHead_28 : decode cX5_makesRoomAtHead 28 = .ok (.invokevirtual 129, 3) := by decide +kernel
theorem dX5_makesRoomAtHead_31 : decode cX5_makesRoomAtHead 31 = .ok (.istore_n 3, 1) := by decide +kernel
theorem dX5_makesRoomAtHead_32 : decode cX5_makesRoomAtHead 32 = .ok (.iload_n 3, 1) := by decide +kernel
theorem dX5_makesRoomAtHead_33 : decode cX5_makesRoomAtHead 33 = .ok (.iconst (-1), 1) := by decide +kernel
theorem dX5_makesRoomAtHead_34 : decode cX5_makesRoomAtHead 34 = .ok (.if_icmp .ne 5, 3) := by decide +kernel
theorem dX5_makesRoomAtHead_37 : decode cX5_makesRoomAtHead 37 = .ok (.iconst 0, 1) := by decide +kernel
theorem dX5_makesRoomAtHead_38 : decode cX5_makesRoomAtHead 38 = .ok (.ireturn, 1) := by decide +kernel
theorem dX5_makesRoomAtHead_39 : decode cX5_makesRoomAtHead 39 = .ok (.aload_n 0, 1) := by decide +kernel
theorem dX5_makesRoomAtHead_40 : decode cX5_makesRoomAtHead 40 = .ok (.getfield 12, 3) := by decide +kernel
theorem dX5_makesRoomAtHead_43 : decode cX5_makesRoomAtHead 43 = .ok (.aload_n 0, 1) := by decide +kernel
theorem dX5_makesRoomAtHead_44 : decode cX5_makesRoomAtHead 44 = .ok (.getfield 21, 3) := by decide +kernel
theorem dX5_makesRoomAtHead_47 : decode cX5_makesRoomAtHead 47 = .ok (.iload_n 3, 1) := by decide +kernel
theorem dX5_makesRoomAtHead_48 : decode cX5_makesRoomAtHead 48 = .ok (.invokevirtual 133, 3) := by decide +kernel
theorem dX5_makesRoomAtHead_51 : decode cX5_makesRoomAtHead 51 = .ok (.invokevirtual 83, 3) := by decide +kernel
theorem dX5_makesRoomAtHead_54 : decode cX5_makesRoomAtHead 54 = .ok (.iinc 2 1, 3) := by decide +kernel
theorem dX5_makesRoomAtHead_57 : decode cX5_makesRoomAtHead 57 = .ok (.goto (-55), 3) := by decide +kernel
theorem dX5_makesRoomAtHead_60 : decode cX5_makesRoomAtHead 60 = .ok (.iconst 1, 1) := by decide +kernel
theorem dX5_makesRoomAtHead_61 : decode cX5_makesRoomAtHead 61 = .ok (.ireturn, 1) := by decide +kernel
theorem dX5_makesRoomInLongestFlow_0 : decode cX5_makesRoomInLongestFlow 0 = .ok (.iconst 0, 1) := by decide +kernel
theorem dX5_makesRoomInLongestFlow_1 : decode cX5_makesRoomInLongestFlow 1 = .ok (.istore_n 3, 1) := by decide +kernel
theorem dX5_makesRoomInLongestFlow_2 : decode cX5_makesRoomInLongestFlow 2 = .ok (.iload_n 3, 1) := by decide +kernel
theorem dX5_makesRoomInLongestFlow_3 : decode cX5_makesRoomInLongestFlow 3 = .ok (.bipush 40, 2) := by decide +kernel
theorem dX5_makesRoomInLongestFlow_5 : decode cX5_makesRoomInLongestFlow 5 = .ok (.if_icmp .gt 61, 3) := by decide +kernel
theorem dX5_makesRoomInLongestFlow_8 : decode cX5_makesRoomInLongestFlow 8 = .ok (.aload_n 0, 1) := by decide +kernel
theorem dX5_makesRoomInLongestFlow_9 : decode cX5_makesRoomInLongestFlow 9 = .ok (.aload_n 0, 1) := by decide +kernel
theorem dX5_makesRoomInLongestFlow_10 : decode cX5_makesRoomInLongestFlow 10 = .ok (.getfield 21, 3) := by decide +kernel
theorem dX5_makesRoomInLongestFlow_13 : decode cX5_makesRoomInLongestFlow 13 = .ok (.getfield 119, 3) := by decide +kernel
theorem dX5_makesRoomInLongestFlow_16 : decode cX5_makesRoomInLongestFlow 16 = .ok (.iload_n 2, 1) := by decide +kernel
theorem dX5_makesRoomInLongestFlow_17 : decode cX5_makesRoomInLongestFlow 17 = .ok (.iadd, 1) := by decide +kernel
theorem dX5_makesRoomInLongestFlow_18 : decode cX5_makesRoomInLongestFlow 18 = .ok (.invokevirtual 110, 3) := by decide +kernel
theorem dX5_makesRoomInLongestFlow_21 : decode cX5_makesRoomInLongestFlow 21 = .ok (.ifCond .ne 45, 3) := by decide +kernel
theorem dX5_makesRoomInLongestFlow_24 : decode cX5_makesRoomInLongestFlow 24 = .ok (.aload_n 0, 1) := by decide +kernel
theorem dX5_makesRoomInLongestFlow_25 : decode cX5_makesRoomInLongestFlow 25 = .ok (.iload_n 1, 1) := by decide +kernel
theorem dX5_makesRoomInLongestFlow_26 : decode cX5_makesRoomInLongestFlow 26 = .ok (.iload_n 2, 1) := by decide +kernel
theorem dX5_makesRoomInLongestFlow_27 : decode cX5_makesRoomInLongestFlow 27 = .ok (.invokevirtual 136, 3) := by decide +kernel
theorem dX5_makesRoomInLongestFlow_30 : decode cX5_makesRoomInLongestFlow 30 = .ok (.istore 4, 2) := by decide +kernel
theorem dX5_makesRoomInLongestFlow_32 : decode cX5_makesRoomInLongestFlow 32 = .ok (.iload 4, 2) := by decide +kernel
theorem dX5_makesRoomInLongestFlow_34 : decode cX5_makesRoomInLongestFlow 34 = .ok (.iload_n 1, 1) := by decide +kernel
theorem dX5_makesRoomInLongestFlow_35 : decode cX5_makesRoomInLongestFlow 35 = .ok (.if_icmp .ne 5, 3) := by decide +kernel
theorem dX5_makesRoomInLongestFlow_38 : decode cX5_makesRoomInLongestFlow 38 = .ok (.iconst 0, 1) := by decide +kernel
theorem dX5_makesRoomInLongestFlow_39 : decode cX5_makesRoomInLongestFlow 39 = .ok (.ireturn, 1) := by decide +kernel
theorem dX5_makesRoomInLongestFlow_40 : decode cX5_makesRoomInLongestFlow 40 = .ok (.aload_n 0, 1) := by decide +kernel
theorem dX5_makesRoomInLongestFlow_41 : decode cX5_makesRoomInLongestFlow 41 = .ok (.getfield 12, 3) := by decide +kernel
theorem dX5_makesRoomInLongestFlow_44 : decode cX5_makesRoomInLongestFlow 44 = .ok (.aload_n 0, 1) := by decide +kernel
theorem dX5_makesRoomInLongestFlow_45 : decode cX5_makesRoomInLongestFlow 45 = .ok (.getfield 21, 3) := by decide +kernel
theorem dX5_makesRoomInLongestFlow_48 : decode cX5_makesRoomInLongestFlow 48 = .ok (.aload_n 0, 1) := by decide +kernel
theorem dX5_makesRoomInLongestFlow_49 : decode cX5_makesRoomInLongestFlow 49 = .ok (.iload 4, 2) := by decide +kernel
theorem dX5_makesRoomInLongestFlow_51 : decode cX5_makesRoomInLongestFlow 51 = .ok (.invokevirtual 139, 3) := by decide +kernel
theorem dX5_makesRoomInLongestFlow_54 : decode cX5_makesRoomInLongestFlow 54 = .ok (.invokevirtual 133, 3) := by decide +kernel
theorem dX5_makesRoomInLongestFlow_57 : decode cX5_makesRoomInLongestFlow 57 = .ok (.invokevirtual 83, 3) := by decide +kernel
theorem dX5_makesRoomInLongestFlow_60 : decode cX5_makesRoomInLongestFlow 60 = .ok (.iinc 3 1, 3) := by decide +kernel
theorem dX5_makesRoomInLongestFlow_63 : decode cX5_makesRoomInLongestFlow 63 = .ok (.goto (-61), 3) := by decide +kernel
theorem dX5_makesRoomInLongestFlow_66 : decode cX5_makesRoomInLongestFlow 66 = .ok (.iconst 1, 1) := by decide +kernel
theorem dX5_makesRoomInLongestFlow_67 : decode cX5_makesRoomInLongestFlow 67 = .ok (.ireturn, 1) := by decide +kernel
theorem dX5_longestFlow_0 : decode cX5_longestFlow 0 = .ok (.iconst 0, 1) := by decide +kernel
theorem dX5_longestFlow_1 : decode cX5_longestFlow 1 = .ok (.istore_n 3, 1) := by decide +kernel
theorem dX5_longestFlow_2 : decode cX5_longestFlow 2 = .ok (.iload_n 3, 1) := by decide +kernel
theorem dX5_longestFlow_3 : decode cX5_longestFlow 3 = .ok (.bipush 6, 2) := by decide +kernel
theorem dX5_longestFlow_5 : decode cX5_longestFlow 5 = .ok (.if_icmp .ge 25, 3) := by decide +kernel
theorem dX5_longestFlow_8 : decode cX5_longestFlow 8 = .ok (.aload_n 0, 1) := by decide +kernel
theorem dX5_longestFlow_9 : decode cX5_longestFlow 9 = .ok (.getfield 25, 3) := by decide +kernel
theorem dX5_longestFlow_12 : decode cX5_longestFlow 12 = .ok (.iload_n 3, 1) := by decide +kernel
theorem dX5_longestFlow_13 : decode cX5_longestFlow 13 = .ok (.iload_n 3, 1) := by decide +kernel
theorem dX5_longestFlow_14 : decode cX5_longestFlow 14 = .ok (.iload_n 1, 1) := by decide +kernel
theorem dX5_longestFlow_15 : decode cX5_longestFlow 15 = .ok (.if_icmp .ne 7, 3) := by decide +kernel
theorem dX5_longestFlow_18 : decode cX5_longestFlow 18 = .ok (.iload_n 2, 1) := by decide +kernel
theorem dX5_longestFlow_19 : decode cX5_longestFlow 19 = .ok (.goto 4, 3) := by decide +kernel
theorem dX5_longestFlow_22 : decode cX5_longestFlow 22 = .ok (.iconst 0, 1) := by decide +kernel
theorem dX5_longestFlow_23 : decode cX5_longestFlow 23 = .ok (.iastore, 1) := by decide +kernel
theorem dX5_longestFlow_24 : decode cX5_longestFlow 24 = .ok (.iinc 3 1, 3) := by decide +kernel
theorem dX5_longestFlow_27 : decode cX5_longestFlow 27 = .ok (.goto (-25), 3) := by decide +kernel
theorem dX5_longestFlow_30 : decode cX5_longestFlow 30 = .ok (.iconst 0, 1) := by decide +kernel
theorem dX5_longestFlow_31 : decode cX5_longestFlow 31 = .ok (.istore_n 3, 1) := by decide +kernel
theorem dX5_longestFlow_32 : decode cX5_longestFlow 32 = .ok (.iload_n 3, 1) := by decide +kernel
theorem dX5_longestFlow_33 : decode cX5_longestFlow 33 = .ok (.aload_n 0, 1) := by decide +kernel
theorem dX5_longestFlow_34 : decode cX5_longestFlow 34 = .ok (.getfield 21, 3) := by decide +kernel
theorem dX5_longestFlow_37 : decode cX5_longestFlow 37 = .ok (.getfield 142, 3) := by decide +kernel
theorem dX5_longestFlow_40 : decode cX5_longestFlow 40 = .ok (.if_icmp .ge 60, 3) := by decide +kernel
theorem dX5_longestFlow_43 : decode cX5_longestFlow 43 = .ok (.aload_n 0, 1) := by decide +kernel
theorem dX5_longestFlow_44 : decode cX5_longestFlow 44 = .ok (.getfield 21, 3) := by decide +kernel
theorem dX5_longestFlow_47 : decode cX5_longestFlow 47 = .ok (.getfield 145, 3) := by decide +kernel
theorem dX5_longestFlow_50 : decode cX5_longestFlow 50 = .ok (.iload_n 3, 1) := by decide +kernel
theorem dX5_longestFlow_51 : decode cX5_longestFlow 51 = .ok (.iaload, 1) := by decide +kernel
theorem dX5_longestFlow_52 : decode cX5_longestFlow 52 = .ok (.istore 4, 2) := by decide +kernel
theorem dX5_longestFlow_54 : decode cX5_longestFlow 54 = .ok (.iload 4, 2) := by decide +kernel
theorem dX5_longestFlow_56 : decode cX5_longestFlow 56 = .ok (.aload_n 0, 1) := by decide +kernel
theorem dX5_longestFlow_57 : decode cX5_longestFlow 57 = .ok (.getfield 21, 3) := by decide +kernel
theorem dX5_longestFlow_60 : decode cX5_longestFlow 60 = .ok (.getfield 148, 3) := by decide +kernel
theorem dX5_longestFlow_63 : decode cX5_longestFlow 63 = .ok (.if_icmp .eq 31, 3) := by decide +kernel
theorem dX5_longestFlow_66 : decode cX5_longestFlow 66 = .ok (.aload_n 0, 1) := by decide +kernel
theorem dX5_longestFlow_67 : decode cX5_longestFlow 67 = .ok (.getfield 25, 3) := by decide +kernel
theorem dX5_longestFlow_70 : decode cX5_longestFlow 70 = .ok (.aload_n 0, 1) := by decide +kernel
theorem dX5_longestFlow_71 : decode cX5_longestFlow 71 = .ok (.getfield 29, 3) := by decide +kernel
theorem dX5_longestFlow_74 : decode cX5_longestFlow 74 = .ok (.getfield 64, 3) := by decide +kernel
theorem dX5_longestFlow_77 : decode cX5_longestFlow 77 = .ok (.iload 4, 2) := by decide +kernel
theorem dX5_longestFlow_79 : decode cX5_longestFlow 79 = .ok (.iaload, 1) := by decide +kernel
theorem dX5_longestFlow_80 : decode cX5_longestFlow 80 = .ok (.dup2, 1) := by decide +kernel
theorem dX5_longestFlow_81 : decode cX5_longestFlow 81 = .ok (.iaload, 1) := by decide +kernel
theorem dX5_longestFlow_82 : decode cX5_longestFlow 82 = .ok (.aload_n 0, 1) := by decide +kernel
theorem dX5_longestFlow_83 : decode cX5_longestFlow 83 = .ok (.getfield 29, 3) := by decide +kernel
theorem dX5_longestFlow_86 : decode cX5_longestFlow 86 = .ok (.getfield 77, 3) := by decide +kernel
theorem dX5_longestFlow_89 : decode cX5_longestFlow 89 = .ok (.iload 4, 2) := by decide +kernel
theorem dX5_longestFlow_91 : decode cX5_longestFlow 91 = .ok (.iaload, 1) := by decide +kernel
theorem dX5_longestFlow_92 : decode cX5_longestFlow 92 = .ok (.iadd, 1) := by decide +kernel
theorem dX5_longestFlow_93 : decode cX5_longestFlow 93 = .ok (.iastore, 1) := by decide +kernel
theorem dX5_longestFlow_94 : decode cX5_longestFlow 94 = .ok (.iinc 3 1, 3) := by decide +kernel
theorem dX5_longestFlow_97 : decode cX5_longestFlow 97 = .ok (.goto (-65), 3) := by decide +kernel
theorem dX5_longestFlow_100 : decode cX5_longestFlow 100 = .ok (.iconst 0, 1) := by decide +kernel
theorem dX5_longestFlow_101 : decode cX5_longestFlow 101 = .ok (.istore_n 3, 1) := by decide +kernel
theorem dX5_longestFlow_102 : decode cX5_longestFlow 102 = .ok (.iconst 1, 1) := by decide +kernel
theorem dX5_longestFlow_103 : decode cX5_longestFlow 103 = .ok (.istore 4, 2) := by decide +kernel
theorem dX5_longestFlow_105 : decode cX5_longestFlow 105 = .ok (.iload 4, 2) := by decide +kernel
theorem dX5_longestFlow_107 : decode cX5_longestFlow 107 = .ok (.bipush 6, 2) := by decide +kernel
theorem dX5_longestFlow_109 : decode cX5_longestFlow 109 = .ok (.if_icmp .ge 28, 3) := by decide +kernel
theorem dX5_longestFlow_112 : decode cX5_longestFlow 112 = .ok (.aload_n 0, 1) := by decide +kernel
theorem dX5_longestFlow_113 : decode cX5_longestFlow 113 = .ok (.getfield 25, 3) := by decide +kernel
theorem dX5_longestFlow_116 : decode cX5_longestFlow 116 = .ok (.iload 4, 2) := by decide +kernel
theorem dX5_longestFlow_118 : decode cX5_longestFlow 118 = .ok (.iaload, 1) := by decide +kernel
theorem dX5_longestFlow_119 : decode cX5_longestFlow 119 = .ok (.aload_n 0, 1) := by decide +kernel
theorem dX5_longestFlow_120 : decode cX5_longestFlow 120 = .ok (.getfield 25, 3) := by decide +kernel
theorem dX5_longestFlow_123 : decode cX5_longestFlow 123 = .ok (.iload_n 3, 1) := by decide +kernel
theorem dX5_longestFlow_124 : decode cX5_longestFlow 124 = .ok (.iaload, 1) := by decide +kernel
theorem dX5_longestFlow_125 : decode cX5_longestFlow 125 = .ok (.if_icmp .le 6, 3) := by decide +kernel
theorem dX5_longestFlow_128 : decode cX5_longestFlow 128 = .ok (.iload 4, 2) := by decide +kernel
theorem dX5_longestFlow_130 : decode cX5_longestFlow 130 = .ok (.istore_n 3, 1) := by decide +kernel
theorem dX5_longestFlow_131 : decode cX5_longestFlow 131 = .ok (.iinc 4 1, 3) := by decide +kernel
theorem dX5_longestFlow_134 : decode cX5_longestFlow 134 = .ok (.goto (-29), 3) := by decide +kernel
theorem dX5_longestFlow_137 : decode cX5_longestFlow 137 = .ok (.iload_n 3, 1) := by decide +kernel
theorem dX5_longestFlow_138 : decode cX5_longestFlow 138 = .ok (.ireturn, 1) := by decide +kernel
theorem dX5_lastNotBegunOf_0 : decode cX5_lastNotBegunOf 0 = .ok (.aload_n 0, 1) := by decide +kernel
theorem dX5_lastNotBegunOf_1 : decode cX5_lastNotBegunOf 1 = .ok (.getfield 21, 3) := by decide +kernel
theorem dX5_lastNotBegunOf_4 : decode cX5_lastNotBegunOf 4 = .ok (.getfield 142, 3) := by decide +kernel
theorem dX5_lastNotBegunOf_7 : decode cX5_lastNotBegunOf 7 = .ok (.iconst 1, 1) := by decide +kernel
theorem dX5_lastNotBegunOf_8 : decode cX5_lastNotBegunOf 8 = .ok (.isub, 1) := by decide +kernel
theorem dX5_lastNotBegunOf_9 : decode cX5_lastNotBegunOf 9 = .ok (.istore_n 2, 1) := by decide +kernel
theorem dX5_lastNotBegunOf_10 : decode cX5_lastNotBegunOf 10 = .ok (.iload_n 2, 1) := by decide +kernel
theorem dX5_lastNotBegunOf_11 : decode cX5_lastNotBegunOf 11 = .ok (.ifCond .lt 45, 3) := by decide +kernel
theorem dX5_lastNotBegunOf_14 : decode cX5_lastNotBegunOf 14 = .ok (.aload_n 0, 1) := by decide +kernel
theorem dX5_lastNotBegunOf_15 : decode cX5_lastNotBegunOf 15 = .ok (.getfield 21, 3) := by decide +kernel
theorem dX5_lastNotBegunOf_18 : decode cX5_lastNotBegunOf 18 = .ok (.getfield 145, 3) := by decide +kernel
theorem dX5_lastNotBegunOf_21 : decode cX5_lastNotBegunOf 21 = .ok (.iload_n 2, 1) := by decide +kernel
theorem dX5_lastNotBegunOf_22 : decode cX5_lastNotBegunOf 22 = .ok (.iaload, 1) := by decide +kernel
theorem dX5_lastNotBegunOf_23 : decode cX5_lastNotBegunOf 23 = .ok (.istore_n 3, 1) := by decide +kernel
theorem dX5_lastNotBegunOf_24 : decode cX5_lastNotBegunOf 24 = .ok (.iload_n 3, 1) := by decide +kernel
theorem dX5_lastNotBegunOf_25 : decode cX5_lastNotBegunOf 25 = .ok (.aload_n 0, 1) := by decide +kernel
theorem dX5_lastNotBegunOf_26 : decode cX5_lastNotBegunOf 26 = .ok (.getfield 21, 3) := by decide +kernel
theorem dX5_lastNotBegunOf_29 : decode cX5_lastNotBegunOf 29 = .ok (.getfield 148, 3) := by decide +kernel
theorem dX5_lastNotBegunOf_32 : decode cX5_lastNotBegunOf 32 = .ok (.if_icmp .eq 18, 3) := by decide +kernel
theorem dX5_lastNotBegunOf_35 : decode cX5_lastNotBegunOf 35 = .ok (.aload_n 0, 1) := by decide +kernel
theorem dX5_lastNotBegunOf_36 : decode cX5_lastNotBegunOf 36 = .ok (.getfield 29, 3) := by decide +kernel
theorem dX5_lastNotBegunOf_39 : decode cX5_lastNotBegunOf 39 = .ok (.getfield 64, 3) := by decide +kernel
theorem dX5_lastNotBegunOf_42 : decode cX5_lastNotBegunOf 42 = .ok (.iload_n 3, 1) := by decide +kernel
theorem dX5_lastNotBegunOf_43 : decode cX5_lastNotBegunOf 43 = .ok (.iaload, 1) := by decide +kernel
theorem dX5_lastNotBegunOf_44 : decode cX5_lastNotBegunOf 44 = .ok (.iload_n 1, 1) := by decide +kernel
theorem dX5_lastNotBegunOf_45 : decode cX5_lastNotBegunOf 45 = .ok (.if_icmp .ne 5, 3) := by decide +kernel
theorem dX5_lastNotBegunOf_48 : decode cX5_lastNotBegunOf 48 = .ok (.iload_n 2, 1) := by decide +kernel
theorem dX5_lastNotBegunOf_49 : decode cX5_lastNotBegunOf 49 = .ok (.ireturn, 1) := by decide +kernel
theorem dX5_lastNotBegunOf_50 : decode cX5_lastNotBegunOf 50 = .ok (.iinc 2 (-1), 3) := by decide +kernel
theorem dX5_lastNotBegunOf_53 : decode cX5_lastNotBegunOf 53 = .ok (.goto (-43), 3) := by decide +kernel
theorem dX5_lastNotBegunOf_56 : decode cX5_lastNotBegunOf 56 = .ok (.iconst (-1), 1) := by decide +kernel
theorem dX5_lastNotBegunOf_57 : decode cX5_lastNotBegunOf 57 = .ok (.ireturn, 1) := by decide +kernel
theorem dX5_bytesForThreshold_0 : decode cX5_bytesForThreshold 0 = .ok (.iload_n 2, 1) := by decide +kernel
theorem dX5_bytesForThreshold_1 : decode cX5_bytesForThreshold 1 = .ok (.istore_n 3, 1) := by decide +kernel
theorem dX5_bytesForThreshold_2 : decode cX5_bytesForThreshold 2 = .ok (.iconst 0, 1) := by decide +kernel
theorem dX5_bytesForThreshold_3 : decode cX5_bytesForThreshold 3 = .ok (.istore 4, 2) := by decide +kernel
theorem dX5_bytesForThreshold_5 : decode cX5_bytesForThreshold 5 = .ok (.iload 4, 2) := by decide +kernel
theorem dX5_bytesForThreshold_7 : decode cX5_bytesForThreshold 7 = .ok (.aload_n 0, 1) := by decide +kernel
theorem dX5_bytesForThreshold_8 : decode cX5_bytesForThreshold 8 = .ok (.getfield 21, 3) := by decide +kernel
theorem dX5_bytesForThreshold_11 : decode cX5_bytesForThreshold 11 = .ok (.getfield 142, 3) := by decide +kernel
theorem dX5_bytesForThreshold_14 : decode cX5_bytesForThreshold 14 = .ok (.if_icmp .ge 48, 3) := by decide +kernel
theorem dX5_bytesForThreshold_17 : decode cX5_bytesForThreshold 17 = .ok (.aload_n 0, 1) := by decide +kernel
theorem dX5_bytesForThreshold_18 : decode cX5_bytesForThreshold 18 = .ok (.getfield 21, 3) := by decide +kernel
theorem dX5_bytesForThreshold_21 : decode cX5_bytesForThreshold 21 = .ok (.getfield 145, 3) := by decide +kernel
theorem dX5_bytesForThreshold_24 : decode cX5_bytesForThreshold 24 = .ok (.iload 4, 2) := by decide +kernel
theorem dX5_bytesForThreshold_26 : decode cX5_bytesForThreshold 26 = .ok (.iaload, 1) := by decide +kernel
theorem dX5_bytesForThreshold_27 : decode cX5_bytesForThreshold 27 = .ok (.istore 5, 2) := by decide +kernel
theorem dX5_bytesForThreshold_29 : decode cX5_bytesForThreshold 29 = .ok (.aload_n 0, 1) := by decide +kernel
theorem dX5_bytesForThreshold_30 : decode cX5_bytesForThreshold 30 = .ok (.getfield 29, 3) := by decide +kernel
theorem dX5_bytesForThreshold_33 : decode cX5_bytesForThreshold 33 = .ok (.getfield 64, 3) := by decide +kernel
theorem dX5_bytesForThreshold_36 : decode cX5_bytesForThreshold 36 = .ok (.iload 5, 2) := by decide +kernel
theorem dX5_bytesForThreshold_38 : decode cX5_bytesForThreshold 38 = .ok (.iaload, 1) := by decide +kernel
theorem dX5_bytesForThreshold_39 : decode cX5_bytesForThreshold 39 = .ok (.iload_n 1, 1) := by decide +kernel
theorem dX5_bytesForThreshold_40 : decode cX5_bytesForThreshold 40 = .ok (.if_icmp .ne 16, 3) := by decide +kernel
theorem dX5_bytesForThreshold_43 : decode cX5_bytesForThreshold 43 = .ok (.iload_n 3, 1) := by decide +kernel
theorem dX5_bytesForThreshold_44 : decode cX5_bytesForThreshold 44 = .ok (.aload_n 0, 1) := by decide +kernel
theorem dX5_bytesForThreshold_45 : decode cX5_bytesForThreshold 45 = .ok (.getfield 21, 3) := by decide +kernel
theorem dX5_bytesForThreshold_48 : decode cX5_bytesForThreshold 48 = .ok (.getfield 151, 3) := by decide +kernel
theorem dX5_bytesForThreshold_51 : decode cX5_bytesForThreshold 51 = .ok (.iload 5, 2) := by decide +kernel
theorem dX5_bytesForThreshold_53 : decode cX5_bytesForThreshold 53 = .ok (.iaload, 1) := by decide +kernel
theorem dX5_bytesForThreshold_54 : decode cX5_bytesForThreshold 54 = .ok (.iadd, 1) := by decide +kernel
theorem dX5_bytesForThreshold_55 : decode cX5_bytesForThreshold 55 = .ok (.istore_n 3, 1) := by decide +kernel
theorem dX5_bytesForThreshold_56 : decode cX5_bytesForThreshold 56 = .ok (.iinc 4 1, 3) := by decide +kernel
theorem dX5_bytesForThreshold_59 : decode cX5_bytesForThreshold 59 = .ok (.goto (-54), 3) := by decide +kernel
theorem dX5_bytesForThreshold_62 : decode cX5_bytesForThreshold 62 = .ok (.aload_n 0, 1) := by decide +kernel
theorem dX5_bytesForThreshold_63 : decode cX5_bytesForThreshold 63 = .ok (.getfield 29, 3) := by decide +kernel
theorem dX5_bytesForThreshold_66 : decode cX5_bytesForThreshold 66 = .ok (.getfield 40, 3) := by decide +kernel
theorem dX5_bytesForThreshold_69 : decode cX5_bytesForThreshold 69 = .ok (.iconst 4, 1) := by decide +kernel
theorem dX5_bytesForThreshold_70 : decode cX5_bytesForThreshold 70 = .ok (.iaload, 1) := by decide +kernel
theorem dX5_bytesForThreshold_71 : decode cX5_bytesForThreshold 71 = .ok (.istore 4, 2) := by decide +kernel
theorem dX5_bytesForThreshold_73 : decode cX5_bytesForThreshold 73 = .ok (.iconst 4, 1) := by decide +kernel
theorem dX5_bytesForThreshold_74 : decode cX5_bytesForThreshold 74 = .ok (.iload_n 3, 1) := by decide +kernel
theorem dX5_bytesForThreshold_75 : decode cX5_bytesForThreshold 75 = .ok (.imul, 1) := by decide +kernel
theorem dX5_bytesForThreshold_76 : decode cX5_bytesForThreshold 76 = .ok (.iload 4, 2) := by decide +kernel
theorem dX5_bytesForThreshold_78 : decode cX5_bytesForThreshold 78 = .ok (.iadd, 1) := by decide +kernel
theorem dX5_bytesForThreshold_79 : decode cX5_bytesForThreshold 79 = .ok (.iconst 1, 1) := by decide +kernel
theorem dX5_bytesForThreshold_80 : decode cX5_bytesForThreshold 80 = .ok (.isub, 1) := by decide +kernel
theorem dX5_bytesForThreshold_81 : decode cX5_bytesForThreshold 81 = .ok (.iload 4, 2) := by decide +kernel
theorem dX5_bytesForThreshold_83 : decode cX5_bytesForThreshold 83 = .ok (.invokestatic 154, 3) := by decide +kernel
theorem dX5_bytesForThreshold_86 : decode cX5_bytesForThreshold 86 = .ok (.ireturn, 1) := by decide +kernel
theorem dX5_isDroppedEarly_0 : decode cX5_isDroppedEarly 0 = .ok (.aload_n 0, 1) := by decide +kernel
theorem dX5_isDroppedEarly_1 : decode cX5_isDroppedEarly 1 = .ok (.getfield 21, 3) := by decide +kernel
theorem dX5_isDroppedEarly_4 : decode cX5_isDroppedEarly 4 = .ok (.getfield 119, 3) := by decide +kernel
theorem dX5_isDroppedEarly_7 : decode cX5_isDroppedEarly 7 = .ok (.aload_n 0, 1) := by decide +kernel
theorem dX5_isDroppedEarly_8 : decode cX5_isDroppedEarly 8 = .ok (.getfield 29, 3) := by decide +kernel
theorem dX5_isDroppedEarly_11 : decode cX5_isDroppedEarly 11 = .ok (.getfield 40, 3) := by decide +kernel
theorem dX5_isDroppedEarly_14 : decode cX5_isDroppedEarly 14 = .ok (.iconst 5, 1) := by decide +kernel
theorem dX5_isDroppedEarly_15 : decode cX5_isDroppedEarly 15 = .ok (.iaload, 1) := by decide +kernel
theorem dX5_isDroppedEarly_16 : decode cX5_isDroppedEarly 16 = .ok (.if_icmp .ge 5, 3) := by decide +kernel
theorem dX5_isDroppedEarly_19 : decode cX5_isDroppedEarly 19 = .ok (.iconst 0, 1) := by decide +kernel
theorem dX5_isDroppedEarly_20 : decode cX5_isDroppedEarly 20 = .ok (.ireturn, 1) := by decide +kernel
theorem dX5_isDroppedEarly_21 : decode cX5_isDroppedEarly 21 = .ok (.aload_n 0, 1) := by decide +kernel
theorem dX5_isDroppedEarly_22 : decode cX5_isDroppedEarly 22 = .ok (.dup, 1) := by decide +kernel
theorem dX5_isDroppedEarly_23 : decode cX5_isDroppedEarly 23 = .ok (.getfield 48, 3) := by decide +kernel
theorem dX5_isDroppedEarly_26 : decode cX5_isDroppedEarly 26 = .ok (.iconst 1, 1) := by decide +kernel
theorem dX5_isDroppedEarly_27 : decode cX5_isDroppedEarly 27 = .ok (.iadd, 1) := by decide +kernel
theorem dX5_isDroppedEarly_28 : decode cX5_isDroppedEarly 28 = .ok (.putfield 48, 3) := by decide +kernel
theorem dX5_isDroppedEarly_31 : decode cX5_isDroppedEarly 31 = .ok (.aload_n 0, 1) := by decide +kernel
theorem dX5_isDroppedEarly_32 : decode cX5_isDroppedEarly 32 = .ok (.getfield 48, 3) := by decide +kernel
theorem dX5_isDroppedEarly_35 : decode cX5_isDroppedEarly 35 = .ok (.aload_n 0, 1) := by decide +kernel
theorem dX5_isDroppedEarly_36 : decode cX5_isDroppedEarly 36 = .ok (.getfield 29, 3) := by decide +kernel
theorem dX5_isDroppedEarly_39 : decode cX5_isDroppedEarly 39 = .ok (.getfield 40, 3) := by decide +kernel
theorem dX5_isDroppedEarly_42 : decode cX5_isDroppedEarly 42 = .ok (.bipush 6, 2) := by decide +kernel
theorem dX5_isDroppedEarly_44 : decode cX5_isDroppedEarly 44 = .ok (.iaload, 1) := by decide +kernel
theorem dX5_isDroppedEarly_45 : decode cX5_isDroppedEarly 45 = .ok (.if_icmp .ge 5, 3) := by decide +kernel
theorem dX5_isDroppedEarly_48 : decode cX5_isDroppedEarly 48 = .ok (.iconst 0, 1) := by decide +kernel
theorem dX5_isDroppedEarly_49 : decode cX5_isDroppedEarly 49 = .ok (.ireturn, 1) := by decide +kernel
theorem dX5_isDroppedEarly_50 : decode cX5_isDroppedEarly 50 = .ok (.aload_n 0, 1) := by decide +kernel
theorem dX5_isDroppedEarly_51 : decode cX5_isDroppedEarly 51 = .ok (.iconst 0, 1) := by decide +kernel
theorem dX5_isDroppedEarly_52 : decode cX5_isDroppedEarly 52 = .ok (.putfield 48, 3) := by decide +kernel
theorem dX5_isDroppedEarly_55 : decode cX5_isDroppedEarly 55 = .ok (.iconst 1, 1) := by decide +kernel
theorem dX5_isDroppedEarly_56 : decode cX5_isDroppedEarly 56 = .ok (.ireturn, 1) := by decide +kernel
theorem dX5_isLastOfItsTick_0 : decode cX5_isLastOfItsTick 0 = .ok (.iload_n 1, 1) := by decide +kernel
theorem dX5_isLastOfItsTick_1 : decode cX5_isLastOfItsTick 1 = .ok (.iconst 1, 1) := by decide +kernel
theorem dX5_isLastOfItsTick_2 : decode cX5_isLastOfItsTick 2 = .ok (.iadd, 1) := by decide +kernel
theorem dX5_isLastOfItsTick_3 : decode cX5_isLastOfItsTick 3 = .ok (.aload_n 0, 1) := by decide +kernel
theorem dX5_isLastOfItsTick_4 : decode cX5_isLastOfItsTick 4 = .ok (.getfield 29, 3) := by decide +kernel
theorem dX5_isLastOfItsTick_7 : decode cX5_isLastOfItsTick 7 = .ok (.getfield 57, 3) := by decide +kernel
theorem dX5_isLastOfItsTick_10 : decode cX5_isLastOfItsTick 10 = .ok (.if_icmp .ge 26, 3) := by decide +kernel
theorem dX5_isLastOfItsTick_13 : decode cX5_isLastOfItsTick 13 = .ok (.aload_n 0, 1) := by decide +kernel
theorem dX5_isLastOfItsTick_14 : decode cX5_isLastOfItsTick 14 = .ok (.getfield 29, 3) := by decide +kernel
theorem dX5_isLastOfItsTick_17 : decode cX5_isLastOfItsTick 17 = .ok (.getfield 101, 3) := by decide +kernel
theorem dX5_isLastOfItsTick_20 : decode cX5_isLastOfItsTick 20 = .ok (.iload_n 1, 1) := by decide +kernel
theorem dX5_isLastOfItsTick_21 : decode cX5_isLastOfItsTick 21 = .ok (.iconst 1, 1) := by decide +kernel
theorem dX5_isLastOfItsTick_22 : decode cX5_isLastOfItsTick 22 = .ok (.iadd, 1) := by decide +kernel
theorem dX5_isLastOfItsTick_23 : decode cX5_isLastOfItsTick 23 = .ok (.iaload, 1) := by decide +kernel
theorem dX5_isLastOfItsTick_24 : decode cX5_isLastOfItsTick 24 = .ok (.aload_n 0, 1) := by decide +kernel
theorem dX5_isLastOfItsTick_25 : decode cX5_isLastOfItsTick 25 = .ok (.getfield 29, 3) := by decide +kernel
theorem dX5_isLastOfItsTick_28 : decode cX5_isLastOfItsTick 28 = .ok (.getfield 101, 3) := by decide +kernel
theorem dX5_isLastOfItsTick_31 : decode cX5_isLastOfItsTick 31 = .ok (.iload_n 1, 1) := by decide +kernel
theorem dX5_isLastOfItsTick_32 : decode cX5_isLastOfItsTick 32 = .ok (.iaload, 1) := by decide +kernel
theorem dX5_isLastOfItsTick_33 : decode cX5_isLastOfItsTick 33 = .ok (.if_icmp .le 7, 3) := by decide +kernel
theorem dX5_isLastOfItsTick_36 : decode cX5_isLastOfItsTick 36 = .ok (.iconst 1, 1) := by decide +kernel
theorem dX5_isLastOfItsTick_37 : decode cX5_isLastOfItsTick 37 = .ok (.goto 4, 3) := by decide +kernel
theorem dX5_isLastOfItsTick_40 : decode cX5_isLastOfItsTick 40 = .ok (.iconst 0, 1) := by decide +kernel
theorem dX5_isLastOfItsTick_41 : decode cX5_isLastOfItsTick 41 = .ok (.ireturn, 1) := by decide +kernel
theorem dX5_bytesUntilNext_0 : decode cX5_bytesUntilNext 0 = .ok (.iload_n 1, 1) := by decide +kernel
theorem dX5_bytesUntilNext_1 : decode cX5_bytesUntilNext 1 = .ok (.iconst 1, 1) := by decide +kernel
theorem dX5_bytesUntilNext_2 : decode cX5_bytesUntilNext 2 = .ok (.iadd, 1) := by decide +kernel
theorem dX5_bytesUntilNext_3 : decode cX5_bytesUntilNext 3 = .ok (.aload_n 0, 1) := by decide +kernel
theorem dX5_bytesUntilNext_4 : decode cX5_bytesUntilNext 4 = .ok (.getfield 29, 3) := by decide +kernel
theorem dX5_bytesUntilNext_7 : decode cX5_bytesUntilNext 7 = .ok (.getfield 57, 3) := by decide +kernel
theorem dX5_bytesUntilNext_10 : decode cX5_bytesUntilNext 10 = .ok (.if_icmp .lt 11, 3) := by decide +kernel
theorem dX5_bytesUntilNext_13 : decode cX5_bytesUntilNext 13 = .ok (.aload_n 0, 1) := by decide +kernel
theorem dX5_bytesUntilNext_14 : decode cX5_bytesUntilNext 14 = .ok (.getfield 21, 3) := by decide +kernel
theorem dX5_bytesUntilNext_17 : decode cX5_bytesUntilNext 17 = .ok (.getfield 119, 3) := by decide +kernel
theorem dX5_bytesUntilNext_20 : decode cX5_bytesUntilNext 20 = .ok (.ireturn, 1) := by decide +kernel
theorem dX5_bytesUntilNext_21 : decode cX5_bytesUntilNext 21 = .ok (.aload_n 0, 1) := by decide +kernel
theorem dX5_bytesUntilNext_22 : decode cX5_bytesUntilNext 22 = .ok (.getfield 21, 3) := by decide +kernel
theorem dX5_bytesUntilNext_25 : decode cX5_bytesUntilNext 25 = .ok (.getfield 119, 3) := by decide +kernel
theorem dX5_bytesUntilNext_28 : decode cX5_bytesUntilNext 28 = .ok (.aload_n 0, 1) := by decide +kernel
theorem dX5_bytesUntilNext_29 : decode cX5_bytesUntilNext 29 = .ok (.getfield 45, 3) := by decide +kernel
theorem dX5_bytesUntilNext_32 : decode cX5_bytesUntilNext 32 = .ok (.aload_n 0, 1) := by decide +kernel
theorem dX5_bytesUntilNext_33 : decode cX5_bytesUntilNext 33 = .ok (.getfield 29, 3) := by decide +kernel
theorem dX5_bytesUntilNext_36 : decode cX5_bytesUntilNext 36 = .ok (.getfield 101, 3) := by decide +kernel
theorem dX5_bytesUntilNext_39 : decode cX5_bytesUntilNext 39 = .ok (.iload_n 1, 1) := by decide +kernel
theorem dX5_bytesUntilNext_40 : decode cX5_bytesUntilNext 40 = .ok (.iconst 1, 1) := by decide +kernel
theorem dX5_bytesUntilNext_41 : decode cX5_bytesUntilNext 41 = .ok (.iadd, 1) := by decide +kernel
theorem dX5_bytesUntilNext_42 : decode cX5_bytesUntilNext 42 = .ok (.iaload, 1) := by decide +kernel
theorem dX5_bytesUntilNext_43 : decode cX5_bytesUntilNext 43 = .ok (.aload_n 0, 1) := by decide +kernel
theorem dX5_bytesUntilNext_44 : decode cX5_bytesUntilNext 44 = .ok (.getfield 29, 3) := by decide +kernel
theorem dX5_bytesUntilNext_47 : decode cX5_bytesUntilNext 47 = .ok (.getfield 101, 3) := by decide +kernel
theorem dX5_bytesUntilNext_50 : decode cX5_bytesUntilNext 50 = .ok (.iload_n 1, 1) := by decide +kernel
theorem dX5_bytesUntilNext_51 : decode cX5_bytesUntilNext 51 = .ok (.iaload, 1) := by decide +kernel
theorem dX5_bytesUntilNext_52 : decode cX5_bytesUntilNext 52 = .ok (.isub, 1) := by decide +kernel
theorem dX5_bytesUntilNext_53 : decode cX5_bytesUntilNext 53 = .ok (.imul, 1) := by decide +kernel
theorem dX5_bytesUntilNext_54 : decode cX5_bytesUntilNext 54 = .ok (.invokestatic 104, 3) := by decide +kernel
theorem dX5_bytesUntilNext_57 : decode cX5_bytesUntilNext 57 = .ok (.ireturn, 1) := by decide +kernel
theorem dX5_serveBehind_0 : decode cX5_serveBehind 0 = .ok (.aload_n 0, 1) := by decide +kernel
theorem dX5_serveBehind_1 : decode cX5_serveBehind 1 = .ok (.getfield 29, 3) := by decide +kernel
theorem dX5_serveBehind_4 : decode cX5_serveBehind 4 = .ok (.getfield 101, 3) := by decide +kernel
theorem dX5_serveBehind_7 : decode cX5_serveBehind 7 = .ok (.iload_n 1, 1) := by decide +kernel
theorem dX5_serveBehind_8 : decode cX5_serveBehind 8 = .ok (.iaload, 1) := by decide +kernel
theorem dX5_serveBehind_9 : decode cX5_serveBehind 9 = .ok (.istore_n 2, 1) := by decide +kernel
theorem dX5_serveBehind_10 : decode cX5_serveBehind 10 = .ok (.aload_n 0, 1) := by decide +kernel
theorem dX5_serveBehind_11 : decode cX5_serveBehind 11 = .ok (.iload_n 1, 1) := by decide +kernel
theorem dX5_serveBehind_12 : decode cX5_serveBehind 12 = .ok (.invokevirtual 157, 3) := by decide +kernel
theorem dX5_serveBehind_15 : decode cX5_serveBehind 15 = .ok (.istore_n 3, 1) := by decide +kernel
theorem dX5_serveBehind_16 : decode cX5_serveBehind 16 = .ok (.aload_n 0, 1) := by decide +kernel
theorem dX5_serveBehind_17 : decode cX5_serveBehind 17 = .ok (.getfield 12, 3) := by decide +kernel
theorem dX5_serveBehind_20 : decode cX5_serveBehind 20 = .ok (.iload_n 2, 1) := by decide +kernel
theorem dX5_serveBehind_21 : decode cX5_serveBehind 21 = .ok (.iconst 0, 1) := by decide +kernel
theorem dX5_serveBehind_22 : decode cX5_serveBehind 22 = .ok (.aload_n 0, 1) := by decide +kernel
theorem dX5_serveBehind_23 : decode cX5_serveBehind 23 = .ok (.getfield 21, 3) := by decide +kernel
theorem dX5_serveBehind_26 : decode cX5_serveBehind 26 = .ok (.getfield 119, 3) := by decide +kernel
theorem dX5_serveBehind_29 : decode cX5_serveBehind 29 = .ok (.aload_n 0, 1) := by decide +kernel
theorem dX5_serveBehind_30 : decode cX5_serveBehind 30 = .ok (.getfield 45, 3) := by decide +kernel
theorem dX5_serveBehind_33 : decode cX5_serveBehind 33 = .ok (.isub, 1) := by decide +kernel
theorem dX5_serveBehind_34 : decode cX5_serveBehind 34 = .ok (.invokestatic 160, 3) := by decide +kernel
theorem dX5_serveBehind_37 : decode cX5_serveBehind 37 = .ok (.invokevirtual 163, 3) := by decide +kernel
theorem dX5_serveBehind_40 : decode cX5_serveBehind 40 = .ok (.iconst 0, 1) := by decide +kernel
theorem dX5_serveBehind_41 : decode cX5_serveBehind 41 = .ok (.istore 4, 2) := by decide +kernel
theorem dX5_serveBehind_43 : decode cX5_serveBehind 43 = .ok (.iconst 0, 1) := by decide +kernel
theorem dX5_serveBehind_44 : decode cX5_serveBehind 44 = .ok (.istore 5, 2) := by decide +kernel
theorem dX5_serveBehind_46 : decode cX5_serveBehind 46 = .ok (.iload 5, 2) := by decide +kernel
theorem dX5_serveBehind_48 : decode cX5_serveBehind 48 = .ok (.bipush 40, 2) := by decide +kernel
theorem dX5_serveBehind_50 : decode cX5_serveBehind 50 = .ok (.if_icmp .ge 103, 3) := by decide +kernel
theorem dX5_serveBehind_53 : decode cX5_serveBehind 53 = .ok (.iload 4, 2) := by decide +kernel
theorem dX5_serveBehind_55 : decode cX5_serveBehind 55 = .ok (.iload_n 3, 1) := by decide +kernel
theorem dX5_serveBehind_56 : decode cX5_serveBehind 56 = .ok (.if_icmp .ge 97, 3) := by decide +kernel
theorem dX5_serveBehind_59 : decode cX5_serveBehind 59 = .ok (.aload_n 0, 1) := by decide +kernel
theorem dX5_serveBehind_60 : decode cX5_serveBehind 60 = .ok (.invokevirtual 166, 3) := by decide +kernel
theorem dX5_serveBehind_63 : decode cX5_serveBehind 63 = .ok (.istore 6, 2) := by decide +kernel
theorem dX5_serveBehind_65 : decode cX5_serveBehind 65 = .ok (.iload 6, 2) := by decide +kernel
theorem dX5_serveBehind_67 : decode cX5_serveBehind 67 = .ok (.iconst (-1), 1) := by decide +kernel
theorem dX5_serveBehind_68 : decode cX5_serveBehind 68 = .ok (.if_icmp .ne 4, 3) := by decide +kernel
theorem dX5_serveBehind_71 : decode cX5_serveBehind 71 = .ok (.return_, 1) := by decide +kernel
theorem dX5_serveBehind_72 : decode cX5_serveBehind 72 = .ok (.aload_n 0, 1) := by decide +kernel
theorem dX5_serveBehind_73 : decode cX5_serveBehind 73 = .ok (.getfield 21, 3) := by decide +kernel
theorem dX5_serveBehind_76 : decode cX5_serveBehind 76 = .ok (.getfield 145, 3) := by decide +kernel
theorem dX5_serveBehind_79 : decode cX5_serveBehind 79 = .ok (.iload 6, 2) := by decide +kernel
theorem dX5_serveBehind_81 : decode cX5_serveBehind 81 = .ok (.iaload, 1) := by decide +kernel
theorem dX5_serveBehind_82 : decode cX5_serveBehind 82 = .ok (.istore 7, 2) := by decide +kernel
theorem dX5_serveBehind_84 : decode cX5_serveBehind 84 = .ok (.aload_n 0, 1) := by decide +kernel
theorem dX5_serveBehind_85 : decode cX5_serveBehind 85 = .ok (.getfield 21, 3) := by decide +kernel
theorem dX5_serveBehind_88 : decode cX5_serveBehind 88 = .ok (.getfield 151, 3) := by decide +kernel
theorem dX5_serveBehind_91 : decode cX5_serveBehind 91 = .ok (.iload 7, 2) := by decide +kernel
theorem dX5_serveBehind_93 : decode cX5_serveBehind 93 = .ok (.iaload, 1) := by decide +kernel
theorem dX5_serveBehind_94 : decode cX5_serveBehind 94 = .ok (.iload_n 3, 1) := by decide +kernel
theorem dX5_serveBehind_95 : decode cX5_serveBehind 95 = .ok (.iload 4, 2) := by decide +kernel
theorem dX5_serveBehind_97 : decode cX5_serveBehind 97 = .ok (.isub, 1) := by decide +kernel
theorem dX5_serveBehind_98 : decode cX5_serveBehind 98 = .ok (.invokestatic 104, 3) := by decide +kernel
theorem dX5_serveBehind_101 : decode cX5_serveBehind 101 = .ok (.istore 8, 2) := by decide +kernel
theorem dX5_serveBehind_103 : decode cX5_serveBehind 103 = .ok (.iload 4, 2) := by decide +kernel
theorem dX5_serveBehind_105 : decode cX5_serveBehind 105 = .ok (.iload 8, 2) := by decide +kernel
theorem dX5_serveBehind_107 : decode cX5_serveBehind 107 = .ok (.iadd, 1) := by decide +kernel
theorem dX5_serveBehind_108 : decode cX5_serveBehind 108 = .ok (.istore 4, 2) := by decide +kernel
theorem dX5_serveBehind_110 : decode cX5_serveBehind 110 = .ok (.aload_n 0, 1) := by decide +kernel
theorem dX5_serveBehind_111 : decode cX5_serveBehind 111 = .ok (.getfield 21, 3) := by decide +kernel
theorem dX5_serveBehind_114 : decode cX5_serveBehind 114 = .ok (.iload 6, 2) := by decide +kernel
theorem dX5_serveBehind_116 : decode cX5_serveBehind 116 = .ok (.iload 8, 2) := by decide +kernel
theorem dX5_serveBehind_118 : decode cX5_serveBehind 118 = .ok (.invokevirtual 169, 3) := by decide +kernel
theorem dX5_serveBehind_121 : decode cX5_serveBehind 121 = .ok (.ifCond .eq 26, 3) := by decide +kernel
theorem dX5_serveBehind_124 : decode cX5_serveBehind 124 = .ok (.aload_n 0, 1) := by decide +kernel
theorem dX5_serveBehind_125 : decode cX5_serveBehind 125 = .ok (.getfield 12, 3) := by decide +kernel
theorem dX5_serveBehind_128 : decode cX5_serveBehind 128 = .ok (.getfield 71, 3) := by decide +kernel
theorem dX5_serveBehind_131 : decode cX5_serveBehind 131 = .ok (.iload 7, 2) := by decide +kernel
theorem dX5_serveBehind_133 : decode cX5_serveBehind 133 = .ok (.iload_n 2, 1) := by decide +kernel
theorem dX5_serveBehind_134 : decode cX5_serveBehind 134 = .ok (.iload 4, 2) := by decide +kernel
theorem dX5_serveBehind_136 : decode cX5_serveBehind 136 = .ok (.iconst 1, 1) := by decide +kernel
theorem dX5_serveBehind_137 : decode cX5_serveBehind 137 = .ok (.isub, 1) := by decide +kernel
theorem dX5_serveBehind_138 : decode cX5_serveBehind 138 = .ok (.aload_n 0, 1) := by decide +kernel
theorem dX5_serveBehind_139 : decode cX5_serveBehind 139 = .ok (.getfield 45, 3) := by decide +kernel
theorem dX5_serveBehind_142 : decode cX5_serveBehind 142 = .ok (.invokestatic 154, 3) := by decide +kernel
theorem dX5_serveBehind_145 : decode cX5_serveBehind 145 = .ok (.iadd, 1) := by decide +kernel
theorem dX5_serveBehind_146 : decode cX5_serveBehind 146 = .ok (.iastore, 1) := by decide +kernel
theorem dX5_serveBehind_147 : decode cX5_serveBehind 147 = .ok (.iinc 5 1, 3) := by decide +kernel
theorem dX5_serveBehind_150 : decode cX5_serveBehind 150 = .ok (.goto (-104), 3) := by decide +kernel
theorem dX5_serveBehind_153 : decode cX5_serveBehind 153 = .ok (.return_, 1) := by decide +kernel
theorem dX5_chosenPosition_0 : decode cX5_chosenPosition 0 = .ok (.aload_n 0, 1) := by decide +kernel
theorem dX5_chosenPosition_1 : decode cX5_chosenPosition 1 = .ok (.getfield 21, 3) := by decide +kernel
theorem dX5_chosenPosition_4 : decode cX5_chosenPosition 4 = .ok (.getfield 148, 3) := by decide +kernel
theorem dX5_chosenPosition_7 : decode cX5_chosenPosition 7 = .ok (.iconst (-1), 1) := by decide +kernel
theorem dX5_chosenPosition_8 : decode cX5_chosenPosition 8 = .ok (.if_icmp .eq 11, 3) := by decide +kernel
theorem dX5_chosenPosition_11 : decode cX5_chosenPosition 11 = .ok (.aload_n 0, 1) := by decide +kernel
theorem dX5_chosenPosition_12 : decode cX5_chosenPosition 12 = .ok (.getfield 21, 3) := by decide +kernel
theorem dX5_chosenPosition_15 : decode cX5_chosenPosition 15 = .ok (.invokevirtual 172, 3) := by decide +kernel
theorem dX5_chosenPosition_18 : decode cX5_chosenPosition 18 = .ok (.ireturn, 1) := by decide +kernel
theorem dX5_chosenPosition_19 : decode cX5_chosenPosition 19 = .ok (.aload_n 0, 1) := by decide +kernel
theorem dX5_chosenPosition_20 : decode cX5_chosenPosition 20 = .ok (.getfield 21, 3) := by decide +kernel
theorem dX5_chosenPosition_23 : decode cX5_chosenPosition 23 = .ok (.getfield 142, 3) := by decide +kernel
theorem dX5_chosenPosition_26 : decode cX5_chosenPosition 26 = .ok (.ifCond .ne 5, 3) := by decide +kernel
theorem dX5_chosenPosition_29 : decode cX5_chosenPosition 29 = .ok (.iconst (-1), 1) := by decide +kernel
theorem dX5_chosenPosition_30 : decode cX5_chosenPosition 30 = .ok (.ireturn, 1) := by decide +kernel
theorem dX5_chosenPosition_31 : decode cX5_chosenPosition 31 = .ok (.aload_n 0, 1) := by decide +kernel
theorem dX5_chosenPosition_32 : decode cX5_chosenPosition 32 = .ok (.getfield 29, 3) := by decide +kernel
theorem dX5_chosenPosition_35 : decode cX5_chosenPosition 35 = .ok (.getfield 40, 3) := by decide +kernel
theorem dX5_chosenPosition_38 : decode cX5_chosenPosition 38 = .ok (.iconst 3, 1) := by decide +kernel
theorem dX5_chosenPosition_39 : decode cX5_chosenPosition 39 = .ok (.iaload, 1) := by decide +kernel
theorem dX5_chosenPosition_40 : decode cX5_chosenPosition 40 = .ok (.ifCond .ne 5, 3) := by decide +kernel
theorem dX5_chosenPosition_43 : decode cX5_chosenPosition 43 = .ok (.iconst 0, 1) := by decide +kernel
theorem dX5_chosenPosition_44 : decode cX5_chosenPosition 44 = .ok (.ireturn, 1) := by decide +kernel
theorem dX5_chosenPosition_45 : decode cX5_chosenPosition 45 = .ok (.iconst 0, 1) := by decide +kernel
theorem dX5_chosenPosition_46 : decode cX5_chosenPosition 46 = .ok (.istore_n 1, 1) := by decide +kernel
theorem dX5_chosenPosition_47 : decode cX5_chosenPosition 47 = .ok (.aload_n 0, 1) := by decide +kernel
theorem dX5_chosenPosition_48 : decode cX5_chosenPosition 48 = .ok (.aload_n 0, 1) := by decide +kernel
theorem dX5_chosenPosition_49 : decode cX5_chosenPosition 49 = .ok (.getfield 29, 3) := by decide +kernel
theorem dX5_chosenPosition_52 : decode cX5_chosenPosition 52 = .ok (.getfield 64, 3) := by decide +kernel
theorem dX5_chosenPosition_55 : decode cX5_chosenPosition 55 = .ok (.aload_n 0, 1) := by decide +kernel
theorem dX5_chosenPosition_56 : decode cX5_chosenPosition 56 = .ok (.getfield 21, 3) := by decide +kernel
theorem dX5_chosenPosition_59 : decode cX5_chosenPosition 59 = .ok (.getfield 145, 3) := by decide +kernel
theorem dX5_chosenPosition_62 : decode cX5_chosenPosition 62 = .ok (.iconst 0, 1) := by decide +kernel
theorem dX5_chosenPosition_63 : decode cX5_chosenPosition 63 = .ok (.iaload, 1) := by decide +kernel
theorem dX5_chosenPosition_64 : decode cX5_chosenPosition 64 = .ok (.iaload, 1) := by decide +kernel
theorem dX5_chosenPosition_65 : decode cX5_chosenPosition 65 = .ok (.invokevirtual 175, 3) := by decide +kernel
theorem dX5_chosenPosition_68 : decode cX5_chosenPosition 68 = .ok (.istore_n 2, 1) := by decide +kernel
theorem dX5_chosenPosition_69 : decode cX5_chosenPosition 69 = .ok (.iconst 1, 1) := by decide +kernel
theorem dX5_chosenPosition_70 : decode cX5_chosenPosition 70 = .ok (.istore_n 3, 1) := by decide +kernel
theorem dX5_chosenPosition_71 : decode cX5_chosenPosition 71 = .ok (.iload_n 3, 1) := by decide +kernel
theorem dX5_chosenPosition_72 : decode cX5_chosenPosition 72 = .ok (.aload_n 0, 1) := by decide +kernel
theorem dX5_chosenPosition_73 : decode cX5_chosenPosition 73 = .ok (.getfield 21, 3) := by decide +kernel
theorem dX5_chosenPosition_76 : decode cX5_chosenPosition 76 = .ok (.getfield 142, 3) := by decide +kernel
theorem dX5_chosenPosition_79 : decode cX5_chosenPosition 79 = .ok (.if_icmp .ge 43, 3) := by decide +kernel
theorem dX5_chosenPosition_82 : decode cX5_chosenPosition 82 = .ok (.aload_n 0, 1) := by decide +kernel
theorem dX5_chosenPosition_83 : decode cX5_chosenPosition 83 = .ok (.aload_n 0, 1) := by decide +kernel
theorem dX5_chosenPosition_84 : decode cX5_chosenPosition 84 = .ok (.getfield 29, 3) := by decide +kernel
theorem dX5_chosenPosition_87 : decode cX5_chosenPosition 87 = .ok (.getfield 64, 3) := by decide +kernel
theorem dX5_chosenPosition_90 : decode cX5_chosenPosition 90 = .ok (.aload_n 0, 1) := by decide +kernel
theorem dX5_chosenPosition_91 : decode cX5_chosenPosition 91 = .ok (.getfield 21, 3) := by decide +kernel
theorem dX5_chosenPosition_94 : decode cX5_chosenPosition 94 = .ok (.getfield 145, 3) := by decide +kernel
theorem dX5_chosenPosition_97 : decode cX5_chosenPosition 97 = .ok (.iload_n 3, 1) := by decide +kernel
theorem dX5_chosenPosition_98 : decode cX5_chosenPosition 98 = .ok (.iaload, 1) := by decide +kernel
theorem dX5_chosenPosition_99 : decode cX5_chosenPosition 99 = .ok (.iaload, 1) := by decide +kernel
theorem dX5_chosenPosition_100 : decode cX5_chosenPosition 100 = .ok (.invokevirtual 175, 3) := by decide +kernel
theorem dX5_chosenPosition_103 : decode cX5_chosenPosition 103 = .ok (.istore 4, 2) := by decide +kernel
theorem dX5_chosenPosition_105 : decode cX5_chosenPosition 105 = .ok (.iload 4, 2) := by decide +kernel
theorem dX5_chosenPosition_107 : decode cX5_chosenPosition 107 = .ok (.iload_n 2, 1) := by decide +kernel
theorem dX5_chosenPosition_108 : decode cX5_chosenPosition 108 = .ok (.if_icmp .ge 8, 3) := by decide +kernel
theorem dX5_chosenPosition_111 : decode cX5_chosenPosition 111 = .ok (.iload_n 3, 1) := by decide +kernel
theorem dX5_chosenPosition_112 : decode cX5_chosenPosition 112 = .ok (.istore_n 1, 1) := by decide +kernel
theorem dX5_chosenPosition_113 : decode cX5_chosenPosition 113 = .ok (.iload 4, 2) := by decide +kernel
theorem dX5_chosenPosition_115 : decode cX5_chosenPosition 115 = .ok (.istore_n 2, 1) := by decide +kernel
theorem dX5_chosenPosition_116 : decode cX5_chosenPosition 116 = .ok (.iinc 3 1, 3) := by decide +kernel
theorem dX5_chosenPosition_119 : decode cX5_chosenPosition 119 = .ok (.goto (-48), 3) := by decide +kernel
theorem dX5_chosenPosition_122 : decode cX5_chosenPosition 122 = .ok (.aload_n 0, 1) := by decide +kernel
theorem dX5_chosenPosition_123 : decode cX5_chosenPosition 123 = .ok (.aload_n 0, 1) := by decide +kernel
theorem dX5_chosenPosition_124 : decode cX5_chosenPosition 124 = .ok (.getfield 29, 3) := by decide +kernel
theorem dX5_chosenPosition_127 : decode cX5_chosenPosition 127 = .ok (.getfield 64, 3) := by decide +kernel
theorem dX5_chosenPosition_130 : decode cX5_chosenPosition 130 = .ok (.aload_n 0, 1) := by decide +kernel
theorem dX5_chosenPosition_131 : decode cX5_chosenPosition 131 = .ok (.getfield 21, 3) := by decide +kernel
theorem dX5_chosenPosition_134 : decode cX5_chosenPosition 134 = .ok (.getfield 145, 3) := by decide +kernel
theorem dX5_chosenPosition_137 : decode cX5_chosenPosition 137 = .ok (.iload_n 1, 1) := by decide +kernel
theorem dX5_chosenPosition_138 : decode cX5_chosenPosition 138 = .ok (.iaload, 1) := by decide +kernel
theorem dX5_chosenPosition_139 : decode cX5_chosenPosition 139 = .ok (.iaload, 1) := by decide +kernel
theorem dX5_chosenPosition_140 : decode cX5_chosenPosition 140 = .ok (.putfield 51, 3) := by decide +kernel
theorem dX5_chosenPosition_143 : decode cX5_chosenPosition 143 = .ok (.iload_n 1, 1) := by decide +kernel
theorem dX5_chosenPosition_144 : decode cX5_chosenPosition 144 = .ok (.ireturn, 1) := by decide +kernel
theorem dX5_turnOf_0 : decode cX5_turnOf 0 = .ok (.aload_n 0, 1) := by decide +kernel
theorem dX5_turnOf_1 : decode cX5_turnOf 1 = .ok (.getfield 29, 3) := by decide +kernel
theorem dX5_turnOf_4 : decode cX5_turnOf 4 = .ok (.getfield 40, 3) := by decide +kernel
theorem dX5_turnOf_7 : decode cX5_turnOf 7 = .ok (.iconst 3, 1) := by decide +kernel
theorem dX5_turnOf_8 : decode cX5_turnOf 8 = .ok (.iaload, 1) := by decide +kernel
theorem dX5_turnOf_9 : decode cX5_turnOf 9 = .ok (.iconst 1, 1) := by decide +kernel
theorem dX5_turnOf_10 : decode cX5_turnOf 10 = .ok (.if_icmp .ne 21, 3) := by decide +kernel
theorem dX5_turnOf_13 : decode cX5_turnOf 13 = .ok (.aload_n 0, 1) := by decide +kernel
theorem dX5_turnOf_14 : decode cX5_turnOf 14 = .ok (.getfield 29, 3) := by decide +kernel
theorem dX5_turnOf_17 : decode cX5_turnOf 17 = .ok (.getfield 40, 3) := by decide +kernel
theorem dX5_turnOf_20 : decode cX5_turnOf 20 = .ok (.bipush 8, 2) := by decide +kernel
theorem dX5_turnOf_22 : decode cX5_turnOf 22 = .ok (.iload_n 1, 1) := by decide +kernel
theorem dX5_turnOf_23 : decode cX5_turnOf 23 = .ok (.iadd, 1) := by decide +kernel
theorem dX5_turnOf_24 : decode cX5_turnOf 24 = .ok (.iaload, 1) := by decide +kernel
theorem dX5_turnOf_25 : decode cX5_turnOf 25 = .ok (.bipush 6, 2) := by decide +kernel
theorem dX5_turnOf_27 : decode cX5_turnOf 27 = .ok (.imul, 1) := by decide +kernel
theorem dX5_turnOf_28 : decode cX5_turnOf 28 = .ok (.iload_n 1, 1) := by decide +kernel
theorem dX5_turnOf_29 : decode cX5_turnOf 29 = .ok (.iadd, 1) := by decide +kernel
theorem dX5_turnOf_30 : decode cX5_turnOf 30 = .ok (.ireturn, 1) := by decide +kernel
theorem dX5_turnOf_31 : decode cX5_turnOf 31 = .ok (.iload_n 1, 1) := by decide +kernel
theorem dX5_turnOf_32 : decode cX5_turnOf 32 = .ok (.aload_n 0, 1) := by decide +kernel
theorem dX5_turnOf_33 : decode cX5_turnOf 33 = .ok (.getfield 51, 3) := by decide +kernel
theorem dX5_turnOf_36 : decode cX5_turnOf 36 = .ok (.if_icmp .le 12, 3) := by decide +kernel
theorem dX5_turnOf_39 : decode cX5_turnOf 39 = .ok (.iload_n 1, 1) := by decide +kernel
theorem dX5_turnOf_40 : decode cX5_turnOf 40 = .ok (.aload_n 0, 1) := by decide +kernel
theorem dX5_turnOf_41 : decode cX5_turnOf 41 = .ok (.getfield 51, 3) := by decide +kernel
theorem dX5_turnOf_44 : decode cX5_turnOf 44 = .ok (.isub, 1) := by decide +kernel
theorem dX5_turnOf_45 : decode cX5_turnOf 45 = .ok (.goto 12, 3) := by decide +kernel
theorem dX5_turnOf_48 : decode cX5_turnOf 48 = .ok (.iload_n 1, 1) := by decide +kernel
theorem dX5_turnOf_49 : decode cX5_turnOf 49 = .ok (.aload_n 0, 1) := by decide +kernel
theorem dX5_turnOf_50 : decode cX5_turnOf 50 = .ok (.getfield 51, 3) := by decide +kernel
theorem dX5_turnOf_53 : decode cX5_turnOf 53 = .ok (.isub, 1) := by decide +kernel
theorem dX5_turnOf_54 : decode cX5_turnOf 54 = .ok (.bipush 6, 2) := by decide +kernel
theorem dX5_turnOf_56 : decode cX5_turnOf 56 = .ok (.iadd, 1) := by decide +kernel
theorem dX5_turnOf_57 : decode cX5_turnOf 57 = .ok (.ireturn, 1) := by decide +kernel
theorem dX6_init_0 : decode cX6_init 0 = .ok (.aload_n 0, 1) := by decide +kernel
theorem dX6_init_1 : decode cX6_init 1 = .ok (.invokespecial 3, 3) := by decide +kernel
theorem dX6_init_4 : decode cX6_init 4 = .ok (.aload_n 0, 1) := by decide +kernel
theorem dX6_init_5 : decode cX6_init 5 = .ok (.bipush 120, 2) := by decide +kernel
theorem dX6_init_7 : decode cX6_init 7 = .ok (.newarray .int, 2) := by decide +kernel
theorem dX6_init_9 : decode cX6_init 9 = .ok (.putfield 9, 3) := by decide +kernel
theorem dX6_init_12 : decode cX6_init 12 = .ok (.aload_n 0, 1) := by decide +kernel
theorem dX6_init_13 : decode cX6_init 13 = .ok (.bipush 120, 2) := by decide +kernel
theorem dX6_init_15 : decode cX6_init 15 = .ok (.anewarray 15, 3) := by decide +kernel
theorem dX6_init_18 : decode cX6_init 18 = .ok (.putfield 17, 3) := by decide +kernel
theorem dX6_init_21 : decode cX6_init 21 = .ok (.aload_n 0, 1) := by decide +kernel
theorem dX6_init_22 : decode cX6_init 22 = .ok (.sipush 360, 3) := by decide +kernel
theorem dX6_init_25 : decode cX6_init 25 = .ok (.newarray .int, 2) := by decide +kernel
theorem dX6_init_27 : decode cX6_init 27 = .ok (.putfield 21, 3) := by decide +kernel
theorem dX6_init_30 : decode cX6_init 30 = .ok (.return_, 1) := by decide +kernel
theorem dX6_isFull_0 : decode cX6_isFull 0 = .ok (.aload_n 0, 1) := by decide +kernel
theorem dX6_isFull_1 : decode cX6_isFull 1 = .ok (.getfield 24, 3) := by decide +kernel
theorem dX6_isFull_4 : decode cX6_isFull 4 = .ok (.bipush 120, 2) := by decide +kernel
theorem dX6_isFull_6 : decode cX6_isFull 6 = .ok (.if_icmp .lt 7, 3) := by decide +kernel
theorem dX6_isFull_9 : decode cX6_isFull 9 = .ok (.iconst 1, 1) := by decide +kernel
theorem dX6_isFull_10 : decode cX6_isFull 10 = .ok (.goto 4, 3) := by decide +kernel
theorem dX6_isFull_13 : decode cX6_isFull 13 = .ok (.iconst 0, 1) := by decide +kernel
theorem dX6_isFull_14 : decode cX6_isFull 14 = .ok (.ireturn, 1) := by decide +kernel
theorem dX6_append_0 : decode cX6_append 0 = .ok (.aload_n 0, 1) := by decide +kernel
theorem dX6_append_1 : decode cX6_append 1 = .ok (.invokevirtual 28, 3) := by decide +kernel
theorem dX6_append_4 : decode cX6_append 4 = .ok (.ifCond .ne 23, 3) := by decide +kernel
theorem dX6_append_7 : decode cX6_append 7 = .ok (.aload_n 0, 1) := by decide +kernel
theorem dX6_append_8 : decode cX6_append 8 = .ok (.getfield 9, 3) := by decide +kernel
theorem dX6_append_11 : decode cX6_append 11 = .ok (.aload_n 0, 1) := by decide +kernel
theorem dX6_append_12 : decode cX6_append 12 = .ok (.getfield 24, 3) := by decide +kernel
theorem dX6_append_15 : decode cX6_append 15 = .ok (.iload_n 1, 1) := by decide +kernel
theorem dX6_append_16 : decode cX6_append 16 = .ok (.iastore, 1) := by decide +kernel
theorem dX6_append_17 : decode cX6_append 17 = .ok (.aload_n 0, 1) := by decide +kernel
theorem dX6_append_18 : decode cX6_append 18 = .ok (.dup, 1) := by decide +kernel
theorem dX6_append_19 : decode cX6_append 19 = .ok (.getfield 24, 3) := by decide +kernel
theorem dX6_append_22 : decode cX6_append 22 = .ok (.iconst 1, 1) := by decide +kernel
theorem dX6_append_23 : decode cX6_append 23 = .ok (.iadd, 1) := by decide +kernel
theorem dX6_append_24 : decode cX6_append 24 = .ok (.putfield 24, 3) := by decide +kernel
theorem dX6_append_27 : decode cX6_append 27 = .ok (.return_, 1) := by decide +kernel
theorem dX6_parse_0 : decode cX6_parse 0 = .ok (.aload_n 0, 1) := by decide +kernel
theorem dX6_parse_1 : decode cX6_parse 1 = .ok (.iconst 0, 1) := by decide +kernel
theorem dX6_parse_2 : decode cX6_parse 2 = .ok (.putfield 32, 3) := by decide +kernel
theorem dX6_parse_5 : decode cX6_parse 5 = .ok (.aconst_null, 1) := by decide +kernel
theorem dX6_parse_6 : decode cX6_parse 6 = .ok (.astore_n 1, 1) := by decide +kernel
theorem dX6_parse_7 : decode cX6_parse 7 = .ok (.iconst 0, 1) := by decide +kernel
theorem dX6_parse_8 : decode cX6_parse 8 = .ok (.istore_n 2, 1) := by decide +kernel
theorem dX6_parse_9 : decode cX6_parse 9 = .ok (.iconst 0, 1) := by decide +kernel
theorem dX6_parse_10 : decode cX6_parse 10 = .ok (.istore_n 3, 1) := by decide +kernel
theorem dX6_parse_11 : decode cX6_parse 11 = .ok (.iconst 0, 1) := by decide +kernel
theorem dX6_parse_12 : decode cX6_parse 12 = .ok (.istore 4, 2) := by decide +kernel
theorem dX6_parse_14 : decode cX6_parse 14 = .ok (.iload 4, 2) := by decide +kernel
theorem dX6_parse_16 : decode cX6_parse 16 = .ok (.aload_n 0, 1) := by decide +kernel
theorem dX6_parse_17 : decode cX6_parse 17 = .ok (.getfield 24, 3) := by decide +kernel
theorem dX6_parse_20 : decode cX6_parse 20 = .ok (.if_icmp .ge 158, 3) := by decide +kernel
theorem dX6_parse_23 : decode cX6_parse 23 = .ok (.aload_n 0, 1) := by decide +kernel
theorem dX6_parse_24 : decode cX6_parse 24 = .ok (.getfield 9, 3) := by decide +kernel
theorem dX6_parse_27 : decode cX6_parse 27 = .ok (.iload 4, 2) := by decide +kernel
theorem dX6_parse_29 : decode cX6_parse 29 = .ok (.iaload, 1) := by decide +kernel
theorem dX6_parse_30 : decode cX6_parse 30 = .ok (.invokestatic 35, 3) := by decide +kernel
theorem dX6_parse_33 : decode cX6_parse 33 = .ok (.istore 5, 2) := by decide +kernel
theorem dX6_parse_35 : decode cX6_parse 35 = .ok (.aload_n 0, 1) := by decide +kernel
theorem dX6_parse_36 : decode cX6_parse 36 = .ok (.iload 4, 2) := by decide +kernel
theorem dX6_parse_38 : decode cX6_parse 38 = .ok (.iload 5, 2) := by decide +kernel
theorem dX6_parse_40 : decode cX6_parse 40 = .ok (.invokevirtual 39, 3) := by decide +kernel
theorem dX6_parse_43 : decode cX6_parse 43 = .ok (.istore_n 3, 1) := by decide +kernel
theorem dX6_parse_44 : decode cX6_parse 44 = .ok (.iload 5, 2) := by decide +kernel
theorem dX6_parse_46 : decode cX6_parse 46 = .ok (.ifCond .ne 6, 3) := by decide +kernel
theorem dX6_parse_49 : decode cX6_parse 49 = .ok (.goto 116, 3) := by decide +kernel
theorem dX6_parse_52 : decode cX6_parse 52 = .ok (.aload_n 1, 1) := by decide +kernel
theorem dX6_parse_53 : decode cX6_parse 53 = .ok (.ifnonnull 30, 3) := by decide +kernel
theorem dX6_parse_56 : decode cX6_parse 56 = .ok (.iload 5, 2) := by decide +kernel
theorem dX6_parse_58 : decode cX6_parse 58 = .ok (.iconst 1, 1) := by decide +kernel
theorem dX6_parse_59 : decode cX6_parse 59 = .ok (.if_icmp .ne 13, 3) := by decide +kernel
theorem dX6_parse_62 : decode cX6_parse 62 = .ok (.aload_n 0, 1) := by decide +kernel
theorem dX6_parse_63 : decode cX6_parse 63 = .ok (.iload 4, 2) := by decide +kernel
theorem dX6_parse_65 : decode cX6_parse 65 = .ok (.iload_n 3, 1) := by decide +kernel
theorem dX6_parse_66 : decode cX6_parse 66 = .ok (.invokevirtual 43, 3) := by decide +kernel
theorem dX6_parse_69 : decode cX6_parse 69 = .ok (.goto 4, 3) := by decide +kernel
theorem dX6_parse_72 : decode cX6_parse 72 = .ok (.aconst_null, 1) := by decide +kernel
theorem dX6_parse_73 : decode cX6_parse 73 = .ok (.astore_n 1, 1) := by decide +kernel
theorem dX6_parse_74 : decode cX6_parse 74 = .ok (.iconst 0, 1) := by decide +kernel
theorem dX6_parse_75 : decode cX6_parse 75 = .ok (.istore_n 2, 1) := by decide +kernel
theorem dX6_parse_76 : decode cX6_parse 76 = .ok (.aload_n 1, 1) := by decide +kernel
theorem dX6_parse_77 : decode cX6_parse 77 = .ok (.ifnonnull 88, 3) := by decide +kernel
theorem dX6_parse_80 : decode cX6_parse 80 = .ok (.iload 4, 2) := by decide +kernel
theorem dX6_parse_82 : decode cX6_parse 82 = .ok (.ireturn, 1) := by decide +kernel
theorem dX6_parse_83 : decode cX6_parse 83 = .ok (.iload_n 2, 1) := by decide +kernel
theorem dX6_parse_84 : decode cX6_parse 84 = .ok (.aload_n 1, 1) := by decide +kernel
theorem dX6_parse_85 : decode cX6_parse 85 = .ok (.getfield 47, 3) := by decide +kernel
theorem dX6_parse_88 : decode cX6_parse 88 = .ok (.if_icmp .ge 46, 3) := by decide +kernel
theorem dX6_parse_91 : decode cX6_parse 91 = .ok (.iload 5, 2) := by decide +kernel
theorem dX6_parse_93 : decode cX6_parse 93 = .ok (.iconst 2, 1) := by decide +kernel
theorem dX6_parse_94 : decode cX6_parse 94 = .ok (.if_icmp .ne 11, 3) := by decide +kernel
theorem dX6_parse_97 : decode cX6_parse 97 = .ok (.iload_n 3, 1) := by decide +kernel
theorem dX6_parse_98 : decode cX6_parse 98 = .ok (.iload 4, 2) := by decide +kernel
theorem dX6_parse_100 : decode cX6_parse 100 = .ok (.isub, 1) := by decide +kernel
theorem dX6_parse_101 : decode cX6_parse 101 = .ok (.iconst 4, 1) := by decide +kernel
theorem dX6_parse_102 : decode cX6_parse 102 = .ok (.if_icmp .le 6, 3) := by decide +kernel
theorem dX6_parse_105 : decode cX6_parse 105 = .ok (.iload 4, 2) := by decide +kernel
theorem dX6_parse_107 : decode cX6_parse 107 = .ok (.ireturn, 1) := by decide +kernel
theorem dX6_parse_108 : decode cX6_parse 108 = .ok (.aload_n 0, 1) := by decide +kernel
theorem dX6_parse_109 : decode cX6_parse 109 = .ok (.getfield 21, 3) := by decide +kernel
theorem dX6_parse_112 : decode cX6_parse 112 = .ok (.iconst 3, 1) := by decide +kernel
theorem dX6_parse_113 : decode cX6_parse 113 = .ok (.aload_n 0, 1) := by decide +kernel
theorem dX6_parse_114 : decode cX6_parse 114 = .ok (.getfield 32, 3) := by decide +kernel
theorem dX6_parse_117 : decode cX6_parse 117 = .ok (.imul, 1) := by decide +kernel
theorem dX6_parse_118 : decode cX6_parse 118 = .ok (.iload_n 2, 1) := by decide +kernel
theorem dX6_parse_119 : decode cX6_parse 119 = .ok (.iadd, 1) := by decide +kernel
theorem dX6_parse_120 : decode cX6_parse 120 = .ok (.aload_n 0, 1) := by decide +kernel
theorem dX6_parse_121 : decode cX6_parse 121 = .ok (.iload 4, 2) := by decide +kernel
theorem dX6_parse_123 : decode cX6_parse 123 = .ok (.iload_n 3, 1) := by decide +kernel
theorem dX6_parse_124 : decode cX6_parse 124 = .ok (.invokevirtual 49, 3) := by decide +kernel
theorem dX6_parse_127 : decode cX6_parse 127 = .ok (.iastore, 1) := by decide +kernel
theorem dX6_parse_128 : decode cX6_parse 128 = .ok (.iinc 2 1, 3) := by decide +kernel
theorem dX6_parse_131 : decode cX6_parse 131 = .ok (.goto 34, 3) := by decide +kernel
theorem dX6_parse_134 : decode cX6_parse 134 = .ok (.iload 5, 2) := by decide +kernel
theorem dX6_parse_136 : decode cX6_parse 136 = .ok (.iconst 3, 1) := by decide +kernel
theorem dX6_parse_137 : decode cX6_parse 137 = .ok (.if_icmp .eq 6, 3) := by decide +kernel
theorem dX6_parse_140 : decode cX6_parse 140 = .ok (.iload 4, 2) := by decide +kernel
theorem dX6_parse_142 : decode cX6_parse 142 = .ok (.ireturn, 1) := by decide +kernel
theorem dX6_parse_143 : decode cX6_parse 143 = .ok (.aload_n 0, 1) := by decide +kernel
theorem dX6_parse_144 : decode cX6_parse 144 = .ok (.getfield 17, 3) := by decide +kernel
theorem dX6_parse_147 : decode cX6_parse 147 = .ok (.aload_n 0, 1) := by decide +kernel
theorem dX6_parse_148 : decode cX6_parse 148 = .ok (.getfield 32, 3) := by decide +kernel
theorem dX6_parse_151 : decode cX6_parse 151 = .ok (.aload_n 1, 1) := by decide +kernel
theorem dX6_parse_152 : decode cX6_parse 152 = .ok (.aastore, 1) := by decide +kernel
theorem dX6_parse_153 : decode cX6_parse 153 = .ok (.aload_n 0, 1) := by decide +kernel
theorem dX6_parse_154 : decode cX6_parse 154 = .ok (.dup, 1) := by decide +kernel
theorem dX6_parse_155 : decode cX6_parse 155 = .ok (.getfield 32, 3) := by decide +kernel
theorem dX6_parse_158 : decode cX6_parse 158 = .ok (.iconst 1, 1) := by decide +kernel
theorem dX6_parse_159 : decode cX6_parse 159 = .ok (.iadd, 1) := by decide +kernel
theorem dX6_parse_160 : decode cX6_parse 160 = .ok (.putfield 32, 3) := by decide +kernel
theorem dX6_parse_163 : decode cX6_parse 163 = .ok (.aconst_null, 1) := by decide +kernel
theorem dX6_parse_164 : decode cX6_parse 164 = .ok (.astore_n 1, 1) := by decide +kernel
theorem dX6_parse_165 : decode cX6_parse 165 = .ok (.iload 4, 2) := by decide +kernel
theorem dX6_parse_167 : decode cX6_parse 167 = .ok (.iconst 1, 1) := by decide +kernel
theorem dX6_parse_168 : decode cX6_parse 168 = .ok (.iadd, 1) := by decide +kernel
theorem dX6_parse_169 : decode cX6_parse 169 = .ok (.iload_n 3, 1) := by decide +kernel
theorem dX6_parse_170 : decode cX6_parse 170 = .ok (.invokestatic 52, 3) := by decide +kernel
theorem dX6_parse_173 : decode cX6_parse 173 = .ok (.istore 4, 2) := by decide +kernel
theorem dX6_parse_175 : decode cX6_parse 175 = .ok (.goto (-161), 3) := by decide +kernel
theorem dX6_parse_178 : decode cX6_parse 178 = .ok (.aload_n 1, 1) := by decide +kernel
theorem dX6_parse_179 : decode cX6_parse 179 = .ok (.ifnonnull 7, 3) := by decide +kernel
theorem dX6_parse_182 : decode cX6_parse 182 = .ok (.iconst (-1), 1) := by decide +kernel
theorem dX6_parse_183 : decode cX6_parse 183 = .ok (.goto 7, 3) := by decide +kernel
theorem dX6_parse_186 : decode cX6_parse 186 = .ok (.aload_n 0, 1) := by decide +kernel
theorem dX6_parse_187 : decode cX6_parse 187 = .ok (.getfield 24, 3) := by decide +kernel
theorem dX6_parse_190 : decode cX6_parse 190 = .ok (.ireturn, 1) := by decide +kernel
theorem dX6_kindOf_0 : decode cX6_kindOf 0 = .ok (.iload_n 0, 1) := by decide +kernel
theorem dX6_kindOf_1 : decode cX6_kindOf 1 = .ok (.bipush 97, 2) := by decide +kernel
theorem dX6_kindOf_3 : decode cX6_kindOf 3 = .ok (.if_icmp .lt 11, 3) := by decide +kernel
theorem dX6_kindOf_6 : decode cX6_kindOf 6 = .ok (.iload_n 0, 1) := by decide +kernel
theorem dX6_kindOf_7 : decode cX6_kindOf 7 = .ok (.bipush 122, 2) := by decide +kernel
theorem dX6_kindOf_9 : decode cX6_kindOf 9 = .ok (.if_icmp .gt 5, 3) := by decide +kernel
theorem dX6_kindOf_12 : decode cX6_kindOf 12 = .ok (.iconst 1, 1) := by decide +kernel
theorem dX6_kindOf_13 : decode cX6_kindOf 13 = .ok (.ireturn, 1) := by decide +kernel
theorem dX6_kindOf_14 : decode cX6_kindOf 14 = .ok (.iload_n 0, 1) := by decide +kernel
theorem dX6_kindOf_15 : decode cX6_kindOf 15 = .ok (.bipush 48, 2) := by decide +kernel
theorem dX6_kindOf_17 : decode cX6_kindOf 17 = .ok (.if_icmp .lt 11, 3) := by decide +kernel
theorem dX6_kindOf_20 : decode cX6_kindOf 20 = .ok (.iload_n 0, 1) := by decide +kernel
theorem dX6_kindOf_21 : decode cX6_kindOf 21 = .ok (.bipush 57, 2) := by decide +kernel
theorem dX6_kindOf_23 : decode cX6_kindOf 23 = .ok (.if_icmp .gt 5, 3) := by decide +kernel
theorem dX6_kindOf_26 : decode cX6_kindOf 26 = .ok (.iconst 2, 1) := by decide +kernel
theorem dX6_kindOf_27 : decode cX6_kindOf 27 = .ok (.ireturn, 1) := by decide +kernel
theorem dX6_kindOf_28 : decode cX6_kindOf 28 = .ok (.iload_n 0, 1) := by decide +kernel
theorem dX6_kindOf_29 : decode cX6_kindOf 29 = .ok (.bipush 59, 2) := by decide +kernel
theorem dX6_kindOf_31 : decode cX6_kindOf 31 = .ok (.if_icmp .ne 5, 3) := by decide +kernel
theorem dX6_kindOf_34 : decode cX6_kindOf 34 = .ok (.iconst 3, 1) := by decide +kernel
theorem dX6_kindOf_35 : decode cX6_kindOf 35 = .ok (.ireturn, 1) := by decide +kernel
theorem dX6_kindOf_36 : decode cX6_kindOf 36 = .ok (.iload_n 0, 1) := by decide +kernel
theorem dX6_kindOf_37 : decode cX6_kindOf 37 = .ok (.bipush 32, 2) := by decide +kernel
theorem dX6_kindOf_39 : decode cX6_kindOf 39 = .ok (.if_icmp .ne 7, 3) := by decide +kernel
theorem dX6_kindOf_42 : decode cX6_kindOf 42 = .ok (.iconst 0, 1) := by decide +kernel
theorem dX6_kindOf_43 : decode cX6_kindOf 43 = .ok (.goto 4, 3) := by decide +kernel
theorem dX6_kindOf_46 : decode cX6_kindOf 46 = .ok (.iconst 4, 1) := by decide +kernel
theorem dX6_kindOf_47 : decode cX6_kindOf 47 = .ok (.ireturn, 1) := by decide +kernel
theorem dX6_endOf_0 : decode cX6_endOf 0 = .ok (.iload_n 1, 1) := by decide +kernel
theorem dX6_endOf_1 : decode cX6_endOf 1 = .ok (.iconst 1, 1) := by decide +kernel
theorem dX6_endOf_2 : decode cX6_endOf 2 = .ok (.iadd, 1) := by decide +kernel
theorem dX6_endOf_3 : decode cX6_endOf 3 = .ok (.istore_n 3, 1) := by decide +kernel
theorem dX6_endOf_4 : decode cX6_endOf 4 = .ok (.iload_n 2, 1) := by decide +kernel
theorem dX6_endOf_5 : decode cX6_endOf 5 = .ok (.iconst 1, 1) := by decide +kernel
theorem dX6_endOf_6 : decode cX6_endOf 6 = .ok (.if_icmp .eq 8, 3) := by decide +kernel
theorem dX6_endOf_9 : decode cX6_endOf 9 = .ok (.iload_n 2, 1) := by decide +kernel
theorem dX6_endOf_10 : decode cX6_endOf 10 = .ok (.iconst 2, 1) := by decide +kernel
theorem dX6_endOf_11 : decode cX6_endOf 11 = .ok (.if_icmp .ne 30, 3) := by decide +kernel
theorem dX6_endOf_14 : decode cX6_endOf 14 = .ok (.iload_n 3, 1) := by decide +kernel
theorem dX6_endOf_15 : decode cX6_endOf 15 = .ok (.aload_n 0, 1) := by decide +kernel
theorem dX6_endOf_16 : decode cX6_endOf 16 = .ok (.getfield 24, 3) := by decide +kernel
theorem dX6_endOf_19 : decode cX6_endOf 19 = .ok (.if_icmp .ge 22, 3) := by decide +kernel
theorem dX6_endOf_22 : decode cX6_endOf 22 = .ok (.aload_n 0, 1) := by decide +kernel
theorem dX6_endOf_23 : decode cX6_endOf 23 = .ok (.getfield 9, 3) := by decide +kernel
theorem dX6_endOf_26 : decode cX6_endOf 26 = .ok (.iload_n 3, 1) := by decide +kernel
theorem dX6_endOf_27 : decode cX6_endOf 27 = .ok (.iaload, 1) := by decide +kernel
theorem dX6_endOf_28 : decode cX6_endOf 28 = .ok (.invokestatic 35, 3) := by decide +kernel
theorem dX6_endOf_31 : decode cX6_endOf 31 = .ok (.iload_n 2, 1) := by decide +kernel
theorem dX6_endOf_32 : decode cX6_endOf 32 = .ok (.if_icmp .ne 9, 3) := by decide +kernel
theorem dX6_endOf_35 : decode cX6_endOf 35 = .ok (.iinc 3 1, 3) := by decide +kernel
theorem dX6_endOf_38 : decode cX6_endOf 38 = .ok (.goto (-34), 3) := by decide +kernel
theorem dX6_endOf_41 : decode cX6_endOf 41 = .ok (.iload_n 3, 1) := by decide +kernel
theorem dX6_endOf_42 : decode cX6_endOf 42 = .ok (.ireturn, 1) := by decide +kernel
theorem dX6_commandAt_0 : decode cX6_commandAt 0 = .ok (.iconst 0, 1) := by decide +kernel
theorem dX6_commandAt_1 : decode cX6_commandAt 1 = .ok (.istore_n 3, 1) := by decide +kernel
theorem dX6_commandAt_2 : decode cX6_commandAt 2 = .ok (.iload_n 3, 1) := by decide +kernel
theorem dX6_commandAt_3 : decode cX6_commandAt 3 = .ok (.getstatic 57, 3) := by decide +kernel
theorem dX6_commandAt_6 : decode cX6_commandAt 6 = .ok (.arraylength, 1) := by decide +kernel
theorem dX6_commandAt_7 : decode cX6_commandAt 7 = .ok (.if_icmp .ge 32, 3) := by decide +kernel
theorem dX6_commandAt_10 : decode cX6_commandAt 10 = .ok (.aload_n 0, 1) := by decide +kernel
theorem dX6_commandAt_11 : decode cX6_commandAt 11 = .ok (.getstatic 57, 3) := by decide +kernel
theorem dX6_commandAt_14 : decode cX6_commandAt 14 = .ok (.iload_n 3, 1) := by decide +kernel
theorem dX6_commandAt_15 : decode cX6_commandAt 15 = .ok (.aaload, 1) := by decide +kernel
theorem dX6_commandAt_16 : decode cX6_commandAt 16 = .ok (.getfield 60, 3) := by decide +kernel
theorem dX6_commandAt_19 : decode cX6_commandAt 19 = .ok (.iload_n 1, 1) := by decide +kernel
theorem dX6_commandAt_20 : decode cX6_commandAt 20 = .ok (.iload_n 2, 1) := by decide +kernel
theorem dX6_commandAt_21 : decode cX6_commandAt 21 = .ok (.invokevirtual 64, 3) := by decide +kernel
theorem dX6_commandAt_24 : decode cX6_commandAt 24 = .ok (.ifCond .eq 9, 3) := by decide +kernel
theorem dX6_commandAt_27 : decode cX6_commandAt 27 = .ok (.getstatic 57, 3) := by decide +kernel
theorem dX6_commandAt_30 : decode cX6_commandAt 30 = .ok (.iload_n 3, 1) := by decide +kernel
theorem dX6_commandAt_31 : decode cX6_commandAt 31 = .ok (.aaload, 1) := by decide +kernel
theorem dX6_commandAt_32 : decode cX6_commandAt 32 = .ok (.areturn, 1) := by decide +kernel
theorem dX6_commandAt_33 : decode cX6_commandAt 33 = .ok (.iinc 3 1, 3) := by decide +kernel
theorem dX6_commandAt_36 : decode cX6_commandAt 36 = .ok (.goto (-34), 3) := by decide +kernel
theorem dX6_commandAt_39 : decode cX6_commandAt 39 = .ok (.aconst_null, 1) := by decide +kernel
theorem dX6_commandAt_40 : decode cX6_commandAt 40 = .ok (.areturn, 1) := by decide +kernel
theorem dX6_isWordAt_0 : decode cX6_isWordAt 0 = .ok (.aload_n 1, 1) := by decide +kernel
theorem dX6_isWordAt_1 : decode cX6_isWordAt 1 = .ok (.invokevirtual 68, 3) := by decide +kernel
theorem dX6_isWordAt_4 : decode cX6_isWordAt 4 = .ok (.iload_n 3, 1) := by decide +kernel
theorem dX6_isWordAt_5 : decode cX6_isWordAt 5 = .ok (.iload_n 2, 1) := by decide +kernel
theorem dX6_isWordAt_6 : decode cX6_isWordAt 6 = .ok (.isub, 1) := by decide +kernel
theorem dX6_isWordAt_7 : decode cX6_isWordAt 7 = .ok (.if_icmp .eq 5, 3) := by decide +kernel
theorem dX6_isWordAt_10 : decode cX6_isWordAt 10 = .ok (.iconst 0, 1) := by decide +kernel
theorem dX6_isWordAt_11 : decode cX6_isWordAt 11 = .ok (.ireturn, 1) := by decide +kernel
theorem dX6_isWordAt_12 : decode cX6_isWordAt 12 = .ok (.iconst 0, 1) := by decide +kernel
theorem dX6_isWordAt_13 : decode cX6_isWordAt 13 = .ok (.istore 4, 2) := by decide +kernel
theorem dX6_isWordAt_15 : decode cX6_isWordAt 15 = .ok (.iload 4, 2) := by decide +kernel
theorem dX6_isWordAt_17 : decode cX6_isWordAt 17 = .ok (.aload_n 1, 1) := by decide +kernel
theorem dX6_isWordAt_18 : decode cX6_isWordAt 18 = .ok (.invokevirtual 68, 3) := by decide +kernel
theorem dX6_isWordAt_21 : decode cX6_isWordAt 21 = .ok (.if_icmp .ge 29, 3) := by decide +kernel
theorem dX6_isWordAt_24 : decode cX6_isWordAt 24 = .ok (.aload_n 1, 1) := by decide +kernel
theorem dX6_isWordAt_25 : decode cX6_isWordAt 25 = .ok (.iload 4, 2) := by decide +kernel
theorem dX6_isWordAt_27 : decode cX6_isWordAt 27 = .ok (.invokevirtual 73, 3) := by decide +kernel
theorem dX6_isWordAt_30 : decode cX6_isWordAt 30 = .ok (.aload_n 0, 1) := by decide +kernel
theorem dX6_isWordAt_31 : decode cX6_isWordAt 31 = .ok (.getfield 9, 3) := by decide +kernel
theorem dX6_isWordAt_34 : decode cX6_isWordAt 34 = .ok (.iload_n 2, 1) := by decide +kernel
theorem dX6_isWordAt_35 : decode cX6_isWordAt 35 = .ok (.iload 4, 2) := by decide +kernel
theorem dX6_isWordAt_37 : decode cX6_isWordAt 37 = .ok (.iadd, 1) := by decide +kernel
theorem dX6_isWordAt_38 : decode cX6_isWordAt 38 = .ok (.iaload, 1) := by decide +kernel
theorem dX6_isWordAt_39 : decode cX6_isWordAt 39 = .ok (.if_icmp .eq 5, 3) := by decide +kernel
theorem dX6_isWordAt_42 : decode cX6_isWordAt 42 = .ok (.iconst 0, 1) := by decide +kernel
theorem dX6_isWordAt_43 : decode cX6_isWordAt 43 = .ok (.ireturn, 1) := by decide +kernel
theorem dX6_isWordAt_44 : decode cX6_isWordAt 44 = .ok (.iinc 4 1, 3) := by decide +kernel
theorem dX6_isWordAt_47 : decode cX6_isWordAt 47 = .ok (.goto (-32), 3) := by decide +kernel
theorem dX6_isWordAt_50 : decode cX6_isWordAt 50 = .ok (.iconst 1, 1) := by decide +kernel
theorem dX6_isWordAt_51 : decode cX6_isWordAt 51 = .ok (.ireturn, 1) := by decide +kernel
theorem dX6_numberAt_0 : decode cX6_numberAt 0 = .ok (.iconst 0, 1) := by decide +kernel
theorem dX6_numberAt_1 : decode cX6_numberAt 1 = .ok (.istore_n 3, 1) := by decide +kernel
theorem dX6_numberAt_2 : decode cX6_numberAt 2 = .ok (.iload_n 1, 1) := by decide +kernel
theorem dX6_numberAt_3 : decode cX6_numberAt 3 = .ok (.istore 4, 2) := by decide +kernel
theorem dX6_numberAt_5 : decode cX6_numberAt 5 = .ok (.iload 4, 2) := by decide +kernel
theorem dX6_numberAt_7 : decode cX6_numberAt 7 = .ok (.iload_n 2, 1) := by decide +kernel
theorem dX6_numberAt_8 : decode cX6_numberAt 8 = .ok (.if_icmp .ge 25, 3) := by decide +kernel
theorem dX6_numberAt_11 : decode cX6_numberAt 11 = .ok (.bipush 10, 2) := by decide +kernel
theorem dX6_numberAt_13 : decode cX6_numberAt 13 = .ok (.iload_n 3, 1) := by decide +kernel
theorem dX6_numberAt_14 : decode cX6_numberAt 14 = .ok (.imul, 1) := by decide +kernel
theorem dX6_numberAt_15 : decode cX6_numberAt 15 = .ok (.aload_n 0, 1) := by decide +kernel
theorem dX6_numberAt_16 : decode cX6_numberAt 16 = .ok (.getfield 9, 3) := by decide +kernel
theorem dX6_numberAt_19 : decode cX6_numberAt 19 = .ok (.iload 4, 2) := by decide +kernel
theorem dX6_numberAt_21 : decode cX6_numberAt 21 = .ok (.iaload, 1) := by decide +kernel
theorem dX6_numberAt_22 : decode cX6_numberAt 22 = .ok (.iadd, 1) := by decide +kernel
theorem dX6_numberAt_23 : decode cX6_numberAt 23 = .ok (.bipush 48, 2) := by decide +kernel
theorem dX6_numberAt_25 : decode cX6_numberAt 25 = .ok (.isub, 1) := by decide +kernel
theorem dX6_numberAt_26 : decode cX6_numberAt 26 = .ok (.istore_n 3, 1) := by decide +kernel
theorem dX6_numberAt_27 : decode cX6_numberAt 27 = .ok (.iinc 4 1, 3) := by decide +kernel
theorem dX6_numberAt_30 : decode cX6_numberAt 30 = .ok (.goto (-25), 3) := by decide +kernel
theorem dX6_numberAt_33 : decode cX6_numberAt 33 = .ok (.iload_n 3, 1) := by decide +kernel
theorem dX6_numberAt_34 : decode cX6_numberAt 34 = .ok (.ireturn, 1) := by decide +kernel
theorem dJ6_bitCount_0f7a4_0 : decode cJ6_bitCount_0f7a4 0 = .ok (.iload_n 0, 1) := by decide +kernel
theorem dJ6_bitCount_0f7a4_1 : decode cJ6_bitCount_0f7a4 1 = .ok (.iload_n 0, 1) := by decide +kernel
theorem dJ6_bitCount_0f7a4_2 : decode cJ6_bitCount_0f7a4 2 = .ok (.iconst 1, 1) := by decide +kernel
theorem dJ6_bitCount_0f7a4_3 : decode cJ6_bitCount_0f7a4 3 = .ok (.iushr, 1) := by decide +kernel
theorem dJ6_bitCount_0f7a4_4 : decode cJ6_bitCount_0f7a4 4 = .ok (.ldc_w 265, 3) := by decide +kernel
theorem dJ6_bitCount_0f7a4_7 : decode cJ6_bitCount_0f7a4 7 = .ok (.iand, 1) := by decide +kernel
theorem dJ6_bitCount_0f7a4_8 : decode cJ6_bitCount_0f7a4 8 = .ok (.isub, 1) := by decide +kernel
theorem dJ6_bitCount_0f7a4_9 : decode cJ6_bitCount_0f7a4 9 = .ok (.istore_n 0, 1) := by decide +kernel
theorem dJ6_bitCount_0f7a4_10 : decode cJ6_bitCount_0f7a4 10 = .ok (.iload_n 0, 1) := by decide +kernel
theorem dJ6_bitCount_0f7a4_11 : decode cJ6_bitCount_0f7a4 11 = .ok (.ldc_w 266, 3) := by decide +kernel
theorem dJ6_bitCount_0f7a4_14 : decode cJ6_bitCount_0f7a4 14 = .ok (.iand, 1) := by decide +kernel
theorem dJ6_bitCount_0f7a4_15 : decode cJ6_bitCount_0f7a4 15 = .ok (.iload_n 0, 1) := by decide +kernel
theorem dJ6_bitCount_0f7a4_16 : decode cJ6_bitCount_0f7a4 16 = .ok (.iconst 2, 1) := by decide +kernel
theorem dJ6_bitCount_0f7a4_17 : decode cJ6_bitCount_0f7a4 17 = .ok (.iushr, 1) := by decide +kernel
theorem dJ6_bitCount_0f7a4_18 : decode cJ6_bitCount_0f7a4 18 = .ok (.ldc_w 266, 3) := by decide +kernel
theorem dJ6_bitCount_0f7a4_21 : decode cJ6_bitCount_0f7a4 21 = .ok (.iand, 1) := by decide +kernel
theorem dJ6_bitCount_0f7a4_22 : decode cJ6_bitCount_0f7a4 22 = .ok (.iadd, 1) := by decide +kernel
theorem dJ6_bitCount_0f7a4_23 : decode cJ6_bitCount_0f7a4 23 = .ok (.istore_n 0, 1) := by decide +kernel
theorem dJ6_bitCount_0f7a4_24 : decode cJ6_bitCount_0f7a4 24 = .ok (.iload_n 0, 1) := by decide +kernel
theorem dJ6_bitCount_0f7a4_25 : decode cJ6_bitCount_0f7a4 25 = .ok (.iload_n 0, 1) := by decide +kernel
theorem dJ6_bitCount_0f7a4_26 : decode cJ6_bitCount_0f7a4 26 = .ok (.iconst 4, 1) := by decide +kernel
theorem dJ6_bitCount_0f7a4_27 : decode cJ6_bitCount_0f7a4 27 = .ok (.iushr, 1) := by decide +kernel
theorem dJ6_bitCount_0f7a4_28 : decode cJ6_bitCount_0f7a4 28 = .ok (.iadd, 1) := by decide +kernel
theorem dJ6_bitCount_0f7a4_29 : decode cJ6_bitCount_0f7a4 29 = .ok (.ldc_w 267, 3) := by decide +kernel
theorem dJ6_bitCount_0f7a4_32 : decode cJ6_bitCount_0f7a4 32 = .ok (.iand, 1) := by decide +kernel
theorem dJ6_bitCount_0f7a4_33 : decode cJ6_bitCount_0f7a4 33 = .ok (.istore_n 0, 1) := by decide +kernel
theorem dJ6_bitCount_0f7a4_34 : decode cJ6_bitCount_0f7a4 34 = .ok (.iload_n 0, 1) := by decide +kernel
theorem dJ6_bitCount_0f7a4_35 : decode cJ6_bitCount_0f7a4 35 = .ok (.iload_n 0, 1) := by decide +kernel
theorem dJ6_bitCount_0f7a4_36 : decode cJ6_bitCount_0f7a4 36 = .ok (.bipush 8, 2) := by decide +kernel
theorem dJ6_bitCount_0f7a4_38 : decode cJ6_bitCount_0f7a4 38 = .ok (.iushr, 1) := by decide +kernel
theorem dJ6_bitCount_0f7a4_39 : decode cJ6_bitCount_0f7a4 39 = .ok (.iadd, 1) := by decide +kernel
theorem dJ6_bitCount_0f7a4_40 : decode cJ6_bitCount_0f7a4 40 = .ok (.istore_n 0, 1) := by decide +kernel
theorem dJ6_bitCount_0f7a4_41 : decode cJ6_bitCount_0f7a4 41 = .ok (.iload_n 0, 1) := by decide +kernel
theorem dJ6_bitCount_0f7a4_42 : decode cJ6_bitCount_0f7a4 42 = .ok (.iload_n 0, 1) := by decide +kernel
theorem dJ6_bitCount_0f7a4_43 : decode cJ6_bitCount_0f7a4 43 = .ok (.bipush 16, 2) := by decide +kernel
theorem dJ6_bitCount_0f7a4_45 : decode cJ6_bitCount_0f7a4 45 = .ok (.iushr, 1) := by decide +kernel
theorem dJ6_bitCount_0f7a4_46 : decode cJ6_bitCount_0f7a4 46 = .ok (.iadd, 1) := by decide +kernel
theorem dJ6_bitCount_0f7a4_47 : decode cJ6_bitCount_0f7a4 47 = .ok (.istore_n 0, 1) := by decide +kernel
theorem dJ6_bitCount_0f7a4_48 : decode cJ6_bitCount_0f7a4 48 = .ok (.iload_n 0, 1) := by decide +kernel
theorem dJ6_bitCount_0f7a4_49 : decode cJ6_bitCount_0f7a4 49 = .ok (.bipush 63, 2) := by decide +kernel
theorem dJ6_bitCount_0f7a4_51 : decode cJ6_bitCount_0f7a4 51 = .ok (.iand, 1) := by decide +kernel
theorem dJ6_bitCount_0f7a4_52 : decode cJ6_bitCount_0f7a4 52 = .ok (.ireturn, 1) := by decide +kernel
theorem dJ9_abs_0f7a4_0 : decode cJ9_abs_0f7a4 0 = .ok (.iload_n 0, 1) := by decide +kernel
theorem dJ9_abs_0f7a4_1 : decode cJ9_abs_0f7a4 1 = .ok (.ifCond .ge 8, 3) := by decide +kernel
theorem dJ9_abs_0f7a4_4 : decode cJ9_abs_0f7a4 4 = .ok (.iload_n 0, 1) := by decide +kernel
theorem dJ9_abs_0f7a4_5 : decode cJ9_abs_0f7a4 5 = .ok (.ineg, 1) := by decide +kernel
theorem dJ9_abs_0f7a4_6 : decode cJ9_abs_0f7a4 6 = .ok (.goto 4, 3) := by decide +kernel
theorem dJ9_abs_0f7a4_9 : decode cJ9_abs_0f7a4 9 = .ok (.iload_n 0, 1) := by decide +kernel
theorem dJ9_abs_0f7a4_10 : decode cJ9_abs_0f7a4 10 = .ok (.ireturn, 1) := by decide +kernel
theorem dJ9_max_7cf53_0 : decode cJ9_max_7cf53 0 = .ok (.iload_n 0, 1) := by decide +kernel
theorem dJ9_max_7cf53_1 : decode cJ9_max_7cf53 1 = .ok (.iload_n 1, 1) := by decide +kernel
theorem dJ9_max_7cf53_2 : decode cJ9_max_7cf53 2 = .ok (.if_icmp .lt 7, 3) := by decide +kernel
theorem dJ9_max_7cf53_5 : decode cJ9_max_7cf53 5 = .ok (.iload_n 0, 1) := by decide +kernel
theorem dJ9_max_7cf53_6 : decode cJ9_max_7cf53 6 = .ok (.goto 4, 3) := by decide +kernel
theorem dJ9_max_7cf53_9 : decode cJ9_max_7cf53 9 = .ok (.iload_n 1, 1) := by decide +kernel
theorem dJ9_max_7cf53_10 : decode cJ9_max_7cf53 10 = .ok (.ireturn, 1) := by decide +kernel
theorem dJ9_max_f86c9_0 : decode cJ9_max_f86c9 0 = .ok (.lload_n 0, 1) := by decide +kernel
theorem dJ9_max_f86c9_1 : decode cJ9_max_f86c9 1 = .ok (.lload_n 2, 1) := by decide +kernel
theorem dJ9_max_f86c9_2 : decode cJ9_max_f86c9 2 = .ok (.lcmp, 1) := by decide +kernel
theorem dJ9_max_f86c9_3 : decode cJ9_max_f86c9 3 = .ok (.ifCond .lt 7, 3) := by decide +kernel
theorem dJ9_max_f86c9_6 : decode cJ9_max_f86c9 6 = .ok (.lload_n 0, 1) := by decide +kernel
theorem dJ9_max_f86c9_7 : decode cJ9_max_f86c9 7 = .ok (.goto 4, 3) := by decide +kernel
theorem dJ9_max_f86c9_10 : decode cJ9_max_f86c9 10 = .ok (.lload_n 2, 1) := by decide +kernel
theorem dJ9_max_f86c9_11 : decode cJ9_max_f86c9 11 = .ok (.lreturn, 1) := by decide +kernel
theorem dJ9_min_7cf53_0 : decode cJ9_min_7cf53 0 = .ok (.iload_n 0, 1) := by decide +kernel
theorem dJ9_min_7cf53_1 : decode cJ9_min_7cf53 1 = .ok (.iload_n 1, 1) := by decide +kernel
theorem dJ9_min_7cf53_2 : decode cJ9_min_7cf53 2 = .ok (.if_icmp .gt 7, 3) := by decide +kernel
theorem dJ9_min_7cf53_5 : decode cJ9_min_7cf53 5 = .ok (.iload_n 0, 1) := by decide +kernel
theorem dJ9_min_7cf53_6 : decode cJ9_min_7cf53 6 = .ok (.goto 4, 3) := by decide +kernel
theorem dJ9_min_7cf53_9 : decode cJ9_min_7cf53 9 = .ok (.iload_n 1, 1) := by decide +kernel
theorem dJ9_min_7cf53_10 : decode cJ9_min_7cf53 10 = .ok (.ireturn, 1) := by decide +kernel
theorem dJ0_length_8abf5_0 : decode cJ0_length_8abf5 0 = .ok (.aload_n 0, 1) := by decide +kernel
theorem dJ0_length_8abf5_1 : decode cJ0_length_8abf5 1 = .ok (.getfield 9, 3) := by decide +kernel
theorem dJ0_length_8abf5_4 : decode cJ0_length_8abf5 4 = .ok (.arraylength, 1) := by decide +kernel
theorem dJ0_length_8abf5_5 : decode cJ0_length_8abf5 5 = .ok (.aload_n 0, 1) := by decide +kernel
theorem dJ0_length_8abf5_6 : decode cJ0_length_8abf5 6 = .ok (.invokevirtual 335, 3) := by decide +kernel
theorem dJ0_length_8abf5_9 : decode cJ0_length_8abf5 9 = .ok (.ishr, 1) := by decide +kernel
theorem dJ0_length_8abf5_10 : decode cJ0_length_8abf5 10 = .ok (.ireturn, 1) := by decide +kernel
theorem dJ0_charAt_5068e_0 : decode cJ0_charAt_5068e 0 = .ok (.aload_n 0, 1) := by decide +kernel
theorem dJ0_charAt_5068e_1 : decode cJ0_charAt_5068e 1 = .ok (.invokevirtual 492, 3) := by decide +kernel
theorem dJ0_charAt_5068e_4 : decode cJ0_charAt_5068e 4 = .ok (.ifCond .eq 12, 3) := by decide +kernel
theorem dJ0_charAt_5068e_7 : decode cJ0_charAt_5068e 7 = .ok (.aload_n 0, 1) := by decide +kernel
theorem dJ0_charAt_5068e_8 : decode cJ0_charAt_5068e 8 = .ok (.getfield 9, 3) := by decide +kernel
theorem dJ0_charAt_5068e_11 : decode cJ0_charAt_5068e 11 = .ok (.iload_n 1, 1) := by decide +kernel
theorem dJ0_charAt_5068e_12 : decode cJ0_charAt_5068e 12 = .ok (.invokestatic 495, 3) := by decide +kernel
theorem dJ0_charAt_5068e_15 : decode cJ0_charAt_5068e 15 = .ok (.ireturn, 1) := by decide +kernel
theorem dJ0_charAt_5068e_16 : decode cJ0_charAt_5068e 16 = .ok (.aload_n 0, 1) := by decide +kernel
theorem dJ0_charAt_5068e_17 : decode cJ0_charAt_5068e 17 = .ok (.getfield 9, 3) := by decide +kernel
theorem dJ0_charAt_5068e_20 : decode cJ0_charAt_5068e 20 = .ok (.iload_n 1, 1) := by decide +kernel
theorem dJ0_charAt_5068e_21 : decode cJ0_charAt_5068e 21 = .ok (.invokestatic 498, 3) := by decide +kernel
theorem dJ0_charAt_5068e_24 : decode cJ0_charAt_5068e 24 = .ok (.ireturn, 1) := by decide +kernel
theorem dJ0_coder_7d493_0 : decode cJ0_coder_7d493 0 = .ok (.getstatic 38, 3) := by decide +kernel
theorem dJ0_coder_7d493_3 : decode cJ0_coder_7d493 3 = .ok (.ifCond .eq 10, 3) := by decide +kernel
theorem dJ0_coder_7d493_6 : decode cJ0_coder_7d493 6 = .ok (.aload_n 0, 1) := by decide +kernel
theorem dJ0_coder_7d493_7 : decode cJ0_coder_7d493 7 = .ok (.getfield 15, 3) := by decide +kernel
theorem dJ0_coder_7d493_10 : decode cJ0_coder_7d493 10 = .ok (.goto 4, 3) := by decide +kernel
theorem dJ0_coder_7d493_13 : decode cJ0_coder_7d493 13 = .ok (.iconst 1, 1) := by decide +kernel
theorem dJ0_coder_7d493_14 : decode cJ0_coder_7d493 14 = .ok (.ireturn, 1) := by decide +kernel
theorem dJ0_isLatin1_aae02_0 : decode cJ0_isLatin1_aae02 0 = .ok (.getstatic 38, 3) := by decide +kernel
theorem dJ0_isLatin1_aae02_3 : decode cJ0_isLatin1_aae02 3 = .ok (.ifCond .eq 14, 3) := by decide +kernel
theorem dJ0_isLatin1_aae02_6 : decode cJ0_isLatin1_aae02 6 = .ok (.aload_n 0, 1) := by decide +kernel
theorem dJ0_isLatin1_aae02_7 : decode cJ0_isLatin1_aae02 7 = .ok (.getfield 15, 3) := by decide +kernel
theorem dJ0_isLatin1_aae02_10 : decode cJ0_isLatin1_aae02 10 = .ok (.ifCond .ne 7, 3) := by decide +kernel
theorem dJ0_isLatin1_aae02_13 : decode cJ0_isLatin1_aae02 13 = .ok (.iconst 1, 1) := by decide +kernel
theorem dJ0_isLatin1_aae02_14 : decode cJ0_isLatin1_aae02 14 = .ok (.goto 4, 3) := by decide +kernel
theorem dJ0_isLatin1_aae02_17 : decode cJ0_isLatin1_aae02 17 = .ok (.iconst 0, 1) := by decide +kernel
theorem dJ0_isLatin1_aae02_18 : decode cJ0_isLatin1_aae02 18 = .ok (.ireturn, 1) := by decide +kernel
theorem dJ0_checkIndex_df160_0 : decode cJ0_checkIndex_df160 0 = .ok (.iload_n 0, 1) := by decide +kernel
theorem dJ0_checkIndex_df160_1 : decode cJ0_checkIndex_df160 1 = .ok (.iload_n 1, 1) := by decide +kernel
theorem dJ0_checkIndex_df160_2 : decode cJ0_checkIndex_df160 2 = .ok (.getstatic 1053, 3) := by decide +kernel
theorem dJ0_checkIndex_df160_5 : decode cJ0_checkIndex_df160 5 = .ok (.invokestatic 1059, 3) := by decide +kernel
theorem dJ0_checkIndex_df160_8 : decode cJ0_checkIndex_df160 8 = .ok (.pop, 1) := by decide +kernel
theorem dJ0_checkIndex_df160_9 : decode cJ0_checkIndex_df160 9 = .ok (.return_, 1) := by decide +kernel
theorem dJ1_charAt_3b067_0 : decode cJ1_charAt_3b067 0 = .ok (.iload_n 1, 1) := by decide +kernel
theorem dJ1_charAt_3b067_1 : decode cJ1_charAt_3b067 1 = .ok (.aload_n 0, 1) := by decide +kernel
theorem dJ1_charAt_3b067_2 : decode cJ1_charAt_3b067 2 = .ok (.arraylength, 1) := by decide +kernel
theorem dJ1_charAt_3b067_3 : decode cJ1_charAt_3b067 3 = .ok (.invokestatic 9, 3) := by decide +kernel
theorem dJ1_charAt_3b067_6 : decode cJ1_charAt_3b067 6 = .ok (.aload_n 0, 1) := by decide +kernel
theorem dJ1_charAt_3b067_7 : decode cJ1_charAt_3b067 7 = .ok (.iload_n 1, 1) := by decide +kernel
theorem dJ1_charAt_3b067_8 : decode cJ1_charAt_3b067 8 = .ok (.baload, 1) := by decide +kernel
theorem dJ1_charAt_3b067_9 : decode cJ1_charAt_3b067 9 = .ok (.sipush 255, 3) := by decide +kernel
theorem dJ1_charAt_3b067_12 : decode cJ1_charAt_3b067 12 = .ok (.iand, 1) := by decide +kernel
theorem dJ1_charAt_3b067_13 : decode cJ1_charAt_3b067 13 = .ok (.i2c, 1) := by decide +kernel
theorem dJ1_charAt_3b067_14 : decode cJ1_charAt_3b067 14 = .ok (.ireturn, 1) := by decide +kernel
theorem dJ2_getChar_3b067_0 : decode cJ2_getChar_3b067 0 = .ok (.getstatic 44, 3) := by decide +kernel
theorem dJ2_getChar_3b067_3 : decode cJ2_getChar_3b067 3 = .ok (.ifCond .ne 25, 3) := by decide +kernel
theorem dJ2_getChar_3b067_6 : decode cJ2_getChar_3b067 6 = .ok (.iload_n 1, 1) := by decide +kernel
theorem dJ2_getChar_3b067_7 : decode cJ2_getChar_3b067 7 = .ok (.ifCond .lt 11, 3) := by decide +kernel
theorem dJ2_getChar_3b067_10 : decode cJ2_getChar_3b067 10 = .ok (.iload_n 1, 1) := by decide +kernel
theorem dJ2_getChar_3b067_11 : decode cJ2_getChar_3b067 11 = .ok (.aload_n 0, 1) := by decide +kernel
theorem dJ2_getChar_3b067_12 : decode cJ2_getChar_3b067 12 = .ok (.invokestatic 48, 3) := by decide +kernel
theorem dJ2_getChar_3b067_15 : decode cJ2_getChar_3b067 15 = .ok (.if_icmp .lt 13, 3) := by decide +kernel
theorem dJ2_getChar_3b067_18 : decode cJ2_getChar_3b067 18 = .ok (.new 52, 3) := by decide +kernel
theorem dJ2_getChar_3b067_21 : decode cJ2_getChar_3b067 21 = .ok (.dup, 1) := by decide +kernel
theorem dJ2_getChar_3b067_22 : decode cJ2_getChar_3b067 22 = .ok (.ldc 54, 2) := by decide +kernel
theorem dJ2_getChar_3b067_24 : decode cJ2_getChar_3b067 24 = .ok (.invokespecial 56, 3) := by decide +kernel
theorem dJ2_getChar_3b067_27 : decode cJ2_getChar_3b067 27 = .ok (.athrow, 1) := by decide +kernel
theorem dJ2_getChar_3b067_28 : decode cJ2_getChar_3b067 28 = .ok (.iload_n 1, 1) := by decide +kernel
theorem dJ2_getChar_3b067_29 : decode cJ2_getChar_3b067 29 = .ok (.iconst 1, 1) := by decide +kernel
theorem dJ2_getChar_3b067_30 : decode cJ2_getChar_3b067 30 = .ok (.ishl, 1) := by decide +kernel
theorem dJ2_getChar_3b067_31 : decode cJ2_getChar_3b067 31 = .ok (.istore_n 1, 1) := by decide +kernel
theorem dJ2_getChar_3b067_32 : decode cJ2_getChar_3b067 32 = .ok (.aload_n 0, 1) := by decide +kernel
theorem dJ2_getChar_3b067_33 : decode cJ2_getChar_3b067 33 = .ok (.iload_n 1, 1) := by decide +kernel
theorem dJ2_getChar_3b067_34 : decode cJ2_getChar_3b067 34 = .ok (.iinc 1 1, 3) := by decide +kernel
theorem dJ2_getChar_3b067_37 : decode cJ2_getChar_3b067 37 = .ok (.baload, 1) := by decide +kernel
theorem dJ2_getChar_3b067_38 : decode cJ2_getChar_3b067 38 = .ok (.sipush 255, 3) := by decide +kernel
theorem dJ2_getChar_3b067_41 : decode cJ2_getChar_3b067 41 = .ok (.iand, 1) := by decide +kernel
theorem dJ2_getChar_3b067_42 : decode cJ2_getChar_3b067 42 = .ok (.getstatic 59, 3) := by decide +kernel
theorem dJ2_getChar_3b067_45 : decode cJ2_getChar_3b067 45 = .ok (.ishl, 1) := by decide +kernel
theorem dJ2_getChar_3b067_46 : decode cJ2_getChar_3b067 46 = .ok (.aload_n 0, 1) := by decide +kernel
theorem dJ2_getChar_3b067_47 : decode cJ2_getChar_3b067 47 = .ok (.iload_n 1, 1) := by decide +kernel
theorem dJ2_getChar_3b067_48 : decode cJ2_getChar_3b067 48 = .ok (.baload, 1) := by decide +kernel
theorem dJ2_getChar_3b067_49 : decode cJ2_getChar_3b067 49 = .ok (.sipush 255, 3) := by decide +kernel
theorem dJ2_getChar_3b067_52 : decode cJ2_getChar_3b067 52 = .ok (.iand, 1) := by decide +kernel
theorem dJ2_getChar_3b067_53 : decode cJ2_getChar_3b067 53 = .ok (.getstatic 63, 3) := by decide +kernel
theorem dJ2_getChar_3b067_56 : decode cJ2_getChar_3b067 56 = .ok (.ishl, 1) := by decide +kernel
theorem dJ2_getChar_3b067_57 : decode cJ2_getChar_3b067 57 = .ok (.ior, 1) := by decide +kernel
theorem dJ2_getChar_3b067_58 : decode cJ2_getChar_3b067 58 = .ok (.i2c, 1) := by decide +kernel
theorem dJ2_getChar_3b067_59 : decode cJ2_getChar_3b067 59 = .ok (.ireturn, 1) := by decide +kernel
theorem dJ2_length_9d52b_0 : decode cJ2_length_9d52b 0 = .ok (.aload_n 0, 1) := by decide +kernel
theorem dJ2_length_9d52b_1 : decode cJ2_length_9d52b 1 = .ok (.arraylength, 1) := by decide +kernel
theorem dJ2_length_9d52b_2 : decode cJ2_length_9d52b 2 = .ok (.iconst 1, 1) := by decide +kernel
theorem dJ2_length_9d52b_3 : decode cJ2_length_9d52b 3 = .ok (.ishr, 1) := by decide +kernel
theorem dJ2_length_9d52b_4 : decode cJ2_length_9d52b 4 = .ok (.ireturn, 1) := by decide +kernel
theorem dJ2_charAt_3b067_0 : decode cJ2_charAt_3b067 0 = .ok (.iload_n 1, 1) := by decide +kernel
theorem dJ2_charAt_3b067_1 : decode cJ2_charAt_3b067 1 = .ok (.aload_n 0, 1) := by decide +kernel
theorem dJ2_charAt_3b067_2 : decode cJ2_charAt_3b067 2 = .ok (.invokestatic 67, 3) := by decide +kernel
theorem dJ2_charAt_3b067_5 : decode cJ2_charAt_3b067 5 = .ok (.aload_n 0, 1) := by decide +kernel
theorem dJ2_charAt_3b067_6 : decode cJ2_charAt_3b067 6 = .ok (.iload_n 1, 1) := by decide +kernel
theorem dJ2_charAt_3b067_7 : decode cJ2_charAt_3b067 7 = .ok (.invokestatic 71, 3) := by decide +kernel
theorem dJ2_charAt_3b067_10 : decode cJ2_charAt_3b067 10 = .ok (.ireturn, 1) := by decide +kernel
theorem dJ2_checkIndex_2214a_0 : decode cJ2_checkIndex_2214a 0 = .ok (.iload_n 0, 1) := by decide +kernel
theorem dJ2_checkIndex_2214a_1 : decode cJ2_checkIndex_2214a 1 = .ok (.aload_n 1, 1) := by decide +kernel
theorem dJ2_checkIndex_2214a_2 : decode cJ2_checkIndex_2214a 2 = .ok (.invokestatic 48, 3) := by decide +kernel
theorem dJ2_checkIndex_2214a_5 : decode cJ2_checkIndex_2214a 5 = .ok (.invokestatic 414, 3) := by decide +kernel
theorem dJ2_checkIndex_2214a_8 : decode cJ2_checkIndex_2214a 8 = .ok (.return_, 1) := by decide +kernel
theorem dJ3_checkIndex_8e157_0 : decode cJ3_checkIndex_8e157 0 = .ok (.iload_n 0, 1) := by decide +kernel
theorem dJ3_checkIndex_8e157_1 : decode cJ3_checkIndex_8e157 1 = .ok (.ifCond .lt 8, 3) := by decide +kernel
theorem dJ3_checkIndex_8e157_4 : decode cJ3_checkIndex_8e157 4 = .ok (.iload_n 0, 1) := by decide +kernel
theorem dJ3_checkIndex_8e157_5 : decode cJ3_checkIndex_8e157 5 = .ok (.iload_n 1, 1) := by decide +kernel
theorem dJ3_checkIndex_8e157_6 : decode cJ3_checkIndex_8e157 6 = .ok (.if_icmp .lt 10, 3) := by decide +kernel
theorem dJ3_checkIndex_8e157_9 : decode cJ3_checkIndex_8e157 9 = .ok (.aload_n 2, 1) := by decide +kernel
theorem dJ3_checkIndex_8e157_10 : decode cJ3_checkIndex_8e157 10 = .ok (.iload_n 0, 1) := by decide +kernel
theorem dJ3_checkIndex_8e157_11 : decode cJ3_checkIndex_8e157 11 = .ok (.iload_n 1, 1) := by decide +kernel
theorem dJ3_checkIndex_8e157_12 : decode cJ3_checkIndex_8e157 12 = .ok (.invokestatic 95, 3) := by decide +kernel
theorem dJ3_checkIndex_8e157_15 : decode cJ3_checkIndex_8e157 15 = .ok (.athrow, 1) := by decide +kernel
theorem dJ3_checkIndex_8e157_16 : decode cJ3_checkIndex_8e157 16 = .ok (.iload_n 0, 1) := by decide +kernel
theorem dJ3_checkIndex_8e157_17 : decode cJ3_checkIndex_8e157 17 = .ok (.ireturn, 1) := by decide +kernel
end
section
theorem dX7_init_0 : decode cX7_init 0 = .ok (.aload_n 0, 1) := by decide +kernel
theorem dX7_init_1 : decode cX7_init 1 = .ok (.invokespecial 1, 3) := by decide +kernel
theorem dX7_init_4 : decode cX7_init 4 = .ok (.aload_n 0, 1) := by decide +kernel
theorem dX7_init_5 : decode cX7_init 5 = .ok (.new 7, 3) := by decide +kernel
theorem dX7_init_8 : decode cX7_init 8 = .ok (.dup, 1) := by decide +kernel
theorem dX7_init_9 : decode cX7_init 9 = .ok (.invokespecial 9, 3) := by decide +kernel
theorem dX7_init_12 : decode cX7_init 12 = .ok (.putfield 10, 3) := by decide +kernel
theorem dX7_init_15 : decode cX7_init 15 = .ok (.aload_n 0, 1) := by decide +kernel
theorem dX7_init_16 : decode cX7_init 16 = .ok (.new 16, 3) := by decide +kernel
theorem dX7_init_19 : decode cX7_init 19 = .ok (.dup, 1) := by decide +kernel
theorem dX7_init_20 : decode cX7_init 20 = .ok (.invokespecial 18, 3) := by decide +kernel
theorem dX7_init_23 : decode cX7_init 23 = .ok (.putfield 19, 3) := by decide +kernel
theorem dX7_init_26 : decode cX7_init 26 = .ok (.aload_n 0, 1) := by decide +kernel
theorem dX7_init_27 : decode cX7_init 27 = .ok (.new 23, 3) := by decide +kernel
theorem dX7_init_30 : decode cX7_init 30 = .ok (.dup, 1) := by decide +kernel
theorem dX7_init_31 : decode cX7_init 31 = .ok (.aload_n 0, 1) := by decide +kernel
theorem dX7_init_32 : decode cX7_init 32 = .ok (.getfield 10, 3) := by decide +kernel
theorem dX7_init_35 : decode cX7_init 35 = .ok (.invokespecial 25, 3) := by decide +kernel
theorem dX7_init_38 : decode cX7_init 38 = .ok (.putfield 28, 3) := by decide +kernel
theorem dX7_init_41 : decode cX7_init 41 = .ok (.aload_n 0, 1) := by decide +kernel
theorem dX7_init_42 : decode cX7_init 42 = .ok (.new 23, 3) := by decide +kernel
theorem dX7_init_45 : decode cX7_init 45 = .ok (.dup, 1) := by decide +kernel
theorem dX7_init_46 : decode cX7_init 46 = .ok (.aload_n 0, 1) := by decide +kernel
theorem dX7_init_47 : decode cX7_init 47 = .ok (.getfield 10, 3) := by decide +kernel
theorem dX7_init_50 : decode cX7_init 50 = .ok (.invokespecial 25, 3) := by decide +kernel
theorem dX7_init_53 : decode cX7_init 53 = .ok (.putfield 32, 3) := by decide +kernel
theorem dX7_init_56 : decode cX7_init 56 = .ok (.aload_n 0, 1) := by decide +kernel
theorem dX7_init_57 : decode cX7_init 57 = .ok (.new 35, 3) := by decide +kernel
theorem dX7_init_60 : decode cX7_init 60 = .ok (.dup, 1) := by decide +kernel
theorem dX7_init_61 : decode cX7_init 61 = .ok (.invokespecial 37, 3) := by decide +kernel
theorem dX7_init_64 : decode cX7_init 64 = .ok (.putfield 38, 3) := by decide +kernel
theorem dX7_init_67 : decode cX7_init 67 = .ok (.aload_n 0, 1) := by decide +kernel
theorem dX7_init_68 : decode cX7_init 68 = .ok (.bipush 64, 2) := by decide +kernel
theorem dX7_init_70 : decode cX7_init 70 = .ok (.newarray .int, 2) := by decide +kernel
theorem dX7_init_72 : decode cX7_init 72 = .ok (.putfield 42, 3) := by decide +kernel
theorem dX7_init_75 : decode cX7_init 75 = .ok (.aload_n 0, 1) := by decide +kernel
theorem dX7_init_76 : decode cX7_init 76 = .ok (.bipush 6, 2) := by decide +kernel
theorem dX7_init_78 : decode cX7_init 78 = .ok (.newarray .int, 2) := by decide +kernel
theorem dX7_init_80 : decode cX7_init 80 = .ok (.putfield 46, 3) := by decide +kernel
theorem dX7_init_83 : decode cX7_init 83 = .ok (.aload_n 0, 1) := by decide +kernel
theorem dX7_init_84 : decode cX7_init 84 = .ok (.bipush 6, 2) := by decide +kernel
theorem dX7_init_86 : decode cX7_init 86 = .ok (.newarray .int, 2) := by decide +kernel
theorem dX7_init_88 : decode cX7_init 88 = .ok (.putfield 49, 3) := by decide +kernel
theorem dX7_init_91 : decode cX7_init 91 = .ok (.return_, 1) := by decide +kernel
theorem dX7_record_0 : decode cX7_record 0 = .ok (.iload_n 2, 1) := by decide +kernel
theorem dX7_record_1 : decode cX7_record 1 = .ok (.invokestatic 52, 3) := by decide +kernel
theorem dX7_record_4 : decode cX7_record 4 = .ok (.iload_n 1, 1) := by decide +kernel
theorem dX7_record_5 : decode cX7_record 5 = .ok (.iload_n 2, 1) := by decide +kernel
theorem dX7_record_6 : decode cX7_record 6 = .ok (.iload_n 3, 1) := by decide +kernel
theorem dX7_record_7 : decode cX7_record 7 = .ok (.invokestatic 56, 3) := by decide +kernel
theorem dX7_record_10 : decode cX7_record 10 = .ok (.ifCond .ne 13, 3) := by decide +kernel
theorem dX7_record_13 : decode cX7_record 13 = .ok (.new 60, 3) := by decide +kernel
theorem dX7_record_16 : decode cX7_record 16 = .ok (.dup, 1) := by decide +kernel
theorem dX7_record_17 : decode cX7_record 17 = .ok (.ldc 62, 2) := by decide +kernel
theorem dX7_record_19 : decode cX7_record 19 = .ok (.invokespecial 64, 3) := by decide +kernel
theorem dX7_record_22 : decode cX7_record 22 = .ok (.athrow, 1) := by decide +kernel
theorem dX7_record_23 : decode cX7_record 23 = .ok (.aload_n 0, 1) := by decide +kernel
theorem dX7_record_24 : decode cX7_record 24 = .ok (.getfield 10, 3) := by decide +kernel
theorem dX7_record_27 : decode cX7_record 27 = .ok (.invokevirtual 67, 3) := by decide +kernel
theorem dX7_record_30 : decode cX7_record 30 = .ok (.ifCond .eq 13, 3) := by decide +kernel
theorem dX7_record_33 : decode cX7_record 33 = .ok (.new 71, 3) := by decide +kernel
theorem dX7_record_36 : decode cX7_record 36 = .ok (.dup, 1) := by decide +kernel
theorem dX7_record_37 : decode cX7_record 37 = .ok (.ldc 73, 2) := by decide +kernel
theorem dX7_record_39 : decode cX7_record 39 = .ok (.invokespecial 75, 3) := by decide +kernel
theorem dX7_record_42 : decode cX7_record 42 = .ok (.athrow, 1) := by decide +kernel
theorem dX7_record_43 : decode cX7_record 43 = .ok (.aload_n 0, 1) := by decide +kernel
theorem dX7_record_44 : decode cX7_record 44 = .ok (.getfield 19, 3) := by decide +kernel
theorem dX7_record_47 : decode cX7_record 47 = .ok (.aload_n 0, 1) := by decide +kernel
theorem dX7_record_48 : decode cX7_record 48 = .ok (.getfield 10, 3) := by decide +kernel
theorem dX7_record_51 : decode cX7_record 51 = .ok (.invokevirtual 76, 3) := by decide +kernel
theorem dX7_record_54 : decode cX7_record 54 = .ok (.aload_n 0, 1) := by decide +kernel
theorem dX7_record_55 : decode cX7_record 55 = .ok (.getfield 10, 3) := by decide +kernel
theorem dX7_record_58 : decode cX7_record 58 = .ok (.iload_n 1, 1) := by decide +kernel
theorem dX7_record_59 : decode cX7_record 59 = .ok (.iload_n 2, 1) := by decide +kernel
theorem dX7_record_60 : decode cX7_record 60 = .ok (.iload_n 3, 1) := by decide +kernel
theorem dX7_record_61 : decode cX7_record 61 = .ok (.invokevirtual 79, 3) := by decide +kernel
theorem dX7_record_64 : decode cX7_record 64 = .ok (.ireturn, 1) := by decide +kernel
theorem dX7_erase_0 : decode cX7_erase 0 = .ok (.aload_n 0, 1) := by decide +kernel
theorem dX7_erase_1 : decode cX7_erase 1 = .ok (.iload_n 1, 1) := by decide +kernel
theorem dX7_erase_2 : decode cX7_erase 2 = .ok (.invokevirtual 83, 3) := by decide +kernel
theorem dX7_erase_5 : decode cX7_erase 5 = .ok (.aload_n 0, 1) := by decide +kernel
theorem dX7_erase_6 : decode cX7_erase 6 = .ok (.getfield 19, 3) := by decide +kernel
theorem dX7_erase_9 : decode cX7_erase 9 = .ok (.aload_n 0, 1) := by decide +kernel
theorem dX7_erase_10 : decode cX7_erase 10 = .ok (.getfield 10, 3) := by decide +kernel
theorem dX7_erase_13 : decode cX7_erase 13 = .ok (.invokevirtual 76, 3) := by decide +kernel
theorem dX7_erase_16 : decode cX7_erase 16 = .ok (.aload_n 0, 1) := by decide +kernel
theorem dX7_erase_17 : decode cX7_erase 17 = .ok (.getfield 10, 3) := by decide +kernel
theorem dX7_erase_20 : decode cX7_erase 20 = .ok (.iload_n 1, 1) := by decide +kernel
theorem dX7_erase_21 : decode cX7_erase 21 = .ok (.invokevirtual 86, 3) := by decide +kernel
theorem dX7_erase_24 : decode cX7_erase 24 = .ok (.aload_n 0, 1) := by decide +kernel
theorem dX7_erase_25 : decode cX7_erase 25 = .ok (.getfield 10, 3) := by decide +kernel
theorem dX7_erase_28 : decode cX7_erase 28 = .ok (.getfield 89, 3) := by decide +kernel
theorem dX7_erase_31 : decode cX7_erase 31 = .ok (.ireturn, 1) := by decide +kernel
theorem dX7_packets_0 : decode cX7_packets 0 = .ok (.aload_n 0, 1) := by decide +kernel
theorem dX7_packets_1 : decode cX7_packets 1 = .ok (.getfield 10, 3) := by decide +kernel
theorem dX7_packets_4 : decode cX7_packets 4 = .ok (.getfield 89, 3) := by decide +kernel
theorem dX7_packets_7 : decode cX7_packets 7 = .ok (.ireturn, 1) := by decide +kernel
theorem dX7_packet_0 : decode cX7_packet 0 = .ok (.aload_n 0, 1) := by decide +kernel
theorem dX7_packet_1 : decode cX7_packet 1 = .ok (.iload_n 1, 1) := by decide +kernel
theorem dX7_packet_2 : decode cX7_packet 2 = .ok (.invokevirtual 83, 3) := by decide +kernel
theorem dX7_packet_5 : decode cX7_packet 5 = .ok (.iload_n 2, 1) := by decide +kernel
theorem dX7_packet_6 : decode cX7_packet 6 = .ok (.tableswitch 56 0 2 #[26, 36, 46], 26) := by decide +kernel
theorem dX7_packet_32 : decode cX7_packet 32 = .ok (.aload_n 0, 1) := by decide +kernel
theorem dX7_packet_33 : decode cX7_packet 33 = .ok (.getfield 10, 3) := by decide +kernel
theorem dX7_packet_36 : decode cX7_packet 36 = .ok (.getfield 93, 3) := by decide +kernel
theorem dX7_packet_39 : decode cX7_packet 39 = .ok (.iload_n 1, 1) := by decide +kernel
theorem dX7_packet_40 : decode cX7_packet 40 = .ok (.iaload, 1) := by decide +kernel
theorem dX7_packet_41 : decode cX7_packet 41 = .ok (.ireturn, 1) := by decide +kernel
theorem dX7_packet_42 : decode cX7_packet 42 = .ok (.aload_n 0, 1) := by decide +kernel
theorem dX7_packet_43 : decode cX7_packet 43 = .ok (.getfield 10, 3) := by decide +kernel
theorem dX7_packet_46 : decode cX7_packet 46 = .ok (.getfield 96, 3) := by decide +kernel
theorem dX7_packet_49 : decode cX7_packet 49 = .ok (.iload_n 1, 1) := by decide +kernel
theorem dX7_packet_50 : decode cX7_packet 50 = .ok (.iaload, 1) := by decide +kernel
theorem dX7_packet_51 : decode cX7_packet 51 = .ok (.ireturn, 1) := by decide +kernel
theorem dX7_packet_52 : decode cX7_packet 52 = .ok (.aload_n 0, 1) := by decide +kernel
theorem dX7_packet_53 : decode cX7_packet 53 = .ok (.getfield 10, 3) := by decide +kernel
theorem dX7_packet_56 : decode cX7_packet 56 = .ok (.getfield 99, 3) := by decide +kernel
theorem dX7_packet_59 : decode cX7_packet 59 = .ok (.iload_n 1, 1) := by decide +kernel
theorem dX7_packet_60 : decode cX7_packet 60 = .ok (.iaload, 1) := by decide +kernel
theorem dX7_packet_61 : decode cX7_packet 61 = .ok (.ireturn, 1) := by decide +kernel
theorem dX7_packet_62 : decode cX7_packet 62 = .ok (.new 60, 3) := by decide +kernel
theorem dX7_packet_65 : decode cX7_packet 65 = .ok (.dup, 1) := by decide +kernel
theorem dX7_packet_66 : decode cX7_packet 66 = .ok (.ldc 102, 2) := by decide +kernel
theorem dX7_packet_68 : decode cX7_packet 68 = .ok (.invokespecial 64, 3) := by decide +kernel
theorem dX7_packet_71 : decode cX7_packet 71 = .ok (.athrow, 1) := by decide +kernel
theorem dX7_setCapacity_0 : decode cX7_setCapacity 0 = .ok (.aload_n 0, 1) := by decide +kernel
theorem dX7_setCapacity_1 : decode cX7_setCapacity 1 = .ok (.iconst 0, 1) := by decide +kernel
theorem dX7_setCapacity_2 : decode cX7_setCapacity 2 = .ok (.iload_n 1, 1) := by decide +kernel
theorem dX7_setCapacity_3 : decode cX7_setCapacity 3 = .ok (.invokevirtual 104, 3) := by decide +kernel
theorem dX7_setCapacity_6 : decode cX7_setCapacity 6 = .ok (.ireturn, 1) := by decide +kernel
theorem dX7_setRate_0 : decode cX7_setRate 0 = .ok (.aload_n 0, 1) := by decide +kernel
theorem dX7_setRate_1 : decode cX7_setRate 1 = .ok (.iconst 1, 1) := by decide +kernel
theorem dX7_setRate_2 : decode cX7_setRate 2 = .ok (.iload_n 1, 1) := by decide +kernel
theorem dX7_setRate_3 : decode cX7_setRate 3 = .ok (.invokevirtual 104, 3) := by decide +kernel
theorem dX7_setRate_6 : decode cX7_setRate 6 = .ok (.ireturn, 1) := by decide +kernel
theorem dX7_setPolicy_0 : decode cX7_setPolicy 0 = .ok (.aload_n 0, 1) := by decide +kernel
theorem dX7_setPolicy_1 : decode cX7_setPolicy 1 = .ok (.iconst 2, 1) := by decide +kernel
theorem dX7_setPolicy_2 : decode cX7_setPolicy 2 = .ok (.iload_n 1, 1) := by decide +kernel
theorem dX7_setPolicy_3 : decode cX7_setPolicy 3 = .ok (.invokevirtual 104, 3) := by decide +kernel
theorem dX7_setPolicy_6 : decode cX7_setPolicy 6 = .ok (.ireturn, 1) := by decide +kernel
theorem dX7_setScheduler_0 : decode cX7_setScheduler 0 = .ok (.aload_n 0, 1) := by decide +kernel
theorem dX7_setScheduler_1 : decode cX7_setScheduler 1 = .ok (.iconst 3, 1) := by decide +kernel
theorem dX7_setScheduler_2 : decode cX7_setScheduler 2 = .ok (.iload_n 1, 1) := by decide +kernel
theorem dX7_setScheduler_3 : decode cX7_setScheduler 3 = .ok (.invokevirtual 104, 3) := by decide +kernel
theorem dX7_setScheduler_6 : decode cX7_setScheduler 6 = .ok (.ireturn, 1) := by decide +kernel
theorem dX7_setFactor_0 : decode cX7_setFactor 0 = .ok (.aload_n 0, 1) := by decide +kernel
theorem dX7_setFactor_1 : decode cX7_setFactor 1 = .ok (.iconst 4, 1) := by decide +kernel
theorem dX7_setFactor_2 : decode cX7_setFactor 2 = .ok (.iload_n 1, 1) := by decide +kernel
theorem dX7_setFactor_3 : decode cX7_setFactor 3 = .ok (.invokevirtual 104, 3) := by decide +kernel
theorem dX7_setFactor_6 : decode cX7_setFactor 6 = .ok (.ireturn, 1) := by decide +kernel
theorem dX7_setThreshold_0 : decode cX7_setThreshold 0 = .ok (.aload_n 0, 1) := by decide +kernel
theorem dX7_setThreshold_1 : decode cX7_setThreshold 1 = .ok (.iconst 5, 1) := by decide +kernel
theorem dX7_setThreshold_2 : decode cX7_setThreshold 2 = .ok (.iload_n 1, 1) := by decide +kernel
theorem dX7_setThreshold_3 : decode cX7_setThreshold 3 = .ok (.invokevirtual 104, 3) := by decide +kernel
theorem dX7_setThreshold_6 : decode cX7_setThreshold 6 = .ok (.ireturn, 1) := by decide +kernel
theorem dX7_setInterval_0 : decode cX7_setInterval 0 = .ok (.aload_n 0, 1) := by decide +kernel
theorem dX7_setInterval_1 : decode cX7_setInterval 1 = .ok (.bipush 6, 2) := by decide +kernel
theorem dX7_setInterval_3 : decode cX7_setInterval 3 = .ok (.iload_n 1, 1) := by decide +kernel
theorem dX7_setInterval_4 : decode cX7_setInterval 4 = .ok (.invokevirtual 104, 3) := by decide +kernel
theorem dX7_setInterval_7 : decode cX7_setInterval 7 = .ok (.ireturn, 1) := by decide +kernel
theorem dX7_setMeasure_0 : decode cX7_setMeasure 0 = .ok (.aload_n 0, 1) := by decide +kernel
theorem dX7_setMeasure_1 : decode cX7_setMeasure 1 = .ok (.bipush 7, 2) := by decide +kernel
theorem dX7_setMeasure_3 : decode cX7_setMeasure 3 = .ok (.iload_n 1, 1) := by decide +kernel
theorem dX7_setMeasure_4 : decode cX7_setMeasure 4 = .ok (.invokevirtual 104, 3) := by decide +kernel
theorem dX7_setMeasure_7 : decode cX7_setMeasure 7 = .ok (.ireturn, 1) := by decide +kernel
theorem dX7_setPriority_0 : decode cX7_setPriority 0 = .ok (.iload_n 1, 1) := by decide +kernel
theorem dX7_setPriority_1 : decode cX7_setPriority 1 = .ok (.invokestatic 52, 3) := by decide +kernel
theorem dX7_setPriority_4 : decode cX7_setPriority 4 = .ok (.aload_n 0, 1) := by decide +kernel
theorem dX7_setPriority_5 : decode cX7_setPriority 5 = .ok (.bipush 8, 2) := by decide +kernel
theorem dX7_setPriority_7 : decode cX7_setPriority 7 = .ok (.iload_n 1, 1) := by decide +kernel
theorem dX7_setPriority_8 : decode cX7_setPriority 8 = .ok (.iadd, 1) := by decide +kernel
theorem dX7_setPriority_9 : decode cX7_setPriority 9 = .ok (.iload_n 2, 1) := by decide +kernel
theorem dX7_setPriority_10 : decode cX7_setPriority 10 = .ok (.invokevirtual 104, 3) := by decide +kernel
theorem dX7_setPriority_13 : decode cX7_setPriority 13 = .ok (.ireturn, 1) := by decide +kernel
theorem dX7_replay_0 : decode cX7_replay 0 = .ok (.iload_n 1, 1) := by decide +kernel
theorem dX7_replay_1 : decode cX7_replay 1 = .ok (.invokestatic 108, 3) := by decide +kernel
theorem dX7_replay_4 : decode cX7_replay 4 = .ok (.aload_n 0, 1) := by decide +kernel
theorem dX7_replay_5 : decode cX7_replay 5 = .ok (.getfield 28, 3) := by decide +kernel
theorem dX7_replay_8 : decode cX7_replay 8 = .ok (.iload_n 1, 1) := by decide +kernel
theorem dX7_replay_9 : decode cX7_replay 9 = .ok (.aload_n 0, 1) := by decide +kernel
theorem dX7_replay_10 : decode cX7_replay 10 = .ok (.getfield 10, 3) := by decide +kernel
theorem dX7_replay_13 : decode cX7_replay 13 = .ok (.getfield 111, 3) := by decide +kernel
theorem dX7_replay_16 : decode cX7_replay 16 = .ok (.iconst 0, 1) := by decide +kernel
theorem dX7_replay_17 : decode cX7_replay 17 = .ok (.iaload, 1) := by decide +kernel
theorem dX7_replay_18 : decode cX7_replay 18 = .ok (.aload_n 0, 1) := by decide +kernel
theorem dX7_replay_19 : decode cX7_replay 19 = .ok (.getfield 10, 3) := by decide +kernel
theorem dX7_replay_22 : decode cX7_replay 22 = .ok (.getfield 111, 3) := by decide +kernel
theorem dX7_replay_25 : decode cX7_replay 25 = .ok (.iconst 2, 1) := by decide +kernel
theorem dX7_replay_26 : decode cX7_replay 26 = .ok (.iaload, 1) := by decide +kernel
theorem dX7_replay_27 : decode cX7_replay 27 = .ok (.invokevirtual 114, 3) := by decide +kernel
theorem dX7_replay_30 : decode cX7_replay 30 = .ok (.aload_n 0, 1) := by decide +kernel
theorem dX7_replay_31 : decode cX7_replay 31 = .ok (.getfield 28, 3) := by decide +kernel
theorem dX7_replay_34 : decode cX7_replay 34 = .ok (.getfield 118, 3) := by decide +kernel
theorem dX7_replay_37 : decode cX7_replay 37 = .ok (.getfield 122, 3) := by decide +kernel
theorem dX7_replay_40 : decode cX7_replay 40 = .ok (.ireturn, 1) := by decide +kernel
theorem dX7_fate_0 : decode cX7_fate 0 = .ok (.aload_n 0, 1) := by decide +kernel
theorem dX7_fate_1 : decode cX7_fate 1 = .ok (.getfield 28, 3) := by decide +kernel
theorem dX7_fate_4 : decode cX7_fate 4 = .ok (.getfield 118, 3) := by decide +kernel
theorem dX7_fate_7 : decode cX7_fate 7 = .ok (.iload_n 1, 1) := by decide +kernel
theorem dX7_fate_8 : decode cX7_fate 8 = .ok (.invokevirtual 127, 3) := by decide +kernel
theorem dX7_fate_11 : decode cX7_fate 11 = .ok (.ireturn, 1) := by decide +kernel
theorem dX7_loadAt_0 : decode cX7_loadAt 0 = .ok (.aload_n 0, 1) := by decide +kernel
theorem dX7_loadAt_1 : decode cX7_loadAt 1 = .ok (.getfield 28, 3) := by decide +kernel
theorem dX7_loadAt_4 : decode cX7_loadAt 4 = .ok (.getfield 118, 3) := by decide +kernel
theorem dX7_loadAt_7 : decode cX7_loadAt 7 = .ok (.iload_n 1, 1) := by decide +kernel
theorem dX7_loadAt_8 : decode cX7_loadAt 8 = .ok (.invokevirtual 131, 3) := by decide +kernel
theorem dX7_loadAt_11 : decode cX7_loadAt 11 = .ok (.ireturn, 1) := by decide +kernel
theorem dX7_peak_0 : decode cX7_peak 0 = .ok (.aload_n 0, 1) := by decide +kernel
theorem dX7_peak_1 : decode cX7_peak 1 = .ok (.getfield 28, 3) := by decide +kernel
theorem dX7_peak_4 : decode cX7_peak 4 = .ok (.getfield 118, 3) := by decide +kernel
theorem dX7_peak_7 : decode cX7_peak 7 = .ok (.invokevirtual 134, 3) := by decide +kernel
theorem dX7_peak_10 : decode cX7_peak 10 = .ok (.ireturn, 1) := by decide +kernel
theorem dX7_dropped_0 : decode cX7_dropped 0 = .ok (.aload_n 0, 1) := by decide +kernel
theorem dX7_dropped_1 : decode cX7_dropped 1 = .ok (.getfield 28, 3) := by decide +kernel
theorem dX7_dropped_4 : decode cX7_dropped 4 = .ok (.getfield 118, 3) := by decide +kernel
theorem dX7_dropped_7 : decode cX7_dropped 7 = .ok (.iload_n 1, 1) := by decide +kernel
theorem dX7_dropped_8 : decode cX7_dropped 8 = .ok (.invokevirtual 138, 3) := by decide +kernel
theorem dX7_dropped_11 : decode cX7_dropped 11 = .ok (.ireturn, 1) := by decide +kernel
theorem dX7_worth_0 : decode cX7_worth 0 = .ok (.iload_n 1, 1) := by decide +kernel
theorem dX7_worth_1 : decode cX7_worth 1 = .ok (.invokestatic 108, 3) := by decide +kernel
theorem dX7_worth_4 : decode cX7_worth 4 = .ok (.aload_n 0, 1) := by decide +kernel
theorem dX7_worth_5 : decode cX7_worth 5 = .ok (.iload_n 1, 1) := by decide +kernel
theorem dX7_worth_6 : decode cX7_worth 6 = .ok (.iconst (-1), 1) := by decide +kernel
theorem dX7_worth_7 : decode cX7_worth 7 = .ok (.invokevirtual 141, 3) := by decide +kernel
theorem dX7_worth_10 : decode cX7_worth 10 = .ok (.ireturn, 1) := by decide +kernel
theorem dX7_worthFor_0 : decode cX7_worthFor 0 = .ok (.iload_n 2, 1) := by decide +kernel
theorem dX7_worthFor_1 : decode cX7_worthFor 1 = .ok (.invokestatic 52, 3) := by decide +kernel
theorem dX7_worthFor_4 : decode cX7_worthFor 4 = .ok (.iload_n 1, 1) := by decide +kernel
theorem dX7_worthFor_5 : decode cX7_worthFor 5 = .ok (.invokestatic 108, 3) := by decide +kernel
theorem dX7_worthFor_8 : decode cX7_worthFor 8 = .ok (.aload_n 0, 1) := by decide +kernel
theorem dX7_worthFor_9 : decode cX7_worthFor 9 = .ok (.iload_n 1, 1) := by decide +kernel
theorem dX7_worthFor_10 : decode cX7_worthFor 10 = .ok (.iload_n 2, 1) := by decide +kernel
theorem dX7_worthFor_11 : decode cX7_worthFor 11 = .ok (.invokevirtual 141, 3) := by decide +kernel
theorem dX7_worthFor_14 : decode cX7_worthFor 14 = .ok (.ireturn, 1) := by decide +kernel
theorem dX7_contribution_0 : decode cX7_contribution 0 = .ok (.iload_n 1, 1) := by decide +kernel
theorem dX7_contribution_1 : decode cX7_contribution 1 = .ok (.invokestatic 52, 3) := by decide +kernel
theorem dX7_contribution_4 : decode cX7_contribution 4 = .ok (.iload_n 2, 1) := by decide +kernel
theorem dX7_contribution_5 : decode cX7_contribution 5 = .ok (.invokestatic 108, 3) := by decide +kernel
theorem dX7_contribution_8 : decode cX7_contribution 8 = .ok (.iload_n 2, 1) := by decide +kernel
theorem dX7_contribution_9 : decode cX7_contribution 9 = .ok (.iload_n 1, 1) := by decide +kernel
theorem dX7_contribution_10 : decode cX7_contribution 10 = .ok (.invokestatic 144, 3) := by decide +kernel
theorem dX7_contribution_13 : decode cX7_contribution 13 = .ok (.ifCond .eq 13, 3) := by decide +kernel
theorem dX7_contribution_16 : decode cX7_contribution 16 = .ok (.new 60, 3) := by decide +kernel
theorem dX7_contribution_19 : decode cX7_contribution 19 = .ok (.dup, 1) := by decide +kernel
theorem dX7_contribution_20 : decode cX7_contribution 20 = .ok (.ldc 148, 2) := by decide +kernel
theorem dX7_contribution_22 : decode cX7_contribution 22 = .ok (.invokespecial 64, 3) := by decide +kernel
theorem dX7_contribution_25 : decode cX7_contribution 25 = .ok (.athrow, 1) := by decide +kernel
theorem dX7_contribution_26 : decode cX7_contribution 26 = .ok (.aload_n 0, 1) := by decide +kernel
theorem dX7_contribution_27 : decode cX7_contribution 27 = .ok (.iload_n 2, 1) := by decide +kernel
theorem dX7_contribution_28 : decode cX7_contribution 28 = .ok (.iconst 1, 1) := by decide +kernel
theorem dX7_contribution_29 : decode cX7_contribution 29 = .ok (.iload_n 1, 1) := by decide +kernel
theorem dX7_contribution_30 : decode cX7_contribution 30 = .ok (.ishl, 1) := by decide +kernel
theorem dX7_contribution_31 : decode cX7_contribution 31 = .ok (.ior, 1) := by decide +kernel
theorem dX7_contribution_32 : decode cX7_contribution 32 = .ok (.iconst (-1), 1) := by decide +kernel
theorem dX7_contribution_33 : decode cX7_contribution 33 = .ok (.invokevirtual 141, 3) := by decide +kernel
theorem dX7_contribution_36 : decode cX7_contribution 36 = .ok (.aload_n 0, 1) := by decide +kernel
theorem dX7_contribution_37 : decode cX7_contribution 37 = .ok (.iload_n 2, 1) := by decide +kernel
theorem dX7_contribution_38 : decode cX7_contribution 38 = .ok (.iconst (-1), 1) := by decide +kernel
theorem dX7_contribution_39 : decode cX7_contribution 39 = .ok (.invokevirtual 141, 3) := by decide +kernel
theorem dX7_contribution_42 : decode cX7_contribution 42 = .ok (.isub, 1) := by decide +kernel
theorem dX7_contribution_43 : decode cX7_contribution 43 = .ok (.ireturn, 1) := by decide +kernel
theorem dX7_blame_0 : decode cX7_blame 0 = .ok (.iload_n 1, 1) := by decide +kernel
theorem dX7_blame_1 : decode cX7_blame 1 = .ok (.invokestatic 52, 3) := by decide +kernel
theorem dX7_blame_4 : decode cX7_blame 4 = .ok (.iload_n 2, 1) := by decide +kernel
theorem dX7_blame_5 : decode cX7_blame 5 = .ok (.invokestatic 150, 3) := by decide +kernel
theorem dX7_blame_8 : decode cX7_blame 8 = .ok (.aload_n 0, 1) := by decide +kernel
theorem dX7_blame_9 : decode cX7_blame 9 = .ok (.iconst (-1), 1) := by decide +kernel
theorem dX7_blame_10 : decode cX7_blame 10 = .ok (.invokevirtual 153, 3) := by decide +kernel
theorem dX7_blame_13 : decode cX7_blame 13 = .ok (.aload_n 0, 1) := by decide +kernel
theorem dX7_blame_14 : decode cX7_blame 14 = .ok (.iload_n 1, 1) := by decide +kernel
theorem dX7_blame_15 : decode cX7_blame 15 = .ok (.invokevirtual 156, 3) := by decide +kernel
theorem dX7_blame_18 : decode cX7_blame 18 = .ok (.sipush 720, 3) := by decide +kernel
theorem dX7_blame_21 : decode cX7_blame 21 = .ok (.iload_n 2, 1) := by decide +kernel
theorem dX7_blame_22 : decode cX7_blame 22 = .ok (.invokestatic 159, 3) := by decide +kernel
theorem dX7_blame_25 : decode cX7_blame 25 = .ok (.ireturn, 1) := by decide +kernel
theorem dX7_blameFor_0 : decode cX7_blameFor 0 = .ok (.iload_n 1, 1) := by decide +kernel
theorem dX7_blameFor_1 : decode cX7_blameFor 1 = .ok (.invokestatic 52, 3) := by decide +kernel
theorem dX7_blameFor_4 : decode cX7_blameFor 4 = .ok (.iload_n 2, 1) := by decide +kernel
theorem dX7_blameFor_5 : decode cX7_blameFor 5 = .ok (.invokestatic 52, 3) := by decide +kernel
theorem dX7_blameFor_8 : decode cX7_blameFor 8 = .ok (.iload_n 3, 1) := by decide +kernel
theorem dX7_blameFor_9 : decode cX7_blameFor 9 = .ok (.invokestatic 150, 3) := by decide +kernel
theorem dX7_blameFor_12 : decode cX7_blameFor 12 = .ok (.aload_n 0, 1) := by decide +kernel
theorem dX7_blameFor_13 : decode cX7_blameFor 13 = .ok (.iload_n 2, 1) := by decide +kernel
theorem dX7_blameFor_14 : decode cX7_blameFor 14 = .ok (.invokevirtual 153, 3) := by decide +kernel
theorem dX7_blameFor_17 : decode cX7_blameFor 17 = .ok (.aload_n 0, 1) := by decide +kernel
theorem dX7_blameFor_18 : decode cX7_blameFor 18 = .ok (.iload_n 1, 1) := by decide +kernel
theorem dX7_blameFor_19 : decode cX7_blameFor 19 = .ok (.invokevirtual 156, 3) := by decide +kernel
theorem dX7_blameFor_22 : decode cX7_blameFor 22 = .ok (.sipush 720, 3) := by decide +kernel
theorem dX7_blameFor_25 : decode cX7_blameFor 25 = .ok (.iload_n 3, 1) := by decide +kernel
theorem dX7_blameFor_26 : decode cX7_blameFor 26 = .ok (.invokestatic 159, 3) := by decide +kernel
theorem dX7_blameFor_29 : decode cX7_blameFor 29 = .ok (.ireturn, 1) := by decide +kernel
theorem dX7_index_0 : decode cX7_index 0 = .ok (.iload_n 1, 1) := by decide +kernel
theorem dX7_index_1 : decode cX7_index 1 = .ok (.invokestatic 52, 3) := by decide +kernel
theorem dX7_index_4 : decode cX7_index 4 = .ok (.iload_n 2, 1) := by decide +kernel
theorem dX7_index_5 : decode cX7_index 5 = .ok (.invokestatic 150, 3) := by decide +kernel
theorem dX7_index_8 : decode cX7_index 8 = .ok (.aload_n 0, 1) := by decide +kernel
theorem dX7_index_9 : decode cX7_index 9 = .ok (.iconst (-1), 1) := by decide +kernel
theorem dX7_index_10 : decode cX7_index 10 = .ok (.invokevirtual 153, 3) := by decide +kernel
theorem dX7_index_13 : decode cX7_index 13 = .ok (.aload_n 0, 1) := by decide +kernel
theorem dX7_index_14 : decode cX7_index 14 = .ok (.iload_n 1, 1) := by decide +kernel
theorem dX7_index_15 : decode cX7_index 15 = .ok (.invokevirtual 162, 3) := by decide +kernel
theorem dX7_index_18 : decode cX7_index 18 = .ok (.bipush 32, 2) := by decide +kernel
theorem dX7_index_20 : decode cX7_index 20 = .ok (.iload_n 2, 1) := by decide +kernel
theorem dX7_index_21 : decode cX7_index 21 = .ok (.invokestatic 159, 3) := by decide +kernel
theorem dX7_index_24 : decode cX7_index 24 = .ok (.ireturn, 1) := by decide +kernel
theorem dX7_interaction_0 : decode cX7_interaction 0 = .ok (.iload_n 1, 1) := by decide +kernel
theorem dX7_interaction_1 : decode cX7_interaction 1 = .ok (.invokestatic 52, 3) := by decide +kernel
theorem dX7_interaction_4 : decode cX7_interaction 4 = .ok (.iload_n 2, 1) := by decide +kernel
theorem dX7_interaction_5 : decode cX7_interaction 5 = .ok (.invokestatic 52, 3) := by decide +kernel
theorem dX7_interaction_8 : decode cX7_interaction 8 = .ok (.iload_n 1, 1) := by decide +kernel
theorem dX7_interaction_9 : decode cX7_interaction 9 = .ok (.iload_n 2, 1) := by decide +kernel
theorem dX7_interaction_10 : decode cX7_interaction 10 = .ok (.if_icmp .ne 13, 3) := by decide +kernel
theorem dX7_interaction_13 : decode cX7_interaction 13 = .ok (.new 60, 3) := by decide +kernel
theorem dX7_interaction_16 : decode cX7_interaction 16 = .ok (.dup, 1) := by decide +kernel
theorem dX7_interaction_17 : decode cX7_interaction 17 = .ok (.ldc 165, 2) := by decide +kernel
theorem dX7_interaction_19 : decode cX7_interaction 19 = .ok (.invokespecial 64, 3) := by decide +kernel
theorem dX7_interaction_22 : decode cX7_interaction 22 = .ok (.athrow, 1) := by decide +kernel
theorem dX7_interaction_23 : decode cX7_interaction 23 = .ok (.iload_n 3, 1) := by decide +kernel
theorem dX7_interaction_24 : decode cX7_interaction 24 = .ok (.invokestatic 150, 3) := by decide +kernel
theorem dX7_interaction_27 : decode cX7_interaction 27 = .ok (.aload_n 0, 1) := by decide +kernel
theorem dX7_interaction_28 : decode cX7_interaction 28 = .ok (.iconst (-1), 1) := by decide +kernel
theorem dX7_interaction_29 : decode cX7_interaction 29 = .ok (.invokevirtual 153, 3) := by decide +kernel
theorem dX7_interaction_32 : decode cX7_interaction 32 = .ok (.aload_n 0, 1) := by decide +kernel
theorem dX7_interaction_33 : decode cX7_interaction 33 = .ok (.iload_n 1, 1) := by decide +kernel
theorem dX7_interaction_34 : decode cX7_interaction 34 = .ok (.iload_n 2, 1) := by decide +kernel
theorem dX7_interaction_35 : decode cX7_interaction 35 = .ok (.invokevirtual 167, 3) := by decide +kernel
theorem dX7_interaction_38 : decode cX7_interaction 38 = .ok (.bipush 16, 2) := by decide +kernel
theorem dX7_interaction_40 : decode cX7_interaction 40 = .ok (.iload_n 3, 1) := by decide +kernel
theorem dX7_interaction_41 : decode cX7_interaction 41 = .ok (.invokestatic 159, 3) := by decide +kernel
theorem dX7_interaction_44 : decode cX7_interaction 44 = .ok (.ireturn, 1) := by decide +kernel
theorem dX7_ranked_0 : decode cX7_ranked 0 = .ok (.iload_n 1, 1) := by decide +kernel
theorem dX7_ranked_1 : decode cX7_ranked 1 = .ok (.invokestatic 52, 3) := by decide +kernel
theorem dX7_ranked_4 : decode cX7_ranked 4 = .ok (.aload_n 0, 1) := by decide +kernel
theorem dX7_ranked_5 : decode cX7_ranked 5 = .ok (.iconst (-1), 1) := by decide +kernel
theorem dX7_ranked_6 : decode cX7_ranked 6 = .ok (.invokevirtual 153, 3) := by decide +kernel
theorem dX7_ranked_9 : decode cX7_ranked 9 = .ok (.iconst 0, 1) := by decide +kernel
theorem dX7_ranked_10 : decode cX7_ranked 10 = .ok (.istore_n 2, 1) := by decide +kernel
theorem dX7_ranked_11 : decode cX7_ranked 11 = .ok (.iload_n 2, 1) := by decide +kernel
theorem dX7_ranked_12 : decode cX7_ranked 12 = .ok (.bipush 6, 2) := by decide +kernel
theorem dX7_ranked_14 : decode cX7_ranked 14 = .ok (.if_icmp .ge 20, 3) := by decide +kernel
theorem dX7_ranked_17 : decode cX7_ranked 17 = .ok (.aload_n 0, 1) := by decide +kernel
theorem dX7_ranked_18 : decode cX7_ranked 18 = .ok (.getfield 46, 3) := by decide +kernel
theorem dX7_ranked_21 : decode cX7_ranked 21 = .ok (.iload_n 2, 1) := by decide +kernel
theorem dX7_ranked_22 : decode cX7_ranked 22 = .ok (.aload_n 0, 1) := by decide +kernel
theorem dX7_ranked_23 : decode cX7_ranked 23 = .ok (.iload_n 2, 1) := by decide +kernel
theorem dX7_ranked_24 : decode cX7_ranked 24 = .ok (.invokevirtual 156, 3) := by decide +kernel
theorem dX7_ranked_27 : decode cX7_ranked 27 = .ok (.iastore, 1) := by decide +kernel
theorem dX7_ranked_28 : decode cX7_ranked 28 = .ok (.iinc 2 1, 3) := by decide +kernel
theorem dX7_ranked_31 : decode cX7_ranked 31 = .ok (.goto (-20), 3) := by decide +kernel
theorem dX7_ranked_34 : decode cX7_ranked 34 = .ok (.iconst (-1), 1) := by decide +kernel
theorem dX7_ranked_35 : decode cX7_ranked 35 = .ok (.istore_n 2, 1) := by decide +kernel
theorem dX7_ranked_36 : decode cX7_ranked 36 = .ok (.iconst 0, 1) := by decide +kernel
theorem dX7_ranked_37 : decode cX7_ranked 37 = .ok (.istore_n 3, 1) := by decide +kernel
theorem dX7_ranked_38 : decode cX7_ranked 38 = .ok (.iload_n 3, 1) := by decide +kernel
theorem dX7_ranked_39 : decode cX7_ranked 39 = .ok (.bipush 6, 2) := by decide +kernel
theorem dX7_ranked_41 : decode cX7_ranked 41 = .ok (.if_icmp .ge 20, 3) := by decide +kernel
theorem dX7_ranked_44 : decode cX7_ranked 44 = .ok (.aload_n 0, 1) := by decide +kernel
theorem dX7_ranked_45 : decode cX7_ranked 45 = .ok (.iload_n 3, 1) := by decide +kernel
theorem dX7_ranked_46 : decode cX7_ranked 46 = .ok (.invokevirtual 170, 3) := by decide +kernel
theorem dX7_ranked_49 : decode cX7_ranked 49 = .ok (.iload_n 1, 1) := by decide +kernel
theorem dX7_ranked_50 : decode cX7_ranked 50 = .ok (.if_icmp .ne 5, 3) := by decide +kernel
theorem dX7_ranked_53 : decode cX7_ranked 53 = .ok (.iload_n 3, 1) := by decide +kernel
theorem dX7_ranked_54 : decode cX7_ranked 54 = .ok (.istore_n 2, 1) := by decide +kernel
theorem dX7_ranked_55 : decode cX7_ranked 55 = .ok (.iinc 3 1, 3) := by decide +kernel
theorem dX7_ranked_58 : decode cX7_ranked 58 = .ok (.goto (-20), 3) := by decide +kernel
theorem dX7_ranked_61 : decode cX7_ranked 61 = .ok (.iload_n 2, 1) := by decide +kernel
theorem dX7_ranked_62 : decode cX7_ranked 62 = .ok (.ireturn, 1) := by decide +kernel
theorem dX7_sampled_0 : decode cX7_sampled 0 = .ok (.iload_n 1, 1) := by decide +kernel
theorem dX7_sampled_1 : decode cX7_sampled 1 = .ok (.invokestatic 52, 3) := by decide +kernel
theorem dX7_sampled_4 : decode cX7_sampled 4 = .ok (.iload_n 2, 1) := by decide +kernel
theorem dX7_sampled_5 : decode cX7_sampled 5 = .ok (.iconst 1, 1) := by decide +kernel
theorem dX7_sampled_6 : decode cX7_sampled 6 = .ok (.if_icmp .lt 13, 3) := by decide +kernel
theorem dX7_sampled_9 : decode cX7_sampled 9 = .ok (.iload_n 2, 1) := by decide +kernel
theorem dX7_sampled_10 : decode cX7_sampled 10 = .ok (.bipush 100, 2) := by decide +kernel
theorem dX7_sampled_12 : decode cX7_sampled 12 = .ok (.if_icmp .gt 7, 3) := by decide +kernel
theorem dX7_sampled_15 : decode cX7_sampled 15 = .ok (.iload_n 3, 1) := by decide +kernel
theorem dX7_sampled_16 : decode cX7_sampled 16 = .ok (.ifCond .ge 13, 3) := by decide +kernel
theorem dX7_sampled_19 : decode cX7_sampled 19 = .ok (.new 60, 3) := by decide +kernel
theorem dX7_sampled_22 : decode cX7_sampled 22 = .ok (.dup, 1) := by decide +kernel
theorem dX7_sampled_23 : decode cX7_sampled 23 = .ok (.ldc 173, 2) := by decide +kernel
theorem dX7_sampled_25 : decode cX7_sampled 25 = .ok (.invokespecial 64, 3) := by decide +kernel
theorem dX7_sampled_28 : decode cX7_sampled 28 = .ok (.athrow, 1) := by decide +kernel
theorem dX7_sampled_29 : decode cX7_sampled 29 = .ok (.aload_n 0, 1) := by decide +kernel
theorem dX7_sampled_30 : decode cX7_sampled 30 = .ok (.iconst (-1), 1) := by decide +kernel
theorem dX7_sampled_31 : decode cX7_sampled 31 = .ok (.invokevirtual 153, 3) := by decide +kernel
theorem dX7_sampled_34 : decode cX7_sampled 34 = .ok (.iload_n 3, 1) := by decide +kernel
theorem dX7_sampled_35 : decode cX7_sampled 35 = .ok (.i2l, 1) := by decide +kernel
theorem dX7_sampled_36 : decode cX7_sampled 36 = .ok (.lstore 4, 2) := by decide +kernel
theorem dX7_sampled_38 : decode cX7_sampled 38 = .ok (.iconst 0, 1) := by decide +kernel
theorem dX7_sampled_39 : decode cX7_sampled 39 = .ok (.istore 6, 2) := by decide +kernel
theorem dX7_sampled_41 : decode cX7_sampled 41 = .ok (.iconst 0, 1) := by decide +kernel
theorem dX7_sampled_42 : decode cX7_sampled 42 = .ok (.istore 7, 2) := by decide +kernel
theorem dX7_sampled_44 : decode cX7_sampled 44 = .ok (.iload 7, 2) := by decide +kernel
theorem dX7_sampled_46 : decode cX7_sampled 46 = .ok (.iload_n 2, 1) := by decide +kernel
theorem dX7_sampled_47 : decode cX7_sampled 47 = .ok (.if_icmp .ge 32, 3) := by decide +kernel
theorem dX7_sampled_50 : decode cX7_sampled 50 = .ok (.aload_n 0, 1) := by decide +kernel
theorem dX7_sampled_51 : decode cX7_sampled 51 = .ok (.lload 4, 2) := by decide +kernel
theorem dX7_sampled_53 : decode cX7_sampled 53 = .ok (.invokevirtual 175, 3) := by decide +kernel
theorem dX7_sampled_56 : decode cX7_sampled 56 = .ok (.lstore 4, 2) := by decide +kernel
theorem dX7_sampled_58 : decode cX7_sampled 58 = .ok (.iload 6, 2) := by decide +kernel
theorem dX7_sampled_60 : decode cX7_sampled 60 = .ok (.aload_n 0, 1) := by decide +kernel
theorem dX7_sampled_61 : decode cX7_sampled 61 = .ok (.aload_n 0, 1) := by decide +kernel
theorem dX7_sampled_62 : decode cX7_sampled 62 = .ok (.iload_n 1, 1) := by decide +kernel
theorem dX7_sampled_63 : decode cX7_sampled 63 = .ok (.invokevirtual 179, 3) := by decide +kernel
theorem dX7_sampled_66 : decode cX7_sampled 66 = .ok (.iload_n 1, 1) := by decide +kernel
theorem dX7_sampled_67 : decode cX7_sampled 67 = .ok (.invokevirtual 182, 3) := by decide +kernel
theorem dX7_sampled_70 : decode cX7_sampled 70 = .ok (.iadd, 1) := by decide +kernel
theorem dX7_sampled_71 : decode cX7_sampled 71 = .ok (.istore 6, 2) := by decide +kernel
theorem dX7_sampled_73 : decode cX7_sampled 73 = .ok (.iinc 7 1, 3) := by decide +kernel
theorem dX7_sampled_76 : decode cX7_sampled 76 = .ok (.goto (-32), 3) := by decide +kernel
theorem dX7_sampled_79 : decode cX7_sampled 79 = .ok (.iload 6, 2) := by decide +kernel
theorem dX7_sampled_81 : decode cX7_sampled 81 = .ok (.ireturn, 1) := by decide +kernel
theorem dX7_cause_0 : decode cX7_cause 0 = .ok (.aload_n 0, 1) := by decide +kernel
theorem dX7_cause_1 : decode cX7_cause 1 = .ok (.iload_n 1, 1) := by decide +kernel
theorem dX7_cause_2 : decode cX7_cause 2 = .ok (.invokevirtual 83, 3) := by decide +kernel
theorem dX7_cause_5 : decode cX7_cause 5 = .ok (.aload_n 0, 1) := by decide +kernel
theorem dX7_cause_6 : decode cX7_cause 6 = .ok (.iload_n 1, 1) := by decide +kernel
theorem dX7_cause_7 : decode cX7_cause 7 = .ok (.invokevirtual 185, 3) := by decide +kernel
theorem dX7_cause_10 : decode cX7_cause 10 = .ok (.ireturn, 1) := by decide +kernel
theorem dX7_suspects_0 : decode cX7_suspects 0 = .ok (.aload_n 0, 1) := by decide +kernel
theorem dX7_suspects_1 : decode cX7_suspects 1 = .ok (.iload_n 1, 1) := by decide +kernel
theorem dX7_suspects_2 : decode cX7_suspects 2 = .ok (.invokevirtual 83, 3) := by decide +kernel
theorem dX7_suspects_5 : decode cX7_suspects 5 = .ok (.aload_n 0, 1) := by decide +kernel
theorem dX7_suspects_6 : decode cX7_suspects 6 = .ok (.iload_n 1, 1) := by decide +kernel
theorem dX7_suspects_7 : decode cX7_suspects 7 = .ok (.invokevirtual 185, 3) := by decide +kernel
theorem dX7_suspects_10 : decode cX7_suspects 10 = .ok (.istore_n 2, 1) := by decide +kernel
theorem dX7_suspects_11 : decode cX7_suspects 11 = .ok (.iload_n 2, 1) := by decide +kernel
theorem dX7_suspects_12 : decode cX7_suspects 12 = .ok (.iconst (-1), 1) := by decide +kernel
theorem dX7_suspects_13 : decode cX7_suspects 13 = .ok (.if_icmp .eq 7, 3) := by decide +kernel
theorem dX7_suspects_16 : decode cX7_suspects 16 = .ok (.iload_n 2, 1) := by decide +kernel
theorem dX7_suspects_17 : decode cX7_suspects 17 = .ok (.ifCond .ne 5, 3) := by decide +kernel
theorem dX7_suspects_20 : decode cX7_suspects 20 = .ok (.iconst 0, 1) := by decide +kernel
theorem dX7_suspects_21 : decode cX7_suspects 21 = .ok (.ireturn, 1) := by decide +kernel
theorem dX7_suspects_22 : decode cX7_suspects 22 = .ok (.iload_n 2, 1) := by decide +kernel
theorem dX7_suspects_23 : decode cX7_suspects 23 = .ok (.istore_n 3, 1) := by decide +kernel
theorem dX7_suspects_24 : decode cX7_suspects 24 = .ok (.iload_n 2, 1) := by decide +kernel
theorem dX7_suspects_25 : decode cX7_suspects 25 = .ok (.iconst 1, 1) := by decide +kernel
theorem dX7_suspects_26 : decode cX7_suspects 26 = .ok (.iadd, 1) := by decide +kernel
theorem dX7_suspects_27 : decode cX7_suspects 27 = .ok (.istore 4, 2) := by decide +kernel
theorem dX7_suspects_29 : decode cX7_suspects 29 = .ok (.iload 4, 2) := by decide +kernel
theorem dX7_suspects_31 : decode cX7_suspects 31 = .ok (.bipush 64, 2) := by decide +kernel
theorem dX7_suspects_33 : decode cX7_suspects 33 = .ok (.if_icmp .ge 36, 3) := by decide +kernel
theorem dX7_suspects_36 : decode cX7_suspects 36 = .ok (.iload 4, 2) := by decide +kernel
theorem dX7_suspects_38 : decode cX7_suspects 38 = .ok (.invokestatic 188, 3) := by decide +kernel
theorem dX7_suspects_41 : decode cX7_suspects 41 = .ok (.iload_n 2, 1) := by decide +kernel
theorem dX7_suspects_42 : decode cX7_suspects 42 = .ok (.invokestatic 188, 3) := by decide +kernel
theorem dX7_suspects_45 : decode cX7_suspects 45 = .ok (.if_icmp .ne 18, 3) := by decide +kernel
theorem dX7_suspects_48 : decode cX7_suspects 48 = .ok (.aload_n 0, 1) := by decide +kernel
theorem dX7_suspects_49 : decode cX7_suspects 49 = .ok (.iload 4, 2) := by decide +kernel
theorem dX7_suspects_51 : decode cX7_suspects 51 = .ok (.iload_n 1, 1) := by decide +kernel
theorem dX7_suspects_52 : decode cX7_suspects 52 = .ok (.invokevirtual 193, 3) := by decide +kernel
theorem dX7_suspects_55 : decode cX7_suspects 55 = .ok (.ifCond .eq 8, 3) := by decide +kernel
theorem dX7_suspects_58 : decode cX7_suspects 58 = .ok (.iload_n 3, 1) := by decide +kernel
theorem dX7_suspects_59 : decode cX7_suspects 59 = .ok (.iload 4, 2) := by decide +kernel
theorem dX7_suspects_61 : decode cX7_suspects 61 = .ok (.ior, 1) := by decide +kernel
theorem dX7_suspects_62 : decode cX7_suspects 62 = .ok (.istore_n 3, 1) := by decide +kernel
theorem dX7_suspects_63 : decode cX7_suspects 63 = .ok (.iinc 4 1, 3) := by decide +kernel
theorem dX7_suspects_66 : decode cX7_suspects 66 = .ok (.goto (-37), 3) := by decide +kernel
theorem dX7_suspects_69 : decode cX7_suspects 69 = .ok (.iload_n 3, 1) := by decide +kernel
theorem dX7_suspects_70 : decode cX7_suspects 70 = .ok (.ireturn, 1) := by decide +kernel
theorem dX7_capacityFor_0 : decode cX7_capacityFor 0 = .ok (.iload_n 1, 1) := by decide +kernel
theorem dX7_capacityFor_1 : decode cX7_capacityFor 1 = .ok (.ifCond .ge 13, 3) := by decide +kernel
theorem dX7_capacityFor_4 : decode cX7_capacityFor 4 = .ok (.new 60, 3) := by decide +kernel
theorem dX7_capacityFor_7 : decode cX7_capacityFor 7 = .ok (.dup, 1) := by decide +kernel
theorem dX7_capacityFor_8 : decode cX7_capacityFor 8 = .ok (.ldc 196, 2) := by decide +kernel
theorem dX7_capacityFor_10 : decode cX7_capacityFor 10 = .ok (.invokespecial 64, 3) := by decide +kernel
theorem dX7_capacityFor_13 : decode cX7_capacityFor 13 = .ok (.athrow, 1) := by decide +kernel
theorem dX7_capacityFor_14 : decode cX7_capacityFor 14 = .ok (.iconst 1, 1) := by decide +kernel
theorem dX7_capacityFor_15 : decode cX7_capacityFor 15 = .ok (.istore_n 2, 1) := by decide +kernel
theorem dX7_capacityFor_16 : decode cX7_capacityFor 16 = .ok (.iload_n 2, 1) := by decide +kernel
theorem dX7_capacityFor_17 : decode cX7_capacityFor 17 = .ok (.sipush 1000, 3) := by decide +kernel
theorem dX7_capacityFor_20 : decode cX7_capacityFor 20 = .ok (.if_icmp .gt 55, 3) := by decide +kernel
theorem dX7_capacityFor_23 : decode cX7_capacityFor 23 = .ok (.aload_n 0, 1) := by decide +kernel
theorem dX7_capacityFor_24 : decode cX7_capacityFor 24 = .ok (.getfield 32, 3) := by decide +kernel
theorem dX7_capacityFor_27 : decode cX7_capacityFor 27 = .ok (.bipush 63, 2) := by decide +kernel
theorem dX7_capacityFor_29 : decode cX7_capacityFor 29 = .ok (.iload_n 2, 1) := by decide +kernel
theorem dX7_capacityFor_30 : decode cX7_capacityFor 30 = .ok (.aload_n 0, 1) := by decide +kernel
theorem dX7_capacityFor_31 : decode cX7_capacityFor 31 = .ok (.getfield 10, 3) := by decide +kernel
theorem dX7_capacityFor_34 : decode cX7_capacityFor 34 = .ok (.getfield 111, 3) := by decide +kernel
theorem dX7_capacityFor_37 : decode cX7_capacityFor 37 = .ok (.iconst 2, 1) := by decide +kernel
theorem dX7_capacityFor_38 : decode cX7_capacityFor 38 = .ok (.iaload, 1) := by decide +kernel
theorem dX7_capacityFor_39 : decode cX7_capacityFor 39 = .ok (.invokevirtual 114, 3) := by decide +kernel
theorem dX7_capacityFor_42 : decode cX7_capacityFor 42 = .ok (.aload_n 0, 1) := by decide +kernel
theorem dX7_capacityFor_43 : decode cX7_capacityFor 43 = .ok (.getfield 32, 3) := by decide +kernel
theorem dX7_capacityFor_46 : decode cX7_capacityFor 46 = .ok (.getfield 118, 3) := by decide +kernel
theorem dX7_capacityFor_49 : decode cX7_capacityFor 49 = .ok (.getfield 122, 3) := by decide +kernel
theorem dX7_capacityFor_52 : decode cX7_capacityFor 52 = .ok (.iload_n 1, 1) := by decide +kernel
theorem dX7_capacityFor_53 : decode cX7_capacityFor 53 = .ok (.if_icmp .gt 5, 3) := by decide +kernel
theorem dX7_capacityFor_56 : decode cX7_capacityFor 56 = .ok (.iload_n 2, 1) := by decide +kernel
theorem dX7_capacityFor_57 : decode cX7_capacityFor 57 = .ok (.ireturn, 1) := by decide +kernel
theorem dX7_capacityFor_58 : decode cX7_capacityFor 58 = .ok (.iload_n 2, 1) := by decide +kernel
theorem dX7_capacityFor_59 : decode cX7_capacityFor 59 = .ok (.iconst 1, 1) := by decide +kernel
theorem dX7_capacityFor_60 : decode cX7_capacityFor 60 = .ok (.iadd, 1) := by decide +kernel
theorem dX7_capacityFor_61 : decode cX7_capacityFor 61 = .ok (.aload_n 0, 1) := by decide +kernel
theorem dX7_capacityFor_62 : decode cX7_capacityFor 62 = .ok (.getfield 32, 3) := by decide +kernel
theorem dX7_capacityFor_65 : decode cX7_capacityFor 65 = .ok (.getfield 198, 3) := by decide +kernel
theorem dX7_capacityFor_68 : decode cX7_capacityFor 68 = .ok (.invokestatic 201, 3) := by decide +kernel
theorem dX7_capacityFor_71 : decode cX7_capacityFor 71 = .ok (.istore_n 2, 1) := by decide +kernel
theorem dX7_capacityFor_72 : decode cX7_capacityFor 72 = .ok (.goto (-56), 3) := by decide +kernel
theorem dX7_capacityFor_75 : decode cX7_capacityFor 75 = .ok (.iconst (-1), 1) := by decide +kernel
theorem dX7_capacityFor_76 : decode cX7_capacityFor 76 = .ok (.ireturn, 1) := by decide +kernel
theorem dX7_bestPolicy_0 : decode cX7_bestPolicy 0 = .ok (.iconst 0, 1) := by decide +kernel
theorem dX7_bestPolicy_1 : decode cX7_bestPolicy 1 = .ok (.istore_n 1, 1) := by decide +kernel
theorem dX7_bestPolicy_2 : decode cX7_bestPolicy 2 = .ok (.iconst 0, 1) := by decide +kernel
theorem dX7_bestPolicy_3 : decode cX7_bestPolicy 3 = .ok (.istore_n 2, 1) := by decide +kernel
theorem dX7_bestPolicy_4 : decode cX7_bestPolicy 4 = .ok (.iconst 0, 1) := by decide +kernel
theorem dX7_bestPolicy_5 : decode cX7_bestPolicy 5 = .ok (.istore_n 3, 1) := by decide +kernel
theorem dX7_bestPolicy_6 : decode cX7_bestPolicy 6 = .ok (.iload_n 3, 1) := by decide +kernel
theorem dX7_bestPolicy_7 : decode cX7_bestPolicy 7 = .ok (.iconst 5, 1) := by decide +kernel
theorem dX7_bestPolicy_8 : decode cX7_bestPolicy 8 = .ok (.if_icmp .ge 53, 3) := by decide +kernel
theorem dX7_bestPolicy_11 : decode cX7_bestPolicy 11 = .ok (.aload_n 0, 1) := by decide +kernel
theorem dX7_bestPolicy_12 : decode cX7_bestPolicy 12 = .ok (.getfield 32, 3) := by decide +kernel
theorem dX7_bestPolicy_15 : decode cX7_bestPolicy 15 = .ok (.bipush 63, 2) := by decide +kernel
theorem dX7_bestPolicy_17 : decode cX7_bestPolicy 17 = .ok (.aload_n 0, 1) := by decide +kernel
theorem dX7_bestPolicy_18 : decode cX7_bestPolicy 18 = .ok (.getfield 10, 3) := by decide +kernel
theorem dX7_bestPolicy_21 : decode cX7_bestPolicy 21 = .ok (.getfield 111, 3) := by decide +kernel
theorem dX7_bestPolicy_24 : decode cX7_bestPolicy 24 = .ok (.iconst 0, 1) := by decide +kernel
theorem dX7_bestPolicy_25 : decode cX7_bestPolicy 25 = .ok (.iaload, 1) := by decide +kernel
theorem dX7_bestPolicy_26 : decode cX7_bestPolicy 26 = .ok (.iload_n 3, 1) := by decide +kernel
theorem dX7_bestPolicy_27 : decode cX7_bestPolicy 27 = .ok (.invokevirtual 114, 3) := by decide +kernel
theorem dX7_bestPolicy_30 : decode cX7_bestPolicy 30 = .ok (.aload_n 0, 1) := by decide +kernel
theorem dX7_bestPolicy_31 : decode cX7_bestPolicy 31 = .ok (.getfield 32, 3) := by decide +kernel
theorem dX7_bestPolicy_34 : decode cX7_bestPolicy 34 = .ok (.iconst (-1), 1) := by decide +kernel
theorem dX7_bestPolicy_35 : decode cX7_bestPolicy 35 = .ok (.invokevirtual 206, 3) := by decide +kernel
theorem dX7_bestPolicy_38 : decode cX7_bestPolicy 38 = .ok (.istore 4, 2) := by decide +kernel
theorem dX7_bestPolicy_40 : decode cX7_bestPolicy 40 = .ok (.iload_n 3, 1) := by decide +kernel
theorem dX7_bestPolicy_41 : decode cX7_bestPolicy 41 = .ok (.ifCond .eq 9, 3) := by decide +kernel
theorem dX7_bestPolicy_44 : decode cX7_bestPolicy 44 = .ok (.iload 4, 2) := by decide +kernel
theorem dX7_bestPolicy_46 : decode cX7_bestPolicy 46 = .ok (.iload_n 2, 1) := by decide +kernel
theorem dX7_bestPolicy_47 : decode cX7_bestPolicy 47 = .ok (.if_icmp .ge 8, 3) := by decide +kernel
theorem dX7_bestPolicy_50 : decode cX7_bestPolicy 50 = .ok (.iload_n 3, 1) := by decide +kernel
theorem dX7_bestPolicy_51 : decode cX7_bestPolicy 51 = .ok (.istore_n 1, 1) := by decide +kernel
theorem dX7_bestPolicy_52 : decode cX7_bestPolicy 52 = .ok (.iload 4, 2) := by decide +kernel
theorem dX7_bestPolicy_54 : decode cX7_bestPolicy 54 = .ok (.istore_n 2, 1) := by decide +kernel
theorem dX7_bestPolicy_55 : decode cX7_bestPolicy 55 = .ok (.iinc 3 1, 3) := by decide +kernel
theorem dX7_bestPolicy_58 : decode cX7_bestPolicy 58 = .ok (.goto (-52), 3) := by decide +kernel
theorem dX7_bestPolicy_61 : decode cX7_bestPolicy 61 = .ok (.iload_n 1, 1) := by decide +kernel
theorem dX7_bestPolicy_62 : decode cX7_bestPolicy 62 = .ok (.ireturn, 1) := by decide +kernel
theorem dX7_type_0 : decode cX7_type 0 = .ok (.iload_n 1, 1) := by decide +kernel
theorem dX7_type_1 : decode cX7_type 1 = .ok (.bipush 32, 2) := by decide +kernel
theorem dX7_type_3 : decode cX7_type 3 = .ok (.if_icmp .lt 9, 3) := by decide +kernel
theorem dX7_type_6 : decode cX7_type 6 = .ok (.iload_n 1, 1) := by decide +kernel
theorem dX7_type_7 : decode cX7_type 7 = .ok (.bipush 126, 2) := by decide +kernel
theorem dX7_type_9 : decode cX7_type 9 = .ok (.if_icmp .le 13, 3) := by decide +kernel
theorem dX7_type_12 : decode cX7_type 12 = .ok (.new 60, 3) := by decide +kernel
theorem dX7_type_15 : decode cX7_type 15 = .ok (.dup, 1) := by decide +kernel
theorem dX7_type_16 : decode cX7_type 16 = .ok (.ldc 209, 2) := by decide +kernel
theorem dX7_type_18 : decode cX7_type 18 = .ok (.invokespecial 64, 3) := by decide +kernel
theorem dX7_type_21 : decode cX7_type 21 = .ok (.athrow, 1) := by decide +kernel
theorem dX7_type_22 : decode cX7_type 22 = .ok (.aload_n 0, 1) := by decide +kernel
theorem dX7_type_23 : decode cX7_type 23 = .ok (.getfield 38, 3) := by decide +kernel
theorem dX7_type_26 : decode cX7_type 26 = .ok (.invokevirtual 211, 3) := by decide +kernel
theorem dX7_type_29 : decode cX7_type 29 = .ok (.ifCond .eq 13, 3) := by decide +kernel
theorem dX7_type_32 : decode cX7_type 32 = .ok (.new 71, 3) := by decide +kernel
theorem dX7_type_35 : decode cX7_type 35 = .ok (.dup, 1) := by decide +kernel
theorem dX7_type_36 : decode cX7_type 36 = .ok (.ldc 212, 2) := by decide +kernel
theorem dX7_type_38 : decode cX7_type 38 = .ok (.invokespecial 75, 3) := by decide +kernel
theorem dX7_type_41 : decode cX7_type 41 = .ok (.athrow, 1) := by decide +kernel
theorem dX7_type_42 : decode cX7_type 42 = .ok (.aload_n 0, 1) := by decide +kernel
theorem dX7_type_43 : decode cX7_type 43 = .ok (.getfield 38, 3) := by decide +kernel
theorem dX7_type_46 : decode cX7_type 46 = .ok (.iload_n 1, 1) := by decide +kernel
theorem dX7_type_47 : decode cX7_type 47 = .ok (.invokevirtual 214, 3) := by decide +kernel
theorem dX7_type_50 : decode cX7_type 50 = .ok (.aload_n 0, 1) := by decide +kernel
theorem dX7_type_51 : decode cX7_type 51 = .ok (.getfield 38, 3) := by decide +kernel
theorem dX7_type_54 : decode cX7_type 54 = .ok (.getfield 217, 3) := by decide +kernel
theorem dX7_type_57 : decode cX7_type 57 = .ok (.ireturn, 1) := by decide +kernel
theorem dX7_clearText_0 : decode cX7_clearText 0 = .ok (.aload_n 0, 1) := by decide +kernel
theorem dX7_clearText_1 : decode cX7_clearText 1 = .ok (.getfield 38, 3) := by decide +kernel
theorem dX7_clearText_4 : decode cX7_clearText 4 = .ok (.getfield 217, 3) := by decide +kernel
theorem dX7_clearText_7 : decode cX7_clearText 7 = .ok (.istore_n 1, 1) := by decide +kernel
theorem dX7_clearText_8 : decode cX7_clearText 8 = .ok (.aload_n 0, 1) := by decide +kernel
theorem dX7_clearText_9 : decode cX7_clearText 9 = .ok (.getfield 38, 3) := by decide +kernel
theorem dX7_clearText_12 : decode cX7_clearText 12 = .ok (.iconst 0, 1) := by decide +kernel
theorem dX7_clearText_13 : decode cX7_clearText 13 = .ok (.putfield 217, 3) := by decide +kernel
theorem dX7_clearText_16 : decode cX7_clearText 16 = .ok (.iload_n 1, 1) := by decide +kernel
theorem dX7_clearText_17 : decode cX7_clearText 17 = .ok (.ireturn, 1) := by decide +kernel
theorem dX7_fault_0 : decode cX7_fault 0 = .ok (.aload_n 0, 1) := by decide +kernel
theorem dX7_fault_1 : decode cX7_fault 1 = .ok (.getfield 38, 3) := by decide +kernel
theorem dX7_fault_4 : decode cX7_fault 4 = .ok (.invokevirtual 220, 3) := by decide +kernel
theorem dX7_fault_7 : decode cX7_fault 7 = .ok (.ireturn, 1) := by decide +kernel
theorem dX7_run_0 : decode cX7_run 0 = .ok (.aload_n 0, 1) := by decide +kernel
theorem dX7_run_1 : decode cX7_run 1 = .ok (.getfield 38, 3) := by decide +kernel
theorem dX7_run_4 : decode cX7_run 4 = .ok (.invokevirtual 220, 3) := by decide +kernel
theorem dX7_run_7 : decode cX7_run 7 = .ok (.iconst (-1), 1) := by decide +kernel
theorem dX7_run_8 : decode cX7_run 8 = .ok (.if_icmp .eq 13, 3) := by decide +kernel
theorem dX7_run_11 : decode cX7_run 11 = .ok (.new 60, 3) := by decide +kernel
theorem dX7_run_14 : decode cX7_run 14 = .ok (.dup, 1) := by decide +kernel
theorem dX7_run_15 : decode cX7_run 15 = .ok (.ldc 223, 2) := by decide +kernel
theorem dX7_run_17 : decode cX7_run 17 = .ok (.invokespecial 64, 3) := by decide +kernel
theorem dX7_run_20 : decode cX7_run 20 = .ok (.athrow, 1) := by decide +kernel
theorem dX7_run_21 : decode cX7_run 21 = .ok (.aload_n 0, 1) := by decide +kernel
theorem dX7_run_22 : decode cX7_run 22 = .ok (.getfield 19, 3) := by decide +kernel
theorem dX7_run_25 : decode cX7_run 25 = .ok (.aload_n 0, 1) := by decide +kernel
theorem dX7_run_26 : decode cX7_run 26 = .ok (.getfield 10, 3) := by decide +kernel
theorem dX7_run_29 : decode cX7_run 29 = .ok (.invokevirtual 76, 3) := by decide +kernel
theorem dX7_run_32 : decode cX7_run 32 = .ok (.iconst 0, 1) := by decide +kernel
theorem dX7_run_33 : decode cX7_run 33 = .ok (.istore_n 1, 1) := by decide +kernel
theorem dX7_run_34 : decode cX7_run 34 = .ok (.iconst 0, 1) := by decide +kernel
theorem dX7_run_35 : decode cX7_run 35 = .ok (.istore_n 2, 1) := by decide +kernel
theorem dX7_run_36 : decode cX7_run 36 = .ok (.iload_n 2, 1) := by decide +kernel
theorem dX7_run_37 : decode cX7_run 37 = .ok (.aload_n 0, 1) := by decide +kernel
theorem dX7_run_38 : decode cX7_run 38 = .ok (.getfield 38, 3) := by decide +kernel
theorem dX7_run_41 : decode cX7_run 41 = .ok (.getfield 225, 3) := by decide +kernel
theorem dX7_run_44 : decode cX7_run 44 = .ok (.if_icmp .ge 31, 3) := by decide +kernel
theorem dX7_run_47 : decode cX7_run 47 = .ok (.aload_n 0, 1) := by decide +kernel
theorem dX7_run_48 : decode cX7_run 48 = .ok (.aload_n 0, 1) := by decide +kernel
theorem dX7_run_49 : decode cX7_run 49 = .ok (.getfield 38, 3) := by decide +kernel
theorem dX7_run_52 : decode cX7_run 52 = .ok (.getfield 228, 3) := by decide +kernel
theorem dX7_run_55 : decode cX7_run 55 = .ok (.iload_n 2, 1) := by decide +kernel
theorem dX7_run_56 : decode cX7_run 56 = .ok (.aaload, 1) := by decide +kernel
theorem dX7_run_57 : decode cX7_run 57 = .ok (.iload_n 2, 1) := by decide +kernel
theorem dX7_run_58 : decode cX7_run 58 = .ok (.iconst 3, 1) := by decide +kernel
theorem dX7_run_59 : decode cX7_run 59 = .ok (.imul, 1) := by decide +kernel
theorem dX7_run_60 : decode cX7_run 60 = .ok (.invokevirtual 232, 3) := by decide +kernel
theorem dX7_run_63 : decode cX7_run 63 = .ok (.ifCond .eq 6, 3) := by decide +kernel
theorem dX7_run_66 : decode cX7_run 66 = .ok (.iinc 1 1, 3) := by decide +kernel
theorem dX7_run_69 : decode cX7_run 69 = .ok (.iinc 2 1, 3) := by decide +kernel
theorem dX7_run_72 : decode cX7_run 72 = .ok (.goto (-36), 3) := by decide +kernel
theorem dX7_run_75 : decode cX7_run 75 = .ok (.iload_n 1, 1) := by decide +kernel
theorem dX7_run_76 : decode cX7_run 76 = .ok (.ireturn, 1) := by decide +kernel
theorem dX7_undo_0 : decode cX7_undo 0 = .ok (.aload_n 0, 1) := by decide +kernel
theorem dX7_undo_1 : decode cX7_undo 1 = .ok (.getfield 19, 3) := by decide +kernel
theorem dX7_undo_4 : decode cX7_undo 4 = .ok (.getfield 236, 3) := by decide +kernel
theorem dX7_undo_7 : decode cX7_undo 7 = .ok (.ifCond .ne 13, 3) := by decide +kernel
theorem dX7_undo_10 : decode cX7_undo 10 = .ok (.new 71, 3) := by decide +kernel
theorem dX7_undo_13 : decode cX7_undo 13 = .ok (.dup, 1) := by decide +kernel
theorem dX7_undo_14 : decode cX7_undo 14 = .ok (.ldc 237, 2) := by decide +kernel
theorem dX7_undo_16 : decode cX7_undo 16 = .ok (.invokespecial 75, 3) := by decide +kernel
theorem dX7_undo_19 : decode cX7_undo 19 = .ok (.athrow, 1) := by decide +kernel
theorem dX7_undo_20 : decode cX7_undo 20 = .ok (.aload_n 0, 1) := by decide +kernel
theorem dX7_undo_21 : decode cX7_undo 21 = .ok (.getfield 19, 3) := by decide +kernel
theorem dX7_undo_24 : decode cX7_undo 24 = .ok (.aload_n 0, 1) := by decide +kernel
theorem dX7_undo_25 : decode cX7_undo 25 = .ok (.getfield 10, 3) := by decide +kernel
theorem dX7_undo_28 : decode cX7_undo 28 = .ok (.invokevirtual 239, 3) := by decide +kernel
theorem dX7_undo_31 : decode cX7_undo 31 = .ok (.aload_n 0, 1) := by decide +kernel
theorem dX7_undo_32 : decode cX7_undo 32 = .ok (.getfield 19, 3) := by decide +kernel
theorem dX7_undo_35 : decode cX7_undo 35 = .ok (.getfield 236, 3) := by decide +kernel
theorem dX7_undo_38 : decode cX7_undo 38 = .ok (.ireturn, 1) := by decide +kernel
theorem dX7_checksum_0 : decode cX7_checksum 0 = .ok (.aload_n 0, 1) := by decide +kernel
theorem dX7_checksum_1 : decode cX7_checksum 1 = .ok (.iconst (-1), 1) := by decide +kernel
theorem dX7_checksum_2 : decode cX7_checksum 2 = .ok (.invokevirtual 153, 3) := by decide +kernel
theorem dX7_checksum_5 : decode cX7_checksum 5 = .ok (.ldc2_w 242, 3) := by decide +kernel
theorem dX7_checksum_8 : decode cX7_checksum 8 = .ok (.aload_n 0, 1) := by decide +kernel
theorem dX7_checksum_9 : decode cX7_checksum 9 = .ok (.getfield 10, 3) := by decide +kernel
theorem dX7_checksum_12 : decode cX7_checksum 12 = .ok (.getfield 89, 3) := by decide +kernel
theorem dX7_checksum_15 : decode cX7_checksum 15 = .ok (.i2l, 1) := by decide +kernel
theorem dX7_checksum_16 : decode cX7_checksum 16 = .ok (.ladd, 1) := by decide +kernel
theorem dX7_checksum_17 : decode cX7_checksum 17 = .ok (.lstore_n 1, 1) := by decide +kernel
theorem dX7_checksum_18 : decode cX7_checksum 18 = .ok (.iconst 0, 1) := by decide +kernel
theorem dX7_checksum_19 : decode cX7_checksum 19 = .ok (.istore_n 3, 1) := by decide +kernel
theorem dX7_checksum_20 : decode cX7_checksum 20 = .ok (.iload_n 3, 1) := by decide +kernel
theorem dX7_checksum_21 : decode cX7_checksum 21 = .ok (.aload_n 0, 1) := by decide +kernel
theorem dX7_checksum_22 : decode cX7_checksum 22 = .ok (.getfield 10, 3) := by decide +kernel
theorem dX7_checksum_25 : decode cX7_checksum 25 = .ok (.getfield 89, 3) := by decide +kernel
theorem dX7_checksum_28 : decode cX7_checksum 28 = .ok (.if_icmp .ge 60, 3) := by decide +kernel
theorem dX7_checksum_31 : decode cX7_checksum 31 = .ok (.ldc2_w 244, 3) := by decide +kernel
theorem dX7_checksum_34 : decode cX7_checksum 34 = .ok (.lload_n 1, 1) := by decide +kernel
theorem dX7_checksum_35 : decode cX7_checksum 35 = .ok (.lmul, 1) := by decide +kernel
theorem dX7_checksum_36 : decode cX7_checksum 36 = .ok (.aload_n 0, 1) := by decide +kernel
theorem dX7_checksum_37 : decode cX7_checksum 37 = .ok (.getfield 10, 3) := by decide +kernel
theorem dX7_checksum_40 : decode cX7_checksum 40 = .ok (.getfield 93, 3) := by decide +kernel
theorem dX7_checksum_43 : decode cX7_checksum 43 = .ok (.iload_n 3, 1) := by decide +kernel
theorem dX7_checksum_44 : decode cX7_checksum 44 = .ok (.iaload, 1) := by decide +kernel
theorem dX7_checksum_45 : decode cX7_checksum 45 = .ok (.i2l, 1) := by decide +kernel
theorem dX7_checksum_46 : decode cX7_checksum 46 = .ok (.ladd, 1) := by decide +kernel
theorem dX7_checksum_47 : decode cX7_checksum 47 = .ok (.lstore_n 1, 1) := by decide +kernel
theorem dX7_checksum_48 : decode cX7_checksum 48 = .ok (.ldc2_w 244, 3) := by decide +kernel
theorem dX7_checksum_51 : decode cX7_checksum 51 = .ok (.lload_n 1, 1) := by decide +kernel
theorem dX7_checksum_52 : decode cX7_checksum 52 = .ok (.lmul, 1) := by decide +kernel
theorem dX7_checksum_53 : decode cX7_checksum 53 = .ok (.aload_n 0, 1) := by decide +kernel
theorem dX7_checksum_54 : decode cX7_checksum 54 = .ok (.getfield 10, 3) := by decide +kernel
theorem dX7_checksum_57 : decode cX7_checksum 57 = .ok (.getfield 96, 3) := by decide +kernel
theorem dX7_checksum_60 : decode cX7_checksum 60 = .ok (.iload_n 3, 1) := by decide +kernel
theorem dX7_checksum_61 : decode cX7_checksum 61 = .ok (.iaload, 1) := by decide +kernel
theorem dX7_checksum_62 : decode cX7_checksum 62 = .ok (.i2l, 1) := by decide +kernel
theorem dX7_checksum_63 : decode cX7_checksum 63 = .ok (.ladd, 1) := by decide +kernel
theorem dX7_checksum_64 : decode cX7_checksum 64 = .ok (.lstore_n 1, 1) := by decide +kernel
theorem dX7_checksum_65 : decode cX7_checksum 65 = .ok (.ldc2_w 244, 3) := by decide +kernel
theorem dX7_checksum_68 : decode cX7_checksum 68 = .ok (.lload_n 1, 1) := by decide +kernel
theorem dX7_checksum_69 : decode cX7_checksum 69 = .ok (.lmul, 1) := by decide +kernel
theorem dX7_checksum_70 : decode cX7_checksum 70 = .ok (.aload_n 0, 1) := by decide +kernel
theorem dX7_checksum_71 : decode cX7_checksum 71 = .ok (.getfield 10, 3) := by decide +kernel
theorem dX7_checksum_74 : decode cX7_checksum 74 = .ok (.getfield 99, 3) := by decide +kernel
theorem dX7_checksum_77 : decode cX7_checksum 77 = .ok (.iload_n 3, 1) := by decide +kernel
theorem dX7_checksum_78 : decode cX7_checksum 78 = .ok (.iaload, 1) := by decide +kernel
theorem dX7_checksum_79 : decode cX7_checksum 79 = .ok (.i2l, 1) := by decide +kernel
theorem dX7_checksum_80 : decode cX7_checksum 80 = .ok (.ladd, 1) := by decide +kernel
theorem dX7_checksum_81 : decode cX7_checksum 81 = .ok (.lstore_n 1, 1) := by decide +kernel
theorem dX7_checksum_82 : decode cX7_checksum 82 = .ok (.iinc 3 1, 3) := by decide +kernel
theorem dX7_checksum_85 : decode cX7_checksum 85 = .ok (.goto (-65), 3) := by decide +kernel
theorem dX7_checksum_88 : decode cX7_checksum 88 = .ok (.iconst 0, 1) := by decide +kernel
theorem dX7_checksum_89 : decode cX7_checksum 89 = .ok (.istore_n 3, 1) := by decide +kernel
theorem dX7_checksum_90 : decode cX7_checksum 90 = .ok (.iload_n 3, 1) := by decide +kernel
theorem dX7_checksum_91 : decode cX7_checksum 91 = .ok (.bipush 14, 2) := by decide +kernel
theorem dX7_checksum_93 : decode cX7_checksum 93 = .ok (.if_icmp .ge 26, 3) := by decide +kernel
theorem dX7_checksum_96 : decode cX7_checksum 96 = .ok (.ldc2_w 244, 3) := by decide +kernel
theorem dX7_checksum_99 : decode cX7_checksum 99 = .ok (.lload_n 1, 1) := by decide +kernel
theorem dX7_checksum_100 : decode cX7_checksum 100 = .ok (.lmul, 1) := by decide +kernel
theorem dX7_checksum_101 : decode cX7_checksum 101 = .ok (.aload_n 0, 1) := by decide +kernel
theorem dX7_checksum_102 : decode cX7_checksum 102 = .ok (.getfield 10, 3) := by decide +kernel
theorem dX7_checksum_105 : decode cX7_checksum 105 = .ok (.getfield 111, 3) := by decide +kernel
theorem dX7_checksum_108 : decode cX7_checksum 108 = .ok (.iload_n 3, 1) := by decide +kernel
theorem dX7_checksum_109 : decode cX7_checksum 109 = .ok (.iaload, 1) := by decide +kernel
theorem dX7_checksum_110 : decode cX7_checksum 110 = .ok (.i2l, 1) := by decide +kernel
theorem dX7_checksum_111 : decode cX7_checksum 111 = .ok (.ladd, 1) := by decide +kernel
theorem dX7_checksum_112 : decode cX7_checksum 112 = .ok (.lstore_n 1, 1) := by decide +kernel
theorem dX7_checksum_113 : decode cX7_checksum 113 = .ok (.iinc 3 1, 3) := by decide +kernel
theorem dX7_checksum_116 : decode cX7_checksum 116 = .ok (.goto (-26), 3) := by decide +kernel
theorem dX7_checksum_119 : decode cX7_checksum 119 = .ok (.iconst 0, 1) := by decide +kernel
theorem dX7_checksum_120 : decode cX7_checksum 120 = .ok (.istore_n 3, 1) := by decide +kernel
theorem dX7_checksum_121 : decode cX7_checksum 121 = .ok (.iload_n 3, 1) := by decide +kernel
theorem dX7_checksum_122 : decode cX7_checksum 122 = .ok (.bipush 64, 2) := by decide +kernel
theorem dX7_checksum_124 : decode cX7_checksum 124 = .ok (.if_icmp .ge 23, 3) := by decide +kernel
theorem dX7_checksum_127 : decode cX7_checksum 127 = .ok (.ldc2_w 244, 3) := by decide +kernel
theorem dX7_checksum_130 : decode cX7_checksum 130 = .ok (.lload_n 1, 1) := by decide +kernel
theorem dX7_checksum_131 : decode cX7_checksum 131 = .ok (.lmul, 1) := by decide +kernel
theorem dX7_checksum_132 : decode cX7_checksum 132 = .ok (.aload_n 0, 1) := by decide +kernel
theorem dX7_checksum_133 : decode cX7_checksum 133 = .ok (.getfield 42, 3) := by decide +kernel
theorem dX7_checksum_136 : decode cX7_checksum 136 = .ok (.iload_n 3, 1) := by decide +kernel
theorem dX7_checksum_137 : decode cX7_checksum 137 = .ok (.iaload, 1) := by decide +kernel
theorem dX7_checksum_138 : decode cX7_checksum 138 = .ok (.i2l, 1) := by decide +kernel
theorem dX7_checksum_139 : decode cX7_checksum 139 = .ok (.ladd, 1) := by decide +kernel
theorem dX7_checksum_140 : decode cX7_checksum 140 = .ok (.lstore_n 1, 1) := by decide +kernel
theorem dX7_checksum_141 : decode cX7_checksum 141 = .ok (.iinc 3 1, 3) := by decide +kernel
theorem dX7_checksum_144 : decode cX7_checksum 144 = .ok (.goto (-23), 3) := by decide +kernel
theorem dX7_checksum_147 : decode cX7_checksum 147 = .ok (.ldc2_w 244, 3) := by decide +kernel
theorem dX7_checksum_150 : decode cX7_checksum 150 = .ok (.lload_n 1, 1) := by decide +kernel
theorem dX7_checksum_151 : decode cX7_checksum 151 = .ok (.lmul, 1) := by decide +kernel
theorem dX7_checksum_152 : decode cX7_checksum 152 = .ok (.aload_n 0, 1) := by decide +kernel
theorem dX7_checksum_153 : decode cX7_checksum 153 = .ok (.getfield 38, 3) := by decide +kernel
theorem dX7_checksum_156 : decode cX7_checksum 156 = .ok (.getfield 217, 3) := by decide +kernel
theorem dX7_checksum_159 : decode cX7_checksum 159 = .ok (.i2l, 1) := by decide +kernel
theorem dX7_checksum_160 : decode cX7_checksum 160 = .ok (.ladd, 1) := by decide +kernel
theorem dX7_checksum_161 : decode cX7_checksum 161 = .ok (.lstore_n 1, 1) := by decide +kernel
theorem dX7_checksum_162 : decode cX7_checksum 162 = .ok (.ldc2_w 244, 3) := by decide +kernel
theorem dX7_checksum_165 : decode cX7_checksum 165 = .ok (.lload_n 1, 1) := by decide +kernel
theorem dX7_checksum_166 : decode cX7_checksum 166 = .ok (.lmul, 1) := by decide +kernel
theorem dX7_checksum_167 : decode cX7_checksum 167 = .ok (.aload_n 0, 1) := by decide +kernel
theorem dX7_checksum_168 : decode cX7_checksum 168 = .ok (.getfield 19, 3) := by decide +kernel
theorem dX7_checksum_171 : decode cX7_checksum 171 = .ok (.getfield 236, 3) := by decide +kernel
theorem dX7_checksum_174 : decode cX7_checksum 174 = .ok (.i2l, 1) := by decide +kernel
theorem dX7_checksum_175 : decode cX7_checksum 175 = .ok (.ladd, 1) := by decide +kernel
theorem dX7_checksum_176 : decode cX7_checksum 176 = .ok (.lreturn, 1) := by decide +kernel
theorem dX7_requireFlow_0 : decode cX7_requireFlow 0 = .ok (.iload_n 0, 1) := by decide +kernel
theorem dX7_requireFlow_1 : decode cX7_requireFlow 1 = .ok (.invokestatic 246, 3) := by decide +kernel
theorem dX7_requireFlow_4 : decode cX7_requireFlow 4 = .ok (.ifCond .ne 13, 3) := by decide +kernel
theorem dX7_requireFlow_7 : decode cX7_requireFlow 7 = .ok (.new 250, 3) := by decide +kernel
theorem dX7_requireFlow_10 : decode cX7_requireFlow 10 = .ok (.dup, 1) := by decide +kernel
theorem dX7_requireFlow_11 : decode cX7_requireFlow 11 = .ok (.ldc 252, 2) := by decide +kernel
theorem dX7_requireFlow_13 : decode cX7_requireFlow 13 = .ok (.invokespecial 254, 3) := by decide +kernel
theorem dX7_requireFlow_16 : decode cX7_requireFlow 16 = .ok (.athrow, 1) := by decide +kernel
theorem dX7_requireFlow_17 : decode cX7_requireFlow 17 = .ok (.return_, 1) := by decide +kernel
theorem dX7_requireSet_0 : decode cX7_requireSet 0 = .ok (.iload_n 0, 1) := by decide +kernel
theorem dX7_requireSet_1 : decode cX7_requireSet 1 = .ok (.ifCond .lt 9, 3) := by decide +kernel
theorem dX7_requireSet_4 : decode cX7_requireSet 4 = .ok (.iload_n 0, 1) := by decide +kernel
theorem dX7_requireSet_5 : decode cX7_requireSet 5 = .ok (.bipush 63, 2) := by decide +kernel
theorem dX7_requireSet_7 : decode cX7_requireSet 7 = .ok (.if_icmp .le 13, 3) := by decide +kernel
theorem dX7_requireSet_10 : decode cX7_requireSet 10 = .ok (.new 60, 3) := by decide +kernel
theorem dX7_requireSet_13 : decode cX7_requireSet 13 = .ok (.dup, 1) := by decide +kernel
theorem dX7_requireSet_14 : decode cX7_requireSet 14 = .ok (.ldc 255, 2) := by decide +kernel
theorem dX7_requireSet_16 : decode cX7_requireSet 16 = .ok (.invokespecial 64, 3) := by decide +kernel
theorem dX7_requireSet_19 : decode cX7_requireSet 19 = .ok (.athrow, 1) := by decide +kernel
theorem dX7_requireSet_20 : decode cX7_requireSet 20 = .ok (.return_, 1) := by decide +kernel
theorem dX7_requirePart_0 : decode cX7_requirePart 0 = .ok (.iload_n 0, 1) := by decide +kernel
theorem dX7_requirePart_1 : decode cX7_requirePart 1 = .ok (.ifCond .eq 19, 3) := by decide +kernel
theorem dX7_requirePart_4 : decode cX7_requirePart 4 = .ok (.iload_n 0, 1) := by decide +kernel
theorem dX7_requirePart_5 : decode cX7_requirePart 5 = .ok (.iconst 1, 1) := by decide +kernel
theorem dX7_requirePart_6 : decode cX7_requirePart 6 = .ok (.if_icmp .eq 14, 3) := by decide +kernel
theorem dX7_requirePart_9 : decode cX7_requirePart 9 = .ok (.new 60, 3) := by decide +kernel
theorem dX7_requirePart_12 : decode cX7_requirePart 12 = .ok (.dup, 1) := by decide +kernel
theorem dX7_requirePart_13 : decode cX7_requirePart 13 = .ok (.ldc_w 257, 3) := by decide +kernel
theorem dX7_requirePart_16 : decode cX7_requirePart 16 = .ok (.invokespecial 64, 3) := by decide +kernel
theorem dX7_requirePart_19 : decode cX7_requirePart 19 = .ok (.athrow, 1) := by decide +kernel
theorem dX7_requirePart_20 : decode cX7_requirePart 20 = .ok (.return_, 1) := by decide +kernel
theorem dX7_requirePacket_0 : decode cX7_requirePacket 0 = .ok (.iload_n 1, 1) := by decide +kernel
theorem dX7_requirePacket_1 : decode cX7_requirePacket 1 = .ok (.ifCond .lt 14, 3) := by decide +kernel
theorem dX7_requirePacket_4 : decode cX7_requirePacket 4 = .ok (.iload_n 1, 1) := by decide +kernel
theorem dX7_requirePacket_5 : decode cX7_requirePacket 5 = .ok (.aload_n 0, 1) := by decide +kernel
theorem dX7_requirePacket_6 : decode cX7_requirePacket 6 = .ok (.getfield 10, 3) := by decide +kernel
theorem dX7_requirePacket_9 : decode cX7_requirePacket 9 = .ok (.getfield 89, 3) := by decide +kernel
theorem dX7_requirePacket_12 : decode cX7_requirePacket 12 = .ok (.if_icmp .lt 14, 3) := by decide +kernel
theorem dX7_requirePacket_15 : decode cX7_requirePacket 15 = .ok (.new 250, 3) := by decide +kernel
theorem dX7_requirePacket_18 : decode cX7_requirePacket 18 = .ok (.dup, 1) := by decide +kernel
theorem dX7_requirePacket_19 : decode cX7_requirePacket 19 = .ok (.ldc_w 259, 3) := by decide +kernel
theorem dX7_requirePacket_22 : decode cX7_requirePacket 22 = .ok (.invokespecial 254, 3) := by decide +kernel
theorem dX7_requirePacket_25 : decode cX7_requirePacket 25 = .ok (.athrow, 1) := by decide +kernel
theorem dX7_requirePacket_26 : decode cX7_requirePacket 26 = .ok (.return_, 1) := by decide +kernel
theorem dX7_isFlow_0 : decode cX7_isFlow 0 = .ok (.iload_n 0, 1) := by decide +kernel
theorem dX7_isFlow_1 : decode cX7_isFlow 1 = .ok (.ifCond .lt 13, 3) := by decide +kernel
theorem dX7_isFlow_4 : decode cX7_isFlow 4 = .ok (.iload_n 0, 1) := by decide +kernel
theorem dX7_isFlow_5 : decode cX7_isFlow 5 = .ok (.bipush 6, 2) := by decide +kernel
theorem dX7_isFlow_7 : decode cX7_isFlow 7 = .ok (.if_icmp .ge 7, 3) := by decide +kernel
theorem dX7_isFlow_10 : decode cX7_isFlow 10 = .ok (.iconst 1, 1) := by decide +kernel
theorem dX7_isFlow_11 : decode cX7_isFlow 11 = .ok (.goto 4, 3) := by decide +kernel
theorem dX7_isFlow_14 : decode cX7_isFlow 14 = .ok (.iconst 0, 1) := by decide +kernel
theorem dX7_isFlow_15 : decode cX7_isFlow 15 = .ok (.ireturn, 1) := by decide +kernel
theorem dX7_isPacket_0 : decode cX7_isPacket 0 = .ok (.iload_n 0, 1) := by decide +kernel
theorem dX7_isPacket_1 : decode cX7_isPacket 1 = .ok (.ifCond .lt 32, 3) := by decide +kernel
theorem dX7_isPacket_4 : decode cX7_isPacket 4 = .ok (.iload_n 0, 1) := by decide +kernel
theorem dX7_isPacket_5 : decode cX7_isPacket 5 = .ok (.sipush 500, 3) := by decide +kernel
theorem dX7_isPacket_8 : decode cX7_isPacket 8 = .ok (.if_icmp .gt 25, 3) := by decide +kernel
theorem dX7_isPacket_11 : decode cX7_isPacket 11 = .ok (.iload_n 1, 1) := by decide +kernel
theorem dX7_isPacket_12 : decode cX7_isPacket 12 = .ok (.invokestatic 246, 3) := by decide +kernel
theorem dX7_isPacket_15 : decode cX7_isPacket 15 = .ok (.ifCond .eq 18, 3) := by decide +kernel
theorem dX7_isPacket_18 : decode cX7_isPacket 18 = .ok (.iload_n 2, 1) := by decide +kernel
theorem dX7_isPacket_19 : decode cX7_isPacket 19 = .ok (.iconst 1, 1) := by decide +kernel
theorem dX7_isPacket_20 : decode cX7_isPacket 20 = .ok (.if_icmp .lt 13, 3) := by decide +kernel
theorem dX7_isPacket_23 : decode cX7_isPacket 23 = .ok (.iload_n 2, 1) := by decide +kernel
theorem dX7_isPacket_24 : decode cX7_isPacket 24 = .ok (.bipush 100, 2) := by decide +kernel
theorem dX7_isPacket_26 : decode cX7_isPacket 26 = .ok (.if_icmp .gt 7, 3) := by decide +kernel
theorem dX7_isPacket_29 : decode cX7_isPacket 29 = .ok (.iconst 1, 1) := by decide +kernel
theorem dX7_isPacket_30 : decode cX7_isPacket 30 = .ok (.goto 4, 3) := by decide +kernel
theorem dX7_isPacket_33 : decode cX7_isPacket 33 = .ok (.iconst 0, 1) := by decide +kernel
theorem dX7_isPacket_34 : decode cX7_isPacket 34 = .ok (.ireturn, 1) := by decide +kernel
theorem dX7_isAllowed_0 : decode cX7_isAllowed 0 = .ok (.iload_n 0, 1) := by decide +kernel
theorem dX7_isAllowed_1 : decode cX7_isAllowed 1 = .ok (.ifCond .lt 31, 3) := by decide +kernel
theorem dX7_isAllowed_4 : decode cX7_isAllowed 4 = .ok (.iload_n 0, 1) := by decide +kernel
theorem dX7_isAllowed_5 : decode cX7_isAllowed 5 = .ok (.bipush 14, 2) := by decide +kernel
theorem dX7_isAllowed_7 : decode cX7_isAllowed 7 = .ok (.if_icmp .ge 25, 3) := by decide +kernel
theorem dX7_isAllowed_10 : decode cX7_isAllowed 10 = .ok (.iload_n 1, 1) := by decide +kernel
theorem dX7_isAllowed_11 : decode cX7_isAllowed 11 = .ok (.getstatic 261, 3) := by decide +kernel
theorem dX7_isAllowed_14 : decode cX7_isAllowed 14 = .ok (.iload_n 0, 1) := by decide +kernel
theorem dX7_isAllowed_15 : decode cX7_isAllowed 15 = .ok (.iaload, 1) := by decide +kernel
theorem dX7_isAllowed_16 : decode cX7_isAllowed 16 = .ok (.if_icmp .lt 16, 3) := by decide +kernel
theorem dX7_isAllowed_19 : decode cX7_isAllowed 19 = .ok (.iload_n 1, 1) := by decide +kernel
theorem dX7_isAllowed_20 : decode cX7_isAllowed 20 = .ok (.getstatic 264, 3) := by decide +kernel
theorem dX7_isAllowed_23 : decode cX7_isAllowed 23 = .ok (.iload_n 0, 1) := by decide +kernel
theorem dX7_isAllowed_24 : decode cX7_isAllowed 24 = .ok (.iaload, 1) := by decide +kernel
theorem dX7_isAllowed_25 : decode cX7_isAllowed 25 = .ok (.if_icmp .gt 7, 3) := by decide +kernel
theorem dX7_isAllowed_28 : decode cX7_isAllowed 28 = .ok (.iconst 1, 1) := by decide +kernel
theorem dX7_isAllowed_29 : decode cX7_isAllowed 29 = .ok (.goto 4, 3) := by decide +kernel
theorem dX7_isAllowed_32 : decode cX7_isAllowed 32 = .ok (.iconst 0, 1) := by decide +kernel
theorem dX7_isAllowed_33 : decode cX7_isAllowed 33 = .ok (.ireturn, 1) := by decide +kernel
theorem dX7_contains_0 : decode cX7_contains 0 = .ok (.iload_n 0, 1) := by decide +kernel
theorem dX7_contains_1 : decode cX7_contains 1 = .ok (.iload_n 1, 1) := by decide +kernel
theorem dX7_contains_2 : decode cX7_contains 2 = .ok (.ishr, 1) := by decide +kernel
theorem dX7_contains_3 : decode cX7_contains 3 = .ok (.iconst 1, 1) := by decide +kernel
theorem dX7_contains_4 : decode cX7_contains 4 = .ok (.iand, 1) := by decide +kernel
theorem dX7_contains_5 : decode cX7_contains 5 = .ok (.iconst 1, 1) := by decide +kernel
theorem dX7_contains_6 : decode cX7_contains 6 = .ok (.if_icmp .ne 7, 3) := by decide +kernel
theorem dX7_contains_9 : decode cX7_contains 9 = .ok (.iconst 1, 1) := by decide +kernel
theorem dX7_contains_10 : decode cX7_contains 10 = .ok (.goto 4, 3) := by decide +kernel
theorem dX7_contains_13 : decode cX7_contains 13 = .ok (.iconst 0, 1) := by decide +kernel
theorem dX7_contains_14 : decode cX7_contains 14 = .ok (.ireturn, 1) := by decide +kernel
theorem dX7_quotient_0 : decode cX7_quotient 0 = .ok (.iload_n 1, 1) := by decide +kernel
theorem dX7_quotient_1 : decode cX7_quotient 1 = .ok (.ifCond .le 9, 3) := by decide +kernel
theorem dX7_quotient_4 : decode cX7_quotient 4 = .ok (.iload_n 0, 1) := by decide +kernel
theorem dX7_quotient_5 : decode cX7_quotient 5 = .ok (.iload_n 1, 1) := by decide +kernel
theorem dX7_quotient_6 : decode cX7_quotient 6 = .ok (.idiv, 1) := by decide +kernel
theorem dX7_quotient_7 : decode cX7_quotient 7 = .ok (.goto 4, 3) := by decide +kernel
theorem dX7_quotient_10 : decode cX7_quotient 10 = .ok (.iconst 0, 1) := by decide +kernel
theorem dX7_quotient_11 : decode cX7_quotient 11 = .ok (.ireturn, 1) := by decide +kernel
theorem dX7_change_0 : decode cX7_change 0 = .ok (.iload_n 1, 1) := by decide +kernel
theorem dX7_change_1 : decode cX7_change 1 = .ok (.iload_n 2, 1) := by decide +kernel
theorem dX7_change_2 : decode cX7_change 2 = .ok (.invokestatic 267, 3) := by decide +kernel
theorem dX7_change_5 : decode cX7_change 5 = .ok (.ifCond .ne 14, 3) := by decide +kernel
theorem dX7_change_8 : decode cX7_change 8 = .ok (.new 60, 3) := by decide +kernel
theorem dX7_change_11 : decode cX7_change 11 = .ok (.dup, 1) := by decide +kernel
theorem dX7_change_12 : decode cX7_change 12 = .ok (.ldc_w 270, 3) := by decide +kernel
theorem dX7_change_15 : decode cX7_change 15 = .ok (.invokespecial 64, 3) := by decide +kernel
theorem dX7_change_18 : decode cX7_change 18 = .ok (.athrow, 1) := by decide +kernel
theorem dX7_change_19 : decode cX7_change 19 = .ok (.aload_n 0, 1) := by decide +kernel
theorem dX7_change_20 : decode cX7_change 20 = .ok (.getfield 19, 3) := by decide +kernel
theorem dX7_change_23 : decode cX7_change 23 = .ok (.aload_n 0, 1) := by decide +kernel
theorem dX7_change_24 : decode cX7_change 24 = .ok (.getfield 10, 3) := by decide +kernel
theorem dX7_change_27 : decode cX7_change 27 = .ok (.invokevirtual 76, 3) := by decide +kernel
theorem dX7_change_30 : decode cX7_change 30 = .ok (.aload_n 0, 1) := by decide +kernel
theorem dX7_change_31 : decode cX7_change 31 = .ok (.getfield 10, 3) := by decide +kernel
theorem dX7_change_34 : decode cX7_change 34 = .ok (.getfield 111, 3) := by decide +kernel
theorem dX7_change_37 : decode cX7_change 37 = .ok (.iload_n 1, 1) := by decide +kernel
theorem dX7_change_38 : decode cX7_change 38 = .ok (.iaload, 1) := by decide +kernel
theorem dX7_change_39 : decode cX7_change 39 = .ok (.istore_n 3, 1) := by decide +kernel
theorem dX7_change_40 : decode cX7_change 40 = .ok (.aload_n 0, 1) := by decide +kernel
theorem dX7_change_41 : decode cX7_change 41 = .ok (.getfield 10, 3) := by decide +kernel
theorem dX7_change_44 : decode cX7_change 44 = .ok (.getfield 111, 3) := by decide +kernel
theorem dX7_change_47 : decode cX7_change 47 = .ok (.iload_n 1, 1) := by decide +kernel
theorem dX7_change_48 : decode cX7_change 48 = .ok (.iload_n 2, 1) := by decide +kernel
theorem dX7_change_49 : decode cX7_change 49 = .ok (.iastore, 1) := by decide +kernel
theorem dX7_change_50 : decode cX7_change 50 = .ok (.iload_n 3, 1) := by decide +kernel
theorem dX7_change_51 : decode cX7_change 51 = .ok (.ireturn, 1) := by decide +kernel
theorem dX7_worthOf_0 : decode cX7_worthOf 0 = .ok (.aload_n 0, 1) := by decide +kernel
theorem dX7_worthOf_1 : decode cX7_worthOf 1 = .ok (.getfield 32, 3) := by decide +kernel
theorem dX7_worthOf_4 : decode cX7_worthOf 4 = .ok (.iload_n 1, 1) := by decide +kernel
theorem dX7_worthOf_5 : decode cX7_worthOf 5 = .ok (.aload_n 0, 1) := by decide +kernel
theorem dX7_worthOf_6 : decode cX7_worthOf 6 = .ok (.getfield 10, 3) := by decide +kernel
theorem dX7_worthOf_9 : decode cX7_worthOf 9 = .ok (.getfield 111, 3) := by decide +kernel
theorem dX7_worthOf_12 : decode cX7_worthOf 12 = .ok (.iconst 0, 1) := by decide +kernel
theorem dX7_worthOf_13 : decode cX7_worthOf 13 = .ok (.iaload, 1) := by decide +kernel
theorem dX7_worthOf_14 : decode cX7_worthOf 14 = .ok (.aload_n 0, 1) := by decide +kernel
theorem dX7_worthOf_15 : decode cX7_worthOf 15 = .ok (.getfield 10, 3) := by decide +kernel
theorem dX7_worthOf_18 : decode cX7_worthOf 18 = .ok (.getfield 111, 3) := by decide +kernel
theorem dX7_worthOf_21 : decode cX7_worthOf 21 = .ok (.iconst 2, 1) := by decide +kernel
theorem dX7_worthOf_22 : decode cX7_worthOf 22 = .ok (.iaload, 1) := by decide +kernel
theorem dX7_worthOf_23 : decode cX7_worthOf 23 = .ok (.invokevirtual 114, 3) := by decide +kernel
theorem dX7_worthOf_26 : decode cX7_worthOf 26 = .ok (.aload_n 0, 1) := by decide +kernel
theorem dX7_worthOf_27 : decode cX7_worthOf 27 = .ok (.getfield 32, 3) := by decide +kernel
theorem dX7_worthOf_30 : decode cX7_worthOf 30 = .ok (.iload_n 2, 1) := by decide +kernel
theorem dX7_worthOf_31 : decode cX7_worthOf 31 = .ok (.invokevirtual 206, 3) := by decide +kernel
theorem dX7_worthOf_34 : decode cX7_worthOf 34 = .ok (.ireturn, 1) := by decide +kernel
theorem dX7_fillWorths_0 : decode cX7_fillWorths 0 = .ok (.aload_n 0, 1) := by decide +kernel
theorem dX7_fillWorths_1 : decode cX7_fillWorths 1 = .ok (.getfield 10, 3) := by decide +kernel
theorem dX7_fillWorths_4 : decode cX7_fillWorths 4 = .ok (.invokevirtual 272, 3) := by decide +kernel
theorem dX7_fillWorths_7 : decode cX7_fillWorths 7 = .ok (.istore_n 2, 1) := by decide +kernel
theorem dX7_fillWorths_8 : decode cX7_fillWorths 8 = .ok (.iconst 0, 1) := by decide +kernel
theorem dX7_fillWorths_9 : decode cX7_fillWorths 9 = .ok (.istore_n 3, 1) := by decide +kernel
theorem dX7_fillWorths_10 : decode cX7_fillWorths 10 = .ok (.iload_n 3, 1) := by decide +kernel
theorem dX7_fillWorths_11 : decode cX7_fillWorths 11 = .ok (.bipush 64, 2) := by decide +kernel
theorem dX7_fillWorths_13 : decode cX7_fillWorths 13 = .ok (.if_icmp .ge 42, 3) := by decide +kernel
theorem dX7_fillWorths_16 : decode cX7_fillWorths 16 = .ok (.iload_n 3, 1) := by decide +kernel
theorem dX7_fillWorths_17 : decode cX7_fillWorths 17 = .ok (.iload_n 2, 1) := by decide +kernel
theorem dX7_fillWorths_18 : decode cX7_fillWorths 18 = .ok (.iand, 1) := by decide +kernel
theorem dX7_fillWorths_19 : decode cX7_fillWorths 19 = .ok (.istore 4, 2) := by decide +kernel
theorem dX7_fillWorths_21 : decode cX7_fillWorths 21 = .ok (.aload_n 0, 1) := by decide +kernel
theorem dX7_fillWorths_22 : decode cX7_fillWorths 22 = .ok (.getfield 42, 3) := by decide +kernel
theorem dX7_fillWorths_25 : decode cX7_fillWorths 25 = .ok (.iload_n 3, 1) := by decide +kernel
theorem dX7_fillWorths_26 : decode cX7_fillWorths 26 = .ok (.iload 4, 2) := by decide +kernel
theorem dX7_fillWorths_28 : decode cX7_fillWorths 28 = .ok (.iload_n 3, 1) := by decide +kernel
theorem dX7_fillWorths_29 : decode cX7_fillWorths 29 = .ok (.if_icmp .ge 13, 3) := by decide +kernel
theorem dX7_fillWorths_32 : decode cX7_fillWorths 32 = .ok (.aload_n 0, 1) := by decide +kernel
theorem dX7_fillWorths_33 : decode cX7_fillWorths 33 = .ok (.getfield 42, 3) := by decide +kernel
theorem dX7_fillWorths_36 : decode cX7_fillWorths 36 = .ok (.iload 4, 2) := by decide +kernel
theorem dX7_fillWorths_38 : decode cX7_fillWorths 38 = .ok (.iaload, 1) := by decide +kernel
theorem dX7_fillWorths_39 : decode cX7_fillWorths 39 = .ok (.goto 9, 3) := by decide +kernel
theorem dX7_fillWorths_42 : decode cX7_fillWorths 42 = .ok (.aload_n 0, 1) := by decide +kernel
theorem dX7_fillWorths_43 : decode cX7_fillWorths 43 = .ok (.iload_n 3, 1) := by decide +kernel
theorem dX7_fillWorths_44 : decode cX7_fillWorths 44 = .ok (.iload_n 1, 1) := by decide +kernel
theorem dX7_fillWorths_45 : decode cX7_fillWorths 45 = .ok (.invokevirtual 141, 3) := by decide +kernel
theorem dX7_fillWorths_48 : decode cX7_fillWorths 48 = .ok (.iastore, 1) := by decide +kernel
theorem dX7_fillWorths_49 : decode cX7_fillWorths 49 = .ok (.iinc 3 1, 3) := by decide +kernel
theorem dX7_fillWorths_52 : decode cX7_fillWorths 52 = .ok (.goto (-42), 3) := by decide +kernel
theorem dX7_fillWorths_55 : decode cX7_fillWorths 55 = .ok (.return_, 1) := by decide +kernel
theorem dX7_contributionTo_0 : decode cX7_contributionTo 0 = .ok (.aload_n 0, 1) := by decide +kernel
theorem dX7_contributionTo_1 : decode cX7_contributionTo 1 = .ok (.getfield 42, 3) := by decide +kernel
theorem dX7_contributionTo_4 : decode cX7_contributionTo 4 = .ok (.iload_n 1, 1) := by decide +kernel
theorem dX7_contributionTo_5 : decode cX7_contributionTo 5 = .ok (.iconst 1, 1) := by decide +kernel
theorem dX7_contributionTo_6 : decode cX7_contributionTo 6 = .ok (.iload_n 2, 1) := by decide +kernel
theorem dX7_contributionTo_7 : decode cX7_contributionTo 7 = .ok (.ishl, 1) := by decide +kernel
theorem dX7_contributionTo_8 : decode cX7_contributionTo 8 = .ok (.ior, 1) := by decide +kernel
theorem dX7_contributionTo_9 : decode cX7_contributionTo 9 = .ok (.iaload, 1) := by decide +kernel
theorem dX7_contributionTo_10 : decode cX7_contributionTo 10 = .ok (.aload_n 0, 1) := by decide +kernel
theorem dX7_contributionTo_11 : decode cX7_contributionTo 11 = .ok (.getfield 42, 3) := by decide +kernel
theorem dX7_contributionTo_14 : decode cX7_contributionTo 14 = .ok (.iload_n 1, 1) := by decide +kernel
theorem dX7_contributionTo_15 : decode cX7_contributionTo 15 = .ok (.iaload, 1) := by decide +kernel
theorem dX7_contributionTo_16 : decode cX7_contributionTo 16 = .ok (.isub, 1) := by decide +kernel
theorem dX7_contributionTo_17 : decode cX7_contributionTo 17 = .ok (.ireturn, 1) := by decide +kernel
theorem dX7_sumOverOrders_0 : decode cX7_sumOverOrders 0 = .ok (.iconst 0, 1) := by decide +kernel
theorem dX7_sumOverOrders_1 : decode cX7_sumOverOrders 1 = .ok (.istore_n 2, 1) := by decide +kernel
theorem dX7_sumOverOrders_2 : decode cX7_sumOverOrders 2 = .ok (.iconst 0, 1) := by decide +kernel
theorem dX7_sumOverOrders_3 : decode cX7_sumOverOrders 3 = .ok (.istore_n 3, 1) := by decide +kernel
theorem dX7_sumOverOrders_4 : decode cX7_sumOverOrders 4 = .ok (.iload_n 3, 1) := by decide +kernel
theorem dX7_sumOverOrders_5 : decode cX7_sumOverOrders 5 = .ok (.bipush 64, 2) := by decide +kernel
theorem dX7_sumOverOrders_7 : decode cX7_sumOverOrders 7 = .ok (.if_icmp .ge 35, 3) := by decide +kernel
theorem dX7_sumOverOrders_10 : decode cX7_sumOverOrders 10 = .ok (.iload_n 3, 1) := by decide +kernel
theorem dX7_sumOverOrders_11 : decode cX7_sumOverOrders 11 = .ok (.iload_n 1, 1) := by decide +kernel
theorem dX7_sumOverOrders_12 : decode cX7_sumOverOrders 12 = .ok (.invokestatic 144, 3) := by decide +kernel
theorem dX7_sumOverOrders_15 : decode cX7_sumOverOrders 15 = .ok (.ifCond .ne 21, 3) := by decide +kernel
theorem dX7_sumOverOrders_18 : decode cX7_sumOverOrders 18 = .ok (.iload_n 2, 1) := by decide +kernel
theorem dX7_sumOverOrders_19 : decode cX7_sumOverOrders 19 = .ok (.getstatic 275, 3) := by decide +kernel
theorem dX7_sumOverOrders_22 : decode cX7_sumOverOrders 22 = .ok (.iload_n 3, 1) := by decide +kernel
theorem dX7_sumOverOrders_23 : decode cX7_sumOverOrders 23 = .ok (.invokestatic 188, 3) := by decide +kernel
theorem dX7_sumOverOrders_26 : decode cX7_sumOverOrders 26 = .ok (.iaload, 1) := by decide +kernel
theorem dX7_sumOverOrders_27 : decode cX7_sumOverOrders 27 = .ok (.aload_n 0, 1) := by decide +kernel
theorem dX7_sumOverOrders_28 : decode cX7_sumOverOrders 28 = .ok (.iload_n 3, 1) := by decide +kernel
theorem dX7_sumOverOrders_29 : decode cX7_sumOverOrders 29 = .ok (.iload_n 1, 1) := by decide +kernel
theorem dX7_sumOverOrders_30 : decode cX7_sumOverOrders 30 = .ok (.invokevirtual 182, 3) := by decide +kernel
theorem dX7_sumOverOrders_33 : decode cX7_sumOverOrders 33 = .ok (.imul, 1) := by decide +kernel
theorem dX7_sumOverOrders_34 : decode cX7_sumOverOrders 34 = .ok (.iadd, 1) := by decide +kernel
theorem dX7_sumOverOrders_35 : decode cX7_sumOverOrders 35 = .ok (.istore_n 2, 1) := by decide +kernel
theorem dX7_sumOverOrders_36 : decode cX7_sumOverOrders 36 = .ok (.iinc 3 1, 3) := by decide +kernel
theorem dX7_sumOverOrders_39 : decode cX7_sumOverOrders 39 = .ok (.goto (-35), 3) := by decide +kernel
theorem dX7_sumOverOrders_42 : decode cX7_sumOverOrders 42 = .ok (.iload_n 2, 1) := by decide +kernel
theorem dX7_sumOverOrders_43 : decode cX7_sumOverOrders 43 = .ok (.ireturn, 1) := by decide +kernel
theorem dX7_sumOverSets_0 : decode cX7_sumOverSets 0 = .ok (.iconst 0, 1) := by decide +kernel
theorem dX7_sumOverSets_1 : decode cX7_sumOverSets 1 = .ok (.istore_n 2, 1) := by decide +kernel
theorem dX7_sumOverSets_2 : decode cX7_sumOverSets 2 = .ok (.iconst 0, 1) := by decide +kernel
theorem dX7_sumOverSets_3 : decode cX7_sumOverSets 3 = .ok (.istore_n 3, 1) := by decide +kernel
theorem dX7_sumOverSets_4 : decode cX7_sumOverSets 4 = .ok (.iload_n 3, 1) := by decide +kernel
theorem dX7_sumOverSets_5 : decode cX7_sumOverSets 5 = .ok (.bipush 64, 2) := by decide +kernel
theorem dX7_sumOverSets_7 : decode cX7_sumOverSets 7 = .ok (.if_icmp .ge 26, 3) := by decide +kernel
theorem dX7_sumOverSets_10 : decode cX7_sumOverSets 10 = .ok (.iload_n 3, 1) := by decide +kernel
theorem dX7_sumOverSets_11 : decode cX7_sumOverSets 11 = .ok (.iload_n 1, 1) := by decide +kernel
theorem dX7_sumOverSets_12 : decode cX7_sumOverSets 12 = .ok (.invokestatic 144, 3) := by decide +kernel
theorem dX7_sumOverSets_15 : decode cX7_sumOverSets 15 = .ok (.ifCond .ne 12, 3) := by decide +kernel
theorem dX7_sumOverSets_18 : decode cX7_sumOverSets 18 = .ok (.iload_n 2, 1) := by decide +kernel
theorem dX7_sumOverSets_19 : decode cX7_sumOverSets 19 = .ok (.aload_n 0, 1) := by decide +kernel
theorem dX7_sumOverSets_20 : decode cX7_sumOverSets 20 = .ok (.iload_n 3, 1) := by decide +kernel
theorem dX7_sumOverSets_21 : decode cX7_sumOverSets 21 = .ok (.iload_n 1, 1) := by decide +kernel
theorem dX7_sumOverSets_22 : decode cX7_sumOverSets 22 = .ok (.invokevirtual 182, 3) := by decide +kernel
theorem dX7_sumOverSets_25 : decode cX7_sumOverSets 25 = .ok (.iadd, 1) := by decide +kernel
theorem dX7_sumOverSets_26 : decode cX7_sumOverSets 26 = .ok (.istore_n 2, 1) := by decide +kernel
theorem dX7_sumOverSets_27 : decode cX7_sumOverSets 27 = .ok (.iinc 3 1, 3) := by decide +kernel
theorem dX7_sumOverSets_30 : decode cX7_sumOverSets 30 = .ok (.goto (-26), 3) := by decide +kernel
theorem dX7_sumOverSets_33 : decode cX7_sumOverSets 33 = .ok (.iload_n 2, 1) := by decide +kernel
theorem dX7_sumOverSets_34 : decode cX7_sumOverSets 34 = .ok (.ireturn, 1) := by decide +kernel
theorem dX7_sumOfInteractions_0 : decode cX7_sumOfInteractions 0 = .ok (.iconst 0, 1) := by decide +kernel
theorem dX7_sumOfInteractions_1 : decode cX7_sumOfInteractions 1 = .ok (.istore_n 3, 1) := by decide +kernel
theorem dX7_sumOfInteractions_2 : decode cX7_sumOfInteractions 2 = .ok (.iconst 0, 1) := by decide +kernel
theorem dX7_sumOfInteractions_3 : decode cX7_sumOfInteractions 3 = .ok (.istore 4, 2) := by decide +kernel
theorem dX7_sumOfInteractions_5 : decode cX7_sumOfInteractions 5 = .ok (.iload 4, 2) := by decide +kernel
theorem dX7_sumOfInteractions_7 : decode cX7_sumOfInteractions 7 = .ok (.bipush 64, 2) := by decide +kernel
theorem dX7_sumOfInteractions_9 : decode cX7_sumOfInteractions 9 = .ok (.if_icmp .ge 49, 3) := by decide +kernel
theorem dX7_sumOfInteractions_12 : decode cX7_sumOfInteractions 12 = .ok (.iload 4, 2) := by decide +kernel
theorem dX7_sumOfInteractions_14 : decode cX7_sumOfInteractions 14 = .ok (.iload_n 1, 1) := by decide +kernel
theorem dX7_sumOfInteractions_15 : decode cX7_sumOfInteractions 15 = .ok (.invokestatic 144, 3) := by decide +kernel
theorem dX7_sumOfInteractions_18 : decode cX7_sumOfInteractions 18 = .ok (.ifCond .ne 34, 3) := by decide +kernel
theorem dX7_sumOfInteractions_21 : decode cX7_sumOfInteractions 21 = .ok (.iload 4, 2) := by decide +kernel
theorem dX7_sumOfInteractions_23 : decode cX7_sumOfInteractions 23 = .ok (.iload_n 2, 1) := by decide +kernel
theorem dX7_sumOfInteractions_24 : decode cX7_sumOfInteractions 24 = .ok (.invokestatic 144, 3) := by decide +kernel
theorem dX7_sumOfInteractions_27 : decode cX7_sumOfInteractions 27 = .ok (.ifCond .ne 25, 3) := by decide +kernel
theorem dX7_sumOfInteractions_30 : decode cX7_sumOfInteractions 30 = .ok (.iload_n 3, 1) := by decide +kernel
theorem dX7_sumOfInteractions_31 : decode cX7_sumOfInteractions 31 = .ok (.aload_n 0, 1) := by decide +kernel
theorem dX7_sumOfInteractions_32 : decode cX7_sumOfInteractions 32 = .ok (.iload 4, 2) := by decide +kernel
theorem dX7_sumOfInteractions_34 : decode cX7_sumOfInteractions 34 = .ok (.iconst 1, 1) := by decide +kernel
theorem dX7_sumOfInteractions_35 : decode cX7_sumOfInteractions 35 = .ok (.iload_n 2, 1) := by decide +kernel
theorem dX7_sumOfInteractions_36 : decode cX7_sumOfInteractions 36 = .ok (.ishl, 1) := by decide +kernel
theorem dX7_sumOfInteractions_37 : decode cX7_sumOfInteractions 37 = .ok (.ior, 1) := by decide +kernel
theorem dX7_sumOfInteractions_38 : decode cX7_sumOfInteractions 38 = .ok (.iload_n 1, 1) := by decide +kernel
theorem dX7_sumOfInteractions_39 : decode cX7_sumOfInteractions 39 = .ok (.invokevirtual 182, 3) := by decide +kernel
theorem dX7_sumOfInteractions_42 : decode cX7_sumOfInteractions 42 = .ok (.aload_n 0, 1) := by decide +kernel
theorem dX7_sumOfInteractions_43 : decode cX7_sumOfInteractions 43 = .ok (.iload 4, 2) := by decide +kernel
theorem dX7_sumOfInteractions_45 : decode cX7_sumOfInteractions 45 = .ok (.iload_n 1, 1) := by decide +kernel
theorem dX7_sumOfInteractions_46 : decode cX7_sumOfInteractions 46 = .ok (.invokevirtual 182, 3) := by decide +kernel
theorem dX7_sumOfInteractions_49 : decode cX7_sumOfInteractions 49 = .ok (.isub, 1) := by decide +kernel
theorem dX7_sumOfInteractions_50 : decode cX7_sumOfInteractions 50 = .ok (.iadd, 1) := by decide +kernel
theorem dX7_sumOfInteractions_51 : decode cX7_sumOfInteractions 51 = .ok (.istore_n 3, 1) := by decide +kernel
theorem dX7_sumOfInteractions_52 : decode cX7_sumOfInteractions 52 = .ok (.iinc 4 1, 3) := by decide +kernel
theorem dX7_sumOfInteractions_55 : decode cX7_sumOfInteractions 55 = .ok (.goto (-50), 3) := by decide +kernel
theorem dX7_sumOfInteractions_58 : decode cX7_sumOfInteractions 58 = .ok (.iload_n 3, 1) := by decide +kernel
theorem dX7_sumOfInteractions_59 : decode cX7_sumOfInteractions 59 = .ok (.ireturn, 1) := by decide +kernel
theorem dX7_partOfFraction_0 : decode cX7_partOfFraction 0 = .ok (.iload_n 0, 1) := by decide +kernel
theorem dX7_partOfFraction_1 : decode cX7_partOfFraction 1 = .ok (.invokestatic 278, 3) := by decide +kernel
theorem dX7_partOfFraction_4 : decode cX7_partOfFraction 4 = .ok (.iload_n 1, 1) := by decide +kernel
theorem dX7_partOfFraction_5 : decode cX7_partOfFraction 5 = .ok (.invokestatic 281, 3) := by decide +kernel
theorem dX7_partOfFraction_8 : decode cX7_partOfFraction 8 = .ok (.istore_n 3, 1) := by decide +kernel
theorem dX7_partOfFraction_9 : decode cX7_partOfFraction 9 = .ok (.iload_n 2, 1) := by decide +kernel
theorem dX7_partOfFraction_10 : decode cX7_partOfFraction 10 = .ok (.ifCond .ne 7, 3) := by decide +kernel
theorem dX7_partOfFraction_13 : decode cX7_partOfFraction 13 = .ok (.iload_n 0, 1) := by decide +kernel
theorem dX7_partOfFraction_14 : decode cX7_partOfFraction 14 = .ok (.goto 4, 3) := by decide +kernel
theorem dX7_partOfFraction_17 : decode cX7_partOfFraction 17 = .ok (.iload_n 1, 1) := by decide +kernel
theorem dX7_partOfFraction_18 : decode cX7_partOfFraction 18 = .ok (.iload_n 3, 1) := by decide +kernel
theorem dX7_partOfFraction_19 : decode cX7_partOfFraction 19 = .ok (.invokestatic 284, 3) := by decide +kernel
theorem dX7_partOfFraction_22 : decode cX7_partOfFraction 22 = .ok (.ireturn, 1) := by decide +kernel
theorem dX7_commonDivisor_0 : decode cX7_commonDivisor 0 = .ok (.iload_n 0, 1) := by decide +kernel
theorem dX7_commonDivisor_1 : decode cX7_commonDivisor 1 = .ok (.istore_n 2, 1) := by decide +kernel
theorem dX7_commonDivisor_2 : decode cX7_commonDivisor 2 = .ok (.iload_n 1, 1) := by decide +kernel
theorem dX7_commonDivisor_3 : decode cX7_commonDivisor 3 = .ok (.istore_n 3, 1) := by decide +kernel
theorem dX7_commonDivisor_4 : decode cX7_commonDivisor 4 = .ok (.iconst 0, 1) := by decide +kernel
theorem dX7_commonDivisor_5 : decode cX7_commonDivisor 5 = .ok (.istore 4, 2) := by decide +kernel
theorem dX7_commonDivisor_7 : decode cX7_commonDivisor 7 = .ok (.iload 4, 2) := by decide +kernel
theorem dX7_commonDivisor_9 : decode cX7_commonDivisor 9 = .ok (.bipush 64, 2) := by decide +kernel
theorem dX7_commonDivisor_11 : decode cX7_commonDivisor 11 = .ok (.if_icmp .ge 23, 3) := by decide +kernel
theorem dX7_commonDivisor_14 : decode cX7_commonDivisor 14 = .ok (.iload_n 3, 1) := by decide +kernel
theorem dX7_commonDivisor_15 : decode cX7_commonDivisor 15 = .ok (.ifCond .le 19, 3) := by decide +kernel
theorem dX7_commonDivisor_18 : decode cX7_commonDivisor 18 = .ok (.iload_n 2, 1) := by decide +kernel
theorem dX7_commonDivisor_19 : decode cX7_commonDivisor 19 = .ok (.iload_n 3, 1) := by decide +kernel
theorem dX7_commonDivisor_20 : decode cX7_commonDivisor 20 = .ok (.irem, 1) := by decide +kernel
theorem dX7_commonDivisor_21 : decode cX7_commonDivisor 21 = .ok (.istore 5, 2) := by decide +kernel
theorem dX7_commonDivisor_23 : decode cX7_commonDivisor 23 = .ok (.iload_n 3, 1) := by decide +kernel
theorem dX7_commonDivisor_24 : decode cX7_commonDivisor 24 = .ok (.istore_n 2, 1) := by decide +kernel
theorem dX7_commonDivisor_25 : decode cX7_commonDivisor 25 = .ok (.iload 5, 2) := by decide +kernel
theorem dX7_commonDivisor_27 : decode cX7_commonDivisor 27 = .ok (.istore_n 3, 1) := by decide +kernel
theorem dX7_commonDivisor_28 : decode cX7_commonDivisor 28 = .ok (.iinc 4 1, 3) := by decide +kernel
theorem dX7_commonDivisor_31 : decode cX7_commonDivisor 31 = .ok (.goto (-24), 3) := by decide +kernel
theorem dX7_commonDivisor_34 : decode cX7_commonDivisor 34 = .ok (.iload_n 2, 1) := by decide +kernel
theorem dX7_commonDivisor_35 : decode cX7_commonDivisor 35 = .ok (.ireturn, 1) := by decide +kernel
theorem dX7_rankByBlames_0 : decode cX7_rankByBlames 0 = .ok (.iconst 0, 1) := by decide +kernel
theorem dX7_rankByBlames_1 : decode cX7_rankByBlames 1 = .ok (.istore_n 2, 1) := by decide +kernel
theorem dX7_rankByBlames_2 : decode cX7_rankByBlames 2 = .ok (.iconst 0, 1) := by decide +kernel
theorem dX7_rankByBlames_3 : decode cX7_rankByBlames 3 = .ok (.istore_n 3, 1) := by decide +kernel
theorem dX7_rankByBlames_4 : decode cX7_rankByBlames 4 = .ok (.iload_n 3, 1) := by decide +kernel
theorem dX7_rankByBlames_5 : decode cX7_rankByBlames 5 = .ok (.bipush 6, 2) := by decide +kernel
theorem dX7_rankByBlames_7 : decode cX7_rankByBlames 7 = .ok (.if_icmp .ge 67, 3) := by decide +kernel
theorem dX7_rankByBlames_10 : decode cX7_rankByBlames 10 = .ok (.iload_n 3, 1) := by decide +kernel
theorem dX7_rankByBlames_11 : decode cX7_rankByBlames 11 = .ok (.iload_n 1, 1) := by decide +kernel
theorem dX7_rankByBlames_12 : decode cX7_rankByBlames 12 = .ok (.if_icmp .ge 26, 3) := by decide +kernel
theorem dX7_rankByBlames_15 : decode cX7_rankByBlames 15 = .ok (.aload_n 0, 1) := by decide +kernel
theorem dX7_rankByBlames_16 : decode cX7_rankByBlames 16 = .ok (.getfield 46, 3) := by decide +kernel
theorem dX7_rankByBlames_19 : decode cX7_rankByBlames 19 = .ok (.iload_n 3, 1) := by decide +kernel
theorem dX7_rankByBlames_20 : decode cX7_rankByBlames 20 = .ok (.iaload, 1) := by decide +kernel
theorem dX7_rankByBlames_21 : decode cX7_rankByBlames 21 = .ok (.aload_n 0, 1) := by decide +kernel
theorem dX7_rankByBlames_22 : decode cX7_rankByBlames 22 = .ok (.getfield 46, 3) := by decide +kernel
theorem dX7_rankByBlames_25 : decode cX7_rankByBlames 25 = .ok (.iload_n 1, 1) := by decide +kernel
theorem dX7_rankByBlames_26 : decode cX7_rankByBlames 26 = .ok (.iaload, 1) := by decide +kernel
theorem dX7_rankByBlames_27 : decode cX7_rankByBlames 27 = .ok (.if_icmp .lt 7, 3) := by decide +kernel
theorem dX7_rankByBlames_30 : decode cX7_rankByBlames 30 = .ok (.iconst 1, 1) := by decide +kernel
theorem dX7_rankByBlames_31 : decode cX7_rankByBlames 31 = .ok (.goto 27, 3) := by decide +kernel
theorem dX7_rankByBlames_34 : decode cX7_rankByBlames 34 = .ok (.iconst 0, 1) := by decide +kernel
theorem dX7_rankByBlames_35 : decode cX7_rankByBlames 35 = .ok (.goto 23, 3) := by decide +kernel
theorem dX7_rankByBlames_38 : decode cX7_rankByBlames 38 = .ok (.aload_n 0, 1) := by decide +kernel
theorem dX7_rankByBlames_39 : decode cX7_rankByBlames 39 = .ok (.getfield 46, 3) := by decide +kernel
theorem dX7_rankByBlames_42 : decode cX7_rankByBlames 42 = .ok (.iload_n 3, 1) := by decide +kernel
theorem dX7_rankByBlames_43 : decode cX7_rankByBlames 43 = .ok (.iaload, 1) := by decide +kernel
theorem dX7_rankByBlames_44 : decode cX7_rankByBlames 44 = .ok (.aload_n 0, 1) := by decide +kernel
theorem dX7_rankByBlames_45 : decode cX7_rankByBlames 45 = .ok (.getfield 46, 3) := by decide +kernel
theorem dX7_rankByBlames_48 : decode cX7_rankByBlames 48 = .ok (.iload_n 1, 1) := by decide +kernel
theorem dX7_rankByBlames_49 : decode cX7_rankByBlames 49 = .ok (.iaload, 1) := by decide +kernel
theorem dX7_rankByBlames_50 : decode cX7_rankByBlames 50 = .ok (.if_icmp .le 7, 3) := by decide +kernel
theorem dX7_rankByBlames_53 : decode cX7_rankByBlames 53 = .ok (.iconst 1, 1) := by decide +kernel
theorem dX7_rankByBlames_54 : decode cX7_rankByBlames 54 = .ok (.goto 4, 3) := by decide +kernel
theorem dX7_rankByBlames_57 : decode cX7_rankByBlames 57 = .ok (.iconst 0, 1) := by decide +kernel
theorem dX7_rankByBlames_58 : decode cX7_rankByBlames 58 = .ok (.istore 4, 2) := by decide +kernel
theorem dX7_rankByBlames_60 : decode cX7_rankByBlames 60 = .ok (.iload 4, 2) := by decide +kernel
theorem dX7_rankByBlames_62 : decode cX7_rankByBlames 62 = .ok (.ifCond .eq 6, 3) := by decide +kernel
theorem dX7_rankByBlames_65 : decode cX7_rankByBlames 65 = .ok (.iinc 2 1, 3) := by decide +kernel
theorem dX7_rankByBlames_68 : decode cX7_rankByBlames 68 = .ok (.iinc 3 1, 3) := by decide +kernel
theorem dX7_rankByBlames_71 : decode cX7_rankByBlames 71 = .ok (.goto (-67), 3) := by decide +kernel
theorem dX7_rankByBlames_74 : decode cX7_rankByBlames 74 = .ok (.iload_n 2, 1) := by decide +kernel
theorem dX7_rankByBlames_75 : decode cX7_rankByBlames 75 = .ok (.ireturn, 1) := by decide +kernel
theorem dX7_drawOrder_0 : decode cX7_drawOrder 0 = .ok (.iconst 0, 1) := by decide +kernel
theorem dX7_drawOrder_1 : decode cX7_drawOrder 1 = .ok (.istore_n 3, 1) := by decide +kernel
theorem dX7_drawOrder_2 : decode cX7_drawOrder 2 = .ok (.iload_n 3, 1) := by decide +kernel
theorem dX7_drawOrder_3 : decode cX7_drawOrder 3 = .ok (.bipush 6, 2) := by decide +kernel
theorem dX7_drawOrder_5 : decode cX7_drawOrder 5 = .ok (.if_icmp .ge 16, 3) := by decide +kernel
theorem dX7_drawOrder_8 : decode cX7_drawOrder 8 = .ok (.aload_n 0, 1) := by decide +kernel
theorem dX7_drawOrder_9 : decode cX7_drawOrder 9 = .ok (.getfield 49, 3) := by decide +kernel
theorem dX7_drawOrder_12 : decode cX7_drawOrder 12 = .ok (.iload_n 3, 1) := by decide +kernel
theorem dX7_drawOrder_13 : decode cX7_drawOrder 13 = .ok (.iload_n 3, 1) := by decide +kernel
theorem dX7_drawOrder_14 : decode cX7_drawOrder 14 = .ok (.iastore, 1) := by decide +kernel
theorem dX7_drawOrder_15 : decode cX7_drawOrder 15 = .ok (.iinc 3 1, 3) := by decide +kernel
theorem dX7_drawOrder_18 : decode cX7_drawOrder 18 = .ok (.goto (-16), 3) := by decide +kernel
theorem dX7_drawOrder_21 : decode cX7_drawOrder 21 = .ok (.lload_n 1, 1) := by decide +kernel
theorem dX7_drawOrder_22 : decode cX7_drawOrder 22 = .ok (.lstore_n 3, 1) := by decide +kernel
theorem dX7_drawOrder_23 : decode cX7_drawOrder 23 = .ok (.iconst 5, 1) := by decide +kernel
theorem dX7_drawOrder_24 : decode cX7_drawOrder 24 = .ok (.istore 5, 2) := by decide +kernel
theorem dX7_drawOrder_26 : decode cX7_drawOrder 26 = .ok (.iload 5, 2) := by decide +kernel
theorem dX7_drawOrder_28 : decode cX7_drawOrder 28 = .ok (.iconst 1, 1) := by decide +kernel
theorem dX7_drawOrder_29 : decode cX7_drawOrder 29 = .ok (.if_icmp .lt 67, 3) := by decide +kernel
theorem dX7_drawOrder_32 : decode cX7_drawOrder 32 = .ok (.ldc2_w 287, 3) := by decide +kernel
theorem dX7_drawOrder_35 : decode cX7_drawOrder 35 = .ok (.lload_n 3, 1) := by decide +kernel
theorem dX7_drawOrder_36 : decode cX7_drawOrder 36 = .ok (.lmul, 1) := by decide +kernel
theorem dX7_drawOrder_37 : decode cX7_drawOrder 37 = .ok (.ldc2_w 289, 3) := by decide +kernel
theorem dX7_drawOrder_40 : decode cX7_drawOrder 40 = .ok (.ladd, 1) := by decide +kernel
theorem dX7_drawOrder_41 : decode cX7_drawOrder 41 = .ok (.ldc2_w 291, 3) := by decide +kernel
theorem dX7_drawOrder_44 : decode cX7_drawOrder 44 = .ok (.land, 1) := by decide +kernel
theorem dX7_drawOrder_45 : decode cX7_drawOrder 45 = .ok (.lstore_n 3, 1) := by decide +kernel
theorem dX7_drawOrder_46 : decode cX7_drawOrder 46 = .ok (.lload_n 3, 1) := by decide +kernel
theorem dX7_drawOrder_47 : decode cX7_drawOrder 47 = .ok (.bipush 16, 2) := by decide +kernel
theorem dX7_drawOrder_49 : decode cX7_drawOrder 49 = .ok (.lshr, 1) := by decide +kernel
theorem dX7_drawOrder_50 : decode cX7_drawOrder 50 = .ok (.l2i, 1) := by decide +kernel
theorem dX7_drawOrder_51 : decode cX7_drawOrder 51 = .ok (.iload 5, 2) := by decide +kernel
theorem dX7_drawOrder_53 : decode cX7_drawOrder 53 = .ok (.iconst 1, 1) := by decide +kernel
theorem dX7_drawOrder_54 : decode cX7_drawOrder 54 = .ok (.iadd, 1) := by decide +kernel
theorem dX7_drawOrder_55 : decode cX7_drawOrder 55 = .ok (.irem, 1) := by decide +kernel
theorem dX7_drawOrder_56 : decode cX7_drawOrder 56 = .ok (.istore 6, 2) := by decide +kernel
theorem dX7_drawOrder_58 : decode cX7_drawOrder 58 = .ok (.aload_n 0, 1) := by decide +kernel
theorem dX7_drawOrder_59 : decode cX7_drawOrder 59 = .ok (.getfield 49, 3) := by decide +kernel
theorem dX7_drawOrder_62 : decode cX7_drawOrder 62 = .ok (.iload 5, 2) := by decide +kernel
theorem dX7_drawOrder_64 : decode cX7_drawOrder 64 = .ok (.iaload, 1) := by decide +kernel
theorem dX7_drawOrder_65 : decode cX7_drawOrder 65 = .ok (.istore 7, 2) := by decide +kernel
theorem dX7_drawOrder_67 : decode cX7_drawOrder 67 = .ok (.aload_n 0, 1) := by decide +kernel
theorem dX7_drawOrder_68 : decode cX7_drawOrder 68 = .ok (.getfield 49, 3) := by decide +kernel
theorem dX7_drawOrder_71 : decode cX7_drawOrder 71 = .ok (.iload 5, 2) := by decide +kernel
theorem dX7_drawOrder_73 : decode cX7_drawOrder 73 = .ok (.aload_n 0, 1) := by decide +kernel
theorem dX7_drawOrder_74 : decode cX7_drawOrder 74 = .ok (.getfield 49, 3) := by decide +kernel
theorem dX7_drawOrder_77 : decode cX7_drawOrder 77 = .ok (.iload 6, 2) := by decide +kernel
theorem dX7_drawOrder_79 : decode cX7_drawOrder 79 = .ok (.iaload, 1) := by decide +kernel
theorem dX7_drawOrder_80 : decode cX7_drawOrder 80 = .ok (.iastore, 1) := by decide +kernel
theorem dX7_drawOrder_81 : decode cX7_drawOrder 81 = .ok (.aload_n 0, 1) := by decide +kernel
theorem dX7_drawOrder_82 : decode cX7_drawOrder 82 = .ok (.getfield 49, 3) := by decide +kernel
theorem dX7_drawOrder_85 : decode cX7_drawOrder 85 = .ok (.iload 6, 2) := by decide +kernel
theorem dX7_drawOrder_87 : decode cX7_drawOrder 87 = .ok (.iload 7, 2) := by decide +kernel
theorem dX7_drawOrder_89 : decode cX7_drawOrder 89 = .ok (.iastore, 1) := by decide +kernel
theorem dX7_drawOrder_90 : decode cX7_drawOrder 90 = .ok (.iinc 5 (-1), 3) := by decide +kernel
theorem dX7_drawOrder_93 : decode cX7_drawOrder 93 = .ok (.goto (-67), 3) := by decide +kernel
theorem dX7_drawOrder_96 : decode cX7_drawOrder 96 = .ok (.lload_n 3, 1) := by decide +kernel
theorem dX7_drawOrder_97 : decode cX7_drawOrder 97 = .ok (.lreturn, 1) := by decide +kernel
theorem dX7_flowsBefore_0 : decode cX7_flowsBefore 0 = .ok (.iconst 0, 1) := by decide +kernel
theorem dX7_flowsBefore_1 : decode cX7_flowsBefore 1 = .ok (.istore_n 2, 1) := by decide +kernel
theorem dX7_flowsBefore_2 : decode cX7_flowsBefore 2 = .ok (.iconst 0, 1) := by decide +kernel
theorem dX7_flowsBefore_3 : decode cX7_flowsBefore 3 = .ok (.istore_n 3, 1) := by decide +kernel
theorem dX7_flowsBefore_4 : decode cX7_flowsBefore 4 = .ok (.iload_n 3, 1) := by decide +kernel
theorem dX7_flowsBefore_5 : decode cX7_flowsBefore 5 = .ok (.bipush 6, 2) := by decide +kernel
theorem dX7_flowsBefore_7 : decode cX7_flowsBefore 7 = .ok (.if_icmp .ge 30, 3) := by decide +kernel
theorem dX7_flowsBefore_10 : decode cX7_flowsBefore 10 = .ok (.aload_n 0, 1) := by decide +kernel
theorem dX7_flowsBefore_11 : decode cX7_flowsBefore 11 = .ok (.getfield 49, 3) := by decide +kernel
theorem dX7_flowsBefore_14 : decode cX7_flowsBefore 14 = .ok (.iload_n 3, 1) := by decide +kernel
theorem dX7_flowsBefore_15 : decode cX7_flowsBefore 15 = .ok (.iaload, 1) := by decide +kernel
theorem dX7_flowsBefore_16 : decode cX7_flowsBefore 16 = .ok (.iload_n 1, 1) := by decide +kernel
theorem dX7_flowsBefore_17 : decode cX7_flowsBefore 17 = .ok (.if_icmp .eq 20, 3) := by decide +kernel
theorem dX7_flowsBefore_20 : decode cX7_flowsBefore 20 = .ok (.iload_n 2, 1) := by decide +kernel
theorem dX7_flowsBefore_21 : decode cX7_flowsBefore 21 = .ok (.iconst 1, 1) := by decide +kernel
theorem dX7_flowsBefore_22 : decode cX7_flowsBefore 22 = .ok (.aload_n 0, 1) := by decide +kernel
theorem dX7_flowsBefore_23 : decode cX7_flowsBefore 23 = .ok (.getfield 49, 3) := by decide +kernel
theorem dX7_flowsBefore_26 : decode cX7_flowsBefore 26 = .ok (.iload_n 3, 1) := by decide +kernel
theorem dX7_flowsBefore_27 : decode cX7_flowsBefore 27 = .ok (.iaload, 1) := by decide +kernel
theorem dX7_flowsBefore_28 : decode cX7_flowsBefore 28 = .ok (.ishl, 1) := by decide +kernel
theorem dX7_flowsBefore_29 : decode cX7_flowsBefore 29 = .ok (.ior, 1) := by decide +kernel
theorem dX7_flowsBefore_30 : decode cX7_flowsBefore 30 = .ok (.istore_n 2, 1) := by decide +kernel
theorem dX7_flowsBefore_31 : decode cX7_flowsBefore 31 = .ok (.iinc 3 1, 3) := by decide +kernel
theorem dX7_flowsBefore_34 : decode cX7_flowsBefore 34 = .ok (.goto (-30), 3) := by decide +kernel
theorem dX7_flowsBefore_37 : decode cX7_flowsBefore 37 = .ok (.iload_n 2, 1) := by decide +kernel
theorem dX7_flowsBefore_38 : decode cX7_flowsBefore 38 = .ok (.ireturn, 1) := by decide +kernel
theorem dX7_smallestCause_0 : decode cX7_smallestCause 0 = .ok (.aload_n 0, 1) := by decide +kernel
theorem dX7_smallestCause_1 : decode cX7_smallestCause 1 = .ok (.bipush 63, 2) := by decide +kernel
theorem dX7_smallestCause_3 : decode cX7_smallestCause 3 = .ok (.iload_n 1, 1) := by decide +kernel
theorem dX7_smallestCause_4 : decode cX7_smallestCause 4 = .ok (.invokevirtual 293, 3) := by decide +kernel
theorem dX7_smallestCause_7 : decode cX7_smallestCause 7 = .ok (.ifCond .ne 5, 3) := by decide +kernel
theorem dX7_smallestCause_10 : decode cX7_smallestCause 10 = .ok (.iconst 0, 1) := by decide +kernel
theorem dX7_smallestCause_11 : decode cX7_smallestCause 11 = .ok (.ireturn, 1) := by decide +kernel
theorem dX7_smallestCause_12 : decode cX7_smallestCause 12 = .ok (.iconst 1, 1) := by decide +kernel
theorem dX7_smallestCause_13 : decode cX7_smallestCause 13 = .ok (.istore_n 2, 1) := by decide +kernel
theorem dX7_smallestCause_14 : decode cX7_smallestCause 14 = .ok (.iload_n 2, 1) := by decide +kernel
theorem dX7_smallestCause_15 : decode cX7_smallestCause 15 = .ok (.bipush 6, 2) := by decide +kernel
theorem dX7_smallestCause_17 : decode cX7_smallestCause 17 = .ok (.if_icmp .ge 42, 3) := by decide +kernel
theorem dX7_smallestCause_20 : decode cX7_smallestCause 20 = .ok (.iconst 1, 1) := by decide +kernel
theorem dX7_smallestCause_21 : decode cX7_smallestCause 21 = .ok (.istore_n 3, 1) := by decide +kernel
theorem dX7_smallestCause_22 : decode cX7_smallestCause 22 = .ok (.iload_n 3, 1) := by decide +kernel
theorem dX7_smallestCause_23 : decode cX7_smallestCause 23 = .ok (.bipush 64, 2) := by decide +kernel
theorem dX7_smallestCause_25 : decode cX7_smallestCause 25 = .ok (.if_icmp .ge 28, 3) := by decide +kernel
theorem dX7_smallestCause_28 : decode cX7_smallestCause 28 = .ok (.iload_n 3, 1) := by decide +kernel
theorem dX7_smallestCause_29 : decode cX7_smallestCause 29 = .ok (.invokestatic 188, 3) := by decide +kernel
theorem dX7_smallestCause_32 : decode cX7_smallestCause 32 = .ok (.iload_n 2, 1) := by decide +kernel
theorem dX7_smallestCause_33 : decode cX7_smallestCause 33 = .ok (.if_icmp .ne 14, 3) := by decide +kernel
theorem dX7_smallestCause_36 : decode cX7_smallestCause 36 = .ok (.aload_n 0, 1) := by decide +kernel
theorem dX7_smallestCause_37 : decode cX7_smallestCause 37 = .ok (.iload_n 3, 1) := by decide +kernel
theorem dX7_smallestCause_38 : decode cX7_smallestCause 38 = .ok (.iload_n 1, 1) := by decide +kernel
theorem dX7_smallestCause_39 : decode cX7_smallestCause 39 = .ok (.invokevirtual 193, 3) := by decide +kernel
theorem dX7_smallestCause_42 : decode cX7_smallestCause 42 = .ok (.ifCond .eq 5, 3) := by decide +kernel
theorem dX7_smallestCause_45 : decode cX7_smallestCause 45 = .ok (.iload_n 3, 1) := by decide +kernel
theorem dX7_smallestCause_46 : decode cX7_smallestCause 46 = .ok (.ireturn, 1) := by decide +kernel
theorem dX7_smallestCause_47 : decode cX7_smallestCause 47 = .ok (.iinc 3 1, 3) := by decide +kernel
theorem dX7_smallestCause_50 : decode cX7_smallestCause 50 = .ok (.goto (-28), 3) := by decide +kernel
theorem dX7_smallestCause_53 : decode cX7_smallestCause 53 = .ok (.iinc 2 1, 3) := by decide +kernel
theorem dX7_smallestCause_56 : decode cX7_smallestCause 56 = .ok (.goto (-42), 3) := by decide +kernel
theorem dX7_smallestCause_59 : decode cX7_smallestCause 59 = .ok (.iconst (-1), 1) := by decide +kernel
theorem dX7_smallestCause_60 : decode cX7_smallestCause 60 = .ok (.ireturn, 1) := by decide +kernel
theorem dX7_isCause_0 : decode cX7_isCause 0 = .ok (.iload_n 1, 1) := by decide +kernel
theorem dX7_isCause_1 : decode cX7_isCause 1 = .ok (.aload_n 0, 1) := by decide +kernel
theorem dX7_isCause_2 : decode cX7_isCause 2 = .ok (.getfield 10, 3) := by decide +kernel
theorem dX7_isCause_5 : decode cX7_isCause 5 = .ok (.getfield 96, 3) := by decide +kernel
theorem dX7_isCause_8 : decode cX7_isCause 8 = .ok (.iload_n 2, 1) := by decide +kernel
theorem dX7_isCause_9 : decode cX7_isCause 9 = .ok (.iaload, 1) := by decide +kernel
theorem dX7_isCause_10 : decode cX7_isCause 10 = .ok (.invokestatic 144, 3) := by decide +kernel
theorem dX7_isCause_13 : decode cX7_isCause 13 = .ok (.ifCond .ne 21, 3) := by decide +kernel
theorem dX7_isCause_16 : decode cX7_isCause 16 = .ok (.aload_n 0, 1) := by decide +kernel
theorem dX7_isCause_17 : decode cX7_isCause 17 = .ok (.bipush 63, 2) := by decide +kernel
theorem dX7_isCause_19 : decode cX7_isCause 19 = .ok (.iload_n 1, 1) := by decide +kernel
theorem dX7_isCause_20 : decode cX7_isCause 20 = .ok (.iconst (-1), 1) := by decide +kernel
theorem dX7_isCause_21 : decode cX7_isCause 21 = .ok (.ixor, 1) := by decide +kernel
theorem dX7_isCause_22 : decode cX7_isCause 22 = .ok (.iand, 1) := by decide +kernel
theorem dX7_isCause_23 : decode cX7_isCause 23 = .ok (.iload_n 2, 1) := by decide +kernel
theorem dX7_isCause_24 : decode cX7_isCause 24 = .ok (.invokevirtual 293, 3) := by decide +kernel
theorem dX7_isCause_27 : decode cX7_isCause 27 = .ok (.ifCond .ne 7, 3) := by decide +kernel
theorem dX7_isCause_30 : decode cX7_isCause 30 = .ok (.iconst 1, 1) := by decide +kernel
theorem dX7_isCause_31 : decode cX7_isCause 31 = .ok (.goto 4, 3) := by decide +kernel
theorem dX7_isCause_34 : decode cX7_isCause 34 = .ok (.iconst 0, 1) := by decide +kernel
theorem dX7_isCause_35 : decode cX7_isCause 35 = .ok (.ireturn, 1) := by decide +kernel
theorem dX7_isDroppedWith_0 : decode cX7_isDroppedWith 0 = .ok (.aload_n 0, 1) := by decide +kernel
theorem dX7_isDroppedWith_1 : decode cX7_isDroppedWith 1 = .ok (.getfield 32, 3) := by decide +kernel
theorem dX7_isDroppedWith_4 : decode cX7_isDroppedWith 4 = .ok (.iload_n 1, 1) := by decide +kernel
theorem dX7_isDroppedWith_5 : decode cX7_isDroppedWith 5 = .ok (.aload_n 0, 1) := by decide +kernel
theorem dX7_isDroppedWith_6 : decode cX7_isDroppedWith 6 = .ok (.getfield 10, 3) := by decide +kernel
theorem dX7_isDroppedWith_9 : decode cX7_isDroppedWith 9 = .ok (.getfield 111, 3) := by decide +kernel
theorem dX7_isDroppedWith_12 : decode cX7_isDroppedWith 12 = .ok (.iconst 0, 1) := by decide +kernel
theorem dX7_isDroppedWith_13 : decode cX7_isDroppedWith 13 = .ok (.iaload, 1) := by decide +kernel
theorem dX7_isDroppedWith_14 : decode cX7_isDroppedWith 14 = .ok (.aload_n 0, 1) := by decide +kernel
theorem dX7_isDroppedWith_15 : decode cX7_isDroppedWith 15 = .ok (.getfield 10, 3) := by decide +kernel
theorem dX7_isDroppedWith_18 : decode cX7_isDroppedWith 18 = .ok (.getfield 111, 3) := by decide +kernel
theorem dX7_isDroppedWith_21 : decode cX7_isDroppedWith 21 = .ok (.iconst 2, 1) := by decide +kernel
theorem dX7_isDroppedWith_22 : decode cX7_isDroppedWith 22 = .ok (.iaload, 1) := by decide +kernel
theorem dX7_isDroppedWith_23 : decode cX7_isDroppedWith 23 = .ok (.invokevirtual 114, 3) := by decide +kernel
theorem dX7_isDroppedWith_26 : decode cX7_isDroppedWith 26 = .ok (.aload_n 0, 1) := by decide +kernel
theorem dX7_isDroppedWith_27 : decode cX7_isDroppedWith 27 = .ok (.getfield 32, 3) := by decide +kernel
theorem dX7_isDroppedWith_30 : decode cX7_isDroppedWith 30 = .ok (.getfield 118, 3) := by decide +kernel
theorem dX7_isDroppedWith_33 : decode cX7_isDroppedWith 33 = .ok (.iload_n 2, 1) := by decide +kernel
theorem dX7_isDroppedWith_34 : decode cX7_isDroppedWith 34 = .ok (.invokevirtual 127, 3) := by decide +kernel
theorem dX7_isDroppedWith_37 : decode cX7_isDroppedWith 37 = .ok (.bipush (-2), 2) := by decide +kernel
theorem dX7_isDroppedWith_39 : decode cX7_isDroppedWith 39 = .ok (.if_icmp .ne 7, 3) := by decide +kernel
theorem dX7_isDroppedWith_42 : decode cX7_isDroppedWith 42 = .ok (.iconst 1, 1) := by decide +kernel
theorem dX7_isDroppedWith_43 : decode cX7_isDroppedWith 43 = .ok (.goto 4, 3) := by decide +kernel
theorem dX7_isDroppedWith_46 : decode cX7_isDroppedWith 46 = .ok (.iconst 0, 1) := by decide +kernel
theorem dX7_isDroppedWith_47 : decode cX7_isDroppedWith 47 = .ok (.ireturn, 1) := by decide +kernel
theorem dX7_carryOut_0 : decode cX7_carryOut 0 = .ok (.iload_n 2, 1) := by decide +kernel
theorem dX7_carryOut_1 : decode cX7_carryOut 1 = .ok (.ifCond .lt 21, 3) := by decide +kernel
theorem dX7_carryOut_4 : decode cX7_carryOut 4 = .ok (.iload_n 2, 1) := by decide +kernel
theorem dX7_carryOut_5 : decode cX7_carryOut 5 = .ok (.iconst 2, 1) := by decide +kernel
theorem dX7_carryOut_6 : decode cX7_carryOut 6 = .ok (.iadd, 1) := by decide +kernel
theorem dX7_carryOut_7 : decode cX7_carryOut 7 = .ok (.aload_n 0, 1) := by decide +kernel
theorem dX7_carryOut_8 : decode cX7_carryOut 8 = .ok (.getfield 38, 3) := by decide +kernel
theorem dX7_carryOut_11 : decode cX7_carryOut 11 = .ok (.getfield 296, 3) := by decide +kernel
theorem dX7_carryOut_14 : decode cX7_carryOut 14 = .ok (.arraylength, 1) := by decide +kernel
theorem dX7_carryOut_15 : decode cX7_carryOut 15 = .ok (.if_icmp .ge 7, 3) := by decide +kernel
theorem dX7_carryOut_18 : decode cX7_carryOut 18 = .ok (.aload_n 1, 1) := by decide +kernel
theorem dX7_carryOut_19 : decode cX7_carryOut 19 = .ok (.ifnonnull 5, 3) := by decide +kernel
theorem dX7_carryOut_22 : decode cX7_carryOut 22 = .ok (.iconst 0, 1) := by decide +kernel
theorem dX7_carryOut_23 : decode cX7_carryOut 23 = .ok (.ireturn, 1) := by decide +kernel
theorem dX7_carryOut_24 : decode cX7_carryOut 24 = .ok (.aload_n 0, 1) := by decide +kernel
theorem dX7_carryOut_25 : decode cX7_carryOut 25 = .ok (.getfield 38, 3) := by decide +kernel
theorem dX7_carryOut_28 : decode cX7_carryOut 28 = .ok (.getfield 296, 3) := by decide +kernel
theorem dX7_carryOut_31 : decode cX7_carryOut 31 = .ok (.iload_n 2, 1) := by decide +kernel
theorem dX7_carryOut_32 : decode cX7_carryOut 32 = .ok (.iaload, 1) := by decide +kernel
theorem dX7_carryOut_33 : decode cX7_carryOut 33 = .ok (.istore_n 3, 1) := by decide +kernel
theorem dX7_carryOut_34 : decode cX7_carryOut 34 = .ok (.aload_n 0, 1) := by decide +kernel
theorem dX7_carryOut_35 : decode cX7_carryOut 35 = .ok (.getfield 38, 3) := by decide +kernel
theorem dX7_carryOut_38 : decode cX7_carryOut 38 = .ok (.getfield 296, 3) := by decide +kernel
theorem dX7_carryOut_41 : decode cX7_carryOut 41 = .ok (.iload_n 2, 1) := by decide +kernel
theorem dX7_carryOut_42 : decode cX7_carryOut 42 = .ok (.iconst 1, 1) := by decide +kernel
theorem dX7_carryOut_43 : decode cX7_carryOut 43 = .ok (.iadd, 1) := by decide +kernel
theorem dX7_carryOut_44 : decode cX7_carryOut 44 = .ok (.iaload, 1) := by decide +kernel
theorem dX7_carryOut_45 : decode cX7_carryOut 45 = .ok (.istore 4, 2) := by decide +kernel
theorem dX7_carryOut_47 : decode cX7_carryOut 47 = .ok (.aload_n 0, 1) := by decide +kernel
theorem dX7_carryOut_48 : decode cX7_carryOut 48 = .ok (.getfield 38, 3) := by decide +kernel
theorem dX7_carryOut_51 : decode cX7_carryOut 51 = .ok (.getfield 296, 3) := by decide +kernel
theorem dX7_carryOut_54 : decode cX7_carryOut 54 = .ok (.iload_n 2, 1) := by decide +kernel
theorem dX7_carryOut_55 : decode cX7_carryOut 55 = .ok (.iconst 2, 1) := by decide +kernel
theorem dX7_carryOut_56 : decode cX7_carryOut 56 = .ok (.iadd, 1) := by decide +kernel
theorem dX7_carryOut_57 : decode cX7_carryOut 57 = .ok (.iaload, 1) := by decide +kernel
theorem dX7_carryOut_58 : decode cX7_carryOut 58 = .ok (.istore 5, 2) := by decide +kernel
theorem dX7_carryOut_60 : decode cX7_carryOut 60 = .ok (.aload_n 1, 1) := by decide +kernel
theorem dX7_carryOut_61 : decode cX7_carryOut 61 = .ok (.getstatic 299, 3) := by decide +kernel
theorem dX7_carryOut_64 : decode cX7_carryOut 64 = .ok (.if_acmp .ne 36, 3) := by decide +kernel
theorem dX7_carryOut_67 : decode cX7_carryOut 67 = .ok (.iload_n 3, 1) := by decide +kernel
theorem dX7_carryOut_68 : decode cX7_carryOut 68 = .ok (.iload 4, 2) := by decide +kernel
theorem dX7_carryOut_70 : decode cX7_carryOut 70 = .ok (.iload 5, 2) := by decide +kernel
theorem dX7_carryOut_72 : decode cX7_carryOut 72 = .ok (.invokestatic 56, 3) := by decide +kernel
theorem dX7_carryOut_75 : decode cX7_carryOut 75 = .ok (.ifCond .eq 23, 3) := by decide +kernel
theorem dX7_carryOut_78 : decode cX7_carryOut 78 = .ok (.aload_n 0, 1) := by decide +kernel
theorem dX7_carryOut_79 : decode cX7_carryOut 79 = .ok (.getfield 10, 3) := by decide +kernel
theorem dX7_carryOut_82 : decode cX7_carryOut 82 = .ok (.iload_n 3, 1) := by decide +kernel
theorem dX7_carryOut_83 : decode cX7_carryOut 83 = .ok (.iload 4, 2) := by decide +kernel
theorem dX7_carryOut_85 : decode cX7_carryOut 85 = .ok (.iload 5, 2) := by decide +kernel
theorem dX7_carryOut_87 : decode cX7_carryOut 87 = .ok (.invokevirtual 79, 3) := by decide +kernel
theorem dX7_carryOut_90 : decode cX7_carryOut 90 = .ok (.iconst (-1), 1) := by decide +kernel
theorem dX7_carryOut_91 : decode cX7_carryOut 91 = .ok (.if_icmp .eq 7, 3) := by decide +kernel
theorem dX7_carryOut_94 : decode cX7_carryOut 94 = .ok (.iconst 1, 1) := by decide +kernel
theorem dX7_carryOut_95 : decode cX7_carryOut 95 = .ok (.goto 4, 3) := by decide +kernel
theorem dX7_carryOut_98 : decode cX7_carryOut 98 = .ok (.iconst 0, 1) := by decide +kernel
theorem dX7_carryOut_99 : decode cX7_carryOut 99 = .ok (.ireturn, 1) := by decide +kernel
theorem dX7_carryOut_100 : decode cX7_carryOut 100 = .ok (.aload_n 1, 1) := by decide +kernel
theorem dX7_carryOut_101 : decode cX7_carryOut 101 = .ok (.getstatic 305, 3) := by decide +kernel
theorem dX7_carryOut_104 : decode cX7_carryOut 104 = .ok (.if_acmp .ne 32, 3) := by decide +kernel
theorem dX7_carryOut_107 : decode cX7_carryOut 107 = .ok (.iload_n 3, 1) := by decide +kernel
theorem dX7_carryOut_108 : decode cX7_carryOut 108 = .ok (.invokestatic 246, 3) := by decide +kernel
theorem dX7_carryOut_111 : decode cX7_carryOut 111 = .ok (.ifCond .eq 23, 3) := by decide +kernel
theorem dX7_carryOut_114 : decode cX7_carryOut 114 = .ok (.aload_n 0, 1) := by decide +kernel
theorem dX7_carryOut_115 : decode cX7_carryOut 115 = .ok (.getfield 10, 3) := by decide +kernel
theorem dX7_carryOut_118 : decode cX7_carryOut 118 = .ok (.bipush 8, 2) := by decide +kernel
theorem dX7_carryOut_120 : decode cX7_carryOut 120 = .ok (.iload_n 3, 1) := by decide +kernel
theorem dX7_carryOut_121 : decode cX7_carryOut 121 = .ok (.iadd, 1) := by decide +kernel
theorem dX7_carryOut_122 : decode cX7_carryOut 122 = .ok (.iload 4, 2) := by decide +kernel
theorem dX7_carryOut_124 : decode cX7_carryOut 124 = .ok (.invokevirtual 308, 3) := by decide +kernel
theorem dX7_carryOut_127 : decode cX7_carryOut 127 = .ok (.ifCond .eq 7, 3) := by decide +kernel
theorem dX7_carryOut_130 : decode cX7_carryOut 130 = .ok (.iconst 1, 1) := by decide +kernel
theorem dX7_carryOut_131 : decode cX7_carryOut 131 = .ok (.goto 4, 3) := by decide +kernel
theorem dX7_carryOut_134 : decode cX7_carryOut 134 = .ok (.iconst 0, 1) := by decide +kernel
theorem dX7_carryOut_135 : decode cX7_carryOut 135 = .ok (.ireturn, 1) := by decide +kernel
theorem dX7_carryOut_136 : decode cX7_carryOut 136 = .ok (.aload_n 0, 1) := by decide +kernel
theorem dX7_carryOut_137 : decode cX7_carryOut 137 = .ok (.getfield 10, 3) := by decide +kernel
theorem dX7_carryOut_140 : decode cX7_carryOut 140 = .ok (.aload_n 1, 1) := by decide +kernel
theorem dX7_carryOut_141 : decode cX7_carryOut 141 = .ok (.getfield 311, 3) := by decide +kernel
theorem dX7_carryOut_144 : decode cX7_carryOut 144 = .ok (.iload_n 3, 1) := by decide +kernel
theorem dX7_carryOut_145 : decode cX7_carryOut 145 = .ok (.invokevirtual 308, 3) := by decide +kernel
theorem dX7_carryOut_148 : decode cX7_carryOut 148 = .ok (.ireturn, 1) := by decide +kernel
end
section
theorem dX8_init_0 : decode cX8_init 0 = .ok (.aload_n 0, 1) := by decide +kernel
theorem dX8_init_1 : decode cX8_init 1 = .ok (.invokespecial 1, 3) := by decide +kernel
theorem dX8_init_4 : decode cX8_init 4 = .ok (.aload_n 0, 1) := by decide +kernel
theorem dX8_init_5 : decode cX8_init 5 = .ok (.sipush 135, 3) := by decide +kernel
theorem dX8_init_8 : decode cX8_init 8 = .ok (.newarray .int, 2) := by decide +kernel
theorem dX8_init_10 : decode cX8_init 10 = .ok (.putfield 7, 3) := by decide +kernel
theorem dX8_init_13 : decode cX8_init 13 = .ok (.aload_n 0, 1) := by decide +kernel
theorem dX8_init_14 : decode cX8_init 14 = .ok (.sipush 1080, 3) := by decide +kernel
theorem dX8_init_17 : decode cX8_init 17 = .ok (.newarray .int, 2) := by decide +kernel
theorem dX8_init_19 : decode cX8_init 19 = .ok (.putfield 13, 3) := by decide +kernel
theorem dX8_init_22 : decode cX8_init 22 = .ok (.aload_n 0, 1) := by decide +kernel
theorem dX8_init_23 : decode cX8_init 23 = .ok (.bipush 40, 2) := by decide +kernel
theorem dX8_init_25 : decode cX8_init 25 = .ok (.newarray .int, 2) := by decide +kernel
theorem dX8_init_27 : decode cX8_init 27 = .ok (.putfield 16, 3) := by decide +kernel
theorem dX8_init_30 : decode cX8_init 30 = .ok (.aload_n 0, 1) := by decide +kernel
theorem dX8_init_31 : decode cX8_init 31 = .ok (.bipush 40, 2) := by decide +kernel
theorem dX8_init_33 : decode cX8_init 33 = .ok (.newarray .int, 2) := by decide +kernel
theorem dX8_init_35 : decode cX8_init 35 = .ok (.putfield 19, 3) := by decide +kernel
theorem dX8_init_38 : decode cX8_init 38 = .ok (.aload_n 0, 1) := by decide +kernel
theorem dX8_init_39 : decode cX8_init 39 = .ok (.sipush 4700, 3) := by decide +kernel
theorem dX8_init_42 : decode cX8_init 42 = .ok (.newarray .int, 2) := by decide +kernel
theorem dX8_init_44 : decode cX8_init 44 = .ok (.putfield 22, 3) := by decide +kernel
theorem dX8_init_47 : decode cX8_init 47 = .ok (.aload_n 0, 1) := by decide +kernel
theorem dX8_init_48 : decode cX8_init 48 = .ok (.bipush 41, 2) := by decide +kernel
theorem dX8_init_50 : decode cX8_init 50 = .ok (.newarray .int, 2) := by decide +kernel
theorem dX8_init_52 : decode cX8_init 52 = .ok (.putfield 25, 3) := by decide +kernel
theorem dX8_init_55 : decode cX8_init 55 = .ok (.aload_n 0, 1) := by decide +kernel
theorem dX8_init_56 : decode cX8_init 56 = .ok (.bipush 40, 2) := by decide +kernel
theorem dX8_init_58 : decode cX8_init 58 = .ok (.newarray .int, 2) := by decide +kernel
theorem dX8_init_60 : decode cX8_init 60 = .ok (.putfield 28, 3) := by decide +kernel
theorem dX8_init_63 : decode cX8_init 63 = .ok (.aload_n 0, 1) := by decide +kernel
theorem dX8_init_64 : decode cX8_init 64 = .ok (.bipush 40, 2) := by decide +kernel
theorem dX8_init_66 : decode cX8_init 66 = .ok (.newarray .int, 2) := by decide +kernel
theorem dX8_init_68 : decode cX8_init 68 = .ok (.putfield 31, 3) := by decide +kernel
theorem dX8_init_71 : decode cX8_init 71 = .ok (.aload_n 0, 1) := by decide +kernel
theorem dX8_init_72 : decode cX8_init 72 = .ok (.bipush 40, 2) := by decide +kernel
theorem dX8_init_74 : decode cX8_init 74 = .ok (.newarray .int, 2) := by decide +kernel
theorem dX8_init_76 : decode cX8_init 76 = .ok (.putfield 34, 3) := by decide +kernel
theorem dX8_init_79 : decode cX8_init 79 = .ok (.aload_n 0, 1) := by decide +kernel
theorem dX8_init_80 : decode cX8_init 80 = .ok (.sipush 4700, 3) := by decide +kernel
theorem dX8_init_83 : decode cX8_init 83 = .ok (.newarray .int, 2) := by decide +kernel
theorem dX8_init_85 : decode cX8_init 85 = .ok (.putfield 37, 3) := by decide +kernel
theorem dX8_init_88 : decode cX8_init 88 = .ok (.aload_n 0, 1) := by decide +kernel
theorem dX8_init_89 : decode cX8_init 89 = .ok (.bipush 64, 2) := by decide +kernel
theorem dX8_init_91 : decode cX8_init 91 = .ok (.newarray .int, 2) := by decide +kernel
theorem dX8_init_93 : decode cX8_init 93 = .ok (.putfield 40, 3) := by decide +kernel
theorem dX8_init_96 : decode cX8_init 96 = .ok (.aload_n 0, 1) := by decide +kernel
theorem dX8_init_97 : decode cX8_init 97 = .ok (.bipush 6, 2) := by decide +kernel
theorem dX8_init_99 : decode cX8_init 99 = .ok (.newarray .int, 2) := by decide +kernel
theorem dX8_init_101 : decode cX8_init 101 = .ok (.putfield 43, 3) := by decide +kernel
theorem dX8_init_104 : decode cX8_init 104 = .ok (.aload_n 0, 1) := by decide +kernel
theorem dX8_init_105 : decode cX8_init 105 = .ok (.bipush 120, 2) := by decide +kernel
theorem dX8_init_107 : decode cX8_init 107 = .ok (.newarray .int, 2) := by decide +kernel
theorem dX8_init_109 : decode cX8_init 109 = .ok (.putfield 46, 3) := by decide +kernel
theorem dX8_init_112 : decode cX8_init 112 = .ok (.aload_n 0, 1) := by decide +kernel
theorem dX8_init_113 : decode cX8_init 113 = .ok (.sipush 240, 3) := by decide +kernel
theorem dX8_init_116 : decode cX8_init 116 = .ok (.newarray .int, 2) := by decide +kernel
theorem dX8_init_118 : decode cX8_init 118 = .ok (.putfield 49, 3) := by decide +kernel
theorem dX8_init_121 : decode cX8_init 121 = .ok (.aload_n 0, 1) := by decide +kernel
theorem dX8_init_122 : decode cX8_init 122 = .ok (.getfield 7, 3) := by decide +kernel
theorem dX8_init_125 : decode cX8_init 125 = .ok (.bipush 121, 2) := by decide +kernel
theorem dX8_init_127 : decode cX8_init 127 = .ok (.bipush 100, 2) := by decide +kernel
theorem dX8_init_129 : decode cX8_init 129 = .ok (.iastore, 1) := by decide +kernel
theorem dX8_init_130 : decode cX8_init 130 = .ok (.aload_n 0, 1) := by decide +kernel
theorem dX8_init_131 : decode cX8_init 131 = .ok (.getfield 7, 3) := by decide +kernel
theorem dX8_init_134 : decode cX8_init 134 = .ok (.bipush 122, 2) := by decide +kernel
theorem dX8_init_136 : decode cX8_init 136 = .ok (.bipush 10, 2) := by decide +kernel
theorem dX8_init_138 : decode cX8_init 138 = .ok (.iastore, 1) := by decide +kernel
theorem dX8_init_139 : decode cX8_init 139 = .ok (.aload_n 0, 1) := by decide +kernel
theorem dX8_init_140 : decode cX8_init 140 = .ok (.getfield 7, 3) := by decide +kernel
theorem dX8_init_143 : decode cX8_init 143 = .ok (.bipush 125, 2) := by decide +kernel
theorem dX8_init_145 : decode cX8_init 145 = .ok (.iconst 4, 1) := by decide +kernel
theorem dX8_init_146 : decode cX8_init 146 = .ok (.iastore, 1) := by decide +kernel
theorem dX8_init_147 : decode cX8_init 147 = .ok (.aload_n 0, 1) := by decide +kernel
theorem dX8_init_148 : decode cX8_init 148 = .ok (.getfield 7, 3) := by decide +kernel
theorem dX8_init_151 : decode cX8_init 151 = .ok (.bipush 126, 2) := by decide +kernel
theorem dX8_init_153 : decode cX8_init 153 = .ok (.bipush 50, 2) := by decide +kernel
theorem dX8_init_155 : decode cX8_init 155 = .ok (.iastore, 1) := by decide +kernel
theorem dX8_init_156 : decode cX8_init 156 = .ok (.aload_n 0, 1) := by decide +kernel
theorem dX8_init_157 : decode cX8_init 157 = .ok (.getfield 7, 3) := by decide +kernel
theorem dX8_init_160 : decode cX8_init 160 = .ok (.bipush 127, 2) := by decide +kernel
theorem dX8_init_162 : decode cX8_init 162 = .ok (.iconst 3, 1) := by decide +kernel
theorem dX8_init_163 : decode cX8_init 163 = .ok (.iastore, 1) := by decide +kernel
theorem dX8_init_164 : decode cX8_init 164 = .ok (.iconst 0, 1) := by decide +kernel
theorem dX8_init_165 : decode cX8_init 165 = .ok (.istore_n 1, 1) := by decide +kernel
theorem dX8_init_166 : decode cX8_init 166 = .ok (.iload_n 1, 1) := by decide +kernel
theorem dX8_init_167 : decode cX8_init 167 = .ok (.bipush 6, 2) := by decide +kernel
theorem dX8_init_169 : decode cX8_init 169 = .ok (.if_icmp .ge 20, 3) := by decide +kernel
theorem dX8_init_172 : decode cX8_init 172 = .ok (.aload_n 0, 1) := by decide +kernel
theorem dX8_init_173 : decode cX8_init 173 = .ok (.getfield 7, 3) := by decide +kernel
theorem dX8_init_176 : decode cX8_init 176 = .ok (.sipush 129, 3) := by decide +kernel
theorem dX8_init_179 : decode cX8_init 179 = .ok (.iload_n 1, 1) := by decide +kernel
theorem dX8_init_180 : decode cX8_init 180 = .ok (.iadd, 1) := by decide +kernel
theorem dX8_init_181 : decode cX8_init 181 = .ok (.iconst 5, 1) := by decide +kernel
theorem dX8_init_182 : decode cX8_init 182 = .ok (.iastore, 1) := by decide +kernel
theorem dX8_init_183 : decode cX8_init 183 = .ok (.iinc 1 1, 3) := by decide +kernel
theorem dX8_init_186 : decode cX8_init 186 = .ok (.goto (-20), 3) := by decide +kernel
theorem dX8_init_189 : decode cX8_init 189 = .ok (.return_, 1) := by decide +kernel
theorem dX8_thrown_0 : decode cX8_thrown 0 = .ok (.aload_n 0, 1) := by decide +kernel
theorem dX8_thrown_1 : decode cX8_thrown 1 = .ok (.getfield 52, 3) := by decide +kernel
theorem dX8_thrown_4 : decode cX8_thrown 4 = .ok (.ireturn, 1) := by decide +kernel
theorem dX8_in_0 : decode cX8_in 0 = .ok (.iload_n 0, 1) := by decide +kernel
theorem dX8_in_1 : decode cX8_in 1 = .ok (.iload_n 1, 1) := by decide +kernel
theorem dX8_in_2 : decode cX8_in 2 = .ok (.if_icmp .lt 12, 3) := by decide +kernel
theorem dX8_in_5 : decode cX8_in 5 = .ok (.iload_n 0, 1) := by decide +kernel
theorem dX8_in_6 : decode cX8_in 6 = .ok (.iload_n 2, 1) := by decide +kernel
theorem dX8_in_7 : decode cX8_in 7 = .ok (.if_icmp .gt 7, 3) := by decide +kernel
theorem dX8_in_10 : decode cX8_in 10 = .ok (.iconst 1, 1) := by decide +kernel
theorem dX8_in_11 : decode cX8_in 11 = .ok (.goto 4, 3) := by decide +kernel
theorem dX8_in_14 : decode cX8_in 14 = .ok (.iconst 0, 1) := by decide +kernel
theorem dX8_in_15 : decode cX8_in 15 = .ok (.ireturn, 1) := by decide +kernel
theorem dX8_refuses_0 : decode cX8_refuses 0 = .ok (.aload_n 0, 1) := by decide +kernel
theorem dX8_refuses_1 : decode cX8_refuses 1 = .ok (.iload_n 1, 1) := by decide +kernel
theorem dX8_refuses_2 : decode cX8_refuses 2 = .ok (.putfield 52, 3) := by decide +kernel
theorem dX8_refuses_5 : decode cX8_refuses 5 = .ok (.iload_n 1, 1) := by decide +kernel
theorem dX8_refuses_6 : decode cX8_refuses 6 = .ok (.ifCond .eq 7, 3) := by decide +kernel
theorem dX8_refuses_9 : decode cX8_refuses 9 = .ok (.iconst 1, 1) := by decide +kernel
theorem dX8_refuses_10 : decode cX8_refuses 10 = .ok (.goto 4, 3) := by decide +kernel
theorem dX8_refuses_13 : decode cX8_refuses 13 = .ok (.iconst 0, 1) := by decide +kernel
theorem dX8_refuses_14 : decode cX8_refuses 14 = .ok (.ireturn, 1) := by decide +kernel
theorem dX8_keeps_0 : decode cX8_keeps 0 = .ok (.aload_n 0, 1) := by decide +kernel
theorem dX8_keeps_1 : decode cX8_keeps 1 = .ok (.getfield 56, 3) := by decide +kernel
theorem dX8_keeps_4 : decode cX8_keeps 4 = .ok (.bipush 8, 2) := by decide +kernel
theorem dX8_keeps_6 : decode cX8_keeps 6 = .ok (.if_icmp .ne 44, 3) := by decide +kernel
theorem dX8_keeps_9 : decode cX8_keeps 9 = .ok (.iconst 0, 1) := by decide +kernel
theorem dX8_keeps_10 : decode cX8_keeps 10 = .ok (.istore_n 1, 1) := by decide +kernel
theorem dX8_keeps_11 : decode cX8_keeps 11 = .ok (.iload_n 1, 1) := by decide +kernel
theorem dX8_keeps_12 : decode cX8_keeps 12 = .ok (.sipush 945, 3) := by decide +kernel
theorem dX8_keeps_15 : decode cX8_keeps 15 = .ok (.if_icmp .ge 25, 3) := by decide +kernel
theorem dX8_keeps_18 : decode cX8_keeps 18 = .ok (.aload_n 0, 1) := by decide +kernel
theorem dX8_keeps_19 : decode cX8_keeps 19 = .ok (.getfield 13, 3) := by decide +kernel
theorem dX8_keeps_22 : decode cX8_keeps 22 = .ok (.iload_n 1, 1) := by decide +kernel
theorem dX8_keeps_23 : decode cX8_keeps 23 = .ok (.aload_n 0, 1) := by decide +kernel
theorem dX8_keeps_24 : decode cX8_keeps 24 = .ok (.getfield 13, 3) := by decide +kernel
theorem dX8_keeps_27 : decode cX8_keeps 27 = .ok (.iload_n 1, 1) := by decide +kernel
theorem dX8_keeps_28 : decode cX8_keeps 28 = .ok (.sipush 135, 3) := by decide +kernel
theorem dX8_keeps_31 : decode cX8_keeps 31 = .ok (.iadd, 1) := by decide +kernel
theorem dX8_keeps_32 : decode cX8_keeps 32 = .ok (.iaload, 1) := by decide +kernel
theorem dX8_keeps_33 : decode cX8_keeps 33 = .ok (.iastore, 1) := by decide +kernel
theorem dX8_keeps_34 : decode cX8_keeps 34 = .ok (.iinc 1 1, 3) := by decide +kernel
theorem dX8_keeps_37 : decode cX8_keeps 37 = .ok (.goto (-26), 3) := by decide +kernel
theorem dX8_keeps_40 : decode cX8_keeps 40 = .ok (.aload_n 0, 1) := by decide +kernel
theorem dX8_keeps_41 : decode cX8_keeps 41 = .ok (.dup, 1) := by decide +kernel
theorem dX8_keeps_42 : decode cX8_keeps 42 = .ok (.getfield 56, 3) := by decide +kernel
theorem dX8_keeps_45 : decode cX8_keeps 45 = .ok (.iconst 1, 1) := by decide +kernel
theorem dX8_keeps_46 : decode cX8_keeps 46 = .ok (.isub, 1) := by decide +kernel
theorem dX8_keeps_47 : decode cX8_keeps 47 = .ok (.putfield 56, 3) := by decide +kernel
theorem dX8_keeps_50 : decode cX8_keeps 50 = .ok (.iconst 0, 1) := by decide +kernel
theorem dX8_keeps_51 : decode cX8_keeps 51 = .ok (.istore_n 1, 1) := by decide +kernel
theorem dX8_keeps_52 : decode cX8_keeps 52 = .ok (.iload_n 1, 1) := by decide +kernel
theorem dX8_keeps_53 : decode cX8_keeps 53 = .ok (.sipush 135, 3) := by decide +kernel
theorem dX8_keeps_56 : decode cX8_keeps 56 = .ok (.if_icmp .ge 30, 3) := by decide +kernel
theorem dX8_keeps_59 : decode cX8_keeps 59 = .ok (.aload_n 0, 1) := by decide +kernel
theorem dX8_keeps_60 : decode cX8_keeps 60 = .ok (.getfield 13, 3) := by decide +kernel
theorem dX8_keeps_63 : decode cX8_keeps 63 = .ok (.sipush 135, 3) := by decide +kernel
theorem dX8_keeps_66 : decode cX8_keeps 66 = .ok (.aload_n 0, 1) := by decide +kernel
theorem dX8_keeps_67 : decode cX8_keeps 67 = .ok (.getfield 56, 3) := by decide +kernel
theorem dX8_keeps_70 : decode cX8_keeps 70 = .ok (.imul, 1) := by decide +kernel
theorem dX8_keeps_71 : decode cX8_keeps 71 = .ok (.iload_n 1, 1) := by decide +kernel
theorem dX8_keeps_72 : decode cX8_keeps 72 = .ok (.iadd, 1) := by decide +kernel
theorem dX8_keeps_73 : decode cX8_keeps 73 = .ok (.aload_n 0, 1) := by decide +kernel
theorem dX8_keeps_74 : decode cX8_keeps 74 = .ok (.getfield 7, 3) := by decide +kernel
theorem dX8_keeps_77 : decode cX8_keeps 77 = .ok (.iload_n 1, 1) := by decide +kernel
theorem dX8_keeps_78 : decode cX8_keeps 78 = .ok (.iaload, 1) := by decide +kernel
theorem dX8_keeps_79 : decode cX8_keeps 79 = .ok (.iastore, 1) := by decide +kernel
theorem dX8_keeps_80 : decode cX8_keeps 80 = .ok (.iinc 1 1, 3) := by decide +kernel
theorem dX8_keeps_83 : decode cX8_keeps 83 = .ok (.goto (-31), 3) := by decide +kernel
theorem dX8_keeps_86 : decode cX8_keeps 86 = .ok (.aload_n 0, 1) := by decide +kernel
theorem dX8_keeps_87 : decode cX8_keeps 87 = .ok (.dup, 1) := by decide +kernel
theorem dX8_keeps_88 : decode cX8_keeps 88 = .ok (.getfield 56, 3) := by decide +kernel
theorem dX8_keeps_91 : decode cX8_keeps 91 = .ok (.iconst 1, 1) := by decide +kernel
theorem dX8_keeps_92 : decode cX8_keeps 92 = .ok (.iadd, 1) := by decide +kernel
theorem dX8_keeps_93 : decode cX8_keeps 93 = .ok (.putfield 56, 3) := by decide +kernel
theorem dX8_keeps_96 : decode cX8_keeps 96 = .ok (.return_, 1) := by decide +kernel
theorem dX8_isFlow_0 : decode cX8_isFlow 0 = .ok (.iload_n 0, 1) := by decide +kernel
theorem dX8_isFlow_1 : decode cX8_isFlow 1 = .ok (.iconst 0, 1) := by decide +kernel
theorem dX8_isFlow_2 : decode cX8_isFlow 2 = .ok (.iconst 5, 1) := by decide +kernel
theorem dX8_isFlow_3 : decode cX8_isFlow 3 = .ok (.invokestatic 59, 3) := by decide +kernel
theorem dX8_isFlow_6 : decode cX8_isFlow 6 = .ok (.ireturn, 1) := by decide +kernel
theorem dX8_isPacket_0 : decode cX8_isPacket 0 = .ok (.iload_n 1, 1) := by decide +kernel
theorem dX8_isPacket_1 : decode cX8_isPacket 1 = .ok (.iconst 0, 1) := by decide +kernel
theorem dX8_isPacket_2 : decode cX8_isPacket 2 = .ok (.aload_n 0, 1) := by decide +kernel
theorem dX8_isPacket_3 : decode cX8_isPacket 3 = .ok (.getfield 7, 3) := by decide +kernel
theorem dX8_isPacket_6 : decode cX8_isPacket 6 = .ok (.iconst 0, 1) := by decide +kernel
theorem dX8_isPacket_7 : decode cX8_isPacket 7 = .ok (.iaload, 1) := by decide +kernel
theorem dX8_isPacket_8 : decode cX8_isPacket 8 = .ok (.iconst 1, 1) := by decide +kernel
theorem dX8_isPacket_9 : decode cX8_isPacket 9 = .ok (.isub, 1) := by decide +kernel
theorem dX8_isPacket_10 : decode cX8_isPacket 10 = .ok (.invokestatic 59, 3) := by decide +kernel
theorem dX8_isPacket_13 : decode cX8_isPacket 13 = .ok (.ireturn, 1) := by decide +kernel
theorem dX8_of_0 : decode cX8_of 0 = .ok (.aload_n 0, 1) := by decide +kernel
theorem dX8_of_1 : decode cX8_of 1 = .ok (.getfield 7, 3) := by decide +kernel
theorem dX8_of_4 : decode cX8_of 4 = .ok (.iconst 1, 1) := by decide +kernel
theorem dX8_of_5 : decode cX8_of 5 = .ok (.iconst 3, 1) := by decide +kernel
theorem dX8_of_6 : decode cX8_of 6 = .ok (.iload_n 1, 1) := by decide +kernel
theorem dX8_of_7 : decode cX8_of 7 = .ok (.imul, 1) := by decide +kernel
theorem dX8_of_8 : decode cX8_of 8 = .ok (.iadd, 1) := by decide +kernel
theorem dX8_of_9 : decode cX8_of 9 = .ok (.iload_n 2, 1) := by decide +kernel
theorem dX8_of_10 : decode cX8_of 10 = .ok (.iadd, 1) := by decide +kernel
theorem dX8_of_11 : decode cX8_of 11 = .ok (.iaload, 1) := by decide +kernel
theorem dX8_of_12 : decode cX8_of 12 = .ok (.ireturn, 1) := by decide +kernel
theorem dX8_noRecord_0 : decode cX8_noRecord 0 = .ok (.iload_n 2, 1) := by decide +kernel
theorem dX8_noRecord_1 : decode cX8_noRecord 1 = .ok (.invokestatic 63, 3) := by decide +kernel
theorem dX8_noRecord_4 : decode cX8_noRecord 4 = .ok (.ifCond .ne 7, 3) := by decide +kernel
theorem dX8_noRecord_7 : decode cX8_noRecord 7 = .ok (.iconst 1, 1) := by decide +kernel
theorem dX8_noRecord_8 : decode cX8_noRecord 8 = .ok (.goto 44, 3) := by decide +kernel
theorem dX8_noRecord_11 : decode cX8_noRecord 11 = .ok (.iload_n 1, 1) := by decide +kernel
theorem dX8_noRecord_12 : decode cX8_noRecord 12 = .ok (.iconst 0, 1) := by decide +kernel
theorem dX8_noRecord_13 : decode cX8_noRecord 13 = .ok (.sipush 500, 3) := by decide +kernel
theorem dX8_noRecord_16 : decode cX8_noRecord 16 = .ok (.invokestatic 59, 3) := by decide +kernel
theorem dX8_noRecord_19 : decode cX8_noRecord 19 = .ok (.ifCond .eq 13, 3) := by decide +kernel
theorem dX8_noRecord_22 : decode cX8_noRecord 22 = .ok (.iload_n 3, 1) := by decide +kernel
theorem dX8_noRecord_23 : decode cX8_noRecord 23 = .ok (.iconst 1, 1) := by decide +kernel
theorem dX8_noRecord_24 : decode cX8_noRecord 24 = .ok (.bipush 100, 2) := by decide +kernel
theorem dX8_noRecord_26 : decode cX8_noRecord 26 = .ok (.invokestatic 59, 3) := by decide +kernel
theorem dX8_noRecord_29 : decode cX8_noRecord 29 = .ok (.ifCond .ne 7, 3) := by decide +kernel
theorem dX8_noRecord_32 : decode cX8_noRecord 32 = .ok (.iconst 2, 1) := by decide +kernel
theorem dX8_noRecord_33 : decode cX8_noRecord 33 = .ok (.goto 19, 3) := by decide +kernel
theorem dX8_noRecord_36 : decode cX8_noRecord 36 = .ok (.aload_n 0, 1) := by decide +kernel
theorem dX8_noRecord_37 : decode cX8_noRecord 37 = .ok (.getfield 7, 3) := by decide +kernel
theorem dX8_noRecord_40 : decode cX8_noRecord 40 = .ok (.iconst 0, 1) := by decide +kernel
theorem dX8_noRecord_41 : decode cX8_noRecord 41 = .ok (.iaload, 1) := by decide +kernel
theorem dX8_noRecord_42 : decode cX8_noRecord 42 = .ok (.bipush 40, 2) := by decide +kernel
theorem dX8_noRecord_44 : decode cX8_noRecord 44 = .ok (.if_icmp .ne 7, 3) := by decide +kernel
theorem dX8_noRecord_47 : decode cX8_noRecord 47 = .ok (.iconst 3, 1) := by decide +kernel
theorem dX8_noRecord_48 : decode cX8_noRecord 48 = .ok (.goto 4, 3) := by decide +kernel
theorem dX8_noRecord_51 : decode cX8_noRecord 51 = .ok (.iconst 0, 1) := by decide +kernel
theorem dX8_noRecord_52 : decode cX8_noRecord 52 = .ok (.ireturn, 1) := by decide +kernel
theorem dX8_records_0 : decode cX8_records 0 = .ok (.aload_n 0, 1) := by decide +kernel
theorem dX8_records_1 : decode cX8_records 1 = .ok (.getfield 7, 3) := by decide +kernel
theorem dX8_records_4 : decode cX8_records 4 = .ok (.iconst 0, 1) := by decide +kernel
theorem dX8_records_5 : decode cX8_records 5 = .ok (.iaload, 1) := by decide +kernel
theorem dX8_records_6 : decode cX8_records 6 = .ok (.istore 4, 2) := by decide +kernel
theorem dX8_records_8 : decode cX8_records 8 = .ok (.iload 4, 2) := by decide +kernel
theorem dX8_records_10 : decode cX8_records 10 = .ok (.ifCond .le 61, 3) := by decide +kernel
theorem dX8_records_13 : decode cX8_records 13 = .ok (.aload_n 0, 1) := by decide +kernel
theorem dX8_records_14 : decode cX8_records 14 = .ok (.iload 4, 2) := by decide +kernel
theorem dX8_records_16 : decode cX8_records 16 = .ok (.iconst 1, 1) := by decide +kernel
theorem dX8_records_17 : decode cX8_records 17 = .ok (.isub, 1) := by decide +kernel
theorem dX8_records_18 : decode cX8_records 18 = .ok (.iconst 0, 1) := by decide +kernel
theorem dX8_records_19 : decode cX8_records 19 = .ok (.invokevirtual 67, 3) := by decide +kernel
theorem dX8_records_22 : decode cX8_records 22 = .ok (.iload_n 1, 1) := by decide +kernel
theorem dX8_records_23 : decode cX8_records 23 = .ok (.if_icmp .le 48, 3) := by decide +kernel
theorem dX8_records_26 : decode cX8_records 26 = .ok (.iconst 0, 1) := by decide +kernel
theorem dX8_records_27 : decode cX8_records 27 = .ok (.istore 5, 2) := by decide +kernel
theorem dX8_records_29 : decode cX8_records 29 = .ok (.iload 5, 2) := by decide +kernel
theorem dX8_records_31 : decode cX8_records 31 = .ok (.iconst 3, 1) := by decide +kernel
theorem dX8_records_32 : decode cX8_records 32 = .ok (.if_icmp .ge 33, 3) := by decide +kernel
theorem dX8_records_35 : decode cX8_records 35 = .ok (.aload_n 0, 1) := by decide +kernel
theorem dX8_records_36 : decode cX8_records 36 = .ok (.getfield 7, 3) := by decide +kernel
theorem dX8_records_39 : decode cX8_records 39 = .ok (.iconst 1, 1) := by decide +kernel
theorem dX8_records_40 : decode cX8_records 40 = .ok (.iconst 3, 1) := by decide +kernel
theorem dX8_records_41 : decode cX8_records 41 = .ok (.iload 4, 2) := by decide +kernel
theorem dX8_records_43 : decode cX8_records 43 = .ok (.imul, 1) := by decide +kernel
theorem dX8_records_44 : decode cX8_records 44 = .ok (.iadd, 1) := by decide +kernel
theorem dX8_records_45 : decode cX8_records 45 = .ok (.iload 5, 2) := by decide +kernel
theorem dX8_records_47 : decode cX8_records 47 = .ok (.iadd, 1) := by decide +kernel
theorem dX8_records_48 : decode cX8_records 48 = .ok (.aload_n 0, 1) := by decide +kernel
theorem dX8_records_49 : decode cX8_records 49 = .ok (.iload 4, 2) := by decide +kernel
theorem dX8_records_51 : decode cX8_records 51 = .ok (.iconst 1, 1) := by decide +kernel
theorem dX8_records_52 : decode cX8_records 52 = .ok (.isub, 1) := by decide +kernel
theorem dX8_records_53 : decode cX8_records 53 = .ok (.iload 5, 2) := by decide +kernel
theorem dX8_records_55 : decode cX8_records 55 = .ok (.invokevirtual 67, 3) := by decide +kernel
theorem dX8_records_58 : decode cX8_records 58 = .ok (.iastore, 1) := by decide +kernel
theorem dX8_records_59 : decode cX8_records 59 = .ok (.iinc 5 1, 3) := by decide +kernel
theorem dX8_records_62 : decode cX8_records 62 = .ok (.goto (-33), 3) := by decide +kernel
theorem dX8_records_65 : decode cX8_records 65 = .ok (.iinc 4 (-1), 3) := by decide +kernel
theorem dX8_records_68 : decode cX8_records 68 = .ok (.goto (-60), 3) := by decide +kernel
theorem dX8_records_71 : decode cX8_records 71 = .ok (.aload_n 0, 1) := by decide +kernel
theorem dX8_records_72 : decode cX8_records 72 = .ok (.getfield 7, 3) := by decide +kernel
theorem dX8_records_75 : decode cX8_records 75 = .ok (.iconst 1, 1) := by decide +kernel
theorem dX8_records_76 : decode cX8_records 76 = .ok (.iconst 3, 1) := by decide +kernel
theorem dX8_records_77 : decode cX8_records 77 = .ok (.iload 4, 2) := by decide +kernel
theorem dX8_records_79 : decode cX8_records 79 = .ok (.imul, 1) := by decide +kernel
theorem dX8_records_80 : decode cX8_records 80 = .ok (.iadd, 1) := by decide +kernel
theorem dX8_records_81 : decode cX8_records 81 = .ok (.iload_n 1, 1) := by decide +kernel
theorem dX8_records_82 : decode cX8_records 82 = .ok (.iastore, 1) := by decide +kernel
theorem dX8_records_83 : decode cX8_records 83 = .ok (.aload_n 0, 1) := by decide +kernel
theorem dX8_records_84 : decode cX8_records 84 = .ok (.getfield 7, 3) := by decide +kernel
theorem dX8_records_87 : decode cX8_records 87 = .ok (.iconst 1, 1) := by decide +kernel
theorem dX8_records_88 : decode cX8_records 88 = .ok (.iconst 3, 1) := by decide +kernel
theorem dX8_records_89 : decode cX8_records 89 = .ok (.iload 4, 2) := by decide +kernel
theorem dX8_records_91 : decode cX8_records 91 = .ok (.imul, 1) := by decide +kernel
theorem dX8_records_92 : decode cX8_records 92 = .ok (.iadd, 1) := by decide +kernel
theorem dX8_records_93 : decode cX8_records 93 = .ok (.iconst 1, 1) := by decide +kernel
theorem dX8_records_94 : decode cX8_records 94 = .ok (.iadd, 1) := by decide +kernel
theorem dX8_records_95 : decode cX8_records 95 = .ok (.iload_n 2, 1) := by decide +kernel
theorem dX8_records_96 : decode cX8_records 96 = .ok (.iastore, 1) := by decide +kernel
theorem dX8_records_97 : decode cX8_records 97 = .ok (.aload_n 0, 1) := by decide +kernel
theorem dX8_records_98 : decode cX8_records 98 = .ok (.getfield 7, 3) := by decide +kernel
theorem dX8_records_101 : decode cX8_records 101 = .ok (.iconst 1, 1) := by decide +kernel
theorem dX8_records_102 : decode cX8_records 102 = .ok (.iconst 3, 1) := by decide +kernel
theorem dX8_records_103 : decode cX8_records 103 = .ok (.iload 4, 2) := by decide +kernel
theorem dX8_records_105 : decode cX8_records 105 = .ok (.imul, 1) := by decide +kernel
theorem dX8_records_106 : decode cX8_records 106 = .ok (.iadd, 1) := by decide +kernel
theorem dX8_records_107 : decode cX8_records 107 = .ok (.iconst 2, 1) := by decide +kernel
theorem dX8_records_108 : decode cX8_records 108 = .ok (.iadd, 1) := by decide +kernel
theorem dX8_records_109 : decode cX8_records 109 = .ok (.iload_n 3, 1) := by decide +kernel
theorem dX8_records_110 : decode cX8_records 110 = .ok (.iastore, 1) := by decide +kernel
theorem dX8_records_111 : decode cX8_records 111 = .ok (.aload_n 0, 1) := by decide +kernel
theorem dX8_records_112 : decode cX8_records 112 = .ok (.getfield 7, 3) := by decide +kernel
theorem dX8_records_115 : decode cX8_records 115 = .ok (.iconst 0, 1) := by decide +kernel
theorem dX8_records_116 : decode cX8_records 116 = .ok (.dup2, 1) := by decide +kernel
theorem dX8_records_117 : decode cX8_records 117 = .ok (.iaload, 1) := by decide +kernel
theorem dX8_records_118 : decode cX8_records 118 = .ok (.iconst 1, 1) := by decide +kernel
theorem dX8_records_119 : decode cX8_records 119 = .ok (.iadd, 1) := by decide +kernel
theorem dX8_records_120 : decode cX8_records 120 = .ok (.iastore, 1) := by decide +kernel
theorem dX8_records_121 : decode cX8_records 121 = .ok (.iload 4, 2) := by decide +kernel
theorem dX8_records_123 : decode cX8_records 123 = .ok (.ireturn, 1) := by decide +kernel
theorem dX8_record_0 : decode cX8_record 0 = .ok (.aload_n 0, 1) := by decide +kernel
theorem dX8_record_1 : decode cX8_record 1 = .ok (.aload_n 0, 1) := by decide +kernel
theorem dX8_record_2 : decode cX8_record 2 = .ok (.iload_n 1, 1) := by decide +kernel
theorem dX8_record_3 : decode cX8_record 3 = .ok (.iload_n 2, 1) := by decide +kernel
theorem dX8_record_4 : decode cX8_record 4 = .ok (.iload_n 3, 1) := by decide +kernel
theorem dX8_record_5 : decode cX8_record 5 = .ok (.invokevirtual 71, 3) := by decide +kernel
theorem dX8_record_8 : decode cX8_record 8 = .ok (.invokevirtual 75, 3) := by decide +kernel
theorem dX8_record_11 : decode cX8_record 11 = .ok (.ifCond .eq 5, 3) := by decide +kernel
theorem dX8_record_14 : decode cX8_record 14 = .ok (.iconst 0, 1) := by decide +kernel
theorem dX8_record_15 : decode cX8_record 15 = .ok (.ireturn, 1) := by decide +kernel
theorem dX8_record_16 : decode cX8_record 16 = .ok (.aload_n 0, 1) := by decide +kernel
theorem dX8_record_17 : decode cX8_record 17 = .ok (.invokevirtual 78, 3) := by decide +kernel
theorem dX8_record_20 : decode cX8_record 20 = .ok (.aload_n 0, 1) := by decide +kernel
theorem dX8_record_21 : decode cX8_record 21 = .ok (.iload_n 1, 1) := by decide +kernel
theorem dX8_record_22 : decode cX8_record 22 = .ok (.iload_n 2, 1) := by decide +kernel
theorem dX8_record_23 : decode cX8_record 23 = .ok (.iload_n 3, 1) := by decide +kernel
theorem dX8_record_24 : decode cX8_record 24 = .ok (.invokevirtual 81, 3) := by decide +kernel
theorem dX8_record_27 : decode cX8_record 27 = .ok (.ireturn, 1) := by decide +kernel
theorem dX8_erase_0 : decode cX8_erase 0 = .ok (.aload_n 0, 1) := by decide +kernel
theorem dX8_erase_1 : decode cX8_erase 1 = .ok (.aload_n 0, 1) := by decide +kernel
theorem dX8_erase_2 : decode cX8_erase 2 = .ok (.iload_n 1, 1) := by decide +kernel
theorem dX8_erase_3 : decode cX8_erase 3 = .ok (.invokevirtual 84, 3) := by decide +kernel
theorem dX8_erase_6 : decode cX8_erase 6 = .ok (.ifCond .eq 7, 3) := by decide +kernel
theorem dX8_erase_9 : decode cX8_erase 9 = .ok (.iconst 0, 1) := by decide +kernel
theorem dX8_erase_10 : decode cX8_erase 10 = .ok (.goto 4, 3) := by decide +kernel
theorem dX8_erase_13 : decode cX8_erase 13 = .ok (.iconst 1, 1) := by decide +kernel
theorem dX8_erase_14 : decode cX8_erase 14 = .ok (.invokevirtual 75, 3) := by decide +kernel
theorem dX8_erase_17 : decode cX8_erase 17 = .ok (.ifCond .eq 5, 3) := by decide +kernel
theorem dX8_erase_20 : decode cX8_erase 20 = .ok (.iconst 0, 1) := by decide +kernel
theorem dX8_erase_21 : decode cX8_erase 21 = .ok (.ireturn, 1) := by decide +kernel
theorem dX8_erase_22 : decode cX8_erase 22 = .ok (.aload_n 0, 1) := by decide +kernel
theorem dX8_erase_23 : decode cX8_erase 23 = .ok (.invokevirtual 78, 3) := by decide +kernel
theorem dX8_erase_26 : decode cX8_erase 26 = .ok (.aload_n 0, 1) := by decide +kernel
theorem dX8_erase_27 : decode cX8_erase 27 = .ok (.getfield 7, 3) := by decide +kernel
theorem dX8_erase_30 : decode cX8_erase 30 = .ok (.iconst 0, 1) := by decide +kernel
theorem dX8_erase_31 : decode cX8_erase 31 = .ok (.dup2, 1) := by decide +kernel
theorem dX8_erase_32 : decode cX8_erase 32 = .ok (.iaload, 1) := by decide +kernel
theorem dX8_erase_33 : decode cX8_erase 33 = .ok (.iconst 1, 1) := by decide +kernel
theorem dX8_erase_34 : decode cX8_erase 34 = .ok (.isub, 1) := by decide +kernel
theorem dX8_erase_35 : decode cX8_erase 35 = .ok (.iastore, 1) := by decide +kernel
theorem dX8_erase_36 : decode cX8_erase 36 = .ok (.iconst 1, 1) := by decide +kernel
theorem dX8_erase_37 : decode cX8_erase 37 = .ok (.iconst 3, 1) := by decide +kernel
theorem dX8_erase_38 : decode cX8_erase 38 = .ok (.iload_n 1, 1) := by decide +kernel
theorem dX8_erase_39 : decode cX8_erase 39 = .ok (.imul, 1) := by decide +kernel
theorem dX8_erase_40 : decode cX8_erase 40 = .ok (.iadd, 1) := by decide +kernel
theorem dX8_erase_41 : decode cX8_erase 41 = .ok (.istore_n 2, 1) := by decide +kernel
theorem dX8_erase_42 : decode cX8_erase 42 = .ok (.iload_n 2, 1) := by decide +kernel
theorem dX8_erase_43 : decode cX8_erase 43 = .ok (.iconst 1, 1) := by decide +kernel
theorem dX8_erase_44 : decode cX8_erase 44 = .ok (.iconst 3, 1) := by decide +kernel
theorem dX8_erase_45 : decode cX8_erase 45 = .ok (.aload_n 0, 1) := by decide +kernel
theorem dX8_erase_46 : decode cX8_erase 46 = .ok (.getfield 7, 3) := by decide +kernel
theorem dX8_erase_49 : decode cX8_erase 49 = .ok (.iconst 0, 1) := by decide +kernel
theorem dX8_erase_50 : decode cX8_erase 50 = .ok (.iaload, 1) := by decide +kernel
theorem dX8_erase_51 : decode cX8_erase 51 = .ok (.imul, 1) := by decide +kernel
theorem dX8_erase_52 : decode cX8_erase 52 = .ok (.iadd, 1) := by decide +kernel
theorem dX8_erase_53 : decode cX8_erase 53 = .ok (.if_icmp .ge 23, 3) := by decide +kernel
theorem dX8_erase_56 : decode cX8_erase 56 = .ok (.aload_n 0, 1) := by decide +kernel
theorem dX8_erase_57 : decode cX8_erase 57 = .ok (.getfield 7, 3) := by decide +kernel
theorem dX8_erase_60 : decode cX8_erase 60 = .ok (.iload_n 2, 1) := by decide +kernel
theorem dX8_erase_61 : decode cX8_erase 61 = .ok (.aload_n 0, 1) := by decide +kernel
theorem dX8_erase_62 : decode cX8_erase 62 = .ok (.getfield 7, 3) := by decide +kernel
theorem dX8_erase_65 : decode cX8_erase 65 = .ok (.iload_n 2, 1) := by decide +kernel
theorem dX8_erase_66 : decode cX8_erase 66 = .ok (.iconst 3, 1) := by decide +kernel
theorem dX8_erase_67 : decode cX8_erase 67 = .ok (.iadd, 1) := by decide +kernel
theorem dX8_erase_68 : decode cX8_erase 68 = .ok (.iaload, 1) := by decide +kernel
theorem dX8_erase_69 : decode cX8_erase 69 = .ok (.iastore, 1) := by decide +kernel
theorem dX8_erase_70 : decode cX8_erase 70 = .ok (.iinc 2 1, 3) := by decide +kernel
theorem dX8_erase_73 : decode cX8_erase 73 = .ok (.goto (-31), 3) := by decide +kernel
theorem dX8_erase_76 : decode cX8_erase 76 = .ok (.aload_n 0, 1) := by decide +kernel
theorem dX8_erase_77 : decode cX8_erase 77 = .ok (.getfield 7, 3) := by decide +kernel
theorem dX8_erase_80 : decode cX8_erase 80 = .ok (.iconst 0, 1) := by decide +kernel
theorem dX8_erase_81 : decode cX8_erase 81 = .ok (.iaload, 1) := by decide +kernel
theorem dX8_erase_82 : decode cX8_erase 82 = .ok (.ireturn, 1) := by decide +kernel
theorem dX8_packets_0 : decode cX8_packets 0 = .ok (.aload_n 0, 1) := by decide +kernel
theorem dX8_packets_1 : decode cX8_packets 1 = .ok (.iconst 0, 1) := by decide +kernel
theorem dX8_packets_2 : decode cX8_packets 2 = .ok (.putfield 52, 3) := by decide +kernel
theorem dX8_packets_5 : decode cX8_packets 5 = .ok (.aload_n 0, 1) := by decide +kernel
theorem dX8_packets_6 : decode cX8_packets 6 = .ok (.getfield 7, 3) := by decide +kernel
theorem dX8_packets_9 : decode cX8_packets 9 = .ok (.iconst 0, 1) := by decide +kernel
theorem dX8_packets_10 : decode cX8_packets 10 = .ok (.iaload, 1) := by decide +kernel
theorem dX8_packets_11 : decode cX8_packets 11 = .ok (.ireturn, 1) := by decide +kernel
theorem dX8_packet_0 : decode cX8_packet 0 = .ok (.aload_n 0, 1) := by decide +kernel
theorem dX8_packet_1 : decode cX8_packet 1 = .ok (.aload_n 0, 1) := by decide +kernel
theorem dX8_packet_2 : decode cX8_packet 2 = .ok (.iload_n 1, 1) := by decide +kernel
theorem dX8_packet_3 : decode cX8_packet 3 = .ok (.invokevirtual 84, 3) := by decide +kernel
theorem dX8_packet_6 : decode cX8_packet 6 = .ok (.ifCond .ne 7, 3) := by decide +kernel
theorem dX8_packet_9 : decode cX8_packet 9 = .ok (.iconst 1, 1) := by decide +kernel
theorem dX8_packet_10 : decode cX8_packet 10 = .ok (.goto 17, 3) := by decide +kernel
theorem dX8_packet_13 : decode cX8_packet 13 = .ok (.iload_n 2, 1) := by decide +kernel
theorem dX8_packet_14 : decode cX8_packet 14 = .ok (.iconst 0, 1) := by decide +kernel
theorem dX8_packet_15 : decode cX8_packet 15 = .ok (.iconst 2, 1) := by decide +kernel
theorem dX8_packet_16 : decode cX8_packet 16 = .ok (.invokestatic 59, 3) := by decide +kernel
theorem dX8_packet_19 : decode cX8_packet 19 = .ok (.ifCond .eq 7, 3) := by decide +kernel
theorem dX8_packet_22 : decode cX8_packet 22 = .ok (.iconst 0, 1) := by decide +kernel
theorem dX8_packet_23 : decode cX8_packet 23 = .ok (.goto 4, 3) := by decide +kernel
theorem dX8_packet_26 : decode cX8_packet 26 = .ok (.iconst 2, 1) := by decide +kernel
theorem dX8_packet_27 : decode cX8_packet 27 = .ok (.invokevirtual 75, 3) := by decide +kernel
theorem dX8_packet_30 : decode cX8_packet 30 = .ok (.ifCond .eq 7, 3) := by decide +kernel
theorem dX8_packet_33 : decode cX8_packet 33 = .ok (.iconst 0, 1) := by decide +kernel
theorem dX8_packet_34 : decode cX8_packet 34 = .ok (.goto 9, 3) := by decide +kernel
theorem dX8_packet_37 : decode cX8_packet 37 = .ok (.aload_n 0, 1) := by decide +kernel
theorem dX8_packet_38 : decode cX8_packet 38 = .ok (.iload_n 1, 1) := by decide +kernel
theorem dX8_packet_39 : decode cX8_packet 39 = .ok (.iload_n 2, 1) := by decide +kernel
theorem dX8_packet_40 : decode cX8_packet 40 = .ok (.invokevirtual 67, 3) := by decide +kernel
theorem dX8_packet_43 : decode cX8_packet 43 = .ok (.ireturn, 1) := by decide +kernel
theorem dX8_least_0 : decode cX8_least 0 = .ok (.iload_n 0, 1) := by decide +kernel
theorem dX8_least_1 : decode cX8_least 1 = .ok (.bipush 121, 2) := by decide +kernel
theorem dX8_least_3 : decode cX8_least 3 = .ok (.if_icmp .eq 15, 3) := by decide +kernel
theorem dX8_least_6 : decode cX8_least 6 = .ok (.iload_n 0, 1) := by decide +kernel
theorem dX8_least_7 : decode cX8_least 7 = .ok (.bipush 122, 2) := by decide +kernel
theorem dX8_least_9 : decode cX8_least 9 = .ok (.if_icmp .eq 9, 3) := by decide +kernel
theorem dX8_least_12 : decode cX8_least 12 = .ok (.iload_n 0, 1) := by decide +kernel
theorem dX8_least_13 : decode cX8_least 13 = .ok (.bipush 125, 2) := by decide +kernel
theorem dX8_least_15 : decode cX8_least 15 = .ok (.if_icmp .ne 7, 3) := by decide +kernel
theorem dX8_least_18 : decode cX8_least 18 = .ok (.iconst 1, 1) := by decide +kernel
theorem dX8_least_19 : decode cX8_least 19 = .ok (.goto 14, 3) := by decide +kernel
theorem dX8_least_22 : decode cX8_least 22 = .ok (.iload_n 0, 1) := by decide +kernel
theorem dX8_least_23 : decode cX8_least 23 = .ok (.bipush 127, 2) := by decide +kernel
theorem dX8_least_25 : decode cX8_least 25 = .ok (.if_icmp .ne 7, 3) := by decide +kernel
theorem dX8_least_28 : decode cX8_least 28 = .ok (.iconst 2, 1) := by decide +kernel
theorem dX8_least_29 : decode cX8_least 29 = .ok (.goto 4, 3) := by decide +kernel
theorem dX8_least_32 : decode cX8_least 32 = .ok (.iconst 0, 1) := by decide +kernel
theorem dX8_least_33 : decode cX8_least 33 = .ok (.ireturn, 1) := by decide +kernel
theorem dX8_greatest_0 : decode cX8_greatest 0 = .ok (.iload_n 0, 1) := by decide +kernel
theorem dX8_greatest_1 : decode cX8_greatest 1 = .ok (.tableswitch 58 121 127 #[43, 47, 50, 58, 52, 43, 55], 43) := by decide +kernel
theorem dX8_greatest_44 : decode cX8_greatest 44 = .ok (.sipush 1000, 3) := by decide +kernel
theorem dX8_greatest_47 : decode cX8_greatest 47 = .ok (.ireturn, 1) := by decide +kernel
theorem dX8_greatest_48 : decode cX8_greatest 48 = .ok (.bipush 100, 2) := by decide +kernel
theorem dX8_greatest_50 : decode cX8_greatest 50 = .ok (.ireturn, 1) := by decide +kernel
theorem dX8_greatest_51 : decode cX8_greatest 51 = .ok (.iconst 4, 1) := by decide +kernel
theorem dX8_greatest_52 : decode cX8_greatest 52 = .ok (.ireturn, 1) := by decide +kernel
theorem dX8_greatest_53 : decode cX8_greatest 53 = .ok (.bipush 16, 2) := by decide +kernel
theorem dX8_greatest_55 : decode cX8_greatest 55 = .ok (.ireturn, 1) := by decide +kernel
theorem dX8_greatest_56 : decode cX8_greatest 56 = .ok (.bipush 9, 2) := by decide +kernel
theorem dX8_greatest_58 : decode cX8_greatest 58 = .ok (.ireturn, 1) := by decide +kernel
theorem dX8_greatest_59 : decode cX8_greatest 59 = .ok (.iconst 2, 1) := by decide +kernel
theorem dX8_greatest_60 : decode cX8_greatest 60 = .ok (.ireturn, 1) := by decide +kernel
theorem dX8_fits_0 : decode cX8_fits 0 = .ok (.iload_n 1, 1) := by decide +kernel
theorem dX8_fits_1 : decode cX8_fits 1 = .ok (.iload_n 0, 1) := by decide +kernel
theorem dX8_fits_2 : decode cX8_fits 2 = .ok (.invokestatic 87, 3) := by decide +kernel
theorem dX8_fits_5 : decode cX8_fits 5 = .ok (.iload_n 0, 1) := by decide +kernel
theorem dX8_fits_6 : decode cX8_fits 6 = .ok (.invokestatic 91, 3) := by decide +kernel
theorem dX8_fits_9 : decode cX8_fits 9 = .ok (.invokestatic 59, 3) := by decide +kernel
theorem dX8_fits_12 : decode cX8_fits 12 = .ok (.ireturn, 1) := by decide +kernel
theorem dX8_becomes_0 : decode cX8_becomes 0 = .ok (.aload_n 0, 1) := by decide +kernel
theorem dX8_becomes_1 : decode cX8_becomes 1 = .ok (.getfield 7, 3) := by decide +kernel
theorem dX8_becomes_4 : decode cX8_becomes 4 = .ok (.iload_n 1, 1) := by decide +kernel
theorem dX8_becomes_5 : decode cX8_becomes 5 = .ok (.iaload, 1) := by decide +kernel
theorem dX8_becomes_6 : decode cX8_becomes 6 = .ok (.istore_n 3, 1) := by decide +kernel
theorem dX8_becomes_7 : decode cX8_becomes 7 = .ok (.aload_n 0, 1) := by decide +kernel
theorem dX8_becomes_8 : decode cX8_becomes 8 = .ok (.getfield 7, 3) := by decide +kernel
theorem dX8_becomes_11 : decode cX8_becomes 11 = .ok (.iload_n 1, 1) := by decide +kernel
theorem dX8_becomes_12 : decode cX8_becomes 12 = .ok (.iload_n 2, 1) := by decide +kernel
theorem dX8_becomes_13 : decode cX8_becomes 13 = .ok (.iastore, 1) := by decide +kernel
theorem dX8_becomes_14 : decode cX8_becomes 14 = .ok (.iload_n 3, 1) := by decide +kernel
theorem dX8_becomes_15 : decode cX8_becomes 15 = .ok (.ireturn, 1) := by decide +kernel
theorem dX8_sets_0 : decode cX8_sets 0 = .ok (.aload_n 0, 1) := by decide +kernel
theorem dX8_sets_1 : decode cX8_sets 1 = .ok (.iload_n 1, 1) := by decide +kernel
theorem dX8_sets_2 : decode cX8_sets 2 = .ok (.iload_n 2, 1) := by decide +kernel
theorem dX8_sets_3 : decode cX8_sets 3 = .ok (.invokestatic 94, 3) := by decide +kernel
theorem dX8_sets_6 : decode cX8_sets 6 = .ok (.ifCond .eq 7, 3) := by decide +kernel
theorem dX8_sets_9 : decode cX8_sets 9 = .ok (.iconst 0, 1) := by decide +kernel
theorem dX8_sets_10 : decode cX8_sets 10 = .ok (.goto 4, 3) := by decide +kernel
theorem dX8_sets_13 : decode cX8_sets 13 = .ok (.iconst 1, 1) := by decide +kernel
theorem dX8_sets_14 : decode cX8_sets 14 = .ok (.invokevirtual 75, 3) := by decide +kernel
theorem dX8_sets_17 : decode cX8_sets 17 = .ok (.ifCond .eq 5, 3) := by decide +kernel
theorem dX8_sets_20 : decode cX8_sets 20 = .ok (.iconst 0, 1) := by decide +kernel
theorem dX8_sets_21 : decode cX8_sets 21 = .ok (.ireturn, 1) := by decide +kernel
theorem dX8_sets_22 : decode cX8_sets 22 = .ok (.aload_n 0, 1) := by decide +kernel
theorem dX8_sets_23 : decode cX8_sets 23 = .ok (.invokevirtual 78, 3) := by decide +kernel
theorem dX8_sets_26 : decode cX8_sets 26 = .ok (.aload_n 0, 1) := by decide +kernel
theorem dX8_sets_27 : decode cX8_sets 27 = .ok (.iload_n 1, 1) := by decide +kernel
theorem dX8_sets_28 : decode cX8_sets 28 = .ok (.iload_n 2, 1) := by decide +kernel
theorem dX8_sets_29 : decode cX8_sets 29 = .ok (.invokevirtual 98, 3) := by decide +kernel
theorem dX8_sets_32 : decode cX8_sets 32 = .ok (.ireturn, 1) := by decide +kernel
theorem dX8_setCapacity_0 : decode cX8_setCapacity 0 = .ok (.aload_n 0, 1) := by decide +kernel
theorem dX8_setCapacity_1 : decode cX8_setCapacity 1 = .ok (.bipush 121, 2) := by decide +kernel
theorem dX8_setCapacity_3 : decode cX8_setCapacity 3 = .ok (.iload_n 1, 1) := by decide +kernel
theorem dX8_setCapacity_4 : decode cX8_setCapacity 4 = .ok (.invokevirtual 101, 3) := by decide +kernel
theorem dX8_setCapacity_7 : decode cX8_setCapacity 7 = .ok (.ireturn, 1) := by decide +kernel
theorem dX8_setRate_0 : decode cX8_setRate 0 = .ok (.aload_n 0, 1) := by decide +kernel
theorem dX8_setRate_1 : decode cX8_setRate 1 = .ok (.bipush 122, 2) := by decide +kernel
theorem dX8_setRate_3 : decode cX8_setRate 3 = .ok (.iload_n 1, 1) := by decide +kernel
theorem dX8_setRate_4 : decode cX8_setRate 4 = .ok (.invokevirtual 101, 3) := by decide +kernel
theorem dX8_setRate_7 : decode cX8_setRate 7 = .ok (.ireturn, 1) := by decide +kernel
theorem dX8_setPolicy_0 : decode cX8_setPolicy 0 = .ok (.aload_n 0, 1) := by decide +kernel
theorem dX8_setPolicy_1 : decode cX8_setPolicy 1 = .ok (.bipush 123, 2) := by decide +kernel
theorem dX8_setPolicy_3 : decode cX8_setPolicy 3 = .ok (.iload_n 1, 1) := by decide +kernel
theorem dX8_setPolicy_4 : decode cX8_setPolicy 4 = .ok (.invokevirtual 101, 3) := by decide +kernel
theorem dX8_setPolicy_7 : decode cX8_setPolicy 7 = .ok (.ireturn, 1) := by decide +kernel
theorem dX8_setScheduler_0 : decode cX8_setScheduler 0 = .ok (.aload_n 0, 1) := by decide +kernel
theorem dX8_setScheduler_1 : decode cX8_setScheduler 1 = .ok (.bipush 124, 2) := by decide +kernel
theorem dX8_setScheduler_3 : decode cX8_setScheduler 3 = .ok (.iload_n 1, 1) := by decide +kernel
theorem dX8_setScheduler_4 : decode cX8_setScheduler 4 = .ok (.invokevirtual 101, 3) := by decide +kernel
theorem dX8_setScheduler_7 : decode cX8_setScheduler 7 = .ok (.ireturn, 1) := by decide +kernel
theorem dX8_setFactor_0 : decode cX8_setFactor 0 = .ok (.aload_n 0, 1) := by decide +kernel
theorem dX8_setFactor_1 : decode cX8_setFactor 1 = .ok (.bipush 125, 2) := by decide +kernel
theorem dX8_setFactor_3 : decode cX8_setFactor 3 = .ok (.iload_n 1, 1) := by decide +kernel
theorem dX8_setFactor_4 : decode cX8_setFactor 4 = .ok (.invokevirtual 101, 3) := by decide +kernel
theorem dX8_setFactor_7 : decode cX8_setFactor 7 = .ok (.ireturn, 1) := by decide +kernel
theorem dX8_setThreshold_0 : decode cX8_setThreshold 0 = .ok (.aload_n 0, 1) := by decide +kernel
theorem dX8_setThreshold_1 : decode cX8_setThreshold 1 = .ok (.bipush 126, 2) := by decide +kernel
theorem dX8_setThreshold_3 : decode cX8_setThreshold 3 = .ok (.iload_n 1, 1) := by decide +kernel
theorem dX8_setThreshold_4 : decode cX8_setThreshold 4 = .ok (.invokevirtual 101, 3) := by decide +kernel
theorem dX8_setThreshold_7 : decode cX8_setThreshold 7 = .ok (.ireturn, 1) := by decide +kernel
theorem dX8_setInterval_0 : decode cX8_setInterval 0 = .ok (.aload_n 0, 1) := by decide +kernel
theorem dX8_setInterval_1 : decode cX8_setInterval 1 = .ok (.bipush 127, 2) := by decide +kernel
theorem dX8_setInterval_3 : decode cX8_setInterval 3 = .ok (.iload_n 1, 1) := by decide +kernel
theorem dX8_setInterval_4 : decode cX8_setInterval 4 = .ok (.invokevirtual 101, 3) := by decide +kernel
theorem dX8_setInterval_7 : decode cX8_setInterval 7 = .ok (.ireturn, 1) := by decide +kernel
theorem dX8_setMeasure_0 : decode cX8_setMeasure 0 = .ok (.aload_n 0, 1) := by decide +kernel
theorem dX8_setMeasure_1 : decode cX8_setMeasure 1 = .ok (.sipush 128, 3) := by decide +kernel
theorem dX8_setMeasure_4 : decode cX8_setMeasure 4 = .ok (.iload_n 1, 1) := by decide +kernel
theorem dX8_setMeasure_5 : decode cX8_setMeasure 5 = .ok (.invokevirtual 101, 3) := by decide +kernel
theorem dX8_setMeasure_8 : decode cX8_setMeasure 8 = .ok (.ireturn, 1) := by decide +kernel
theorem dX8_setPriority_0 : decode cX8_setPriority 0 = .ok (.aload_n 0, 1) := by decide +kernel
theorem dX8_setPriority_1 : decode cX8_setPriority 1 = .ok (.iload_n 1, 1) := by decide +kernel
theorem dX8_setPriority_2 : decode cX8_setPriority 2 = .ok (.invokestatic 63, 3) := by decide +kernel
theorem dX8_setPriority_5 : decode cX8_setPriority 5 = .ok (.ifCond .ne 7, 3) := by decide +kernel
theorem dX8_setPriority_8 : decode cX8_setPriority 8 = .ok (.iconst 1, 1) := by decide +kernel
theorem dX8_setPriority_9 : decode cX8_setPriority 9 = .ok (.goto 18, 3) := by decide +kernel
theorem dX8_setPriority_12 : decode cX8_setPriority 12 = .ok (.iload_n 2, 1) := by decide +kernel
theorem dX8_setPriority_13 : decode cX8_setPriority 13 = .ok (.iconst 0, 1) := by decide +kernel
theorem dX8_setPriority_14 : decode cX8_setPriority 14 = .ok (.bipush 9, 2) := by decide +kernel
theorem dX8_setPriority_16 : decode cX8_setPriority 16 = .ok (.invokestatic 59, 3) := by decide +kernel
theorem dX8_setPriority_19 : decode cX8_setPriority 19 = .ok (.ifCond .eq 7, 3) := by decide +kernel
theorem dX8_setPriority_22 : decode cX8_setPriority 22 = .ok (.iconst 0, 1) := by decide +kernel
theorem dX8_setPriority_23 : decode cX8_setPriority 23 = .ok (.goto 4, 3) := by decide +kernel
theorem dX8_setPriority_26 : decode cX8_setPriority 26 = .ok (.iconst 2, 1) := by decide +kernel
theorem dX8_setPriority_27 : decode cX8_setPriority 27 = .ok (.invokevirtual 75, 3) := by decide +kernel
theorem dX8_setPriority_30 : decode cX8_setPriority 30 = .ok (.ifCond .eq 5, 3) := by decide +kernel
theorem dX8_setPriority_33 : decode cX8_setPriority 33 = .ok (.iconst 0, 1) := by decide +kernel
theorem dX8_setPriority_34 : decode cX8_setPriority 34 = .ok (.ireturn, 1) := by decide +kernel
theorem dX8_setPriority_35 : decode cX8_setPriority 35 = .ok (.aload_n 0, 1) := by decide +kernel
theorem dX8_setPriority_36 : decode cX8_setPriority 36 = .ok (.invokevirtual 78, 3) := by decide +kernel
theorem dX8_setPriority_39 : decode cX8_setPriority 39 = .ok (.aload_n 0, 1) := by decide +kernel
theorem dX8_setPriority_40 : decode cX8_setPriority 40 = .ok (.sipush 129, 3) := by decide +kernel
theorem dX8_setPriority_43 : decode cX8_setPriority 43 = .ok (.iload_n 1, 1) := by decide +kernel
theorem dX8_setPriority_44 : decode cX8_setPriority 44 = .ok (.iadd, 1) := by decide +kernel
theorem dX8_setPriority_45 : decode cX8_setPriority 45 = .ok (.iload_n 2, 1) := by decide +kernel
theorem dX8_setPriority_46 : decode cX8_setPriority 46 = .ok (.invokevirtual 98, 3) := by decide +kernel
theorem dX8_setPriority_49 : decode cX8_setPriority 49 = .ok (.ireturn, 1) := by decide +kernel
theorem dX8_isWhole_0 : decode cX8_isWhole 0 = .ok (.aload_n 0, 1) := by decide +kernel
theorem dX8_isWhole_1 : decode cX8_isWhole 1 = .ok (.getfield 28, 3) := by decide +kernel
theorem dX8_isWhole_4 : decode cX8_isWhole 4 = .ok (.iload_n 1, 1) := by decide +kernel
theorem dX8_isWhole_5 : decode cX8_isWhole 5 = .ok (.iaload, 1) := by decide +kernel
theorem dX8_isWhole_6 : decode cX8_isWhole 6 = .ok (.aload_n 0, 1) := by decide +kernel
theorem dX8_isWhole_7 : decode cX8_isWhole 7 = .ok (.iload_n 1, 1) := by decide +kernel
theorem dX8_isWhole_8 : decode cX8_isWhole 8 = .ok (.iconst 2, 1) := by decide +kernel
theorem dX8_isWhole_9 : decode cX8_isWhole 9 = .ok (.invokevirtual 67, 3) := by decide +kernel
theorem dX8_isWhole_12 : decode cX8_isWhole 12 = .ok (.if_icmp .ne 7, 3) := by decide +kernel
theorem dX8_isWhole_15 : decode cX8_isWhole 15 = .ok (.iconst 1, 1) := by decide +kernel
theorem dX8_isWhole_16 : decode cX8_isWhole 16 = .ok (.goto 4, 3) := by decide +kernel
theorem dX8_isWhole_19 : decode cX8_isWhole 19 = .ok (.iconst 0, 1) := by decide +kernel
theorem dX8_isWhole_20 : decode cX8_isWhole 20 = .ok (.ireturn, 1) := by decide +kernel
theorem dX8_leaves_0 : decode cX8_leaves 0 = .ok (.aload_n 0, 1) := by decide +kernel
theorem dX8_leaves_1 : decode cX8_leaves 1 = .ok (.dup, 1) := by decide +kernel
theorem dX8_leaves_2 : decode cX8_leaves 2 = .ok (.getfield 104, 3) := by decide +kernel
theorem dX8_leaves_5 : decode cX8_leaves 5 = .ok (.aload_n 0, 1) := by decide +kernel
theorem dX8_leaves_6 : decode cX8_leaves 6 = .ok (.getfield 28, 3) := by decide +kernel
theorem dX8_leaves_9 : decode cX8_leaves 9 = .ok (.aload_n 0, 1) := by decide +kernel
theorem dX8_leaves_10 : decode cX8_leaves 10 = .ok (.getfield 25, 3) := by decide +kernel
theorem dX8_leaves_13 : decode cX8_leaves 13 = .ok (.iload_n 1, 1) := by decide +kernel
theorem dX8_leaves_14 : decode cX8_leaves 14 = .ok (.iaload, 1) := by decide +kernel
theorem dX8_leaves_15 : decode cX8_leaves 15 = .ok (.iaload, 1) := by decide +kernel
theorem dX8_leaves_16 : decode cX8_leaves 16 = .ok (.isub, 1) := by decide +kernel
theorem dX8_leaves_17 : decode cX8_leaves 17 = .ok (.putfield 104, 3) := by decide +kernel
theorem dX8_leaves_20 : decode cX8_leaves 20 = .ok (.aload_n 0, 1) := by decide +kernel
theorem dX8_leaves_21 : decode cX8_leaves 21 = .ok (.dup, 1) := by decide +kernel
theorem dX8_leaves_22 : decode cX8_leaves 22 = .ok (.getfield 107, 3) := by decide +kernel
theorem dX8_leaves_25 : decode cX8_leaves 25 = .ok (.iconst 1, 1) := by decide +kernel
theorem dX8_leaves_26 : decode cX8_leaves 26 = .ok (.isub, 1) := by decide +kernel
theorem dX8_leaves_27 : decode cX8_leaves 27 = .ok (.putfield 107, 3) := by decide +kernel
theorem dX8_leaves_30 : decode cX8_leaves 30 = .ok (.iload_n 1, 1) := by decide +kernel
theorem dX8_leaves_31 : decode cX8_leaves 31 = .ok (.istore_n 2, 1) := by decide +kernel
theorem dX8_leaves_32 : decode cX8_leaves 32 = .ok (.iload_n 2, 1) := by decide +kernel
theorem dX8_leaves_33 : decode cX8_leaves 33 = .ok (.aload_n 0, 1) := by decide +kernel
theorem dX8_leaves_34 : decode cX8_leaves 34 = .ok (.getfield 107, 3) := by decide +kernel
theorem dX8_leaves_37 : decode cX8_leaves 37 = .ok (.if_icmp .ge 23, 3) := by decide +kernel
theorem dX8_leaves_40 : decode cX8_leaves 40 = .ok (.aload_n 0, 1) := by decide +kernel
theorem dX8_leaves_41 : decode cX8_leaves 41 = .ok (.getfield 25, 3) := by decide +kernel
theorem dX8_leaves_44 : decode cX8_leaves 44 = .ok (.iload_n 2, 1) := by decide +kernel
theorem dX8_leaves_45 : decode cX8_leaves 45 = .ok (.aload_n 0, 1) := by decide +kernel
theorem dX8_leaves_46 : decode cX8_leaves 46 = .ok (.getfield 25, 3) := by decide +kernel
theorem dX8_leaves_49 : decode cX8_leaves 49 = .ok (.iload_n 2, 1) := by decide +kernel
theorem dX8_leaves_50 : decode cX8_leaves 50 = .ok (.iconst 1, 1) := by decide +kernel
theorem dX8_leaves_51 : decode cX8_leaves 51 = .ok (.iadd, 1) := by decide +kernel
theorem dX8_leaves_52 : decode cX8_leaves 52 = .ok (.iaload, 1) := by decide +kernel
theorem dX8_leaves_53 : decode cX8_leaves 53 = .ok (.iastore, 1) := by decide +kernel
theorem dX8_leaves_54 : decode cX8_leaves 54 = .ok (.iinc 2 1, 3) := by decide +kernel
theorem dX8_leaves_57 : decode cX8_leaves 57 = .ok (.goto (-25), 3) := by decide +kernel
theorem dX8_leaves_60 : decode cX8_leaves 60 = .ok (.return_, 1) := by decide +kernel
theorem dX8_drops_0 : decode cX8_drops 0 = .ok (.aload_n 0, 1) := by decide +kernel
theorem dX8_drops_1 : decode cX8_drops 1 = .ok (.getfield 16, 3) := by decide +kernel
theorem dX8_drops_4 : decode cX8_drops 4 = .ok (.iload_n 1, 1) := by decide +kernel
theorem dX8_drops_5 : decode cX8_drops 5 = .ok (.bipush (-2), 2) := by decide +kernel
theorem dX8_drops_7 : decode cX8_drops 7 = .ok (.iastore, 1) := by decide +kernel
theorem dX8_drops_8 : decode cX8_drops 8 = .ok (.aload_n 0, 1) := by decide +kernel
theorem dX8_drops_9 : decode cX8_drops 9 = .ok (.getfield 19, 3) := by decide +kernel
theorem dX8_drops_12 : decode cX8_drops 12 = .ok (.aload_n 0, 1) := by decide +kernel
theorem dX8_drops_13 : decode cX8_drops 13 = .ok (.getfield 110, 3) := by decide +kernel
theorem dX8_drops_16 : decode cX8_drops 16 = .ok (.iload_n 1, 1) := by decide +kernel
theorem dX8_drops_17 : decode cX8_drops 17 = .ok (.iastore, 1) := by decide +kernel
theorem dX8_drops_18 : decode cX8_drops 18 = .ok (.aload_n 0, 1) := by decide +kernel
theorem dX8_drops_19 : decode cX8_drops 19 = .ok (.dup, 1) := by decide +kernel
theorem dX8_drops_20 : decode cX8_drops 20 = .ok (.getfield 110, 3) := by decide +kernel
theorem dX8_drops_23 : decode cX8_drops 23 = .ok (.iconst 1, 1) := by decide +kernel
theorem dX8_drops_24 : decode cX8_drops 24 = .ok (.iadd, 1) := by decide +kernel
theorem dX8_drops_25 : decode cX8_drops 25 = .ok (.putfield 110, 3) := by decide +kernel
theorem dX8_drops_28 : decode cX8_drops 28 = .ok (.return_, 1) := by decide +kernel
theorem dX8_dropsAt_0 : decode cX8_dropsAt 0 = .ok (.aload_n 0, 1) := by decide +kernel
theorem dX8_dropsAt_1 : decode cX8_dropsAt 1 = .ok (.getfield 25, 3) := by decide +kernel
theorem dX8_dropsAt_4 : decode cX8_dropsAt 4 = .ok (.iload_n 1, 1) := by decide +kernel
theorem dX8_dropsAt_5 : decode cX8_dropsAt 5 = .ok (.iaload, 1) := by decide +kernel
theorem dX8_dropsAt_6 : decode cX8_dropsAt 6 = .ok (.istore_n 2, 1) := by decide +kernel
theorem dX8_dropsAt_7 : decode cX8_dropsAt 7 = .ok (.aload_n 0, 1) := by decide +kernel
theorem dX8_dropsAt_8 : decode cX8_dropsAt 8 = .ok (.iload_n 1, 1) := by decide +kernel
theorem dX8_dropsAt_9 : decode cX8_dropsAt 9 = .ok (.invokevirtual 113, 3) := by decide +kernel
theorem dX8_dropsAt_12 : decode cX8_dropsAt 12 = .ok (.aload_n 0, 1) := by decide +kernel
theorem dX8_dropsAt_13 : decode cX8_dropsAt 13 = .ok (.iload_n 2, 1) := by decide +kernel
theorem dX8_dropsAt_14 : decode cX8_dropsAt 14 = .ok (.invokevirtual 117, 3) := by decide +kernel
theorem dX8_dropsAt_17 : decode cX8_dropsAt 17 = .ok (.return_, 1) := by decide +kernel
theorem dX8_firstWhole_0 : decode cX8_firstWhole 0 = .ok (.iconst 0, 1) := by decide +kernel
theorem dX8_firstWhole_1 : decode cX8_firstWhole 1 = .ok (.istore_n 1, 1) := by decide +kernel
theorem dX8_firstWhole_2 : decode cX8_firstWhole 2 = .ok (.iload_n 1, 1) := by decide +kernel
theorem dX8_firstWhole_3 : decode cX8_firstWhole 3 = .ok (.aload_n 0, 1) := by decide +kernel
theorem dX8_firstWhole_4 : decode cX8_firstWhole 4 = .ok (.getfield 107, 3) := by decide +kernel
theorem dX8_firstWhole_7 : decode cX8_firstWhole 7 = .ok (.if_icmp .ge 24, 3) := by decide +kernel
theorem dX8_firstWhole_10 : decode cX8_firstWhole 10 = .ok (.aload_n 0, 1) := by decide +kernel
theorem dX8_firstWhole_11 : decode cX8_firstWhole 11 = .ok (.aload_n 0, 1) := by decide +kernel
theorem dX8_firstWhole_12 : decode cX8_firstWhole 12 = .ok (.getfield 25, 3) := by decide +kernel
theorem dX8_firstWhole_15 : decode cX8_firstWhole 15 = .ok (.iload_n 1, 1) := by decide +kernel
theorem dX8_firstWhole_16 : decode cX8_firstWhole 16 = .ok (.iaload, 1) := by decide +kernel
theorem dX8_firstWhole_17 : decode cX8_firstWhole 17 = .ok (.invokevirtual 119, 3) := by decide +kernel
theorem dX8_firstWhole_20 : decode cX8_firstWhole 20 = .ok (.ifCond .eq 5, 3) := by decide +kernel
theorem dX8_firstWhole_23 : decode cX8_firstWhole 23 = .ok (.iload_n 1, 1) := by decide +kernel
theorem dX8_firstWhole_24 : decode cX8_firstWhole 24 = .ok (.ireturn, 1) := by decide +kernel
theorem dX8_firstWhole_25 : decode cX8_firstWhole 25 = .ok (.iinc 1 1, 3) := by decide +kernel
theorem dX8_firstWhole_28 : decode cX8_firstWhole 28 = .ok (.goto (-26), 3) := by decide +kernel
theorem dX8_firstWhole_31 : decode cX8_firstWhole 31 = .ok (.iconst (-1), 1) := by decide +kernel
theorem dX8_firstWhole_32 : decode cX8_firstWhole 32 = .ok (.ireturn, 1) := by decide +kernel
theorem dX8_lastWhole_0 : decode cX8_lastWhole 0 = .ok (.iconst (-1), 1) := by decide +kernel
theorem dX8_lastWhole_1 : decode cX8_lastWhole 1 = .ok (.istore_n 2, 1) := by decide +kernel
theorem dX8_lastWhole_2 : decode cX8_lastWhole 2 = .ok (.iconst 0, 1) := by decide +kernel
theorem dX8_lastWhole_3 : decode cX8_lastWhole 3 = .ok (.istore_n 3, 1) := by decide +kernel
theorem dX8_lastWhole_4 : decode cX8_lastWhole 4 = .ok (.iload_n 3, 1) := by decide +kernel
theorem dX8_lastWhole_5 : decode cX8_lastWhole 5 = .ok (.aload_n 0, 1) := by decide +kernel
theorem dX8_lastWhole_6 : decode cX8_lastWhole 6 = .ok (.getfield 107, 3) := by decide +kernel
theorem dX8_lastWhole_9 : decode cX8_lastWhole 9 = .ok (.if_icmp .ge 43, 3) := by decide +kernel
theorem dX8_lastWhole_12 : decode cX8_lastWhole 12 = .ok (.aload_n 0, 1) := by decide +kernel
theorem dX8_lastWhole_13 : decode cX8_lastWhole 13 = .ok (.aload_n 0, 1) := by decide +kernel
theorem dX8_lastWhole_14 : decode cX8_lastWhole 14 = .ok (.getfield 25, 3) := by decide +kernel
theorem dX8_lastWhole_17 : decode cX8_lastWhole 17 = .ok (.iload_n 3, 1) := by decide +kernel
theorem dX8_lastWhole_18 : decode cX8_lastWhole 18 = .ok (.iaload, 1) := by decide +kernel
theorem dX8_lastWhole_19 : decode cX8_lastWhole 19 = .ok (.invokevirtual 119, 3) := by decide +kernel
theorem dX8_lastWhole_22 : decode cX8_lastWhole 22 = .ok (.ifCond .eq 22, 3) := by decide +kernel
theorem dX8_lastWhole_25 : decode cX8_lastWhole 25 = .ok (.aload_n 0, 1) := by decide +kernel
theorem dX8_lastWhole_26 : decode cX8_lastWhole 26 = .ok (.aload_n 0, 1) := by decide +kernel
theorem dX8_lastWhole_27 : decode cX8_lastWhole 27 = .ok (.getfield 25, 3) := by decide +kernel
theorem dX8_lastWhole_30 : decode cX8_lastWhole 30 = .ok (.iload_n 3, 1) := by decide +kernel
theorem dX8_lastWhole_31 : decode cX8_lastWhole 31 = .ok (.iaload, 1) := by decide +kernel
theorem dX8_lastWhole_32 : decode cX8_lastWhole 32 = .ok (.iconst 1, 1) := by decide +kernel
theorem dX8_lastWhole_33 : decode cX8_lastWhole 33 = .ok (.invokevirtual 67, 3) := by decide +kernel
theorem dX8_lastWhole_36 : decode cX8_lastWhole 36 = .ok (.iload_n 1, 1) := by decide +kernel
theorem dX8_lastWhole_37 : decode cX8_lastWhole 37 = .ok (.if_icmp .ne 7, 3) := by decide +kernel
theorem dX8_lastWhole_40 : decode cX8_lastWhole 40 = .ok (.iload_n 3, 1) := by decide +kernel
theorem dX8_lastWhole_41 : decode cX8_lastWhole 41 = .ok (.goto 4, 3) := by decide +kernel
theorem dX8_lastWhole_44 : decode cX8_lastWhole 44 = .ok (.iload_n 2, 1) := by decide +kernel
theorem dX8_lastWhole_45 : decode cX8_lastWhole 45 = .ok (.istore_n 2, 1) := by decide +kernel
theorem dX8_lastWhole_46 : decode cX8_lastWhole 46 = .ok (.iinc 3 1, 3) := by decide +kernel
theorem dX8_lastWhole_49 : decode cX8_lastWhole 49 = .ok (.goto (-45), 3) := by decide +kernel
theorem dX8_lastWhole_52 : decode cX8_lastWhole 52 = .ok (.iload_n 2, 1) := by decide +kernel
theorem dX8_lastWhole_53 : decode cX8_lastWhole 53 = .ok (.ireturn, 1) := by decide +kernel
theorem dX8_longest_0 : decode cX8_longest 0 = .ok (.iconst (-1), 1) := by decide +kernel
theorem dX8_longest_1 : decode cX8_longest 1 = .ok (.istore_n 2, 1) := by decide +kernel
theorem dX8_longest_2 : decode cX8_longest 2 = .ok (.iconst (-1), 1) := by decide +kernel
theorem dX8_longest_3 : decode cX8_longest 3 = .ok (.istore_n 3, 1) := by decide +kernel
theorem dX8_longest_4 : decode cX8_longest 4 = .ok (.iconst 0, 1) := by decide +kernel
theorem dX8_longest_5 : decode cX8_longest 5 = .ok (.istore 4, 2) := by decide +kernel
theorem dX8_longest_7 : decode cX8_longest 7 = .ok (.iload 4, 2) := by decide +kernel
theorem dX8_longest_9 : decode cX8_longest 9 = .ok (.bipush 6, 2) := by decide +kernel
theorem dX8_longest_11 : decode cX8_longest 11 = .ok (.if_icmp .ge 128, 3) := by decide +kernel
theorem dX8_longest_14 : decode cX8_longest 14 = .ok (.aload_n 0, 1) := by decide +kernel
theorem dX8_longest_15 : decode cX8_longest 15 = .ok (.iload_n 1, 1) := by decide +kernel
theorem dX8_longest_16 : decode cX8_longest 16 = .ok (.iconst 1, 1) := by decide +kernel
theorem dX8_longest_17 : decode cX8_longest 17 = .ok (.invokevirtual 67, 3) := by decide +kernel
theorem dX8_longest_20 : decode cX8_longest 20 = .ok (.iload 4, 2) := by decide +kernel
theorem dX8_longest_22 : decode cX8_longest 22 = .ok (.if_icmp .ne 12, 3) := by decide +kernel
theorem dX8_longest_25 : decode cX8_longest 25 = .ok (.aload_n 0, 1) := by decide +kernel
theorem dX8_longest_26 : decode cX8_longest 26 = .ok (.iload_n 1, 1) := by decide +kernel
theorem dX8_longest_27 : decode cX8_longest 27 = .ok (.iconst 2, 1) := by decide +kernel
theorem dX8_longest_28 : decode cX8_longest 28 = .ok (.invokevirtual 67, 3) := by decide +kernel
theorem dX8_longest_31 : decode cX8_longest 31 = .ok (.goto 4, 3) := by decide +kernel
theorem dX8_longest_34 : decode cX8_longest 34 = .ok (.iconst 0, 1) := by decide +kernel
theorem dX8_longest_35 : decode cX8_longest 35 = .ok (.istore 5, 2) := by decide +kernel
theorem dX8_longest_37 : decode cX8_longest 37 = .ok (.iconst 0, 1) := by decide +kernel
theorem dX8_longest_38 : decode cX8_longest 38 = .ok (.istore 6, 2) := by decide +kernel
theorem dX8_longest_40 : decode cX8_longest 40 = .ok (.iload 6, 2) := by decide +kernel
theorem dX8_longest_42 : decode cX8_longest 42 = .ok (.aload_n 0, 1) := by decide +kernel
theorem dX8_longest_43 : decode cX8_longest 43 = .ok (.getfield 107, 3) := by decide +kernel
theorem dX8_longest_46 : decode cX8_longest 46 = .ok (.if_icmp .ge 61, 3) := by decide +kernel
theorem dX8_longest_49 : decode cX8_longest 49 = .ok (.iload 5, 2) := by decide +kernel
theorem dX8_longest_51 : decode cX8_longest 51 = .ok (.aload_n 0, 1) := by decide +kernel
theorem dX8_longest_52 : decode cX8_longest 52 = .ok (.aload_n 0, 1) := by decide +kernel
theorem dX8_longest_53 : decode cX8_longest 53 = .ok (.getfield 25, 3) := by decide +kernel
theorem dX8_longest_56 : decode cX8_longest 56 = .ok (.iload 6, 2) := by decide +kernel
theorem dX8_longest_58 : decode cX8_longest 58 = .ok (.iaload, 1) := by decide +kernel
theorem dX8_longest_59 : decode cX8_longest 59 = .ok (.invokevirtual 119, 3) := by decide +kernel
theorem dX8_longest_62 : decode cX8_longest 62 = .ok (.ifCond .eq 35, 3) := by decide +kernel
theorem dX8_longest_65 : decode cX8_longest 65 = .ok (.aload_n 0, 1) := by decide +kernel
theorem dX8_longest_66 : decode cX8_longest 66 = .ok (.aload_n 0, 1) := by decide +kernel
theorem dX8_longest_67 : decode cX8_longest 67 = .ok (.getfield 25, 3) := by decide +kernel
theorem dX8_longest_70 : decode cX8_longest 70 = .ok (.iload 6, 2) := by decide +kernel
theorem dX8_longest_72 : decode cX8_longest 72 = .ok (.iaload, 1) := by decide +kernel
theorem dX8_longest_73 : decode cX8_longest 73 = .ok (.iconst 1, 1) := by decide +kernel
theorem dX8_longest_74 : decode cX8_longest 74 = .ok (.invokevirtual 67, 3) := by decide +kernel
theorem dX8_longest_77 : decode cX8_longest 77 = .ok (.iload 4, 2) := by decide +kernel
theorem dX8_longest_79 : decode cX8_longest 79 = .ok (.if_icmp .ne 18, 3) := by decide +kernel
theorem dX8_longest_82 : decode cX8_longest 82 = .ok (.aload_n 0, 1) := by decide +kernel
theorem dX8_longest_83 : decode cX8_longest 83 = .ok (.aload_n 0, 1) := by decide +kernel
theorem dX8_longest_84 : decode cX8_longest 84 = .ok (.getfield 25, 3) := by decide +kernel
theorem dX8_longest_87 : decode cX8_longest 87 = .ok (.iload 6, 2) := by decide +kernel
theorem dX8_longest_89 : decode cX8_longest 89 = .ok (.iaload, 1) := by decide +kernel
theorem dX8_longest_90 : decode cX8_longest 90 = .ok (.iconst 2, 1) := by decide +kernel
theorem dX8_longest_91 : decode cX8_longest 91 = .ok (.invokevirtual 67, 3) := by decide +kernel
theorem dX8_longest_94 : decode cX8_longest 94 = .ok (.goto 4, 3) := by decide +kernel
theorem dX8_longest_97 : decode cX8_longest 97 = .ok (.iconst 0, 1) := by decide +kernel
theorem dX8_longest_98 : decode cX8_longest 98 = .ok (.iadd, 1) := by decide +kernel
theorem dX8_longest_99 : decode cX8_longest 99 = .ok (.istore 5, 2) := by decide +kernel
theorem dX8_longest_101 : decode cX8_longest 101 = .ok (.iinc 6 1, 3) := by decide +kernel
theorem dX8_longest_104 : decode cX8_longest 104 = .ok (.goto (-64), 3) := by decide +kernel
theorem dX8_longest_107 : decode cX8_longest 107 = .ok (.iload 5, 2) := by decide +kernel
theorem dX8_longest_109 : decode cX8_longest 109 = .ok (.iload_n 3, 1) := by decide +kernel
theorem dX8_longest_110 : decode cX8_longest 110 = .ok (.if_icmp .le 8, 3) := by decide +kernel
theorem dX8_longest_113 : decode cX8_longest 113 = .ok (.iload 4, 2) := by decide +kernel
theorem dX8_longest_115 : decode cX8_longest 115 = .ok (.goto 4, 3) := by decide +kernel
theorem dX8_longest_118 : decode cX8_longest 118 = .ok (.iload_n 2, 1) := by decide +kernel
theorem dX8_longest_119 : decode cX8_longest 119 = .ok (.istore_n 2, 1) := by decide +kernel
theorem dX8_longest_120 : decode cX8_longest 120 = .ok (.iload 5, 2) := by decide +kernel
theorem dX8_longest_122 : decode cX8_longest 122 = .ok (.iload_n 3, 1) := by decide +kernel
theorem dX8_longest_123 : decode cX8_longest 123 = .ok (.if_icmp .le 8, 3) := by decide +kernel
theorem dX8_longest_126 : decode cX8_longest 126 = .ok (.iload 5, 2) := by decide +kernel
theorem dX8_longest_128 : decode cX8_longest 128 = .ok (.goto 4, 3) := by decide +kernel
theorem dX8_longest_131 : decode cX8_longest 131 = .ok (.iload_n 3, 1) := by decide +kernel
theorem dX8_longest_132 : decode cX8_longest 132 = .ok (.istore_n 3, 1) := by decide +kernel
theorem dX8_longest_133 : decode cX8_longest 133 = .ok (.iinc 4 1, 3) := by decide +kernel
theorem dX8_longest_136 : decode cX8_longest 136 = .ok (.goto (-129), 3) := by decide +kernel
theorem dX8_longest_139 : decode cX8_longest 139 = .ok (.iload_n 2, 1) := by decide +kernel
theorem dX8_longest_140 : decode cX8_longest 140 = .ok (.ireturn, 1) := by decide +kernel
theorem dX8_makesRoom_0 : decode cX8_makesRoom 0 = .ok (.aload_n 0, 1) := by decide +kernel
theorem dX8_makesRoom_1 : decode cX8_makesRoom 1 = .ok (.getfield 104, 3) := by decide +kernel
theorem dX8_makesRoom_4 : decode cX8_makesRoom 4 = .ok (.aload_n 0, 1) := by decide +kernel
theorem dX8_makesRoom_5 : decode cX8_makesRoom 5 = .ok (.iload_n 1, 1) := by decide +kernel
theorem dX8_makesRoom_6 : decode cX8_makesRoom 6 = .ok (.iconst 2, 1) := by decide +kernel
theorem dX8_makesRoom_7 : decode cX8_makesRoom 7 = .ok (.invokevirtual 67, 3) := by decide +kernel
theorem dX8_makesRoom_10 : decode cX8_makesRoom 10 = .ok (.iadd, 1) := by decide +kernel
theorem dX8_makesRoom_11 : decode cX8_makesRoom 11 = .ok (.aload_n 0, 1) := by decide +kernel
theorem dX8_makesRoom_12 : decode cX8_makesRoom 12 = .ok (.getfield 7, 3) := by decide +kernel
theorem dX8_makesRoom_15 : decode cX8_makesRoom 15 = .ok (.bipush 121, 2) := by decide +kernel
theorem dX8_makesRoom_17 : decode cX8_makesRoom 17 = .ok (.iaload, 1) := by decide +kernel
theorem dX8_makesRoom_18 : decode cX8_makesRoom 18 = .ok (.if_icmp .le 76, 3) := by decide +kernel
theorem dX8_makesRoom_21 : decode cX8_makesRoom 21 = .ok (.iconst (-1), 1) := by decide +kernel
theorem dX8_makesRoom_22 : decode cX8_makesRoom 22 = .ok (.istore_n 2, 1) := by decide +kernel
theorem dX8_makesRoom_23 : decode cX8_makesRoom 23 = .ok (.aload_n 0, 1) := by decide +kernel
theorem dX8_makesRoom_24 : decode cX8_makesRoom 24 = .ok (.getfield 7, 3) := by decide +kernel
theorem dX8_makesRoom_27 : decode cX8_makesRoom 27 = .ok (.bipush 123, 2) := by decide +kernel
theorem dX8_makesRoom_29 : decode cX8_makesRoom 29 = .ok (.iaload, 1) := by decide +kernel
theorem dX8_makesRoom_30 : decode cX8_makesRoom 30 = .ok (.iconst 1, 1) := by decide +kernel
theorem dX8_makesRoom_31 : decode cX8_makesRoom 31 = .ok (.if_icmp .ne 11, 3) := by decide +kernel
theorem dX8_makesRoom_34 : decode cX8_makesRoom 34 = .ok (.aload_n 0, 1) := by decide +kernel
theorem dX8_makesRoom_35 : decode cX8_makesRoom 35 = .ok (.invokevirtual 122, 3) := by decide +kernel
theorem dX8_makesRoom_38 : decode cX8_makesRoom 38 = .ok (.istore_n 2, 1) := by decide +kernel
theorem dX8_makesRoom_39 : decode cX8_makesRoom 39 = .ok (.goto 40, 3) := by decide +kernel
theorem dX8_makesRoom_42 : decode cX8_makesRoom 42 = .ok (.aload_n 0, 1) := by decide +kernel
theorem dX8_makesRoom_43 : decode cX8_makesRoom 43 = .ok (.getfield 7, 3) := by decide +kernel
theorem dX8_makesRoom_46 : decode cX8_makesRoom 46 = .ok (.bipush 123, 2) := by decide +kernel
theorem dX8_makesRoom_48 : decode cX8_makesRoom 48 = .ok (.iaload, 1) := by decide +kernel
theorem dX8_makesRoom_49 : decode cX8_makesRoom 49 = .ok (.iconst 2, 1) := by decide +kernel
theorem dX8_makesRoom_50 : decode cX8_makesRoom 50 = .ok (.if_icmp .ne 29, 3) := by decide +kernel
theorem dX8_makesRoom_53 : decode cX8_makesRoom 53 = .ok (.aload_n 0, 1) := by decide +kernel
theorem dX8_makesRoom_54 : decode cX8_makesRoom 54 = .ok (.iload_n 1, 1) := by decide +kernel
theorem dX8_makesRoom_55 : decode cX8_makesRoom 55 = .ok (.invokevirtual 126, 3) := by decide +kernel
theorem dX8_makesRoom_58 : decode cX8_makesRoom 58 = .ok (.istore_n 3, 1) := by decide +kernel
theorem dX8_makesRoom_59 : decode cX8_makesRoom 59 = .ok (.iload_n 3, 1) := by decide +kernel
theorem dX8_makesRoom_60 : decode cX8_makesRoom 60 = .ok (.aload_n 0, 1) := by decide +kernel
theorem dX8_makesRoom_61 : decode cX8_makesRoom 61 = .ok (.iload_n 1, 1) := by decide +kernel
theorem dX8_makesRoom_62 : decode cX8_makesRoom 62 = .ok (.iconst 1, 1) := by decide +kernel
theorem dX8_makesRoom_63 : decode cX8_makesRoom 63 = .ok (.invokevirtual 67, 3) := by decide +kernel
theorem dX8_makesRoom_66 : decode cX8_makesRoom 66 = .ok (.if_icmp .ne 7, 3) := by decide +kernel
theorem dX8_makesRoom_69 : decode cX8_makesRoom 69 = .ok (.iconst (-1), 1) := by decide +kernel
theorem dX8_makesRoom_70 : decode cX8_makesRoom 70 = .ok (.goto 8, 3) := by decide +kernel
theorem dX8_makesRoom_73 : decode cX8_makesRoom 73 = .ok (.aload_n 0, 1) := by decide +kernel
theorem dX8_makesRoom_74 : decode cX8_makesRoom 74 = .ok (.iload_n 3, 1) := by decide +kernel
theorem dX8_makesRoom_75 : decode cX8_makesRoom 75 = .ok (.invokevirtual 129, 3) := by decide +kernel
theorem dX8_makesRoom_78 : decode cX8_makesRoom 78 = .ok (.istore_n 2, 1) := by decide +kernel
theorem dX8_makesRoom_79 : decode cX8_makesRoom 79 = .ok (.iload_n 2, 1) := by decide +kernel
theorem dX8_makesRoom_80 : decode cX8_makesRoom 80 = .ok (.iconst (-1), 1) := by decide +kernel
theorem dX8_makesRoom_81 : decode cX8_makesRoom 81 = .ok (.if_icmp .ne 5, 3) := by decide +kernel
theorem dX8_makesRoom_84 : decode cX8_makesRoom 84 = .ok (.iconst 0, 1) := by decide +kernel
theorem dX8_makesRoom_85 : decode cX8_makesRoom 85 = .ok (.ireturn, 1) := by decide +kernel
theorem dX8_makesRoom_86 : decode cX8_makesRoom 86 = .ok (.aload_n 0, 1) := by decide +kernel
theorem dX8_makesRoom_87 : decode cX8_makesRoom 87 = .ok (.iload_n 2, 1) := by decide +kernel
theorem dX8_makesRoom_88 : decode cX8_makesRoom 88 = .ok (.invokevirtual 132, 3) := by decide +kernel
theorem dX8_makesRoom_91 : decode cX8_makesRoom 91 = .ok (.goto (-91), 3) := by decide +kernel
theorem dX8_makesRoom_94 : decode cX8_makesRoom 94 = .ok (.iconst 1, 1) := by decide +kernel
theorem dX8_makesRoom_95 : decode cX8_makesRoom 95 = .ok (.ireturn, 1) := by decide +kernel
theorem dX8_isOverShare_0 : decode cX8_isOverShare 0 = .ok (.aload_n 0, 1) := by decide +kernel
theorem dX8_isOverShare_1 : decode cX8_isOverShare 1 = .ok (.iload_n 1, 1) := by decide +kernel
theorem dX8_isOverShare_2 : decode cX8_isOverShare 2 = .ok (.iconst 2, 1) := by decide +kernel
theorem dX8_isOverShare_3 : decode cX8_isOverShare 3 = .ok (.invokevirtual 67, 3) := by decide +kernel
theorem dX8_isOverShare_6 : decode cX8_isOverShare 6 = .ok (.istore_n 2, 1) := by decide +kernel
theorem dX8_isOverShare_7 : decode cX8_isOverShare 7 = .ok (.iconst 0, 1) := by decide +kernel
theorem dX8_isOverShare_8 : decode cX8_isOverShare 8 = .ok (.istore_n 3, 1) := by decide +kernel
theorem dX8_isOverShare_9 : decode cX8_isOverShare 9 = .ok (.iload_n 3, 1) := by decide +kernel
theorem dX8_isOverShare_10 : decode cX8_isOverShare 10 = .ok (.aload_n 0, 1) := by decide +kernel
theorem dX8_isOverShare_11 : decode cX8_isOverShare 11 = .ok (.getfield 107, 3) := by decide +kernel
theorem dX8_isOverShare_14 : decode cX8_isOverShare 14 = .ok (.if_icmp .ge 47, 3) := by decide +kernel
theorem dX8_isOverShare_17 : decode cX8_isOverShare 17 = .ok (.iload_n 2, 1) := by decide +kernel
theorem dX8_isOverShare_18 : decode cX8_isOverShare 18 = .ok (.aload_n 0, 1) := by decide +kernel
theorem dX8_isOverShare_19 : decode cX8_isOverShare 19 = .ok (.aload_n 0, 1) := by decide +kernel
theorem dX8_isOverShare_20 : decode cX8_isOverShare 20 = .ok (.getfield 25, 3) := by decide +kernel
theorem dX8_isOverShare_23 : decode cX8_isOverShare 23 = .ok (.iload_n 3, 1) := by decide +kernel
theorem dX8_isOverShare_24 : decode cX8_isOverShare 24 = .ok (.iaload, 1) := by decide +kernel
theorem dX8_isOverShare_25 : decode cX8_isOverShare 25 = .ok (.iconst 1, 1) := by decide +kernel
theorem dX8_isOverShare_26 : decode cX8_isOverShare 26 = .ok (.invokevirtual 67, 3) := by decide +kernel
theorem dX8_isOverShare_29 : decode cX8_isOverShare 29 = .ok (.aload_n 0, 1) := by decide +kernel
theorem dX8_isOverShare_30 : decode cX8_isOverShare 30 = .ok (.iload_n 1, 1) := by decide +kernel
theorem dX8_isOverShare_31 : decode cX8_isOverShare 31 = .ok (.iconst 1, 1) := by decide +kernel
theorem dX8_isOverShare_32 : decode cX8_isOverShare 32 = .ok (.invokevirtual 67, 3) := by decide +kernel
theorem dX8_isOverShare_35 : decode cX8_isOverShare 35 = .ok (.if_icmp .ne 17, 3) := by decide +kernel
theorem dX8_isOverShare_38 : decode cX8_isOverShare 38 = .ok (.aload_n 0, 1) := by decide +kernel
theorem dX8_isOverShare_39 : decode cX8_isOverShare 39 = .ok (.getfield 28, 3) := by decide +kernel
theorem dX8_isOverShare_42 : decode cX8_isOverShare 42 = .ok (.aload_n 0, 1) := by decide +kernel
theorem dX8_isOverShare_43 : decode cX8_isOverShare 43 = .ok (.getfield 25, 3) := by decide +kernel
theorem dX8_isOverShare_46 : decode cX8_isOverShare 46 = .ok (.iload_n 3, 1) := by decide +kernel
theorem dX8_isOverShare_47 : decode cX8_isOverShare 47 = .ok (.iaload, 1) := by decide +kernel
theorem dX8_isOverShare_48 : decode cX8_isOverShare 48 = .ok (.iaload, 1) := by decide +kernel
theorem dX8_isOverShare_49 : decode cX8_isOverShare 49 = .ok (.goto 4, 3) := by decide +kernel
theorem dX8_isOverShare_52 : decode cX8_isOverShare 52 = .ok (.iconst 0, 1) := by decide +kernel
theorem dX8_isOverShare_53 : decode cX8_isOverShare 53 = .ok (.iadd, 1) := by decide +kernel
theorem dX8_isOverShare_54 : decode cX8_isOverShare 54 = .ok (.istore_n 2, 1) := by decide +kernel
theorem dX8_isOverShare_55 : decode cX8_isOverShare 55 = .ok (.iinc 3 1, 3) := by decide +kernel
theorem dX8_isOverShare_58 : decode cX8_isOverShare 58 = .ok (.goto (-49), 3) := by decide +kernel
theorem dX8_isOverShare_61 : decode cX8_isOverShare 61 = .ok (.iconst 4, 1) := by decide +kernel
theorem dX8_isOverShare_62 : decode cX8_isOverShare 62 = .ok (.iload_n 2, 1) := by decide +kernel
theorem dX8_isOverShare_63 : decode cX8_isOverShare 63 = .ok (.imul, 1) := by decide +kernel
theorem dX8_isOverShare_64 : decode cX8_isOverShare 64 = .ok (.aload_n 0, 1) := by decide +kernel
theorem dX8_isOverShare_65 : decode cX8_isOverShare 65 = .ok (.getfield 7, 3) := by decide +kernel
theorem dX8_isOverShare_68 : decode cX8_isOverShare 68 = .ok (.bipush 125, 2) := by decide +kernel
theorem dX8_isOverShare_70 : decode cX8_isOverShare 70 = .ok (.iaload, 1) := by decide +kernel
theorem dX8_isOverShare_71 : decode cX8_isOverShare 71 = .ok (.aload_n 0, 1) := by decide +kernel
theorem dX8_isOverShare_72 : decode cX8_isOverShare 72 = .ok (.getfield 7, 3) := by decide +kernel
theorem dX8_isOverShare_75 : decode cX8_isOverShare 75 = .ok (.bipush 121, 2) := by decide +kernel
theorem dX8_isOverShare_77 : decode cX8_isOverShare 77 = .ok (.iaload, 1) := by decide +kernel
theorem dX8_isOverShare_78 : decode cX8_isOverShare 78 = .ok (.aload_n 0, 1) := by decide +kernel
theorem dX8_isOverShare_79 : decode cX8_isOverShare 79 = .ok (.getfield 104, 3) := by decide +kernel
theorem dX8_isOverShare_82 : decode cX8_isOverShare 82 = .ok (.isub, 1) := by decide +kernel
theorem dX8_isOverShare_83 : decode cX8_isOverShare 83 = .ok (.imul, 1) := by decide +kernel
theorem dX8_isOverShare_84 : decode cX8_isOverShare 84 = .ok (.if_icmp .le 7, 3) := by decide +kernel
theorem dX8_isOverShare_87 : decode cX8_isOverShare 87 = .ok (.iconst 1, 1) := by decide +kernel
theorem dX8_isOverShare_88 : decode cX8_isOverShare 88 = .ok (.goto 4, 3) := by decide +kernel
theorem dX8_isOverShare_91 : decode cX8_isOverShare 91 = .ok (.iconst 0, 1) := by decide +kernel
theorem dX8_isOverShare_92 : decode cX8_isOverShare 92 = .ok (.ireturn, 1) := by decide +kernel
theorem dX8_isAccepted_0 : decode cX8_isAccepted 0 = .ok (.aload_n 0, 1) := by decide +kernel
theorem dX8_isAccepted_1 : decode cX8_isAccepted 1 = .ok (.iload_n 1, 1) := by decide +kernel
theorem dX8_isAccepted_2 : decode cX8_isAccepted 2 = .ok (.iconst 2, 1) := by decide +kernel
theorem dX8_isAccepted_3 : decode cX8_isAccepted 3 = .ok (.invokevirtual 67, 3) := by decide +kernel
theorem dX8_isAccepted_6 : decode cX8_isAccepted 6 = .ok (.aload_n 0, 1) := by decide +kernel
theorem dX8_isAccepted_7 : decode cX8_isAccepted 7 = .ok (.getfield 7, 3) := by decide +kernel
theorem dX8_isAccepted_10 : decode cX8_isAccepted 10 = .ok (.bipush 121, 2) := by decide +kernel
theorem dX8_isAccepted_12 : decode cX8_isAccepted 12 = .ok (.iaload, 1) := by decide +kernel
theorem dX8_isAccepted_13 : decode cX8_isAccepted 13 = .ok (.if_icmp .gt 11, 3) := by decide +kernel
theorem dX8_isAccepted_16 : decode cX8_isAccepted 16 = .ok (.aload_n 0, 1) := by decide +kernel
theorem dX8_isAccepted_17 : decode cX8_isAccepted 17 = .ok (.iload_n 1, 1) := by decide +kernel
theorem dX8_isAccepted_18 : decode cX8_isAccepted 18 = .ok (.invokevirtual 135, 3) := by decide +kernel
theorem dX8_isAccepted_21 : decode cX8_isAccepted 21 = .ok (.ifCond .ne 5, 3) := by decide +kernel
theorem dX8_isAccepted_24 : decode cX8_isAccepted 24 = .ok (.iconst 0, 1) := by decide +kernel
theorem dX8_isAccepted_25 : decode cX8_isAccepted 25 = .ok (.ireturn, 1) := by decide +kernel
theorem dX8_isAccepted_26 : decode cX8_isAccepted 26 = .ok (.aload_n 0, 1) := by decide +kernel
theorem dX8_isAccepted_27 : decode cX8_isAccepted 27 = .ok (.getfield 7, 3) := by decide +kernel
theorem dX8_isAccepted_30 : decode cX8_isAccepted 30 = .ok (.bipush 123, 2) := by decide +kernel
theorem dX8_isAccepted_32 : decode cX8_isAccepted 32 = .ok (.iaload, 1) := by decide +kernel
theorem dX8_isAccepted_33 : decode cX8_isAccepted 33 = .ok (.iconst 3, 1) := by decide +kernel
theorem dX8_isAccepted_34 : decode cX8_isAccepted 34 = .ok (.if_icmp .ne 17, 3) := by decide +kernel
theorem dX8_isAccepted_37 : decode cX8_isAccepted 37 = .ok (.aload_n 0, 1) := by decide +kernel
theorem dX8_isAccepted_38 : decode cX8_isAccepted 38 = .ok (.iload_n 1, 1) := by decide +kernel
theorem dX8_isAccepted_39 : decode cX8_isAccepted 39 = .ok (.invokevirtual 138, 3) := by decide +kernel
theorem dX8_isAccepted_42 : decode cX8_isAccepted 42 = .ok (.ifCond .ne 7, 3) := by decide +kernel
theorem dX8_isAccepted_45 : decode cX8_isAccepted 45 = .ok (.iconst 1, 1) := by decide +kernel
theorem dX8_isAccepted_46 : decode cX8_isAccepted 46 = .ok (.goto 4, 3) := by decide +kernel
theorem dX8_isAccepted_49 : decode cX8_isAccepted 49 = .ok (.iconst 0, 1) := by decide +kernel
theorem dX8_isAccepted_50 : decode cX8_isAccepted 50 = .ok (.ireturn, 1) := by decide +kernel
theorem dX8_isAccepted_51 : decode cX8_isAccepted 51 = .ok (.aload_n 0, 1) := by decide +kernel
theorem dX8_isAccepted_52 : decode cX8_isAccepted 52 = .ok (.getfield 7, 3) := by decide +kernel
theorem dX8_isAccepted_55 : decode cX8_isAccepted 55 = .ok (.bipush 123, 2) := by decide +kernel
theorem dX8_isAccepted_57 : decode cX8_isAccepted 57 = .ok (.iaload, 1) := by decide +kernel
theorem dX8_isAccepted_58 : decode cX8_isAccepted 58 = .ok (.iconst 4, 1) := by decide +kernel
theorem dX8_isAccepted_59 : decode cX8_isAccepted 59 = .ok (.if_icmp .ne 48, 3) := by decide +kernel
theorem dX8_isAccepted_62 : decode cX8_isAccepted 62 = .ok (.aload_n 0, 1) := by decide +kernel
theorem dX8_isAccepted_63 : decode cX8_isAccepted 63 = .ok (.getfield 104, 3) := by decide +kernel
theorem dX8_isAccepted_66 : decode cX8_isAccepted 66 = .ok (.aload_n 0, 1) := by decide +kernel
theorem dX8_isAccepted_67 : decode cX8_isAccepted 67 = .ok (.getfield 7, 3) := by decide +kernel
theorem dX8_isAccepted_70 : decode cX8_isAccepted 70 = .ok (.bipush 126, 2) := by decide +kernel
theorem dX8_isAccepted_72 : decode cX8_isAccepted 72 = .ok (.iaload, 1) := by decide +kernel
theorem dX8_isAccepted_73 : decode cX8_isAccepted 73 = .ok (.if_icmp .lt 34, 3) := by decide +kernel
theorem dX8_isAccepted_76 : decode cX8_isAccepted 76 = .ok (.aload_n 0, 1) := by decide +kernel
theorem dX8_isAccepted_77 : decode cX8_isAccepted 77 = .ok (.dup, 1) := by decide +kernel
theorem dX8_isAccepted_78 : decode cX8_isAccepted 78 = .ok (.getfield 141, 3) := by decide +kernel
theorem dX8_isAccepted_81 : decode cX8_isAccepted 81 = .ok (.iconst 1, 1) := by decide +kernel
theorem dX8_isAccepted_82 : decode cX8_isAccepted 82 = .ok (.iadd, 1) := by decide +kernel
theorem dX8_isAccepted_83 : decode cX8_isAccepted 83 = .ok (.putfield 141, 3) := by decide +kernel
theorem dX8_isAccepted_86 : decode cX8_isAccepted 86 = .ok (.aload_n 0, 1) := by decide +kernel
theorem dX8_isAccepted_87 : decode cX8_isAccepted 87 = .ok (.getfield 141, 3) := by decide +kernel
theorem dX8_isAccepted_90 : decode cX8_isAccepted 90 = .ok (.aload_n 0, 1) := by decide +kernel
theorem dX8_isAccepted_91 : decode cX8_isAccepted 91 = .ok (.getfield 7, 3) := by decide +kernel
theorem dX8_isAccepted_94 : decode cX8_isAccepted 94 = .ok (.bipush 127, 2) := by decide +kernel
theorem dX8_isAccepted_96 : decode cX8_isAccepted 96 = .ok (.iaload, 1) := by decide +kernel
theorem dX8_isAccepted_97 : decode cX8_isAccepted 97 = .ok (.irem, 1) := by decide +kernel
theorem dX8_isAccepted_98 : decode cX8_isAccepted 98 = .ok (.ifCond .eq 7, 3) := by decide +kernel
theorem dX8_isAccepted_101 : decode cX8_isAccepted 101 = .ok (.iconst 1, 1) := by decide +kernel
theorem dX8_isAccepted_102 : decode cX8_isAccepted 102 = .ok (.goto 4, 3) := by decide +kernel
theorem dX8_isAccepted_105 : decode cX8_isAccepted 105 = .ok (.iconst 0, 1) := by decide +kernel
theorem dX8_isAccepted_106 : decode cX8_isAccepted 106 = .ok (.ireturn, 1) := by decide +kernel
theorem dX8_isAccepted_107 : decode cX8_isAccepted 107 = .ok (.iconst 1, 1) := by decide +kernel
theorem dX8_isAccepted_108 : decode cX8_isAccepted 108 = .ok (.ireturn, 1) := by decide +kernel
theorem dX8_arrives_0 : decode cX8_arrives 0 = .ok (.aload_n 0, 1) := by decide +kernel
theorem dX8_arrives_1 : decode cX8_arrives 1 = .ok (.iload_n 1, 1) := by decide +kernel
theorem dX8_arrives_2 : decode cX8_arrives 2 = .ok (.invokevirtual 144, 3) := by decide +kernel
theorem dX8_arrives_5 : decode cX8_arrives 5 = .ok (.ifCond .ne 9, 3) := by decide +kernel
theorem dX8_arrives_8 : decode cX8_arrives 8 = .ok (.aload_n 0, 1) := by decide +kernel
theorem dX8_arrives_9 : decode cX8_arrives 9 = .ok (.iload_n 1, 1) := by decide +kernel
theorem dX8_arrives_10 : decode cX8_arrives 10 = .ok (.invokevirtual 117, 3) := by decide +kernel
theorem dX8_arrives_13 : decode cX8_arrives 13 = .ok (.return_, 1) := by decide +kernel
theorem dX8_arrives_14 : decode cX8_arrives 14 = .ok (.aload_n 0, 1) := by decide +kernel
theorem dX8_arrives_15 : decode cX8_arrives 15 = .ok (.getfield 28, 3) := by decide +kernel
theorem dX8_arrives_18 : decode cX8_arrives 18 = .ok (.iload_n 1, 1) := by decide +kernel
theorem dX8_arrives_19 : decode cX8_arrives 19 = .ok (.aload_n 0, 1) := by decide +kernel
theorem dX8_arrives_20 : decode cX8_arrives 20 = .ok (.iload_n 1, 1) := by decide +kernel
theorem dX8_arrives_21 : decode cX8_arrives 21 = .ok (.iconst 2, 1) := by decide +kernel
theorem dX8_arrives_22 : decode cX8_arrives 22 = .ok (.invokevirtual 67, 3) := by decide +kernel
theorem dX8_arrives_25 : decode cX8_arrives 25 = .ok (.iastore, 1) := by decide +kernel
theorem dX8_arrives_26 : decode cX8_arrives 26 = .ok (.aload_n 0, 1) := by decide +kernel
theorem dX8_arrives_27 : decode cX8_arrives 27 = .ok (.getfield 25, 3) := by decide +kernel
theorem dX8_arrives_30 : decode cX8_arrives 30 = .ok (.aload_n 0, 1) := by decide +kernel
theorem dX8_arrives_31 : decode cX8_arrives 31 = .ok (.getfield 107, 3) := by decide +kernel
theorem dX8_arrives_34 : decode cX8_arrives 34 = .ok (.iload_n 1, 1) := by decide +kernel
theorem dX8_arrives_35 : decode cX8_arrives 35 = .ok (.iastore, 1) := by decide +kernel
theorem dX8_arrives_36 : decode cX8_arrives 36 = .ok (.aload_n 0, 1) := by decide +kernel
theorem dX8_arrives_37 : decode cX8_arrives 37 = .ok (.dup, 1) := by decide +kernel
theorem dX8_arrives_38 : decode cX8_arrives 38 = .ok (.getfield 107, 3) := by decide +kernel
theorem dX8_arrives_41 : decode cX8_arrives 41 = .ok (.iconst 1, 1) := by decide +kernel
theorem dX8_arrives_42 : decode cX8_arrives 42 = .ok (.iadd, 1) := by decide +kernel
theorem dX8_arrives_43 : decode cX8_arrives 43 = .ok (.putfield 107, 3) := by decide +kernel
theorem dX8_arrives_46 : decode cX8_arrives 46 = .ok (.aload_n 0, 1) := by decide +kernel
theorem dX8_arrives_47 : decode cX8_arrives 47 = .ok (.dup, 1) := by decide +kernel
theorem dX8_arrives_48 : decode cX8_arrives 48 = .ok (.getfield 104, 3) := by decide +kernel
theorem dX8_arrives_51 : decode cX8_arrives 51 = .ok (.aload_n 0, 1) := by decide +kernel
theorem dX8_arrives_52 : decode cX8_arrives 52 = .ok (.getfield 28, 3) := by decide +kernel
theorem dX8_arrives_55 : decode cX8_arrives 55 = .ok (.iload_n 1, 1) := by decide +kernel
theorem dX8_arrives_56 : decode cX8_arrives 56 = .ok (.iaload, 1) := by decide +kernel
theorem dX8_arrives_57 : decode cX8_arrives 57 = .ok (.iadd, 1) := by decide +kernel
theorem dX8_arrives_58 : decode cX8_arrives 58 = .ok (.putfield 104, 3) := by decide +kernel
theorem dX8_arrives_61 : decode cX8_arrives 61 = .ok (.return_, 1) := by decide +kernel
theorem dX8_firstOf_0 : decode cX8_firstOf 0 = .ok (.iconst 0, 1) := by decide +kernel
theorem dX8_firstOf_1 : decode cX8_firstOf 1 = .ok (.istore_n 2, 1) := by decide +kernel
theorem dX8_firstOf_2 : decode cX8_firstOf 2 = .ok (.iload_n 2, 1) := by decide +kernel
theorem dX8_firstOf_3 : decode cX8_firstOf 3 = .ok (.aload_n 0, 1) := by decide +kernel
theorem dX8_firstOf_4 : decode cX8_firstOf 4 = .ok (.getfield 107, 3) := by decide +kernel
theorem dX8_firstOf_7 : decode cX8_firstOf 7 = .ok (.if_icmp .ge 26, 3) := by decide +kernel
theorem dX8_firstOf_10 : decode cX8_firstOf 10 = .ok (.aload_n 0, 1) := by decide +kernel
theorem dX8_firstOf_11 : decode cX8_firstOf 11 = .ok (.aload_n 0, 1) := by decide +kernel
theorem dX8_firstOf_12 : decode cX8_firstOf 12 = .ok (.getfield 25, 3) := by decide +kernel
theorem dX8_firstOf_15 : decode cX8_firstOf 15 = .ok (.iload_n 2, 1) := by decide +kernel
theorem dX8_firstOf_16 : decode cX8_firstOf 16 = .ok (.iaload, 1) := by decide +kernel
theorem dX8_firstOf_17 : decode cX8_firstOf 17 = .ok (.iconst 1, 1) := by decide +kernel
theorem dX8_firstOf_18 : decode cX8_firstOf 18 = .ok (.invokevirtual 67, 3) := by decide +kernel
theorem dX8_firstOf_21 : decode cX8_firstOf 21 = .ok (.iload_n 1, 1) := by decide +kernel
theorem dX8_firstOf_22 : decode cX8_firstOf 22 = .ok (.if_icmp .ne 5, 3) := by decide +kernel
theorem dX8_firstOf_25 : decode cX8_firstOf 25 = .ok (.iload_n 2, 1) := by decide +kernel
theorem dX8_firstOf_26 : decode cX8_firstOf 26 = .ok (.ireturn, 1) := by decide +kernel
theorem dX8_firstOf_27 : decode cX8_firstOf 27 = .ok (.iinc 2 1, 3) := by decide +kernel
theorem dX8_firstOf_30 : decode cX8_firstOf 30 = .ok (.goto (-28), 3) := by decide +kernel
theorem dX8_firstOf_33 : decode cX8_firstOf 33 = .ok (.iconst (-1), 1) := by decide +kernel
theorem dX8_firstOf_34 : decode cX8_firstOf 34 = .ok (.ireturn, 1) := by decide +kernel
theorem dX8_scheduled_0 : decode cX8_scheduled 0 = .ok (.iconst 0, 1) := by decide +kernel
theorem dX8_scheduled_1 : decode cX8_scheduled 1 = .ok (.istore_n 1, 1) := by decide +kernel
theorem dX8_scheduled_2 : decode cX8_scheduled 2 = .ok (.aload_n 0, 1) := by decide +kernel
theorem dX8_scheduled_3 : decode cX8_scheduled 3 = .ok (.getfield 7, 3) := by decide +kernel
theorem dX8_scheduled_6 : decode cX8_scheduled 6 = .ok (.bipush 124, 2) := by decide +kernel
theorem dX8_scheduled_8 : decode cX8_scheduled 8 = .ok (.iaload, 1) := by decide +kernel
theorem dX8_scheduled_9 : decode cX8_scheduled 9 = .ok (.iconst 1, 1) := by decide +kernel
theorem dX8_scheduled_10 : decode cX8_scheduled 10 = .ok (.if_icmp .ne 64, 3) := by decide +kernel
theorem dX8_scheduled_13 : decode cX8_scheduled 13 = .ok (.bipush 10, 2) := by decide +kernel
theorem dX8_scheduled_15 : decode cX8_scheduled 15 = .ok (.istore_n 2, 1) := by decide +kernel
theorem dX8_scheduled_16 : decode cX8_scheduled 16 = .ok (.iconst 0, 1) := by decide +kernel
theorem dX8_scheduled_17 : decode cX8_scheduled 17 = .ok (.istore_n 3, 1) := by decide +kernel
theorem dX8_scheduled_18 : decode cX8_scheduled 18 = .ok (.iload_n 3, 1) := by decide +kernel
theorem dX8_scheduled_19 : decode cX8_scheduled 19 = .ok (.bipush 6, 2) := by decide +kernel
theorem dX8_scheduled_21 : decode cX8_scheduled 21 = .ok (.if_icmp .ge 50, 3) := by decide +kernel
theorem dX8_scheduled_24 : decode cX8_scheduled 24 = .ok (.aload_n 0, 1) := by decide +kernel
theorem dX8_scheduled_25 : decode cX8_scheduled 25 = .ok (.iload_n 3, 1) := by decide +kernel
theorem dX8_scheduled_26 : decode cX8_scheduled 26 = .ok (.invokevirtual 147, 3) := by decide +kernel
theorem dX8_scheduled_29 : decode cX8_scheduled 29 = .ok (.istore 4, 2) := by decide +kernel
theorem dX8_scheduled_31 : decode cX8_scheduled 31 = .ok (.iload 4, 2) := by decide +kernel
theorem dX8_scheduled_33 : decode cX8_scheduled 33 = .ok (.iconst (-1), 1) := by decide +kernel
theorem dX8_scheduled_34 : decode cX8_scheduled 34 = .ok (.if_icmp .eq 31, 3) := by decide +kernel
theorem dX8_scheduled_37 : decode cX8_scheduled 37 = .ok (.aload_n 0, 1) := by decide +kernel
theorem dX8_scheduled_38 : decode cX8_scheduled 38 = .ok (.getfield 7, 3) := by decide +kernel
theorem dX8_scheduled_41 : decode cX8_scheduled 41 = .ok (.sipush 129, 3) := by decide +kernel
theorem dX8_scheduled_44 : decode cX8_scheduled 44 = .ok (.iload_n 3, 1) := by decide +kernel
theorem dX8_scheduled_45 : decode cX8_scheduled 45 = .ok (.iadd, 1) := by decide +kernel
theorem dX8_scheduled_46 : decode cX8_scheduled 46 = .ok (.iaload, 1) := by decide +kernel
theorem dX8_scheduled_47 : decode cX8_scheduled 47 = .ok (.iload_n 2, 1) := by decide +kernel
theorem dX8_scheduled_48 : decode cX8_scheduled 48 = .ok (.if_icmp .ge 17, 3) := by decide +kernel
theorem dX8_scheduled_51 : decode cX8_scheduled 51 = .ok (.aload_n 0, 1) := by decide +kernel
theorem dX8_scheduled_52 : decode cX8_scheduled 52 = .ok (.getfield 7, 3) := by decide +kernel
theorem dX8_scheduled_55 : decode cX8_scheduled 55 = .ok (.sipush 129, 3) := by decide +kernel
theorem dX8_scheduled_58 : decode cX8_scheduled 58 = .ok (.iload_n 3, 1) := by decide +kernel
theorem dX8_scheduled_59 : decode cX8_scheduled 59 = .ok (.iadd, 1) := by decide +kernel
theorem dX8_scheduled_60 : decode cX8_scheduled 60 = .ok (.iaload, 1) := by decide +kernel
theorem dX8_scheduled_61 : decode cX8_scheduled 61 = .ok (.istore_n 2, 1) := by decide +kernel
theorem dX8_scheduled_62 : decode cX8_scheduled 62 = .ok (.iload 4, 2) := by decide +kernel
theorem dX8_scheduled_64 : decode cX8_scheduled 64 = .ok (.istore_n 1, 1) := by decide +kernel
theorem dX8_scheduled_65 : decode cX8_scheduled 65 = .ok (.iinc 3 1, 3) := by decide +kernel
theorem dX8_scheduled_68 : decode cX8_scheduled 68 = .ok (.goto (-50), 3) := by decide +kernel
theorem dX8_scheduled_71 : decode cX8_scheduled 71 = .ok (.goto 49, 3) := by decide +kernel
theorem dX8_scheduled_74 : decode cX8_scheduled 74 = .ok (.aload_n 0, 1) := by decide +kernel
theorem dX8_scheduled_75 : decode cX8_scheduled 75 = .ok (.getfield 7, 3) := by decide +kernel
theorem dX8_scheduled_78 : decode cX8_scheduled 78 = .ok (.bipush 124, 2) := by decide +kernel
theorem dX8_scheduled_80 : decode cX8_scheduled 80 = .ok (.iaload, 1) := by decide +kernel
theorem dX8_scheduled_81 : decode cX8_scheduled 81 = .ok (.iconst 2, 1) := by decide +kernel
theorem dX8_scheduled_82 : decode cX8_scheduled 82 = .ok (.if_icmp .ne 38, 3) := by decide +kernel
theorem dX8_scheduled_85 : decode cX8_scheduled 85 = .ok (.aload_n 0, 1) := by decide +kernel
theorem dX8_scheduled_86 : decode cX8_scheduled 86 = .ok (.getfield 150, 3) := by decide +kernel
theorem dX8_scheduled_89 : decode cX8_scheduled 89 = .ok (.iconst 1, 1) := by decide +kernel
theorem dX8_scheduled_90 : decode cX8_scheduled 90 = .ok (.iadd, 1) := by decide +kernel
theorem dX8_scheduled_91 : decode cX8_scheduled 91 = .ok (.bipush 6, 2) := by decide +kernel
theorem dX8_scheduled_93 : decode cX8_scheduled 93 = .ok (.irem, 1) := by decide +kernel
theorem dX8_scheduled_94 : decode cX8_scheduled 94 = .ok (.istore_n 2, 1) := by decide +kernel
theorem dX8_scheduled_95 : decode cX8_scheduled 95 = .ok (.aload_n 0, 1) := by decide +kernel
theorem dX8_scheduled_96 : decode cX8_scheduled 96 = .ok (.iload_n 2, 1) := by decide +kernel
theorem dX8_scheduled_97 : decode cX8_scheduled 97 = .ok (.invokevirtual 147, 3) := by decide +kernel
theorem dX8_scheduled_100 : decode cX8_scheduled 100 = .ok (.iconst (-1), 1) := by decide +kernel
theorem dX8_scheduled_101 : decode cX8_scheduled 101 = .ok (.if_icmp .ne 13, 3) := by decide +kernel
theorem dX8_scheduled_104 : decode cX8_scheduled 104 = .ok (.iload_n 2, 1) := by decide +kernel
theorem dX8_scheduled_105 : decode cX8_scheduled 105 = .ok (.iconst 1, 1) := by decide +kernel
theorem dX8_scheduled_106 : decode cX8_scheduled 106 = .ok (.iadd, 1) := by decide +kernel
theorem dX8_scheduled_107 : decode cX8_scheduled 107 = .ok (.bipush 6, 2) := by decide +kernel
theorem dX8_scheduled_109 : decode cX8_scheduled 109 = .ok (.irem, 1) := by decide +kernel
theorem dX8_scheduled_110 : decode cX8_scheduled 110 = .ok (.istore_n 2, 1) := by decide +kernel
theorem dX8_scheduled_111 : decode cX8_scheduled 111 = .ok (.goto (-16), 3) := by decide +kernel
theorem dX8_scheduled_114 : decode cX8_scheduled 114 = .ok (.aload_n 0, 1) := by decide +kernel
theorem dX8_scheduled_115 : decode cX8_scheduled 115 = .ok (.iload_n 2, 1) := by decide +kernel
theorem dX8_scheduled_116 : decode cX8_scheduled 116 = .ok (.invokevirtual 147, 3) := by decide +kernel
theorem dX8_scheduled_119 : decode cX8_scheduled 119 = .ok (.istore_n 1, 1) := by decide +kernel
theorem dX8_scheduled_120 : decode cX8_scheduled 120 = .ok (.aload_n 0, 1) := by decide +kernel
theorem dX8_scheduled_121 : decode cX8_scheduled 121 = .ok (.aload_n 0, 1) := by decide +kernel
theorem dX8_scheduled_122 : decode cX8_scheduled 122 = .ok (.aload_n 0, 1) := by decide +kernel
theorem dX8_scheduled_123 : decode cX8_scheduled 123 = .ok (.getfield 25, 3) := by decide +kernel
theorem dX8_scheduled_126 : decode cX8_scheduled 126 = .ok (.iload_n 1, 1) := by decide +kernel
theorem dX8_scheduled_127 : decode cX8_scheduled 127 = .ok (.iaload, 1) := by decide +kernel
theorem dX8_scheduled_128 : decode cX8_scheduled 128 = .ok (.iconst 1, 1) := by decide +kernel
theorem dX8_scheduled_129 : decode cX8_scheduled 129 = .ok (.invokevirtual 67, 3) := by decide +kernel
theorem dX8_scheduled_132 : decode cX8_scheduled 132 = .ok (.putfield 150, 3) := by decide +kernel
theorem dX8_scheduled_135 : decode cX8_scheduled 135 = .ok (.iload_n 1, 1) := by decide +kernel
theorem dX8_scheduled_136 : decode cX8_scheduled 136 = .ok (.ireturn, 1) := by decide +kernel
theorem dX8_chosen_0 : decode cX8_chosen 0 = .ok (.iconst 0, 1) := by decide +kernel
theorem dX8_chosen_1 : decode cX8_chosen 1 = .ok (.istore_n 1, 1) := by decide +kernel
theorem dX8_chosen_2 : decode cX8_chosen 2 = .ok (.iload_n 1, 1) := by decide +kernel
theorem dX8_chosen_3 : decode cX8_chosen 3 = .ok (.aload_n 0, 1) := by decide +kernel
theorem dX8_chosen_4 : decode cX8_chosen 4 = .ok (.getfield 107, 3) := by decide +kernel
theorem dX8_chosen_7 : decode cX8_chosen 7 = .ok (.if_icmp .ge 24, 3) := by decide +kernel
theorem dX8_chosen_10 : decode cX8_chosen 10 = .ok (.aload_n 0, 1) := by decide +kernel
theorem dX8_chosen_11 : decode cX8_chosen 11 = .ok (.aload_n 0, 1) := by decide +kernel
theorem dX8_chosen_12 : decode cX8_chosen 12 = .ok (.getfield 25, 3) := by decide +kernel
theorem dX8_chosen_15 : decode cX8_chosen 15 = .ok (.iload_n 1, 1) := by decide +kernel
theorem dX8_chosen_16 : decode cX8_chosen 16 = .ok (.iaload, 1) := by decide +kernel
theorem dX8_chosen_17 : decode cX8_chosen 17 = .ok (.invokevirtual 119, 3) := by decide +kernel
theorem dX8_chosen_20 : decode cX8_chosen 20 = .ok (.ifCond .ne 5, 3) := by decide +kernel
theorem dX8_chosen_23 : decode cX8_chosen 23 = .ok (.iload_n 1, 1) := by decide +kernel
theorem dX8_chosen_24 : decode cX8_chosen 24 = .ok (.ireturn, 1) := by decide +kernel
theorem dX8_chosen_25 : decode cX8_chosen 25 = .ok (.iinc 1 1, 3) := by decide +kernel
theorem dX8_chosen_28 : decode cX8_chosen 28 = .ok (.goto (-26), 3) := by decide +kernel
theorem dX8_chosen_31 : decode cX8_chosen 31 = .ok (.aload_n 0, 1) := by decide +kernel
theorem dX8_chosen_32 : decode cX8_chosen 32 = .ok (.invokevirtual 153, 3) := by decide +kernel
theorem dX8_chosen_35 : decode cX8_chosen 35 = .ok (.ireturn, 1) := by decide +kernel
theorem dX8_serves_0 : decode cX8_serves 0 = .ok (.aload_n 0, 1) := by decide +kernel
theorem dX8_serves_1 : decode cX8_serves 1 = .ok (.getfield 7, 3) := by decide +kernel
theorem dX8_serves_4 : decode cX8_serves 4 = .ok (.bipush 122, 2) := by decide +kernel
theorem dX8_serves_6 : decode cX8_serves 6 = .ok (.iaload, 1) := by decide +kernel
theorem dX8_serves_7 : decode cX8_serves 7 = .ok (.istore_n 2, 1) := by decide +kernel
theorem dX8_serves_8 : decode cX8_serves 8 = .ok (.iload_n 2, 1) := by decide +kernel
theorem dX8_serves_9 : decode cX8_serves 9 = .ok (.ifCond .le 101, 3) := by decide +kernel
theorem dX8_serves_12 : decode cX8_serves 12 = .ok (.aload_n 0, 1) := by decide +kernel
theorem dX8_serves_13 : decode cX8_serves 13 = .ok (.getfield 107, 3) := by decide +kernel
theorem dX8_serves_16 : decode cX8_serves 16 = .ok (.ifCond .le 94, 3) := by decide +kernel
theorem dX8_serves_19 : decode cX8_serves 19 = .ok (.aload_n 0, 1) := by decide +kernel
theorem dX8_serves_20 : decode cX8_serves 20 = .ok (.invokevirtual 156, 3) := by decide +kernel
theorem dX8_serves_23 : decode cX8_serves 23 = .ok (.istore_n 3, 1) := by decide +kernel
theorem dX8_serves_24 : decode cX8_serves 24 = .ok (.aload_n 0, 1) := by decide +kernel
theorem dX8_serves_25 : decode cX8_serves 25 = .ok (.getfield 25, 3) := by decide +kernel
theorem dX8_serves_28 : decode cX8_serves 28 = .ok (.iload_n 3, 1) := by decide +kernel
theorem dX8_serves_29 : decode cX8_serves 29 = .ok (.iaload, 1) := by decide +kernel
theorem dX8_serves_30 : decode cX8_serves 30 = .ok (.istore 4, 2) := by decide +kernel
theorem dX8_serves_32 : decode cX8_serves 32 = .ok (.aload_n 0, 1) := by decide +kernel
theorem dX8_serves_33 : decode cX8_serves 33 = .ok (.getfield 28, 3) := by decide +kernel
theorem dX8_serves_36 : decode cX8_serves 36 = .ok (.iload 4, 2) := by decide +kernel
theorem dX8_serves_38 : decode cX8_serves 38 = .ok (.iaload, 1) := by decide +kernel
theorem dX8_serves_39 : decode cX8_serves 39 = .ok (.iload_n 2, 1) := by decide +kernel
theorem dX8_serves_40 : decode cX8_serves 40 = .ok (.if_icmp .ge 13, 3) := by decide +kernel
theorem dX8_serves_43 : decode cX8_serves 43 = .ok (.aload_n 0, 1) := by decide +kernel
theorem dX8_serves_44 : decode cX8_serves 44 = .ok (.getfield 28, 3) := by decide +kernel
theorem dX8_serves_47 : decode cX8_serves 47 = .ok (.iload 4, 2) := by decide +kernel
theorem dX8_serves_49 : decode cX8_serves 49 = .ok (.iaload, 1) := by decide +kernel
theorem dX8_serves_50 : decode cX8_serves 50 = .ok (.goto 4, 3) := by decide +kernel
theorem dX8_serves_53 : decode cX8_serves 53 = .ok (.iload_n 2, 1) := by decide +kernel
theorem dX8_serves_54 : decode cX8_serves 54 = .ok (.istore 5, 2) := by decide +kernel
theorem dX8_serves_56 : decode cX8_serves 56 = .ok (.aload_n 0, 1) := by decide +kernel
theorem dX8_serves_57 : decode cX8_serves 57 = .ok (.getfield 28, 3) := by decide +kernel
theorem dX8_serves_60 : decode cX8_serves 60 = .ok (.iload 4, 2) := by decide +kernel
theorem dX8_serves_62 : decode cX8_serves 62 = .ok (.dup2, 1) := by decide +kernel
theorem dX8_serves_63 : decode cX8_serves 63 = .ok (.iaload, 1) := by decide +kernel
theorem dX8_serves_64 : decode cX8_serves 64 = .ok (.iload 5, 2) := by decide +kernel
theorem dX8_serves_66 : decode cX8_serves 66 = .ok (.isub, 1) := by decide +kernel
theorem dX8_serves_67 : decode cX8_serves 67 = .ok (.iastore, 1) := by decide +kernel
theorem dX8_serves_68 : decode cX8_serves 68 = .ok (.iload_n 2, 1) := by decide +kernel
theorem dX8_serves_69 : decode cX8_serves 69 = .ok (.iload 5, 2) := by decide +kernel
theorem dX8_serves_71 : decode cX8_serves 71 = .ok (.isub, 1) := by decide +kernel
theorem dX8_serves_72 : decode cX8_serves 72 = .ok (.istore_n 2, 1) := by decide +kernel
theorem dX8_serves_73 : decode cX8_serves 73 = .ok (.aload_n 0, 1) := by decide +kernel
theorem dX8_serves_74 : decode cX8_serves 74 = .ok (.dup, 1) := by decide +kernel
theorem dX8_serves_75 : decode cX8_serves 75 = .ok (.getfield 104, 3) := by decide +kernel
theorem dX8_serves_78 : decode cX8_serves 78 = .ok (.iload 5, 2) := by decide +kernel
theorem dX8_serves_80 : decode cX8_serves 80 = .ok (.isub, 1) := by decide +kernel
theorem dX8_serves_81 : decode cX8_serves 81 = .ok (.putfield 104, 3) := by decide +kernel
theorem dX8_serves_84 : decode cX8_serves 84 = .ok (.aload_n 0, 1) := by decide +kernel
theorem dX8_serves_85 : decode cX8_serves 85 = .ok (.getfield 28, 3) := by decide +kernel
theorem dX8_serves_88 : decode cX8_serves 88 = .ok (.iload 4, 2) := by decide +kernel
theorem dX8_serves_90 : decode cX8_serves 90 = .ok (.iaload, 1) := by decide +kernel
theorem dX8_serves_91 : decode cX8_serves 91 = .ok (.ifCond .ne 16, 3) := by decide +kernel
theorem dX8_serves_94 : decode cX8_serves 94 = .ok (.aload_n 0, 1) := by decide +kernel
theorem dX8_serves_95 : decode cX8_serves 95 = .ok (.iload_n 3, 1) := by decide +kernel
theorem dX8_serves_96 : decode cX8_serves 96 = .ok (.invokevirtual 113, 3) := by decide +kernel
theorem dX8_serves_99 : decode cX8_serves 99 = .ok (.aload_n 0, 1) := by decide +kernel
theorem dX8_serves_100 : decode cX8_serves 100 = .ok (.getfield 16, 3) := by decide +kernel
theorem dX8_serves_103 : decode cX8_serves 103 = .ok (.iload 4, 2) := by decide +kernel
theorem dX8_serves_105 : decode cX8_serves 105 = .ok (.iload_n 1, 1) := by decide +kernel
theorem dX8_serves_106 : decode cX8_serves 106 = .ok (.iastore, 1) := by decide +kernel
theorem dX8_serves_107 : decode cX8_serves 107 = .ok (.goto (-99), 3) := by decide +kernel
theorem dX8_serves_110 : decode cX8_serves 110 = .ok (.return_, 1) := by decide +kernel
theorem dX8_replays_0 : decode cX8_replays 0 = .ok (.aload_n 0, 1) := by decide +kernel
theorem dX8_replays_1 : decode cX8_replays 1 = .ok (.iconst 0, 1) := by decide +kernel
theorem dX8_replays_2 : decode cX8_replays 2 = .ok (.putfield 110, 3) := by decide +kernel
theorem dX8_replays_5 : decode cX8_replays 5 = .ok (.aload_n 0, 1) := by decide +kernel
theorem dX8_replays_6 : decode cX8_replays 6 = .ok (.iconst 0, 1) := by decide +kernel
theorem dX8_replays_7 : decode cX8_replays 7 = .ok (.putfield 107, 3) := by decide +kernel
theorem dX8_replays_10 : decode cX8_replays 10 = .ok (.aload_n 0, 1) := by decide +kernel
theorem dX8_replays_11 : decode cX8_replays 11 = .ok (.iconst 0, 1) := by decide +kernel
theorem dX8_replays_12 : decode cX8_replays 12 = .ok (.putfield 104, 3) := by decide +kernel
theorem dX8_replays_15 : decode cX8_replays 15 = .ok (.aload_n 0, 1) := by decide +kernel
theorem dX8_replays_16 : decode cX8_replays 16 = .ok (.iconst 0, 1) := by decide +kernel
theorem dX8_replays_17 : decode cX8_replays 17 = .ok (.putfield 141, 3) := by decide +kernel
theorem dX8_replays_20 : decode cX8_replays 20 = .ok (.aload_n 0, 1) := by decide +kernel
theorem dX8_replays_21 : decode cX8_replays 21 = .ok (.iconst 5, 1) := by decide +kernel
theorem dX8_replays_22 : decode cX8_replays 22 = .ok (.putfield 150, 3) := by decide +kernel
theorem dX8_replays_25 : decode cX8_replays 25 = .ok (.aload_n 0, 1) := by decide +kernel
theorem dX8_replays_26 : decode cX8_replays 26 = .ok (.iconst 0, 1) := by decide +kernel
theorem dX8_replays_27 : decode cX8_replays 27 = .ok (.putfield 159, 3) := by decide +kernel
theorem dX8_replays_30 : decode cX8_replays 30 = .ok (.iconst (-1), 1) := by decide +kernel
theorem dX8_replays_31 : decode cX8_replays 31 = .ok (.istore_n 2, 1) := by decide +kernel
theorem dX8_replays_32 : decode cX8_replays 32 = .ok (.iconst 0, 1) := by decide +kernel
theorem dX8_replays_33 : decode cX8_replays 33 = .ok (.istore_n 3, 1) := by decide +kernel
theorem dX8_replays_34 : decode cX8_replays 34 = .ok (.iload_n 3, 1) := by decide +kernel
theorem dX8_replays_35 : decode cX8_replays 35 = .ok (.aload_n 0, 1) := by decide +kernel
theorem dX8_replays_36 : decode cX8_replays 36 = .ok (.getfield 7, 3) := by decide +kernel
theorem dX8_replays_39 : decode cX8_replays 39 = .ok (.iconst 0, 1) := by decide +kernel
theorem dX8_replays_40 : decode cX8_replays 40 = .ok (.iaload, 1) := by decide +kernel
theorem dX8_replays_41 : decode cX8_replays 41 = .ok (.if_icmp .ge 37, 3) := by decide +kernel
theorem dX8_replays_44 : decode cX8_replays 44 = .ok (.aload_n 0, 1) := by decide +kernel
theorem dX8_replays_45 : decode cX8_replays 45 = .ok (.getfield 16, 3) := by decide +kernel
theorem dX8_replays_48 : decode cX8_replays 48 = .ok (.iload_n 3, 1) := by decide +kernel
theorem dX8_replays_49 : decode cX8_replays 49 = .ok (.bipush (-3), 2) := by decide +kernel
theorem dX8_replays_51 : decode cX8_replays 51 = .ok (.iastore, 1) := by decide +kernel
theorem dX8_replays_52 : decode cX8_replays 52 = .ok (.iload_n 1, 1) := by decide +kernel
theorem dX8_replays_53 : decode cX8_replays 53 = .ok (.aload_n 0, 1) := by decide +kernel
theorem dX8_replays_54 : decode cX8_replays 54 = .ok (.iload_n 3, 1) := by decide +kernel
theorem dX8_replays_55 : decode cX8_replays 55 = .ok (.iconst 1, 1) := by decide +kernel
theorem dX8_replays_56 : decode cX8_replays 56 = .ok (.invokevirtual 67, 3) := by decide +kernel
theorem dX8_replays_59 : decode cX8_replays 59 = .ok (.ishr, 1) := by decide +kernel
theorem dX8_replays_60 : decode cX8_replays 60 = .ok (.iconst 1, 1) := by decide +kernel
theorem dX8_replays_61 : decode cX8_replays 61 = .ok (.iand, 1) := by decide +kernel
theorem dX8_replays_62 : decode cX8_replays 62 = .ok (.iconst 1, 1) := by decide +kernel
theorem dX8_replays_63 : decode cX8_replays 63 = .ok (.if_icmp .ne 7, 3) := by decide +kernel
theorem dX8_replays_66 : decode cX8_replays 66 = .ok (.iload_n 3, 1) := by decide +kernel
theorem dX8_replays_67 : decode cX8_replays 67 = .ok (.goto 4, 3) := by decide +kernel
theorem dX8_replays_70 : decode cX8_replays 70 = .ok (.iload_n 2, 1) := by decide +kernel
theorem dX8_replays_71 : decode cX8_replays 71 = .ok (.istore_n 2, 1) := by decide +kernel
theorem dX8_replays_72 : decode cX8_replays 72 = .ok (.iinc 3 1, 3) := by decide +kernel
theorem dX8_replays_75 : decode cX8_replays 75 = .ok (.goto (-41), 3) := by decide +kernel
theorem dX8_replays_78 : decode cX8_replays 78 = .ok (.iconst 0, 1) := by decide +kernel
theorem dX8_replays_79 : decode cX8_replays 79 = .ok (.istore_n 3, 1) := by decide +kernel
theorem dX8_replays_80 : decode cX8_replays 80 = .ok (.iload_n 3, 1) := by decide +kernel
theorem dX8_replays_81 : decode cX8_replays 81 = .ok (.iload_n 2, 1) := by decide +kernel
theorem dX8_replays_82 : decode cX8_replays 82 = .ok (.if_icmp .le 10, 3) := by decide +kernel
theorem dX8_replays_85 : decode cX8_replays 85 = .ok (.aload_n 0, 1) := by decide +kernel
theorem dX8_replays_86 : decode cX8_replays 86 = .ok (.getfield 107, 3) := by decide +kernel
theorem dX8_replays_89 : decode cX8_replays 89 = .ok (.ifCond .le 80, 3) := by decide +kernel
theorem dX8_replays_92 : decode cX8_replays 92 = .ok (.iload_n 3, 1) := by decide +kernel
theorem dX8_replays_93 : decode cX8_replays 93 = .ok (.iload_n 2, 1) := by decide +kernel
theorem dX8_replays_94 : decode cX8_replays 94 = .ok (.if_icmp .gt 41, 3) := by decide +kernel
theorem dX8_replays_97 : decode cX8_replays 97 = .ok (.aload_n 0, 1) := by decide +kernel
theorem dX8_replays_98 : decode cX8_replays 98 = .ok (.iload_n 3, 1) := by decide +kernel
theorem dX8_replays_99 : decode cX8_replays 99 = .ok (.iconst 0, 1) := by decide +kernel
theorem dX8_replays_100 : decode cX8_replays 100 = .ok (.invokevirtual 67, 3) := by decide +kernel
theorem dX8_replays_103 : decode cX8_replays 103 = .ok (.aload_n 0, 1) := by decide +kernel
theorem dX8_replays_104 : decode cX8_replays 104 = .ok (.getfield 159, 3) := by decide +kernel
theorem dX8_replays_107 : decode cX8_replays 107 = .ok (.if_icmp .ne 28, 3) := by decide +kernel
theorem dX8_replays_110 : decode cX8_replays 110 = .ok (.iload_n 1, 1) := by decide +kernel
theorem dX8_replays_111 : decode cX8_replays 111 = .ok (.aload_n 0, 1) := by decide +kernel
theorem dX8_replays_112 : decode cX8_replays 112 = .ok (.iload_n 3, 1) := by decide +kernel
theorem dX8_replays_113 : decode cX8_replays 113 = .ok (.iconst 1, 1) := by decide +kernel
theorem dX8_replays_114 : decode cX8_replays 114 = .ok (.invokevirtual 67, 3) := by decide +kernel
theorem dX8_replays_117 : decode cX8_replays 117 = .ok (.ishr, 1) := by decide +kernel
theorem dX8_replays_118 : decode cX8_replays 118 = .ok (.iconst 1, 1) := by decide +kernel
theorem dX8_replays_119 : decode cX8_replays 119 = .ok (.iand, 1) := by decide +kernel
theorem dX8_replays_120 : decode cX8_replays 120 = .ok (.iconst 1, 1) := by decide +kernel
theorem dX8_replays_121 : decode cX8_replays 121 = .ok (.if_icmp .ne 8, 3) := by decide +kernel
theorem dX8_replays_124 : decode cX8_replays 124 = .ok (.aload_n 0, 1) := by decide +kernel
theorem dX8_replays_125 : decode cX8_replays 125 = .ok (.iload_n 3, 1) := by decide +kernel
theorem dX8_replays_126 : decode cX8_replays 126 = .ok (.invokevirtual 162, 3) := by decide +kernel
theorem dX8_replays_129 : decode cX8_replays 129 = .ok (.iinc 3 1, 3) := by decide +kernel
theorem dX8_replays_132 : decode cX8_replays 132 = .ok (.goto (-40), 3) := by decide +kernel
theorem dX8_replays_135 : decode cX8_replays 135 = .ok (.aload_n 0, 1) := by decide +kernel
theorem dX8_replays_136 : decode cX8_replays 136 = .ok (.aload_n 0, 1) := by decide +kernel
theorem dX8_replays_137 : decode cX8_replays 137 = .ok (.getfield 159, 3) := by decide +kernel
theorem dX8_replays_140 : decode cX8_replays 140 = .ok (.invokevirtual 165, 3) := by decide +kernel
theorem dX8_replays_143 : decode cX8_replays 143 = .ok (.aload_n 0, 1) := by decide +kernel
theorem dX8_replays_144 : decode cX8_replays 144 = .ok (.getfield 22, 3) := by decide +kernel
theorem dX8_replays_147 : decode cX8_replays 147 = .ok (.aload_n 0, 1) := by decide +kernel
theorem dX8_replays_148 : decode cX8_replays 148 = .ok (.getfield 159, 3) := by decide +kernel
theorem dX8_replays_151 : decode cX8_replays 151 = .ok (.aload_n 0, 1) := by decide +kernel
theorem dX8_replays_152 : decode cX8_replays 152 = .ok (.getfield 104, 3) := by decide +kernel
theorem dX8_replays_155 : decode cX8_replays 155 = .ok (.iastore, 1) := by decide +kernel
theorem dX8_replays_156 : decode cX8_replays 156 = .ok (.aload_n 0, 1) := by decide +kernel
theorem dX8_replays_157 : decode cX8_replays 157 = .ok (.dup, 1) := by decide +kernel
theorem dX8_replays_158 : decode cX8_replays 158 = .ok (.getfield 159, 3) := by decide +kernel
theorem dX8_replays_161 : decode cX8_replays 161 = .ok (.iconst 1, 1) := by decide +kernel
theorem dX8_replays_162 : decode cX8_replays 162 = .ok (.iadd, 1) := by decide +kernel
theorem dX8_replays_163 : decode cX8_replays 163 = .ok (.putfield 159, 3) := by decide +kernel
theorem dX8_replays_166 : decode cX8_replays 166 = .ok (.goto (-86), 3) := by decide +kernel
theorem dX8_replays_169 : decode cX8_replays 169 = .ok (.return_, 1) := by decide +kernel
theorem dX8_worthOf_0 : decode cX8_worthOf 0 = .ok (.aload_n 0, 1) := by decide +kernel
theorem dX8_worthOf_1 : decode cX8_worthOf 1 = .ok (.iload_n 1, 1) := by decide +kernel
theorem dX8_worthOf_2 : decode cX8_worthOf 2 = .ok (.invokevirtual 168, 3) := by decide +kernel
theorem dX8_worthOf_5 : decode cX8_worthOf 5 = .ok (.iconst 0, 1) := by decide +kernel
theorem dX8_worthOf_6 : decode cX8_worthOf 6 = .ok (.istore_n 3, 1) := by decide +kernel
theorem dX8_worthOf_7 : decode cX8_worthOf 7 = .ok (.iconst 0, 1) := by decide +kernel
theorem dX8_worthOf_8 : decode cX8_worthOf 8 = .ok (.istore 4, 2) := by decide +kernel
theorem dX8_worthOf_10 : decode cX8_worthOf 10 = .ok (.iload 4, 2) := by decide +kernel
theorem dX8_worthOf_12 : decode cX8_worthOf 12 = .ok (.aload_n 0, 1) := by decide +kernel
theorem dX8_worthOf_13 : decode cX8_worthOf 13 = .ok (.getfield 7, 3) := by decide +kernel
theorem dX8_worthOf_16 : decode cX8_worthOf 16 = .ok (.iconst 0, 1) := by decide +kernel
theorem dX8_worthOf_17 : decode cX8_worthOf 17 = .ok (.iaload, 1) := by decide +kernel
theorem dX8_worthOf_18 : decode cX8_worthOf 18 = .ok (.if_icmp .ge 145, 3) := by decide +kernel
theorem dX8_worthOf_21 : decode cX8_worthOf 21 = .ok (.aload_n 0, 1) := by decide +kernel
theorem dX8_worthOf_22 : decode cX8_worthOf 22 = .ok (.getfield 16, 3) := by decide +kernel
theorem dX8_worthOf_25 : decode cX8_worthOf 25 = .ok (.iload 4, 2) := by decide +kernel
theorem dX8_worthOf_27 : decode cX8_worthOf 27 = .ok (.iaload, 1) := by decide +kernel
theorem dX8_worthOf_28 : decode cX8_worthOf 28 = .ok (.bipush (-3), 2) := by decide +kernel
theorem dX8_worthOf_30 : decode cX8_worthOf 30 = .ok (.if_icmp .eq 23, 3) := by decide +kernel
theorem dX8_worthOf_33 : decode cX8_worthOf 33 = .ok (.iload_n 2, 1) := by decide +kernel
theorem dX8_worthOf_34 : decode cX8_worthOf 34 = .ok (.iconst (-1), 1) := by decide +kernel
theorem dX8_worthOf_35 : decode cX8_worthOf 35 = .ok (.if_icmp .eq 14, 3) := by decide +kernel
theorem dX8_worthOf_38 : decode cX8_worthOf 38 = .ok (.aload_n 0, 1) := by decide +kernel
theorem dX8_worthOf_39 : decode cX8_worthOf 39 = .ok (.iload 4, 2) := by decide +kernel
theorem dX8_worthOf_41 : decode cX8_worthOf 41 = .ok (.iconst 1, 1) := by decide +kernel
theorem dX8_worthOf_42 : decode cX8_worthOf 42 = .ok (.invokevirtual 67, 3) := by decide +kernel
theorem dX8_worthOf_45 : decode cX8_worthOf 45 = .ok (.iload_n 2, 1) := by decide +kernel
theorem dX8_worthOf_46 : decode cX8_worthOf 46 = .ok (.if_icmp .ne 7, 3) := by decide +kernel
theorem dX8_worthOf_49 : decode cX8_worthOf 49 = .ok (.iconst 1, 1) := by decide +kernel
theorem dX8_worthOf_50 : decode cX8_worthOf 50 = .ok (.goto 4, 3) := by decide +kernel
theorem dX8_worthOf_53 : decode cX8_worthOf 53 = .ok (.iconst 0, 1) := by decide +kernel
theorem dX8_worthOf_54 : decode cX8_worthOf 54 = .ok (.istore 5, 2) := by decide +kernel
theorem dX8_worthOf_56 : decode cX8_worthOf 56 = .ok (.aload_n 0, 1) := by decide +kernel
theorem dX8_worthOf_57 : decode cX8_worthOf 57 = .ok (.getfield 16, 3) := by decide +kernel
theorem dX8_worthOf_60 : decode cX8_worthOf 60 = .ok (.iload 4, 2) := by decide +kernel
theorem dX8_worthOf_62 : decode cX8_worthOf 62 = .ok (.iaload, 1) := by decide +kernel
theorem dX8_worthOf_63 : decode cX8_worthOf 63 = .ok (.bipush (-2), 2) := by decide +kernel
theorem dX8_worthOf_65 : decode cX8_worthOf 65 = .ok (.if_icmp .ne 7, 3) := by decide +kernel
theorem dX8_worthOf_68 : decode cX8_worthOf 68 = .ok (.iconst 1, 1) := by decide +kernel
theorem dX8_worthOf_69 : decode cX8_worthOf 69 = .ok (.goto 4, 3) := by decide +kernel
theorem dX8_worthOf_72 : decode cX8_worthOf 72 = .ok (.iconst 0, 1) := by decide +kernel
theorem dX8_worthOf_73 : decode cX8_worthOf 73 = .ok (.istore 6, 2) := by decide +kernel
theorem dX8_worthOf_75 : decode cX8_worthOf 75 = .ok (.iload 5, 2) := by decide +kernel
theorem dX8_worthOf_77 : decode cX8_worthOf 77 = .ok (.ifCond .eq 52, 3) := by decide +kernel
theorem dX8_worthOf_80 : decode cX8_worthOf 80 = .ok (.aload_n 0, 1) := by decide +kernel
theorem dX8_worthOf_81 : decode cX8_worthOf 81 = .ok (.getfield 7, 3) := by decide +kernel
theorem dX8_worthOf_84 : decode cX8_worthOf 84 = .ok (.sipush 128, 3) := by decide +kernel
theorem dX8_worthOf_87 : decode cX8_worthOf 87 = .ok (.iaload, 1) := by decide +kernel
theorem dX8_worthOf_88 : decode cX8_worthOf 88 = .ok (.iconst 2, 1) := by decide +kernel
theorem dX8_worthOf_89 : decode cX8_worthOf 89 = .ok (.if_icmp .ge 40, 3) := by decide +kernel
theorem dX8_worthOf_92 : decode cX8_worthOf 92 = .ok (.iload_n 3, 1) := by decide +kernel
theorem dX8_worthOf_93 : decode cX8_worthOf 93 = .ok (.iload 6, 2) := by decide +kernel
theorem dX8_worthOf_95 : decode cX8_worthOf 95 = .ok (.ifCond .ne 7, 3) := by decide +kernel
theorem dX8_worthOf_98 : decode cX8_worthOf 98 = .ok (.iconst 0, 1) := by decide +kernel
theorem dX8_worthOf_99 : decode cX8_worthOf 99 = .ok (.goto 25, 3) := by decide +kernel
theorem dX8_worthOf_102 : decode cX8_worthOf 102 = .ok (.aload_n 0, 1) := by decide +kernel
theorem dX8_worthOf_103 : decode cX8_worthOf 103 = .ok (.getfield 7, 3) := by decide +kernel
theorem dX8_worthOf_106 : decode cX8_worthOf 106 = .ok (.sipush 128, 3) := by decide +kernel
theorem dX8_worthOf_109 : decode cX8_worthOf 109 = .ok (.iaload, 1) := by decide +kernel
theorem dX8_worthOf_110 : decode cX8_worthOf 110 = .ok (.ifCond .ne 7, 3) := by decide +kernel
theorem dX8_worthOf_113 : decode cX8_worthOf 113 = .ok (.iconst 1, 1) := by decide +kernel
theorem dX8_worthOf_114 : decode cX8_worthOf 114 = .ok (.goto 10, 3) := by decide +kernel
theorem dX8_worthOf_117 : decode cX8_worthOf 117 = .ok (.aload_n 0, 1) := by decide +kernel
theorem dX8_worthOf_118 : decode cX8_worthOf 118 = .ok (.iload 4, 2) := by decide +kernel
theorem dX8_worthOf_120 : decode cX8_worthOf 120 = .ok (.iconst 2, 1) := by decide +kernel
theorem dX8_worthOf_121 : decode cX8_worthOf 121 = .ok (.invokevirtual 67, 3) := by decide +kernel
theorem dX8_worthOf_124 : decode cX8_worthOf 124 = .ok (.iadd, 1) := by decide +kernel
theorem dX8_worthOf_125 : decode cX8_worthOf 125 = .ok (.istore_n 3, 1) := by decide +kernel
theorem dX8_worthOf_126 : decode cX8_worthOf 126 = .ok (.goto 31, 3) := by decide +kernel
theorem dX8_worthOf_129 : decode cX8_worthOf 129 = .ok (.iload 5, 2) := by decide +kernel
theorem dX8_worthOf_131 : decode cX8_worthOf 131 = .ok (.ifCond .eq 26, 3) := by decide +kernel
theorem dX8_worthOf_134 : decode cX8_worthOf 134 = .ok (.iload 6, 2) := by decide +kernel
theorem dX8_worthOf_136 : decode cX8_worthOf 136 = .ok (.ifCond .ne 21, 3) := by decide +kernel
theorem dX8_worthOf_139 : decode cX8_worthOf 139 = .ok (.iload_n 3, 1) := by decide +kernel
theorem dX8_worthOf_140 : decode cX8_worthOf 140 = .ok (.aload_n 0, 1) := by decide +kernel
theorem dX8_worthOf_141 : decode cX8_worthOf 141 = .ok (.getfield 16, 3) := by decide +kernel
theorem dX8_worthOf_144 : decode cX8_worthOf 144 = .ok (.iload 4, 2) := by decide +kernel
theorem dX8_worthOf_146 : decode cX8_worthOf 146 = .ok (.iaload, 1) := by decide +kernel
theorem dX8_worthOf_147 : decode cX8_worthOf 147 = .ok (.aload_n 0, 1) := by decide +kernel
theorem dX8_worthOf_148 : decode cX8_worthOf 148 = .ok (.iload 4, 2) := by decide +kernel
theorem dX8_worthOf_150 : decode cX8_worthOf 150 = .ok (.iconst 0, 1) := by decide +kernel
theorem dX8_worthOf_151 : decode cX8_worthOf 151 = .ok (.invokevirtual 67, 3) := by decide +kernel
theorem dX8_worthOf_154 : decode cX8_worthOf 154 = .ok (.isub, 1) := by decide +kernel
theorem dX8_worthOf_155 : decode cX8_worthOf 155 = .ok (.iadd, 1) := by decide +kernel
theorem dX8_worthOf_156 : decode cX8_worthOf 156 = .ok (.istore_n 3, 1) := by decide +kernel
theorem dX8_worthOf_157 : decode cX8_worthOf 157 = .ok (.iinc 4 1, 3) := by decide +kernel
theorem dX8_worthOf_160 : decode cX8_worthOf 160 = .ok (.goto (-150), 3) := by decide +kernel
theorem dX8_worthOf_163 : decode cX8_worthOf 163 = .ok (.iload_n 3, 1) := by decide +kernel
theorem dX8_worthOf_164 : decode cX8_worthOf 164 = .ok (.ireturn, 1) := by decide +kernel
theorem dX8_replay_0 : decode cX8_replay 0 = .ok (.aload_n 0, 1) := by decide +kernel
theorem dX8_replay_1 : decode cX8_replay 1 = .ok (.iload_n 1, 1) := by decide +kernel
theorem dX8_replay_2 : decode cX8_replay 2 = .ok (.iconst 0, 1) := by decide +kernel
theorem dX8_replay_3 : decode cX8_replay 3 = .ok (.bipush 63, 2) := by decide +kernel
theorem dX8_replay_5 : decode cX8_replay 5 = .ok (.invokestatic 59, 3) := by decide +kernel
theorem dX8_replay_8 : decode cX8_replay 8 = .ok (.ifCond .eq 7, 3) := by decide +kernel
theorem dX8_replay_11 : decode cX8_replay 11 = .ok (.iconst 0, 1) := by decide +kernel
theorem dX8_replay_12 : decode cX8_replay 12 = .ok (.goto 4, 3) := by decide +kernel
theorem dX8_replay_15 : decode cX8_replay 15 = .ok (.iconst 1, 1) := by decide +kernel
theorem dX8_replay_16 : decode cX8_replay 16 = .ok (.invokevirtual 75, 3) := by decide +kernel
theorem dX8_replay_19 : decode cX8_replay 19 = .ok (.ifCond .eq 5, 3) := by decide +kernel
theorem dX8_replay_22 : decode cX8_replay 22 = .ok (.iconst 0, 1) := by decide +kernel
theorem dX8_replay_23 : decode cX8_replay 23 = .ok (.ireturn, 1) := by decide +kernel
theorem dX8_replay_24 : decode cX8_replay 24 = .ok (.aload_n 0, 1) := by decide +kernel
theorem dX8_replay_25 : decode cX8_replay 25 = .ok (.iload_n 1, 1) := by decide +kernel
theorem dX8_replay_26 : decode cX8_replay 26 = .ok (.invokevirtual 168, 3) := by decide +kernel
theorem dX8_replay_29 : decode cX8_replay 29 = .ok (.aload_n 0, 1) := by decide +kernel
theorem dX8_replay_30 : decode cX8_replay 30 = .ok (.iconst 1, 1) := by decide +kernel
theorem dX8_replay_31 : decode cX8_replay 31 = .ok (.putfield 171, 3) := by decide +kernel
theorem dX8_replay_34 : decode cX8_replay 34 = .ok (.aload_n 0, 1) := by decide +kernel
theorem dX8_replay_35 : decode cX8_replay 35 = .ok (.aload_n 0, 1) := by decide +kernel
theorem dX8_replay_36 : decode cX8_replay 36 = .ok (.getfield 7, 3) := by decide +kernel
theorem dX8_replay_39 : decode cX8_replay 39 = .ok (.iconst 0, 1) := by decide +kernel
theorem dX8_replay_40 : decode cX8_replay 40 = .ok (.iaload, 1) := by decide +kernel
theorem dX8_replay_41 : decode cX8_replay 41 = .ok (.putfield 175, 3) := by decide +kernel
theorem dX8_replay_44 : decode cX8_replay 44 = .ok (.aload_n 0, 1) := by decide +kernel
theorem dX8_replay_45 : decode cX8_replay 45 = .ok (.aload_n 0, 1) := by decide +kernel
theorem dX8_replay_46 : decode cX8_replay 46 = .ok (.getfield 110, 3) := by decide +kernel
theorem dX8_replay_49 : decode cX8_replay 49 = .ok (.putfield 178, 3) := by decide +kernel
theorem dX8_replay_52 : decode cX8_replay 52 = .ok (.aload_n 0, 1) := by decide +kernel
theorem dX8_replay_53 : decode cX8_replay 53 = .ok (.aload_n 0, 1) := by decide +kernel
theorem dX8_replay_54 : decode cX8_replay 54 = .ok (.getfield 159, 3) := by decide +kernel
theorem dX8_replay_57 : decode cX8_replay 57 = .ok (.putfield 181, 3) := by decide +kernel
theorem dX8_replay_60 : decode cX8_replay 60 = .ok (.iconst 0, 1) := by decide +kernel
theorem dX8_replay_61 : decode cX8_replay 61 = .ok (.istore_n 2, 1) := by decide +kernel
theorem dX8_replay_62 : decode cX8_replay 62 = .ok (.iload_n 2, 1) := by decide +kernel
theorem dX8_replay_63 : decode cX8_replay 63 = .ok (.aload_n 0, 1) := by decide +kernel
theorem dX8_replay_64 : decode cX8_replay 64 = .ok (.getfield 175, 3) := by decide +kernel
theorem dX8_replay_67 : decode cX8_replay 67 = .ok (.if_icmp .ge 21, 3) := by decide +kernel
theorem dX8_replay_70 : decode cX8_replay 70 = .ok (.aload_n 0, 1) := by decide +kernel
theorem dX8_replay_71 : decode cX8_replay 71 = .ok (.getfield 31, 3) := by decide +kernel
theorem dX8_replay_74 : decode cX8_replay 74 = .ok (.iload_n 2, 1) := by decide +kernel
theorem dX8_replay_75 : decode cX8_replay 75 = .ok (.aload_n 0, 1) := by decide +kernel
theorem dX8_replay_76 : decode cX8_replay 76 = .ok (.getfield 16, 3) := by decide +kernel
theorem dX8_replay_79 : decode cX8_replay 79 = .ok (.iload_n 2, 1) := by decide +kernel
theorem dX8_replay_80 : decode cX8_replay 80 = .ok (.iaload, 1) := by decide +kernel
theorem dX8_replay_81 : decode cX8_replay 81 = .ok (.iastore, 1) := by decide +kernel
theorem dX8_replay_82 : decode cX8_replay 82 = .ok (.iinc 2 1, 3) := by decide +kernel
theorem dX8_replay_85 : decode cX8_replay 85 = .ok (.goto (-23), 3) := by decide +kernel
theorem dX8_replay_88 : decode cX8_replay 88 = .ok (.iconst 0, 1) := by decide +kernel
theorem dX8_replay_89 : decode cX8_replay 89 = .ok (.istore_n 2, 1) := by decide +kernel
theorem dX8_replay_90 : decode cX8_replay 90 = .ok (.iload_n 2, 1) := by decide +kernel
theorem dX8_replay_91 : decode cX8_replay 91 = .ok (.aload_n 0, 1) := by decide +kernel
theorem dX8_replay_92 : decode cX8_replay 92 = .ok (.getfield 110, 3) := by decide +kernel
theorem dX8_replay_95 : decode cX8_replay 95 = .ok (.if_icmp .ge 21, 3) := by decide +kernel
theorem dX8_replay_98 : decode cX8_replay 98 = .ok (.aload_n 0, 1) := by decide +kernel
theorem dX8_replay_99 : decode cX8_replay 99 = .ok (.getfield 34, 3) := by decide +kernel
theorem dX8_replay_102 : decode cX8_replay 102 = .ok (.iload_n 2, 1) := by decide +kernel
theorem dX8_replay_103 : decode cX8_replay 103 = .ok (.aload_n 0, 1) := by decide +kernel
theorem dX8_replay_104 : decode cX8_replay 104 = .ok (.getfield 19, 3) := by decide +kernel
theorem dX8_replay_107 : decode cX8_replay 107 = .ok (.iload_n 2, 1) := by decide +kernel
theorem dX8_replay_108 : decode cX8_replay 108 = .ok (.iaload, 1) := by decide +kernel
theorem dX8_replay_109 : decode cX8_replay 109 = .ok (.iastore, 1) := by decide +kernel
theorem dX8_replay_110 : decode cX8_replay 110 = .ok (.iinc 2 1, 3) := by decide +kernel
theorem dX8_replay_113 : decode cX8_replay 113 = .ok (.goto (-23), 3) := by decide +kernel
theorem dX8_replay_116 : decode cX8_replay 116 = .ok (.iconst 0, 1) := by decide +kernel
theorem dX8_replay_117 : decode cX8_replay 117 = .ok (.istore_n 2, 1) := by decide +kernel
theorem dX8_replay_118 : decode cX8_replay 118 = .ok (.iload_n 2, 1) := by decide +kernel
theorem dX8_replay_119 : decode cX8_replay 119 = .ok (.aload_n 0, 1) := by decide +kernel
theorem dX8_replay_120 : decode cX8_replay 120 = .ok (.getfield 159, 3) := by decide +kernel
theorem dX8_replay_123 : decode cX8_replay 123 = .ok (.if_icmp .ge 21, 3) := by decide +kernel
theorem dX8_replay_126 : decode cX8_replay 126 = .ok (.aload_n 0, 1) := by decide +kernel
theorem dX8_replay_127 : decode cX8_replay 127 = .ok (.getfield 37, 3) := by decide +kernel
theorem dX8_replay_130 : decode cX8_replay 130 = .ok (.iload_n 2, 1) := by decide +kernel
theorem dX8_replay_131 : decode cX8_replay 131 = .ok (.aload_n 0, 1) := by decide +kernel
theorem dX8_replay_132 : decode cX8_replay 132 = .ok (.getfield 22, 3) := by decide +kernel
theorem dX8_replay_135 : decode cX8_replay 135 = .ok (.iload_n 2, 1) := by decide +kernel
theorem dX8_replay_136 : decode cX8_replay 136 = .ok (.iaload, 1) := by decide +kernel
theorem dX8_replay_137 : decode cX8_replay 137 = .ok (.iastore, 1) := by decide +kernel
theorem dX8_replay_138 : decode cX8_replay 138 = .ok (.iinc 2 1, 3) := by decide +kernel
theorem dX8_replay_141 : decode cX8_replay 141 = .ok (.goto (-23), 3) := by decide +kernel
theorem dX8_replay_144 : decode cX8_replay 144 = .ok (.aload_n 0, 1) := by decide +kernel
theorem dX8_replay_145 : decode cX8_replay 145 = .ok (.getfield 110, 3) := by decide +kernel
theorem dX8_replay_148 : decode cX8_replay 148 = .ok (.ireturn, 1) := by decide +kernel
theorem dX8_fate_0 : decode cX8_fate 0 = .ok (.aload_n 0, 1) := by decide +kernel
theorem dX8_fate_1 : decode cX8_fate 1 = .ok (.iconst 0, 1) := by decide +kernel
theorem dX8_fate_2 : decode cX8_fate 2 = .ok (.putfield 52, 3) := by decide +kernel
theorem dX8_fate_5 : decode cX8_fate 5 = .ok (.aload_n 0, 1) := by decide +kernel
theorem dX8_fate_6 : decode cX8_fate 6 = .ok (.getfield 171, 3) := by decide +kernel
theorem dX8_fate_9 : decode cX8_fate 9 = .ok (.ifCond .eq 26, 3) := by decide +kernel
theorem dX8_fate_12 : decode cX8_fate 12 = .ok (.iload_n 1, 1) := by decide +kernel
theorem dX8_fate_13 : decode cX8_fate 13 = .ok (.iconst 0, 1) := by decide +kernel
theorem dX8_fate_14 : decode cX8_fate 14 = .ok (.aload_n 0, 1) := by decide +kernel
theorem dX8_fate_15 : decode cX8_fate 15 = .ok (.getfield 175, 3) := by decide +kernel
theorem dX8_fate_18 : decode cX8_fate 18 = .ok (.iconst 1, 1) := by decide +kernel
theorem dX8_fate_19 : decode cX8_fate 19 = .ok (.isub, 1) := by decide +kernel
theorem dX8_fate_20 : decode cX8_fate 20 = .ok (.invokestatic 59, 3) := by decide +kernel
theorem dX8_fate_23 : decode cX8_fate 23 = .ok (.ifCond .eq 12, 3) := by decide +kernel
theorem dX8_fate_26 : decode cX8_fate 26 = .ok (.aload_n 0, 1) := by decide +kernel
theorem dX8_fate_27 : decode cX8_fate 27 = .ok (.getfield 31, 3) := by decide +kernel
theorem dX8_fate_30 : decode cX8_fate 30 = .ok (.iload_n 1, 1) := by decide +kernel
theorem dX8_fate_31 : decode cX8_fate 31 = .ok (.iaload, 1) := by decide +kernel
theorem dX8_fate_32 : decode cX8_fate 32 = .ok (.goto 4, 3) := by decide +kernel
theorem dX8_fate_35 : decode cX8_fate 35 = .ok (.iconst (-1), 1) := by decide +kernel
theorem dX8_fate_36 : decode cX8_fate 36 = .ok (.ireturn, 1) := by decide +kernel
theorem dX8_loadAt_0 : decode cX8_loadAt 0 = .ok (.aload_n 0, 1) := by decide +kernel
theorem dX8_loadAt_1 : decode cX8_loadAt 1 = .ok (.iconst 0, 1) := by decide +kernel
theorem dX8_loadAt_2 : decode cX8_loadAt 2 = .ok (.putfield 52, 3) := by decide +kernel
theorem dX8_loadAt_5 : decode cX8_loadAt 5 = .ok (.aload_n 0, 1) := by decide +kernel
theorem dX8_loadAt_6 : decode cX8_loadAt 6 = .ok (.getfield 171, 3) := by decide +kernel
theorem dX8_loadAt_9 : decode cX8_loadAt 9 = .ok (.ifCond .eq 7, 3) := by decide +kernel
theorem dX8_loadAt_12 : decode cX8_loadAt 12 = .ok (.iload_n 1, 1) := by decide +kernel
theorem dX8_loadAt_13 : decode cX8_loadAt 13 = .ok (.ifCond .ge 7, 3) := by decide +kernel
theorem dX8_loadAt_16 : decode cX8_loadAt 16 = .ok (.iconst (-1), 1) := by decide +kernel
theorem dX8_loadAt_17 : decode cX8_loadAt 17 = .ok (.goto 21, 3) := by decide +kernel
theorem dX8_loadAt_20 : decode cX8_loadAt 20 = .ok (.iload_n 1, 1) := by decide +kernel
theorem dX8_loadAt_21 : decode cX8_loadAt 21 = .ok (.aload_n 0, 1) := by decide +kernel
theorem dX8_loadAt_22 : decode cX8_loadAt 22 = .ok (.getfield 181, 3) := by decide +kernel
theorem dX8_loadAt_25 : decode cX8_loadAt 25 = .ok (.if_icmp .ge 12, 3) := by decide +kernel
theorem dX8_loadAt_28 : decode cX8_loadAt 28 = .ok (.aload_n 0, 1) := by decide +kernel
theorem dX8_loadAt_29 : decode cX8_loadAt 29 = .ok (.getfield 37, 3) := by decide +kernel
theorem dX8_loadAt_32 : decode cX8_loadAt 32 = .ok (.iload_n 1, 1) := by decide +kernel
theorem dX8_loadAt_33 : decode cX8_loadAt 33 = .ok (.iaload, 1) := by decide +kernel
theorem dX8_loadAt_34 : decode cX8_loadAt 34 = .ok (.goto 4, 3) := by decide +kernel
theorem dX8_loadAt_37 : decode cX8_loadAt 37 = .ok (.iconst 0, 1) := by decide +kernel
theorem dX8_loadAt_38 : decode cX8_loadAt 38 = .ok (.ireturn, 1) := by decide +kernel
theorem dX8_peak_0 : decode cX8_peak 0 = .ok (.aload_n 0, 1) := by decide +kernel
theorem dX8_peak_1 : decode cX8_peak 1 = .ok (.iconst 0, 1) := by decide +kernel
theorem dX8_peak_2 : decode cX8_peak 2 = .ok (.putfield 52, 3) := by decide +kernel
theorem dX8_peak_5 : decode cX8_peak 5 = .ok (.aload_n 0, 1) := by decide +kernel
theorem dX8_peak_6 : decode cX8_peak 6 = .ok (.getfield 171, 3) := by decide +kernel
theorem dX8_peak_9 : decode cX8_peak 9 = .ok (.ifCond .eq 7, 3) := by decide +kernel
theorem dX8_peak_12 : decode cX8_peak 12 = .ok (.iconst 0, 1) := by decide +kernel
theorem dX8_peak_13 : decode cX8_peak 13 = .ok (.goto 4, 3) := by decide +kernel
theorem dX8_peak_16 : decode cX8_peak 16 = .ok (.iconst (-1), 1) := by decide +kernel
theorem dX8_peak_17 : decode cX8_peak 17 = .ok (.istore_n 1, 1) := by decide +kernel
theorem dX8_peak_18 : decode cX8_peak 18 = .ok (.iconst 0, 1) := by decide +kernel
theorem dX8_peak_19 : decode cX8_peak 19 = .ok (.istore_n 2, 1) := by decide +kernel
theorem dX8_peak_20 : decode cX8_peak 20 = .ok (.iload_n 2, 1) := by decide +kernel
theorem dX8_peak_21 : decode cX8_peak 21 = .ok (.aload_n 0, 1) := by decide +kernel
theorem dX8_peak_22 : decode cX8_peak 22 = .ok (.getfield 181, 3) := by decide +kernel
theorem dX8_peak_25 : decode cX8_peak 25 = .ok (.if_icmp .ge 30, 3) := by decide +kernel
theorem dX8_peak_28 : decode cX8_peak 28 = .ok (.aload_n 0, 1) := by decide +kernel
theorem dX8_peak_29 : decode cX8_peak 29 = .ok (.getfield 37, 3) := by decide +kernel
theorem dX8_peak_32 : decode cX8_peak 32 = .ok (.iload_n 2, 1) := by decide +kernel
theorem dX8_peak_33 : decode cX8_peak 33 = .ok (.iaload, 1) := by decide +kernel
theorem dX8_peak_34 : decode cX8_peak 34 = .ok (.iload_n 1, 1) := by decide +kernel
theorem dX8_peak_35 : decode cX8_peak 35 = .ok (.if_icmp .le 12, 3) := by decide +kernel
theorem dX8_peak_38 : decode cX8_peak 38 = .ok (.aload_n 0, 1) := by decide +kernel
theorem dX8_peak_39 : decode cX8_peak 39 = .ok (.getfield 37, 3) := by decide +kernel
theorem dX8_peak_42 : decode cX8_peak 42 = .ok (.iload_n 2, 1) := by decide +kernel
theorem dX8_peak_43 : decode cX8_peak 43 = .ok (.iaload, 1) := by decide +kernel
theorem dX8_peak_44 : decode cX8_peak 44 = .ok (.goto 4, 3) := by decide +kernel
theorem dX8_peak_47 : decode cX8_peak 47 = .ok (.iload_n 1, 1) := by decide +kernel
theorem dX8_peak_48 : decode cX8_peak 48 = .ok (.istore_n 1, 1) := by decide +kernel
theorem dX8_peak_49 : decode cX8_peak 49 = .ok (.iinc 2 1, 3) := by decide +kernel
theorem dX8_peak_52 : decode cX8_peak 52 = .ok (.goto (-32), 3) := by decide +kernel
theorem dX8_peak_55 : decode cX8_peak 55 = .ok (.iload_n 1, 1) := by decide +kernel
theorem dX8_peak_56 : decode cX8_peak 56 = .ok (.ireturn, 1) := by decide +kernel
theorem dX8_dropped_0 : decode cX8_dropped 0 = .ok (.aload_n 0, 1) := by decide +kernel
theorem dX8_dropped_1 : decode cX8_dropped 1 = .ok (.iconst 0, 1) := by decide +kernel
theorem dX8_dropped_2 : decode cX8_dropped 2 = .ok (.putfield 52, 3) := by decide +kernel
theorem dX8_dropped_5 : decode cX8_dropped 5 = .ok (.aload_n 0, 1) := by decide +kernel
theorem dX8_dropped_6 : decode cX8_dropped 6 = .ok (.getfield 171, 3) := by decide +kernel
theorem dX8_dropped_9 : decode cX8_dropped 9 = .ok (.ifCond .eq 26, 3) := by decide +kernel
theorem dX8_dropped_12 : decode cX8_dropped 12 = .ok (.iload_n 1, 1) := by decide +kernel
theorem dX8_dropped_13 : decode cX8_dropped 13 = .ok (.iconst 0, 1) := by decide +kernel
theorem dX8_dropped_14 : decode cX8_dropped 14 = .ok (.aload_n 0, 1) := by decide +kernel
theorem dX8_dropped_15 : decode cX8_dropped 15 = .ok (.getfield 178, 3) := by decide +kernel
theorem dX8_dropped_18 : decode cX8_dropped 18 = .ok (.iconst 1, 1) := by decide +kernel
theorem dX8_dropped_19 : decode cX8_dropped 19 = .ok (.isub, 1) := by decide +kernel
theorem dX8_dropped_20 : decode cX8_dropped 20 = .ok (.invokestatic 59, 3) := by decide +kernel
theorem dX8_dropped_23 : decode cX8_dropped 23 = .ok (.ifCond .eq 12, 3) := by decide +kernel
theorem dX8_dropped_26 : decode cX8_dropped 26 = .ok (.aload_n 0, 1) := by decide +kernel
theorem dX8_dropped_27 : decode cX8_dropped 27 = .ok (.getfield 34, 3) := by decide +kernel
theorem dX8_dropped_30 : decode cX8_dropped 30 = .ok (.iload_n 1, 1) := by decide +kernel
theorem dX8_dropped_31 : decode cX8_dropped 31 = .ok (.iaload, 1) := by decide +kernel
theorem dX8_dropped_32 : decode cX8_dropped 32 = .ok (.goto 4, 3) := by decide +kernel
theorem dX8_dropped_35 : decode cX8_dropped 35 = .ok (.iconst (-1), 1) := by decide +kernel
theorem dX8_dropped_36 : decode cX8_dropped 36 = .ok (.ireturn, 1) := by decide +kernel
theorem dX8_worth_0 : decode cX8_worth 0 = .ok (.aload_n 0, 1) := by decide +kernel
theorem dX8_worth_1 : decode cX8_worth 1 = .ok (.iload_n 1, 1) := by decide +kernel
theorem dX8_worth_2 : decode cX8_worth 2 = .ok (.iconst 0, 1) := by decide +kernel
theorem dX8_worth_3 : decode cX8_worth 3 = .ok (.bipush 63, 2) := by decide +kernel
theorem dX8_worth_5 : decode cX8_worth 5 = .ok (.invokestatic 59, 3) := by decide +kernel
theorem dX8_worth_8 : decode cX8_worth 8 = .ok (.ifCond .eq 7, 3) := by decide +kernel
theorem dX8_worth_11 : decode cX8_worth 11 = .ok (.iconst 0, 1) := by decide +kernel
theorem dX8_worth_12 : decode cX8_worth 12 = .ok (.goto 4, 3) := by decide +kernel
theorem dX8_worth_15 : decode cX8_worth 15 = .ok (.iconst 1, 1) := by decide +kernel
theorem dX8_worth_16 : decode cX8_worth 16 = .ok (.invokevirtual 75, 3) := by decide +kernel
theorem dX8_worth_19 : decode cX8_worth 19 = .ok (.ifCond .eq 7, 3) := by decide +kernel
theorem dX8_worth_22 : decode cX8_worth 22 = .ok (.iconst 0, 1) := by decide +kernel
theorem dX8_worth_23 : decode cX8_worth 23 = .ok (.goto 9, 3) := by decide +kernel
theorem dX8_worth_26 : decode cX8_worth 26 = .ok (.aload_n 0, 1) := by decide +kernel
theorem dX8_worth_27 : decode cX8_worth 27 = .ok (.iload_n 1, 1) := by decide +kernel
theorem dX8_worth_28 : decode cX8_worth 28 = .ok (.iconst (-1), 1) := by decide +kernel
theorem dX8_worth_29 : decode cX8_worth 29 = .ok (.invokevirtual 184, 3) := by decide +kernel
theorem dX8_worth_32 : decode cX8_worth 32 = .ok (.ireturn, 1) := by decide +kernel
theorem dX8_worthFor_0 : decode cX8_worthFor 0 = .ok (.aload_n 0, 1) := by decide +kernel
theorem dX8_worthFor_1 : decode cX8_worthFor 1 = .ok (.iload_n 2, 1) := by decide +kernel
theorem dX8_worthFor_2 : decode cX8_worthFor 2 = .ok (.invokestatic 63, 3) := by decide +kernel
theorem dX8_worthFor_5 : decode cX8_worthFor 5 = .ok (.ifCond .ne 7, 3) := by decide +kernel
theorem dX8_worthFor_8 : decode cX8_worthFor 8 = .ok (.iconst 1, 1) := by decide +kernel
theorem dX8_worthFor_9 : decode cX8_worthFor 9 = .ok (.goto 18, 3) := by decide +kernel
theorem dX8_worthFor_12 : decode cX8_worthFor 12 = .ok (.iload_n 1, 1) := by decide +kernel
theorem dX8_worthFor_13 : decode cX8_worthFor 13 = .ok (.iconst 0, 1) := by decide +kernel
theorem dX8_worthFor_14 : decode cX8_worthFor 14 = .ok (.bipush 63, 2) := by decide +kernel
theorem dX8_worthFor_16 : decode cX8_worthFor 16 = .ok (.invokestatic 59, 3) := by decide +kernel
theorem dX8_worthFor_19 : decode cX8_worthFor 19 = .ok (.ifCond .eq 7, 3) := by decide +kernel
theorem dX8_worthFor_22 : decode cX8_worthFor 22 = .ok (.iconst 0, 1) := by decide +kernel
theorem dX8_worthFor_23 : decode cX8_worthFor 23 = .ok (.goto 4, 3) := by decide +kernel
theorem dX8_worthFor_26 : decode cX8_worthFor 26 = .ok (.iconst 2, 1) := by decide +kernel
theorem dX8_worthFor_27 : decode cX8_worthFor 27 = .ok (.invokevirtual 75, 3) := by decide +kernel
theorem dX8_worthFor_30 : decode cX8_worthFor 30 = .ok (.ifCond .eq 7, 3) := by decide +kernel
theorem dX8_worthFor_33 : decode cX8_worthFor 33 = .ok (.iconst 0, 1) := by decide +kernel
theorem dX8_worthFor_34 : decode cX8_worthFor 34 = .ok (.goto 9, 3) := by decide +kernel
theorem dX8_worthFor_37 : decode cX8_worthFor 37 = .ok (.aload_n 0, 1) := by decide +kernel
theorem dX8_worthFor_38 : decode cX8_worthFor 38 = .ok (.iload_n 1, 1) := by decide +kernel
theorem dX8_worthFor_39 : decode cX8_worthFor 39 = .ok (.iload_n 2, 1) := by decide +kernel
theorem dX8_worthFor_40 : decode cX8_worthFor 40 = .ok (.invokevirtual 184, 3) := by decide +kernel
theorem dX8_worthFor_43 : decode cX8_worthFor 43 = .ok (.ireturn, 1) := by decide +kernel
theorem dX8_weighsAll_0 : decode cX8_weighsAll 0 = .ok (.iconst 0, 1) := by decide +kernel
theorem dX8_weighsAll_1 : decode cX8_weighsAll 1 = .ok (.istore_n 2, 1) := by decide +kernel
theorem dX8_weighsAll_2 : decode cX8_weighsAll 2 = .ok (.iload_n 2, 1) := by decide +kernel
theorem dX8_weighsAll_3 : decode cX8_weighsAll 3 = .ok (.bipush 63, 2) := by decide +kernel
theorem dX8_weighsAll_5 : decode cX8_weighsAll 5 = .ok (.if_icmp .gt 21, 3) := by decide +kernel
theorem dX8_weighsAll_8 : decode cX8_weighsAll 8 = .ok (.aload_n 0, 1) := by decide +kernel
theorem dX8_weighsAll_9 : decode cX8_weighsAll 9 = .ok (.getfield 40, 3) := by decide +kernel
theorem dX8_weighsAll_12 : decode cX8_weighsAll 12 = .ok (.iload_n 2, 1) := by decide +kernel
theorem dX8_weighsAll_13 : decode cX8_weighsAll 13 = .ok (.aload_n 0, 1) := by decide +kernel
theorem dX8_weighsAll_14 : decode cX8_weighsAll 14 = .ok (.iload_n 2, 1) := by decide +kernel
theorem dX8_weighsAll_15 : decode cX8_weighsAll 15 = .ok (.iload_n 1, 1) := by decide +kernel
theorem dX8_weighsAll_16 : decode cX8_weighsAll 16 = .ok (.invokevirtual 184, 3) := by decide +kernel
theorem dX8_weighsAll_19 : decode cX8_weighsAll 19 = .ok (.iastore, 1) := by decide +kernel
theorem dX8_weighsAll_20 : decode cX8_weighsAll 20 = .ok (.iinc 2 1, 3) := by decide +kernel
theorem dX8_weighsAll_23 : decode cX8_weighsAll 23 = .ok (.goto (-21), 3) := by decide +kernel
theorem dX8_weighsAll_26 : decode cX8_weighsAll 26 = .ok (.return_, 1) := by decide +kernel
theorem dX8_size_0 : decode cX8_size 0 = .ok (.iconst 0, 1) := by decide +kernel
theorem dX8_size_1 : decode cX8_size 1 = .ok (.istore_n 1, 1) := by decide +kernel
theorem dX8_size_2 : decode cX8_size 2 = .ok (.iconst 0, 1) := by decide +kernel
theorem dX8_size_3 : decode cX8_size 3 = .ok (.istore_n 2, 1) := by decide +kernel
theorem dX8_size_4 : decode cX8_size 4 = .ok (.iload_n 2, 1) := by decide +kernel
theorem dX8_size_5 : decode cX8_size 5 = .ok (.bipush 6, 2) := by decide +kernel
theorem dX8_size_7 : decode cX8_size 7 = .ok (.if_icmp .ge 17, 3) := by decide +kernel
theorem dX8_size_10 : decode cX8_size 10 = .ok (.iload_n 1, 1) := by decide +kernel
theorem dX8_size_11 : decode cX8_size 11 = .ok (.iload_n 0, 1) := by decide +kernel
theorem dX8_size_12 : decode cX8_size 12 = .ok (.iload_n 2, 1) := by decide +kernel
theorem dX8_size_13 : decode cX8_size 13 = .ok (.ishr, 1) := by decide +kernel
theorem dX8_size_14 : decode cX8_size 14 = .ok (.iconst 1, 1) := by decide +kernel
theorem dX8_size_15 : decode cX8_size 15 = .ok (.iand, 1) := by decide +kernel
theorem dX8_size_16 : decode cX8_size 16 = .ok (.iadd, 1) := by decide +kernel
theorem dX8_size_17 : decode cX8_size 17 = .ok (.istore_n 1, 1) := by decide +kernel
theorem dX8_size_18 : decode cX8_size 18 = .ok (.iinc 2 1, 3) := by decide +kernel
theorem dX8_size_21 : decode cX8_size 21 = .ok (.goto (-17), 3) := by decide +kernel
theorem dX8_size_24 : decode cX8_size 24 = .ok (.iload_n 1, 1) := by decide +kernel
theorem dX8_size_25 : decode cX8_size 25 = .ok (.ireturn, 1) := by decide +kernel
theorem dX8_orders_0 : decode cX8_orders 0 = .ok (.iconst 1, 1) := by decide +kernel
theorem dX8_orders_1 : decode cX8_orders 1 = .ok (.istore_n 1, 1) := by decide +kernel
theorem dX8_orders_2 : decode cX8_orders 2 = .ok (.iconst 2, 1) := by decide +kernel
theorem dX8_orders_3 : decode cX8_orders 3 = .ok (.istore_n 2, 1) := by decide +kernel
theorem dX8_orders_4 : decode cX8_orders 4 = .ok (.iload_n 2, 1) := by decide +kernel
theorem dX8_orders_5 : decode cX8_orders 5 = .ok (.iload_n 0, 1) := by decide +kernel
theorem dX8_orders_6 : decode cX8_orders 6 = .ok (.if_icmp .gt 13, 3) := by decide +kernel
theorem dX8_orders_9 : decode cX8_orders 9 = .ok (.iload_n 1, 1) := by decide +kernel
theorem dX8_orders_10 : decode cX8_orders 10 = .ok (.iload_n 2, 1) := by decide +kernel
theorem dX8_orders_11 : decode cX8_orders 11 = .ok (.imul, 1) := by decide +kernel
theorem dX8_orders_12 : decode cX8_orders 12 = .ok (.istore_n 1, 1) := by decide +kernel
theorem dX8_orders_13 : decode cX8_orders 13 = .ok (.iinc 2 1, 3) := by decide +kernel
theorem dX8_orders_16 : decode cX8_orders 16 = .ok (.goto (-12), 3) := by decide +kernel
theorem dX8_orders_19 : decode cX8_orders 19 = .ok (.iconst 2, 1) := by decide +kernel
theorem dX8_orders_20 : decode cX8_orders 20 = .ok (.istore_n 2, 1) := by decide +kernel
theorem dX8_orders_21 : decode cX8_orders 21 = .ok (.iload_n 2, 1) := by decide +kernel
theorem dX8_orders_22 : decode cX8_orders 22 = .ok (.iconst 5, 1) := by decide +kernel
theorem dX8_orders_23 : decode cX8_orders 23 = .ok (.iload_n 0, 1) := by decide +kernel
theorem dX8_orders_24 : decode cX8_orders 24 = .ok (.isub, 1) := by decide +kernel
theorem dX8_orders_25 : decode cX8_orders 25 = .ok (.if_icmp .gt 13, 3) := by decide +kernel
theorem dX8_orders_28 : decode cX8_orders 28 = .ok (.iload_n 1, 1) := by decide +kernel
theorem dX8_orders_29 : decode cX8_orders 29 = .ok (.iload_n 2, 1) := by decide +kernel
theorem dX8_orders_30 : decode cX8_orders 30 = .ok (.imul, 1) := by decide +kernel
theorem dX8_orders_31 : decode cX8_orders 31 = .ok (.istore_n 1, 1) := by decide +kernel
theorem dX8_orders_32 : decode cX8_orders 32 = .ok (.iinc 2 1, 3) := by decide +kernel
theorem dX8_orders_35 : decode cX8_orders 35 = .ok (.goto (-14), 3) := by decide +kernel
theorem dX8_orders_38 : decode cX8_orders 38 = .ok (.iload_n 1, 1) := by decide +kernel
theorem dX8_orders_39 : decode cX8_orders 39 = .ok (.ireturn, 1) := by decide +kernel
theorem dX8_contributions_0 : decode cX8_contributions 0 = .ok (.lconst 0, 1) := by decide +kernel
theorem dX8_contributions_1 : decode cX8_contributions 1 = .ok (.lstore_n 3, 1) := by decide +kernel
theorem dX8_contributions_2 : decode cX8_contributions 2 = .ok (.iconst 0, 1) := by decide +kernel
theorem dX8_contributions_3 : decode cX8_contributions 3 = .ok (.istore 5, 2) := by decide +kernel
theorem dX8_contributions_5 : decode cX8_contributions 5 = .ok (.iload 5, 2) := by decide +kernel
theorem dX8_contributions_7 : decode cX8_contributions 7 = .ok (.bipush 63, 2) := by decide +kernel
theorem dX8_contributions_9 : decode cX8_contributions 9 = .ok (.if_icmp .gt 59, 3) := by decide +kernel
theorem dX8_contributions_12 : decode cX8_contributions 12 = .ok (.iload 5, 2) := by decide +kernel
theorem dX8_contributions_14 : decode cX8_contributions 14 = .ok (.iload_n 1, 1) := by decide +kernel
theorem dX8_contributions_15 : decode cX8_contributions 15 = .ok (.ishr, 1) := by decide +kernel
theorem dX8_contributions_16 : decode cX8_contributions 16 = .ok (.iconst 1, 1) := by decide +kernel
theorem dX8_contributions_17 : decode cX8_contributions 17 = .ok (.iand, 1) := by decide +kernel
theorem dX8_contributions_18 : decode cX8_contributions 18 = .ok (.ifCond .ne 44, 3) := by decide +kernel
theorem dX8_contributions_21 : decode cX8_contributions 21 = .ok (.lload_n 3, 1) := by decide +kernel
theorem dX8_contributions_22 : decode cX8_contributions 22 = .ok (.aload_n 0, 1) := by decide +kernel
theorem dX8_contributions_23 : decode cX8_contributions 23 = .ok (.getfield 40, 3) := by decide +kernel
theorem dX8_contributions_26 : decode cX8_contributions 26 = .ok (.iload 5, 2) := by decide +kernel
theorem dX8_contributions_28 : decode cX8_contributions 28 = .ok (.iconst 1, 1) := by decide +kernel
theorem dX8_contributions_29 : decode cX8_contributions 29 = .ok (.iload_n 1, 1) := by decide +kernel
theorem dX8_contributions_30 : decode cX8_contributions 30 = .ok (.ishl, 1) := by decide +kernel
theorem dX8_contributions_31 : decode cX8_contributions 31 = .ok (.ior, 1) := by decide +kernel
theorem dX8_contributions_32 : decode cX8_contributions 32 = .ok (.iaload, 1) := by decide +kernel
theorem dX8_contributions_33 : decode cX8_contributions 33 = .ok (.aload_n 0, 1) := by decide +kernel
theorem dX8_contributions_34 : decode cX8_contributions 34 = .ok (.getfield 40, 3) := by decide +kernel
theorem dX8_contributions_37 : decode cX8_contributions 37 = .ok (.iload 5, 2) := by decide +kernel
theorem dX8_contributions_39 : decode cX8_contributions 39 = .ok (.iaload, 1) := by decide +kernel
theorem dX8_contributions_40 : decode cX8_contributions 40 = .ok (.isub, 1) := by decide +kernel
theorem dX8_contributions_41 : decode cX8_contributions 41 = .ok (.i2l, 1) := by decide +kernel
theorem dX8_contributions_42 : decode cX8_contributions 42 = .ok (.iload_n 2, 1) := by decide +kernel
theorem dX8_contributions_43 : decode cX8_contributions 43 = .ok (.ifCond .eq 14, 3) := by decide +kernel
theorem dX8_contributions_46 : decode cX8_contributions 46 = .ok (.iload 5, 2) := by decide +kernel
theorem dX8_contributions_48 : decode cX8_contributions 48 = .ok (.invokestatic 187, 3) := by decide +kernel
theorem dX8_contributions_51 : decode cX8_contributions 51 = .ok (.invokestatic 190, 3) := by decide +kernel
theorem dX8_contributions_54 : decode cX8_contributions 54 = .ok (.goto 4, 3) := by decide +kernel
theorem dX8_contributions_57 : decode cX8_contributions 57 = .ok (.iconst 1, 1) := by decide +kernel
theorem dX8_contributions_58 : decode cX8_contributions 58 = .ok (.i2l, 1) := by decide +kernel
theorem dX8_contributions_59 : decode cX8_contributions 59 = .ok (.lmul, 1) := by decide +kernel
theorem dX8_contributions_60 : decode cX8_contributions 60 = .ok (.ladd, 1) := by decide +kernel
theorem dX8_contributions_61 : decode cX8_contributions 61 = .ok (.lstore_n 3, 1) := by decide +kernel
theorem dX8_contributions_62 : decode cX8_contributions 62 = .ok (.iinc 5 1, 3) := by decide +kernel
theorem dX8_contributions_65 : decode cX8_contributions 65 = .ok (.goto (-60), 3) := by decide +kernel
theorem dX8_contributions_68 : decode cX8_contributions 68 = .ok (.lload_n 3, 1) := by decide +kernel
theorem dX8_contributions_69 : decode cX8_contributions 69 = .ok (.lreturn, 1) := by decide +kernel
theorem dX8_partOf_0 : decode cX8_partOf 0 = .ok (.lload_n 0, 1) := by decide +kernel
theorem dX8_partOf_1 : decode cX8_partOf 1 = .ok (.lconst 0, 1) := by decide +kernel
theorem dX8_partOf_2 : decode cX8_partOf 2 = .ok (.lcmp, 1) := by decide +kernel
theorem dX8_partOf_3 : decode cX8_partOf 3 = .ok (.ifCond .ge 8, 3) := by decide +kernel
theorem dX8_partOf_6 : decode cX8_partOf 6 = .ok (.lload_n 0, 1) := by decide +kernel
theorem dX8_partOf_7 : decode cX8_partOf 7 = .ok (.lneg, 1) := by decide +kernel
theorem dX8_partOf_8 : decode cX8_partOf 8 = .ok (.goto 4, 3) := by decide +kernel
theorem dX8_partOf_11 : decode cX8_partOf 11 = .ok (.lload_n 0, 1) := by decide +kernel
theorem dX8_partOf_12 : decode cX8_partOf 12 = .ok (.lstore 5, 2) := by decide +kernel
theorem dX8_partOf_14 : decode cX8_partOf 14 = .ok (.lload_n 2, 1) := by decide +kernel
theorem dX8_partOf_15 : decode cX8_partOf 15 = .ok (.lstore 7, 2) := by decide +kernel
theorem dX8_partOf_17 : decode cX8_partOf 17 = .ok (.lload 5, 2) := by decide +kernel
theorem dX8_partOf_19 : decode cX8_partOf 19 = .ok (.lconst 0, 1) := by decide +kernel
theorem dX8_partOf_20 : decode cX8_partOf 20 = .ok (.lcmp, 1) := by decide +kernel
theorem dX8_partOf_21 : decode cX8_partOf 21 = .ok (.ifCond .eq 21, 3) := by decide +kernel
theorem dX8_partOf_24 : decode cX8_partOf 24 = .ok (.lload 7, 2) := by decide +kernel
theorem dX8_partOf_26 : decode cX8_partOf 26 = .ok (.lload 5, 2) := by decide +kernel
theorem dX8_partOf_28 : decode cX8_partOf 28 = .ok (.lrem, 1) := by decide +kernel
theorem dX8_partOf_29 : decode cX8_partOf 29 = .ok (.lstore 9, 2) := by decide +kernel
theorem dX8_partOf_31 : decode cX8_partOf 31 = .ok (.lload 5, 2) := by decide +kernel
theorem dX8_partOf_33 : decode cX8_partOf 33 = .ok (.lstore 7, 2) := by decide +kernel
theorem dX8_partOf_35 : decode cX8_partOf 35 = .ok (.lload 9, 2) := by decide +kernel
theorem dX8_partOf_37 : decode cX8_partOf 37 = .ok (.lstore 5, 2) := by decide +kernel
theorem dX8_partOf_39 : decode cX8_partOf 39 = .ok (.goto (-22), 3) := by decide +kernel
theorem dX8_partOf_42 : decode cX8_partOf 42 = .ok (.iload 4, 2) := by decide +kernel
theorem dX8_partOf_44 : decode cX8_partOf 44 = .ok (.ifCond .ne 10, 3) := by decide +kernel
theorem dX8_partOf_47 : decode cX8_partOf 47 = .ok (.lload_n 0, 1) := by decide +kernel
theorem dX8_partOf_48 : decode cX8_partOf 48 = .ok (.lload 7, 2) := by decide +kernel
theorem dX8_partOf_50 : decode cX8_partOf 50 = .ok (.ldiv, 1) := by decide +kernel
theorem dX8_partOf_51 : decode cX8_partOf 51 = .ok (.goto 7, 3) := by decide +kernel
theorem dX8_partOf_54 : decode cX8_partOf 54 = .ok (.lload_n 2, 1) := by decide +kernel
theorem dX8_partOf_55 : decode cX8_partOf 55 = .ok (.lload 7, 2) := by decide +kernel
theorem dX8_partOf_57 : decode cX8_partOf 57 = .ok (.ldiv, 1) := by decide +kernel
theorem dX8_partOf_58 : decode cX8_partOf 58 = .ok (.l2i, 1) := by decide +kernel
theorem dX8_partOf_59 : decode cX8_partOf 59 = .ok (.ireturn, 1) := by decide +kernel
theorem dX8_contribution_0 : decode cX8_contribution 0 = .ok (.iload_n 1, 1) := by decide +kernel
theorem dX8_contribution_1 : decode cX8_contribution 1 = .ok (.invokestatic 63, 3) := by decide +kernel
theorem dX8_contribution_4 : decode cX8_contribution 4 = .ok (.istore_n 3, 1) := by decide +kernel
theorem dX8_contribution_5 : decode cX8_contribution 5 = .ok (.aload_n 0, 1) := by decide +kernel
theorem dX8_contribution_6 : decode cX8_contribution 6 = .ok (.iload_n 3, 1) := by decide +kernel
theorem dX8_contribution_7 : decode cX8_contribution 7 = .ok (.ifCond .ne 7, 3) := by decide +kernel
theorem dX8_contribution_10 : decode cX8_contribution 10 = .ok (.iconst 1, 1) := by decide +kernel
theorem dX8_contribution_11 : decode cX8_contribution 11 = .ok (.goto 26, 3) := by decide +kernel
theorem dX8_contribution_14 : decode cX8_contribution 14 = .ok (.iload_n 2, 1) := by decide +kernel
theorem dX8_contribution_15 : decode cX8_contribution 15 = .ok (.iconst 0, 1) := by decide +kernel
theorem dX8_contribution_16 : decode cX8_contribution 16 = .ok (.bipush 63, 2) := by decide +kernel
theorem dX8_contribution_18 : decode cX8_contribution 18 = .ok (.invokestatic 59, 3) := by decide +kernel
theorem dX8_contribution_21 : decode cX8_contribution 21 = .ok (.ifCond .eq 15, 3) := by decide +kernel
theorem dX8_contribution_24 : decode cX8_contribution 24 = .ok (.iload_n 2, 1) := by decide +kernel
theorem dX8_contribution_25 : decode cX8_contribution 25 = .ok (.iload_n 1, 1) := by decide +kernel
theorem dX8_contribution_26 : decode cX8_contribution 26 = .ok (.ishr, 1) := by decide +kernel
theorem dX8_contribution_27 : decode cX8_contribution 27 = .ok (.iconst 1, 1) := by decide +kernel
theorem dX8_contribution_28 : decode cX8_contribution 28 = .ok (.iand, 1) := by decide +kernel
theorem dX8_contribution_29 : decode cX8_contribution 29 = .ok (.ifCond .ne 7, 3) := by decide +kernel
theorem dX8_contribution_32 : decode cX8_contribution 32 = .ok (.iconst 0, 1) := by decide +kernel
theorem dX8_contribution_33 : decode cX8_contribution 33 = .ok (.goto 4, 3) := by decide +kernel
theorem dX8_contribution_36 : decode cX8_contribution 36 = .ok (.iconst 2, 1) := by decide +kernel
theorem dX8_contribution_37 : decode cX8_contribution 37 = .ok (.invokevirtual 75, 3) := by decide +kernel
theorem dX8_contribution_40 : decode cX8_contribution 40 = .ok (.ifCond .eq 5, 3) := by decide +kernel
theorem dX8_contribution_43 : decode cX8_contribution 43 = .ok (.iconst 0, 1) := by decide +kernel
theorem dX8_contribution_44 : decode cX8_contribution 44 = .ok (.ireturn, 1) := by decide +kernel
theorem dX8_contribution_45 : decode cX8_contribution 45 = .ok (.aload_n 0, 1) := by decide +kernel
theorem dX8_contribution_46 : decode cX8_contribution 46 = .ok (.iload_n 2, 1) := by decide +kernel
theorem dX8_contribution_47 : decode cX8_contribution 47 = .ok (.iconst 1, 1) := by decide +kernel
theorem dX8_contribution_48 : decode cX8_contribution 48 = .ok (.iload_n 1, 1) := by decide +kernel
theorem dX8_contribution_49 : decode cX8_contribution 49 = .ok (.ishl, 1) := by decide +kernel
theorem dX8_contribution_50 : decode cX8_contribution 50 = .ok (.ior, 1) := by decide +kernel
theorem dX8_contribution_51 : decode cX8_contribution 51 = .ok (.iconst (-1), 1) := by decide +kernel
theorem dX8_contribution_52 : decode cX8_contribution 52 = .ok (.invokevirtual 184, 3) := by decide +kernel
theorem dX8_contribution_55 : decode cX8_contribution 55 = .ok (.aload_n 0, 1) := by decide +kernel
theorem dX8_contribution_56 : decode cX8_contribution 56 = .ok (.iload_n 2, 1) := by decide +kernel
theorem dX8_contribution_57 : decode cX8_contribution 57 = .ok (.iconst (-1), 1) := by decide +kernel
theorem dX8_contribution_58 : decode cX8_contribution 58 = .ok (.invokevirtual 184, 3) := by decide +kernel
theorem dX8_contribution_61 : decode cX8_contribution 61 = .ok (.isub, 1) := by decide +kernel
theorem dX8_contribution_62 : decode cX8_contribution 62 = .ok (.ireturn, 1) := by decide +kernel
theorem dX8_blame_0 : decode cX8_blame 0 = .ok (.aload_n 0, 1) := by decide +kernel
theorem dX8_blame_1 : decode cX8_blame 1 = .ok (.iload_n 1, 1) := by decide +kernel
theorem dX8_blame_2 : decode cX8_blame 2 = .ok (.invokestatic 63, 3) := by decide +kernel
theorem dX8_blame_5 : decode cX8_blame 5 = .ok (.ifCond .ne 7, 3) := by decide +kernel
theorem dX8_blame_8 : decode cX8_blame 8 = .ok (.iconst 1, 1) := by decide +kernel
theorem dX8_blame_9 : decode cX8_blame 9 = .ok (.goto 17, 3) := by decide +kernel
theorem dX8_blame_12 : decode cX8_blame 12 = .ok (.iload_n 2, 1) := by decide +kernel
theorem dX8_blame_13 : decode cX8_blame 13 = .ok (.iconst 0, 1) := by decide +kernel
theorem dX8_blame_14 : decode cX8_blame 14 = .ok (.iconst 1, 1) := by decide +kernel
theorem dX8_blame_15 : decode cX8_blame 15 = .ok (.invokestatic 59, 3) := by decide +kernel
theorem dX8_blame_18 : decode cX8_blame 18 = .ok (.ifCond .eq 7, 3) := by decide +kernel
theorem dX8_blame_21 : decode cX8_blame 21 = .ok (.iconst 0, 1) := by decide +kernel
theorem dX8_blame_22 : decode cX8_blame 22 = .ok (.goto 4, 3) := by decide +kernel
theorem dX8_blame_25 : decode cX8_blame 25 = .ok (.iconst 2, 1) := by decide +kernel
theorem dX8_blame_26 : decode cX8_blame 26 = .ok (.invokevirtual 75, 3) := by decide +kernel
theorem dX8_blame_29 : decode cX8_blame 29 = .ok (.ifCond .eq 5, 3) := by decide +kernel
theorem dX8_blame_32 : decode cX8_blame 32 = .ok (.iconst 0, 1) := by decide +kernel
theorem dX8_blame_33 : decode cX8_blame 33 = .ok (.ireturn, 1) := by decide +kernel
theorem dX8_blame_34 : decode cX8_blame 34 = .ok (.aload_n 0, 1) := by decide +kernel
theorem dX8_blame_35 : decode cX8_blame 35 = .ok (.iconst (-1), 1) := by decide +kernel
theorem dX8_blame_36 : decode cX8_blame 36 = .ok (.invokevirtual 193, 3) := by decide +kernel
theorem dX8_blame_39 : decode cX8_blame 39 = .ok (.aload_n 0, 1) := by decide +kernel
theorem dX8_blame_40 : decode cX8_blame 40 = .ok (.iload_n 1, 1) := by decide +kernel
theorem dX8_blame_41 : decode cX8_blame 41 = .ok (.iconst 1, 1) := by decide +kernel
theorem dX8_blame_42 : decode cX8_blame 42 = .ok (.invokevirtual 196, 3) := by decide +kernel
theorem dX8_blame_45 : decode cX8_blame 45 = .ok (.ldc2_w 200, 3) := by decide +kernel
theorem dX8_blame_48 : decode cX8_blame 48 = .ok (.iload_n 2, 1) := by decide +kernel
theorem dX8_blame_49 : decode cX8_blame 49 = .ok (.invokestatic 202, 3) := by decide +kernel
theorem dX8_blame_52 : decode cX8_blame 52 = .ok (.ireturn, 1) := by decide +kernel
theorem dX8_blameFor_0 : decode cX8_blameFor 0 = .ok (.aload_n 0, 1) := by decide +kernel
theorem dX8_blameFor_1 : decode cX8_blameFor 1 = .ok (.iload_n 1, 1) := by decide +kernel
theorem dX8_blameFor_2 : decode cX8_blameFor 2 = .ok (.invokestatic 63, 3) := by decide +kernel
theorem dX8_blameFor_5 : decode cX8_blameFor 5 = .ok (.ifCond .eq 10, 3) := by decide +kernel
theorem dX8_blameFor_8 : decode cX8_blameFor 8 = .ok (.iload_n 2, 1) := by decide +kernel
theorem dX8_blameFor_9 : decode cX8_blameFor 9 = .ok (.invokestatic 63, 3) := by decide +kernel
theorem dX8_blameFor_12 : decode cX8_blameFor 12 = .ok (.ifCond .ne 7, 3) := by decide +kernel
theorem dX8_blameFor_15 : decode cX8_blameFor 15 = .ok (.iconst 1, 1) := by decide +kernel
theorem dX8_blameFor_16 : decode cX8_blameFor 16 = .ok (.goto 17, 3) := by decide +kernel
theorem dX8_blameFor_19 : decode cX8_blameFor 19 = .ok (.iload_n 3, 1) := by decide +kernel
theorem dX8_blameFor_20 : decode cX8_blameFor 20 = .ok (.iconst 0, 1) := by decide +kernel
theorem dX8_blameFor_21 : decode cX8_blameFor 21 = .ok (.iconst 1, 1) := by decide +kernel
theorem dX8_blameFor_22 : decode cX8_blameFor 22 = .ok (.invokestatic 59, 3) := by decide +kernel
theorem dX8_blameFor_25 : decode cX8_blameFor 25 = .ok (.ifCond .eq 7, 3) := by decide +kernel
theorem dX8_blameFor_28 : decode cX8_blameFor 28 = .ok (.iconst 0, 1) := by decide +kernel
theorem dX8_blameFor_29 : decode cX8_blameFor 29 = .ok (.goto 4, 3) := by decide +kernel
theorem dX8_blameFor_32 : decode cX8_blameFor 32 = .ok (.iconst 2, 1) := by decide +kernel
theorem dX8_blameFor_33 : decode cX8_blameFor 33 = .ok (.invokevirtual 75, 3) := by decide +kernel
theorem dX8_blameFor_36 : decode cX8_blameFor 36 = .ok (.ifCond .eq 5, 3) := by decide +kernel
theorem dX8_blameFor_39 : decode cX8_blameFor 39 = .ok (.iconst 0, 1) := by decide +kernel
theorem dX8_blameFor_40 : decode cX8_blameFor 40 = .ok (.ireturn, 1) := by decide +kernel
theorem dX8_blameFor_41 : decode cX8_blameFor 41 = .ok (.aload_n 0, 1) := by decide +kernel
theorem dX8_blameFor_42 : decode cX8_blameFor 42 = .ok (.iload_n 2, 1) := by decide +kernel
theorem dX8_blameFor_43 : decode cX8_blameFor 43 = .ok (.invokevirtual 193, 3) := by decide +kernel
theorem dX8_blameFor_46 : decode cX8_blameFor 46 = .ok (.aload_n 0, 1) := by decide +kernel
theorem dX8_blameFor_47 : decode cX8_blameFor 47 = .ok (.iload_n 1, 1) := by decide +kernel
theorem dX8_blameFor_48 : decode cX8_blameFor 48 = .ok (.iconst 1, 1) := by decide +kernel
theorem dX8_blameFor_49 : decode cX8_blameFor 49 = .ok (.invokevirtual 196, 3) := by decide +kernel
theorem dX8_blameFor_52 : decode cX8_blameFor 52 = .ok (.ldc2_w 200, 3) := by decide +kernel
theorem dX8_blameFor_55 : decode cX8_blameFor 55 = .ok (.iload_n 3, 1) := by decide +kernel
theorem dX8_blameFor_56 : decode cX8_blameFor 56 = .ok (.invokestatic 202, 3) := by decide +kernel
theorem dX8_blameFor_59 : decode cX8_blameFor 59 = .ok (.ireturn, 1) := by decide +kernel
theorem dX8_index_0 : decode cX8_index 0 = .ok (.aload_n 0, 1) := by decide +kernel
theorem dX8_index_1 : decode cX8_index 1 = .ok (.iload_n 1, 1) := by decide +kernel
theorem dX8_index_2 : decode cX8_index 2 = .ok (.invokestatic 63, 3) := by decide +kernel
theorem dX8_index_5 : decode cX8_index 5 = .ok (.ifCond .ne 7, 3) := by decide +kernel
theorem dX8_index_8 : decode cX8_index 8 = .ok (.iconst 1, 1) := by decide +kernel
theorem dX8_index_9 : decode cX8_index 9 = .ok (.goto 17, 3) := by decide +kernel
theorem dX8_index_12 : decode cX8_index 12 = .ok (.iload_n 2, 1) := by decide +kernel
theorem dX8_index_13 : decode cX8_index 13 = .ok (.iconst 0, 1) := by decide +kernel
theorem dX8_index_14 : decode cX8_index 14 = .ok (.iconst 1, 1) := by decide +kernel
theorem dX8_index_15 : decode cX8_index 15 = .ok (.invokestatic 59, 3) := by decide +kernel
theorem dX8_index_18 : decode cX8_index 18 = .ok (.ifCond .eq 7, 3) := by decide +kernel
theorem dX8_index_21 : decode cX8_index 21 = .ok (.iconst 0, 1) := by decide +kernel
theorem dX8_index_22 : decode cX8_index 22 = .ok (.goto 4, 3) := by decide +kernel
theorem dX8_index_25 : decode cX8_index 25 = .ok (.iconst 2, 1) := by decide +kernel
theorem dX8_index_26 : decode cX8_index 26 = .ok (.invokevirtual 75, 3) := by decide +kernel
theorem dX8_index_29 : decode cX8_index 29 = .ok (.ifCond .eq 5, 3) := by decide +kernel
theorem dX8_index_32 : decode cX8_index 32 = .ok (.iconst 0, 1) := by decide +kernel
theorem dX8_index_33 : decode cX8_index 33 = .ok (.ireturn, 1) := by decide +kernel
theorem dX8_index_34 : decode cX8_index 34 = .ok (.aload_n 0, 1) := by decide +kernel
theorem dX8_index_35 : decode cX8_index 35 = .ok (.iconst (-1), 1) := by decide +kernel
theorem dX8_index_36 : decode cX8_index 36 = .ok (.invokevirtual 193, 3) := by decide +kernel
theorem dX8_index_39 : decode cX8_index 39 = .ok (.aload_n 0, 1) := by decide +kernel
theorem dX8_index_40 : decode cX8_index 40 = .ok (.iload_n 1, 1) := by decide +kernel
theorem dX8_index_41 : decode cX8_index 41 = .ok (.iconst 0, 1) := by decide +kernel
theorem dX8_index_42 : decode cX8_index 42 = .ok (.invokevirtual 196, 3) := by decide +kernel
theorem dX8_index_45 : decode cX8_index 45 = .ok (.ldc2_w 206, 3) := by decide +kernel
theorem dX8_index_48 : decode cX8_index 48 = .ok (.iload_n 2, 1) := by decide +kernel
theorem dX8_index_49 : decode cX8_index 49 = .ok (.invokestatic 202, 3) := by decide +kernel
theorem dX8_index_52 : decode cX8_index 52 = .ok (.ireturn, 1) := by decide +kernel
theorem dX8_interaction_0 : decode cX8_interaction 0 = .ok (.aload_n 0, 1) := by decide +kernel
theorem dX8_interaction_1 : decode cX8_interaction 1 = .ok (.iload_n 1, 1) := by decide +kernel
theorem dX8_interaction_2 : decode cX8_interaction 2 = .ok (.invokestatic 63, 3) := by decide +kernel
theorem dX8_interaction_5 : decode cX8_interaction 5 = .ok (.ifCond .eq 10, 3) := by decide +kernel
theorem dX8_interaction_8 : decode cX8_interaction 8 = .ok (.iload_n 2, 1) := by decide +kernel
theorem dX8_interaction_9 : decode cX8_interaction 9 = .ok (.invokestatic 63, 3) := by decide +kernel
theorem dX8_interaction_12 : decode cX8_interaction 12 = .ok (.ifCond .ne 7, 3) := by decide +kernel
theorem dX8_interaction_15 : decode cX8_interaction 15 = .ok (.iconst 1, 1) := by decide +kernel
theorem dX8_interaction_16 : decode cX8_interaction 16 = .ok (.goto 22, 3) := by decide +kernel
theorem dX8_interaction_19 : decode cX8_interaction 19 = .ok (.iload_n 1, 1) := by decide +kernel
theorem dX8_interaction_20 : decode cX8_interaction 20 = .ok (.iload_n 2, 1) := by decide +kernel
theorem dX8_interaction_21 : decode cX8_interaction 21 = .ok (.if_icmp .eq 12, 3) := by decide +kernel
theorem dX8_interaction_24 : decode cX8_interaction 24 = .ok (.iload_n 3, 1) := by decide +kernel
theorem dX8_interaction_25 : decode cX8_interaction 25 = .ok (.iconst 0, 1) := by decide +kernel
theorem dX8_interaction_26 : decode cX8_interaction 26 = .ok (.iconst 1, 1) := by decide +kernel
theorem dX8_interaction_27 : decode cX8_interaction 27 = .ok (.invokestatic 59, 3) := by decide +kernel
theorem dX8_interaction_30 : decode cX8_interaction 30 = .ok (.ifCond .ne 7, 3) := by decide +kernel
theorem dX8_interaction_33 : decode cX8_interaction 33 = .ok (.iconst 2, 1) := by decide +kernel
theorem dX8_interaction_34 : decode cX8_interaction 34 = .ok (.goto 4, 3) := by decide +kernel
theorem dX8_interaction_37 : decode cX8_interaction 37 = .ok (.iconst 0, 1) := by decide +kernel
theorem dX8_interaction_38 : decode cX8_interaction 38 = .ok (.invokevirtual 75, 3) := by decide +kernel
theorem dX8_interaction_41 : decode cX8_interaction 41 = .ok (.ifCond .eq 5, 3) := by decide +kernel
theorem dX8_interaction_44 : decode cX8_interaction 44 = .ok (.iconst 0, 1) := by decide +kernel
theorem dX8_interaction_45 : decode cX8_interaction 45 = .ok (.ireturn, 1) := by decide +kernel
theorem dX8_interaction_46 : decode cX8_interaction 46 = .ok (.aload_n 0, 1) := by decide +kernel
theorem dX8_interaction_47 : decode cX8_interaction 47 = .ok (.iconst (-1), 1) := by decide +kernel
theorem dX8_interaction_48 : decode cX8_interaction 48 = .ok (.invokevirtual 193, 3) := by decide +kernel
theorem dX8_interaction_51 : decode cX8_interaction 51 = .ok (.iconst 1, 1) := by decide +kernel
theorem dX8_interaction_52 : decode cX8_interaction 52 = .ok (.iload_n 1, 1) := by decide +kernel
theorem dX8_interaction_53 : decode cX8_interaction 53 = .ok (.ishl, 1) := by decide +kernel
theorem dX8_interaction_54 : decode cX8_interaction 54 = .ok (.istore 4, 2) := by decide +kernel
theorem dX8_interaction_56 : decode cX8_interaction 56 = .ok (.iconst 1, 1) := by decide +kernel
theorem dX8_interaction_57 : decode cX8_interaction 57 = .ok (.iload_n 2, 1) := by decide +kernel
theorem dX8_interaction_58 : decode cX8_interaction 58 = .ok (.ishl, 1) := by decide +kernel
theorem dX8_interaction_59 : decode cX8_interaction 59 = .ok (.istore 5, 2) := by decide +kernel
theorem dX8_interaction_61 : decode cX8_interaction 61 = .ok (.lconst 0, 1) := by decide +kernel
theorem dX8_interaction_62 : decode cX8_interaction 62 = .ok (.lstore 6, 2) := by decide +kernel
theorem dX8_interaction_64 : decode cX8_interaction 64 = .ok (.iconst 0, 1) := by decide +kernel
theorem dX8_interaction_65 : decode cX8_interaction 65 = .ok (.istore 8, 2) := by decide +kernel
theorem dX8_interaction_67 : decode cX8_interaction 67 = .ok (.iload 8, 2) := by decide +kernel
theorem dX8_interaction_69 : decode cX8_interaction 69 = .ok (.bipush 63, 2) := by decide +kernel
theorem dX8_interaction_71 : decode cX8_interaction 71 = .ok (.if_icmp .gt 74, 3) := by decide +kernel
theorem dX8_interaction_74 : decode cX8_interaction 74 = .ok (.iload 8, 2) := by decide +kernel
theorem dX8_interaction_76 : decode cX8_interaction 76 = .ok (.iload 4, 2) := by decide +kernel
theorem dX8_interaction_78 : decode cX8_interaction 78 = .ok (.iand, 1) := by decide +kernel
theorem dX8_interaction_79 : decode cX8_interaction 79 = .ok (.ifCond .ne 60, 3) := by decide +kernel
theorem dX8_interaction_82 : decode cX8_interaction 82 = .ok (.iload 8, 2) := by decide +kernel
theorem dX8_interaction_84 : decode cX8_interaction 84 = .ok (.iload 5, 2) := by decide +kernel
theorem dX8_interaction_86 : decode cX8_interaction 86 = .ok (.iand, 1) := by decide +kernel
theorem dX8_interaction_87 : decode cX8_interaction 87 = .ok (.ifCond .ne 52, 3) := by decide +kernel
theorem dX8_interaction_90 : decode cX8_interaction 90 = .ok (.lload 6, 2) := by decide +kernel
theorem dX8_interaction_92 : decode cX8_interaction 92 = .ok (.aload_n 0, 1) := by decide +kernel
theorem dX8_interaction_93 : decode cX8_interaction 93 = .ok (.getfield 40, 3) := by decide +kernel
theorem dX8_interaction_96 : decode cX8_interaction 96 = .ok (.iload 8, 2) := by decide +kernel
theorem dX8_interaction_98 : decode cX8_interaction 98 = .ok (.iload 4, 2) := by decide +kernel
theorem dX8_interaction_100 : decode cX8_interaction 100 = .ok (.ior, 1) := by decide +kernel
theorem dX8_interaction_101 : decode cX8_interaction 101 = .ok (.iload 5, 2) := by decide +kernel
theorem dX8_interaction_103 : decode cX8_interaction 103 = .ok (.ior, 1) := by decide +kernel
theorem dX8_interaction_104 : decode cX8_interaction 104 = .ok (.iaload, 1) := by decide +kernel
theorem dX8_interaction_105 : decode cX8_interaction 105 = .ok (.aload_n 0, 1) := by decide +kernel
theorem dX8_interaction_106 : decode cX8_interaction 106 = .ok (.getfield 40, 3) := by decide +kernel
theorem dX8_interaction_109 : decode cX8_interaction 109 = .ok (.iload 8, 2) := by decide +kernel
theorem dX8_interaction_111 : decode cX8_interaction 111 = .ok (.iload 4, 2) := by decide +kernel
theorem dX8_interaction_113 : decode cX8_interaction 113 = .ok (.ior, 1) := by decide +kernel
theorem dX8_interaction_114 : decode cX8_interaction 114 = .ok (.iaload, 1) := by decide +kernel
theorem dX8_interaction_115 : decode cX8_interaction 115 = .ok (.isub, 1) := by decide +kernel
theorem dX8_interaction_116 : decode cX8_interaction 116 = .ok (.aload_n 0, 1) := by decide +kernel
theorem dX8_interaction_117 : decode cX8_interaction 117 = .ok (.getfield 40, 3) := by decide +kernel
theorem dX8_interaction_120 : decode cX8_interaction 120 = .ok (.iload 8, 2) := by decide +kernel
theorem dX8_interaction_122 : decode cX8_interaction 122 = .ok (.iload 5, 2) := by decide +kernel
theorem dX8_interaction_124 : decode cX8_interaction 124 = .ok (.ior, 1) := by decide +kernel
theorem dX8_interaction_125 : decode cX8_interaction 125 = .ok (.iaload, 1) := by decide +kernel
theorem dX8_interaction_126 : decode cX8_interaction 126 = .ok (.isub, 1) := by decide +kernel
theorem dX8_interaction_127 : decode cX8_interaction 127 = .ok (.aload_n 0, 1) := by decide +kernel
theorem dX8_interaction_128 : decode cX8_interaction 128 = .ok (.getfield 40, 3) := by decide +kernel
theorem dX8_interaction_131 : decode cX8_interaction 131 = .ok (.iload 8, 2) := by decide +kernel
theorem dX8_interaction_133 : decode cX8_interaction 133 = .ok (.iaload, 1) := by decide +kernel
theorem dX8_interaction_134 : decode cX8_interaction 134 = .ok (.iadd, 1) := by decide +kernel
theorem dX8_interaction_135 : decode cX8_interaction 135 = .ok (.i2l, 1) := by decide +kernel
theorem dX8_interaction_136 : decode cX8_interaction 136 = .ok (.ladd, 1) := by decide +kernel
theorem dX8_interaction_137 : decode cX8_interaction 137 = .ok (.lstore 6, 2) := by decide +kernel
theorem dX8_interaction_139 : decode cX8_interaction 139 = .ok (.iinc 8 1, 3) := by decide +kernel
theorem dX8_interaction_142 : decode cX8_interaction 142 = .ok (.goto (-75), 3) := by decide +kernel
theorem dX8_interaction_145 : decode cX8_interaction 145 = .ok (.lload 6, 2) := by decide +kernel
theorem dX8_interaction_147 : decode cX8_interaction 147 = .ok (.ldc2_w 208, 3) := by decide +kernel
theorem dX8_interaction_150 : decode cX8_interaction 150 = .ok (.iload_n 3, 1) := by decide +kernel
theorem dX8_interaction_151 : decode cX8_interaction 151 = .ok (.invokestatic 202, 3) := by decide +kernel
theorem dX8_interaction_154 : decode cX8_interaction 154 = .ok (.ireturn, 1) := by decide +kernel
theorem dX8_ranked_0 : decode cX8_ranked 0 = .ok (.aload_n 0, 1) := by decide +kernel
theorem dX8_ranked_1 : decode cX8_ranked 1 = .ok (.iload_n 1, 1) := by decide +kernel
theorem dX8_ranked_2 : decode cX8_ranked 2 = .ok (.invokestatic 63, 3) := by decide +kernel
theorem dX8_ranked_5 : decode cX8_ranked 5 = .ok (.ifCond .eq 7, 3) := by decide +kernel
theorem dX8_ranked_8 : decode cX8_ranked 8 = .ok (.iconst 0, 1) := by decide +kernel
theorem dX8_ranked_9 : decode cX8_ranked 9 = .ok (.goto 4, 3) := by decide +kernel
theorem dX8_ranked_12 : decode cX8_ranked 12 = .ok (.iconst 1, 1) := by decide +kernel
theorem dX8_ranked_13 : decode cX8_ranked 13 = .ok (.invokevirtual 75, 3) := by decide +kernel
theorem dX8_ranked_16 : decode cX8_ranked 16 = .ok (.ifCond .eq 5, 3) := by decide +kernel
theorem dX8_ranked_19 : decode cX8_ranked 19 = .ok (.iconst 0, 1) := by decide +kernel
theorem dX8_ranked_20 : decode cX8_ranked 20 = .ok (.ireturn, 1) := by decide +kernel
theorem dX8_ranked_21 : decode cX8_ranked 21 = .ok (.aload_n 0, 1) := by decide +kernel
theorem dX8_ranked_22 : decode cX8_ranked 22 = .ok (.iconst (-1), 1) := by decide +kernel
theorem dX8_ranked_23 : decode cX8_ranked 23 = .ok (.invokevirtual 193, 3) := by decide +kernel
theorem dX8_ranked_26 : decode cX8_ranked 26 = .ok (.iconst 0, 1) := by decide +kernel
theorem dX8_ranked_27 : decode cX8_ranked 27 = .ok (.istore_n 2, 1) := by decide +kernel
theorem dX8_ranked_28 : decode cX8_ranked 28 = .ok (.iconst 0, 1) := by decide +kernel
theorem dX8_ranked_29 : decode cX8_ranked 29 = .ok (.istore_n 3, 1) := by decide +kernel
theorem dX8_ranked_30 : decode cX8_ranked 30 = .ok (.iload_n 3, 1) := by decide +kernel
theorem dX8_ranked_31 : decode cX8_ranked 31 = .ok (.bipush 6, 2) := by decide +kernel
theorem dX8_ranked_33 : decode cX8_ranked 33 = .ok (.if_icmp .ge 86, 3) := by decide +kernel
theorem dX8_ranked_36 : decode cX8_ranked 36 = .ok (.iconst 0, 1) := by decide +kernel
theorem dX8_ranked_37 : decode cX8_ranked 37 = .ok (.istore 4, 2) := by decide +kernel
theorem dX8_ranked_39 : decode cX8_ranked 39 = .ok (.iconst 0, 1) := by decide +kernel
theorem dX8_ranked_40 : decode cX8_ranked 40 = .ok (.istore 5, 2) := by decide +kernel
theorem dX8_ranked_42 : decode cX8_ranked 42 = .ok (.iload 5, 2) := by decide +kernel
theorem dX8_ranked_44 : decode cX8_ranked 44 = .ok (.bipush 6, 2) := by decide +kernel
theorem dX8_ranked_46 : decode cX8_ranked 46 = .ok (.if_icmp .ge 55, 3) := by decide +kernel
theorem dX8_ranked_49 : decode cX8_ranked 49 = .ok (.aload_n 0, 1) := by decide +kernel
theorem dX8_ranked_50 : decode cX8_ranked 50 = .ok (.iload 5, 2) := by decide +kernel
theorem dX8_ranked_52 : decode cX8_ranked 52 = .ok (.iconst 1, 1) := by decide +kernel
theorem dX8_ranked_53 : decode cX8_ranked 53 = .ok (.invokevirtual 196, 3) := by decide +kernel
theorem dX8_ranked_56 : decode cX8_ranked 56 = .ok (.aload_n 0, 1) := by decide +kernel
theorem dX8_ranked_57 : decode cX8_ranked 57 = .ok (.iload_n 3, 1) := by decide +kernel
theorem dX8_ranked_58 : decode cX8_ranked 58 = .ok (.iconst 1, 1) := by decide +kernel
theorem dX8_ranked_59 : decode cX8_ranked 59 = .ok (.invokevirtual 196, 3) := by decide +kernel
theorem dX8_ranked_62 : decode cX8_ranked 62 = .ok (.lsub, 1) := by decide +kernel
theorem dX8_ranked_63 : decode cX8_ranked 63 = .ok (.lstore 6, 2) := by decide +kernel
theorem dX8_ranked_65 : decode cX8_ranked 65 = .ok (.iload 4, 2) := by decide +kernel
theorem dX8_ranked_67 : decode cX8_ranked 67 = .ok (.lload 6, 2) := by decide +kernel
theorem dX8_ranked_69 : decode cX8_ranked 69 = .ok (.lconst 0, 1) := by decide +kernel
theorem dX8_ranked_70 : decode cX8_ranked 70 = .ok (.lcmp, 1) := by decide +kernel
theorem dX8_ranked_71 : decode cX8_ranked 71 = .ok (.ifCond .gt 16, 3) := by decide +kernel
theorem dX8_ranked_74 : decode cX8_ranked 74 = .ok (.lload 6, 2) := by decide +kernel
theorem dX8_ranked_76 : decode cX8_ranked 76 = .ok (.lconst 0, 1) := by decide +kernel
theorem dX8_ranked_77 : decode cX8_ranked 77 = .ok (.lcmp, 1) := by decide +kernel
theorem dX8_ranked_78 : decode cX8_ranked 78 = .ok (.ifCond .ne 13, 3) := by decide +kernel
theorem dX8_ranked_81 : decode cX8_ranked 81 = .ok (.iload 5, 2) := by decide +kernel
theorem dX8_ranked_83 : decode cX8_ranked 83 = .ok (.iload_n 3, 1) := by decide +kernel
theorem dX8_ranked_84 : decode cX8_ranked 84 = .ok (.if_icmp .ge 7, 3) := by decide +kernel
theorem dX8_ranked_87 : decode cX8_ranked 87 = .ok (.iconst 1, 1) := by decide +kernel
theorem dX8_ranked_88 : decode cX8_ranked 88 = .ok (.goto 4, 3) := by decide +kernel
theorem dX8_ranked_91 : decode cX8_ranked 91 = .ok (.iconst 0, 1) := by decide +kernel
theorem dX8_ranked_92 : decode cX8_ranked 92 = .ok (.iadd, 1) := by decide +kernel
theorem dX8_ranked_93 : decode cX8_ranked 93 = .ok (.istore 4, 2) := by decide +kernel
theorem dX8_ranked_95 : decode cX8_ranked 95 = .ok (.iinc 5 1, 3) := by decide +kernel
theorem dX8_ranked_98 : decode cX8_ranked 98 = .ok (.goto (-56), 3) := by decide +kernel
theorem dX8_ranked_101 : decode cX8_ranked 101 = .ok (.iload 4, 2) := by decide +kernel
theorem dX8_ranked_103 : decode cX8_ranked 103 = .ok (.iload_n 1, 1) := by decide +kernel
theorem dX8_ranked_104 : decode cX8_ranked 104 = .ok (.if_icmp .ne 7, 3) := by decide +kernel
theorem dX8_ranked_107 : decode cX8_ranked 107 = .ok (.iload_n 3, 1) := by decide +kernel
theorem dX8_ranked_108 : decode cX8_ranked 108 = .ok (.goto 4, 3) := by decide +kernel
theorem dX8_ranked_111 : decode cX8_ranked 111 = .ok (.iload_n 2, 1) := by decide +kernel
theorem dX8_ranked_112 : decode cX8_ranked 112 = .ok (.istore_n 2, 1) := by decide +kernel
theorem dX8_ranked_113 : decode cX8_ranked 113 = .ok (.iinc 3 1, 3) := by decide +kernel
theorem dX8_ranked_116 : decode cX8_ranked 116 = .ok (.goto (-86), 3) := by decide +kernel
theorem dX8_ranked_119 : decode cX8_ranked 119 = .ok (.iload_n 2, 1) := by decide +kernel
theorem dX8_ranked_120 : decode cX8_ranked 120 = .ok (.ireturn, 1) := by decide +kernel
theorem dX8_shuffles_0 : decode cX8_shuffles 0 = .ok (.iconst 0, 1) := by decide +kernel
theorem dX8_shuffles_1 : decode cX8_shuffles 1 = .ok (.istore_n 1, 1) := by decide +kernel
theorem dX8_shuffles_2 : decode cX8_shuffles 2 = .ok (.iload_n 1, 1) := by decide +kernel
theorem dX8_shuffles_3 : decode cX8_shuffles 3 = .ok (.bipush 6, 2) := by decide +kernel
theorem dX8_shuffles_5 : decode cX8_shuffles 5 = .ok (.if_icmp .ge 16, 3) := by decide +kernel
theorem dX8_shuffles_8 : decode cX8_shuffles 8 = .ok (.aload_n 0, 1) := by decide +kernel
theorem dX8_shuffles_9 : decode cX8_shuffles 9 = .ok (.getfield 43, 3) := by decide +kernel
theorem dX8_shuffles_12 : decode cX8_shuffles 12 = .ok (.iload_n 1, 1) := by decide +kernel
theorem dX8_shuffles_13 : decode cX8_shuffles 13 = .ok (.iload_n 1, 1) := by decide +kernel
theorem dX8_shuffles_14 : decode cX8_shuffles 14 = .ok (.iastore, 1) := by decide +kernel
theorem dX8_shuffles_15 : decode cX8_shuffles 15 = .ok (.iinc 1 1, 3) := by decide +kernel
theorem dX8_shuffles_18 : decode cX8_shuffles 18 = .ok (.goto (-16), 3) := by decide +kernel
theorem dX8_shuffles_21 : decode cX8_shuffles 21 = .ok (.iconst 5, 1) := by decide +kernel
theorem dX8_shuffles_22 : decode cX8_shuffles 22 = .ok (.istore_n 1, 1) := by decide +kernel
theorem dX8_shuffles_23 : decode cX8_shuffles 23 = .ok (.iload_n 1, 1) := by decide +kernel
theorem dX8_shuffles_24 : decode cX8_shuffles 24 = .ok (.ifCond .le 70, 3) := by decide +kernel
theorem dX8_shuffles_27 : decode cX8_shuffles 27 = .ok (.aload_n 0, 1) := by decide +kernel
theorem dX8_shuffles_28 : decode cX8_shuffles 28 = .ok (.ldc2_w 210, 3) := by decide +kernel
theorem dX8_shuffles_31 : decode cX8_shuffles 31 = .ok (.aload_n 0, 1) := by decide +kernel
theorem dX8_shuffles_32 : decode cX8_shuffles 32 = .ok (.getfield 212, 3) := by decide +kernel
theorem dX8_shuffles_35 : decode cX8_shuffles 35 = .ok (.lmul, 1) := by decide +kernel
theorem dX8_shuffles_36 : decode cX8_shuffles 36 = .ok (.ldc2_w 216, 3) := by decide +kernel
theorem dX8_shuffles_39 : decode cX8_shuffles 39 = .ok (.ladd, 1) := by decide +kernel
theorem dX8_shuffles_40 : decode cX8_shuffles 40 = .ok (.ldc2_w 218, 3) := by decide +kernel
theorem dX8_shuffles_43 : decode cX8_shuffles 43 = .ok (.lrem, 1) := by decide +kernel
theorem dX8_shuffles_44 : decode cX8_shuffles 44 = .ok (.putfield 212, 3) := by decide +kernel
theorem dX8_shuffles_47 : decode cX8_shuffles 47 = .ok (.aload_n 0, 1) := by decide +kernel
theorem dX8_shuffles_48 : decode cX8_shuffles 48 = .ok (.getfield 212, 3) := by decide +kernel
theorem dX8_shuffles_51 : decode cX8_shuffles 51 = .ok (.ldc2_w 220, 3) := by decide +kernel
theorem dX8_shuffles_54 : decode cX8_shuffles 54 = .ok (.ldiv, 1) := by decide +kernel
theorem dX8_shuffles_55 : decode cX8_shuffles 55 = .ok (.iload_n 1, 1) := by decide +kernel
theorem dX8_shuffles_56 : decode cX8_shuffles 56 = .ok (.iconst 1, 1) := by decide +kernel
theorem dX8_shuffles_57 : decode cX8_shuffles 57 = .ok (.iadd, 1) := by decide +kernel
theorem dX8_shuffles_58 : decode cX8_shuffles 58 = .ok (.i2l, 1) := by decide +kernel
theorem dX8_shuffles_59 : decode cX8_shuffles 59 = .ok (.lrem, 1) := by decide +kernel
theorem dX8_shuffles_60 : decode cX8_shuffles 60 = .ok (.l2i, 1) := by decide +kernel
theorem dX8_shuffles_61 : decode cX8_shuffles 61 = .ok (.istore_n 2, 1) := by decide +kernel
theorem dX8_shuffles_62 : decode cX8_shuffles 62 = .ok (.aload_n 0, 1) := by decide +kernel
theorem dX8_shuffles_63 : decode cX8_shuffles 63 = .ok (.getfield 43, 3) := by decide +kernel
theorem dX8_shuffles_66 : decode cX8_shuffles 66 = .ok (.iload_n 1, 1) := by decide +kernel
theorem dX8_shuffles_67 : decode cX8_shuffles 67 = .ok (.iaload, 1) := by decide +kernel
theorem dX8_shuffles_68 : decode cX8_shuffles 68 = .ok (.istore_n 3, 1) := by decide +kernel
theorem dX8_shuffles_69 : decode cX8_shuffles 69 = .ok (.aload_n 0, 1) := by decide +kernel
theorem dX8_shuffles_70 : decode cX8_shuffles 70 = .ok (.getfield 43, 3) := by decide +kernel
theorem dX8_shuffles_73 : decode cX8_shuffles 73 = .ok (.iload_n 1, 1) := by decide +kernel
theorem dX8_shuffles_74 : decode cX8_shuffles 74 = .ok (.aload_n 0, 1) := by decide +kernel
theorem dX8_shuffles_75 : decode cX8_shuffles 75 = .ok (.getfield 43, 3) := by decide +kernel
theorem dX8_shuffles_78 : decode cX8_shuffles 78 = .ok (.iload_n 2, 1) := by decide +kernel
theorem dX8_shuffles_79 : decode cX8_shuffles 79 = .ok (.iaload, 1) := by decide +kernel
theorem dX8_shuffles_80 : decode cX8_shuffles 80 = .ok (.iastore, 1) := by decide +kernel
theorem dX8_shuffles_81 : decode cX8_shuffles 81 = .ok (.aload_n 0, 1) := by decide +kernel
theorem dX8_shuffles_82 : decode cX8_shuffles 82 = .ok (.getfield 43, 3) := by decide +kernel
theorem dX8_shuffles_85 : decode cX8_shuffles 85 = .ok (.iload_n 2, 1) := by decide +kernel
theorem dX8_shuffles_86 : decode cX8_shuffles 86 = .ok (.iload_n 3, 1) := by decide +kernel
theorem dX8_shuffles_87 : decode cX8_shuffles 87 = .ok (.iastore, 1) := by decide +kernel
theorem dX8_shuffles_88 : decode cX8_shuffles 88 = .ok (.iinc 1 (-1), 3) := by decide +kernel
theorem dX8_shuffles_91 : decode cX8_shuffles 91 = .ok (.goto (-68), 3) := by decide +kernel
theorem dX8_shuffles_94 : decode cX8_shuffles 94 = .ok (.return_, 1) := by decide +kernel
theorem dX8_sampled_0 : decode cX8_sampled 0 = .ok (.aload_n 0, 1) := by decide +kernel
theorem dX8_sampled_1 : decode cX8_sampled 1 = .ok (.iload_n 1, 1) := by decide +kernel
theorem dX8_sampled_2 : decode cX8_sampled 2 = .ok (.invokestatic 63, 3) := by decide +kernel
theorem dX8_sampled_5 : decode cX8_sampled 5 = .ok (.ifCond .ne 7, 3) := by decide +kernel
theorem dX8_sampled_8 : decode cX8_sampled 8 = .ok (.iconst 1, 1) := by decide +kernel
theorem dX8_sampled_9 : decode cX8_sampled 9 = .ok (.goto 22, 3) := by decide +kernel
theorem dX8_sampled_12 : decode cX8_sampled 12 = .ok (.iload_n 2, 1) := by decide +kernel
theorem dX8_sampled_13 : decode cX8_sampled 13 = .ok (.iconst 1, 1) := by decide +kernel
theorem dX8_sampled_14 : decode cX8_sampled 14 = .ok (.bipush 100, 2) := by decide +kernel
theorem dX8_sampled_16 : decode cX8_sampled 16 = .ok (.invokestatic 59, 3) := by decide +kernel
theorem dX8_sampled_19 : decode cX8_sampled 19 = .ok (.ifCond .eq 11, 3) := by decide +kernel
theorem dX8_sampled_22 : decode cX8_sampled 22 = .ok (.iload_n 3, 1) := by decide +kernel
theorem dX8_sampled_23 : decode cX8_sampled 23 = .ok (.ifCond .lt 7, 3) := by decide +kernel
theorem dX8_sampled_26 : decode cX8_sampled 26 = .ok (.iconst 0, 1) := by decide +kernel
theorem dX8_sampled_27 : decode cX8_sampled 27 = .ok (.goto 4, 3) := by decide +kernel
theorem dX8_sampled_30 : decode cX8_sampled 30 = .ok (.iconst 2, 1) := by decide +kernel
theorem dX8_sampled_31 : decode cX8_sampled 31 = .ok (.invokevirtual 75, 3) := by decide +kernel
theorem dX8_sampled_34 : decode cX8_sampled 34 = .ok (.ifCond .eq 5, 3) := by decide +kernel
theorem dX8_sampled_37 : decode cX8_sampled 37 = .ok (.iconst 0, 1) := by decide +kernel
theorem dX8_sampled_38 : decode cX8_sampled 38 = .ok (.ireturn, 1) := by decide +kernel
theorem dX8_sampled_39 : decode cX8_sampled 39 = .ok (.aload_n 0, 1) := by decide +kernel
theorem dX8_sampled_40 : decode cX8_sampled 40 = .ok (.iconst (-1), 1) := by decide +kernel
theorem dX8_sampled_41 : decode cX8_sampled 41 = .ok (.invokevirtual 193, 3) := by decide +kernel
theorem dX8_sampled_44 : decode cX8_sampled 44 = .ok (.aload_n 0, 1) := by decide +kernel
theorem dX8_sampled_45 : decode cX8_sampled 45 = .ok (.iload_n 3, 1) := by decide +kernel
theorem dX8_sampled_46 : decode cX8_sampled 46 = .ok (.i2l, 1) := by decide +kernel
theorem dX8_sampled_47 : decode cX8_sampled 47 = .ok (.putfield 212, 3) := by decide +kernel
theorem dX8_sampled_50 : decode cX8_sampled 50 = .ok (.iconst 0, 1) := by decide +kernel
theorem dX8_sampled_51 : decode cX8_sampled 51 = .ok (.istore 4, 2) := by decide +kernel
theorem dX8_sampled_53 : decode cX8_sampled 53 = .ok (.iconst 0, 1) := by decide +kernel
theorem dX8_sampled_54 : decode cX8_sampled 54 = .ok (.istore 5, 2) := by decide +kernel
theorem dX8_sampled_56 : decode cX8_sampled 56 = .ok (.iload 5, 2) := by decide +kernel
theorem dX8_sampled_58 : decode cX8_sampled 58 = .ok (.iload_n 2, 1) := by decide +kernel
theorem dX8_sampled_59 : decode cX8_sampled 59 = .ok (.if_icmp .ge 74, 3) := by decide +kernel
theorem dX8_sampled_62 : decode cX8_sampled 62 = .ok (.aload_n 0, 1) := by decide +kernel
theorem dX8_sampled_63 : decode cX8_sampled 63 = .ok (.invokevirtual 222, 3) := by decide +kernel
theorem dX8_sampled_66 : decode cX8_sampled 66 = .ok (.iconst 0, 1) := by decide +kernel
theorem dX8_sampled_67 : decode cX8_sampled 67 = .ok (.istore 6, 2) := by decide +kernel
theorem dX8_sampled_69 : decode cX8_sampled 69 = .ok (.iconst 0, 1) := by decide +kernel
theorem dX8_sampled_70 : decode cX8_sampled 70 = .ok (.istore 7, 2) := by decide +kernel
theorem dX8_sampled_72 : decode cX8_sampled 72 = .ok (.aload_n 0, 1) := by decide +kernel
theorem dX8_sampled_73 : decode cX8_sampled 73 = .ok (.getfield 43, 3) := by decide +kernel
theorem dX8_sampled_76 : decode cX8_sampled 76 = .ok (.iload 7, 2) := by decide +kernel
theorem dX8_sampled_78 : decode cX8_sampled 78 = .ok (.iaload, 1) := by decide +kernel
theorem dX8_sampled_79 : decode cX8_sampled 79 = .ok (.iload_n 1, 1) := by decide +kernel
theorem dX8_sampled_80 : decode cX8_sampled 80 = .ok (.if_icmp .eq 23, 3) := by decide +kernel
theorem dX8_sampled_83 : decode cX8_sampled 83 = .ok (.iload 6, 2) := by decide +kernel
theorem dX8_sampled_85 : decode cX8_sampled 85 = .ok (.iconst 1, 1) := by decide +kernel
theorem dX8_sampled_86 : decode cX8_sampled 86 = .ok (.aload_n 0, 1) := by decide +kernel
theorem dX8_sampled_87 : decode cX8_sampled 87 = .ok (.getfield 43, 3) := by decide +kernel
theorem dX8_sampled_90 : decode cX8_sampled 90 = .ok (.iload 7, 2) := by decide +kernel
theorem dX8_sampled_92 : decode cX8_sampled 92 = .ok (.iaload, 1) := by decide +kernel
theorem dX8_sampled_93 : decode cX8_sampled 93 = .ok (.ishl, 1) := by decide +kernel
theorem dX8_sampled_94 : decode cX8_sampled 94 = .ok (.ior, 1) := by decide +kernel
theorem dX8_sampled_95 : decode cX8_sampled 95 = .ok (.istore 6, 2) := by decide +kernel
theorem dX8_sampled_97 : decode cX8_sampled 97 = .ok (.iinc 7 1, 3) := by decide +kernel
theorem dX8_sampled_100 : decode cX8_sampled 100 = .ok (.goto (-28), 3) := by decide +kernel
theorem dX8_sampled_103 : decode cX8_sampled 103 = .ok (.iload 4, 2) := by decide +kernel
theorem dX8_sampled_105 : decode cX8_sampled 105 = .ok (.aload_n 0, 1) := by decide +kernel
theorem dX8_sampled_106 : decode cX8_sampled 106 = .ok (.getfield 40, 3) := by decide +kernel
theorem dX8_sampled_109 : decode cX8_sampled 109 = .ok (.iload 6, 2) := by decide +kernel
theorem dX8_sampled_111 : decode cX8_sampled 111 = .ok (.iconst 1, 1) := by decide +kernel
theorem dX8_sampled_112 : decode cX8_sampled 112 = .ok (.iload_n 1, 1) := by decide +kernel
theorem dX8_sampled_113 : decode cX8_sampled 113 = .ok (.ishl, 1) := by decide +kernel
theorem dX8_sampled_114 : decode cX8_sampled 114 = .ok (.ior, 1) := by decide +kernel
theorem dX8_sampled_115 : decode cX8_sampled 115 = .ok (.iaload, 1) := by decide +kernel
theorem dX8_sampled_116 : decode cX8_sampled 116 = .ok (.aload_n 0, 1) := by decide +kernel
theorem dX8_sampled_117 : decode cX8_sampled 117 = .ok (.getfield 40, 3) := by decide +kernel
theorem dX8_sampled_120 : decode cX8_sampled 120 = .ok (.iload 6, 2) := by decide +kernel
theorem dX8_sampled_122 : decode cX8_sampled 122 = .ok (.iaload, 1) := by decide +kernel
theorem dX8_sampled_123 : decode cX8_sampled 123 = .ok (.isub, 1) := by decide +kernel
theorem dX8_sampled_124 : decode cX8_sampled 124 = .ok (.iadd, 1) := by decide +kernel
theorem dX8_sampled_125 : decode cX8_sampled 125 = .ok (.istore 4, 2) := by decide +kernel
theorem dX8_sampled_127 : decode cX8_sampled 127 = .ok (.iinc 5 1, 3) := by decide +kernel
theorem dX8_sampled_130 : decode cX8_sampled 130 = .ok (.goto (-74), 3) := by decide +kernel
theorem dX8_sampled_133 : decode cX8_sampled 133 = .ok (.iload 4, 2) := by decide +kernel
theorem dX8_sampled_135 : decode cX8_sampled 135 = .ok (.ireturn, 1) := by decide +kernel
theorem dX8_isDropped_0 : decode cX8_isDropped 0 = .ok (.aload_n 0, 1) := by decide +kernel
theorem dX8_isDropped_1 : decode cX8_isDropped 1 = .ok (.iload_n 2, 1) := by decide +kernel
theorem dX8_isDropped_2 : decode cX8_isDropped 2 = .ok (.invokevirtual 168, 3) := by decide +kernel
theorem dX8_isDropped_5 : decode cX8_isDropped 5 = .ok (.aload_n 0, 1) := by decide +kernel
theorem dX8_isDropped_6 : decode cX8_isDropped 6 = .ok (.getfield 16, 3) := by decide +kernel
theorem dX8_isDropped_9 : decode cX8_isDropped 9 = .ok (.iload_n 1, 1) := by decide +kernel
theorem dX8_isDropped_10 : decode cX8_isDropped 10 = .ok (.iaload, 1) := by decide +kernel
theorem dX8_isDropped_11 : decode cX8_isDropped 11 = .ok (.bipush (-2), 2) := by decide +kernel
theorem dX8_isDropped_13 : decode cX8_isDropped 13 = .ok (.if_icmp .ne 7, 3) := by decide +kernel
theorem dX8_isDropped_16 : decode cX8_isDropped 16 = .ok (.iconst 1, 1) := by decide +kernel
theorem dX8_isDropped_17 : decode cX8_isDropped 17 = .ok (.goto 4, 3) := by decide +kernel
theorem dX8_isDropped_20 : decode cX8_isDropped 20 = .ok (.iconst 0, 1) := by decide +kernel
theorem dX8_isDropped_21 : decode cX8_isDropped 21 = .ok (.ireturn, 1) := by decide +kernel
theorem dX8_smallest_0 : decode cX8_smallest 0 = .ok (.iconst (-1), 1) := by decide +kernel
theorem dX8_smallest_1 : decode cX8_smallest 1 = .ok (.istore_n 2, 1) := by decide +kernel
theorem dX8_smallest_2 : decode cX8_smallest 2 = .ok (.aload_n 0, 1) := by decide +kernel
theorem dX8_smallest_3 : decode cX8_smallest 3 = .ok (.iconst 0, 1) := by decide +kernel
theorem dX8_smallest_4 : decode cX8_smallest 4 = .ok (.putfield 225, 3) := by decide +kernel
theorem dX8_smallest_7 : decode cX8_smallest 7 = .ok (.aload_n 0, 1) := by decide +kernel
theorem dX8_smallest_8 : decode cX8_smallest 8 = .ok (.iload_n 1, 1) := by decide +kernel
theorem dX8_smallest_9 : decode cX8_smallest 9 = .ok (.bipush 63, 2) := by decide +kernel
theorem dX8_smallest_11 : decode cX8_smallest 11 = .ok (.invokevirtual 228, 3) := by decide +kernel
theorem dX8_smallest_14 : decode cX8_smallest 14 = .ok (.ifCond .ne 5, 3) := by decide +kernel
theorem dX8_smallest_17 : decode cX8_smallest 17 = .ok (.iconst 0, 1) := by decide +kernel
theorem dX8_smallest_18 : decode cX8_smallest 18 = .ok (.ireturn, 1) := by decide +kernel
theorem dX8_smallest_19 : decode cX8_smallest 19 = .ok (.iconst 1, 1) := by decide +kernel
theorem dX8_smallest_20 : decode cX8_smallest 20 = .ok (.istore_n 3, 1) := by decide +kernel
theorem dX8_smallest_21 : decode cX8_smallest 21 = .ok (.iload_n 3, 1) := by decide +kernel
theorem dX8_smallest_22 : decode cX8_smallest 22 = .ok (.bipush 63, 2) := by decide +kernel
theorem dX8_smallest_24 : decode cX8_smallest 24 = .ok (.if_icmp .gt 117, 3) := by decide +kernel
theorem dX8_smallest_27 : decode cX8_smallest 27 = .ok (.iload_n 3, 1) := by decide +kernel
theorem dX8_smallest_28 : decode cX8_smallest 28 = .ok (.aload_n 0, 1) := by decide +kernel
theorem dX8_smallest_29 : decode cX8_smallest 29 = .ok (.iload_n 1, 1) := by decide +kernel
theorem dX8_smallest_30 : decode cX8_smallest 30 = .ok (.iconst 1, 1) := by decide +kernel
theorem dX8_smallest_31 : decode cX8_smallest 31 = .ok (.invokevirtual 67, 3) := by decide +kernel
theorem dX8_smallest_34 : decode cX8_smallest 34 = .ok (.ishr, 1) := by decide +kernel
theorem dX8_smallest_35 : decode cX8_smallest 35 = .ok (.iconst 1, 1) := by decide +kernel
theorem dX8_smallest_36 : decode cX8_smallest 36 = .ok (.iand, 1) := by decide +kernel
theorem dX8_smallest_37 : decode cX8_smallest 37 = .ok (.ifCond .ne 23, 3) := by decide +kernel
theorem dX8_smallest_40 : decode cX8_smallest 40 = .ok (.iload_n 2, 1) := by decide +kernel
theorem dX8_smallest_41 : decode cX8_smallest 41 = .ok (.iconst (-1), 1) := by decide +kernel
theorem dX8_smallest_42 : decode cX8_smallest 42 = .ok (.if_icmp .eq 14, 3) := by decide +kernel
theorem dX8_smallest_45 : decode cX8_smallest 45 = .ok (.iload_n 3, 1) := by decide +kernel
theorem dX8_smallest_46 : decode cX8_smallest 46 = .ok (.invokestatic 187, 3) := by decide +kernel
theorem dX8_smallest_49 : decode cX8_smallest 49 = .ok (.iload_n 2, 1) := by decide +kernel
theorem dX8_smallest_50 : decode cX8_smallest 50 = .ok (.invokestatic 187, 3) := by decide +kernel
theorem dX8_smallest_53 : decode cX8_smallest 53 = .ok (.if_icmp .gt 7, 3) := by decide +kernel
theorem dX8_smallest_56 : decode cX8_smallest 56 = .ok (.iconst 1, 1) := by decide +kernel
theorem dX8_smallest_57 : decode cX8_smallest 57 = .ok (.goto 4, 3) := by decide +kernel
theorem dX8_smallest_60 : decode cX8_smallest 60 = .ok (.iconst 0, 1) := by decide +kernel
theorem dX8_smallest_61 : decode cX8_smallest 61 = .ok (.istore 4, 2) := by decide +kernel
theorem dX8_smallest_63 : decode cX8_smallest 63 = .ok (.iload 4, 2) := by decide +kernel
theorem dX8_smallest_65 : decode cX8_smallest 65 = .ok (.ifCond .eq 70, 3) := by decide +kernel
theorem dX8_smallest_68 : decode cX8_smallest 68 = .ok (.aload_n 0, 1) := by decide +kernel
theorem dX8_smallest_69 : decode cX8_smallest 69 = .ok (.iload_n 1, 1) := by decide +kernel
theorem dX8_smallest_70 : decode cX8_smallest 70 = .ok (.bipush 63, 2) := by decide +kernel
theorem dX8_smallest_72 : decode cX8_smallest 72 = .ok (.iload_n 3, 1) := by decide +kernel
theorem dX8_smallest_73 : decode cX8_smallest 73 = .ok (.iconst (-1), 1) := by decide +kernel
theorem dX8_smallest_74 : decode cX8_smallest 74 = .ok (.ixor, 1) := by decide +kernel
theorem dX8_smallest_75 : decode cX8_smallest 75 = .ok (.iand, 1) := by decide +kernel
theorem dX8_smallest_76 : decode cX8_smallest 76 = .ok (.invokevirtual 228, 3) := by decide +kernel
theorem dX8_smallest_79 : decode cX8_smallest 79 = .ok (.ifCond .ne 56, 3) := by decide +kernel
theorem dX8_smallest_82 : decode cX8_smallest 82 = .ok (.iload_n 2, 1) := by decide +kernel
theorem dX8_smallest_83 : decode cX8_smallest 83 = .ok (.iconst (-1), 1) := by decide +kernel
theorem dX8_smallest_84 : decode cX8_smallest 84 = .ok (.if_icmp .eq 14, 3) := by decide +kernel
theorem dX8_smallest_87 : decode cX8_smallest 87 = .ok (.iload_n 3, 1) := by decide +kernel
theorem dX8_smallest_88 : decode cX8_smallest 88 = .ok (.invokestatic 187, 3) := by decide +kernel
theorem dX8_smallest_91 : decode cX8_smallest 91 = .ok (.iload_n 2, 1) := by decide +kernel
theorem dX8_smallest_92 : decode cX8_smallest 92 = .ok (.invokestatic 187, 3) := by decide +kernel
theorem dX8_smallest_95 : decode cX8_smallest 95 = .ok (.if_icmp .ge 7, 3) := by decide +kernel
theorem dX8_smallest_98 : decode cX8_smallest 98 = .ok (.iconst 1, 1) := by decide +kernel
theorem dX8_smallest_99 : decode cX8_smallest 99 = .ok (.goto 4, 3) := by decide +kernel
theorem dX8_smallest_102 : decode cX8_smallest 102 = .ok (.iconst 0, 1) := by decide +kernel
theorem dX8_smallest_103 : decode cX8_smallest 103 = .ok (.istore 5, 2) := by decide +kernel
theorem dX8_smallest_105 : decode cX8_smallest 105 = .ok (.aload_n 0, 1) := by decide +kernel
theorem dX8_smallest_106 : decode cX8_smallest 106 = .ok (.iload 5, 2) := by decide +kernel
theorem dX8_smallest_108 : decode cX8_smallest 108 = .ok (.ifCond .eq 7, 3) := by decide +kernel
theorem dX8_smallest_111 : decode cX8_smallest 111 = .ok (.iload_n 3, 1) := by decide +kernel
theorem dX8_smallest_112 : decode cX8_smallest 112 = .ok (.goto 9, 3) := by decide +kernel
theorem dX8_smallest_115 : decode cX8_smallest 115 = .ok (.aload_n 0, 1) := by decide +kernel
theorem dX8_smallest_116 : decode cX8_smallest 116 = .ok (.getfield 225, 3) := by decide +kernel
theorem dX8_smallest_119 : decode cX8_smallest 119 = .ok (.iload_n 3, 1) := by decide +kernel
theorem dX8_smallest_120 : decode cX8_smallest 120 = .ok (.ior, 1) := by decide +kernel
theorem dX8_smallest_121 : decode cX8_smallest 121 = .ok (.putfield 225, 3) := by decide +kernel
theorem dX8_smallest_124 : decode cX8_smallest 124 = .ok (.iload 5, 2) := by decide +kernel
theorem dX8_smallest_126 : decode cX8_smallest 126 = .ok (.ifCond .eq 7, 3) := by decide +kernel
theorem dX8_smallest_129 : decode cX8_smallest 129 = .ok (.iload_n 3, 1) := by decide +kernel
theorem dX8_smallest_130 : decode cX8_smallest 130 = .ok (.goto 4, 3) := by decide +kernel
theorem dX8_smallest_133 : decode cX8_smallest 133 = .ok (.iload_n 2, 1) := by decide +kernel
theorem dX8_smallest_134 : decode cX8_smallest 134 = .ok (.istore_n 2, 1) := by decide +kernel
theorem dX8_smallest_135 : decode cX8_smallest 135 = .ok (.iinc 3 1, 3) := by decide +kernel
theorem dX8_smallest_138 : decode cX8_smallest 138 = .ok (.goto (-117), 3) := by decide +kernel
theorem dX8_smallest_141 : decode cX8_smallest 141 = .ok (.iload_n 2, 1) := by decide +kernel
theorem dX8_smallest_142 : decode cX8_smallest 142 = .ok (.ireturn, 1) := by decide +kernel
theorem dX8_cause_0 : decode cX8_cause 0 = .ok (.aload_n 0, 1) := by decide +kernel
theorem dX8_cause_1 : decode cX8_cause 1 = .ok (.aload_n 0, 1) := by decide +kernel
theorem dX8_cause_2 : decode cX8_cause 2 = .ok (.iload_n 1, 1) := by decide +kernel
theorem dX8_cause_3 : decode cX8_cause 3 = .ok (.invokevirtual 84, 3) := by decide +kernel
theorem dX8_cause_6 : decode cX8_cause 6 = .ok (.ifCond .eq 7, 3) := by decide +kernel
theorem dX8_cause_9 : decode cX8_cause 9 = .ok (.iconst 0, 1) := by decide +kernel
theorem dX8_cause_10 : decode cX8_cause 10 = .ok (.goto 4, 3) := by decide +kernel
theorem dX8_cause_13 : decode cX8_cause 13 = .ok (.iconst 1, 1) := by decide +kernel
theorem dX8_cause_14 : decode cX8_cause 14 = .ok (.invokevirtual 75, 3) := by decide +kernel
theorem dX8_cause_17 : decode cX8_cause 17 = .ok (.ifCond .eq 7, 3) := by decide +kernel
theorem dX8_cause_20 : decode cX8_cause 20 = .ok (.iconst 0, 1) := by decide +kernel
theorem dX8_cause_21 : decode cX8_cause 21 = .ok (.goto 8, 3) := by decide +kernel
theorem dX8_cause_24 : decode cX8_cause 24 = .ok (.aload_n 0, 1) := by decide +kernel
theorem dX8_cause_25 : decode cX8_cause 25 = .ok (.iload_n 1, 1) := by decide +kernel
theorem dX8_cause_26 : decode cX8_cause 26 = .ok (.invokevirtual 231, 3) := by decide +kernel
theorem dX8_cause_29 : decode cX8_cause 29 = .ok (.ireturn, 1) := by decide +kernel
theorem dX8_suspects_0 : decode cX8_suspects 0 = .ok (.aload_n 0, 1) := by decide +kernel
theorem dX8_suspects_1 : decode cX8_suspects 1 = .ok (.aload_n 0, 1) := by decide +kernel
theorem dX8_suspects_2 : decode cX8_suspects 2 = .ok (.iload_n 1, 1) := by decide +kernel
theorem dX8_suspects_3 : decode cX8_suspects 3 = .ok (.invokevirtual 84, 3) := by decide +kernel
theorem dX8_suspects_6 : decode cX8_suspects 6 = .ok (.ifCond .eq 7, 3) := by decide +kernel
theorem dX8_suspects_9 : decode cX8_suspects 9 = .ok (.iconst 0, 1) := by decide +kernel
theorem dX8_suspects_10 : decode cX8_suspects 10 = .ok (.goto 4, 3) := by decide +kernel
theorem dX8_suspects_13 : decode cX8_suspects 13 = .ok (.iconst 1, 1) := by decide +kernel
theorem dX8_suspects_14 : decode cX8_suspects 14 = .ok (.invokevirtual 75, 3) := by decide +kernel
theorem dX8_suspects_17 : decode cX8_suspects 17 = .ok (.ifCond .eq 5, 3) := by decide +kernel
theorem dX8_suspects_20 : decode cX8_suspects 20 = .ok (.iconst 0, 1) := by decide +kernel
theorem dX8_suspects_21 : decode cX8_suspects 21 = .ok (.ireturn, 1) := by decide +kernel
theorem dX8_suspects_22 : decode cX8_suspects 22 = .ok (.aload_n 0, 1) := by decide +kernel
theorem dX8_suspects_23 : decode cX8_suspects 23 = .ok (.iload_n 1, 1) := by decide +kernel
theorem dX8_suspects_24 : decode cX8_suspects 24 = .ok (.invokevirtual 231, 3) := by decide +kernel
theorem dX8_suspects_27 : decode cX8_suspects 27 = .ok (.istore_n 2, 1) := by decide +kernel
theorem dX8_suspects_28 : decode cX8_suspects 28 = .ok (.iload_n 2, 1) := by decide +kernel
theorem dX8_suspects_29 : decode cX8_suspects 29 = .ok (.ifCond .gt 7, 3) := by decide +kernel
theorem dX8_suspects_32 : decode cX8_suspects 32 = .ok (.iconst 0, 1) := by decide +kernel
theorem dX8_suspects_33 : decode cX8_suspects 33 = .ok (.goto 7, 3) := by decide +kernel
theorem dX8_suspects_36 : decode cX8_suspects 36 = .ok (.aload_n 0, 1) := by decide +kernel
theorem dX8_suspects_37 : decode cX8_suspects 37 = .ok (.getfield 225, 3) := by decide +kernel
theorem dX8_suspects_40 : decode cX8_suspects 40 = .ok (.ireturn, 1) := by decide +kernel
theorem dX8_capacityFor_0 : decode cX8_capacityFor 0 = .ok (.aload_n 0, 1) := by decide +kernel
theorem dX8_capacityFor_1 : decode cX8_capacityFor 1 = .ok (.iload_n 1, 1) := by decide +kernel
theorem dX8_capacityFor_2 : decode cX8_capacityFor 2 = .ok (.ifCond .lt 7, 3) := by decide +kernel
theorem dX8_capacityFor_5 : decode cX8_capacityFor 5 = .ok (.iconst 0, 1) := by decide +kernel
theorem dX8_capacityFor_6 : decode cX8_capacityFor 6 = .ok (.goto 4, 3) := by decide +kernel
theorem dX8_capacityFor_9 : decode cX8_capacityFor 9 = .ok (.iconst 1, 1) := by decide +kernel
theorem dX8_capacityFor_10 : decode cX8_capacityFor 10 = .ok (.invokevirtual 75, 3) := by decide +kernel
theorem dX8_capacityFor_13 : decode cX8_capacityFor 13 = .ok (.ifCond .eq 5, 3) := by decide +kernel
theorem dX8_capacityFor_16 : decode cX8_capacityFor 16 = .ok (.iconst 0, 1) := by decide +kernel
theorem dX8_capacityFor_17 : decode cX8_capacityFor 17 = .ok (.ireturn, 1) := by decide +kernel
theorem dX8_capacityFor_18 : decode cX8_capacityFor 18 = .ok (.aload_n 0, 1) := by decide +kernel
theorem dX8_capacityFor_19 : decode cX8_capacityFor 19 = .ok (.getfield 7, 3) := by decide +kernel
theorem dX8_capacityFor_22 : decode cX8_capacityFor 22 = .ok (.bipush 121, 2) := by decide +kernel
theorem dX8_capacityFor_24 : decode cX8_capacityFor 24 = .ok (.iaload, 1) := by decide +kernel
theorem dX8_capacityFor_25 : decode cX8_capacityFor 25 = .ok (.istore_n 2, 1) := by decide +kernel
theorem dX8_capacityFor_26 : decode cX8_capacityFor 26 = .ok (.iconst (-1), 1) := by decide +kernel
theorem dX8_capacityFor_27 : decode cX8_capacityFor 27 = .ok (.istore_n 3, 1) := by decide +kernel
theorem dX8_capacityFor_28 : decode cX8_capacityFor 28 = .ok (.iconst 1, 1) := by decide +kernel
theorem dX8_capacityFor_29 : decode cX8_capacityFor 29 = .ok (.istore 4, 2) := by decide +kernel
theorem dX8_capacityFor_31 : decode cX8_capacityFor 31 = .ok (.iload 4, 2) := by decide +kernel
theorem dX8_capacityFor_33 : decode cX8_capacityFor 33 = .ok (.sipush 1000, 3) := by decide +kernel
theorem dX8_capacityFor_36 : decode cX8_capacityFor 36 = .ok (.if_icmp .gt 44, 3) := by decide +kernel
theorem dX8_capacityFor_39 : decode cX8_capacityFor 39 = .ok (.iload_n 3, 1) := by decide +kernel
theorem dX8_capacityFor_40 : decode cX8_capacityFor 40 = .ok (.iconst (-1), 1) := by decide +kernel
theorem dX8_capacityFor_41 : decode cX8_capacityFor 41 = .ok (.if_icmp .ne 39, 3) := by decide +kernel
theorem dX8_capacityFor_44 : decode cX8_capacityFor 44 = .ok (.aload_n 0, 1) := by decide +kernel
theorem dX8_capacityFor_45 : decode cX8_capacityFor 45 = .ok (.getfield 7, 3) := by decide +kernel
theorem dX8_capacityFor_48 : decode cX8_capacityFor 48 = .ok (.bipush 121, 2) := by decide +kernel
theorem dX8_capacityFor_50 : decode cX8_capacityFor 50 = .ok (.iload 4, 2) := by decide +kernel
theorem dX8_capacityFor_52 : decode cX8_capacityFor 52 = .ok (.iastore, 1) := by decide +kernel
theorem dX8_capacityFor_53 : decode cX8_capacityFor 53 = .ok (.aload_n 0, 1) := by decide +kernel
theorem dX8_capacityFor_54 : decode cX8_capacityFor 54 = .ok (.bipush 63, 2) := by decide +kernel
theorem dX8_capacityFor_56 : decode cX8_capacityFor 56 = .ok (.invokevirtual 168, 3) := by decide +kernel
theorem dX8_capacityFor_59 : decode cX8_capacityFor 59 = .ok (.aload_n 0, 1) := by decide +kernel
theorem dX8_capacityFor_60 : decode cX8_capacityFor 60 = .ok (.getfield 110, 3) := by decide +kernel
theorem dX8_capacityFor_63 : decode cX8_capacityFor 63 = .ok (.iload_n 1, 1) := by decide +kernel
theorem dX8_capacityFor_64 : decode cX8_capacityFor 64 = .ok (.if_icmp .gt 8, 3) := by decide +kernel
theorem dX8_capacityFor_67 : decode cX8_capacityFor 67 = .ok (.iload 4, 2) := by decide +kernel
theorem dX8_capacityFor_69 : decode cX8_capacityFor 69 = .ok (.goto 4, 3) := by decide +kernel
theorem dX8_capacityFor_72 : decode cX8_capacityFor 72 = .ok (.iconst (-1), 1) := by decide +kernel
theorem dX8_capacityFor_73 : decode cX8_capacityFor 73 = .ok (.istore_n 3, 1) := by decide +kernel
theorem dX8_capacityFor_74 : decode cX8_capacityFor 74 = .ok (.iinc 4 1, 3) := by decide +kernel
theorem dX8_capacityFor_77 : decode cX8_capacityFor 77 = .ok (.goto (-46), 3) := by decide +kernel
theorem dX8_capacityFor_80 : decode cX8_capacityFor 80 = .ok (.aload_n 0, 1) := by decide +kernel
theorem dX8_capacityFor_81 : decode cX8_capacityFor 81 = .ok (.getfield 7, 3) := by decide +kernel
theorem dX8_capacityFor_84 : decode cX8_capacityFor 84 = .ok (.bipush 121, 2) := by decide +kernel
theorem dX8_capacityFor_86 : decode cX8_capacityFor 86 = .ok (.iload_n 2, 1) := by decide +kernel
theorem dX8_capacityFor_87 : decode cX8_capacityFor 87 = .ok (.iastore, 1) := by decide +kernel
theorem dX8_capacityFor_88 : decode cX8_capacityFor 88 = .ok (.iload_n 3, 1) := by decide +kernel
theorem dX8_capacityFor_89 : decode cX8_capacityFor 89 = .ok (.ireturn, 1) := by decide +kernel
theorem dX8_bestPolicy_0 : decode cX8_bestPolicy 0 = .ok (.aload_n 0, 1) := by decide +kernel
theorem dX8_bestPolicy_1 : decode cX8_bestPolicy 1 = .ok (.iconst 0, 1) := by decide +kernel
theorem dX8_bestPolicy_2 : decode cX8_bestPolicy 2 = .ok (.putfield 52, 3) := by decide +kernel
theorem dX8_bestPolicy_5 : decode cX8_bestPolicy 5 = .ok (.aload_n 0, 1) := by decide +kernel
theorem dX8_bestPolicy_6 : decode cX8_bestPolicy 6 = .ok (.getfield 7, 3) := by decide +kernel
theorem dX8_bestPolicy_9 : decode cX8_bestPolicy 9 = .ok (.bipush 123, 2) := by decide +kernel
theorem dX8_bestPolicy_11 : decode cX8_bestPolicy 11 = .ok (.iaload, 1) := by decide +kernel
theorem dX8_bestPolicy_12 : decode cX8_bestPolicy 12 = .ok (.istore_n 1, 1) := by decide +kernel
theorem dX8_bestPolicy_13 : decode cX8_bestPolicy 13 = .ok (.iconst 0, 1) := by decide +kernel
theorem dX8_bestPolicy_14 : decode cX8_bestPolicy 14 = .ok (.istore_n 2, 1) := by decide +kernel
theorem dX8_bestPolicy_15 : decode cX8_bestPolicy 15 = .ok (.iconst 0, 1) := by decide +kernel
theorem dX8_bestPolicy_16 : decode cX8_bestPolicy 16 = .ok (.istore_n 3, 1) := by decide +kernel
theorem dX8_bestPolicy_17 : decode cX8_bestPolicy 17 = .ok (.iconst 0, 1) := by decide +kernel
theorem dX8_bestPolicy_18 : decode cX8_bestPolicy 18 = .ok (.istore 4, 2) := by decide +kernel
theorem dX8_bestPolicy_20 : decode cX8_bestPolicy 20 = .ok (.iload 4, 2) := by decide +kernel
theorem dX8_bestPolicy_22 : decode cX8_bestPolicy 22 = .ok (.iconst 4, 1) := by decide +kernel
theorem dX8_bestPolicy_23 : decode cX8_bestPolicy 23 = .ok (.if_icmp .gt 63, 3) := by decide +kernel
theorem dX8_bestPolicy_26 : decode cX8_bestPolicy 26 = .ok (.aload_n 0, 1) := by decide +kernel
theorem dX8_bestPolicy_27 : decode cX8_bestPolicy 27 = .ok (.getfield 7, 3) := by decide +kernel
theorem dX8_bestPolicy_30 : decode cX8_bestPolicy 30 = .ok (.bipush 123, 2) := by decide +kernel
theorem dX8_bestPolicy_32 : decode cX8_bestPolicy 32 = .ok (.iload 4, 2) := by decide +kernel
theorem dX8_bestPolicy_34 : decode cX8_bestPolicy 34 = .ok (.iastore, 1) := by decide +kernel
theorem dX8_bestPolicy_35 : decode cX8_bestPolicy 35 = .ok (.aload_n 0, 1) := by decide +kernel
theorem dX8_bestPolicy_36 : decode cX8_bestPolicy 36 = .ok (.bipush 63, 2) := by decide +kernel
theorem dX8_bestPolicy_38 : decode cX8_bestPolicy 38 = .ok (.iconst (-1), 1) := by decide +kernel
theorem dX8_bestPolicy_39 : decode cX8_bestPolicy 39 = .ok (.invokevirtual 184, 3) := by decide +kernel
theorem dX8_bestPolicy_42 : decode cX8_bestPolicy 42 = .ok (.istore 5, 2) := by decide +kernel
theorem dX8_bestPolicy_44 : decode cX8_bestPolicy 44 = .ok (.iload 4, 2) := by decide +kernel
theorem dX8_bestPolicy_46 : decode cX8_bestPolicy 46 = .ok (.ifCond .eq 9, 3) := by decide +kernel
theorem dX8_bestPolicy_49 : decode cX8_bestPolicy 49 = .ok (.iload 5, 2) := by decide +kernel
theorem dX8_bestPolicy_51 : decode cX8_bestPolicy 51 = .ok (.iload_n 3, 1) := by decide +kernel
theorem dX8_bestPolicy_52 : decode cX8_bestPolicy 52 = .ok (.if_icmp .ge 8, 3) := by decide +kernel
theorem dX8_bestPolicy_55 : decode cX8_bestPolicy 55 = .ok (.iload 4, 2) := by decide +kernel
theorem dX8_bestPolicy_57 : decode cX8_bestPolicy 57 = .ok (.goto 4, 3) := by decide +kernel
theorem dX8_bestPolicy_60 : decode cX8_bestPolicy 60 = .ok (.iload_n 2, 1) := by decide +kernel
theorem dX8_bestPolicy_61 : decode cX8_bestPolicy 61 = .ok (.istore_n 2, 1) := by decide +kernel
theorem dX8_bestPolicy_62 : decode cX8_bestPolicy 62 = .ok (.iload 4, 2) := by decide +kernel
theorem dX8_bestPolicy_64 : decode cX8_bestPolicy 64 = .ok (.ifCond .eq 9, 3) := by decide +kernel
theorem dX8_bestPolicy_67 : decode cX8_bestPolicy 67 = .ok (.iload 5, 2) := by decide +kernel
theorem dX8_bestPolicy_69 : decode cX8_bestPolicy 69 = .ok (.iload_n 3, 1) := by decide +kernel
theorem dX8_bestPolicy_70 : decode cX8_bestPolicy 70 = .ok (.if_icmp .ge 8, 3) := by decide +kernel
theorem dX8_bestPolicy_73 : decode cX8_bestPolicy 73 = .ok (.iload 5, 2) := by decide +kernel
theorem dX8_bestPolicy_75 : decode cX8_bestPolicy 75 = .ok (.goto 4, 3) := by decide +kernel
theorem dX8_bestPolicy_78 : decode cX8_bestPolicy 78 = .ok (.iload_n 3, 1) := by decide +kernel
theorem dX8_bestPolicy_79 : decode cX8_bestPolicy 79 = .ok (.istore_n 3, 1) := by decide +kernel
theorem dX8_bestPolicy_80 : decode cX8_bestPolicy 80 = .ok (.iinc 4 1, 3) := by decide +kernel
theorem dX8_bestPolicy_83 : decode cX8_bestPolicy 83 = .ok (.goto (-63), 3) := by decide +kernel
theorem dX8_bestPolicy_86 : decode cX8_bestPolicy 86 = .ok (.aload_n 0, 1) := by decide +kernel
theorem dX8_bestPolicy_87 : decode cX8_bestPolicy 87 = .ok (.getfield 7, 3) := by decide +kernel
theorem dX8_bestPolicy_90 : decode cX8_bestPolicy 90 = .ok (.bipush 123, 2) := by decide +kernel
theorem dX8_bestPolicy_92 : decode cX8_bestPolicy 92 = .ok (.iload_n 1, 1) := by decide +kernel
theorem dX8_bestPolicy_93 : decode cX8_bestPolicy 93 = .ok (.iastore, 1) := by decide +kernel
theorem dX8_bestPolicy_94 : decode cX8_bestPolicy 94 = .ok (.iload_n 2, 1) := by decide +kernel
theorem dX8_bestPolicy_95 : decode cX8_bestPolicy 95 = .ok (.ireturn, 1) := by decide +kernel
theorem dX8_type_0 : decode cX8_type 0 = .ok (.aload_n 0, 1) := by decide +kernel
theorem dX8_type_1 : decode cX8_type 1 = .ok (.iload_n 1, 1) := by decide +kernel
theorem dX8_type_2 : decode cX8_type 2 = .ok (.bipush 32, 2) := by decide +kernel
theorem dX8_type_4 : decode cX8_type 4 = .ok (.bipush 126, 2) := by decide +kernel
theorem dX8_type_6 : decode cX8_type 6 = .ok (.invokestatic 59, 3) := by decide +kernel
theorem dX8_type_9 : decode cX8_type 9 = .ok (.ifCond .ne 7, 3) := by decide +kernel
theorem dX8_type_12 : decode cX8_type 12 = .ok (.iconst 1, 1) := by decide +kernel
theorem dX8_type_13 : decode cX8_type 13 = .ok (.goto 17, 3) := by decide +kernel
theorem dX8_type_16 : decode cX8_type 16 = .ok (.aload_n 0, 1) := by decide +kernel
theorem dX8_type_17 : decode cX8_type 17 = .ok (.getfield 234, 3) := by decide +kernel
theorem dX8_type_20 : decode cX8_type 20 = .ok (.bipush 120, 2) := by decide +kernel
theorem dX8_type_22 : decode cX8_type 22 = .ok (.if_icmp .ne 7, 3) := by decide +kernel
theorem dX8_type_25 : decode cX8_type 25 = .ok (.iconst 2, 1) := by decide +kernel
theorem dX8_type_26 : decode cX8_type 26 = .ok (.goto 4, 3) := by decide +kernel
theorem dX8_type_29 : decode cX8_type 29 = .ok (.iconst 0, 1) := by decide +kernel
theorem dX8_type_30 : decode cX8_type 30 = .ok (.invokevirtual 75, 3) := by decide +kernel
theorem dX8_type_33 : decode cX8_type 33 = .ok (.ifCond .eq 5, 3) := by decide +kernel
theorem dX8_type_36 : decode cX8_type 36 = .ok (.iconst 0, 1) := by decide +kernel
theorem dX8_type_37 : decode cX8_type 37 = .ok (.ireturn, 1) := by decide +kernel
theorem dX8_type_38 : decode cX8_type 38 = .ok (.aload_n 0, 1) := by decide +kernel
theorem dX8_type_39 : decode cX8_type 39 = .ok (.getfield 46, 3) := by decide +kernel
theorem dX8_type_42 : decode cX8_type 42 = .ok (.aload_n 0, 1) := by decide +kernel
theorem dX8_type_43 : decode cX8_type 43 = .ok (.getfield 234, 3) := by decide +kernel
theorem dX8_type_46 : decode cX8_type 46 = .ok (.iload_n 1, 1) := by decide +kernel
theorem dX8_type_47 : decode cX8_type 47 = .ok (.iastore, 1) := by decide +kernel
theorem dX8_type_48 : decode cX8_type 48 = .ok (.aload_n 0, 1) := by decide +kernel
theorem dX8_type_49 : decode cX8_type 49 = .ok (.dup, 1) := by decide +kernel
theorem dX8_type_50 : decode cX8_type 50 = .ok (.getfield 234, 3) := by decide +kernel
theorem dX8_type_53 : decode cX8_type 53 = .ok (.iconst 1, 1) := by decide +kernel
theorem dX8_type_54 : decode cX8_type 54 = .ok (.iadd, 1) := by decide +kernel
theorem dX8_type_55 : decode cX8_type 55 = .ok (.putfield 234, 3) := by decide +kernel
theorem dX8_type_58 : decode cX8_type 58 = .ok (.aload_n 0, 1) := by decide +kernel
theorem dX8_type_59 : decode cX8_type 59 = .ok (.getfield 234, 3) := by decide +kernel
theorem dX8_type_62 : decode cX8_type 62 = .ok (.ireturn, 1) := by decide +kernel
theorem dX8_clearText_0 : decode cX8_clearText 0 = .ok (.aload_n 0, 1) := by decide +kernel
theorem dX8_clearText_1 : decode cX8_clearText 1 = .ok (.iconst 0, 1) := by decide +kernel
theorem dX8_clearText_2 : decode cX8_clearText 2 = .ok (.putfield 52, 3) := by decide +kernel
theorem dX8_clearText_5 : decode cX8_clearText 5 = .ok (.aload_n 0, 1) := by decide +kernel
theorem dX8_clearText_6 : decode cX8_clearText 6 = .ok (.getfield 234, 3) := by decide +kernel
theorem dX8_clearText_9 : decode cX8_clearText 9 = .ok (.istore_n 1, 1) := by decide +kernel
theorem dX8_clearText_10 : decode cX8_clearText 10 = .ok (.aload_n 0, 1) := by decide +kernel
theorem dX8_clearText_11 : decode cX8_clearText 11 = .ok (.iconst 0, 1) := by decide +kernel
theorem dX8_clearText_12 : decode cX8_clearText 12 = .ok (.putfield 234, 3) := by decide +kernel
theorem dX8_clearText_15 : decode cX8_clearText 15 = .ok (.iload_n 1, 1) := by decide +kernel
theorem dX8_clearText_16 : decode cX8_clearText 16 = .ok (.ireturn, 1) := by decide +kernel
theorem dX8_at_0 : decode cX8_at 0 = .ok (.iload_n 1, 1) := by decide +kernel
theorem dX8_at_1 : decode cX8_at 1 = .ok (.aload_n 0, 1) := by decide +kernel
theorem dX8_at_2 : decode cX8_at 2 = .ok (.getfield 234, 3) := by decide +kernel
theorem dX8_at_5 : decode cX8_at 5 = .ok (.if_icmp .ge 12, 3) := by decide +kernel
theorem dX8_at_8 : decode cX8_at 8 = .ok (.aload_n 0, 1) := by decide +kernel
theorem dX8_at_9 : decode cX8_at 9 = .ok (.getfield 46, 3) := by decide +kernel
theorem dX8_at_12 : decode cX8_at 12 = .ok (.iload_n 1, 1) := by decide +kernel
theorem dX8_at_13 : decode cX8_at 13 = .ok (.iaload, 1) := by decide +kernel
theorem dX8_at_14 : decode cX8_at 14 = .ok (.goto 4, 3) := by decide +kernel
theorem dX8_at_17 : decode cX8_at 17 = .ok (.iconst 0, 1) := by decide +kernel
theorem dX8_at_18 : decode cX8_at 18 = .ok (.ireturn, 1) := by decide +kernel
theorem dX8_skipsSpaces_0 : decode cX8_skipsSpaces 0 = .ok (.aload_n 0, 1) := by decide +kernel
theorem dX8_skipsSpaces_1 : decode cX8_skipsSpaces 1 = .ok (.aload_n 0, 1) := by decide +kernel
theorem dX8_skipsSpaces_2 : decode cX8_skipsSpaces 2 = .ok (.getfield 237, 3) := by decide +kernel
theorem dX8_skipsSpaces_5 : decode cX8_skipsSpaces 5 = .ok (.invokevirtual 240, 3) := by decide +kernel
theorem dX8_skipsSpaces_8 : decode cX8_skipsSpaces 8 = .ok (.bipush 32, 2) := by decide +kernel
theorem dX8_skipsSpaces_10 : decode cX8_skipsSpaces 10 = .ok (.if_icmp .ne 16, 3) := by decide +kernel
theorem dX8_skipsSpaces_13 : decode cX8_skipsSpaces 13 = .ok (.aload_n 0, 1) := by decide +kernel
theorem dX8_skipsSpaces_14 : decode cX8_skipsSpaces 14 = .ok (.dup, 1) := by decide +kernel
theorem dX8_skipsSpaces_15 : decode cX8_skipsSpaces 15 = .ok (.getfield 237, 3) := by decide +kernel
theorem dX8_skipsSpaces_18 : decode cX8_skipsSpaces 18 = .ok (.iconst 1, 1) := by decide +kernel
theorem dX8_skipsSpaces_19 : decode cX8_skipsSpaces 19 = .ok (.iadd, 1) := by decide +kernel
theorem dX8_skipsSpaces_20 : decode cX8_skipsSpaces 20 = .ok (.putfield 237, 3) := by decide +kernel
theorem dX8_skipsSpaces_23 : decode cX8_skipsSpaces 23 = .ok (.goto (-23), 3) := by decide +kernel
theorem dX8_skipsSpaces_26 : decode cX8_skipsSpaces 26 = .ok (.return_, 1) := by decide +kernel
theorem dX8_isLetter_0 : decode cX8_isLetter 0 = .ok (.iload_n 0, 1) := by decide +kernel
theorem dX8_isLetter_1 : decode cX8_isLetter 1 = .ok (.bipush 97, 2) := by decide +kernel
theorem dX8_isLetter_3 : decode cX8_isLetter 3 = .ok (.bipush 122, 2) := by decide +kernel
theorem dX8_isLetter_5 : decode cX8_isLetter 5 = .ok (.invokestatic 59, 3) := by decide +kernel
theorem dX8_isLetter_8 : decode cX8_isLetter 8 = .ok (.ireturn, 1) := by decide +kernel
theorem dX8_isDigit_0 : decode cX8_isDigit 0 = .ok (.iload_n 0, 1) := by decide +kernel
theorem dX8_isDigit_1 : decode cX8_isDigit 1 = .ok (.bipush 48, 2) := by decide +kernel
theorem dX8_isDigit_3 : decode cX8_isDigit 3 = .ok (.bipush 57, 2) := by decide +kernel
theorem dX8_isDigit_5 : decode cX8_isDigit 5 = .ok (.invokestatic 59, 3) := by decide +kernel
theorem dX8_isDigit_8 : decode cX8_isDigit 8 = .ok (.ireturn, 1) := by decide +kernel
theorem dX8_word_0 : decode cX8_word 0 = .ok (.lconst 0, 1) := by decide +kernel
theorem dX8_word_1 : decode cX8_word 1 = .ok (.lstore_n 1, 1) := by decide +kernel
theorem dX8_word_2 : decode cX8_word 2 = .ok (.iconst 0, 1) := by decide +kernel
theorem dX8_word_3 : decode cX8_word 3 = .ok (.istore_n 3, 1) := by decide +kernel
theorem dX8_word_4 : decode cX8_word 4 = .ok (.aload_n 0, 1) := by decide +kernel
theorem dX8_word_5 : decode cX8_word 5 = .ok (.aload_n 0, 1) := by decide +kernel
theorem dX8_word_6 : decode cX8_word 6 = .ok (.getfield 237, 3) := by decide +kernel
theorem dX8_word_9 : decode cX8_word 9 = .ok (.invokevirtual 240, 3) := by decide +kernel
theorem dX8_word_12 : decode cX8_word 12 = .ok (.invokestatic 243, 3) := by decide +kernel
theorem dX8_word_15 : decode cX8_word 15 = .ok (.ifCond .eq 41, 3) := by decide +kernel
theorem dX8_word_18 : decode cX8_word 18 = .ok (.ldc2_w 246, 3) := by decide +kernel
theorem dX8_word_21 : decode cX8_word 21 = .ok (.lload_n 1, 1) := by decide +kernel
theorem dX8_word_22 : decode cX8_word 22 = .ok (.lmul, 1) := by decide +kernel
theorem dX8_word_23 : decode cX8_word 23 = .ok (.aload_n 0, 1) := by decide +kernel
theorem dX8_word_24 : decode cX8_word 24 = .ok (.aload_n 0, 1) := by decide +kernel
theorem dX8_word_25 : decode cX8_word 25 = .ok (.getfield 237, 3) := by decide +kernel
theorem dX8_word_28 : decode cX8_word 28 = .ok (.invokevirtual 240, 3) := by decide +kernel
theorem dX8_word_31 : decode cX8_word 31 = .ok (.i2l, 1) := by decide +kernel
theorem dX8_word_32 : decode cX8_word 32 = .ok (.ladd, 1) := by decide +kernel
theorem dX8_word_33 : decode cX8_word 33 = .ok (.ldc2_w 248, 3) := by decide +kernel
theorem dX8_word_36 : decode cX8_word 36 = .ok (.lsub, 1) := by decide +kernel
theorem dX8_word_37 : decode cX8_word 37 = .ok (.lconst 1, 1) := by decide +kernel
theorem dX8_word_38 : decode cX8_word 38 = .ok (.ladd, 1) := by decide +kernel
theorem dX8_word_39 : decode cX8_word 39 = .ok (.lstore_n 1, 1) := by decide +kernel
theorem dX8_word_40 : decode cX8_word 40 = .ok (.aload_n 0, 1) := by decide +kernel
theorem dX8_word_41 : decode cX8_word 41 = .ok (.dup, 1) := by decide +kernel
theorem dX8_word_42 : decode cX8_word 42 = .ok (.getfield 237, 3) := by decide +kernel
theorem dX8_word_45 : decode cX8_word 45 = .ok (.iconst 1, 1) := by decide +kernel
theorem dX8_word_46 : decode cX8_word 46 = .ok (.iadd, 1) := by decide +kernel
theorem dX8_word_47 : decode cX8_word 47 = .ok (.putfield 237, 3) := by decide +kernel
theorem dX8_word_50 : decode cX8_word 50 = .ok (.iinc 3 1, 3) := by decide +kernel
theorem dX8_word_53 : decode cX8_word 53 = .ok (.goto (-49), 3) := by decide +kernel
theorem dX8_word_56 : decode cX8_word 56 = .ok (.iload_n 3, 1) := by decide +kernel
theorem dX8_word_57 : decode cX8_word 57 = .ok (.bipush 9, 2) := by decide +kernel
theorem dX8_word_59 : decode cX8_word 59 = .ok (.if_icmp .le 7, 3) := by decide +kernel
theorem dX8_word_62 : decode cX8_word 62 = .ok (.lconst 0, 1) := by decide +kernel
theorem dX8_word_63 : decode cX8_word 63 = .ok (.goto 4, 3) := by decide +kernel
theorem dX8_word_66 : decode cX8_word 66 = .ok (.lload_n 1, 1) := by decide +kernel
theorem dX8_word_67 : decode cX8_word 67 = .ok (.lreturn, 1) := by decide +kernel
theorem dX8_meant_0 : decode cX8_meant 0 = .ok (.lload_n 0, 1) := by decide +kernel
theorem dX8_meant_1 : decode cX8_meant 1 = .ok (.ldc2_w 250, 3) := by decide +kernel
theorem dX8_meant_4 : decode cX8_meant 4 = .ok (.lcmp, 1) := by decide +kernel
theorem dX8_meant_5 : decode cX8_meant 5 = .ok (.ifCond .ne 5, 3) := by decide +kernel
theorem dX8_meant_8 : decode cX8_meant 8 = .ok (.iconst 1, 1) := by decide +kernel
theorem dX8_meant_9 : decode cX8_meant 9 = .ok (.ireturn, 1) := by decide +kernel
theorem dX8_meant_10 : decode cX8_meant 10 = .ok (.lload_n 0, 1) := by decide +kernel
theorem dX8_meant_11 : decode cX8_meant 11 = .ok (.ldc2_w 252, 3) := by decide +kernel
theorem dX8_meant_14 : decode cX8_meant 14 = .ok (.lcmp, 1) := by decide +kernel
theorem dX8_meant_15 : decode cX8_meant 15 = .ok (.ifCond .ne 6, 3) := by decide +kernel
theorem dX8_meant_18 : decode cX8_meant 18 = .ok (.bipush 121, 2) := by decide +kernel
theorem dX8_meant_20 : decode cX8_meant 20 = .ok (.ireturn, 1) := by decide +kernel
theorem dX8_meant_21 : decode cX8_meant 21 = .ok (.lload_n 0, 1) := by decide +kernel
theorem dX8_meant_22 : decode cX8_meant 22 = .ok (.ldc2_w 254, 3) := by decide +kernel
theorem dX8_meant_25 : decode cX8_meant 25 = .ok (.lcmp, 1) := by decide +kernel
theorem dX8_meant_26 : decode cX8_meant 26 = .ok (.ifCond .ne 6, 3) := by decide +kernel
theorem dX8_meant_29 : decode cX8_meant 29 = .ok (.bipush 122, 2) := by decide +kernel
theorem dX8_meant_31 : decode cX8_meant 31 = .ok (.ireturn, 1) := by decide +kernel
theorem dX8_meant_32 : decode cX8_meant 32 = .ok (.lload_n 0, 1) := by decide +kernel
theorem dX8_meant_33 : decode cX8_meant 33 = .ok (.ldc2_w 256, 3) := by decide +kernel
theorem dX8_meant_36 : decode cX8_meant 36 = .ok (.lcmp, 1) := by decide +kernel
theorem dX8_meant_37 : decode cX8_meant 37 = .ok (.ifCond .ne 6, 3) := by decide +kernel
theorem dX8_meant_40 : decode cX8_meant 40 = .ok (.bipush 123, 2) := by decide +kernel
theorem dX8_meant_42 : decode cX8_meant 42 = .ok (.ireturn, 1) := by decide +kernel
theorem dX8_meant_43 : decode cX8_meant 43 = .ok (.lload_n 0, 1) := by decide +kernel
theorem dX8_meant_44 : decode cX8_meant 44 = .ok (.ldc2_w 258, 3) := by decide +kernel
theorem dX8_meant_47 : decode cX8_meant 47 = .ok (.lcmp, 1) := by decide +kernel
theorem dX8_meant_48 : decode cX8_meant 48 = .ok (.ifCond .ne 6, 3) := by decide +kernel
theorem dX8_meant_51 : decode cX8_meant 51 = .ok (.bipush 124, 2) := by decide +kernel
theorem dX8_meant_53 : decode cX8_meant 53 = .ok (.ireturn, 1) := by decide +kernel
theorem dX8_meant_54 : decode cX8_meant 54 = .ok (.lload_n 0, 1) := by decide +kernel
theorem dX8_meant_55 : decode cX8_meant 55 = .ok (.ldc2_w 260, 3) := by decide +kernel
theorem dX8_meant_58 : decode cX8_meant 58 = .ok (.lcmp, 1) := by decide +kernel
theorem dX8_meant_59 : decode cX8_meant 59 = .ok (.ifCond .ne 7, 3) := by decide +kernel
theorem dX8_meant_62 : decode cX8_meant 62 = .ok (.sipush 129, 3) := by decide +kernel
theorem dX8_meant_65 : decode cX8_meant 65 = .ok (.ireturn, 1) := by decide +kernel
theorem dX8_meant_66 : decode cX8_meant 66 = .ok (.lload_n 0, 1) := by decide +kernel
theorem dX8_meant_67 : decode cX8_meant 67 = .ok (.ldc2_w 262, 3) := by decide +kernel
theorem dX8_meant_70 : decode cX8_meant 70 = .ok (.lcmp, 1) := by decide +kernel
theorem dX8_meant_71 : decode cX8_meant 71 = .ok (.ifCond .ne 7, 3) := by decide +kernel
theorem dX8_meant_74 : decode cX8_meant 74 = .ok (.sipush 128, 3) := by decide +kernel
theorem dX8_meant_77 : decode cX8_meant 77 = .ok (.ireturn, 1) := by decide +kernel
theorem dX8_meant_78 : decode cX8_meant 78 = .ok (.iconst (-1), 1) := by decide +kernel
theorem dX8_meant_79 : decode cX8_meant 79 = .ok (.ireturn, 1) := by decide +kernel
theorem dX8_readsNumber_0 : decode cX8_readsNumber 0 = .ok (.aload_n 0, 1) := by decide +kernel
theorem dX8_readsNumber_1 : decode cX8_readsNumber 1 = .ok (.invokevirtual 264, 3) := by decide +kernel
theorem dX8_readsNumber_4 : decode cX8_readsNumber 4 = .ok (.aload_n 0, 1) := by decide +kernel
theorem dX8_readsNumber_5 : decode cX8_readsNumber 5 = .ok (.getfield 237, 3) := by decide +kernel
theorem dX8_readsNumber_8 : decode cX8_readsNumber 8 = .ok (.istore_n 2, 1) := by decide +kernel
theorem dX8_readsNumber_9 : decode cX8_readsNumber 9 = .ok (.iconst 0, 1) := by decide +kernel
theorem dX8_readsNumber_10 : decode cX8_readsNumber 10 = .ok (.istore_n 3, 1) := by decide +kernel
theorem dX8_readsNumber_11 : decode cX8_readsNumber 11 = .ok (.aload_n 0, 1) := by decide +kernel
theorem dX8_readsNumber_12 : decode cX8_readsNumber 12 = .ok (.aload_n 0, 1) := by decide +kernel
theorem dX8_readsNumber_13 : decode cX8_readsNumber 13 = .ok (.getfield 237, 3) := by decide +kernel
theorem dX8_readsNumber_16 : decode cX8_readsNumber 16 = .ok (.invokevirtual 240, 3) := by decide +kernel
theorem dX8_readsNumber_19 : decode cX8_readsNumber 19 = .ok (.invokestatic 267, 3) := by decide +kernel
theorem dX8_readsNumber_22 : decode cX8_readsNumber 22 = .ok (.ifCond .eq 43, 3) := by decide +kernel
theorem dX8_readsNumber_25 : decode cX8_readsNumber 25 = .ok (.aload_n 0, 1) := by decide +kernel
theorem dX8_readsNumber_26 : decode cX8_readsNumber 26 = .ok (.getfield 237, 3) := by decide +kernel
theorem dX8_readsNumber_29 : decode cX8_readsNumber 29 = .ok (.iload_n 2, 1) := by decide +kernel
theorem dX8_readsNumber_30 : decode cX8_readsNumber 30 = .ok (.iconst 5, 1) := by decide +kernel
theorem dX8_readsNumber_31 : decode cX8_readsNumber 31 = .ok (.iadd, 1) := by decide +kernel
theorem dX8_readsNumber_32 : decode cX8_readsNumber 32 = .ok (.if_icmp .ge 33, 3) := by decide +kernel
theorem dX8_readsNumber_35 : decode cX8_readsNumber 35 = .ok (.bipush 10, 2) := by decide +kernel
theorem dX8_readsNumber_37 : decode cX8_readsNumber 37 = .ok (.iload_n 3, 1) := by decide +kernel
theorem dX8_readsNumber_38 : decode cX8_readsNumber 38 = .ok (.imul, 1) := by decide +kernel
theorem dX8_readsNumber_39 : decode cX8_readsNumber 39 = .ok (.aload_n 0, 1) := by decide +kernel
theorem dX8_readsNumber_40 : decode cX8_readsNumber 40 = .ok (.aload_n 0, 1) := by decide +kernel
theorem dX8_readsNumber_41 : decode cX8_readsNumber 41 = .ok (.getfield 237, 3) := by decide +kernel
theorem dX8_readsNumber_44 : decode cX8_readsNumber 44 = .ok (.invokevirtual 240, 3) := by decide +kernel
theorem dX8_readsNumber_47 : decode cX8_readsNumber 47 = .ok (.iadd, 1) := by decide +kernel
theorem dX8_readsNumber_48 : decode cX8_readsNumber 48 = .ok (.bipush 48, 2) := by decide +kernel
theorem dX8_readsNumber_50 : decode cX8_readsNumber 50 = .ok (.isub, 1) := by decide +kernel
theorem dX8_readsNumber_51 : decode cX8_readsNumber 51 = .ok (.istore_n 3, 1) := by decide +kernel
theorem dX8_readsNumber_52 : decode cX8_readsNumber 52 = .ok (.aload_n 0, 1) := by decide +kernel
theorem dX8_readsNumber_53 : decode cX8_readsNumber 53 = .ok (.dup, 1) := by decide +kernel
theorem dX8_readsNumber_54 : decode cX8_readsNumber 54 = .ok (.getfield 237, 3) := by decide +kernel
theorem dX8_readsNumber_57 : decode cX8_readsNumber 57 = .ok (.iconst 1, 1) := by decide +kernel
theorem dX8_readsNumber_58 : decode cX8_readsNumber 58 = .ok (.iadd, 1) := by decide +kernel
theorem dX8_readsNumber_59 : decode cX8_readsNumber 59 = .ok (.putfield 237, 3) := by decide +kernel
theorem dX8_readsNumber_62 : decode cX8_readsNumber 62 = .ok (.goto (-51), 3) := by decide +kernel
theorem dX8_readsNumber_65 : decode cX8_readsNumber 65 = .ok (.aload_n 0, 1) := by decide +kernel
theorem dX8_readsNumber_66 : decode cX8_readsNumber 66 = .ok (.getfield 49, 3) := by decide +kernel
theorem dX8_readsNumber_69 : decode cX8_readsNumber 69 = .ok (.iload_n 1, 1) := by decide +kernel
theorem dX8_readsNumber_70 : decode cX8_readsNumber 70 = .ok (.iload_n 3, 1) := by decide +kernel
theorem dX8_readsNumber_71 : decode cX8_readsNumber 71 = .ok (.iastore, 1) := by decide +kernel
theorem dX8_readsNumber_72 : decode cX8_readsNumber 72 = .ok (.aload_n 0, 1) := by decide +kernel
theorem dX8_readsNumber_73 : decode cX8_readsNumber 73 = .ok (.getfield 237, 3) := by decide +kernel
theorem dX8_readsNumber_76 : decode cX8_readsNumber 76 = .ok (.iload_n 2, 1) := by decide +kernel
theorem dX8_readsNumber_77 : decode cX8_readsNumber 77 = .ok (.if_icmp .eq 13, 3) := by decide +kernel
theorem dX8_readsNumber_80 : decode cX8_readsNumber 80 = .ok (.aload_n 0, 1) := by decide +kernel
theorem dX8_readsNumber_81 : decode cX8_readsNumber 81 = .ok (.getfield 237, 3) := by decide +kernel
theorem dX8_readsNumber_84 : decode cX8_readsNumber 84 = .ok (.iload_n 2, 1) := by decide +kernel
theorem dX8_readsNumber_85 : decode cX8_readsNumber 85 = .ok (.iconst 5, 1) := by decide +kernel
theorem dX8_readsNumber_86 : decode cX8_readsNumber 86 = .ok (.iadd, 1) := by decide +kernel
theorem dX8_readsNumber_87 : decode cX8_readsNumber 87 = .ok (.if_icmp .ne 10, 3) := by decide +kernel
theorem dX8_readsNumber_90 : decode cX8_readsNumber 90 = .ok (.aload_n 0, 1) := by decide +kernel
theorem dX8_readsNumber_91 : decode cX8_readsNumber 91 = .ok (.iload_n 2, 1) := by decide +kernel
theorem dX8_readsNumber_92 : decode cX8_readsNumber 92 = .ok (.putfield 237, 3) := by decide +kernel
theorem dX8_readsNumber_95 : decode cX8_readsNumber 95 = .ok (.iconst 0, 1) := by decide +kernel
theorem dX8_readsNumber_96 : decode cX8_readsNumber 96 = .ok (.ireturn, 1) := by decide +kernel
theorem dX8_readsNumber_97 : decode cX8_readsNumber 97 = .ok (.iconst 1, 1) := by decide +kernel
theorem dX8_readsNumber_98 : decode cX8_readsNumber 98 = .ok (.ireturn, 1) := by decide +kernel
theorem dX8_reads_0 : decode cX8_reads 0 = .ok (.aload_n 0, 1) := by decide +kernel
theorem dX8_reads_1 : decode cX8_reads 1 = .ok (.iconst 0, 1) := by decide +kernel
theorem dX8_reads_2 : decode cX8_reads 2 = .ok (.putfield 237, 3) := by decide +kernel
theorem dX8_reads_5 : decode cX8_reads 5 = .ok (.aload_n 0, 1) := by decide +kernel
theorem dX8_reads_6 : decode cX8_reads 6 = .ok (.iconst 0, 1) := by decide +kernel
theorem dX8_reads_7 : decode cX8_reads 7 = .ok (.putfield 270, 3) := by decide +kernel
theorem dX8_reads_10 : decode cX8_reads 10 = .ok (.aload_n 0, 1) := by decide +kernel
theorem dX8_reads_11 : decode cX8_reads 11 = .ok (.invokevirtual 264, 3) := by decide +kernel
theorem dX8_reads_14 : decode cX8_reads 14 = .ok (.aload_n 0, 1) := by decide +kernel
theorem dX8_reads_15 : decode cX8_reads 15 = .ok (.getfield 237, 3) := by decide +kernel
theorem dX8_reads_18 : decode cX8_reads 18 = .ok (.aload_n 0, 1) := by decide +kernel
theorem dX8_reads_19 : decode cX8_reads 19 = .ok (.getfield 234, 3) := by decide +kernel
theorem dX8_reads_22 : decode cX8_reads 22 = .ok (.if_icmp .ge 142, 3) := by decide +kernel
theorem dX8_reads_25 : decode cX8_reads 25 = .ok (.aload_n 0, 1) := by decide +kernel
theorem dX8_reads_26 : decode cX8_reads 26 = .ok (.getfield 237, 3) := by decide +kernel
theorem dX8_reads_29 : decode cX8_reads 29 = .ok (.istore_n 1, 1) := by decide +kernel
theorem dX8_reads_30 : decode cX8_reads 30 = .ok (.aload_n 0, 1) := by decide +kernel
theorem dX8_reads_31 : decode cX8_reads 31 = .ok (.invokevirtual 273, 3) := by decide +kernel
theorem dX8_reads_34 : decode cX8_reads 34 = .ok (.invokestatic 277, 3) := by decide +kernel
theorem dX8_reads_37 : decode cX8_reads 37 = .ok (.istore_n 2, 1) := by decide +kernel
theorem dX8_reads_38 : decode cX8_reads 38 = .ok (.iload_n 2, 1) := by decide +kernel
theorem dX8_reads_39 : decode cX8_reads 39 = .ok (.iconst (-1), 1) := by decide +kernel
theorem dX8_reads_40 : decode cX8_reads 40 = .ok (.if_icmp .ne 5, 3) := by decide +kernel
theorem dX8_reads_43 : decode cX8_reads 43 = .ok (.iload_n 1, 1) := by decide +kernel
theorem dX8_reads_44 : decode cX8_reads 44 = .ok (.ireturn, 1) := by decide +kernel
theorem dX8_reads_45 : decode cX8_reads 45 = .ok (.aload_n 0, 1) := by decide +kernel
theorem dX8_reads_46 : decode cX8_reads 46 = .ok (.getfield 49, 3) := by decide +kernel
theorem dX8_reads_49 : decode cX8_reads 49 = .ok (.iconst 4, 1) := by decide +kernel
theorem dX8_reads_50 : decode cX8_reads 50 = .ok (.aload_n 0, 1) := by decide +kernel
theorem dX8_reads_51 : decode cX8_reads 51 = .ok (.getfield 270, 3) := by decide +kernel
theorem dX8_reads_54 : decode cX8_reads 54 = .ok (.imul, 1) := by decide +kernel
theorem dX8_reads_55 : decode cX8_reads 55 = .ok (.iload_n 2, 1) := by decide +kernel
theorem dX8_reads_56 : decode cX8_reads 56 = .ok (.iastore, 1) := by decide +kernel
theorem dX8_reads_57 : decode cX8_reads 57 = .ok (.iload_n 2, 1) := by decide +kernel
theorem dX8_reads_58 : decode cX8_reads 58 = .ok (.iconst 1, 1) := by decide +kernel
theorem dX8_reads_59 : decode cX8_reads 59 = .ok (.if_icmp .ne 7, 3) := by decide +kernel
theorem dX8_reads_62 : decode cX8_reads 62 = .ok (.iconst 3, 1) := by decide +kernel
theorem dX8_reads_63 : decode cX8_reads 63 = .ok (.goto 15, 3) := by decide +kernel
theorem dX8_reads_66 : decode cX8_reads 66 = .ok (.iload_n 2, 1) := by decide +kernel
theorem dX8_reads_67 : decode cX8_reads 67 = .ok (.sipush 129, 3) := by decide +kernel
theorem dX8_reads_70 : decode cX8_reads 70 = .ok (.if_icmp .ne 7, 3) := by decide +kernel
theorem dX8_reads_73 : decode cX8_reads 73 = .ok (.iconst 2, 1) := by decide +kernel
theorem dX8_reads_74 : decode cX8_reads 74 = .ok (.goto 4, 3) := by decide +kernel
theorem dX8_reads_77 : decode cX8_reads 77 = .ok (.iconst 1, 1) := by decide +kernel
theorem dX8_reads_78 : decode cX8_reads 78 = .ok (.istore_n 3, 1) := by decide +kernel
theorem dX8_reads_79 : decode cX8_reads 79 = .ok (.iconst 1, 1) := by decide +kernel
theorem dX8_reads_80 : decode cX8_reads 80 = .ok (.istore 4, 2) := by decide +kernel
theorem dX8_reads_82 : decode cX8_reads 82 = .ok (.iload 4, 2) := by decide +kernel
theorem dX8_reads_84 : decode cX8_reads 84 = .ok (.iload_n 3, 1) := by decide +kernel
theorem dX8_reads_85 : decode cX8_reads 85 = .ok (.if_icmp .gt 30, 3) := by decide +kernel
theorem dX8_reads_88 : decode cX8_reads 88 = .ok (.aload_n 0, 1) := by decide +kernel
theorem dX8_reads_89 : decode cX8_reads 89 = .ok (.iconst 4, 1) := by decide +kernel
theorem dX8_reads_90 : decode cX8_reads 90 = .ok (.aload_n 0, 1) := by decide +kernel
theorem dX8_reads_91 : decode cX8_reads 91 = .ok (.getfield 270, 3) := by decide +kernel
theorem dX8_reads_94 : decode cX8_reads 94 = .ok (.imul, 1) := by decide +kernel
theorem dX8_reads_95 : decode cX8_reads 95 = .ok (.iload 4, 2) := by decide +kernel
theorem dX8_reads_97 : decode cX8_reads 97 = .ok (.iadd, 1) := by decide +kernel
theorem dX8_reads_98 : decode cX8_reads 98 = .ok (.invokevirtual 281, 3) := by decide +kernel
theorem dX8_reads_101 : decode cX8_reads 101 = .ok (.ifCond .ne 8, 3) := by decide +kernel
theorem dX8_reads_104 : decode cX8_reads 104 = .ok (.aload_n 0, 1) := by decide +kernel
theorem dX8_reads_105 : decode cX8_reads 105 = .ok (.getfield 237, 3) := by decide +kernel
theorem dX8_reads_108 : decode cX8_reads 108 = .ok (.ireturn, 1) := by decide +kernel
theorem dX8_reads_109 : decode cX8_reads 109 = .ok (.iinc 4 1, 3) := by decide +kernel
theorem dX8_reads_112 : decode cX8_reads 112 = .ok (.goto (-30), 3) := by decide +kernel
theorem dX8_reads_115 : decode cX8_reads 115 = .ok (.aload_n 0, 1) := by decide +kernel
theorem dX8_reads_116 : decode cX8_reads 116 = .ok (.invokevirtual 264, 3) := by decide +kernel
theorem dX8_reads_119 : decode cX8_reads 119 = .ok (.aload_n 0, 1) := by decide +kernel
theorem dX8_reads_120 : decode cX8_reads 120 = .ok (.aload_n 0, 1) := by decide +kernel
theorem dX8_reads_121 : decode cX8_reads 121 = .ok (.getfield 237, 3) := by decide +kernel
theorem dX8_reads_124 : decode cX8_reads 124 = .ok (.invokevirtual 240, 3) := by decide +kernel
theorem dX8_reads_127 : decode cX8_reads 127 = .ok (.bipush 59, 2) := by decide +kernel
theorem dX8_reads_129 : decode cX8_reads 129 = .ok (.if_icmp .eq 8, 3) := by decide +kernel
theorem dX8_reads_132 : decode cX8_reads 132 = .ok (.aload_n 0, 1) := by decide +kernel
theorem dX8_reads_133 : decode cX8_reads 133 = .ok (.getfield 237, 3) := by decide +kernel
theorem dX8_reads_136 : decode cX8_reads 136 = .ok (.ireturn, 1) := by decide +kernel
theorem dX8_reads_137 : decode cX8_reads 137 = .ok (.aload_n 0, 1) := by decide +kernel
theorem dX8_reads_138 : decode cX8_reads 138 = .ok (.dup, 1) := by decide +kernel
theorem dX8_reads_139 : decode cX8_reads 139 = .ok (.getfield 237, 3) := by decide +kernel
theorem dX8_reads_142 : decode cX8_reads 142 = .ok (.iconst 1, 1) := by decide +kernel
theorem dX8_reads_143 : decode cX8_reads 143 = .ok (.iadd, 1) := by decide +kernel
theorem dX8_reads_144 : decode cX8_reads 144 = .ok (.putfield 237, 3) := by decide +kernel
theorem dX8_reads_147 : decode cX8_reads 147 = .ok (.aload_n 0, 1) := by decide +kernel
theorem dX8_reads_148 : decode cX8_reads 148 = .ok (.dup, 1) := by decide +kernel
theorem dX8_reads_149 : decode cX8_reads 149 = .ok (.getfield 270, 3) := by decide +kernel
theorem dX8_reads_152 : decode cX8_reads 152 = .ok (.iconst 1, 1) := by decide +kernel
theorem dX8_reads_153 : decode cX8_reads 153 = .ok (.iadd, 1) := by decide +kernel
theorem dX8_reads_154 : decode cX8_reads 154 = .ok (.putfield 270, 3) := by decide +kernel
theorem dX8_reads_157 : decode cX8_reads 157 = .ok (.aload_n 0, 1) := by decide +kernel
theorem dX8_reads_158 : decode cX8_reads 158 = .ok (.invokevirtual 264, 3) := by decide +kernel
theorem dX8_reads_161 : decode cX8_reads 161 = .ok (.goto (-147), 3) := by decide +kernel
theorem dX8_reads_164 : decode cX8_reads 164 = .ok (.iconst (-1), 1) := by decide +kernel
theorem dX8_reads_165 : decode cX8_reads 165 = .ok (.ireturn, 1) := by decide +kernel
theorem dX8_fault_0 : decode cX8_fault 0 = .ok (.aload_n 0, 1) := by decide +kernel
theorem dX8_fault_1 : decode cX8_fault 1 = .ok (.iconst 0, 1) := by decide +kernel
theorem dX8_fault_2 : decode cX8_fault 2 = .ok (.putfield 52, 3) := by decide +kernel
theorem dX8_fault_5 : decode cX8_fault 5 = .ok (.aload_n 0, 1) := by decide +kernel
theorem dX8_fault_6 : decode cX8_fault 6 = .ok (.invokevirtual 284, 3) := by decide +kernel
theorem dX8_fault_9 : decode cX8_fault 9 = .ok (.ireturn, 1) := by decide +kernel
theorem dX8_does_0 : decode cX8_does 0 = .ok (.aload_n 0, 1) := by decide +kernel
theorem dX8_does_1 : decode cX8_does 1 = .ok (.getfield 49, 3) := by decide +kernel
theorem dX8_does_4 : decode cX8_does 4 = .ok (.iconst 4, 1) := by decide +kernel
theorem dX8_does_5 : decode cX8_does 5 = .ok (.iload_n 1, 1) := by decide +kernel
theorem dX8_does_6 : decode cX8_does 6 = .ok (.imul, 1) := by decide +kernel
theorem dX8_does_7 : decode cX8_does 7 = .ok (.iaload, 1) := by decide +kernel
theorem dX8_does_8 : decode cX8_does 8 = .ok (.istore_n 2, 1) := by decide +kernel
theorem dX8_does_9 : decode cX8_does 9 = .ok (.aload_n 0, 1) := by decide +kernel
theorem dX8_does_10 : decode cX8_does 10 = .ok (.getfield 49, 3) := by decide +kernel
theorem dX8_does_13 : decode cX8_does 13 = .ok (.iconst 4, 1) := by decide +kernel
theorem dX8_does_14 : decode cX8_does 14 = .ok (.iload_n 1, 1) := by decide +kernel
theorem dX8_does_15 : decode cX8_does 15 = .ok (.imul, 1) := by decide +kernel
theorem dX8_does_16 : decode cX8_does 16 = .ok (.iconst 1, 1) := by decide +kernel
theorem dX8_does_17 : decode cX8_does 17 = .ok (.iadd, 1) := by decide +kernel
theorem dX8_does_18 : decode cX8_does 18 = .ok (.iaload, 1) := by decide +kernel
theorem dX8_does_19 : decode cX8_does 19 = .ok (.istore_n 3, 1) := by decide +kernel
theorem dX8_does_20 : decode cX8_does 20 = .ok (.aload_n 0, 1) := by decide +kernel
theorem dX8_does_21 : decode cX8_does 21 = .ok (.getfield 49, 3) := by decide +kernel
theorem dX8_does_24 : decode cX8_does 24 = .ok (.iconst 4, 1) := by decide +kernel
theorem dX8_does_25 : decode cX8_does 25 = .ok (.iload_n 1, 1) := by decide +kernel
theorem dX8_does_26 : decode cX8_does 26 = .ok (.imul, 1) := by decide +kernel
theorem dX8_does_27 : decode cX8_does 27 = .ok (.iconst 2, 1) := by decide +kernel
theorem dX8_does_28 : decode cX8_does 28 = .ok (.iadd, 1) := by decide +kernel
theorem dX8_does_29 : decode cX8_does 29 = .ok (.iaload, 1) := by decide +kernel
theorem dX8_does_30 : decode cX8_does 30 = .ok (.istore 4, 2) := by decide +kernel
theorem dX8_does_32 : decode cX8_does 32 = .ok (.iload_n 2, 1) := by decide +kernel
theorem dX8_does_33 : decode cX8_does 33 = .ok (.iconst 1, 1) := by decide +kernel
theorem dX8_does_34 : decode cX8_does 34 = .ok (.if_icmp .ne 61, 3) := by decide +kernel
theorem dX8_does_37 : decode cX8_does 37 = .ok (.aload_n 0, 1) := by decide +kernel
theorem dX8_does_38 : decode cX8_does 38 = .ok (.iload_n 3, 1) := by decide +kernel
theorem dX8_does_39 : decode cX8_does 39 = .ok (.iload 4, 2) := by decide +kernel
theorem dX8_does_41 : decode cX8_does 41 = .ok (.aload_n 0, 1) := by decide +kernel
theorem dX8_does_42 : decode cX8_does 42 = .ok (.getfield 49, 3) := by decide +kernel
theorem dX8_does_45 : decode cX8_does 45 = .ok (.iconst 4, 1) := by decide +kernel
theorem dX8_does_46 : decode cX8_does 46 = .ok (.iload_n 1, 1) := by decide +kernel
theorem dX8_does_47 : decode cX8_does 47 = .ok (.imul, 1) := by decide +kernel
theorem dX8_does_48 : decode cX8_does 48 = .ok (.iconst 3, 1) := by decide +kernel
theorem dX8_does_49 : decode cX8_does 49 = .ok (.iadd, 1) := by decide +kernel
theorem dX8_does_50 : decode cX8_does 50 = .ok (.iaload, 1) := by decide +kernel
theorem dX8_does_51 : decode cX8_does 51 = .ok (.invokevirtual 71, 3) := by decide +kernel
theorem dX8_does_54 : decode cX8_does 54 = .ok (.ifCond .ne 7, 3) := by decide +kernel
theorem dX8_does_57 : decode cX8_does 57 = .ok (.iconst 1, 1) := by decide +kernel
theorem dX8_does_58 : decode cX8_does 58 = .ok (.goto 4, 3) := by decide +kernel
theorem dX8_does_61 : decode cX8_does 61 = .ok (.iconst 0, 1) := by decide +kernel
theorem dX8_does_62 : decode cX8_does 62 = .ok (.istore 5, 2) := by decide +kernel
theorem dX8_does_64 : decode cX8_does 64 = .ok (.iload 5, 2) := by decide +kernel
theorem dX8_does_66 : decode cX8_does 66 = .ok (.ifCond .eq 23, 3) := by decide +kernel
theorem dX8_does_69 : decode cX8_does 69 = .ok (.aload_n 0, 1) := by decide +kernel
theorem dX8_does_70 : decode cX8_does 70 = .ok (.iload_n 3, 1) := by decide +kernel
theorem dX8_does_71 : decode cX8_does 71 = .ok (.iload 4, 2) := by decide +kernel
theorem dX8_does_73 : decode cX8_does 73 = .ok (.aload_n 0, 1) := by decide +kernel
theorem dX8_does_74 : decode cX8_does 74 = .ok (.getfield 49, 3) := by decide +kernel
theorem dX8_does_77 : decode cX8_does 77 = .ok (.iconst 4, 1) := by decide +kernel
theorem dX8_does_78 : decode cX8_does 78 = .ok (.iload_n 1, 1) := by decide +kernel
theorem dX8_does_79 : decode cX8_does 79 = .ok (.imul, 1) := by decide +kernel
theorem dX8_does_80 : decode cX8_does 80 = .ok (.iconst 3, 1) := by decide +kernel
theorem dX8_does_81 : decode cX8_does 81 = .ok (.iadd, 1) := by decide +kernel
theorem dX8_does_82 : decode cX8_does 82 = .ok (.iaload, 1) := by decide +kernel
theorem dX8_does_83 : decode cX8_does 83 = .ok (.invokevirtual 81, 3) := by decide +kernel
theorem dX8_does_86 : decode cX8_does 86 = .ok (.goto 4, 3) := by decide +kernel
theorem dX8_does_89 : decode cX8_does 89 = .ok (.iconst (-1), 1) := by decide +kernel
theorem dX8_does_90 : decode cX8_does 90 = .ok (.istore 6, 2) := by decide +kernel
theorem dX8_does_92 : decode cX8_does 92 = .ok (.iload 5, 2) := by decide +kernel
theorem dX8_does_94 : decode cX8_does 94 = .ok (.ireturn, 1) := by decide +kernel
theorem dX8_does_95 : decode cX8_does 95 = .ok (.iload_n 2, 1) := by decide +kernel
theorem dX8_does_96 : decode cX8_does 96 = .ok (.sipush 129, 3) := by decide +kernel
theorem dX8_does_99 : decode cX8_does 99 = .ok (.if_icmp .ne 29, 3) := by decide +kernel
theorem dX8_does_102 : decode cX8_does 102 = .ok (.iload_n 3, 1) := by decide +kernel
theorem dX8_does_103 : decode cX8_does 103 = .ok (.invokestatic 63, 3) := by decide +kernel
theorem dX8_does_106 : decode cX8_does 106 = .ok (.ifCond .eq 18, 3) := by decide +kernel
theorem dX8_does_109 : decode cX8_does 109 = .ok (.iload 4, 2) := by decide +kernel
theorem dX8_does_111 : decode cX8_does 111 = .ok (.iconst 0, 1) := by decide +kernel
theorem dX8_does_112 : decode cX8_does 112 = .ok (.bipush 9, 2) := by decide +kernel
theorem dX8_does_114 : decode cX8_does 114 = .ok (.invokestatic 59, 3) := by decide +kernel
theorem dX8_does_117 : decode cX8_does 117 = .ok (.ifCond .eq 7, 3) := by decide +kernel
theorem dX8_does_120 : decode cX8_does 120 = .ok (.iconst 1, 1) := by decide +kernel
theorem dX8_does_121 : decode cX8_does 121 = .ok (.goto 12, 3) := by decide +kernel
theorem dX8_does_124 : decode cX8_does 124 = .ok (.iconst 0, 1) := by decide +kernel
theorem dX8_does_125 : decode cX8_does 125 = .ok (.goto 8, 3) := by decide +kernel
theorem dX8_does_128 : decode cX8_does 128 = .ok (.iload_n 2, 1) := by decide +kernel
theorem dX8_does_129 : decode cX8_does 129 = .ok (.iload_n 3, 1) := by decide +kernel
theorem dX8_does_130 : decode cX8_does 130 = .ok (.invokestatic 94, 3) := by decide +kernel
theorem dX8_does_133 : decode cX8_does 133 = .ok (.istore 5, 2) := by decide +kernel
theorem dX8_does_135 : decode cX8_does 135 = .ok (.iload 5, 2) := by decide +kernel
theorem dX8_does_137 : decode cX8_does 137 = .ok (.ifCond .eq 37, 3) := by decide +kernel
theorem dX8_does_140 : decode cX8_does 140 = .ok (.aload_n 0, 1) := by decide +kernel
theorem dX8_does_141 : decode cX8_does 141 = .ok (.getfield 7, 3) := by decide +kernel
theorem dX8_does_144 : decode cX8_does 144 = .ok (.iload_n 2, 1) := by decide +kernel
theorem dX8_does_145 : decode cX8_does 145 = .ok (.sipush 129, 3) := by decide +kernel
theorem dX8_does_148 : decode cX8_does 148 = .ok (.if_icmp .ne 11, 3) := by decide +kernel
theorem dX8_does_151 : decode cX8_does 151 = .ok (.sipush 129, 3) := by decide +kernel
theorem dX8_does_154 : decode cX8_does 154 = .ok (.iload_n 3, 1) := by decide +kernel
theorem dX8_does_155 : decode cX8_does 155 = .ok (.iadd, 1) := by decide +kernel
theorem dX8_does_156 : decode cX8_does 156 = .ok (.goto 4, 3) := by decide +kernel
theorem dX8_does_159 : decode cX8_does 159 = .ok (.iload_n 2, 1) := by decide +kernel
theorem dX8_does_160 : decode cX8_does 160 = .ok (.iload_n 2, 1) := by decide +kernel
theorem dX8_does_161 : decode cX8_does 161 = .ok (.sipush 129, 3) := by decide +kernel
theorem dX8_does_164 : decode cX8_does 164 = .ok (.if_icmp .ne 8, 3) := by decide +kernel
theorem dX8_does_167 : decode cX8_does 167 = .ok (.iload 4, 2) := by decide +kernel
theorem dX8_does_169 : decode cX8_does 169 = .ok (.goto 4, 3) := by decide +kernel
theorem dX8_does_172 : decode cX8_does 172 = .ok (.iload_n 3, 1) := by decide +kernel
theorem dX8_does_173 : decode cX8_does 173 = .ok (.iastore, 1) := by decide +kernel
theorem dX8_does_174 : decode cX8_does 174 = .ok (.iload 5, 2) := by decide +kernel
theorem dX8_does_176 : decode cX8_does 176 = .ok (.ireturn, 1) := by decide +kernel
theorem dX8_run_0 : decode cX8_run 0 = .ok (.aload_n 0, 1) := by decide +kernel
theorem dX8_run_1 : decode cX8_run 1 = .ok (.aload_n 0, 1) := by decide +kernel
theorem dX8_run_2 : decode cX8_run 2 = .ok (.invokevirtual 284, 3) := by decide +kernel
theorem dX8_run_5 : decode cX8_run 5 = .ok (.iconst (-1), 1) := by decide +kernel
theorem dX8_run_6 : decode cX8_run 6 = .ok (.if_icmp .ne 7, 3) := by decide +kernel
theorem dX8_run_9 : decode cX8_run 9 = .ok (.iconst 0, 1) := by decide +kernel
theorem dX8_run_10 : decode cX8_run 10 = .ok (.goto 4, 3) := by decide +kernel
theorem dX8_run_13 : decode cX8_run 13 = .ok (.iconst 1, 1) := by decide +kernel
theorem dX8_run_14 : decode cX8_run 14 = .ok (.invokevirtual 75, 3) := by decide +kernel
theorem dX8_run_17 : decode cX8_run 17 = .ok (.ifCond .eq 5, 3) := by decide +kernel
theorem dX8_run_20 : decode cX8_run 20 = .ok (.iconst 0, 1) := by decide +kernel
theorem dX8_run_21 : decode cX8_run 21 = .ok (.ireturn, 1) := by decide +kernel
theorem dX8_run_22 : decode cX8_run 22 = .ok (.aload_n 0, 1) := by decide +kernel
theorem dX8_run_23 : decode cX8_run 23 = .ok (.invokevirtual 78, 3) := by decide +kernel
theorem dX8_run_26 : decode cX8_run 26 = .ok (.iconst 0, 1) := by decide +kernel
theorem dX8_run_27 : decode cX8_run 27 = .ok (.istore_n 1, 1) := by decide +kernel
theorem dX8_run_28 : decode cX8_run 28 = .ok (.iconst 0, 1) := by decide +kernel
theorem dX8_run_29 : decode cX8_run 29 = .ok (.istore_n 2, 1) := by decide +kernel
theorem dX8_run_30 : decode cX8_run 30 = .ok (.iload_n 2, 1) := by decide +kernel
theorem dX8_run_31 : decode cX8_run 31 = .ok (.aload_n 0, 1) := by decide +kernel
theorem dX8_run_32 : decode cX8_run 32 = .ok (.getfield 270, 3) := by decide +kernel
theorem dX8_run_35 : decode cX8_run 35 = .ok (.if_icmp .ge 25, 3) := by decide +kernel
theorem dX8_run_38 : decode cX8_run 38 = .ok (.iload_n 1, 1) := by decide +kernel
theorem dX8_run_39 : decode cX8_run 39 = .ok (.aload_n 0, 1) := by decide +kernel
theorem dX8_run_40 : decode cX8_run 40 = .ok (.iload_n 2, 1) := by decide +kernel
theorem dX8_run_41 : decode cX8_run 41 = .ok (.invokevirtual 287, 3) := by decide +kernel
theorem dX8_run_44 : decode cX8_run 44 = .ok (.ifCond .eq 7, 3) := by decide +kernel
theorem dX8_run_47 : decode cX8_run 47 = .ok (.iconst 1, 1) := by decide +kernel
theorem dX8_run_48 : decode cX8_run 48 = .ok (.goto 4, 3) := by decide +kernel
theorem dX8_run_51 : decode cX8_run 51 = .ok (.iconst 0, 1) := by decide +kernel
theorem dX8_run_52 : decode cX8_run 52 = .ok (.iadd, 1) := by decide +kernel
theorem dX8_run_53 : decode cX8_run 53 = .ok (.istore_n 1, 1) := by decide +kernel
theorem dX8_run_54 : decode cX8_run 54 = .ok (.iinc 2 1, 3) := by decide +kernel
theorem dX8_run_57 : decode cX8_run 57 = .ok (.goto (-27), 3) := by decide +kernel
theorem dX8_run_60 : decode cX8_run 60 = .ok (.iload_n 1, 1) := by decide +kernel
theorem dX8_run_61 : decode cX8_run 61 = .ok (.ireturn, 1) := by decide +kernel
theorem dX8_undo_0 : decode cX8_undo 0 = .ok (.aload_n 0, 1) := by decide +kernel
theorem dX8_undo_1 : decode cX8_undo 1 = .ok (.aload_n 0, 1) := by decide +kernel
theorem dX8_undo_2 : decode cX8_undo 2 = .ok (.getfield 56, 3) := by decide +kernel
theorem dX8_undo_5 : decode cX8_undo 5 = .ok (.ifCond .le 7, 3) := by decide +kernel
theorem dX8_undo_8 : decode cX8_undo 8 = .ok (.iconst 0, 1) := by decide +kernel
theorem dX8_undo_9 : decode cX8_undo 9 = .ok (.goto 4, 3) := by decide +kernel
theorem dX8_undo_12 : decode cX8_undo 12 = .ok (.iconst 1, 1) := by decide +kernel
theorem dX8_undo_13 : decode cX8_undo 13 = .ok (.invokevirtual 75, 3) := by decide +kernel
theorem dX8_undo_16 : decode cX8_undo 16 = .ok (.ifCond .eq 5, 3) := by decide +kernel
theorem dX8_undo_19 : decode cX8_undo 19 = .ok (.iconst 0, 1) := by decide +kernel
theorem dX8_undo_20 : decode cX8_undo 20 = .ok (.ireturn, 1) := by decide +kernel
theorem dX8_undo_21 : decode cX8_undo 21 = .ok (.aload_n 0, 1) := by decide +kernel
theorem dX8_undo_22 : decode cX8_undo 22 = .ok (.dup, 1) := by decide +kernel
theorem dX8_undo_23 : decode cX8_undo 23 = .ok (.getfield 56, 3) := by decide +kernel
theorem dX8_undo_26 : decode cX8_undo 26 = .ok (.iconst 1, 1) := by decide +kernel
theorem dX8_undo_27 : decode cX8_undo 27 = .ok (.isub, 1) := by decide +kernel
theorem dX8_undo_28 : decode cX8_undo 28 = .ok (.putfield 56, 3) := by decide +kernel
theorem dX8_undo_31 : decode cX8_undo 31 = .ok (.iconst 0, 1) := by decide +kernel
theorem dX8_undo_32 : decode cX8_undo 32 = .ok (.istore_n 1, 1) := by decide +kernel
theorem dX8_undo_33 : decode cX8_undo 33 = .ok (.iload_n 1, 1) := by decide +kernel
theorem dX8_undo_34 : decode cX8_undo 34 = .ok (.sipush 135, 3) := by decide +kernel
theorem dX8_undo_37 : decode cX8_undo 37 = .ok (.if_icmp .ge 30, 3) := by decide +kernel
theorem dX8_undo_40 : decode cX8_undo 40 = .ok (.aload_n 0, 1) := by decide +kernel
theorem dX8_undo_41 : decode cX8_undo 41 = .ok (.getfield 7, 3) := by decide +kernel
theorem dX8_undo_44 : decode cX8_undo 44 = .ok (.iload_n 1, 1) := by decide +kernel
theorem dX8_undo_45 : decode cX8_undo 45 = .ok (.aload_n 0, 1) := by decide +kernel
theorem dX8_undo_46 : decode cX8_undo 46 = .ok (.getfield 13, 3) := by decide +kernel
theorem dX8_undo_49 : decode cX8_undo 49 = .ok (.sipush 135, 3) := by decide +kernel
theorem dX8_undo_52 : decode cX8_undo 52 = .ok (.aload_n 0, 1) := by decide +kernel
theorem dX8_undo_53 : decode cX8_undo 53 = .ok (.getfield 56, 3) := by decide +kernel
theorem dX8_undo_56 : decode cX8_undo 56 = .ok (.imul, 1) := by decide +kernel
theorem dX8_undo_57 : decode cX8_undo 57 = .ok (.iload_n 1, 1) := by decide +kernel
theorem dX8_undo_58 : decode cX8_undo 58 = .ok (.iadd, 1) := by decide +kernel
theorem dX8_undo_59 : decode cX8_undo 59 = .ok (.iaload, 1) := by decide +kernel
theorem dX8_undo_60 : decode cX8_undo 60 = .ok (.iastore, 1) := by decide +kernel
theorem dX8_undo_61 : decode cX8_undo 61 = .ok (.iinc 1 1, 3) := by decide +kernel
theorem dX8_undo_64 : decode cX8_undo 64 = .ok (.goto (-31), 3) := by decide +kernel
theorem dX8_undo_67 : decode cX8_undo 67 = .ok (.aload_n 0, 1) := by decide +kernel
theorem dX8_undo_68 : decode cX8_undo 68 = .ok (.getfield 56, 3) := by decide +kernel
theorem dX8_undo_71 : decode cX8_undo 71 = .ok (.ireturn, 1) := by decide +kernel
theorem dX8_checksum_0 : decode cX8_checksum 0 = .ok (.aload_n 0, 1) := by decide +kernel
theorem dX8_checksum_1 : decode cX8_checksum 1 = .ok (.iconst 0, 1) := by decide +kernel
theorem dX8_checksum_2 : decode cX8_checksum 2 = .ok (.putfield 52, 3) := by decide +kernel
theorem dX8_checksum_5 : decode cX8_checksum 5 = .ok (.ldc2_w 290, 3) := by decide +kernel
theorem dX8_checksum_8 : decode cX8_checksum 8 = .ok (.aload_n 0, 1) := by decide +kernel
theorem dX8_checksum_9 : decode cX8_checksum 9 = .ok (.getfield 7, 3) := by decide +kernel
theorem dX8_checksum_12 : decode cX8_checksum 12 = .ok (.iconst 0, 1) := by decide +kernel
theorem dX8_checksum_13 : decode cX8_checksum 13 = .ok (.iaload, 1) := by decide +kernel
theorem dX8_checksum_14 : decode cX8_checksum 14 = .ok (.i2l, 1) := by decide +kernel
theorem dX8_checksum_15 : decode cX8_checksum 15 = .ok (.ladd, 1) := by decide +kernel
theorem dX8_checksum_16 : decode cX8_checksum 16 = .ok (.lstore_n 1, 1) := by decide +kernel
theorem dX8_checksum_17 : decode cX8_checksum 17 = .ok (.iconst 0, 1) := by decide +kernel
theorem dX8_checksum_18 : decode cX8_checksum 18 = .ok (.istore_n 3, 1) := by decide +kernel
theorem dX8_checksum_19 : decode cX8_checksum 19 = .ok (.iload_n 3, 1) := by decide +kernel
theorem dX8_checksum_20 : decode cX8_checksum 20 = .ok (.iconst 3, 1) := by decide +kernel
theorem dX8_checksum_21 : decode cX8_checksum 21 = .ok (.aload_n 0, 1) := by decide +kernel
theorem dX8_checksum_22 : decode cX8_checksum 22 = .ok (.getfield 7, 3) := by decide +kernel
theorem dX8_checksum_25 : decode cX8_checksum 25 = .ok (.iconst 0, 1) := by decide +kernel
theorem dX8_checksum_26 : decode cX8_checksum 26 = .ok (.iaload, 1) := by decide +kernel
theorem dX8_checksum_27 : decode cX8_checksum 27 = .ok (.imul, 1) := by decide +kernel
theorem dX8_checksum_28 : decode cX8_checksum 28 = .ok (.if_icmp .ge 25, 3) := by decide +kernel
theorem dX8_checksum_31 : decode cX8_checksum 31 = .ok (.ldc2_w 292, 3) := by decide +kernel
theorem dX8_checksum_34 : decode cX8_checksum 34 = .ok (.lload_n 1, 1) := by decide +kernel
theorem dX8_checksum_35 : decode cX8_checksum 35 = .ok (.lmul, 1) := by decide +kernel
theorem dX8_checksum_36 : decode cX8_checksum 36 = .ok (.aload_n 0, 1) := by decide +kernel
theorem dX8_checksum_37 : decode cX8_checksum 37 = .ok (.getfield 7, 3) := by decide +kernel
theorem dX8_checksum_40 : decode cX8_checksum 40 = .ok (.iconst 1, 1) := by decide +kernel
theorem dX8_checksum_41 : decode cX8_checksum 41 = .ok (.iload_n 3, 1) := by decide +kernel
theorem dX8_checksum_42 : decode cX8_checksum 42 = .ok (.iadd, 1) := by decide +kernel
theorem dX8_checksum_43 : decode cX8_checksum 43 = .ok (.iaload, 1) := by decide +kernel
theorem dX8_checksum_44 : decode cX8_checksum 44 = .ok (.i2l, 1) := by decide +kernel
theorem dX8_checksum_45 : decode cX8_checksum 45 = .ok (.ladd, 1) := by decide +kernel
theorem dX8_checksum_46 : decode cX8_checksum 46 = .ok (.lstore_n 1, 1) := by decide +kernel
theorem dX8_checksum_47 : decode cX8_checksum 47 = .ok (.iinc 3 1, 3) := by decide +kernel
theorem dX8_checksum_50 : decode cX8_checksum 50 = .ok (.goto (-31), 3) := by decide +kernel
theorem dX8_checksum_53 : decode cX8_checksum 53 = .ok (.bipush 121, 2) := by decide +kernel
theorem dX8_checksum_55 : decode cX8_checksum 55 = .ok (.istore_n 3, 1) := by decide +kernel
theorem dX8_checksum_56 : decode cX8_checksum 56 = .ok (.iload_n 3, 1) := by decide +kernel
theorem dX8_checksum_57 : decode cX8_checksum 57 = .ok (.sipush 135, 3) := by decide +kernel
theorem dX8_checksum_60 : decode cX8_checksum 60 = .ok (.if_icmp .ge 23, 3) := by decide +kernel
theorem dX8_checksum_63 : decode cX8_checksum 63 = .ok (.ldc2_w 292, 3) := by decide +kernel
theorem dX8_checksum_66 : decode cX8_checksum 66 = .ok (.lload_n 1, 1) := by decide +kernel
theorem dX8_checksum_67 : decode cX8_checksum 67 = .ok (.lmul, 1) := by decide +kernel
theorem dX8_checksum_68 : decode cX8_checksum 68 = .ok (.aload_n 0, 1) := by decide +kernel
theorem dX8_checksum_69 : decode cX8_checksum 69 = .ok (.getfield 7, 3) := by decide +kernel
theorem dX8_checksum_72 : decode cX8_checksum 72 = .ok (.iload_n 3, 1) := by decide +kernel
theorem dX8_checksum_73 : decode cX8_checksum 73 = .ok (.iaload, 1) := by decide +kernel
theorem dX8_checksum_74 : decode cX8_checksum 74 = .ok (.i2l, 1) := by decide +kernel
theorem dX8_checksum_75 : decode cX8_checksum 75 = .ok (.ladd, 1) := by decide +kernel
theorem dX8_checksum_76 : decode cX8_checksum 76 = .ok (.lstore_n 1, 1) := by decide +kernel
theorem dX8_checksum_77 : decode cX8_checksum 77 = .ok (.iinc 3 1, 3) := by decide +kernel
theorem dX8_checksum_80 : decode cX8_checksum 80 = .ok (.goto (-24), 3) := by decide +kernel
theorem dX8_checksum_83 : decode cX8_checksum 83 = .ok (.iconst 0, 1) := by decide +kernel
theorem dX8_checksum_84 : decode cX8_checksum 84 = .ok (.istore_n 3, 1) := by decide +kernel
theorem dX8_checksum_85 : decode cX8_checksum 85 = .ok (.iload_n 3, 1) := by decide +kernel
theorem dX8_checksum_86 : decode cX8_checksum 86 = .ok (.bipush 63, 2) := by decide +kernel
theorem dX8_checksum_88 : decode cX8_checksum 88 = .ok (.if_icmp .gt 23, 3) := by decide +kernel
theorem dX8_checksum_91 : decode cX8_checksum 91 = .ok (.ldc2_w 292, 3) := by decide +kernel
theorem dX8_checksum_94 : decode cX8_checksum 94 = .ok (.lload_n 1, 1) := by decide +kernel
theorem dX8_checksum_95 : decode cX8_checksum 95 = .ok (.lmul, 1) := by decide +kernel
theorem dX8_checksum_96 : decode cX8_checksum 96 = .ok (.aload_n 0, 1) := by decide +kernel
theorem dX8_checksum_97 : decode cX8_checksum 97 = .ok (.iload_n 3, 1) := by decide +kernel
theorem dX8_checksum_98 : decode cX8_checksum 98 = .ok (.iconst (-1), 1) := by decide +kernel
theorem dX8_checksum_99 : decode cX8_checksum 99 = .ok (.invokevirtual 184, 3) := by decide +kernel
theorem dX8_checksum_102 : decode cX8_checksum 102 = .ok (.i2l, 1) := by decide +kernel
theorem dX8_checksum_103 : decode cX8_checksum 103 = .ok (.ladd, 1) := by decide +kernel
theorem dX8_checksum_104 : decode cX8_checksum 104 = .ok (.lstore_n 1, 1) := by decide +kernel
theorem dX8_checksum_105 : decode cX8_checksum 105 = .ok (.iinc 3 1, 3) := by decide +kernel
theorem dX8_checksum_108 : decode cX8_checksum 108 = .ok (.goto (-23), 3) := by decide +kernel
theorem dX8_checksum_111 : decode cX8_checksum 111 = .ok (.ldc2_w 292, 3) := by decide +kernel
theorem dX8_checksum_114 : decode cX8_checksum 114 = .ok (.lload_n 1, 1) := by decide +kernel
theorem dX8_checksum_115 : decode cX8_checksum 115 = .ok (.lmul, 1) := by decide +kernel
theorem dX8_checksum_116 : decode cX8_checksum 116 = .ok (.aload_n 0, 1) := by decide +kernel
theorem dX8_checksum_117 : decode cX8_checksum 117 = .ok (.getfield 234, 3) := by decide +kernel
theorem dX8_checksum_120 : decode cX8_checksum 120 = .ok (.i2l, 1) := by decide +kernel
theorem dX8_checksum_121 : decode cX8_checksum 121 = .ok (.ladd, 1) := by decide +kernel
theorem dX8_checksum_122 : decode cX8_checksum 122 = .ok (.lstore_n 1, 1) := by decide +kernel
theorem dX8_checksum_123 : decode cX8_checksum 123 = .ok (.ldc2_w 292, 3) := by decide +kernel
theorem dX8_checksum_126 : decode cX8_checksum 126 = .ok (.lload_n 1, 1) := by decide +kernel
theorem dX8_checksum_127 : decode cX8_checksum 127 = .ok (.lmul, 1) := by decide +kernel
theorem dX8_checksum_128 : decode cX8_checksum 128 = .ok (.aload_n 0, 1) := by decide +kernel
theorem dX8_checksum_129 : decode cX8_checksum 129 = .ok (.getfield 56, 3) := by decide +kernel
theorem dX8_checksum_132 : decode cX8_checksum 132 = .ok (.i2l, 1) := by decide +kernel
theorem dX8_checksum_133 : decode cX8_checksum 133 = .ok (.ladd, 1) := by decide +kernel
theorem dX8_checksum_134 : decode cX8_checksum 134 = .ok (.lreturn, 1) := by decide +kernel
end
section
theorem dL_record_0 : decode cL_record 0 = .ok (.aload 4, 2) := by decide +kernel
theorem dL_record_2 : decode cL_record 2 = .ok (.iconst 0, 1) := by decide +kernel
theorem dL_record_3 : decode cL_record 3 = .ok (.aload_n 0, 1) := by decide +kernel
theorem dL_record_4 : decode cL_record 4 = .ok (.iload_n 1, 1) := by decide +kernel
theorem dL_record_5 : decode cL_record 5 = .ok (.iload_n 2, 1) := by decide +kernel
theorem dL_record_6 : decode cL_record 6 = .ok (.iload_n 3, 1) := by decide +kernel
theorem dL_record_7 : decode cL_record 7 = .ok (.invokevirtual 7, 3) := by decide +kernel
theorem dL_record_10 : decode cL_record 10 = .ok (.i2l, 1) := by decide +kernel
theorem dL_record_11 : decode cL_record 11 = .ok (.lastore, 1) := by decide +kernel
theorem dL_record_12 : decode cL_record 12 = .ok (.goto 15, 3) := by decide +kernel
theorem dL_record_15 : decode cL_record 15 = .ok (.astore 5, 2) := by decide +kernel
theorem dL_record_17 : decode cL_record 17 = .ok (.iconst 1, 1) := by decide +kernel
theorem dL_record_18 : decode cL_record 18 = .ok (.ireturn, 1) := by decide +kernel
theorem dL_record_19 : decode cL_record 19 = .ok (.astore 5, 2) := by decide +kernel
theorem dL_record_21 : decode cL_record 21 = .ok (.iconst 2, 1) := by decide +kernel
theorem dL_record_22 : decode cL_record 22 = .ok (.ireturn, 1) := by decide +kernel
theorem dL_record_23 : decode cL_record 23 = .ok (.astore 5, 2) := by decide +kernel
theorem dL_record_25 : decode cL_record 25 = .ok (.iconst 3, 1) := by decide +kernel
theorem dL_record_26 : decode cL_record 26 = .ok (.ireturn, 1) := by decide +kernel
theorem dL_record_27 : decode cL_record 27 = .ok (.iconst 0, 1) := by decide +kernel
theorem dL_record_28 : decode cL_record 28 = .ok (.ireturn, 1) := by decide +kernel
theorem dL_erase_0 : decode cL_erase 0 = .ok (.aload_n 2, 1) := by decide +kernel
theorem dL_erase_1 : decode cL_erase 1 = .ok (.iconst 0, 1) := by decide +kernel
theorem dL_erase_2 : decode cL_erase 2 = .ok (.aload_n 0, 1) := by decide +kernel
theorem dL_erase_3 : decode cL_erase 3 = .ok (.iload_n 1, 1) := by decide +kernel
theorem dL_erase_4 : decode cL_erase 4 = .ok (.invokevirtual 19, 3) := by decide +kernel
theorem dL_erase_7 : decode cL_erase 7 = .ok (.i2l, 1) := by decide +kernel
theorem dL_erase_8 : decode cL_erase 8 = .ok (.lastore, 1) := by decide +kernel
theorem dL_erase_9 : decode cL_erase 9 = .ok (.goto 6, 3) := by decide +kernel
theorem dL_erase_12 : decode cL_erase 12 = .ok (.astore_n 3, 1) := by decide +kernel
theorem dL_erase_13 : decode cL_erase 13 = .ok (.iconst 1, 1) := by decide +kernel
theorem dL_erase_14 : decode cL_erase 14 = .ok (.ireturn, 1) := by decide +kernel
theorem dL_erase_15 : decode cL_erase 15 = .ok (.iconst 0, 1) := by decide +kernel
theorem dL_erase_16 : decode cL_erase 16 = .ok (.ireturn, 1) := by decide +kernel
theorem dL_packet_0 : decode cL_packet 0 = .ok (.aload_n 3, 1) := by decide +kernel
theorem dL_packet_1 : decode cL_packet 1 = .ok (.iconst 0, 1) := by decide +kernel
theorem dL_packet_2 : decode cL_packet 2 = .ok (.aload_n 0, 1) := by decide +kernel
theorem dL_packet_3 : decode cL_packet 3 = .ok (.iload_n 1, 1) := by decide +kernel
theorem dL_packet_4 : decode cL_packet 4 = .ok (.iload_n 2, 1) := by decide +kernel
theorem dL_packet_5 : decode cL_packet 5 = .ok (.invokevirtual 23, 3) := by decide +kernel
theorem dL_packet_8 : decode cL_packet 8 = .ok (.i2l, 1) := by decide +kernel
theorem dL_packet_9 : decode cL_packet 9 = .ok (.lastore, 1) := by decide +kernel
theorem dL_packet_10 : decode cL_packet 10 = .ok (.goto 11, 3) := by decide +kernel
theorem dL_packet_13 : decode cL_packet 13 = .ok (.astore 4, 2) := by decide +kernel
theorem dL_packet_15 : decode cL_packet 15 = .ok (.iconst 1, 1) := by decide +kernel
theorem dL_packet_16 : decode cL_packet 16 = .ok (.ireturn, 1) := by decide +kernel
theorem dL_packet_17 : decode cL_packet 17 = .ok (.astore 4, 2) := by decide +kernel
theorem dL_packet_19 : decode cL_packet 19 = .ok (.iconst 2, 1) := by decide +kernel
theorem dL_packet_20 : decode cL_packet 20 = .ok (.ireturn, 1) := by decide +kernel
theorem dL_packet_21 : decode cL_packet 21 = .ok (.iconst 0, 1) := by decide +kernel
theorem dL_packet_22 : decode cL_packet 22 = .ok (.ireturn, 1) := by decide +kernel
theorem dL_setCapacity_0 : decode cL_setCapacity 0 = .ok (.aload_n 2, 1) := by decide +kernel
theorem dL_setCapacity_1 : decode cL_setCapacity 1 = .ok (.iconst 0, 1) := by decide +kernel
theorem dL_setCapacity_2 : decode cL_setCapacity 2 = .ok (.aload_n 0, 1) := by decide +kernel
theorem dL_setCapacity_3 : decode cL_setCapacity 3 = .ok (.iload_n 1, 1) := by decide +kernel
theorem dL_setCapacity_4 : decode cL_setCapacity 4 = .ok (.invokevirtual 27, 3) := by decide +kernel
theorem dL_setCapacity_7 : decode cL_setCapacity 7 = .ok (.i2l, 1) := by decide +kernel
theorem dL_setCapacity_8 : decode cL_setCapacity 8 = .ok (.lastore, 1) := by decide +kernel
theorem dL_setCapacity_9 : decode cL_setCapacity 9 = .ok (.goto 6, 3) := by decide +kernel
theorem dL_setCapacity_12 : decode cL_setCapacity 12 = .ok (.astore_n 3, 1) := by decide +kernel
theorem dL_setCapacity_13 : decode cL_setCapacity 13 = .ok (.iconst 1, 1) := by decide +kernel
theorem dL_setCapacity_14 : decode cL_setCapacity 14 = .ok (.ireturn, 1) := by decide +kernel
theorem dL_setCapacity_15 : decode cL_setCapacity 15 = .ok (.iconst 0, 1) := by decide +kernel
theorem dL_setCapacity_16 : decode cL_setCapacity 16 = .ok (.ireturn, 1) := by decide +kernel
theorem dL_setRate_0 : decode cL_setRate 0 = .ok (.aload_n 2, 1) := by decide +kernel
theorem dL_setRate_1 : decode cL_setRate 1 = .ok (.iconst 0, 1) := by decide +kernel
theorem dL_setRate_2 : decode cL_setRate 2 = .ok (.aload_n 0, 1) := by decide +kernel
theorem dL_setRate_3 : decode cL_setRate 3 = .ok (.iload_n 1, 1) := by decide +kernel
theorem dL_setRate_4 : decode cL_setRate 4 = .ok (.invokevirtual 30, 3) := by decide +kernel
theorem dL_setRate_7 : decode cL_setRate 7 = .ok (.i2l, 1) := by decide +kernel
theorem dL_setRate_8 : decode cL_setRate 8 = .ok (.lastore, 1) := by decide +kernel
theorem dL_setRate_9 : decode cL_setRate 9 = .ok (.goto 6, 3) := by decide +kernel
theorem dL_setRate_12 : decode cL_setRate 12 = .ok (.astore_n 3, 1) := by decide +kernel
theorem dL_setRate_13 : decode cL_setRate 13 = .ok (.iconst 1, 1) := by decide +kernel
theorem dL_setRate_14 : decode cL_setRate 14 = .ok (.ireturn, 1) := by decide +kernel
theorem dL_setRate_15 : decode cL_setRate 15 = .ok (.iconst 0, 1) := by decide +kernel
theorem dL_setRate_16 : decode cL_setRate 16 = .ok (.ireturn, 1) := by decide +kernel
theorem dL_setPolicy_0 : decode cL_setPolicy 0 = .ok (.aload_n 2, 1) := by decide +kernel
theorem dL_setPolicy_1 : decode cL_setPolicy 1 = .ok (.iconst 0, 1) := by decide +kernel
theorem dL_setPolicy_2 : decode cL_setPolicy 2 = .ok (.aload_n 0, 1) := by decide +kernel
theorem dL_setPolicy_3 : decode cL_setPolicy 3 = .ok (.iload_n 1, 1) := by decide +kernel
theorem dL_setPolicy_4 : decode cL_setPolicy 4 = .ok (.invokevirtual 33, 3) := by decide +kernel
theorem dL_setPolicy_7 : decode cL_setPolicy 7 = .ok (.i2l, 1) := by decide +kernel
theorem dL_setPolicy_8 : decode cL_setPolicy 8 = .ok (.lastore, 1) := by decide +kernel
theorem dL_setPolicy_9 : decode cL_setPolicy 9 = .ok (.goto 6, 3) := by decide +kernel
theorem dL_setPolicy_12 : decode cL_setPolicy 12 = .ok (.astore_n 3, 1) := by decide +kernel
theorem dL_setPolicy_13 : decode cL_setPolicy 13 = .ok (.iconst 1, 1) := by decide +kernel
theorem dL_setPolicy_14 : decode cL_setPolicy 14 = .ok (.ireturn, 1) := by decide +kernel
theorem dL_setPolicy_15 : decode cL_setPolicy 15 = .ok (.iconst 0, 1) := by decide +kernel
theorem dL_setPolicy_16 : decode cL_setPolicy 16 = .ok (.ireturn, 1) := by decide +kernel
theorem dL_setScheduler_0 : decode cL_setScheduler 0 = .ok (.aload_n 2, 1) := by decide +kernel
theorem dL_setScheduler_1 : decode cL_setScheduler 1 = .ok (.iconst 0, 1) := by decide +kernel
theorem dL_setScheduler_2 : decode cL_setScheduler 2 = .ok (.aload_n 0, 1) := by decide +kernel
theorem dL_setScheduler_3 : decode cL_setScheduler 3 = .ok (.iload_n 1, 1) := by decide +kernel
theorem dL_setScheduler_4 : decode cL_setScheduler 4 = .ok (.invokevirtual 36, 3) := by decide +kernel
theorem dL_setScheduler_7 : decode cL_setScheduler 7 = .ok (.i2l, 1) := by decide +kernel
theorem dL_setScheduler_8 : decode cL_setScheduler 8 = .ok (.lastore, 1) := by decide +kernel
theorem dL_setScheduler_9 : decode cL_setScheduler 9 = .ok (.goto 6, 3) := by decide +kernel
theorem dL_setScheduler_12 : decode cL_setScheduler 12 = .ok (.astore_n 3, 1) := by decide +kernel
theorem dL_setScheduler_13 : decode cL_setScheduler 13 = .ok (.iconst 1, 1) := by decide +kernel
theorem dL_setScheduler_14 : decode cL_setScheduler 14 = .ok (.ireturn, 1) := by decide +kernel
theorem dL_setScheduler_15 : decode cL_setScheduler 15 = .ok (.iconst 0, 1) := by decide +kernel
theorem dL_setScheduler_16 : decode cL_setScheduler 16 = .ok (.ireturn, 1) := by decide +kernel
theorem dL_setFactor_0 : decode cL_setFactor 0 = .ok (.aload_n 2, 1) := by decide +kernel
theorem dL_setFactor_1 : decode cL_setFactor 1 = .ok (.iconst 0, 1) := by decide +kernel
theorem dL_setFactor_2 : decode cL_setFactor 2 = .ok (.aload_n 0, 1) := by decide +kernel
theorem dL_setFactor_3 : decode cL_setFactor 3 = .ok (.iload_n 1, 1) := by decide +kernel
theorem dL_setFactor_4 : decode cL_setFactor 4 = .ok (.invokevirtual 39, 3) := by decide +kernel
theorem dL_setFactor_7 : decode cL_setFactor 7 = .ok (.i2l, 1) := by decide +kernel
theorem dL_setFactor_8 : decode cL_setFactor 8 = .ok (.lastore, 1) := by decide +kernel
theorem dL_setFactor_9 : decode cL_setFactor 9 = .ok (.goto 6, 3) := by decide +kernel
theorem dL_setFactor_12 : decode cL_setFactor 12 = .ok (.astore_n 3, 1) := by decide +kernel
theorem dL_setFactor_13 : decode cL_setFactor 13 = .ok (.iconst 1, 1) := by decide +kernel
theorem dL_setFactor_14 : decode cL_setFactor 14 = .ok (.ireturn, 1) := by decide +kernel
theorem dL_setFactor_15 : decode cL_setFactor 15 = .ok (.iconst 0, 1) := by decide +kernel
theorem dL_setFactor_16 : decode cL_setFactor 16 = .ok (.ireturn, 1) := by decide +kernel
theorem dL_setThreshold_0 : decode cL_setThreshold 0 = .ok (.aload_n 2, 1) := by decide +kernel
theorem dL_setThreshold_1 : decode cL_setThreshold 1 = .ok (.iconst 0, 1) := by decide +kernel
theorem dL_setThreshold_2 : decode cL_setThreshold 2 = .ok (.aload_n 0, 1) := by decide +kernel
theorem dL_setThreshold_3 : decode cL_setThreshold 3 = .ok (.iload_n 1, 1) := by decide +kernel
theorem dL_setThreshold_4 : decode cL_setThreshold 4 = .ok (.invokevirtual 42, 3) := by decide +kernel
theorem dL_setThreshold_7 : decode cL_setThreshold 7 = .ok (.i2l, 1) := by decide +kernel
theorem dL_setThreshold_8 : decode cL_setThreshold 8 = .ok (.lastore, 1) := by decide +kernel
theorem dL_setThreshold_9 : decode cL_setThreshold 9 = .ok (.goto 6, 3) := by decide +kernel
theorem dL_setThreshold_12 : decode cL_setThreshold 12 = .ok (.astore_n 3, 1) := by decide +kernel
theorem dL_setThreshold_13 : decode cL_setThreshold 13 = .ok (.iconst 1, 1) := by decide +kernel
theorem dL_setThreshold_14 : decode cL_setThreshold 14 = .ok (.ireturn, 1) := by decide +kernel
theorem dL_setThreshold_15 : decode cL_setThreshold 15 = .ok (.iconst 0, 1) := by decide +kernel
theorem dL_setThreshold_16 : decode cL_setThreshold 16 = .ok (.ireturn, 1) := by decide +kernel
theorem dL_setInterval_0 : decode cL_setInterval 0 = .ok (.aload_n 2, 1) := by decide +kernel
theorem dL_setInterval_1 : decode cL_setInterval 1 = .ok (.iconst 0, 1) := by decide +kernel
theorem dL_setInterval_2 : decode cL_setInterval 2 = .ok (.aload_n 0, 1) := by decide +kernel
theorem dL_setInterval_3 : decode cL_setInterval 3 = .ok (.iload_n 1, 1) := by decide +kernel
theorem dL_setInterval_4 : decode cL_setInterval 4 = .ok (.invokevirtual 45, 3) := by decide +kernel
theorem dL_setInterval_7 : decode cL_setInterval 7 = .ok (.i2l, 1) := by decide +kernel
theorem dL_setInterval_8 : decode cL_setInterval 8 = .ok (.lastore, 1) := by decide +kernel
theorem dL_setInterval_9 : decode cL_setInterval 9 = .ok (.goto 6, 3) := by decide +kernel
theorem dL_setInterval_12 : decode cL_setInterval 12 = .ok (.astore_n 3, 1) := by decide +kernel
theorem dL_setInterval_13 : decode cL_setInterval 13 = .ok (.iconst 1, 1) := by decide +kernel
theorem dL_setInterval_14 : decode cL_setInterval 14 = .ok (.ireturn, 1) := by decide +kernel
theorem dL_setInterval_15 : decode cL_setInterval 15 = .ok (.iconst 0, 1) := by decide +kernel
theorem dL_setInterval_16 : decode cL_setInterval 16 = .ok (.ireturn, 1) := by decide +kernel
theorem dL_setMeasure_0 : decode cL_setMeasure 0 = .ok (.aload_n 2, 1) := by decide +kernel
theorem dL_setMeasure_1 : decode cL_setMeasure 1 = .ok (.iconst 0, 1) := by decide +kernel
theorem dL_setMeasure_2 : decode cL_setMeasure 2 = .ok (.aload_n 0, 1) := by decide +kernel
theorem dL_setMeasure_3 : decode cL_setMeasure 3 = .ok (.iload_n 1, 1) := by decide +kernel
theorem dL_setMeasure_4 : decode cL_setMeasure 4 = .ok (.invokevirtual 48, 3) := by decide +kernel
theorem dL_setMeasure_7 : decode cL_setMeasure 7 = .ok (.i2l, 1) := by decide +kernel
theorem dL_setMeasure_8 : decode cL_setMeasure 8 = .ok (.lastore, 1) := by decide +kernel
theorem dL_setMeasure_9 : decode cL_setMeasure 9 = .ok (.goto 6, 3) := by decide +kernel
theorem dL_setMeasure_12 : decode cL_setMeasure 12 = .ok (.astore_n 3, 1) := by decide +kernel
theorem dL_setMeasure_13 : decode cL_setMeasure 13 = .ok (.iconst 1, 1) := by decide +kernel
theorem dL_setMeasure_14 : decode cL_setMeasure 14 = .ok (.ireturn, 1) := by decide +kernel
theorem dL_setMeasure_15 : decode cL_setMeasure 15 = .ok (.iconst 0, 1) := by decide +kernel
theorem dL_setMeasure_16 : decode cL_setMeasure 16 = .ok (.ireturn, 1) := by decide +kernel
theorem dL_setPriority_0 : decode cL_setPriority 0 = .ok (.aload_n 3, 1) := by decide +kernel
theorem dL_setPriority_1 : decode cL_setPriority 1 = .ok (.iconst 0, 1) := by decide +kernel
theorem dL_setPriority_2 : decode cL_setPriority 2 = .ok (.aload_n 0, 1) := by decide +kernel
theorem dL_setPriority_3 : decode cL_setPriority 3 = .ok (.iload_n 1, 1) := by decide +kernel
theorem dL_setPriority_4 : decode cL_setPriority 4 = .ok (.iload_n 2, 1) := by decide +kernel
theorem dL_setPriority_5 : decode cL_setPriority 5 = .ok (.invokevirtual 51, 3) := by decide +kernel
theorem dL_setPriority_8 : decode cL_setPriority 8 = .ok (.i2l, 1) := by decide +kernel
theorem dL_setPriority_9 : decode cL_setPriority 9 = .ok (.lastore, 1) := by decide +kernel
theorem dL_setPriority_10 : decode cL_setPriority 10 = .ok (.goto 11, 3) := by decide +kernel
theorem dL_setPriority_13 : decode cL_setPriority 13 = .ok (.astore 4, 2) := by decide +kernel
theorem dL_setPriority_15 : decode cL_setPriority 15 = .ok (.iconst 1, 1) := by decide +kernel
theorem dL_setPriority_16 : decode cL_setPriority 16 = .ok (.ireturn, 1) := by decide +kernel
theorem dL_setPriority_17 : decode cL_setPriority 17 = .ok (.astore 4, 2) := by decide +kernel
theorem dL_setPriority_19 : decode cL_setPriority 19 = .ok (.iconst 2, 1) := by decide +kernel
theorem dL_setPriority_20 : decode cL_setPriority 20 = .ok (.ireturn, 1) := by decide +kernel
theorem dL_setPriority_21 : decode cL_setPriority 21 = .ok (.iconst 0, 1) := by decide +kernel
theorem dL_setPriority_22 : decode cL_setPriority 22 = .ok (.ireturn, 1) := by decide +kernel
theorem dL_replay_0 : decode cL_replay 0 = .ok (.aload_n 2, 1) := by decide +kernel
theorem dL_replay_1 : decode cL_replay 1 = .ok (.iconst 0, 1) := by decide +kernel
theorem dL_replay_2 : decode cL_replay 2 = .ok (.aload_n 0, 1) := by decide +kernel
theorem dL_replay_3 : decode cL_replay 3 = .ok (.iload_n 1, 1) := by decide +kernel
theorem dL_replay_4 : decode cL_replay 4 = .ok (.invokevirtual 54, 3) := by decide +kernel
theorem dL_replay_7 : decode cL_replay 7 = .ok (.i2l, 1) := by decide +kernel
theorem dL_replay_8 : decode cL_replay 8 = .ok (.lastore, 1) := by decide +kernel
theorem dL_replay_9 : decode cL_replay 9 = .ok (.goto 6, 3) := by decide +kernel
theorem dL_replay_12 : decode cL_replay 12 = .ok (.astore_n 3, 1) := by decide +kernel
theorem dL_replay_13 : decode cL_replay 13 = .ok (.iconst 1, 1) := by decide +kernel
theorem dL_replay_14 : decode cL_replay 14 = .ok (.ireturn, 1) := by decide +kernel
theorem dL_replay_15 : decode cL_replay 15 = .ok (.iconst 0, 1) := by decide +kernel
theorem dL_replay_16 : decode cL_replay 16 = .ok (.ireturn, 1) := by decide +kernel
theorem dL_worth_0 : decode cL_worth 0 = .ok (.aload_n 2, 1) := by decide +kernel
theorem dL_worth_1 : decode cL_worth 1 = .ok (.iconst 0, 1) := by decide +kernel
theorem dL_worth_2 : decode cL_worth 2 = .ok (.aload_n 0, 1) := by decide +kernel
theorem dL_worth_3 : decode cL_worth 3 = .ok (.iload_n 1, 1) := by decide +kernel
theorem dL_worth_4 : decode cL_worth 4 = .ok (.invokevirtual 57, 3) := by decide +kernel
theorem dL_worth_7 : decode cL_worth 7 = .ok (.i2l, 1) := by decide +kernel
theorem dL_worth_8 : decode cL_worth 8 = .ok (.lastore, 1) := by decide +kernel
theorem dL_worth_9 : decode cL_worth 9 = .ok (.goto 6, 3) := by decide +kernel
theorem dL_worth_12 : decode cL_worth 12 = .ok (.astore_n 3, 1) := by decide +kernel
theorem dL_worth_13 : decode cL_worth 13 = .ok (.iconst 1, 1) := by decide +kernel
theorem dL_worth_14 : decode cL_worth 14 = .ok (.ireturn, 1) := by decide +kernel
theorem dL_worth_15 : decode cL_worth 15 = .ok (.iconst 0, 1) := by decide +kernel
theorem dL_worth_16 : decode cL_worth 16 = .ok (.ireturn, 1) := by decide +kernel
theorem dL_worthFor_0 : decode cL_worthFor 0 = .ok (.aload_n 3, 1) := by decide +kernel
theorem dL_worthFor_1 : decode cL_worthFor 1 = .ok (.iconst 0, 1) := by decide +kernel
theorem dL_worthFor_2 : decode cL_worthFor 2 = .ok (.aload_n 0, 1) := by decide +kernel
theorem dL_worthFor_3 : decode cL_worthFor 3 = .ok (.iload_n 1, 1) := by decide +kernel
theorem dL_worthFor_4 : decode cL_worthFor 4 = .ok (.iload_n 2, 1) := by decide +kernel
theorem dL_worthFor_5 : decode cL_worthFor 5 = .ok (.invokevirtual 60, 3) := by decide +kernel
theorem dL_worthFor_8 : decode cL_worthFor 8 = .ok (.i2l, 1) := by decide +kernel
theorem dL_worthFor_9 : decode cL_worthFor 9 = .ok (.lastore, 1) := by decide +kernel
theorem dL_worthFor_10 : decode cL_worthFor 10 = .ok (.goto 11, 3) := by decide +kernel
theorem dL_worthFor_13 : decode cL_worthFor 13 = .ok (.astore 4, 2) := by decide +kernel
theorem dL_worthFor_15 : decode cL_worthFor 15 = .ok (.iconst 1, 1) := by decide +kernel
theorem dL_worthFor_16 : decode cL_worthFor 16 = .ok (.ireturn, 1) := by decide +kernel
theorem dL_worthFor_17 : decode cL_worthFor 17 = .ok (.astore 4, 2) := by decide +kernel
theorem dL_worthFor_19 : decode cL_worthFor 19 = .ok (.iconst 2, 1) := by decide +kernel
theorem dL_worthFor_20 : decode cL_worthFor 20 = .ok (.ireturn, 1) := by decide +kernel
theorem dL_worthFor_21 : decode cL_worthFor 21 = .ok (.iconst 0, 1) := by decide +kernel
theorem dL_worthFor_22 : decode cL_worthFor 22 = .ok (.ireturn, 1) := by decide +kernel
theorem dL_contribution_0 : decode cL_contribution 0 = .ok (.aload_n 3, 1) := by decide +kernel
theorem dL_contribution_1 : decode cL_contribution 1 = .ok (.iconst 0, 1) := by decide +kernel
theorem dL_contribution_2 : decode cL_contribution 2 = .ok (.aload_n 0, 1) := by decide +kernel
theorem dL_contribution_3 : decode cL_contribution 3 = .ok (.iload_n 1, 1) := by decide +kernel
theorem dL_contribution_4 : decode cL_contribution 4 = .ok (.iload_n 2, 1) := by decide +kernel
theorem dL_contribution_5 : decode cL_contribution 5 = .ok (.invokevirtual 63, 3) := by decide +kernel
theorem dL_contribution_8 : decode cL_contribution 8 = .ok (.i2l, 1) := by decide +kernel
theorem dL_contribution_9 : decode cL_contribution 9 = .ok (.lastore, 1) := by decide +kernel
theorem dL_contribution_10 : decode cL_contribution 10 = .ok (.goto 11, 3) := by decide +kernel
theorem dL_contribution_13 : decode cL_contribution 13 = .ok (.astore 4, 2) := by decide +kernel
theorem dL_contribution_15 : decode cL_contribution 15 = .ok (.iconst 1, 1) := by decide +kernel
theorem dL_contribution_16 : decode cL_contribution 16 = .ok (.ireturn, 1) := by decide +kernel
theorem dL_contribution_17 : decode cL_contribution 17 = .ok (.astore 4, 2) := by decide +kernel
theorem dL_contribution_19 : decode cL_contribution 19 = .ok (.iconst 2, 1) := by decide +kernel
theorem dL_contribution_20 : decode cL_contribution 20 = .ok (.ireturn, 1) := by decide +kernel
theorem dL_contribution_21 : decode cL_contribution 21 = .ok (.iconst 0, 1) := by decide +kernel
theorem dL_contribution_22 : decode cL_contribution 22 = .ok (.ireturn, 1) := by decide +kernel
theorem dL_blame_0 : decode cL_blame 0 = .ok (.aload_n 3, 1) := by decide +kernel
theorem dL_blame_1 : decode cL_blame 1 = .ok (.iconst 0, 1) := by decide +kernel
theorem dL_blame_2 : decode cL_blame 2 = .ok (.aload_n 0, 1) := by decide +kernel
theorem dL_blame_3 : decode cL_blame 3 = .ok (.iload_n 1, 1) := by decide +kernel
theorem dL_blame_4 : decode cL_blame 4 = .ok (.iload_n 2, 1) := by decide +kernel
theorem dL_blame_5 : decode cL_blame 5 = .ok (.invokevirtual 66, 3) := by decide +kernel
theorem dL_blame_8 : decode cL_blame 8 = .ok (.i2l, 1) := by decide +kernel
theorem dL_blame_9 : decode cL_blame 9 = .ok (.lastore, 1) := by decide +kernel
theorem dL_blame_10 : decode cL_blame 10 = .ok (.goto 11, 3) := by decide +kernel
theorem dL_blame_13 : decode cL_blame 13 = .ok (.astore 4, 2) := by decide +kernel
theorem dL_blame_15 : decode cL_blame 15 = .ok (.iconst 1, 1) := by decide +kernel
theorem dL_blame_16 : decode cL_blame 16 = .ok (.ireturn, 1) := by decide +kernel
theorem dL_blame_17 : decode cL_blame 17 = .ok (.astore 4, 2) := by decide +kernel
theorem dL_blame_19 : decode cL_blame 19 = .ok (.iconst 2, 1) := by decide +kernel
theorem dL_blame_20 : decode cL_blame 20 = .ok (.ireturn, 1) := by decide +kernel
theorem dL_blame_21 : decode cL_blame 21 = .ok (.iconst 0, 1) := by decide +kernel
theorem dL_blame_22 : decode cL_blame 22 = .ok (.ireturn, 1) := by decide +kernel
theorem dL_blameFor_0 : decode cL_blameFor 0 = .ok (.aload 4, 2) := by decide +kernel
theorem dL_blameFor_2 : decode cL_blameFor 2 = .ok (.iconst 0, 1) := by decide +kernel
theorem dL_blameFor_3 : decode cL_blameFor 3 = .ok (.aload_n 0, 1) := by decide +kernel
theorem dL_blameFor_4 : decode cL_blameFor 4 = .ok (.iload_n 1, 1) := by decide +kernel
theorem dL_blameFor_5 : decode cL_blameFor 5 = .ok (.iload_n 2, 1) := by decide +kernel
theorem dL_blameFor_6 : decode cL_blameFor 6 = .ok (.iload_n 3, 1) := by decide +kernel
theorem dL_blameFor_7 : decode cL_blameFor 7 = .ok (.invokevirtual 69, 3) := by decide +kernel
theorem dL_blameFor_10 : decode cL_blameFor 10 = .ok (.i2l, 1) := by decide +kernel
theorem dL_blameFor_11 : decode cL_blameFor 11 = .ok (.lastore, 1) := by decide +kernel
theorem dL_blameFor_12 : decode cL_blameFor 12 = .ok (.goto 11, 3) := by decide +kernel
theorem dL_blameFor_15 : decode cL_blameFor 15 = .ok (.astore 5, 2) := by decide +kernel
theorem dL_blameFor_17 : decode cL_blameFor 17 = .ok (.iconst 1, 1) := by decide +kernel
theorem dL_blameFor_18 : decode cL_blameFor 18 = .ok (.ireturn, 1) := by decide +kernel
theorem dL_blameFor_19 : decode cL_blameFor 19 = .ok (.astore 5, 2) := by decide +kernel
theorem dL_blameFor_21 : decode cL_blameFor 21 = .ok (.iconst 2, 1) := by decide +kernel
theorem dL_blameFor_22 : decode cL_blameFor 22 = .ok (.ireturn, 1) := by decide +kernel
theorem dL_blameFor_23 : decode cL_blameFor 23 = .ok (.iconst 0, 1) := by decide +kernel
theorem dL_blameFor_24 : decode cL_blameFor 24 = .ok (.ireturn, 1) := by decide +kernel
theorem dL_index_0 : decode cL_index 0 = .ok (.aload_n 3, 1) := by decide +kernel
theorem dL_index_1 : decode cL_index 1 = .ok (.iconst 0, 1) := by decide +kernel
theorem dL_index_2 : decode cL_index 2 = .ok (.aload_n 0, 1) := by decide +kernel
theorem dL_index_3 : decode cL_index 3 = .ok (.iload_n 1, 1) := by decide +kernel
theorem dL_index_4 : decode cL_index 4 = .ok (.iload_n 2, 1) := by decide +kernel
theorem dL_index_5 : decode cL_index 5 = .ok (.invokevirtual 72, 3) := by decide +kernel
theorem dL_index_8 : decode cL_index 8 = .ok (.i2l, 1) := by decide +kernel
theorem dL_index_9 : decode cL_index 9 = .ok (.lastore, 1) := by decide +kernel
theorem dL_index_10 : decode cL_index 10 = .ok (.goto 11, 3) := by decide +kernel
theorem dL_index_13 : decode cL_index 13 = .ok (.astore 4, 2) := by decide +kernel
theorem dL_index_15 : decode cL_index 15 = .ok (.iconst 1, 1) := by decide +kernel
theorem dL_index_16 : decode cL_index 16 = .ok (.ireturn, 1) := by decide +kernel
theorem dL_index_17 : decode cL_index 17 = .ok (.astore 4, 2) := by decide +kernel
theorem dL_index_19 : decode cL_index 19 = .ok (.iconst 2, 1) := by decide +kernel
theorem dL_index_20 : decode cL_index 20 = .ok (.ireturn, 1) := by decide +kernel
theorem dL_index_21 : decode cL_index 21 = .ok (.iconst 0, 1) := by decide +kernel
theorem dL_index_22 : decode cL_index 22 = .ok (.ireturn, 1) := by decide +kernel
theorem dL_interaction_0 : decode cL_interaction 0 = .ok (.aload 4, 2) := by decide +kernel
theorem dL_interaction_2 : decode cL_interaction 2 = .ok (.iconst 0, 1) := by decide +kernel
theorem dL_interaction_3 : decode cL_interaction 3 = .ok (.aload_n 0, 1) := by decide +kernel
theorem dL_interaction_4 : decode cL_interaction 4 = .ok (.iload_n 1, 1) := by decide +kernel
theorem dL_interaction_5 : decode cL_interaction 5 = .ok (.iload_n 2, 1) := by decide +kernel
theorem dL_interaction_6 : decode cL_interaction 6 = .ok (.iload_n 3, 1) := by decide +kernel
theorem dL_interaction_7 : decode cL_interaction 7 = .ok (.invokevirtual 75, 3) := by decide +kernel
theorem dL_interaction_10 : decode cL_interaction 10 = .ok (.i2l, 1) := by decide +kernel
theorem dL_interaction_11 : decode cL_interaction 11 = .ok (.lastore, 1) := by decide +kernel
theorem dL_interaction_12 : decode cL_interaction 12 = .ok (.goto 11, 3) := by decide +kernel
theorem dL_interaction_15 : decode cL_interaction 15 = .ok (.astore 5, 2) := by decide +kernel
theorem dL_interaction_17 : decode cL_interaction 17 = .ok (.iconst 1, 1) := by decide +kernel
theorem dL_interaction_18 : decode cL_interaction 18 = .ok (.ireturn, 1) := by decide +kernel
theorem dL_interaction_19 : decode cL_interaction 19 = .ok (.astore 5, 2) := by decide +kernel
theorem dL_interaction_21 : decode cL_interaction 21 = .ok (.iconst 2, 1) := by decide +kernel
theorem dL_interaction_22 : decode cL_interaction 22 = .ok (.ireturn, 1) := by decide +kernel
theorem dL_interaction_23 : decode cL_interaction 23 = .ok (.iconst 0, 1) := by decide +kernel
theorem dL_interaction_24 : decode cL_interaction 24 = .ok (.ireturn, 1) := by decide +kernel
theorem dL_ranked_0 : decode cL_ranked 0 = .ok (.aload_n 2, 1) := by decide +kernel
theorem dL_ranked_1 : decode cL_ranked 1 = .ok (.iconst 0, 1) := by decide +kernel
theorem dL_ranked_2 : decode cL_ranked 2 = .ok (.aload_n 0, 1) := by decide +kernel
theorem dL_ranked_3 : decode cL_ranked 3 = .ok (.iload_n 1, 1) := by decide +kernel
theorem dL_ranked_4 : decode cL_ranked 4 = .ok (.invokevirtual 78, 3) := by decide +kernel
theorem dL_ranked_7 : decode cL_ranked 7 = .ok (.i2l, 1) := by decide +kernel
theorem dL_ranked_8 : decode cL_ranked 8 = .ok (.lastore, 1) := by decide +kernel
theorem dL_ranked_9 : decode cL_ranked 9 = .ok (.goto 6, 3) := by decide +kernel
theorem dL_ranked_12 : decode cL_ranked 12 = .ok (.astore_n 3, 1) := by decide +kernel
theorem dL_ranked_13 : decode cL_ranked 13 = .ok (.iconst 1, 1) := by decide +kernel
theorem dL_ranked_14 : decode cL_ranked 14 = .ok (.ireturn, 1) := by decide +kernel
theorem dL_ranked_15 : decode cL_ranked 15 = .ok (.iconst 0, 1) := by decide +kernel
theorem dL_ranked_16 : decode cL_ranked 16 = .ok (.ireturn, 1) := by decide +kernel
theorem dL_sampled_0 : decode cL_sampled 0 = .ok (.aload 4, 2) := by decide +kernel
theorem dL_sampled_2 : decode cL_sampled 2 = .ok (.iconst 0, 1) := by decide +kernel
theorem dL_sampled_3 : decode cL_sampled 3 = .ok (.aload_n 0, 1) := by decide +kernel
theorem dL_sampled_4 : decode cL_sampled 4 = .ok (.iload_n 1, 1) := by decide +kernel
theorem dL_sampled_5 : decode cL_sampled 5 = .ok (.iload_n 2, 1) := by decide +kernel
theorem dL_sampled_6 : decode cL_sampled 6 = .ok (.iload_n 3, 1) := by decide +kernel
theorem dL_sampled_7 : decode cL_sampled 7 = .ok (.invokevirtual 81, 3) := by decide +kernel
theorem dL_sampled_10 : decode cL_sampled 10 = .ok (.i2l, 1) := by decide +kernel
theorem dL_sampled_11 : decode cL_sampled 11 = .ok (.lastore, 1) := by decide +kernel
theorem dL_sampled_12 : decode cL_sampled 12 = .ok (.goto 11, 3) := by decide +kernel
theorem dL_sampled_15 : decode cL_sampled 15 = .ok (.astore 5, 2) := by decide +kernel
theorem dL_sampled_17 : decode cL_sampled 17 = .ok (.iconst 1, 1) := by decide +kernel
theorem dL_sampled_18 : decode cL_sampled 18 = .ok (.ireturn, 1) := by decide +kernel
theorem dL_sampled_19 : decode cL_sampled 19 = .ok (.astore 5, 2) := by decide +kernel
theorem dL_sampled_21 : decode cL_sampled 21 = .ok (.iconst 2, 1) := by decide +kernel
theorem dL_sampled_22 : decode cL_sampled 22 = .ok (.ireturn, 1) := by decide +kernel
theorem dL_sampled_23 : decode cL_sampled 23 = .ok (.iconst 0, 1) := by decide +kernel
theorem dL_sampled_24 : decode cL_sampled 24 = .ok (.ireturn, 1) := by decide +kernel
theorem dL_cause_0 : decode cL_cause 0 = .ok (.aload_n 2, 1) := by decide +kernel
theorem dL_cause_1 : decode cL_cause 1 = .ok (.iconst 0, 1) := by decide +kernel
theorem dL_cause_2 : decode cL_cause 2 = .ok (.aload_n 0, 1) := by decide +kernel
theorem dL_cause_3 : decode cL_cause 3 = .ok (.iload_n 1, 1) := by decide +kernel
theorem dL_cause_4 : decode cL_cause 4 = .ok (.invokevirtual 84, 3) := by decide +kernel
theorem dL_cause_7 : decode cL_cause 7 = .ok (.i2l, 1) := by decide +kernel
theorem dL_cause_8 : decode cL_cause 8 = .ok (.lastore, 1) := by decide +kernel
theorem dL_cause_9 : decode cL_cause 9 = .ok (.goto 6, 3) := by decide +kernel
theorem dL_cause_12 : decode cL_cause 12 = .ok (.astore_n 3, 1) := by decide +kernel
theorem dL_cause_13 : decode cL_cause 13 = .ok (.iconst 1, 1) := by decide +kernel
theorem dL_cause_14 : decode cL_cause 14 = .ok (.ireturn, 1) := by decide +kernel
theorem dL_cause_15 : decode cL_cause 15 = .ok (.iconst 0, 1) := by decide +kernel
theorem dL_cause_16 : decode cL_cause 16 = .ok (.ireturn, 1) := by decide +kernel
theorem dL_suspects_0 : decode cL_suspects 0 = .ok (.aload_n 2, 1) := by decide +kernel
theorem dL_suspects_1 : decode cL_suspects 1 = .ok (.iconst 0, 1) := by decide +kernel
theorem dL_suspects_2 : decode cL_suspects 2 = .ok (.aload_n 0, 1) := by decide +kernel
theorem dL_suspects_3 : decode cL_suspects 3 = .ok (.iload_n 1, 1) := by decide +kernel
theorem dL_suspects_4 : decode cL_suspects 4 = .ok (.invokevirtual 87, 3) := by decide +kernel
theorem dL_suspects_7 : decode cL_suspects 7 = .ok (.i2l, 1) := by decide +kernel
theorem dL_suspects_8 : decode cL_suspects 8 = .ok (.lastore, 1) := by decide +kernel
theorem dL_suspects_9 : decode cL_suspects 9 = .ok (.goto 6, 3) := by decide +kernel
theorem dL_suspects_12 : decode cL_suspects 12 = .ok (.astore_n 3, 1) := by decide +kernel
theorem dL_suspects_13 : decode cL_suspects 13 = .ok (.iconst 1, 1) := by decide +kernel
theorem dL_suspects_14 : decode cL_suspects 14 = .ok (.ireturn, 1) := by decide +kernel
theorem dL_suspects_15 : decode cL_suspects 15 = .ok (.iconst 0, 1) := by decide +kernel
theorem dL_suspects_16 : decode cL_suspects 16 = .ok (.ireturn, 1) := by decide +kernel
theorem dL_capacityFor_0 : decode cL_capacityFor 0 = .ok (.aload_n 2, 1) := by decide +kernel
theorem dL_capacityFor_1 : decode cL_capacityFor 1 = .ok (.iconst 0, 1) := by decide +kernel
theorem dL_capacityFor_2 : decode cL_capacityFor 2 = .ok (.aload_n 0, 1) := by decide +kernel
theorem dL_capacityFor_3 : decode cL_capacityFor 3 = .ok (.iload_n 1, 1) := by decide +kernel
theorem dL_capacityFor_4 : decode cL_capacityFor 4 = .ok (.invokevirtual 90, 3) := by decide +kernel
theorem dL_capacityFor_7 : decode cL_capacityFor 7 = .ok (.i2l, 1) := by decide +kernel
theorem dL_capacityFor_8 : decode cL_capacityFor 8 = .ok (.lastore, 1) := by decide +kernel
theorem dL_capacityFor_9 : decode cL_capacityFor 9 = .ok (.goto 6, 3) := by decide +kernel
theorem dL_capacityFor_12 : decode cL_capacityFor 12 = .ok (.astore_n 3, 1) := by decide +kernel
theorem dL_capacityFor_13 : decode cL_capacityFor 13 = .ok (.iconst 1, 1) := by decide +kernel
theorem dL_capacityFor_14 : decode cL_capacityFor 14 = .ok (.ireturn, 1) := by decide +kernel
theorem dL_capacityFor_15 : decode cL_capacityFor 15 = .ok (.iconst 0, 1) := by decide +kernel
theorem dL_capacityFor_16 : decode cL_capacityFor 16 = .ok (.ireturn, 1) := by decide +kernel
theorem dL_type_0 : decode cL_type 0 = .ok (.aload_n 2, 1) := by decide +kernel
theorem dL_type_1 : decode cL_type 1 = .ok (.iconst 0, 1) := by decide +kernel
theorem dL_type_2 : decode cL_type 2 = .ok (.aload_n 0, 1) := by decide +kernel
theorem dL_type_3 : decode cL_type 3 = .ok (.iload_n 1, 1) := by decide +kernel
theorem dL_type_4 : decode cL_type 4 = .ok (.invokevirtual 93, 3) := by decide +kernel
theorem dL_type_7 : decode cL_type 7 = .ok (.i2l, 1) := by decide +kernel
theorem dL_type_8 : decode cL_type 8 = .ok (.lastore, 1) := by decide +kernel
theorem dL_type_9 : decode cL_type 9 = .ok (.goto 9, 3) := by decide +kernel
theorem dL_type_12 : decode cL_type 12 = .ok (.astore_n 3, 1) := by decide +kernel
theorem dL_type_13 : decode cL_type 13 = .ok (.iconst 1, 1) := by decide +kernel
theorem dL_type_14 : decode cL_type 14 = .ok (.ireturn, 1) := by decide +kernel
theorem dL_type_15 : decode cL_type 15 = .ok (.astore_n 3, 1) := by decide +kernel
theorem dL_type_16 : decode cL_type 16 = .ok (.iconst 2, 1) := by decide +kernel
theorem dL_type_17 : decode cL_type 17 = .ok (.ireturn, 1) := by decide +kernel
theorem dL_type_18 : decode cL_type 18 = .ok (.iconst 0, 1) := by decide +kernel
theorem dL_type_19 : decode cL_type 19 = .ok (.ireturn, 1) := by decide +kernel
theorem dL_run_0 : decode cL_run 0 = .ok (.aload_n 1, 1) := by decide +kernel
theorem dL_run_1 : decode cL_run 1 = .ok (.iconst 0, 1) := by decide +kernel
theorem dL_run_2 : decode cL_run 2 = .ok (.aload_n 0, 1) := by decide +kernel
theorem dL_run_3 : decode cL_run 3 = .ok (.invokevirtual 96, 3) := by decide +kernel
theorem dL_run_6 : decode cL_run 6 = .ok (.i2l, 1) := by decide +kernel
theorem dL_run_7 : decode cL_run 7 = .ok (.lastore, 1) := by decide +kernel
theorem dL_run_8 : decode cL_run 8 = .ok (.goto 6, 3) := by decide +kernel
theorem dL_run_11 : decode cL_run 11 = .ok (.astore_n 2, 1) := by decide +kernel
theorem dL_run_12 : decode cL_run 12 = .ok (.iconst 1, 1) := by decide +kernel
theorem dL_run_13 : decode cL_run 13 = .ok (.ireturn, 1) := by decide +kernel
theorem dL_run_14 : decode cL_run 14 = .ok (.iconst 0, 1) := by decide +kernel
theorem dL_run_15 : decode cL_run 15 = .ok (.ireturn, 1) := by decide +kernel
theorem dL_undo_0 : decode cL_undo 0 = .ok (.aload_n 1, 1) := by decide +kernel
theorem dL_undo_1 : decode cL_undo 1 = .ok (.iconst 0, 1) := by decide +kernel
theorem dL_undo_2 : decode cL_undo 2 = .ok (.aload_n 0, 1) := by decide +kernel
theorem dL_undo_3 : decode cL_undo 3 = .ok (.invokevirtual 100, 3) := by decide +kernel
theorem dL_undo_6 : decode cL_undo 6 = .ok (.i2l, 1) := by decide +kernel
theorem dL_undo_7 : decode cL_undo 7 = .ok (.lastore, 1) := by decide +kernel
theorem dL_undo_8 : decode cL_undo 8 = .ok (.goto 6, 3) := by decide +kernel
theorem dL_undo_11 : decode cL_undo 11 = .ok (.astore_n 2, 1) := by decide +kernel
theorem dL_undo_12 : decode cL_undo 12 = .ok (.iconst 1, 1) := by decide +kernel
theorem dL_undo_13 : decode cL_undo 13 = .ok (.ireturn, 1) := by decide +kernel
theorem dL_undo_14 : decode cL_undo 14 = .ok (.iconst 0, 1) := by decide +kernel
theorem dL_undo_15 : decode cL_undo 15 = .ok (.ireturn, 1) := by decide +kernel
end
section
/-! ===== the state of the whole system: ints, longs, enum references, by cell and place ===== -/
abbrev St : Type := (Nat → Nat → Int32) × (Nat → Nat → Int64) × (Nat → Nat → Option Nat)
def gi (S : St) (k j : Nat) : Int32 := S.1 k j
def gl (S : St) (k j : Nat) : Int64 := S.2.1 k j
def gr (S : St) (k j : Nat) : Option Nat := S.2.2 k j
def si (S : St) (k j : Nat) (x : Int32) : St := (fun a b => if a = k ∧ b = j then x else S.1 a b, S.2)
def sl (S : St) (k j : Nat) (x : Int64) : St := (S.1, (fun a b => if a = k ∧ b = j then x else S.2.1 a b), S.2.2)
def sr (S : St) (k j : Nat) (x : Option Nat) : St := (S.1, S.2.1, fun a b => if a = k ∧ b = j then x else S.2.2 a b)
/-- a copy of n places of cell q, from sp on, into cell k, from dp on -/
def sc (S : St) (q k sp dp n : Nat) : St := ((fun a b => if a = k then va_cpy (S.1 q) (S.1 k) sp dp n b else S.1 a b), S.2)
theorem gi_si (S : St) (k j a b : Nat) (x : Int32) : gi (si S k j x) a b = if a = k ∧ b = j then x else gi S a b := rfl
theorem gi_sl (S : St) (k j a b : Nat) (x : Int64) : gi (sl S k j x) a b = gi S a b := rfl
theorem gi_sr (S : St) (k j a b : Nat) (x : Option Nat) : gi (sr S k j x) a b = gi S a b := rfl
theorem gl_si (S : St) (k j a b : Nat) (x : Int32) : gl (si S k j x) a b = gl S a b := rfl
theorem gl_sl (S : St) (k j a b : Nat) (x : Int64) : gl (sl S k j x) a b = if a = k ∧ b = j then x else gl S a b := rfl
theorem gl_sr (S : St) (k j a b : Nat) (x : Option Nat) : gl (sr S k j x) a b = gl S a b := rfl
theorem gr_si (S : St) (k j a b : Nat) (x : Int32) : gr (si S k j x) a b = gr S a b := rfl
theorem gr_sl (S : St) (k j a b : Nat) (x : Int64) : gr (sl S k j x) a b = gr S a b := rfl
theorem gr_sr (S : St) (k j a b : Nat) (x : Option Nat) : gr (sr S k j x) a b = if a = k ∧ b = j then x else gr S a b := rfl
theorem gi_sc (S : St) (q k sp dp n a b : Nat) : gi (sc S q k sp dp n) a b = if a = k then va_cpy (gi S q) (gi S k) sp dp n b else gi S a b := rfl
theorem gl_sc (S : St) (q k sp dp n a b : Nat) : gl (sc S q k sp dp n) a b = gl S a b := rfl
theorem gr_sc (S : St) (q k sp dp n a b : Nat) : gr (sc S q k sp dp n) a b = gr S a b := rfl
/-! ===== the pure words of a method: guards, calls, loops ===== -/
def og {α : Type} (c : Prop) [Decidable c] (a : Option α) : Option α := if c then a else none
theorem og_some {α : Type} {c : Prop} [Decidable c] {a : Option α} {r : α} (h : og c a = some r) : c ∧ a = some r := by
  unfold og at h
  split at h
  · exact ⟨by assumption, h⟩
  · cases h
def oi {α : Type} (c : Prop) [Decidable c] (a b : Option α) : Option α := if c then a else b
theorem oi_pos {α : Type} {c : Prop} [Decidable c] {a b : Option α} {r : Option α} (hc : c) (h : oi c a b = r) : a = r := by
  unfold oi at h; rwa [if_pos hc] at h
theorem oi_neg {α : Type} {c : Prop} [Decidable c] {a b : Option α} {r : Option α} (hc : ¬ c) (h : oi c a b = r) : b = r := by
  unfold oi at h; rwa [if_neg hc] at h
def ob {α β : Type} (a : Option (α × St)) (f : α → St → Option β) : Option β := match a with
  | none => none
  | some q => f q.1 q.2
theorem ob_some {α β : Type} {a : Option (α × St)} {f : α → St → Option β} {r : β} (h : ob a f = some r) : ∃ v S, a = some (v, S) ∧ f v S = some r := by
  cases a with
  | none => cases h
  | some q => exact ⟨q.1, q.2, rfl, h⟩
def os {α : Type} (a : Option Nat) (f : Nat → Option α) : Option α := match a with
  | none => none
  | some i => f i
theorem os_some {α : Type} {a : Option Nat} {f : Nat → Option α} {r : α} (h : os a f = some r) : ∃ i, a = some i ∧ f i = some r := by
  cases a with
  | none => cases h
  | some i => exact ⟨i, rfl, h⟩
def lpn {α β : Type} (body : α → St → Option ((α ⊕ β) × St)) : Nat → α → St → Option (β × St)
  | 0, _, _ => none
  | n + 1, a, S => match body a S with
    | none => none
    | some (.inl a', S') => lpn body n a' S'
    | some (.inr b, S') => some (b, S')
noncomputable def lp {α β : Type} (body : α → St → Option ((α ⊕ β) × St)) (a : α) (S : St) : Option (β × St) :=
  @dite _ (∃ n r, lpn body n a S = some r) (Classical.propDecidable _) (fun h => some (Classical.choose (Classical.choose_spec h))) (fun _ => none)
theorem lpn_mono {α β : Type} {body : α → St → Option ((α ⊕ β) × St)} : ∀ (n : Nat) {a : α} {S : St} {r : β × St}, lpn body n a S = some r → ∀ k, lpn body (n + k) a S = some r := by
  intro n
  induction n with
  | zero => intro a S r h; cases h
  | succ n ih =>
    intro a S r h k
    rw [show n + 1 + k = (n + k) + 1 by omega]
    unfold lpn at h ⊢
    cases hb : body a S with
    | none => rw [hb] at h; cases h
    | some q =>
      rw [hb] at h
      obtain ⟨q, S'⟩ := q
      cases q with
      | inl a' => exact ih h k
      | inr b => exact h
theorem lpn_det {α β : Type} {body : α → St → Option ((α ⊕ β) × St)} {n m : Nat} {a : α} {S : St} {r q : β × St} (h : lpn body n a S = some r) (h2 : lpn body m a S = some q) : r = q := by
  have h3 := lpn_mono n h m
  have h4 := lpn_mono m h2 n
  rw [Nat.add_comm] at h4
  exact Option.some.inj (h3.symm.trans h4)
theorem lp_of {α β : Type} {body : α → St → Option ((α ⊕ β) × St)} {n : Nat} {a : α} {S : St} {r : β × St} (h : lpn body n a S = some r) : lp body a S = some r := by
  have hx : ∃ n r, lpn body n a S = some r := ⟨n, r, h⟩
  unfold lp
  rw [dif_pos hx]
  exact congrArg some (lpn_det (Classical.choose_spec (Classical.choose_spec hx)) h)
theorem lp_some {α β : Type} {body : α → St → Option ((α ⊕ β) × St)} {a : α} {S : St} {r : β × St} (h : lp body a S = some r) : ∃ n, lpn body n a S = some r := by
  unfold lp at h
  split at h
  · rename_i hx
    cases h
    exact ⟨_, Classical.choose_spec (Classical.choose_spec hx)⟩
  · cases h
/-- one turn of a loop, goal first -/
theorem lp_go {α β : Type} {body : α → St → Option ((α ⊕ β) × St)} {a a' : α} {S S' : St} {r : β × St} (hb : body a S = some (.inl a', S')) (h : lp body a' S' = some r) : lp body a S = some r := by
  obtain ⟨n, hn⟩ := lp_some h
  exact lp_of (n := n + 1) (by unfold lpn; rw [hb]; exact hn)
theorem lp_end {α β : Type} {body : α → St → Option ((α ⊕ β) × St)} {a : α} {b : β} {S S' : St} (hb : body a S = some (.inr b, S')) : lp body a S = some (b, S') :=
  lp_of (n := 1) (by unfold lpn; rw [hb])
/-- a loop by an invariant and a measure -/
theorem lp_inv {α β : Type} {body : α → St → Option ((α ⊕ β) × St)} (I : Nat → α → St → Prop) (P : β → St → Prop)
    (hs : ∀ n a S, I n a S → (∃ b S', body a S = some (.inr b, S') ∧ P b S') ∨ (∃ a' S' n', body a S = some (.inl a', S') ∧ n' < n ∧ I n' a' S')) :
    ∀ n a S, I n a S → ∃ b S', lp body a S = some (b, S') ∧ P b S' := by
  intro n
  induction n using Nat.strongRecOn with
  | ind n ih =>
    intro a S h
    rcases hs n a S h with ⟨b, S', h1, h2⟩ | ⟨a', S', n', h1, h2, h3⟩
    · exact ⟨b, S', lp_end h1, h2⟩
    · obtain ⟨b, S2, h4, h5⟩ := ih n' h2 a' S' h3
      exact ⟨b, S2, lp_go h1 h4, h5⟩
/-- the machine's side of a loop -/
theorem lp_rule {α β : Type} {body : α → St → Option ((α ⊕ β) × St)} {Xh : α → St → Prop} {K : β → St → Prop}
    (hb : ∀ a S r S1, body a S = some (r, S1) → (match r with | .inl a' => Xh a' S1 | .inr b => K b S1) → Xh a S) {a : α} {S : St} {b : β} {S' : St} (h : lp body a S = some (b, S')) (hk : K b S') : Xh a S := by
  obtain ⟨n, hn⟩ := lp_some h
  clear h
  induction n generalizing a S with
  | zero => cases hn
  | succ n ih =>
    unfold lpn at hn
    cases hq : body a S with
    | none => rw [hq] at hn; cases hn
    | some q =>
      rw [hq] at hn
      obtain ⟨r, S1⟩ := q
      cases r with
      | inl a' => exact hb a S _ S1 hq (ih hn)
      | inr b' =>
        cases hn
        exact hb a S _ _ hq hk
end
section
abbrev vwCl : List vw_C := [(RX1, TX1, 3), (RX2, TX2, 5), (RX3, TX3, 9), (RX4, TX4, 5), (RX5, TX5, 9), (RX6, TX6, 5), (RX7, TX7, 8), (RX8, TX8, 31)]
/-! ===== the cells of the system, in a fixed order; their shapes; the world of a state ===== -/
/-- addresses of the cells, of the enum's constants; array classes (0 int, 1 long, 2 Recording, 3 Command); class numbers and slots -/
abbrev Ga : Type := (Nat → Nat) × (Nat → Nat) × (Nat → ClassId) × va_G
abbrev Ga.ad (G : Ga) : Nat → Nat := G.1
abbrev Ga.ec (G : Ga) : Nat → Nat := G.2.1
abbrev Ga.ca (G : Ga) : Nat → ClassId := G.2.2.1
abbrev Ga.D (G : Ga) : va_G := G.2.2.2
abbrev Shp : Type := (Nat × List (Nat × Nat)) ⊕ (Nat × Nat)
abbrev NC : Nat := 91
def shpL : List Shp := [.inl (6, [(2, 1), (2, 6), (2, 48), (2, 58), (2, 68), (2, 72), (2, 73), (2, 74)]),
  .inl (3, [(0, 0), (2, 2), (2, 3), (2, 4), (2, 5)]),
  .inr (0, 40),
  .inr (0, 40),
  .inr (0, 40),
  .inr (0, 14),
  .inl (0, [(2, 7), (0, 0), (0, 0)]),
  .inr (2, 8),
  .inl (3, [(0, 0), (2, 9), (2, 10), (2, 11), (2, 12)]),
  .inr (0, 40),
  .inr (0, 40),
  .inr (0, 40),
  .inr (0, 14),
  .inl (3, [(0, 0), (2, 14), (2, 15), (2, 16), (2, 17)]),
  .inr (0, 40),
  .inr (0, 40),
  .inr (0, 40),
  .inr (0, 14),
  .inl (3, [(0, 0), (2, 19), (2, 20), (2, 21), (2, 22)]),
  .inr (0, 40),
  .inr (0, 40),
  .inr (0, 40),
  .inr (0, 14),
  .inl (3, [(0, 0), (2, 24), (2, 25), (2, 26), (2, 27)]),
  .inr (0, 40),
  .inr (0, 40),
  .inr (0, 40),
  .inr (0, 14),
  .inl (3, [(0, 0), (2, 29), (2, 30), (2, 31), (2, 32)]),
  .inr (0, 40),
  .inr (0, 40),
  .inr (0, 40),
  .inr (0, 14),
  .inl (3, [(0, 0), (2, 34), (2, 35), (2, 36), (2, 37)]),
  .inr (0, 40),
  .inr (0, 40),
  .inr (0, 40),
  .inr (0, 14),
  .inl (3, [(0, 0), (2, 39), (2, 40), (2, 41), (2, 42)]),
  .inr (0, 40),
  .inr (0, 40),
  .inr (0, 40),
  .inr (0, 14),
  .inl (3, [(0, 0), (2, 44), (2, 45), (2, 46), (2, 47)]),
  .inr (0, 40),
  .inr (0, 40),
  .inr (0, 40),
  .inr (0, 14),
  .inl (4, [(2, 1), (2, 49), (2, 54), (2, 57), (0, 0), (0, 0), (0, 0), (0, 0), (0, 0)]),
  .inl (2, [(0, 0), (0, 0), (2, 50), (0, 0), (2, 51), (0, 0), (0, 0), (2, 52), (2, 53)]),
  .inr (0, 40),
  .inr (0, 40),
  .inr (0, 40),
  .inr (0, 40),
  .inl (1, [(0, 0), (2, 55), (2, 56), (0, 0), (0, 0)]),
  .inr (0, 40),
  .inr (0, 40),
  .inr (0, 6),
  .inl (4, [(2, 1), (2, 59), (2, 64), (2, 67), (0, 0), (0, 0), (0, 0), (0, 0), (0, 0)]),
  .inl (2, [(0, 0), (0, 0), (2, 60), (0, 0), (2, 61), (0, 0), (0, 0), (2, 62), (2, 63)]),
  .inr (0, 40),
  .inr (0, 40),
  .inr (0, 40),
  .inr (0, 40),
  .inl (1, [(0, 0), (2, 65), (2, 66), (0, 0), (0, 0)]),
  .inr (0, 40),
  .inr (0, 40),
  .inr (0, 6),
  .inl (5, [(2, 69), (0, 0), (2, 70), (2, 71), (0, 0)]),
  .inr (0, 120),
  .inr (3, 120),
  .inr (0, 360),
  .inr (0, 64),
  .inr (0, 6),
  .inr (0, 6),
  .inl (7, [(2, 76), (2, 77), (0, 0), (0, 0), (2, 78), (2, 79), (0, 0), (2, 80), (0, 0), (2, 81), (0, 0), (2, 82), (0, 0), (0, 0), (0, 0), (0, 0), (0, 0), (2, 83), (0, 0), (2, 84), (0, 0), (2, 85), (2, 86), (2, 87), (1, 0), (0, 0), (2, 88), (0, 0), (0, 0), (0, 0), (2, 89)]),
  .inr (0, 135),
  .inr (0, 1080),
  .inr (0, 40),
  .inr (0, 40),
  .inr (0, 4700),
  .inr (0, 41),
  .inr (0, 40),
  .inr (0, 40),
  .inr (0, 40),
  .inr (0, 4700),
  .inr (0, 64),
  .inr (0, 6),
  .inr (0, 120),
  .inr (0, 240),
  .inr (1, 1)]
def shp (k : Nat) : Shp := shpL.getD k (.inr (0, 0))
def fv (G : Ga) (S : St) (k : Nat) : Nat → List (Nat × Nat) → List Value
  | _, [] => []
  | j, q :: t => (if q.1 = 0 then Value.int (gi S k j) else if q.1 = 1 then Value.long (gl S k j) else Value.ref (G.ad q.2)) :: fv G S k (j + 1) t
def av (G : Ga) (S : St) (k : Nat) (q : Nat × Nat) : vp_A := (q.2, if q.1 = 0 then .inl (gi S k) else if q.1 = 1 then .inr (.inl (gl S k)) else if q.1 = 2 then .inr (.inr (.inr (.inr fun j => some (G.ad (8 + 5 * j))))) else .inr (.inr (.inr (.inr fun j => (gr S k j).map G.ec))))
def cel (G : Ga) (S : St) (k : Nat) : va_E := match shp k with
  | .inl o => .inr (o.1, fv G S k 0 o.2)
  | .inr a => .inl (G.ca a.1, av G S k a)
def wd (G : Ga) (S : St) : va_W := (List.range NC).map fun k => (G.ad k, cel G S k)
theorem wd_get {G : Ga} {S : St} {k : Nat} (h : k < NC) : (wd G S)[k]? = some (G.ad k, cel G S k) := by
  simp [wd, h]
theorem wd_in {G : Ga} {S : St} {k : Nat} {q : Nat × va_E} (h : (wd G S)[k]? = some q) : k < NC ∧ q = (G.ad k, cel G S k) := by
  have hk : k < NC := by
    have := (List.getElem?_eq_some_iff.mp h).1
    simpa [wd] using this
  rw [wd_get hk] at h
  exact ⟨hk, (Option.some.inj h).symm⟩
theorem wd_set {G : Ga} {S S' : St} {k : Nat} (h : k < NC) (hne : ∀ j, j ≠ k → cel G S' j = cel G S j) : (wd G S).set k (G.ad k, cel G S' k) = wd G S' := by
  apply List.ext_getElem?
  intro j
  by_cases hj : j < NC
  · rw [wd_get hj]
    by_cases hjk : j = k
    · subst hjk
      rw [List.getElem?_set_self (by simpa [wd] using h)]
    · rw [List.getElem?_set_ne (fun e => hjk e.symm), wd_get hj, hne j hjk]
  · rw [List.getElem?_eq_none (by simp [wd]; omega), List.getElem?_eq_none (by simp [wd]; omega)]
theorem wd_D {G : Ga} {S S' : St} {A : Nat → Prop} (h : va_D A (wd G S)) : va_D A (wd G S') := by
  refine ⟨fun i j p q hp hq e => ?_, fun k q hq => ?_⟩
  · obtain ⟨a1, rfl⟩ := wd_in hp
    obtain ⟨a2, rfl⟩ := wd_in hq
    exact h.1 i j _ _ (wd_get a1) (wd_get a2) e
  · obtain ⟨a1, rfl⟩ := wd_in hq
    exact h.2 k (G.ad k, cel G S k) (wd_get a1)
theorem wd_A {G : Ga} {S S' : St} {sz : Nat} : va_A (wd G S) sz = va_A (wd G S') sz := by
  funext q
  apply propext
  constructor
  · rintro (⟨k, e, h⟩ | h)
    · obtain ⟨a1, a2⟩ := wd_in h
      cases a2
      exact Or.inl ⟨k, _, wd_get a1⟩
    · exact Or.inr h
  · rintro (⟨k, e, h⟩ | h)
    · obtain ⟨a1, a2⟩ := wd_in h
      cases a2
      exact Or.inl ⟨k, _, wd_get a1⟩
    · exact Or.inr h
theorem fv_get {G : Ga} {S : St} {k : Nat} : ∀ (fl : List (Nat × Nat)) (j0 j : Nat) (q : Nat × Nat), fl[j]? = some q → (fv G S k j0 fl)[j]? = some (if q.1 = 0 then Value.int (gi S k (j0 + j)) else if q.1 = 1 then Value.long (gl S k (j0 + j)) else Value.ref (G.ad q.2)) := by
  intro fl
  induction fl with
  | nil => intro j0 j q h; simp at h
  | cons a t ih =>
    intro j0 j q h
    cases j with
    | zero => simp at h; subst h; rfl
    | succ j =>
      have := ih (j0 + 1) j q (by simpa using h)
      rw [show j0 + (j + 1) = j0 + 1 + j by omega]
      simpa [fv] using this
theorem fv_len {G : Ga} {S : St} {k : Nat} : ∀ (fl : List (Nat × Nat)) (j0 : Nat), (fv G S k j0 fl).length = fl.length := by
  intro fl
  induction fl with
  | nil => intro j0; rfl
  | cons a t ih => intro j0; simp [fv, ih]
theorem fv_ext {G : Ga} {S S' : St} {k : Nat} : ∀ (fl : List (Nat × Nat)) (j0 : Nat), (∀ j, gi S' k j = gi S k j) → (∀ j, gl S' k j = gl S k j) → fv G S' k j0 fl = fv G S k j0 fl := by
  intro fl
  induction fl with
  | nil => intro j0 _ _; rfl
  | cons a t ih => intro j0 h1 h2; simp only [fv]; rw [ih (j0 + 1) h1 h2, h1, h2]
theorem fv_si {G : Ga} {S : St} {k : Nat} {x : Int32} : ∀ (fl : List (Nat × Nat)) (j0 j : Nat) (t : Nat), fl[j]? = some (0, t) → fv G (si S k (j0 + j) x) k j0 fl = (fv G S k j0 fl).set j (Value.int x) := by
  intro fl
  induction fl with
  | nil => intro j0 j t h; simp at h
  | cons a t ih =>
    intro j0 j u h
    cases j with
    | zero =>
      simp at h
      subst h
      have e : ∀ (fl : List (Nat × Nat)) (j1 : Nat), j0 < j1 → fv G (si S k j0 x) k j1 fl = fv G S k j1 fl := by
        intro fl
        induction fl with
        | nil => intro j1 _; rfl
        | cons b r ih2 => intro j1 h1; simp only [fv]; rw [ih2 (j1 + 1) (by omega), show gi (si S k j0 x) k j1 = gi S k j1 from by rw [gi_si, if_neg (by omega)], gl_si]
      simp only [fv, Nat.add_zero, List.set_cons_zero, if_true]
      rw [e t (j0 + 1) (by omega), show gi (si S k j0 x) k j0 = x from by rw [gi_si, if_pos ⟨rfl, rfl⟩]]
    | succ j =>
      have := ih (j0 + 1) j u (by simpa using h)
      rw [show j0 + (j + 1) = j0 + 1 + j by omega]
      simp only [fv, List.set_cons_succ]
      rw [this, show gi (si S k (j0 + 1 + j) x) k j0 = gi S k j0 from by rw [gi_si, if_neg (by omega)], gl_si]
theorem fv_sl {G : Ga} {S : St} {k : Nat} {x : Int64} : ∀ (fl : List (Nat × Nat)) (j0 j : Nat) (t : Nat), fl[j]? = some (1, t) → fv G (sl S k (j0 + j) x) k j0 fl = (fv G S k j0 fl).set j (Value.long x) := by
  intro fl
  induction fl with
  | nil => intro j0 j t h; simp at h
  | cons a t ih =>
    intro j0 j u h
    cases j with
    | zero =>
      simp at h
      subst h
      have e : ∀ (fl : List (Nat × Nat)) (j1 : Nat), j0 < j1 → fv G (sl S k j0 x) k j1 fl = fv G S k j1 fl := by
        intro fl
        induction fl with
        | nil => intro j1 _; rfl
        | cons b r ih2 => intro j1 h1; simp only [fv]; rw [ih2 (j1 + 1) (by omega), show gl (sl S k j0 x) k j1 = gl S k j1 from by rw [gl_sl, if_neg (by omega)], gi_sl]
      simp only [fv, Nat.add_zero, List.set_cons_zero]
      rw [e t (j0 + 1) (by omega), show gl (sl S k j0 x) k j0 = x from by rw [gl_sl, if_pos ⟨rfl, rfl⟩], gi_sl]
      rfl
    | succ j =>
      have := ih (j0 + 1) j u (by simpa using h)
      rw [show j0 + (j + 1) = j0 + 1 + j by omega]
      simp only [fv, List.set_cons_succ]
      rw [this, show gl (sl S k (j0 + 1 + j) x) k j0 = gl S k j0 from by rw [gl_sl, if_neg (by omega)], gi_sl]
theorem cel_ne {G : Ga} {S S' : St} {j : Nat} (h1 : ∀ b, gi S' j b = gi S j b) (h2 : ∀ b, gl S' j b = gl S j b) (h3 : ∀ b, gr S' j b = gr S j b) : cel G S' j = cel G S j := by
  unfold cel
  cases shp j with
  | inl o => simp only; rw [fv_ext o.2 0 h1 h2]
  | inr a =>
    have e1 : gi S' j = gi S j := funext h1
    have e2 : gl S' j = gl S j := funext h2
    simp only [av, e1, e2, h3]
theorem cel_o {G : Ga} {S : St} {k ci : Nat} {fl : List (Nat × Nat)} (h : shp k = .inl (ci, fl)) : cel G S k = .inr (ci, fv G S k 0 fl) := by unfold cel; rw [h]
theorem cel_a {G : Ga} {S : St} {k ty n : Nat} (h : shp k = .inr (ty, n)) : cel G S k = .inl (G.ca ty, av G S k (ty, n)) := by unfold cel; rw [h]
/-! ===== the judgement: from here the frame comes to its end with Q ===== -/
def tbG : List Cond := lw_tbl.filter goodWord
/-- what the tables and the cells outside the world say, at a state and a heap -/
def En (G : Ga) (A : Nat → Prop) (U : State) (H : Heap) : Prop := va_K G.D vwCl [(G.ca 0, .int), (G.ca 1, .long), (G.ca 2, .object "QueueBlame$Recording"), (G.ca 3, .object "QueueBlame$Command")] U
theorem En.moved {G : Ga} {A : Nat → Prop} {u U : State} {H : Heap} (hW : u.WarmedH U.vm) (h : En G A u H) : En G A U H := va_K.moved hW.alike h
theorem En.blind {G : Ga} {A : Nat → Prop} {U U' : State} {H : Heap} (hvm : U'.vm = U.vm) (h : En G A U H) : En G A U' H := va_K.moved (by rw [hvm]; exact Vm.Alike.refl _) h
theorem En.sub {G : Ga} {A B : Nat → Prop} {U : State} {H : Heap} (hAB : ∀ q, B q → A q) (h : En G A U H) : En G B U H := h
theorem En.kept {G : Ga} {A : Nat → Prop} {U : State} {H H1 : Heap} (hq : ∀ q : Nat, q < H.size → ¬ A q → H1[q]? = H[q]?) (h : En G A U H) : En G A U H1 := h
abbrev Cx : Type := Program × Launch × Env × Room × State × MethodId × Array Value × List Frame × Method × Code × (Nat → Prop) × Ga × (State → Prop)
def Ok (F : Cx) (cc : ByteArray) (own : String) : Prop := match F with
  | (p, l, _, _, s, m, args, _, meth, c, A, G, _) => p.tables.exec = Jvm.exec ∧ c.code = cc ∧ s.vm.findClass own = some m.cls ∧ (∀ w ∈ tbG, w.before args s = true) ∧ En G A s s.heap ∧ (∀ q, s.heap.size ≤ q → A q) ∧ meth.locks = false ∧ l.stackTraces = false
def RmF (F : Cx) (d u : Nat) : Prop := F.2.2.2.1 = ({ frames := d, cells := u, slots := 8 * u, locals := 40 * d } : Room)
def X (F : Cx) (u pc : Nat) (ls : List (Nat × Value)) (st : List Value) (S : St) : Prop := match F with
  | (p, l, e, R, s, m, args, below, meth, c, A, G, Q) => ∀ (H : Heap) (locs : List Loc) (la : Array Slot), va_P G.D vwCl (wd G S) H → va_D A (wd G S) → va_S A s.heap H locs → lv_has la c.maxLocals ls → W p l e R s m args below meth c H locs u (8 * u) Q (F0 m pc la st)
/-! locals by their places -/
def lgt : List (Nat × Value) → Nat → Option Value
  | [], _ => none
  | q :: t, i => if q.1 = i then some q.2 else lgt t i
theorem lgt_mem : ∀ {ls : List (Nat × Value)} {i : Nat} {v : Value}, lgt ls i = some v → (i, v) ∈ ls := by
  intro ls
  induction ls with
  | nil => intro i v h; cases h
  | cons q t ih =>
    intro i v h
    unfold lgt at h
    split at h
    · cases h
      rename_i e
      subst e
      exact List.mem_cons_self
    · exact List.mem_cons_of_mem _ (ih h)
theorem lv_g {la : Array Slot} {nL : Nat} {ls : List (Nat × Value)} (h : lv_has la nL ls) {i : Nat} {v : Value} (hk : lgt ls i = some v) : la[i]? = some (.val v) := h.2.2 (i, v) (lgt_mem hk)
def ls1 (ls : List (Nat × Value)) (i : Nat) (v : Value) : List (Nat × Value) := (i, v) :: ls.filter (fun q => !(q.1 == i) && !(q.1 + 1 == i && q.2.category == 2))
def ls2 (ls : List (Nat × Value)) (i : Nat) (v : Value) : List (Nat × Value) := (i, v) :: ls.filter (fun q => !(q.1 == i) && (!(q.1 == i + 1) && !(q.1 + 1 == i && q.2.category == 2)))
def lsb : List (Nat × Value) → List (Nat × Value) → Prop
  | [], _ => True
  | q :: t, ls => lgt ls q.1 = some q.2 ∧ lsb t ls
theorem lsb_has {la : Array Slot} {nL : Nat} {ls : List (Nat × Value)} : ∀ {ls' : List (Nat × Value)}, lsb ls' ls → lv_has la nL ls → lv_has la nL ls' := by
  intro ls' h hl
  refine ⟨hl.1, hl.2.1, ?_⟩
  induction ls' with
  | nil => intro q h; cases h
  | cons a t ih =>
    intro q hq
    rcases List.mem_cons.mp hq with rfl | hq
    · exact lv_g hl h.1
    · exact ih h.2 q hq
theorem x_sub {F : Cx} {u pc : Nat} {ls ls' : List (Nat × Value)} {st : List Value} {S : St} (k : X F u pc ls' st S) (h : lsb ls' ls) : X F u pc ls st S := by
  obtain ⟨p, l, e, R, s, m, args, below, meth, c, A, G, Q⟩ := F
  exact fun H locs la hP hD hS hl => k H locs la hP hD hS (lsb_has h hl)

theorem x_iconst {F : Cx} {u pc : Nat} {ls : List (Nat × Value)} {rest : List Value} {S : St} {cc : ByteArray} {own : String} {n : Int} {v : Int32} (hF : Ok F cc own) (hd : decode cc pc = .ok (.iconst n, 1)) (hv : Int32.ofInt n = v) (k : X F u (pc + 1) ls (.int v :: rest) S) : X F u pc ls (rest) S := by
  obtain ⟨p, l, e, R, s, m, args, below, meth, c, A, G, Q⟩ := F
  intro H locs la hP hD hS hl
  exact lv_iconst hF.1 hF.2.1 hd hv (k H locs la hP hD hS hl)
theorem x_bipush {F : Cx} {u pc : Nat} {ls : List (Nat × Value)} {rest : List Value} {S : St} {cc : ByteArray} {own : String} {n : Int} {v : Int32} (hF : Ok F cc own) (hd : decode cc pc = .ok (.bipush n, 2)) (hv : (Int8.ofInt n).toInt32 = v) (k : X F u (pc + 2) ls (.int v :: rest) S) : X F u pc ls (rest) S := by
  obtain ⟨p, l, e, R, s, m, args, below, meth, c, A, G, Q⟩ := F
  intro H locs la hP hD hS hl
  exact lv_bipush hF.1 hF.2.1 hd hv (k H locs la hP hD hS hl)
theorem x_sipush {F : Cx} {u pc : Nat} {ls : List (Nat × Value)} {rest : List Value} {S : St} {cc : ByteArray} {own : String} {n : Int} {v : Int32} (hF : Ok F cc own) (hd : decode cc pc = .ok (.sipush n, 3)) (hv : (Int16.ofInt n).toInt32 = v) (k : X F u (pc + 3) ls (.int v :: rest) S) : X F u pc ls (rest) S := by
  obtain ⟨p, l, e, R, s, m, args, below, meth, c, A, G, Q⟩ := F
  intro H locs la hP hD hS hl
  exact lv_sipush hF.1 hF.2.1 hd hv (k H locs la hP hD hS hl)
theorem x_lconst {F : Cx} {u pc : Nat} {ls : List (Nat × Value)} {rest : List Value} {S : St} {cc : ByteArray} {own : String} {n : Fin 2} {v : Int64} (hF : Ok F cc own) (hd : decode cc pc = .ok (.lconst n, 1)) (hv : Int64.ofNat (n : Nat) = v) (k : X F u (pc + 1) ls (.long v :: rest) S) : X F u pc ls (rest) S := by
  obtain ⟨p, l, e, R, s, m, args, below, meth, c, A, G, Q⟩ := F
  intro H locs la hP hD hS hl
  exact lv_lconst hF.1 hF.2.1 hd hv (k H locs la hP hD hS hl)
theorem x_iadd {F : Cx} {u pc : Nat} {ls : List (Nat × Value)} {rest : List Value} {S : St} {cc : ByteArray} {own : String} {x y : Int32} (hF : Ok F cc own) (hd : decode cc pc = .ok (.iadd, 1))  (k : X F u (pc + 1) ls (.int (x + y) :: rest) S) : X F u pc ls (.int y :: .int x :: rest) S := by
  obtain ⟨p, l, e, R, s, m, args, below, meth, c, A, G, Q⟩ := F
  intro H locs la hP hD hS hl
  exact lv_iadd hF.1 hF.2.1 hd  (k H locs la hP hD hS hl)
theorem x_isub {F : Cx} {u pc : Nat} {ls : List (Nat × Value)} {rest : List Value} {S : St} {cc : ByteArray} {own : String} {x y : Int32} (hF : Ok F cc own) (hd : decode cc pc = .ok (.isub, 1))  (k : X F u (pc + 1) ls (.int (x - y) :: rest) S) : X F u pc ls (.int y :: .int x :: rest) S := by
  obtain ⟨p, l, e, R, s, m, args, below, meth, c, A, G, Q⟩ := F
  intro H locs la hP hD hS hl
  exact lv_isub hF.1 hF.2.1 hd  (k H locs la hP hD hS hl)
theorem x_imul {F : Cx} {u pc : Nat} {ls : List (Nat × Value)} {rest : List Value} {S : St} {cc : ByteArray} {own : String} {x y : Int32} (hF : Ok F cc own) (hd : decode cc pc = .ok (.imul, 1))  (k : X F u (pc + 1) ls (.int (x * y) :: rest) S) : X F u pc ls (.int y :: .int x :: rest) S := by
  obtain ⟨p, l, e, R, s, m, args, below, meth, c, A, G, Q⟩ := F
  intro H locs la hP hD hS hl
  exact lv_imul hF.1 hF.2.1 hd  (k H locs la hP hD hS hl)
theorem x_iand {F : Cx} {u pc : Nat} {ls : List (Nat × Value)} {rest : List Value} {S : St} {cc : ByteArray} {own : String} {x y : Int32} (hF : Ok F cc own) (hd : decode cc pc = .ok (.iand, 1))  (k : X F u (pc + 1) ls (.int (x &&& y) :: rest) S) : X F u pc ls (.int y :: .int x :: rest) S := by
  obtain ⟨p, l, e, R, s, m, args, below, meth, c, A, G, Q⟩ := F
  intro H locs la hP hD hS hl
  exact lv_iand hF.1 hF.2.1 hd  (k H locs la hP hD hS hl)
theorem x_ior {F : Cx} {u pc : Nat} {ls : List (Nat × Value)} {rest : List Value} {S : St} {cc : ByteArray} {own : String} {x y : Int32} (hF : Ok F cc own) (hd : decode cc pc = .ok (.ior, 1))  (k : X F u (pc + 1) ls (.int (x ||| y) :: rest) S) : X F u pc ls (.int y :: .int x :: rest) S := by
  obtain ⟨p, l, e, R, s, m, args, below, meth, c, A, G, Q⟩ := F
  intro H locs la hP hD hS hl
  exact lv_ior hF.1 hF.2.1 hd  (k H locs la hP hD hS hl)
theorem x_ixor {F : Cx} {u pc : Nat} {ls : List (Nat × Value)} {rest : List Value} {S : St} {cc : ByteArray} {own : String} {x y : Int32} (hF : Ok F cc own) (hd : decode cc pc = .ok (.ixor, 1))  (k : X F u (pc + 1) ls (.int (x ^^^ y) :: rest) S) : X F u pc ls (.int y :: .int x :: rest) S := by
  obtain ⟨p, l, e, R, s, m, args, below, meth, c, A, G, Q⟩ := F
  intro H locs la hP hD hS hl
  exact lv_ixor hF.1 hF.2.1 hd  (k H locs la hP hD hS hl)
theorem x_ishl {F : Cx} {u pc : Nat} {ls : List (Nat × Value)} {rest : List Value} {S : St} {cc : ByteArray} {own : String} {x y : Int32} (hF : Ok F cc own) (hd : decode cc pc = .ok (.ishl, 1))  (k : X F u (pc + 1) ls (.int (x <<< (y &&& 31)) :: rest) S) : X F u pc ls (.int y :: .int x :: rest) S := by
  obtain ⟨p, l, e, R, s, m, args, below, meth, c, A, G, Q⟩ := F
  intro H locs la hP hD hS hl
  exact lv_ishl hF.1 hF.2.1 hd  (k H locs la hP hD hS hl)
theorem x_ishr {F : Cx} {u pc : Nat} {ls : List (Nat × Value)} {rest : List Value} {S : St} {cc : ByteArray} {own : String} {x y : Int32} (hF : Ok F cc own) (hd : decode cc pc = .ok (.ishr, 1))  (k : X F u (pc + 1) ls (.int (x >>> (y &&& 31)) :: rest) S) : X F u pc ls (.int y :: .int x :: rest) S := by
  obtain ⟨p, l, e, R, s, m, args, below, meth, c, A, G, Q⟩ := F
  intro H locs la hP hD hS hl
  exact lv_ishr hF.1 hF.2.1 hd  (k H locs la hP hD hS hl)
theorem x_iushr {F : Cx} {u pc : Nat} {ls : List (Nat × Value)} {rest : List Value} {S : St} {cc : ByteArray} {own : String} {x y : Int32} (hF : Ok F cc own) (hd : decode cc pc = .ok (.iushr, 1))  (k : X F u (pc + 1) ls (.int (x.toUInt32 >>> (y.toUInt32 &&& Int32.toUInt32 31)).toInt32 :: rest) S) : X F u pc ls (.int y :: .int x :: rest) S := by
  obtain ⟨p, l, e, R, s, m, args, below, meth, c, A, G, Q⟩ := F
  intro H locs la hP hD hS hl
  exact lv_iushr hF.1 hF.2.1 hd rfl (k H locs la hP hD hS hl)
theorem x_idiv {F : Cx} {u pc : Nat} {ls : List (Nat × Value)} {rest : List Value} {S : St} {cc : ByteArray} {own : String} {x y : Int32} (hF : Ok F cc own) (hd : decode cc pc = .ok (.idiv, 1)) (hne : ¬ y = 0) (k : X F u (pc + 1) ls (.int (x / y) :: rest) S) : X F u pc ls (.int y :: .int x :: rest) S := by
  obtain ⟨p, l, e, R, s, m, args, below, meth, c, A, G, Q⟩ := F
  intro H locs la hP hD hS hl
  exact lv_idiv hF.1 hF.2.1 hd hne (k H locs la hP hD hS hl)
theorem x_irem {F : Cx} {u pc : Nat} {ls : List (Nat × Value)} {rest : List Value} {S : St} {cc : ByteArray} {own : String} {x y : Int32} (hF : Ok F cc own) (hd : decode cc pc = .ok (.irem, 1)) (hne : ¬ y = 0) (k : X F u (pc + 1) ls (.int (x - x / y * y) :: rest) S) : X F u pc ls (.int y :: .int x :: rest) S := by
  obtain ⟨p, l, e, R, s, m, args, below, meth, c, A, G, Q⟩ := F
  intro H locs la hP hD hS hl
  exact lv_irem hF.1 hF.2.1 hd hne (k H locs la hP hD hS hl)
theorem x_ineg {F : Cx} {u pc : Nat} {ls : List (Nat × Value)} {rest : List Value} {S : St} {cc : ByteArray} {own : String} {x : Int32} (hF : Ok F cc own) (hd : decode cc pc = .ok (.ineg, 1))  (k : X F u (pc + 1) ls (.int (-x) :: rest) S) : X F u pc ls (.int x :: rest) S := by
  obtain ⟨p, l, e, R, s, m, args, below, meth, c, A, G, Q⟩ := F
  intro H locs la hP hD hS hl
  exact lv_ineg hF.1 hF.2.1 hd  (k H locs la hP hD hS hl)
theorem x_i2l {F : Cx} {u pc : Nat} {ls : List (Nat × Value)} {rest : List Value} {S : St} {cc : ByteArray} {own : String} {x : Int32} (hF : Ok F cc own) (hd : decode cc pc = .ok (.i2l, 1))  (k : X F u (pc + 1) ls (.long x.toInt64 :: rest) S) : X F u pc ls (.int x :: rest) S := by
  obtain ⟨p, l, e, R, s, m, args, below, meth, c, A, G, Q⟩ := F
  intro H locs la hP hD hS hl
  exact lv_i2l hF.1 hF.2.1 hd rfl (k H locs la hP hD hS hl)
theorem x_l2i {F : Cx} {u pc : Nat} {ls : List (Nat × Value)} {rest : List Value} {S : St} {cc : ByteArray} {own : String} {x : Int64} (hF : Ok F cc own) (hd : decode cc pc = .ok (.l2i, 1))  (k : X F u (pc + 1) ls (.int x.toInt32 :: rest) S) : X F u pc ls (.long x :: rest) S := by
  obtain ⟨p, l, e, R, s, m, args, below, meth, c, A, G, Q⟩ := F
  intro H locs la hP hD hS hl
  exact lv_l2i hF.1 hF.2.1 hd rfl (k H locs la hP hD hS hl)
theorem x_ladd {F : Cx} {u pc : Nat} {ls : List (Nat × Value)} {rest : List Value} {S : St} {cc : ByteArray} {own : String} {x y : Int64} (hF : Ok F cc own) (hd : decode cc pc = .ok (.ladd, 1))  (k : X F u (pc + 1) ls (.long (x + y) :: rest) S) : X F u pc ls (.long y :: .long x :: rest) S := by
  obtain ⟨p, l, e, R, s, m, args, below, meth, c, A, G, Q⟩ := F
  intro H locs la hP hD hS hl
  exact lv_ladd hF.1 hF.2.1 hd  (k H locs la hP hD hS hl)
theorem x_lsub {F : Cx} {u pc : Nat} {ls : List (Nat × Value)} {rest : List Value} {S : St} {cc : ByteArray} {own : String} {x y : Int64} (hF : Ok F cc own) (hd : decode cc pc = .ok (.lsub, 1))  (k : X F u (pc + 1) ls (.long (x - y) :: rest) S) : X F u pc ls (.long y :: .long x :: rest) S := by
  obtain ⟨p, l, e, R, s, m, args, below, meth, c, A, G, Q⟩ := F
  intro H locs la hP hD hS hl
  exact lv_lsub hF.1 hF.2.1 hd  (k H locs la hP hD hS hl)
theorem x_lmul {F : Cx} {u pc : Nat} {ls : List (Nat × Value)} {rest : List Value} {S : St} {cc : ByteArray} {own : String} {x y : Int64} (hF : Ok F cc own) (hd : decode cc pc = .ok (.lmul, 1))  (k : X F u (pc + 1) ls (.long (x * y) :: rest) S) : X F u pc ls (.long y :: .long x :: rest) S := by
  obtain ⟨p, l, e, R, s, m, args, below, meth, c, A, G, Q⟩ := F
  intro H locs la hP hD hS hl
  exact lv_lmul hF.1 hF.2.1 hd  (k H locs la hP hD hS hl)
theorem x_land {F : Cx} {u pc : Nat} {ls : List (Nat × Value)} {rest : List Value} {S : St} {cc : ByteArray} {own : String} {x y : Int64} (hF : Ok F cc own) (hd : decode cc pc = .ok (.land, 1))  (k : X F u (pc + 1) ls (.long (x &&& y) :: rest) S) : X F u pc ls (.long y :: .long x :: rest) S := by
  obtain ⟨p, l, e, R, s, m, args, below, meth, c, A, G, Q⟩ := F
  intro H locs la hP hD hS hl
  exact lv_land hF.1 hF.2.1 hd  (k H locs la hP hD hS hl)
theorem x_lneg {F : Cx} {u pc : Nat} {ls : List (Nat × Value)} {rest : List Value} {S : St} {cc : ByteArray} {own : String} {x : Int64} (hF : Ok F cc own) (hd : decode cc pc = .ok (.lneg, 1))  (k : X F u (pc + 1) ls (.long (-x) :: rest) S) : X F u pc ls (.long x :: rest) S := by
  obtain ⟨p, l, e, R, s, m, args, below, meth, c, A, G, Q⟩ := F
  intro H locs la hP hD hS hl
  exact lv_lneg hF.1 hF.2.1 hd  (k H locs la hP hD hS hl)
theorem x_ldiv {F : Cx} {u pc : Nat} {ls : List (Nat × Value)} {rest : List Value} {S : St} {cc : ByteArray} {own : String} {x y : Int64} (hF : Ok F cc own) (hd : decode cc pc = .ok (.ldiv, 1)) (hne : ¬ y = 0) (k : X F u (pc + 1) ls (.long (x / y) :: rest) S) : X F u pc ls (.long y :: .long x :: rest) S := by
  obtain ⟨p, l, e, R, s, m, args, below, meth, c, A, G, Q⟩ := F
  intro H locs la hP hD hS hl
  exact lv_ldiv hF.1 hF.2.1 hd hne (k H locs la hP hD hS hl)
theorem x_lrem {F : Cx} {u pc : Nat} {ls : List (Nat × Value)} {rest : List Value} {S : St} {cc : ByteArray} {own : String} {x y : Int64} (hF : Ok F cc own) (hd : decode cc pc = .ok (.lrem, 1)) (hne : ¬ y = 0) (k : X F u (pc + 1) ls (.long (x - x / y * y) :: rest) S) : X F u pc ls (.long y :: .long x :: rest) S := by
  obtain ⟨p, l, e, R, s, m, args, below, meth, c, A, G, Q⟩ := F
  intro H locs la hP hD hS hl
  exact lv_lrem hF.1 hF.2.1 hd hne (k H locs la hP hD hS hl)
theorem x_lshr {F : Cx} {u pc : Nat} {ls : List (Nat × Value)} {rest : List Value} {S : St} {cc : ByteArray} {own : String} {x : Int64} {y : Int32} (hF : Ok F cc own) (hd : decode cc pc = .ok (.lshr, 1))  (k : X F u (pc + 1) ls (.long (x >>> (y.toInt64 &&& 63)) :: rest) S) : X F u pc ls (.int y :: .long x :: rest) S := by
  obtain ⟨p, l, e, R, s, m, args, below, meth, c, A, G, Q⟩ := F
  intro H locs la hP hD hS hl
  exact lv_lshr hF.1 hF.2.1 hd rfl (k H locs la hP hD hS hl)
theorem x_lcmp {F : Cx} {u pc : Nat} {ls : List (Nat × Value)} {rest : List Value} {S : St} {cc : ByteArray} {own : String} {x y : Int64} (hF : Ok F cc own) (hd : decode cc pc = .ok (.lcmp, 1))  (k : X F u (pc + 1) ls (.int (lg_cmp x y) :: rest) S) : X F u pc ls (.long y :: .long x :: rest) S := by
  obtain ⟨p, l, e, R, s, m, args, below, meth, c, A, G, Q⟩ := F
  intro H locs la hP hD hS hl
  exact W.lcmp hF.1 hF.2.1 hd  (k H locs la hP hD hS hl)
theorem x_dup {F : Cx} {u pc : Nat} {ls : List (Nat × Value)} {rest : List Value} {S : St} {cc : ByteArray} {own : String} {va : Value} (hF : Ok F cc own) (hd : decode cc pc = .ok (.dup, 1)) (hva : va.category = 1) (k : X F u (pc + 1) ls (va :: va :: rest) S) : X F u pc ls (va :: rest) S := by
  obtain ⟨p, l, e, R, s, m, args, below, meth, c, A, G, Q⟩ := F
  intro H locs la hP hD hS hl
  exact lv_dup hF.1 hF.2.1 hd hva (k H locs la hP hD hS hl)
theorem x_pop {F : Cx} {u pc : Nat} {ls : List (Nat × Value)} {rest : List Value} {S : St} {cc : ByteArray} {own : String} {va : Value} (hF : Ok F cc own) (hd : decode cc pc = .ok (.pop, 1)) (hva : va.category = 1) (k : X F u (pc + 1) ls (rest) S) : X F u pc ls (va :: rest) S := by
  obtain ⟨p, l, e, R, s, m, args, below, meth, c, A, G, Q⟩ := F
  intro H locs la hP hD hS hl
  exact lv_pop hF.1 hF.2.1 hd hva (k H locs la hP hD hS hl)
theorem x_dup2 {F : Cx} {u pc : Nat} {ls : List (Nat × Value)} {rest : List Value} {S : St} {cc : ByteArray} {own : String} {va vb : Value} (hF : Ok F cc own) (hd : decode cc pc = .ok (.dup2, 1)) (hva : va.category = 1) (hvb : vb.category = 1) (k : X F u (pc + 1) ls (va :: vb :: va :: vb :: rest) S) : X F u pc ls (va :: vb :: rest) S := by
  obtain ⟨p, l, e, R, s, m, args, below, meth, c, A, G, Q⟩ := F
  intro H locs la hP hD hS hl
  exact lv_dup2_11 hF.1 hF.2.1 hd hva hvb (k H locs la hP hD hS hl)
theorem x_iload_n {F : Cx} {u pc : Nat} {ls : List (Nat × Value)} {rest : List Value} {S : St} {cc : ByteArray} {own : String} {q : Fin 4} {i : Nat} {x : Int32} (hF : Ok F cc own) (hd : decode cc pc = .ok (.iload_n q, 1)) (hi : (q : Nat) = i) (hx : lgt ls i = some (.int x)) (k : X F u (pc + 1) ls (.int x :: rest) S) : X F u pc ls (rest) S := by
  obtain ⟨p, l, e, R, s, m, args, below, meth, c, A, G, Q⟩ := F
  intro H locs la hP hD hS hl
  exact lv_iload_n hF.1 hF.2.1 hd hi (lv_g hl hx) (k H locs la hP hD hS hl)
theorem x_iload {F : Cx} {u pc : Nat} {ls : List (Nat × Value)} {rest : List Value} {S : St} {cc : ByteArray} {own : String} {i : Nat} {x : Int32} (hF : Ok F cc own) (hd : decode cc pc = .ok (.iload i, 2)) (hx : lgt ls i = some (.int x)) (k : X F u (pc + 2) ls (.int x :: rest) S) : X F u pc ls (rest) S := by
  obtain ⟨p, l, e, R, s, m, args, below, meth, c, A, G, Q⟩ := F
  intro H locs la hP hD hS hl
  exact lv_iload hF.1 hF.2.1 hd (lv_g hl hx) (k H locs la hP hD hS hl)
theorem x_lload_n {F : Cx} {u pc : Nat} {ls : List (Nat × Value)} {rest : List Value} {S : St} {cc : ByteArray} {own : String} {q : Fin 4} {i : Nat} {x : Int64} (hF : Ok F cc own) (hd : decode cc pc = .ok (.lload_n q, 1)) (hi : (q : Nat) = i) (hx : lgt ls i = some (.long x)) (k : X F u (pc + 1) ls (.long x :: rest) S) : X F u pc ls (rest) S := by
  obtain ⟨p, l, e, R, s, m, args, below, meth, c, A, G, Q⟩ := F
  intro H locs la hP hD hS hl
  exact lv_lload_n hF.1 hF.2.1 hd hi (lv_g hl hx) (k H locs la hP hD hS hl)
theorem x_lload {F : Cx} {u pc : Nat} {ls : List (Nat × Value)} {rest : List Value} {S : St} {cc : ByteArray} {own : String} {i : Nat} {x : Int64} (hF : Ok F cc own) (hd : decode cc pc = .ok (.lload i, 2)) (hx : lgt ls i = some (.long x)) (k : X F u (pc + 2) ls (.long x :: rest) S) : X F u pc ls (rest) S := by
  obtain ⟨p, l, e, R, s, m, args, below, meth, c, A, G, Q⟩ := F
  intro H locs la hP hD hS hl
  exact lv_lload hF.1 hF.2.1 hd (lv_g hl hx) (k H locs la hP hD hS hl)
theorem x_aload_n {F : Cx} {u pc : Nat} {ls : List (Nat × Value)} {rest : List Value} {S : St} {cc : ByteArray} {own : String} {q : Fin 4} {i : Nat} {x : Nat} (hF : Ok F cc own) (hd : decode cc pc = .ok (.aload_n q, 1)) (hi : (q : Nat) = i) (hx : lgt ls i = some (.ref x)) (k : X F u (pc + 1) ls (.ref x :: rest) S) : X F u pc ls (rest) S := by
  obtain ⟨p, l, e, R, s, m, args, below, meth, c, A, G, Q⟩ := F
  intro H locs la hP hD hS hl
  exact lv_aload_n hF.1 hF.2.1 hd hi (lv_g hl hx) (k H locs la hP hD hS hl)
theorem x_aload {F : Cx} {u pc : Nat} {ls : List (Nat × Value)} {rest : List Value} {S : St} {cc : ByteArray} {own : String} {i : Nat} {x : Nat} (hF : Ok F cc own) (hd : decode cc pc = .ok (.aload i, 2)) (hx : lgt ls i = some (.ref x)) (k : X F u (pc + 2) ls (.ref x :: rest) S) : X F u pc ls (rest) S := by
  obtain ⟨p, l, e, R, s, m, args, below, meth, c, A, G, Q⟩ := F
  intro H locs la hP hD hS hl
  exact lv_aload hF.1 hF.2.1 hd (lv_g hl hx) (k H locs la hP hD hS hl)
def nLF (F : Cx) (nL : Nat) : Prop := F.2.2.2.2.2.2.2.2.2.1.maxLocals = nL
abbrev gG (F : Cx) : Ga := F.2.2.2.2.2.2.2.2.2.2.2.1
abbrev gA (F : Cx) : Nat → Nat := (gG F).1
theorem x_istore_n {F : Cx} {u pc : Nat} {ls : List (Nat × Value)} {rest : List Value} {S : St} {cc : ByteArray} {own : String} {q : Fin 4} {i nL : Nat} {x : Int32} (hF : Ok F cc own) (hN : nLF F nL) (hd : decode cc pc = .ok (.istore_n q, 1)) (hi : (q : Nat) = i) (hn : i < nL) (k : X F u (pc + 1) (ls1 ls i (.int x)) rest S) : X F u pc ls (.int x :: rest) S := by
  obtain ⟨p, l, e, R, s, m, args, below, meth, c, A, G, Q⟩ := F
  intro H locs la hP hD hS hl
  exact lv_istore_n hF.1 hF.2.1 hd hi hl (by rw [show c.maxLocals = nL from hN]; exact hn) rfl (fun la hl => k H locs la hP hD hS hl)
theorem x_istore {F : Cx} {u pc : Nat} {ls : List (Nat × Value)} {rest : List Value} {S : St} {cc : ByteArray} {own : String} {i nL : Nat} {x : Int32} (hF : Ok F cc own) (hN : nLF F nL) (hd : decode cc pc = .ok (.istore i, 2)) (hn : i < nL) (k : X F u (pc + 2) (ls1 ls i (.int x)) rest S) : X F u pc ls (.int x :: rest) S := by
  obtain ⟨p, l, e, R, s, m, args, below, meth, c, A, G, Q⟩ := F
  intro H locs la hP hD hS hl
  exact lv_istore hF.1 hF.2.1 hd hl (by rw [show c.maxLocals = nL from hN]; exact hn) rfl (fun la hl => k H locs la hP hD hS hl)
theorem x_lstore_n {F : Cx} {u pc : Nat} {ls : List (Nat × Value)} {rest : List Value} {S : St} {cc : ByteArray} {own : String} {q : Fin 4} {i nL : Nat} {x : Int64} (hF : Ok F cc own) (hN : nLF F nL) (hd : decode cc pc = .ok (.lstore_n q, 1)) (hi : (q : Nat) = i) (hn : i + 1 < nL) (k : X F u (pc + 1) (ls2 ls i (.long x)) rest S) : X F u pc ls (.long x :: rest) S := by
  obtain ⟨p, l, e, R, s, m, args, below, meth, c, A, G, Q⟩ := F
  intro H locs la hP hD hS hl
  exact lv_lstore_n hF.1 hF.2.1 hd hi hl (by rw [show c.maxLocals = nL from hN]; exact hn) rfl (fun la hl => k H locs la hP hD hS hl)
theorem x_lstore {F : Cx} {u pc : Nat} {ls : List (Nat × Value)} {rest : List Value} {S : St} {cc : ByteArray} {own : String} {i nL : Nat} {x : Int64} (hF : Ok F cc own) (hN : nLF F nL) (hd : decode cc pc = .ok (.lstore i, 2)) (hn : i + 1 < nL) (k : X F u (pc + 2) (ls2 ls i (.long x)) rest S) : X F u pc ls (.long x :: rest) S := by
  obtain ⟨p, l, e, R, s, m, args, below, meth, c, A, G, Q⟩ := F
  intro H locs la hP hD hS hl
  exact lv_lstore hF.1 hF.2.1 hd hl (by rw [show c.maxLocals = nL from hN]; exact hn) rfl (fun la hl => k H locs la hP hD hS hl)
theorem x_astore_n {F : Cx} {u pc : Nat} {ls : List (Nat × Value)} {rest : List Value} {S : St} {cc : ByteArray} {own : String} {q : Fin 4} {i nL : Nat} {x : Nat} (hF : Ok F cc own) (hN : nLF F nL) (hd : decode cc pc = .ok (.astore_n q, 1)) (hi : (q : Nat) = i) (hn : i < nL) (k : X F u (pc + 1) (ls1 ls i (.ref x)) rest S) : X F u pc ls (.ref x :: rest) S := by
  obtain ⟨p, l, e, R, s, m, args, below, meth, c, A, G, Q⟩ := F
  intro H locs la hP hD hS hl
  exact lv_astore_n hF.1 hF.2.1 hd hi hl (by rw [show c.maxLocals = nL from hN]; exact hn) rfl (fun la hl => k H locs la hP hD hS hl)
theorem x_astore {F : Cx} {u pc : Nat} {ls : List (Nat × Value)} {rest : List Value} {S : St} {cc : ByteArray} {own : String} {i nL : Nat} {x : Nat} (hF : Ok F cc own) (hN : nLF F nL) (hd : decode cc pc = .ok (.astore i, 2)) (hn : i < nL) (k : X F u (pc + 2) (ls1 ls i (.ref x)) rest S) : X F u pc ls (.ref x :: rest) S := by
  obtain ⟨p, l, e, R, s, m, args, below, meth, c, A, G, Q⟩ := F
  intro H locs la hP hD hS hl
  exact lv_astore hF.1 hF.2.1 hd hl (by rw [show c.maxLocals = nL from hN]; exact hn) rfl (fun la hl => k H locs la hP hD hS hl)
theorem x_iinc {F : Cx} {u pc : Nat} {ls : List (Nat × Value)} {rest : List Value} {S : St} {cc : ByteArray} {own : String} {i nL : Nat} {n : Int} {x v : Int32} (hF : Ok F cc own) (hN : nLF F nL) (hd : decode cc pc = .ok (.iinc i n, 3)) (hx : lgt ls i = some (.int x)) (hv : Int32.ofInt n = v) (hn : i < nL) (k : X F u (pc + 3) (ls1 ls i (.int (x + v))) rest S) : X F u pc ls rest S := by
  obtain ⟨p, l, e, R, s, m, args, below, meth, c, A, G, Q⟩ := F
  intro H locs la hP hD hS hl
  obtain ⟨j, hj⟩ := List.getElem?_of_mem (lgt_mem hx)
  exact lv_iinc hF.1 hF.2.1 hd hl hj (by rw [hv]) (by rw [show c.maxLocals = nL from hN]; exact hn) rfl (fun la hl => k H locs la hP hD hS hl)
theorem x_goto {F : Cx} {u pc : Nat} {ls : List (Nat × Value)} {rest : List Value} {S : St} {cc : ByteArray} {own : String} {off : Int} {tgt : Nat} (hF : Ok F cc own) (hd : decode cc pc = .ok (.goto off, 3)) (ht : (pc : Int) + off = (tgt : Int)) (k : X F u tgt ls rest S) : X F u pc ls rest S := by
  obtain ⟨p, l, e, R, s, m, args, below, meth, c, A, G, Q⟩ := F
  intro H locs la hP hD hS hl
  exact lv_goto hF.1 hF.2.1 hd ht (k H locs la hP hD hS hl)
theorem x_icmp_eq {F : Cx} {u pc : Nat} {ls : List (Nat × Value)} {rest : List Value} {S : St} {cc : ByteArray} {own : String} {x y : Int32} {off : Int} {tgt : Nat} (hF : Ok F cc own) (hd : decode cc pc = .ok (.if_icmp .eq off, 3)) (ht : (pc : Int) + off = (tgt : Int)) (kt : x = y → X F u tgt ls rest S) (kf : ¬ x = y → X F u (pc + 3) ls rest S) : X F u pc ls (.int y :: .int x :: rest) S := by
  obtain ⟨p, l, e, R, s, m, args, below, meth, c, A, G, Q⟩ := F
  intro H locs la hP hD hS hl
  exact lv_icmp_eq hF.1 hF.2.1 hd ht (fun h => kt h H locs la hP hD hS hl) (fun h => kf h H locs la hP hD hS hl)
theorem x_if_eq {F : Cx} {u pc : Nat} {ls : List (Nat × Value)} {rest : List Value} {S : St} {cc : ByteArray} {own : String} {x : Int32} {off : Int} {tgt : Nat} (hF : Ok F cc own) (hd : decode cc pc = .ok (.ifCond .eq off, 3)) (ht : (pc : Int) + off = (tgt : Int)) (kt : x = 0 → X F u tgt ls rest S) (kf : ¬ x = 0 → X F u (pc + 3) ls rest S) : X F u pc ls (.int x :: rest) S := by
  obtain ⟨p, l, e, R, s, m, args, below, meth, c, A, G, Q⟩ := F
  intro H locs la hP hD hS hl
  exact lv_if_eq hF.1 hF.2.1 hd ht (fun h => kt h H locs la hP hD hS hl) (fun h => kf h H locs la hP hD hS hl)
theorem x_icmp_ne {F : Cx} {u pc : Nat} {ls : List (Nat × Value)} {rest : List Value} {S : St} {cc : ByteArray} {own : String} {x y : Int32} {off : Int} {tgt : Nat} (hF : Ok F cc own) (hd : decode cc pc = .ok (.if_icmp .ne off, 3)) (ht : (pc : Int) + off = (tgt : Int)) (kt : ¬ x = y → X F u tgt ls rest S) (kf : x = y → X F u (pc + 3) ls rest S) : X F u pc ls (.int y :: .int x :: rest) S := by
  obtain ⟨p, l, e, R, s, m, args, below, meth, c, A, G, Q⟩ := F
  intro H locs la hP hD hS hl
  exact lv_icmp_ne hF.1 hF.2.1 hd ht (fun h => kt h H locs la hP hD hS hl) (fun h => kf h H locs la hP hD hS hl)
theorem x_if_ne {F : Cx} {u pc : Nat} {ls : List (Nat × Value)} {rest : List Value} {S : St} {cc : ByteArray} {own : String} {x : Int32} {off : Int} {tgt : Nat} (hF : Ok F cc own) (hd : decode cc pc = .ok (.ifCond .ne off, 3)) (ht : (pc : Int) + off = (tgt : Int)) (kt : ¬ x = 0 → X F u tgt ls rest S) (kf : x = 0 → X F u (pc + 3) ls rest S) : X F u pc ls (.int x :: rest) S := by
  obtain ⟨p, l, e, R, s, m, args, below, meth, c, A, G, Q⟩ := F
  intro H locs la hP hD hS hl
  exact lv_if_ne hF.1 hF.2.1 hd ht (fun h => kt h H locs la hP hD hS hl) (fun h => kf h H locs la hP hD hS hl)
theorem x_icmp_lt {F : Cx} {u pc : Nat} {ls : List (Nat × Value)} {rest : List Value} {S : St} {cc : ByteArray} {own : String} {x y : Int32} {off : Int} {tgt : Nat} (hF : Ok F cc own) (hd : decode cc pc = .ok (.if_icmp .lt off, 3)) (ht : (pc : Int) + off = (tgt : Int)) (kt : x < y → X F u tgt ls rest S) (kf : ¬ x < y → X F u (pc + 3) ls rest S) : X F u pc ls (.int y :: .int x :: rest) S := by
  obtain ⟨p, l, e, R, s, m, args, below, meth, c, A, G, Q⟩ := F
  intro H locs la hP hD hS hl
  exact lv_icmp_lt hF.1 hF.2.1 hd ht (fun h => kt h H locs la hP hD hS hl) (fun h => kf h H locs la hP hD hS hl)
theorem x_if_lt {F : Cx} {u pc : Nat} {ls : List (Nat × Value)} {rest : List Value} {S : St} {cc : ByteArray} {own : String} {x : Int32} {off : Int} {tgt : Nat} (hF : Ok F cc own) (hd : decode cc pc = .ok (.ifCond .lt off, 3)) (ht : (pc : Int) + off = (tgt : Int)) (kt : x < 0 → X F u tgt ls rest S) (kf : ¬ x < 0 → X F u (pc + 3) ls rest S) : X F u pc ls (.int x :: rest) S := by
  obtain ⟨p, l, e, R, s, m, args, below, meth, c, A, G, Q⟩ := F
  intro H locs la hP hD hS hl
  exact lv_if_lt hF.1 hF.2.1 hd ht (fun h => kt h H locs la hP hD hS hl) (fun h => kf h H locs la hP hD hS hl)
theorem x_icmp_ge {F : Cx} {u pc : Nat} {ls : List (Nat × Value)} {rest : List Value} {S : St} {cc : ByteArray} {own : String} {x y : Int32} {off : Int} {tgt : Nat} (hF : Ok F cc own) (hd : decode cc pc = .ok (.if_icmp .ge off, 3)) (ht : (pc : Int) + off = (tgt : Int)) (kt : y ≤ x → X F u tgt ls rest S) (kf : ¬ y ≤ x → X F u (pc + 3) ls rest S) : X F u pc ls (.int y :: .int x :: rest) S := by
  obtain ⟨p, l, e, R, s, m, args, below, meth, c, A, G, Q⟩ := F
  intro H locs la hP hD hS hl
  exact lv_icmp_ge hF.1 hF.2.1 hd ht (fun h => kt h H locs la hP hD hS hl) (fun h => kf h H locs la hP hD hS hl)
theorem x_if_ge {F : Cx} {u pc : Nat} {ls : List (Nat × Value)} {rest : List Value} {S : St} {cc : ByteArray} {own : String} {x : Int32} {off : Int} {tgt : Nat} (hF : Ok F cc own) (hd : decode cc pc = .ok (.ifCond .ge off, 3)) (ht : (pc : Int) + off = (tgt : Int)) (kt : 0 ≤ x → X F u tgt ls rest S) (kf : ¬ 0 ≤ x → X F u (pc + 3) ls rest S) : X F u pc ls (.int x :: rest) S := by
  obtain ⟨p, l, e, R, s, m, args, below, meth, c, A, G, Q⟩ := F
  intro H locs la hP hD hS hl
  exact lv_if_ge hF.1 hF.2.1 hd ht (fun h => kt h H locs la hP hD hS hl) (fun h => kf h H locs la hP hD hS hl)
theorem x_icmp_gt {F : Cx} {u pc : Nat} {ls : List (Nat × Value)} {rest : List Value} {S : St} {cc : ByteArray} {own : String} {x y : Int32} {off : Int} {tgt : Nat} (hF : Ok F cc own) (hd : decode cc pc = .ok (.if_icmp .gt off, 3)) (ht : (pc : Int) + off = (tgt : Int)) (kt : y < x → X F u tgt ls rest S) (kf : ¬ y < x → X F u (pc + 3) ls rest S) : X F u pc ls (.int y :: .int x :: rest) S := by
  obtain ⟨p, l, e, R, s, m, args, below, meth, c, A, G, Q⟩ := F
  intro H locs la hP hD hS hl
  exact lv_icmp_gt hF.1 hF.2.1 hd ht (fun h => kt h H locs la hP hD hS hl) (fun h => kf h H locs la hP hD hS hl)
theorem x_if_gt {F : Cx} {u pc : Nat} {ls : List (Nat × Value)} {rest : List Value} {S : St} {cc : ByteArray} {own : String} {x : Int32} {off : Int} {tgt : Nat} (hF : Ok F cc own) (hd : decode cc pc = .ok (.ifCond .gt off, 3)) (ht : (pc : Int) + off = (tgt : Int)) (kt : 0 < x → X F u tgt ls rest S) (kf : ¬ 0 < x → X F u (pc + 3) ls rest S) : X F u pc ls (.int x :: rest) S := by
  obtain ⟨p, l, e, R, s, m, args, below, meth, c, A, G, Q⟩ := F
  intro H locs la hP hD hS hl
  exact lv_if_gt hF.1 hF.2.1 hd ht (fun h => kt h H locs la hP hD hS hl) (fun h => kf h H locs la hP hD hS hl)
theorem x_icmp_le {F : Cx} {u pc : Nat} {ls : List (Nat × Value)} {rest : List Value} {S : St} {cc : ByteArray} {own : String} {x y : Int32} {off : Int} {tgt : Nat} (hF : Ok F cc own) (hd : decode cc pc = .ok (.if_icmp .le off, 3)) (ht : (pc : Int) + off = (tgt : Int)) (kt : x ≤ y → X F u tgt ls rest S) (kf : ¬ x ≤ y → X F u (pc + 3) ls rest S) : X F u pc ls (.int y :: .int x :: rest) S := by
  obtain ⟨p, l, e, R, s, m, args, below, meth, c, A, G, Q⟩ := F
  intro H locs la hP hD hS hl
  exact lv_icmp_le hF.1 hF.2.1 hd ht (fun h => kt h H locs la hP hD hS hl) (fun h => kf h H locs la hP hD hS hl)
theorem x_if_le {F : Cx} {u pc : Nat} {ls : List (Nat × Value)} {rest : List Value} {S : St} {cc : ByteArray} {own : String} {x : Int32} {off : Int} {tgt : Nat} (hF : Ok F cc own) (hd : decode cc pc = .ok (.ifCond .le off, 3)) (ht : (pc : Int) + off = (tgt : Int)) (kt : x ≤ 0 → X F u tgt ls rest S) (kf : ¬ x ≤ 0 → X F u (pc + 3) ls rest S) : X F u pc ls (.int x :: rest) S := by
  obtain ⟨p, l, e, R, s, m, args, below, meth, c, A, G, Q⟩ := F
  intro H locs la hP hD hS hl
  exact lv_if_le hF.1 hF.2.1 hd ht (fun h => kt h H locs la hP hD hS hl) (fun h => kf h H locs la hP hD hS hl)
theorem tb_in {w : Cond} (i : Nat) (h : lw_tbl[i]? = some w) (hg : goodWord w = true) : w ∈ tbG := List.mem_filter.mpr ⟨List.mem_of_getElem? h, hg⟩
theorem tb_good {w : Cond} (h : w ∈ tbG) : (w.onTables && w.keeps) = true ∨ ∃ ty, w = .arrayClass ty := good_of_word (List.mem_filter.mp h).2
/-- a class of the world, by its number -/
def CkO (ci : Nat) (C : String) (T : u_T) (N : Nat) (ty : Nat → FieldType) : Prop := vwCl[ci]? = some (C, T, N) ∧ (∀ w ∈ u_ws C T N, w ∈ tbG) ∧ (∀ k, k < N → parseFieldDescriptor (T k).2.2.1 = some (ty k)) ∧ (∀ a, a < N → ∀ b, b < N → a ≠ b → (T a).2.1 ≠ (T b).2.1)
theorem x_geti {F : Cx} {u pc : Nat} {ls : List (Nat × Value)} {rest : List Value} {S : St} {cc : ByteArray} {own : String} {k ci N index : Nat} {C ref : String} {T : u_T} {ty : Nat → FieldType} {fl : List (Nat × Nat)} {t : Nat} (hF : Ok F cc own) (hs : shp k = .inl (ci, fl)) (j : Nat) (hj : fl[j]? = some (0, t)) (hC : CkO ci C T N ty) (hk : k < NC) (hN : j < N) (hw : Cond.fieldLink own index ref (T j).2.1 (T j).2.2.1 ∈ tbG) (hr : (T j).1 = ref) (hd : decode cc pc = .ok (.getfield index, 3)) (kk : X F u (pc + 3) ls (.int (gi S k j) :: rest) S) : X F u pc ls (.ref (gA F k) :: rest) S := by
  obtain ⟨p, l, e, R, s, m, args, below, meth, c, A, G, Q⟩ := F
  obtain ⟨hx, hb, hown, hts, hE, hA, -⟩ := hF
  intro H locs la hP hD hS hl
  have hv := fv_get (G := G) (S := S) (k := k) fl 0 j _ hj
  exact va_get (D := G.D) hx hb hts hC.2.1 hown hE hP k (by rw [wd_get hk, cel_o hs]) hC.1 j hN (hts _ hw) (by subst hr; exact fun _ h => h) (by simpa using hv) hd (kk H locs la hP hD hS hl)
theorem x_getl {F : Cx} {u pc : Nat} {ls : List (Nat × Value)} {rest : List Value} {S : St} {cc : ByteArray} {own : String} {k ci N index : Nat} {C ref : String} {T : u_T} {ty : Nat → FieldType} {fl : List (Nat × Nat)} {t : Nat} (hF : Ok F cc own) (hs : shp k = .inl (ci, fl)) (j : Nat) (hj : fl[j]? = some (1, t)) (hC : CkO ci C T N ty) (hk : k < NC) (hN : j < N) (hw : Cond.fieldLink own index ref (T j).2.1 (T j).2.2.1 ∈ tbG) (hr : (T j).1 = ref) (hd : decode cc pc = .ok (.getfield index, 3)) (kk : X F u (pc + 3) ls (.long (gl S k j) :: rest) S) : X F u pc ls (.ref (gA F k) :: rest) S := by
  obtain ⟨p, l, e, R, s, m, args, below, meth, c, A, G, Q⟩ := F
  obtain ⟨hx, hb, hown, hts, hE, hA, -⟩ := hF
  intro H locs la hP hD hS hl
  have hv := fv_get (G := G) (S := S) (k := k) fl 0 j _ hj
  exact va_get (D := G.D) hx hb hts hC.2.1 hown hE hP k (by rw [wd_get hk, cel_o hs]) hC.1 j hN (hts _ hw) (by subst hr; exact fun _ h => h) (by simpa using hv) hd (kk H locs la hP hD hS hl)
theorem x_getr {F : Cx} {u pc : Nat} {ls : List (Nat × Value)} {rest : List Value} {S : St} {cc : ByteArray} {own : String} {k ci N index : Nat} {C ref : String} {T : u_T} {ty : Nat → FieldType} {fl : List (Nat × Nat)} {t : Nat} (hF : Ok F cc own) (hs : shp k = .inl (ci, fl)) (j : Nat) (hj : fl[j]? = some (2, t)) (hC : CkO ci C T N ty) (hk : k < NC) (hN : j < N) (hw : Cond.fieldLink own index ref (T j).2.1 (T j).2.2.1 ∈ tbG) (hr : (T j).1 = ref) (hd : decode cc pc = .ok (.getfield index, 3)) (kk : X F u (pc + 3) ls (.ref (gA F t) :: rest) S) : X F u pc ls (.ref (gA F k) :: rest) S := by
  obtain ⟨p, l, e, R, s, m, args, below, meth, c, A, G, Q⟩ := F
  obtain ⟨hx, hb, hown, hts, hE, hA, -⟩ := hF
  intro H locs la hP hD hS hl
  have hv := fv_get (G := G) (S := S) (k := k) fl 0 j _ hj
  exact va_get (D := G.D) hx hb hts hC.2.1 hown hE hP k (by rw [wd_get hk, cel_o hs]) hC.1 j hN (hts _ hw) (by subst hr; exact fun _ h => h) (by simpa using hv) hd (kk H locs la hP hD hS hl)
theorem x_puti {F : Cx} {u pc : Nat} {ls : List (Nat × Value)} {rest : List Value} {S : St} {cc : ByteArray} {own : String} {k ci N index : Nat} {C ref : String} {T : u_T} {ty : Nat → FieldType} {fl : List (Nat × Nat)} {t : Nat} {x : Int32} {tj : FieldType} (hF : Ok F cc own) (hs : shp k = .inl (ci, fl)) (j : Nat) (hj : fl[j]? = some (0, t)) (hC : CkO ci C T N ty) (hk : k < NC) (hN : j < N) (hw : Cond.fieldLink own index ref (T j).2.1 (T j).2.2.1 ∈ tbG) (hr : (T j).1 = ref) (hfin : (T j).2.2.2 = false) (hty : ty j = tj) (hn : narrow tj (.int x) = .int x) (hfit : fits tj (.int x) = true) (hd : decode cc pc = .ok (.putfield index, 3)) (kk : X F u (pc + 3) ls rest (si S k j x)) : X F u pc ls (.int x :: .ref (gA F k) :: rest) S := by
  obtain ⟨p, l, e, R, s, m, args, below, meth, c, A, G, Q⟩ := F
  obtain ⟨hx, hb, hown, hts, hE, hA, -⟩ := hF
  intro H locs la hP hD hS hl
  have e1 : (wd G S).set k (G.ad k, .inr (ci, (fv G S k 0 fl).set j (.int x))) = wd G (si S k j x) := by
    have := fv_si (G := G) (S := S) (k := k) (x := x) fl 0 j t hj
    rw [Nat.zero_add] at this
    rw [← this, ← cel_o hs]
    exact wd_set hk fun i hi => cel_ne (fun b => by rw [gi_si, if_neg (fun q => hi q.1)]) (fun b => rfl) (fun b => rfl)
  refine va_put (D := G.D) hx hb hts hC.2.1 ty hC.2.2.1 hC.2.2.2 hown hE hP hD hS k (by rw [wd_get hk, cel_o hs]) hC.1 j hN (hts _ hw) (by subst hr; exact fun _ h => h) hfin (hty ▸ hC.2.2.1 j hN) hn hfit (by rw [fv_len]; exact (List.getElem?_eq_some_iff.mp hj).1) hd (fun H1 locs1 h1 h2 h3 => ?_)
  rw [e1] at h1 h2
  exact kk H1 locs1 la h1 h2 h3 hl
theorem x_putl {F : Cx} {u pc : Nat} {ls : List (Nat × Value)} {rest : List Value} {S : St} {cc : ByteArray} {own : String} {k ci N index : Nat} {C ref : String} {T : u_T} {ty : Nat → FieldType} {fl : List (Nat × Nat)} {t : Nat} {x : Int64} (hF : Ok F cc own) (hs : shp k = .inl (ci, fl)) (j : Nat) (hj : fl[j]? = some (1, t)) (hC : CkO ci C T N ty) (hk : k < NC) (hN : j < N) (hw : Cond.fieldLink own index ref (T j).2.1 (T j).2.2.1 ∈ tbG) (hr : (T j).1 = ref) (hfin : (T j).2.2.2 = false) (hty : ty j = .long) (hd : decode cc pc = .ok (.putfield index, 3)) (kk : X F u (pc + 3) ls rest (sl S k j x)) : X F u pc ls (.long x :: .ref (gA F k) :: rest) S := by
  obtain ⟨p, l, e, R, s, m, args, below, meth, c, A, G, Q⟩ := F
  obtain ⟨hx, hb, hown, hts, hE, hA, -⟩ := hF
  intro H locs la hP hD hS hl
  have e1 : (wd G S).set k (G.ad k, .inr (ci, (fv G S k 0 fl).set j (.long x))) = wd G (sl S k j x) := by
    have := fv_sl (G := G) (S := S) (k := k) (x := x) fl 0 j t hj
    rw [Nat.zero_add] at this
    rw [← this, ← cel_o hs]
    exact wd_set hk fun i hi => cel_ne (fun b => rfl) (fun b => by rw [gl_sl, if_neg (fun q => hi q.1)]) (fun b => rfl)
  refine va_put (D := G.D) hx hb hts hC.2.1 ty hC.2.2.1 hC.2.2.2 hown hE hP hD hS k (by rw [wd_get hk, cel_o hs]) hC.1 j hN (hts _ hw) (by subst hr; exact fun _ h => h) hfin (hty ▸ hC.2.2.1 j hN) rfl rfl (by rw [fv_len]; exact (List.getElem?_eq_some_iff.mp hj).1) hd (fun H1 locs1 h1 h2 h3 => ?_)
  rw [e1] at h1 h2
  exact kk H1 locs1 la h1 h2 h3 hl
abbrev ix (i : Int32) : Nat := i.toNatClampNeg
abbrev inb (i : Int32) (n : Nat) : Prop := ¬ (i < 0 ∨ n ≤ i.toNatClampNeg)
abbrev isB (x : Int32) : Prop := x = 0 ∨ x = 1
theorem isB_n {x : Int32} (h : isB x) : narrow .boolean (.int x) = .int x := by rcases h with rfl | rfl <;> rfl
theorem isB_f {x : Int32} (h : isB x) : fits .boolean (.int x) = true := by rcases h with rfl | rfl <;> rfl
theorem x_iald {F : Cx} {u pc : Nat} {ls : List (Nat × Value)} {rest : List Value} {S : St} {cc : ByteArray} {own : String} {k n : Nat} {i : Int32} (hF : Ok F cc own) (hs : shp k = .inr (0, n)) (hk : k < NC) (hi : inb i n) (hd : decode cc pc = .ok (.iaload, 1)) (kk : X F u (pc + 1) ls (.int (gi S k (ix i)) :: rest) S) : X F u pc ls (.int i :: .ref (gA F k) :: rest) S := by
  obtain ⟨p, l, e, R, s, m, args, below, meth, c, A, G, Q⟩ := F
  obtain ⟨hx, hb, hown, hts, hE, hA, -⟩ := hF
  intro H locs la hP hD hS hl
  exact va_iald (D := G.D) hx hb hE hP k 0 (n := n) (f := gi S k) (by rw [wd_get hk, cel_a hs]; rfl) rfl hi hd (kk H locs la hP hD hS hl)
theorem x_iast {F : Cx} {u pc : Nat} {ls : List (Nat × Value)} {rest : List Value} {S : St} {cc : ByteArray} {own : String} {k n : Nat} {i x : Int32} (hF : Ok F cc own) (hs : shp k = .inr (0, n)) (hk : k < NC) (hi : inb i n) (hd : decode cc pc = .ok (.iastore, 1)) (kk : X F u (pc + 1) ls rest (si S k (ix i) x)) : X F u pc ls (.int x :: .int i :: .ref (gA F k) :: rest) S := by
  obtain ⟨p, l, e, R, s, m, args, below, meth, c, A, G, Q⟩ := F
  obtain ⟨hx, hb, hown, hts, hE, hA, -⟩ := hF
  intro H locs la hP hD hS hl
  have e1 : (wd G S).set k (G.ad k, .inl (G.ca 0, n, .inl (upd (gi S k) i.toNatClampNeg x))) = wd G (si S k (ix i) x) := by
    have e2 : upd (gi S k) i.toNatClampNeg x = gi (si S k (ix i) x) k := by
      funext b
      rw [gi_si]
      simp [upd]
    rw [e2, show (Sum.inl (G.ca 0, n, .inl (gi (si S k (ix i) x) k)) : va_E) = cel G (si S k (ix i) x) k from (by rw [cel_a hs]; rfl)]
    exact wd_set hk fun i hi => cel_ne (fun b => by rw [gi_si, if_neg (fun q => hi q.1)]) (fun b => rfl) (fun b => rfl)
  refine va_iast (D := G.D) hx hb hE hP hD hS k 0 (n := n) (f := gi S k) (by rw [wd_get hk, cel_a hs]; rfl) rfl hi hd (fun H1 locs1 h1 h2 h3 => ?_)
  rw [e1] at h1 h2
  exact kk H1 locs1 la h1 h2 h3 hl
/-! ===== a method's contract: it returns v, and the state is S' ===== -/
def rmO (d u : Nat) : Room := { frames := d, cells := u, slots := 8 * u, locals := 40 * d }
def Wk (G : Ga) (sz : Nat) (S : St) (U : State) : Prop := va_P G.D vwCl (wd G S) U.heap ∧ va_D (fun _ => True) (wd G S) ∧ En G (va_A (wd G S) sz) U U.heap
def Qg (G : Ga) (A : Nat → Prop) (v : Option Value) (S' : St) : Array Value → State → Outcome → State → Prop := fun _ st oc t => (oc = .returned v ∧ va_P G.D vwCl (wd G S') t.heap) ∧ va_F A st t
def CT (l : Launch) (G : Ga) (d : Nat) (y : MethodName) (cc : ByteArray) (nL : Nat) (ret : Option FieldType) (as : List Value) (S : St) (v : Option Value) (S' : St) : Prop :=
  ∀ sz : Nat, Met l y (Cond.code y cc nL ret :: tbG) (rmO d 0) (va_Pc as (fun U => U.heap.size = sz ∧ Wk G sz S U)) (Qg G (va_A (wd G S) sz) v S') 0 0 (va_A (wd G S) sz)
/-- a method's words -/
def Mw (y : MethodName) (cc : ByteArray) (nL : Nat) (ret : Option FieldType) (n : Nat) : Prop := Cond.code y cc nL ret ∈ tbG ∧ Cond.initialized y.cls ∈ tbG ∧ (y.cls ≠ "java/lang/invoke/MethodHandle" ∧ y.cls ≠ "java/lang/invoke/VarHandle" ∧ (parseMethodDescriptor y.desc).map (fun d => d.parameters.length) = some n) ∧ nL ≤ 21
theorem gi_in {y : MethodName} {cc : ByteArray} {nL : Nat} {ret : Option FieldType} (h : Cond.code y cc nL ret ∈ tbG) : GoodIn tbG (Cond.code y cc nL ret :: tbG) := by
  intro w hw
  rcases List.mem_cons.mp hw with rfl | hw
  · exact ⟨h, tb_good h⟩
  · exact ⟨hw, tb_good hw⟩
theorem blind_w {G : Ga} {sz : Nat} {S : St} {as : List Value} : FrameBlind (va_Pc as (fun U => U.heap.size = sz ∧ Wk G sz S U)) := by
  intro a U g mk h
  obtain ⟨h0, h1, h2, h3, h4⟩ := h
  exact ⟨h0, h1, h2, h3, En.blind (U := U) rfl h4⟩
theorem x_back {p : Program} {l : Launch} {e : Env} {R : Room} {s : State} {m : MethodId} {args : Array Value} {below : List Frame} {meth : Method} {c : Code} {A : Nat → Prop} {G : Ga} {Q : State → Prop} {u pc : Nat} {st0 rest : List Value} {a : Array Value} {S S' : St} {H : Heap} {locs : List Loc} {la : Array Slot} {v : Option Value} (hA : ∀ q, s.heap.size ≤ q → A q)
    (hD : va_D A (wd G S)) (hS : va_S A s.heap H locs) (hr : va_Run p l e R s m args below meth c H locs u (8 * u) 0 0 (F0 m pc la st0) rest (Qg G (va_A (wd G S) H.size) v S' a) (va_A (wd G S) H.size))
    (kk : ∀ (H1 : Heap) (locs1 : List Loc), va_P G.D vwCl (wd G S') H1 → va_D A (wd G S') → va_S A s.heap H1 locs1 → W p l e R s m args below meth c H1 locs1 u (8 * u) Q (F0 m (pc + 3) la (v.toList ++ rest))) : W p l e R s m args below meth c H locs u (8 * u) Q (F0 m pc la st0) := by
  have hf : ∀ q, va_A (wd G S) H.size q → A q := by
    rintro q (⟨k, e, h⟩ | h)
    · exact hD.2 k _ h
    · exact hA q (Nat.le_trans hS.1 h)
  intro T hT X
  obtain ⟨v1, st₀, t, T', L, h0, X', hL, e1, e2, ⟨⟨hv, hP⟩, hz, hk⟩, st⟩ := hr T hT X
  cases hv
  rw [h0] at hz hk
  obtain ⟨t2, a1, b1⟩ := kk T'.heap (locs ++ L) (by rw [e1]; exact hP) (wd_D hD)
    ⟨Nat.le_trans hS.1 (by rw [e1]; exact hz), fun q h1 h2 => by rw [e1, hk q (Nat.lt_of_lt_of_le h1 hS.1) (fun z => h2 (hf q z))]; exact hS.2.1 q h1 h2, fun q hq => by
      rcases List.mem_append.mp hq with h | h
      · exact hS.2.2 q h
      · exact hf _ (hL q h)⟩ T' rfl X'
  exact ⟨t2, st t2 a1, b1⟩
theorem x_pre {l : Launch} {G : Ga} {A : Nat → Prop} {s : State} {S : St} {H : Heap} {locs : List Loc} {as : List Value} (hE : En G A s s.heap) (hA : ∀ q, s.heap.size ≤ q → A q) (hP : va_P G.D vwCl (wd G S) H) (hD : va_D A (wd G S)) (hS : va_S A s.heap H locs) : ∀ U : State, U.heap = H → s.WarmedH U.vm → va_Pc as (fun U => U.heap.size = H.size ∧ Wk G H.size S U) as.toArray U := by
  intro U hU hW
  have hf : ∀ q, va_A (wd G S) H.size q → A q := by
    rintro q (⟨k, e, h⟩ | h)
    · exact hD.2 k _ h
    · exact hA q (Nat.le_trans hS.1 h)
  exact ⟨rfl, by rw [hU], by rw [hU]; exact hP, hD.weaken (fun _ _ _ _ => trivial), by rw [hU]; exact En.moved hW (En.sub hf (En.kept (fun q h1 h2 => hS.2.1 q h1 h2) hE))⟩
/-- a call of an instance method, own or of another class, by its own name -/
theorem x_cV {F : Cx} {u pc : Nat} {ls : List (Nat × Value)} {rest st : List Value} {S S' : St} {cc : ByteArray} {own : String} {d U d' nL' n index k ci N nL : Nat} {y : MethodName} {cc' : ByteArray} {ret : Option FieldType} (as : List Value) {v : Option Value} {C : String} {T : u_T} {ty : Nat → FieldType} {fl : List (Nat × Nat)} (hF : Ok F cc own) (hN : nLF F nL) (hR : RmF F d U) (hM : CT F.2.1 (gG F) d' y cc' nL' ret (.ref (gA F k) :: as) S v S') (hm : Mw y cc' nL' ret n) (hi : Cond.instanceMethod y ∈ tbG ∧ Cond.selects C y y ∈ tbG) (hs : shp k = .inl (ci, fl)) (hC : CkO ci C T N ty) (hk : k < NC) (hw : Cond.methodLink own index y ∈ tbG) (hu : u ≤ U ∧ d' + 1 ≤ d) (hn : as.length = n) (hst : st = as.reverse ++ .ref (gA F k) :: rest) (hW : (rest.map fun v => v.category).sum ≤ 8) (hd : decode cc pc = .ok (.invokevirtual index, 3)) (kk : X F u (pc + 3) ls (v.toList ++ rest) S') : X F u pc ls st S := by
  obtain ⟨p, l, e, R, s, m, args, below, meth, c, A, G, Q⟩ := F
  obtain ⟨hx, hb, hown, hts, hE, hA, -⟩ := hF
  intro H locs la hP hD hS hl
  have hR : R = rmO d U := hR
  subst hR
  have hml : c.maxLocals = nL := hN
  refine x_back (S := S) (S' := S') hA hD hS (va_runV (Ts := tbG) (own := own) (C := C) (n := n) (index := index) (bytes := cc') (maxL := nL') (ret := ret) (nL := nL) (As := as) (rest := rest) ⟨hx, hb, hml, hown, hts⟩ (hM H.size) ?_ ⟨blind_w, va_recv hE hP (q0 := k) (ci := ci) hC.1 (by rw [wd_get hk, cel_o hs]), x_pre (l := l) hE hA hP hD hS⟩ rfl hn (by rw [← hml]; exact hl.1) hst (lv_room hW) hd ⟨hu.1, by show 8 * u + 0 ≤ 8 * U; omega⟩) (fun H1 locs1 h1 h2 h3 => kk H1 locs1 la h1 h2 h3 hl)
  exact ⟨callB_of n hts (gi_in hm.1) rfl rfl rfl (hts _ hm.2.1) (hts _ hw) hm.2.2.1 ⟨hu.2, by show 8 + (nL' + 11) + 40 * d' ≤ 40 * d; have := hm.2.2.2; omega⟩, hts _ hi.1, hts _ hi.2⟩
/-- a call of a static method of its own class -/
theorem x_cS {F : Cx} {u pc : Nat} {ls : List (Nat × Value)} {rest st : List Value} {S S' : St} {cc : ByteArray} {own : String} {d U d' nL' n index nL : Nat} {y : MethodName} {cc' : ByteArray} {ret : Option FieldType} (as : List Value) {v : Option Value} (hF : Ok F cc own) (hN : nLF F nL) (hR : RmF F d U) (hM : CT F.2.1 (gG F) d' y cc' nL' ret as S v S') (hm : Mw y cc' nL' ret n) (hi : Cond.static y ∈ tbG) (hw : Cond.methodLink own index y ∈ tbG) (hu : u ≤ U ∧ d' + 1 ≤ d) (hn : as.length = n) (hst : st = as.reverse ++ rest) (hW : (rest.map fun v => v.category).sum ≤ 8) (hd : decode cc pc = .ok (.invokestatic index, 3)) (kk : X F u (pc + 3) ls (v.toList ++ rest) S') : X F u pc ls st S := by
  obtain ⟨p, l, e, R, s, m, args, below, meth, c, A, G, Q⟩ := F
  obtain ⟨hx, hb, hown, hts, hE, hA, -⟩ := hF
  intro H locs la hP hD hS hl
  have hR : R = rmO d U := hR
  subst hR
  have hml : c.maxLocals = nL := hN
  refine x_back (S := S) (S' := S') hA hD hS (va_runS (Ts := tbG) (own := own) (n := n) (index := index) (bytes := cc') (maxL := nL') (ret := ret) (nL := nL) (As := as) (rest := rest) ⟨hx, hb, hml, hown, hts⟩ (hM H.size) ?_ ⟨blind_w, x_pre (l := l) hE hA hP hD hS⟩ rfl hn (by rw [← hml]; exact hl.1) hst (lv_room hW) hd ⟨hu.1, by show 8 * u + 0 ≤ 8 * U; omega⟩) (fun H1 locs1 h1 h2 h3 => kk H1 locs1 la h1 h2 h3 hl)
  exact ⟨callB_of n hts (gi_in hm.1) rfl rfl rfl (hts _ hm.2.1) (hts _ hw) hm.2.2.1 ⟨hu.2, by show 8 + (nL' + 11) + 40 * d' ≤ 40 * d; have := hm.2.2.2; omega⟩, hts _ hi⟩
/-- a contract out of a walk -/
theorem ct_of {l : Launch} {G : Ga} {d : Nat} {y : MethodName} {cc : ByteArray} {nL : Nat} {ret : Option FieldType} {as : List Value} {S : St} {v : Option Value} {S' : St} (hl : l.stackTraces = false) (hy : plainName y.cls = true) (hn : (lg_sl as).length ≤ nL)
    (body : ∀ F : Cx, F.2.1 = l → gG F = G → Ok F cc y.cls → nLF F nL → RmF F d 0 →
      ((∀ (pc : Nat) (ls : List (Nat × Value)) (x : Int32), ret = some .int → v = some (.int x) → decode cc pc = .ok (.ireturn, 1) → X F 0 pc ls [.int x] S') ∧
       (∀ (pc : Nat) (ls : List (Nat × Value)) (x : Int32), ret = some .boolean → isB x → v = some (.int x) → decode cc pc = .ok (.ireturn, 1) → X F 0 pc ls [.int x] S') ∧
       (∀ (pc : Nat) (ls : List (Nat × Value)) (x : Int64), ret = some .long → v = some (.long x) → decode cc pc = .ok (.lreturn, 1) → X F 0 pc ls [.long x] S') ∧
       (∀ (pc : Nat) (ls : List (Nat × Value)) (x : Value) (C : String), ret = some (.object C) → (x = .null ∨ ∃ a, x = .ref a) → v = some x → decode cc pc = .ok (.areturn, 1) → X F 0 pc ls [x] S') ∧
       (∀ (pc : Nat) (ls : List (Nat × Value)), ret = none → v = none → decode cc pc = .ok (.return_, 1) → X F 0 pc ls [] S')) → X F 0 0 (lv_args 0 as) [] S) : CT l G d y cc nL ret as S v S' := by
  intro sz
  refine Met.ofW (cc := cc) (maxL := nL) (ret := ret) hy rfl ?_
  intro p e s m args below meth c s₁ B hml hv
  obtain ⟨rfl, hsz, hP, hD0, hE⟩ := hv
  have hx := B.exec
  have hb := B.bytes
  have hr := B.returns
  have hts := atoms_spec (ws := Cond.code y cc nL ret :: tbG) B.pre
  have hown : s.vm.findClass y.cls = some m.cls := findClass_of_methodNamed B.named
  have hlocks := B.notSynchronized
  subst hsz
  have hD := hD0.self (sz := s.heap.size)
  have hA : ∀ q : Nat, s.heap.size ≤ q → va_A (wd G S) s.heap.size q := fun q h => Or.inr h
  have hl9 := lv_entry as (n := nL) hn
  rw [lg_entry_eq]
  have hin : ∀ H : Heap, ∀ locs : List Loc, va_P G.D vwCl (wd G S') H → va_S (va_A (wd G S) s.heap.size) s.heap H locs → ∀ t : State, t.heap = H → Qg G (va_A (wd G S) s.heap.size) v S' as.toArray s (.returned v) t := fun H locs hP hS t ht => ⟨⟨rfl, by rw [ht]; exact hP⟩, hS.F ht⟩
  refine body (p, l, e, rmO d 0, s, m, as.toArray, below, meth, c, va_A (wd G S) s.heap.size, G, MQ below (Qg G (va_A (wd G S) s.heap.size) v S') as.toArray s 0 0 (va_A (wd G S) s.heap.size)) rfl rfl ⟨hx, hb, hown, fun w hw => hts w (List.mem_cons_of_mem _ hw), hE, hA, hlocks, hl⟩ hml rfl ⟨?_, ?_, ?_, ?_, ?_⟩ s.heap [] _ hP hD va_S.rf (by rw [hml]; exact hl9)
  · intro pc ls x h1 h2 h3 H locs la hP hD hS hl
    subst h2
    exact W.iret hx hb (hr.trans h1) (fun t ht hW => hin H locs hP hS t ht) hS.2.2 h3
  · intro pc ls x h1 h2 h3 h4 H locs la hP hD hS hl
    subst h3
    exact W.zret hx hb (hr.trans h1) (isB_n h2) (fun t ht hW => hin H locs hP hS t ht) hS.2.2 h4
  · intro pc ls x h1 h2 h3 H locs la hP hD hS hl
    subst h2
    exact W.lret hx hb (hr.trans h1) (fun t ht hW => hin H locs hP hS t ht) hS.2.2 h3
  · intro pc ls x C h1 h2 h3 h4 H locs la hP hD hS hl
    subst h3
    exact W.aret hx hb (hr.trans h1) (Or.inl ⟨C, rfl⟩) h2 (fun t ht hW => hin H locs hP hS t ht) hS.2.2 h4
  · intro pc ls h1 h2 h3 H locs la hP hD hS hl
    subst h2
    exact W.vret hx hb (hr.trans h1) (fun t ht hW => hin H locs hP hS t ht) hS.2.2 h3
end
