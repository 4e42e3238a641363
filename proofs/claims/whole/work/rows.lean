section
-- ===== PART A: goes FIRST, ahead of the names: the tables' words, and 'selects' of the private methods out of them =====
/-- a private method of a class that the tables say can be made, by its rows of tables_1 -/
def lw_okq (q : MethodName × Nat) : Prop := (q.1.cls ≠ "java/lang/invoke/MethodHandle" ∧ q.1.cls ≠ "java/lang/invoke/VarHandle") ∧ Cond.instantiable q.1.cls q.2 ∈ tables_1 ∧ Cond.privateMethod q.1 ∈ tables_1 ∧ Cond.instanceMethod q.1 ∈ tables_1
theorem lw_p0 : lw_okq (⟨"NightMove$Convoys", "putInOrder", "(I)V"⟩, 7) := ⟨⟨by decide +kernel, by decide +kernel⟩, List.mem_of_getElem? (i := 51) (by decide +kernel), List.mem_of_getElem? (i := 342) (by decide +kernel), List.mem_of_getElem? (i := 343) (by decide +kernel)⟩
theorem lw_p1 : lw_okq (⟨"NightMove$Sharing", "loadConvoy", "(II)V"⟩, 6) := ⟨⟨by decide +kernel, by decide +kernel⟩, List.mem_of_getElem? (i := 92) (by decide +kernel), List.mem_of_getElem? (i := 363) (by decide +kernel), List.mem_of_getElem? (i := 364) (by decide +kernel)⟩
theorem lw_p2 : lw_okq (⟨"NightMove$Sharing", "tryLoads", "(III)V"⟩, 6) := ⟨⟨by decide +kernel, by decide +kernel⟩, List.mem_of_getElem? (i := 92) (by decide +kernel), List.mem_of_getElem? (i := 371) (by decide +kernel), List.mem_of_getElem? (i := 372) (by decide +kernel)⟩
theorem lw_p3 : lw_okq (⟨"NightMove$Sharing", "fits", "(II)Z"⟩, 6) := ⟨⟨by decide +kernel, by decide +kernel⟩, List.mem_of_getElem? (i := 92) (by decide +kernel), List.mem_of_getElem? (i := 375) (by decide +kernel), List.mem_of_getElem? (i := 376) (by decide +kernel)⟩
theorem lw_p4 : lw_okq (⟨"NightMove$Sharing", "fitsOneMore", "(III)Z"⟩, 6) := ⟨⟨by decide +kernel, by decide +kernel⟩, List.mem_of_getElem? (i := 92) (by decide +kernel), List.mem_of_getElem? (i := 385) (by decide +kernel), List.mem_of_getElem? (i := 386) (by decide +kernel)⟩
theorem lw_p5 : lw_okq (⟨"NightMove$Sharing", "leastPrice", "(I)J"⟩, 6) := ⟨⟨by decide +kernel, by decide +kernel⟩, List.mem_of_getElem? (i := 92) (by decide +kernel), List.mem_of_getElem? (i := 392) (by decide +kernel), List.mem_of_getElem? (i := 393) (by decide +kernel)⟩
theorem lw_p6 : lw_okq (⟨"NightMove", "isThing", "(I)Z"⟩, 12) := ⟨⟨by decide +kernel, by decide +kernel⟩, List.mem_of_getElem? (i := 14) (by decide +kernel), List.mem_of_getElem? (i := 405) (by decide +kernel), List.mem_of_getElem? (i := 406) (by decide +kernel)⟩
theorem lw_p7 : lw_okq (⟨"NightMove", "isConvoy", "(I)Z"⟩, 12) := ⟨⟨by decide +kernel, by decide +kernel⟩, List.mem_of_getElem? (i := 14) (by decide +kernel), List.mem_of_getElem? (i := 421) (by decide +kernel), List.mem_of_getElem? (i := 422) (by decide +kernel)⟩
theorem lw_p8 : lw_okq (⟨"NightMove$Traffic", "crossBridge", "()V"⟩, 8) := ⟨⟨by decide +kernel, by decide +kernel⟩, List.mem_of_getElem? (i := 121) (by decide +kernel), List.mem_of_getElem? (i := 433) (by decide +kernel), List.mem_of_getElem? (i := 434) (by decide +kernel)⟩
theorem lw_p9 : lw_okq (⟨"NightMove", "isKnown", "(I)Z"⟩, 12) := ⟨⟨by decide +kernel, by decide +kernel⟩, List.mem_of_getElem? (i := 14) (by decide +kernel), List.mem_of_getElem? (i := 444) (by decide +kernel), List.mem_of_getElem? (i := 445) (by decide +kernel)⟩
theorem lw_p10 : lw_okq (⟨"NightMove$Stages", "someHasBegun", "()Z"⟩, 11) := ⟨⟨by decide +kernel, by decide +kernel⟩, List.mem_of_getElem? (i := 155) (by decide +kernel), List.mem_of_getElem? (i := 481) (by decide +kernel), List.mem_of_getElem? (i := 482) (by decide +kernel)⟩
theorem lw_p11 : lw_okq (⟨"NightMove$Stages", "clear", "(I)V"⟩, 11) := ⟨⟨by decide +kernel, by decide +kernel⟩, List.mem_of_getElem? (i := 155) (by decide +kernel), List.mem_of_getElem? (i := 489) (by decide +kernel), List.mem_of_getElem? (i := 490) (by decide +kernel)⟩
theorem lw_p12 : lw_okq (⟨"NightMove", "isStage", "(I)Z"⟩, 12) := ⟨⟨by decide +kernel, by decide +kernel⟩, List.mem_of_getElem? (i := 14) (by decide +kernel), List.mem_of_getElem? (i := 497) (by decide +kernel), List.mem_of_getElem? (i := 498) (by decide +kernel)⟩
theorem lw_p13 : lw_okq (⟨"NightMove$Stages", "allThatIsNotKept", "()I"⟩, 11) := ⟨⟨by decide +kernel, by decide +kernel⟩, List.mem_of_getElem? (i := 155) (by decide +kernel), List.mem_of_getElem? (i := 513) (by decide +kernel), List.mem_of_getElem? (i := 514) (by decide +kernel)⟩
theorem lw_p14 : lw_okq (⟨"NightMove$Stages", "clearTakenBack", "(I)V"⟩, 11) := ⟨⟨by decide +kernel, by decide +kernel⟩, List.mem_of_getElem? (i := 155) (by decide +kernel), List.mem_of_getElem? (i := 521) (by decide +kernel), List.mem_of_getElem? (i := 522) (by decide +kernel)⟩
theorem lw_p15 : lw_okq (⟨"NightMove$Stages", "finishRunning", "(I)I"⟩, 11) := ⟨⟨by decide +kernel, by decide +kernel⟩, List.mem_of_getElem? (i := 155) (by decide +kernel), List.mem_of_getElem? (i := 533) (by decide +kernel), List.mem_of_getElem? (i := 534) (by decide +kernel)⟩
def lw_privs_1 : List (MethodName × Nat) := [(⟨"NightMove$Convoys", "putInOrder", "(I)V"⟩, 7), (⟨"NightMove$Sharing", "loadConvoy", "(II)V"⟩, 6), (⟨"NightMove$Sharing", "tryLoads", "(III)V"⟩, 6), (⟨"NightMove$Sharing", "fits", "(II)Z"⟩, 6), (⟨"NightMove$Sharing", "fitsOneMore", "(III)Z"⟩, 6), (⟨"NightMove$Sharing", "leastPrice", "(I)J"⟩, 6), (⟨"NightMove", "isThing", "(I)Z"⟩, 12), (⟨"NightMove", "isConvoy", "(I)Z"⟩, 12), (⟨"NightMove$Traffic", "crossBridge", "()V"⟩, 8), (⟨"NightMove", "isKnown", "(I)Z"⟩, 12), (⟨"NightMove$Stages", "someHasBegun", "()Z"⟩, 11), (⟨"NightMove$Stages", "clear", "(I)V"⟩, 11), (⟨"NightMove", "isStage", "(I)Z"⟩, 12), (⟨"NightMove$Stages", "allThatIsNotKept", "()I"⟩, 11), (⟨"NightMove$Stages", "clearTakenBack", "(I)V"⟩, 11), (⟨"NightMove$Stages", "finishRunning", "(I)I"⟩, 11)]
theorem lw_r1 : ∀ q ∈ lw_privs_1, lw_okq q := List.forall_mem_cons.mpr ⟨lw_p0, List.forall_mem_cons.mpr ⟨lw_p1, List.forall_mem_cons.mpr ⟨lw_p2, List.forall_mem_cons.mpr ⟨lw_p3, List.forall_mem_cons.mpr ⟨lw_p4, List.forall_mem_cons.mpr ⟨lw_p5, List.forall_mem_cons.mpr ⟨lw_p6, List.forall_mem_cons.mpr ⟨lw_p7, List.forall_mem_cons.mpr ⟨lw_p8, List.forall_mem_cons.mpr ⟨lw_p9, List.forall_mem_cons.mpr ⟨lw_p10, List.forall_mem_cons.mpr ⟨lw_p11, List.forall_mem_cons.mpr ⟨lw_p12, List.forall_mem_cons.mpr ⟨lw_p13, List.forall_mem_cons.mpr ⟨lw_p14, List.forall_mem_cons.mpr ⟨lw_p15, fun _ h => absurd h List.not_mem_nil⟩⟩⟩⟩⟩⟩⟩⟩⟩⟩⟩⟩⟩⟩⟩⟩
theorem lw_p16 : lw_okq (⟨"NightMove$Stages", "makeSafe", "(I)V"⟩, 11) := ⟨⟨by decide +kernel, by decide +kernel⟩, List.mem_of_getElem? (i := 155) (by decide +kernel), List.mem_of_getElem? (i := 542) (by decide +kernel), List.mem_of_getElem? (i := 543) (by decide +kernel)⟩
theorem lw_p17 : lw_okq (⟨"NightMove$Stages", "afterNeeds", "(II)I"⟩, 11) := ⟨⟨by decide +kernel, by decide +kernel⟩, List.mem_of_getElem? (i := 155) (by decide +kernel), List.mem_of_getElem? (i := 574) (by decide +kernel), List.mem_of_getElem? (i := 575) (by decide +kernel)⟩
theorem lw_p18 : lw_okq (⟨"NightMove$Reader", "openTests", "()V"⟩, 12) := ⟨⟨by decide +kernel, by decide +kernel⟩, List.mem_of_getElem? (i := 235) (by decide +kernel), List.mem_of_getElem? (i := 623) (by decide +kernel), List.mem_of_getElem? (i := 624) (by decide +kernel)⟩
theorem lw_p19 : lw_okq (⟨"NightMove$Reader", "takes", "(C)Z"⟩, 12) := ⟨⟨by decide +kernel, by decide +kernel⟩, List.mem_of_getElem? (i := 235) (by decide +kernel), List.mem_of_getElem? (i := 627) (by decide +kernel), List.mem_of_getElem? (i := 628) (by decide +kernel)⟩
theorem lw_p20 : lw_okq (⟨"NightMove$Reader", "endNumber", "()V"⟩, 12) := ⟨⟨by decide +kernel, by decide +kernel⟩, List.mem_of_getElem? (i := 235) (by decide +kernel), List.mem_of_getElem? (i := 634) (by decide +kernel), List.mem_of_getElem? (i := 635) (by decide +kernel)⟩
theorem lw_p21 : lw_okq (⟨"NightMove$Reader", "valueOf", "(C)I"⟩, 12) := ⟨⟨by decide +kernel, by decide +kernel⟩, List.mem_of_getElem? (i := 235) (by decide +kernel), List.mem_of_getElem? (i := 638) (by decide +kernel), List.mem_of_getElem? (i := 639) (by decide +kernel)⟩
theorem lw_p22 : lw_okq (⟨"NightMove$Reader", "comparisonHolds", "(I)Z"⟩, 12) := ⟨⟨by decide +kernel, by decide +kernel⟩, List.mem_of_getElem? (i := 235) (by decide +kernel), List.mem_of_getElem? (i := 642) (by decide +kernel), List.mem_of_getElem? (i := 643) (by decide +kernel)⟩
theorem lw_p23 : lw_okq (⟨"NightMove$Reader", "endUnit", "(Z)V"⟩, 12) := ⟨⟨by decide +kernel, by decide +kernel⟩, List.mem_of_getElem? (i := 235) (by decide +kernel), List.mem_of_getElem? (i := 646) (by decide +kernel), List.mem_of_getElem? (i := 647) (by decide +kernel)⟩
theorem lw_p24 : lw_okq (⟨"NightMove$Reader", "takesUnit", "(C)Z"⟩, 12) := ⟨⟨by decide +kernel, by decide +kernel⟩, List.mem_of_getElem? (i := 235) (by decide +kernel), List.mem_of_getElem? (i := 650) (by decide +kernel), List.mem_of_getElem? (i := 651) (by decide +kernel)⟩
theorem lw_p25 : lw_okq (⟨"NightMove$Reader", "takesSign", "(C)Z"⟩, 12) := ⟨⟨by decide +kernel, by decide +kernel⟩, List.mem_of_getElem? (i := 235) (by decide +kernel), List.mem_of_getElem? (i := 654) (by decide +kernel), List.mem_of_getElem? (i := 655) (by decide +kernel)⟩
theorem lw_p26 : lw_okq (⟨"NightMove$Reader", "takesAfterUnit", "(C)Z"⟩, 12) := ⟨⟨by decide +kernel, by decide +kernel⟩, List.mem_of_getElem? (i := 235) (by decide +kernel), List.mem_of_getElem? (i := 658) (by decide +kernel), List.mem_of_getElem? (i := 659) (by decide +kernel)⟩
theorem lw_p27 : lw_okq (⟨"NightMove$Reader", "testsHold", "()Z"⟩, 12) := ⟨⟨by decide +kernel, by decide +kernel⟩, List.mem_of_getElem? (i := 235) (by decide +kernel), List.mem_of_getElem? (i := 662) (by decide +kernel), List.mem_of_getElem? (i := 663) (by decide +kernel)⟩
theorem lw_p28 : lw_okq (⟨"NightMove$Reader", "takesDigit", "(C)Z"⟩, 12) := ⟨⟨by decide +kernel, by decide +kernel⟩, List.mem_of_getElem? (i := 235) (by decide +kernel), List.mem_of_getElem? (i := 666) (by decide +kernel), List.mem_of_getElem? (i := 667) (by decide +kernel)⟩
theorem lw_p29 : lw_okq (⟨"NightMoveModel", "findBest", "()V"⟩, 48) := ⟨⟨by decide +kernel, by decide +kernel⟩, List.mem_of_getElem? (i := 695) (by decide +kernel), List.mem_of_getElem? (i := 865) (by decide +kernel), List.mem_of_getElem? (i := 866) (by decide +kernel)⟩
theorem lw_p30 : lw_okq (⟨"NightMoveModel", "shareOn", "(II)V"⟩, 48) := ⟨⟨by decide +kernel, by decide +kernel⟩, List.mem_of_getElem? (i := 695) (by decide +kernel), List.mem_of_getElem? (i := 870) (by decide +kernel), List.mem_of_getElem? (i := 871) (by decide +kernel)⟩
theorem lw_p31 : lw_okq (⟨"NightMoveModel", "leaves", "(II)I"⟩, 48) := ⟨⟨by decide +kernel, by decide +kernel⟩, List.mem_of_getElem? (i := 695) (by decide +kernel), List.mem_of_getElem? (i := 886) (by decide +kernel), List.mem_of_getElem? (i := 887) (by decide +kernel)⟩
def lw_privs_2 : List (MethodName × Nat) := [(⟨"NightMove$Stages", "makeSafe", "(I)V"⟩, 11), (⟨"NightMove$Stages", "afterNeeds", "(II)I"⟩, 11), (⟨"NightMove$Reader", "openTests", "()V"⟩, 12), (⟨"NightMove$Reader", "takes", "(C)Z"⟩, 12), (⟨"NightMove$Reader", "endNumber", "()V"⟩, 12), (⟨"NightMove$Reader", "valueOf", "(C)I"⟩, 12), (⟨"NightMove$Reader", "comparisonHolds", "(I)Z"⟩, 12), (⟨"NightMove$Reader", "endUnit", "(Z)V"⟩, 12), (⟨"NightMove$Reader", "takesUnit", "(C)Z"⟩, 12), (⟨"NightMove$Reader", "takesSign", "(C)Z"⟩, 12), (⟨"NightMove$Reader", "takesAfterUnit", "(C)Z"⟩, 12), (⟨"NightMove$Reader", "testsHold", "()Z"⟩, 12), (⟨"NightMove$Reader", "takesDigit", "(C)Z"⟩, 12), (⟨"NightMoveModel", "findBest", "()V"⟩, 48), (⟨"NightMoveModel", "shareOn", "(II)V"⟩, 48), (⟨"NightMoveModel", "leaves", "(II)I"⟩, 48)]
theorem lw_r2 : ∀ q ∈ lw_privs_2, lw_okq q := List.forall_mem_cons.mpr ⟨lw_p16, List.forall_mem_cons.mpr ⟨lw_p17, List.forall_mem_cons.mpr ⟨lw_p18, List.forall_mem_cons.mpr ⟨lw_p19, List.forall_mem_cons.mpr ⟨lw_p20, List.forall_mem_cons.mpr ⟨lw_p21, List.forall_mem_cons.mpr ⟨lw_p22, List.forall_mem_cons.mpr ⟨lw_p23, List.forall_mem_cons.mpr ⟨lw_p24, List.forall_mem_cons.mpr ⟨lw_p25, List.forall_mem_cons.mpr ⟨lw_p26, List.forall_mem_cons.mpr ⟨lw_p27, List.forall_mem_cons.mpr ⟨lw_p28, List.forall_mem_cons.mpr ⟨lw_p29, List.forall_mem_cons.mpr ⟨lw_p30, List.forall_mem_cons.mpr ⟨lw_p31, fun _ h => absurd h List.not_mem_nil⟩⟩⟩⟩⟩⟩⟩⟩⟩⟩⟩⟩⟩⟩⟩⟩
theorem lw_p32 : lw_okq (⟨"NightMoveModel", "bridge", "(II)I"⟩, 48) := ⟨⟨by decide +kernel, by decide +kernel⟩, List.mem_of_getElem? (i := 695) (by decide +kernel), List.mem_of_getElem? (i := 894) (by decide +kernel), List.mem_of_getElem? (i := 895) (by decide +kernel)⟩
theorem lw_p33 : lw_okq (⟨"NightMoveModel", "there", "(II)I"⟩, 48) := ⟨⟨by decide +kernel, by decide +kernel⟩, List.mem_of_getElem? (i := 695) (by decide +kernel), List.mem_of_getElem? (i := 902) (by decide +kernel), List.mem_of_getElem? (i := 903) (by decide +kernel)⟩
theorem lw_p34 : lw_okq (⟨"NightMoveModel", "isAsked", "(II)Z"⟩, 48) := ⟨⟨by decide +kernel, by decide +kernel⟩, List.mem_of_getElem? (i := 695) (by decide +kernel), List.mem_of_getElem? (i := 910) (by decide +kernel), List.mem_of_getElem? (i := 911) (by decide +kernel)⟩
theorem lw_p35 : lw_okq (⟨"NightMoveModel", "placeOf", "(III)I"⟩, 48) := ⟨⟨by decide +kernel, by decide +kernel⟩, List.mem_of_getElem? (i := 695) (by decide +kernel), List.mem_of_getElem? (i := 914) (by decide +kernel), List.mem_of_getElem? (i := 915) (by decide +kernel)⟩
theorem lw_p36 : lw_okq (⟨"NightMoveModel", "isStage", "(I)Z"⟩, 48) := ⟨⟨by decide +kernel, by decide +kernel⟩, List.mem_of_getElem? (i := 695) (by decide +kernel), List.mem_of_getElem? (i := 934) (by decide +kernel), List.mem_of_getElem? (i := 935) (by decide +kernel)⟩
theorem lw_p37 : lw_okq (⟨"NightMoveModel", "settleBack", "()V"⟩, 48) := ⟨⟨by decide +kernel, by decide +kernel⟩, List.mem_of_getElem? (i := 695) (by decide +kernel), List.mem_of_getElem? (i := 942) (by decide +kernel), List.mem_of_getElem? (i := 943) (by decide +kernel)⟩
theorem lw_p38 : lw_okq (⟨"NightMoveModel", "minute", "()V"⟩, 48) := ⟨⟨by decide +kernel, by decide +kernel⟩, List.mem_of_getElem? (i := 695) (by decide +kernel), List.mem_of_getElem? (i := 950) (by decide +kernel), List.mem_of_getElem? (i := 951) (by decide +kernel)⟩
theorem lw_p39 : lw_okq (⟨"NightMoveModel", "tests", "()V"⟩, 48) := ⟨⟨by decide +kernel, by decide +kernel⟩, List.mem_of_getElem? (i := 695) (by decide +kernel), List.mem_of_getElem? (i := 991) (by decide +kernel), List.mem_of_getElem? (i := 992) (by decide +kernel)⟩
theorem lw_p40 : lw_okq (⟨"NightMoveModel", "part", "()V"⟩, 48) := ⟨⟨by decide +kernel, by decide +kernel⟩, List.mem_of_getElem? (i := 695) (by decide +kernel), List.mem_of_getElem? (i := 995) (by decide +kernel), List.mem_of_getElem? (i := 996) (by decide +kernel)⟩
theorem lw_p41 : lw_okq (⟨"NightMoveModel", "unit", "()V"⟩, 48) := ⟨⟨by decide +kernel, by decide +kernel⟩, List.mem_of_getElem? (i := 695) (by decide +kernel), List.mem_of_getElem? (i := 999) (by decide +kernel), List.mem_of_getElem? (i := 1000) (by decide +kernel)⟩
theorem lw_p42 : lw_okq (⟨"NightMoveModel", "look", "()I"⟩, 48) := ⟨⟨by decide +kernel, by decide +kernel⟩, List.mem_of_getElem? (i := 695) (by decide +kernel), List.mem_of_getElem? (i := 1003) (by decide +kernel), List.mem_of_getElem? (i := 1004) (by decide +kernel)⟩
theorem lw_p43 : lw_okq (⟨"NightMoveModel", "bad", "()V"⟩, 48) := ⟨⟨by decide +kernel, by decide +kernel⟩, List.mem_of_getElem? (i := 695) (by decide +kernel), List.mem_of_getElem? (i := 1007) (by decide +kernel), List.mem_of_getElem? (i := 1008) (by decide +kernel)⟩
theorem lw_p44 : lw_okq (⟨"NightMoveModel", "say", "(I)V"⟩, 48) := ⟨⟨by decide +kernel, by decide +kernel⟩, List.mem_of_getElem? (i := 695) (by decide +kernel), List.mem_of_getElem? (i := 1011) (by decide +kernel), List.mem_of_getElem? (i := 1012) (by decide +kernel)⟩
theorem lw_p45 : lw_okq (⟨"NightMoveModel", "openMany", "()I"⟩, 48) := ⟨⟨by decide +kernel, by decide +kernel⟩, List.mem_of_getElem? (i := 695) (by decide +kernel), List.mem_of_getElem? (i := 1025) (by decide +kernel), List.mem_of_getElem? (i := 1026) (by decide +kernel)⟩
theorem lw_p46 : lw_okq (⟨"NightMoveModel", "doneMany", "()I"⟩, 48) := ⟨⟨by decide +kernel, by decide +kernel⟩, List.mem_of_getElem? (i := 695) (by decide +kernel), List.mem_of_getElem? (i := 1029) (by decide +kernel), List.mem_of_getElem? (i := 1030) (by decide +kernel)⟩
def lw_privs_3 : List (MethodName × Nat) := [(⟨"NightMoveModel", "bridge", "(II)I"⟩, 48), (⟨"NightMoveModel", "there", "(II)I"⟩, 48), (⟨"NightMoveModel", "isAsked", "(II)Z"⟩, 48), (⟨"NightMoveModel", "placeOf", "(III)I"⟩, 48), (⟨"NightMoveModel", "isStage", "(I)Z"⟩, 48), (⟨"NightMoveModel", "settleBack", "()V"⟩, 48), (⟨"NightMoveModel", "minute", "()V"⟩, 48), (⟨"NightMoveModel", "tests", "()V"⟩, 48), (⟨"NightMoveModel", "part", "()V"⟩, 48), (⟨"NightMoveModel", "unit", "()V"⟩, 48), (⟨"NightMoveModel", "look", "()I"⟩, 48), (⟨"NightMoveModel", "bad", "()V"⟩, 48), (⟨"NightMoveModel", "say", "(I)V"⟩, 48), (⟨"NightMoveModel", "openMany", "()I"⟩, 48), (⟨"NightMoveModel", "doneMany", "()I"⟩, 48)]
theorem lw_r3 : ∀ q ∈ lw_privs_3, lw_okq q := List.forall_mem_cons.mpr ⟨lw_p32, List.forall_mem_cons.mpr ⟨lw_p33, List.forall_mem_cons.mpr ⟨lw_p34, List.forall_mem_cons.mpr ⟨lw_p35, List.forall_mem_cons.mpr ⟨lw_p36, List.forall_mem_cons.mpr ⟨lw_p37, List.forall_mem_cons.mpr ⟨lw_p38, List.forall_mem_cons.mpr ⟨lw_p39, List.forall_mem_cons.mpr ⟨lw_p40, List.forall_mem_cons.mpr ⟨lw_p41, List.forall_mem_cons.mpr ⟨lw_p42, List.forall_mem_cons.mpr ⟨lw_p43, List.forall_mem_cons.mpr ⟨lw_p44, List.forall_mem_cons.mpr ⟨lw_p45, List.forall_mem_cons.mpr ⟨lw_p46, fun _ h => absurd h List.not_mem_nil⟩⟩⟩⟩⟩⟩⟩⟩⟩⟩⟩⟩⟩⟩⟩
def lw_privs : List (MethodName × Nat) := lw_privs_1 ++ (lw_privs_2 ++ (lw_privs_3))
def lw_tbl : List Cond := k2_sels lw_privs ++ tables_1
theorem lw_privs_ok : ∀ q ∈ lw_privs, lw_okq q := by
  show ∀ q ∈ lw_privs_1 ++ (lw_privs_2 ++ (lw_privs_3)), lw_okq q
  exact List.forall_mem_append.mpr ⟨lw_r1, List.forall_mem_append.mpr ⟨lw_r2, lw_r3⟩⟩
end
section
def RX0 : String := "NightMove$Convoys"
def TX0 : u_T := fun k => match k with
  | 0 => ("NightMove$Convoys", "leaves", "[I", true)
  | 1 => ("NightMove$Convoys", "room", "[I", true)
  | 2 => ("NightMove$Convoys", "limit", "[I", true)
  | 3 => ("NightMove$Convoys", "order", "[I", true)
  | 4 => ("NightMove$Convoys", "told", "I", false)
  | 5 => ("NightMove$Convoys", "way", "I", false)
  | _ => ("NightMove$Convoys", "headway", "I", false)
def tyX0 : Nat → FieldType := fun k => match k with
  | 0 => .array .int
  | 1 => .array .int
  | 2 => .array .int
  | 3 => .array .int
  | 4 => .int
  | 5 => .int
  | _ => .int
abbrev wsX00 : List Cond := u_ws RX0 TX0 7
theorem nmX0 : ∀ a, a < 7 → ∀ b, b < 7 → a ≠ b → (TX0 a).2.1 ≠ (TX0 b).2.1 := by decide +kernel
theorem tyX0_ok : ∀ k, k < 7 → parseFieldDescriptor (TX0 k).2.2.1 = some (tyX0 k) := by decide +kernel
abbrev cX0_init : ByteArray := prog_2_method_1_code
def yX0_init : MethodName := ⟨RX0, "<init>", "()V"⟩
abbrev cX0_add : ByteArray := prog_2_method_2_code
def yX0_add : MethodName := ⟨RX0, "add", "(III)I"⟩
abbrev cX0_putInOrder : ByteArray := prog_2_method_3_code
def yX0_putInOrder : MethodName := ⟨RX0, "putInOrder", "(I)V"⟩
def RX1 : String := "NightMove$Faults"
def TX1 : u_T := fun k => match k with
  | 0 => ("NightMove$Faults", "closed", "[Z", true)
  | 1 => ("NightMove$Faults", "found", "I", false)
  | _ => ("NightMove$Faults", "open", "I", false)
def tyX1 : Nat → FieldType := fun k => match k with
  | 0 => .array .boolean
  | 1 => .int
  | _ => .int
abbrev wsX10 : List Cond := u_ws RX1 TX1 3
theorem nmX1 : ∀ a, a < 3 → ∀ b, b < 3 → a ≠ b → (TX1 a).2.1 ≠ (TX1 b).2.1 := by decide +kernel
theorem tyX1_ok : ∀ k, k < 3 → parseFieldDescriptor (TX1 k).2.2.1 = some (tyX1 k) := by decide +kernel
abbrev cX1_init : ByteArray := prog_3_method_1_code
def yX1_init : MethodName := ⟨RX1, "<init>", "()V"⟩
abbrev cX1_add : ByteArray := prog_3_method_2_code
def yX1_add : MethodName := ⟨RX1, "add", "()I"⟩
abbrev cX1_mend : ByteArray := prog_3_method_3_code
def yX1_mend : MethodName := ⟨RX1, "mend", "(I)Z"⟩
def RX2 : String := "NightMove$Goods"
def TX2 : u_T := fun k => match k with
  | 0 => ("NightMove$Goods", "last", "[I", true)
  | 1 => ("NightMove$Goods", "first", "[I", true)
  | 2 => ("NightMove$Goods", "load", "[I", true)
  | 3 => ("NightMove$Goods", "cost", "[I", true)
  | _ => ("NightMove$Goods", "told", "I", false)
def tyX2 : Nat → FieldType := fun k => match k with
  | 0 => .array .int
  | 1 => .array .int
  | 2 => .array .int
  | 3 => .array .int
  | _ => .int
abbrev wsX20 : List Cond := u_ws RX2 TX2 5
theorem nmX2 : ∀ a, a < 5 → ∀ b, b < 5 → a ≠ b → (TX2 a).2.1 ≠ (TX2 b).2.1 := by decide +kernel
theorem tyX2_ok : ∀ k, k < 5 → parseFieldDescriptor (TX2 k).2.2.1 = some (tyX2 k) := by decide +kernel
abbrev cX2_init : ByteArray := prog_4_method_1_code
def yX2_init : MethodName := ⟨RX2, "<init>", "()V"⟩
abbrev cX2_add : ByteArray := prog_4_method_2_code
def yX2_add : MethodName := ⟨RX2, "add", "(IIII)I"⟩
abbrev cX2_all : ByteArray := prog_4_method_3_code
def yX2_all : MethodName := ⟨RX2, "all", "()I"⟩
abbrev cX2_thatCanGo : ByteArray := prog_4_method_4_code
def yX2_thatCanGo : MethodName := ⟨RX2, "thatCanGo", "(II)I"⟩
def RX3 : String := "NightMove$Reader"
def TX3 : u_T := fun k => match k with
  | 0 => ("NightMove$Reader", "minutesLeft", "I", false)
  | 1 => ("NightMove$Reader", "minutesToReady", "I", false)
  | 2 => ("NightMove$Reader", "openFaults", "I", false)
  | 3 => ("NightMove$Reader", "doneStages", "I", false)
  | 4 => ("NightMove$Reader", "partHolds", "[Z", true)
  | 5 => ("NightMove$Reader", "unitsHold", "[Z", true)
  | 6 => ("NightMove$Reader", "depth", "I", false)
  | 7 => ("NightMove$Reader", "expects", "I", false)
  | 8 => ("NightMove$Reader", "letter", "C", false)
  | 9 => ("NightMove$Reader", "sign", "C", false)
  | 10 => ("NightMove$Reader", "number", "I", false)
  | _ => ("NightMove$Reader", "digits", "I", false)
def tyX3 : Nat → FieldType := fun k => match k with
  | 0 => .int
  | 1 => .int
  | 2 => .int
  | 3 => .int
  | 4 => .array .boolean
  | 5 => .array .boolean
  | 6 => .int
  | 7 => .int
  | 8 => .char
  | 9 => .char
  | 10 => .int
  | _ => .int
abbrev wsX30 : List Cond := u_ws RX3 TX3 12
theorem nmX3 : ∀ a, a < 12 → ∀ b, b < 12 → a ≠ b → (TX3 a).2.1 ≠ (TX3 b).2.1 := by decide +kernel
theorem tyX3_ok : ∀ k, k < 12 → parseFieldDescriptor (TX3 k).2.2.1 = some (tyX3 k) := by decide +kernel
abbrev cX3_init : ByteArray := prog_5_method_1_code
def yX3_init : MethodName := ⟨RX3, "<init>", "()V"⟩
abbrev cX3_faultIn : ByteArray := prog_5_method_2_code
def yX3_faultIn : MethodName := ⟨RX3, "faultIn", "(LNightMove$Tape;)I"⟩
abbrev cX3_holds : ByteArray := prog_5_method_3_code
def yX3_holds : MethodName := ⟨RX3, "holds", "(LNightMove$Tape;)Z"⟩
abbrev cX3_takes : ByteArray := prog_5_method_4_code
def yX3_takes : MethodName := ⟨RX3, "takes", "(C)Z"⟩
abbrev cX3_takesUnit : ByteArray := prog_5_method_5_code
def yX3_takesUnit : MethodName := ⟨RX3, "takesUnit", "(C)Z"⟩
abbrev cX3_takesSign : ByteArray := prog_5_method_6_code
def yX3_takesSign : MethodName := ⟨RX3, "takesSign", "(C)Z"⟩
abbrev cX3_takesDigit : ByteArray := prog_5_method_7_code
def yX3_takesDigit : MethodName := ⟨RX3, "takesDigit", "(C)Z"⟩
abbrev cX3_takesAfterUnit : ByteArray := prog_5_method_8_code
def yX3_takesAfterUnit : MethodName := ⟨RX3, "takesAfterUnit", "(C)Z"⟩
abbrev cX3_openTests : ByteArray := prog_5_method_9_code
def yX3_openTests : MethodName := ⟨RX3, "openTests", "()V"⟩
abbrev cX3_testsHold : ByteArray := prog_5_method_10_code
def yX3_testsHold : MethodName := ⟨RX3, "testsHold", "()Z"⟩
abbrev cX3_endNumber : ByteArray := prog_5_method_11_code
def yX3_endNumber : MethodName := ⟨RX3, "endNumber", "()V"⟩
abbrev cX3_endUnit : ByteArray := prog_5_method_12_code
def yX3_endUnit : MethodName := ⟨RX3, "endUnit", "(Z)V"⟩
abbrev cX3_valueOf : ByteArray := prog_5_method_13_code
def yX3_valueOf : MethodName := ⟨RX3, "valueOf", "(C)I"⟩
abbrev cX3_comparisonHolds : ByteArray := prog_5_method_14_code
def yX3_comparisonHolds : MethodName := ⟨RX3, "comparisonHolds", "(I)Z"⟩
abbrev cX3_isDigit : ByteArray := prog_5_method_15_code
def yX3_isDigit : MethodName := ⟨RX3, "isDigit", "(C)Z"⟩
def RX4 : String := "NightMove$Sharing"
def TX4 : u_T := fun k => match k with
  | 0 => ("NightMove$Sharing", "goods", "LNightMove$Goods;", true)
  | 1 => ("NightMove$Sharing", "convoys", "LNightMove$Convoys;", true)
  | 2 => ("NightMove$Sharing", "code", "[I", true)
  | 3 => ("NightMove$Sharing", "price", "[J", true)
  | 4 => ("NightMove$Sharing", "best", "J", false)
  | _ => ("NightMove$Sharing", "known", "Z", false)
def tyX4 : Nat → FieldType := fun k => match k with
  | 0 => .object "NightMove$Goods"
  | 1 => .object "NightMove$Convoys"
  | 2 => .array .int
  | 3 => .array .long
  | 4 => .long
  | _ => .boolean
abbrev wsX40 : List Cond := u_ws RX4 TX4 6
theorem nmX4 : ∀ a, a < 6 → ∀ b, b < 6 → a ≠ b → (TX4 a).2.1 ≠ (TX4 b).2.1 := by decide +kernel
theorem tyX4_ok : ∀ k, k < 6 → parseFieldDescriptor (TX4 k).2.2.1 = some (tyX4 k) := by decide +kernel
abbrev cX4_init : ByteArray := prog_6_method_1_code
def yX4_init : MethodName := ⟨RX4, "<init>", "(LNightMove$Goods;LNightMove$Convoys;)V"⟩
abbrev cX4_forget : ByteArray := prog_6_method_2_code
def yX4_forget : MethodName := ⟨RX4, "forget", "()V"⟩
abbrev cX4_doubledCost : ByteArray := prog_6_method_3_code
def yX4_doubledCost : MethodName := ⟨RX4, "doubledCost", "()I"⟩
abbrev cX4_convoyOf : ByteArray := prog_6_method_4_code
def yX4_convoyOf : MethodName := ⟨RX4, "convoyOf", "(I)I"⟩
abbrev cX4_goodsOf : ByteArray := prog_6_method_5_code
def yX4_goodsOf : MethodName := ⟨RX4, "goodsOf", "(I)I"⟩
abbrev cX4_digitPlace : ByteArray := prog_6_method_6_code
def yX4_digitPlace : MethodName := ⟨RX4, "digitPlace", "(I)I"⟩
abbrev cX4_workOut : ByteArray := prog_6_method_7_code
def yX4_workOut : MethodName := ⟨RX4, "workOut", "()V"⟩
abbrev cX4_loadConvoy : ByteArray := prog_6_method_8_code
def yX4_loadConvoy : MethodName := ⟨RX4, "loadConvoy", "(II)V"⟩
abbrev cX4_tryLoads : ByteArray := prog_6_method_9_code
def yX4_tryLoads : MethodName := ⟨RX4, "tryLoads", "(III)V"⟩
abbrev cX4_fits : ByteArray := prog_6_method_10_code
def yX4_fits : MethodName := ⟨RX4, "fits", "(II)Z"⟩
abbrev cX4_fitsOneMore : ByteArray := prog_6_method_11_code
def yX4_fitsOneMore : MethodName := ⟨RX4, "fitsOneMore", "(III)Z"⟩
abbrev cX4_leastPrice : ByteArray := prog_6_method_12_code
def yX4_leastPrice : MethodName := ⟨RX4, "leastPrice", "(I)J"⟩
def RX5 : String := "NightMove$Stages"
def TX5 : u_T := fun k => match k with
  | 0 => ("NightMove$Stages", "state", "[I", true)
  | 1 => ("NightMove$Stages", "began", "[I", true)
  | 2 => ("NightMove$Stages", "safe", "[Z", true)
  | 3 => ("NightMove$Stages", "told", "I", false)
  | 4 => ("NightMove$Stages", "failures", "I", false)
  | 5 => ("NightMove$Stages", "minutes", "[I", true)
  | 6 => ("NightMove$Stages", "needs", "[I", true)
  | 7 => ("NightMove$Stages", "backMinutes", "[I", true)
  | 8 => ("NightMove$Stages", "point", "[Z", true)
  | 9 => ("NightMove$Stages", "backEnd", "[I", true)
  | _ => ("NightMove$Stages", "couldBeDone", "[I", true)
def tyX5 : Nat → FieldType := fun k => match k with
  | 0 => .array .int
  | 1 => .array .int
  | 2 => .array .boolean
  | 3 => .int
  | 4 => .int
  | 5 => .array .int
  | 6 => .array .int
  | 7 => .array .int
  | 8 => .array .boolean
  | 9 => .array .int
  | _ => .array .int
abbrev wsX50 : List Cond := u_ws RX5 TX5 11
theorem nmX5 : ∀ a, a < 11 → ∀ b, b < 11 → a ≠ b → (TX5 a).2.1 ≠ (TX5 b).2.1 := by decide +kernel
theorem tyX5_ok : ∀ k, k < 11 → parseFieldDescriptor (TX5 k).2.2.1 = some (tyX5 k) := by decide +kernel
abbrev cX5_init : ByteArray := prog_7_method_1_code
def yX5_init : MethodName := ⟨RX5, "<init>", "()V"⟩
abbrev cX5_add : ByteArray := prog_7_method_2_code
def yX5_add : MethodName := ⟨RX5, "add", "(IIIZ)I"⟩
abbrev cX5_someHasBegun : ByteArray := prog_7_method_3_code
def yX5_someHasBegun : MethodName := ⟨RX5, "someHasBegun", "()Z"⟩
abbrev cX5_clear : ByteArray := prog_7_method_4_code
def yX5_clear : MethodName := ⟨RX5, "clear", "(I)V"⟩
abbrev cX5_allThat : ByteArray := prog_7_method_5_code
def yX5_allThat : MethodName := ⟨RX5, "allThat", "(I)I"⟩
abbrev cX5_safeOnes : ByteArray := prog_7_method_6_code
def yX5_safeOnes : MethodName := ⟨RX5, "safeOnes", "()I"⟩
abbrev cX5_start : ByteArray := prog_7_method_7_code
def yX5_start : MethodName := ⟨RX5, "start", "(II)Z"⟩
abbrev cX5_doneMinute : ByteArray := prog_7_method_8_code
def yX5_doneMinute : MethodName := ⟨RX5, "doneMinute", "(I)I"⟩
abbrev cX5_moveTo : ByteArray := prog_7_method_9_code
def yX5_moveTo : MethodName := ⟨RX5, "moveTo", "(I)V"⟩
abbrev cX5_finishRunning : ByteArray := prog_7_method_10_code
def yX5_finishRunning : MethodName := ⟨RX5, "finishRunning", "(I)I"⟩
abbrev cX5_makeSafe : ByteArray := prog_7_method_11_code
def yX5_makeSafe : MethodName := ⟨RX5, "makeSafe", "(I)V"⟩
abbrev cX5_clearTakenBack : ByteArray := prog_7_method_12_code
def yX5_clearTakenBack : MethodName := ⟨RX5, "clearTakenBack", "(I)V"⟩
abbrev cX5_takeBack : ByteArray := prog_7_method_13_code
def yX5_takeBack : MethodName := ⟨RX5, "takeBack", "(II)Z"⟩
abbrev cX5_allThatIsNotKept : ByteArray := prog_7_method_14_code
def yX5_allThatIsNotKept : MethodName := ⟨RX5, "allThatIsNotKept", "()I"⟩
abbrev cX5_lastBegun : ByteArray := prog_7_method_15_code
def yX5_lastBegun : MethodName := ⟨RX5, "lastBegun", "(I)I"⟩
abbrev cX5_backUntil : ByteArray := prog_7_method_16_code
def yX5_backUntil : MethodName := ⟨RX5, "backUntil", "(I)I"⟩
abbrev cX5_allDoneBy : ByteArray := prog_7_method_17_code
def yX5_allDoneBy : MethodName := ⟨RX5, "allDoneBy", "(I)I"⟩
abbrev cX5_afterNeeds : ByteArray := prog_7_method_18_code
def yX5_afterNeeds : MethodName := ⟨RX5, "afterNeeds", "(II)I"⟩
def RX6 : String := "NightMove$Tape"
def TX6 : u_T := fun k => match k with
  | 0 => ("NightMove$Tape", "bytes", "[C", true)
  | _ => ("NightMove$Tape", "length", "I", false)
def tyX6 : Nat → FieldType := fun k => match k with
  | 0 => .array .char
  | _ => .int
abbrev wsX60 : List Cond := u_ws RX6 TX6 2
theorem nmX6 : ∀ a, a < 2 → ∀ b, b < 2 → a ≠ b → (TX6 a).2.1 ≠ (TX6 b).2.1 := by decide +kernel
theorem tyX6_ok : ∀ k, k < 2 → parseFieldDescriptor (TX6 k).2.2.1 = some (tyX6 k) := by decide +kernel
abbrev cX6_init : ByteArray := prog_8_method_1_code
def yX6_init : MethodName := ⟨RX6, "<init>", "()V"⟩
abbrev cX6_add : ByteArray := prog_8_method_2_code
def yX6_add : MethodName := ⟨RX6, "add", "(I)I"⟩
abbrev cX6_bytesIn : ByteArray := prog_8_method_3_code
def yX6_bytesIn : MethodName := ⟨RX6, "bytesIn", "(I)I"⟩
abbrev cX6_cut : ByteArray := prog_8_method_4_code
def yX6_cut : MethodName := ⟨RX6, "cut", "(I)Z"⟩
abbrev cX6_copy : ByteArray := prog_8_method_5_code
def yX6_copy : MethodName := ⟨RX6, "copy", "(LNightMove$Tape;)V"⟩
def RX7 : String := "NightMove$Traffic"
def TX7 : u_T := fun k => match k with
  | 0 => ("NightMove$Traffic", "leaves", "[I", true)
  | 1 => ("NightMove$Traffic", "bridge", "[I", true)
  | 2 => ("NightMove$Traffic", "there", "[I", true)
  | 3 => ("NightMove$Traffic", "convoys", "LNightMove$Convoys;", true)
  | 4 => ("NightMove$Traffic", "lateConvoy", "[I", true)
  | 5 => ("NightMove$Traffic", "lateMinutes", "[I", true)
  | 6 => ("NightMove$Traffic", "lateTold", "[I", true)
  | _ => ("NightMove$Traffic", "lates", "I", false)
def tyX7 : Nat → FieldType := fun k => match k with
  | 0 => .array .int
  | 1 => .array .int
  | 2 => .array .int
  | 3 => .object "NightMove$Convoys"
  | 4 => .array .int
  | 5 => .array .int
  | 6 => .array .int
  | _ => .int
abbrev wsX70 : List Cond := u_ws RX7 TX7 8
theorem nmX7 : ∀ a, a < 8 → ∀ b, b < 8 → a ≠ b → (TX7 a).2.1 ≠ (TX7 b).2.1 := by decide +kernel
theorem tyX7_ok : ∀ k, k < 8 → parseFieldDescriptor (TX7 k).2.2.1 = some (tyX7 k) := by decide +kernel
abbrev cX7_init : ByteArray := prog_9_method_1_code
def yX7_init : MethodName := ⟨RX7, "<init>", "(LNightMove$Convoys;)V"⟩
abbrev cX7_delay : ByteArray := prog_9_method_2_code
def yX7_delay : MethodName := ⟨RX7, "delay", "(III)Z"⟩
abbrev cX7_foresee : ByteArray := prog_9_method_3_code
def yX7_foresee : MethodName := ⟨RX7, "foresee", "(I)V"⟩
abbrev cX7_crossBridge : ByteArray := prog_9_method_4_code
def yX7_crossBridge : MethodName := ⟨RX7, "crossBridge", "()V"⟩
abbrev cX7_placeOf : ByteArray := prog_9_method_5_code
def yX7_placeOf : MethodName := ⟨RX7, "placeOf", "(II)I"⟩
def RX8 : String := "NightMove"
def TX8 : u_T := fun k => match k with
  | 0 => ("NightMove", "goods", "LNightMove$Goods;", true)
  | 1 => ("NightMove", "convoys", "LNightMove$Convoys;", true)
  | 2 => ("NightMove", "sharing", "LNightMove$Sharing;", true)
  | 3 => ("NightMove", "traffic", "LNightMove$Traffic;", true)
  | 4 => ("NightMove", "stages", "LNightMove$Stages;", true)
  | 5 => ("NightMove", "faults", "LNightMove$Faults;", true)
  | 6 => ("NightMove", "tape", "LNightMove$Tape;", true)
  | 7 => ("NightMove", "ruleText", "LNightMove$Tape;", true)
  | 8 => ("NightMove", "reader", "LNightMove$Reader;", true)
  | 9 => ("NightMove", "now", "I", false)
  | 10 => ("NightMove", "moveEnd", "I", false)
  | _ => ("NightMove", "settled", "Z", false)
def tyX8 : Nat → FieldType := fun k => match k with
  | 0 => .object "NightMove$Goods"
  | 1 => .object "NightMove$Convoys"
  | 2 => .object "NightMove$Sharing"
  | 3 => .object "NightMove$Traffic"
  | 4 => .object "NightMove$Stages"
  | 5 => .object "NightMove$Faults"
  | 6 => .object "NightMove$Tape"
  | 7 => .object "NightMove$Tape"
  | 8 => .object "NightMove$Reader"
  | 9 => .int
  | 10 => .int
  | _ => .boolean
abbrev wsX80 : List Cond := u_ws RX8 TX8 12
theorem nmX8 : ∀ a, a < 12 → ∀ b, b < 12 → a ≠ b → (TX8 a).2.1 ≠ (TX8 b).2.1 := by decide +kernel
theorem tyX8_ok : ∀ k, k < 12 → parseFieldDescriptor (TX8 k).2.2.1 = some (tyX8 k) := by decide +kernel
abbrev cX8_init : ByteArray := prog_1_method_1_code
def yX8_init : MethodName := ⟨RX8, "<init>", "()V"⟩
abbrev cX8_thing : ByteArray := prog_1_method_2_code
def yX8_thing : MethodName := ⟨RX8, "thing", "(IIII)I"⟩
abbrev cX8_convoy : ByteArray := prog_1_method_3_code
def yX8_convoy : MethodName := ⟨RX8, "convoy", "(III)I"⟩
abbrev cX8_set : ByteArray := prog_1_method_4_code
def yX8_set : MethodName := ⟨RX8, "set", "(III)Z"⟩
abbrev cX8_least : ByteArray := prog_1_method_5_code
def yX8_least : MethodName := ⟨RX8, "least", "()I"⟩
abbrev cX8_share : ByteArray := prog_1_method_6_code
def yX8_share : MethodName := ⟨RX8, "share", "(I)I"⟩
abbrev cX8_settle : ByteArray := prog_1_method_7_code
def yX8_settle : MethodName := ⟨RX8, "settle", "()I"⟩
abbrev cX8_late : ByteArray := prog_1_method_8_code
def yX8_late : MethodName := ⟨RX8, "late", "(II)Z"⟩
abbrev cX8_road : ByteArray := prog_1_method_9_code
def yX8_road : MethodName := ⟨RX8, "road", "(III)I"⟩
abbrev cX8_place : ByteArray := prog_1_method_10_code
def yX8_place : MethodName := ⟨RX8, "place", "(III)I"⟩
abbrev cX8_lacks : ByteArray := prog_1_method_11_code
def yX8_lacks : MethodName := ⟨RX8, "lacks", "(II)I"⟩
abbrev cX8_many : ByteArray := prog_1_method_12_code
def yX8_many : MethodName := ⟨RX8, "many", "(III)I"⟩
abbrev cX8_stage : ByteArray := prog_1_method_13_code
def yX8_stage : MethodName := ⟨RX8, "stage", "(IIIZ)I"⟩
abbrev cX8_begin : ByteArray := prog_1_method_14_code
def yX8_begin : MethodName := ⟨RX8, "begin", "(I)Z"⟩
abbrev cX8_fail : ByteArray := prog_1_method_15_code
def yX8_fail : MethodName := ⟨RX8, "fail", "(I)Z"⟩
abbrev cX8_tick : ByteArray := prog_1_method_16_code
def yX8_tick : MethodName := ⟨RX8, "tick", "(I)I"⟩
abbrev cX8_told : ByteArray := prog_1_method_17_code
def yX8_told : MethodName := ⟨RX8, "told", "(II)I"⟩
abbrev cX8_back : ByteArray := prog_1_method_18_code
def yX8_back : MethodName := ⟨RX8, "back", "()I"⟩
abbrev cX8_whole : ByteArray := prog_1_method_19_code
def yX8_whole : MethodName := ⟨RX8, "whole", "()I"⟩
abbrev cX8_ready : ByteArray := prog_1_method_20_code
def yX8_ready : MethodName := ⟨RX8, "ready", "()I"⟩
abbrev cX8_find : ByteArray := prog_1_method_21_code
def yX8_find : MethodName := ⟨RX8, "find", "()I"⟩
abbrev cX8_close : ByteArray := prog_1_method_22_code
def yX8_close : MethodName := ⟨RX8, "close", "(I)Z"⟩
abbrev cX8_feed : ByteArray := prog_1_method_23_code
def yX8_feed : MethodName := ⟨RX8, "feed", "(I)I"⟩
abbrev cX8_end : ByteArray := prog_1_method_24_code
def yX8_end : MethodName := ⟨RX8, "end", "(I)Z"⟩
abbrev cX8_fault : ByteArray := prog_1_method_25_code
def yX8_fault : MethodName := ⟨RX8, "fault", "()I"⟩
abbrev cX8_rule : ByteArray := prog_1_method_26_code
def yX8_rule : MethodName := ⟨RX8, "rule", "()Z"⟩
abbrev cX8_go : ByteArray := prog_1_method_27_code
def yX8_go : MethodName := ⟨RX8, "go", "()I"⟩
abbrev cX8_count : ByteArray := prog_1_method_28_code
def yX8_count : MethodName := ⟨RX8, "count", "(I)I"⟩
abbrev cX8_isThing : ByteArray := prog_1_method_29_code
def yX8_isThing : MethodName := ⟨RX8, "isThing", "(I)Z"⟩
abbrev cX8_isConvoy : ByteArray := prog_1_method_30_code
def yX8_isConvoy : MethodName := ⟨RX8, "isConvoy", "(I)Z"⟩
abbrev cX8_isStage : ByteArray := prog_1_method_31_code
def yX8_isStage : MethodName := ⟨RX8, "isStage", "(I)Z"⟩
abbrev cX8_isKnown : ByteArray := prog_1_method_32_code
def yX8_isKnown : MethodName := ⟨RX8, "isKnown", "(I)Z"⟩
abbrev cX8_within : ByteArray := prog_1_method_33_code
def yX8_within : MethodName := ⟨RX8, "within", "(III)Z"⟩
def RX9 : String := "NightMoveModel"
def TX9 : u_T := fun k => match k with
  | 0 => ("NightMoveModel", "now", "I", false)
  | 1 => ("NightMoveModel", "things", "I", false)
  | 2 => ("NightMoveModel", "convoys", "I", false)
  | 3 => ("NightMoveModel", "lates", "I", false)
  | 4 => ("NightMoveModel", "stages", "I", false)
  | 5 => ("NightMoveModel", "faults", "I", false)
  | 6 => ("NightMoveModel", "fails", "I", false)
  | 7 => ("NightMoveModel", "way", "I", false)
  | 8 => ("NightMoveModel", "headway", "I", false)
  | 9 => ("NightMoveModel", "last", "I", false)
  | 10 => ("NightMoveModel", "settled", "Z", false)
  | 11 => ("NightMoveModel", "until", "[I", true)
  | 12 => ("NightMoveModel", "since", "[I", true)
  | 13 => ("NightMoveModel", "load", "[I", true)
  | 14 => ("NightMoveModel", "cost", "[I", true)
  | 15 => ("NightMoveModel", "leave", "[I", true)
  | 16 => ("NightMoveModel", "room", "[I", true)
  | 17 => ("NightMoveModel", "limit", "[I", true)
  | 18 => ("NightMoveModel", "trying", "[I", true)
  | 19 => ("NightMoveModel", "best", "[I", true)
  | 20 => ("NightMoveModel", "taken", "[I", true)
  | 21 => ("NightMoveModel", "laden", "[I", true)
  | 22 => ("NightMoveModel", "bestCost", "I", false)
  | 23 => ("NightMoveModel", "lateOf", "[I", true)
  | 24 => ("NightMoveModel", "lateBy", "[I", true)
  | 25 => ("NightMoveModel", "lateTold", "[I", true)
  | 26 => ("NightMoveModel", "minutes", "[I", true)
  | 27 => ("NightMoveModel", "needs", "[I", true)
  | 28 => ("NightMoveModel", "backs", "[I", true)
  | 29 => ("NightMoveModel", "point", "[Z", true)
  | 30 => ("NightMoveModel", "state", "[I", true)
  | 31 => ("NightMoveModel", "began", "[I", true)
  | 32 => ("NightMoveModel", "safe", "[Z", true)
  | 33 => ("NightMoveModel", "row", "[I", true)
  | 34 => ("NightMoveModel", "rows", "I", false)
  | 35 => ("NightMoveModel", "left", "I", false)
  | 36 => ("NightMoveModel", "doneAt", "[I", true)
  | 37 => ("NightMoveModel", "closed", "[Z", true)
  | 38 => ("NightMoveModel", "tape", "[I", true)
  | 39 => ("NightMoveModel", "codes", "[I", true)
  | 40 => ("NightMoveModel", "saying", "[I", true)
  | 41 => ("NightMoveModel", "size", "I", false)
  | 42 => ("NightMoveModel", "at", "I", false)
  | 43 => ("NightMoveModel", "wrong", "I", false)
  | 44 => ("NightMoveModel", "deep", "I", false)
  | 45 => ("NightMoveModel", "said", "I", false)
  | 46 => ("NightMoveModel", "ruled", "Z", false)
  | _ => ("NightMoveModel", "pile", "[Z", true)
def tyX9 : Nat → FieldType := fun k => match k with
  | 0 => .int
  | 1 => .int
  | 2 => .int
  | 3 => .int
  | 4 => .int
  | 5 => .int
  | 6 => .int
  | 7 => .int
  | 8 => .int
  | 9 => .int
  | 10 => .boolean
  | 11 => .array .int
  | 12 => .array .int
  | 13 => .array .int
  | 14 => .array .int
  | 15 => .array .int
  | 16 => .array .int
  | 17 => .array .int
  | 18 => .array .int
  | 19 => .array .int
  | 20 => .array .int
  | 21 => .array .int
  | 22 => .int
  | 23 => .array .int
  | 24 => .array .int
  | 25 => .array .int
  | 26 => .array .int
  | 27 => .array .int
  | 28 => .array .int
  | 29 => .array .boolean
  | 30 => .array .int
  | 31 => .array .int
  | 32 => .array .boolean
  | 33 => .array .int
  | 34 => .int
  | 35 => .int
  | 36 => .array .int
  | 37 => .array .boolean
  | 38 => .array .int
  | 39 => .array .int
  | 40 => .array .int
  | 41 => .int
  | 42 => .int
  | 43 => .int
  | 44 => .int
  | 45 => .int
  | 46 => .boolean
  | _ => .array .boolean
abbrev wsX90 : List Cond := u_ws RX9 TX9 48
theorem nmX9 : ∀ a, a < 48 → ∀ b, b < 48 → a ≠ b → (TX9 a).2.1 ≠ (TX9 b).2.1 := by decide +kernel
theorem tyX9_ok : ∀ k, k < 48 → parseFieldDescriptor (TX9 k).2.2.1 = some (tyX9 k) := by decide +kernel
abbrev cX9_in : ByteArray := prog_11_method_1_code
def yX9_in : MethodName := ⟨RX9, "in", "(III)Z"⟩
abbrev cX9_init : ByteArray := prog_11_method_2_code
def yX9_init : MethodName := ⟨RX9, "<init>", "()V"⟩
abbrev cX9_thing : ByteArray := prog_11_method_3_code
def yX9_thing : MethodName := ⟨RX9, "thing", "(IIII)I"⟩
abbrev cX9_convoy : ByteArray := prog_11_method_4_code
def yX9_convoy : MethodName := ⟨RX9, "convoy", "(III)I"⟩
abbrev cX9_set : ByteArray := prog_11_method_5_code
def yX9_set : MethodName := ⟨RX9, "set", "(III)Z"⟩
abbrev cX9_shareOn : ByteArray := prog_11_method_6_code
def yX9_shareOn : MethodName := ⟨RX9, "shareOn", "(II)V"⟩
abbrev cX9_findBest : ByteArray := prog_11_method_7_code
def yX9_findBest : MethodName := ⟨RX9, "findBest", "()V"⟩
abbrev cX9_least : ByteArray := prog_11_method_8_code
def yX9_least : MethodName := ⟨RX9, "least", "()I"⟩
abbrev cX9_share : ByteArray := prog_11_method_9_code
def yX9_share : MethodName := ⟨RX9, "share", "(I)I"⟩
abbrev cX9_settle : ByteArray := prog_11_method_10_code
def yX9_settle : MethodName := ⟨RX9, "settle", "()I"⟩
abbrev cX9_leaves : ByteArray := prog_11_method_11_code
def yX9_leaves : MethodName := ⟨RX9, "leaves", "(II)I"⟩
abbrev cX9_isAhead : ByteArray := prog_11_method_12_code
def yX9_isAhead : MethodName := ⟨RX9, "isAhead", "(IIII)Z"⟩
abbrev cX9_bridge : ByteArray := prog_11_method_13_code
def yX9_bridge : MethodName := ⟨RX9, "bridge", "(II)I"⟩
abbrev cX9_there : ByteArray := prog_11_method_14_code
def yX9_there : MethodName := ⟨RX9, "there", "(II)I"⟩
abbrev cX9_late : ByteArray := prog_11_method_15_code
def yX9_late : MethodName := ⟨RX9, "late", "(II)Z"⟩
abbrev cX9_road : ByteArray := prog_11_method_16_code
def yX9_road : MethodName := ⟨RX9, "road", "(III)I"⟩
abbrev cX9_placeOf : ByteArray := prog_11_method_17_code
def yX9_placeOf : MethodName := ⟨RX9, "placeOf", "(III)I"⟩
abbrev cX9_isAsked : ByteArray := prog_11_method_18_code
def yX9_isAsked : MethodName := ⟨RX9, "isAsked", "(II)Z"⟩
abbrev cX9_place : ByteArray := prog_11_method_19_code
def yX9_place : MethodName := ⟨RX9, "place", "(III)I"⟩
abbrev cX9_lacks : ByteArray := prog_11_method_20_code
def yX9_lacks : MethodName := ⟨RX9, "lacks", "(II)I"⟩
abbrev cX9_many : ByteArray := prog_11_method_21_code
def yX9_many : MethodName := ⟨RX9, "many", "(III)I"⟩
abbrev cX9_stage : ByteArray := prog_11_method_22_code
def yX9_stage : MethodName := ⟨RX9, "stage", "(IIIZ)I"⟩
abbrev cX9_isStage : ByteArray := prog_11_method_23_code
def yX9_isStage : MethodName := ⟨RX9, "isStage", "(I)Z"⟩
abbrev cX9_begin : ByteArray := prog_11_method_24_code
def yX9_begin : MethodName := ⟨RX9, "begin", "(I)Z"⟩
abbrev cX9_settleBack : ByteArray := prog_11_method_25_code
def yX9_settleBack : MethodName := ⟨RX9, "settleBack", "()V"⟩
abbrev cX9_fail : ByteArray := prog_11_method_26_code
def yX9_fail : MethodName := ⟨RX9, "fail", "(I)Z"⟩
abbrev cX9_minute : ByteArray := prog_11_method_27_code
def yX9_minute : MethodName := ⟨RX9, "minute", "()V"⟩
abbrev cX9_tick : ByteArray := prog_11_method_28_code
def yX9_tick : MethodName := ⟨RX9, "tick", "(I)I"⟩
abbrev cX9_told : ByteArray := prog_11_method_29_code
def yX9_told : MethodName := ⟨RX9, "told", "(II)I"⟩
abbrev cX9_back : ByteArray := prog_11_method_30_code
def yX9_back : MethodName := ⟨RX9, "back", "()I"⟩
abbrev cX9_whole : ByteArray := prog_11_method_31_code
def yX9_whole : MethodName := ⟨RX9, "whole", "()I"⟩
abbrev cX9_ready : ByteArray := prog_11_method_32_code
def yX9_ready : MethodName := ⟨RX9, "ready", "()I"⟩
abbrev cX9_find : ByteArray := prog_11_method_33_code
def yX9_find : MethodName := ⟨RX9, "find", "()I"⟩
abbrev cX9_close : ByteArray := prog_11_method_34_code
def yX9_close : MethodName := ⟨RX9, "close", "(I)Z"⟩
abbrev cX9_openMany : ByteArray := prog_11_method_35_code
def yX9_openMany : MethodName := ⟨RX9, "openMany", "()I"⟩
abbrev cX9_doneMany : ByteArray := prog_11_method_36_code
def yX9_doneMany : MethodName := ⟨RX9, "doneMany", "()I"⟩
abbrev cX9_feed : ByteArray := prog_11_method_37_code
def yX9_feed : MethodName := ⟨RX9, "feed", "(I)I"⟩
abbrev cX9_end : ByteArray := prog_11_method_38_code
def yX9_end : MethodName := ⟨RX9, "end", "(I)Z"⟩
abbrev cX9_look : ByteArray := prog_11_method_39_code
def yX9_look : MethodName := ⟨RX9, "look", "()I"⟩
abbrev cX9_bad : ByteArray := prog_11_method_40_code
def yX9_bad : MethodName := ⟨RX9, "bad", "()V"⟩
abbrev cX9_say : ByteArray := prog_11_method_41_code
def yX9_say : MethodName := ⟨RX9, "say", "(I)V"⟩
abbrev cX9_unit : ByteArray := prog_11_method_42_code
def yX9_unit : MethodName := ⟨RX9, "unit", "()V"⟩
abbrev cX9_part : ByteArray := prog_11_method_43_code
def yX9_part : MethodName := ⟨RX9, "part", "()V"⟩
abbrev cX9_tests : ByteArray := prog_11_method_44_code
def yX9_tests : MethodName := ⟨RX9, "tests", "()V"⟩
abbrev cX9_fault : ByteArray := prog_11_method_45_code
def yX9_fault : MethodName := ⟨RX9, "fault", "()I"⟩
abbrev cX9_rule : ByteArray := prog_11_method_46_code
def yX9_rule : MethodName := ⟨RX9, "rule", "()Z"⟩
abbrev cX9_go : ByteArray := prog_11_method_47_code
def yX9_go : MethodName := ⟨RX9, "go", "()I"⟩
abbrev cX9_count : ByteArray := prog_11_method_48_code
def yX9_count : MethodName := ⟨RX9, "count", "(I)I"⟩
def RJ6 : String := "java/lang/Integer"
def TJ6 : u_T := fun k => match k with
  | _ => ("", "", "", false)
def tyJ6 : Nat → FieldType := fun k => match k with
  | _ => .int
abbrev wsJ60 : List Cond := u_ws RJ6 TJ6 0
theorem nmJ6 : ∀ a, a < 0 → ∀ b, b < 0 → a ≠ b → (TJ6 a).2.1 ≠ (TJ6 b).2.1 := by decide +kernel
theorem tyJ6_ok : ∀ k, k < 0 → parseFieldDescriptor (TJ6 k).2.2.1 = some (tyJ6 k) := by decide +kernel
abbrev cJ6_bitCount_0f7a4 : ByteArray := prog_12_method_49_code
def yJ6_bitCount_0f7a4 : MethodName := ⟨RJ6, "bitCount", "(I)I"⟩
def RJ9 : String := "java/lang/Math"
def TJ9 : u_T := fun k => match k with
  | _ => ("", "", "", false)
def tyJ9 : Nat → FieldType := fun k => match k with
  | _ => .int
abbrev wsJ90 : List Cond := u_ws RJ9 TJ9 0
theorem nmJ9 : ∀ a, a < 0 → ∀ b, b < 0 → a ≠ b → (TJ9 a).2.1 ≠ (TJ9 b).2.1 := by decide +kernel
theorem tyJ9_ok : ∀ k, k < 0 → parseFieldDescriptor (TJ9 k).2.2.1 = some (tyJ9 k) := by decide +kernel
abbrev cJ9_max_7cf53 : ByteArray := prog_13_method_65_code
def yJ9_max_7cf53 : MethodName := ⟨RJ9, "max", "(II)I"⟩
abbrev cJ9_min_f86c9 : ByteArray := prog_13_method_70_code
def yJ9_min_f86c9 : MethodName := ⟨RJ9, "min", "(JJ)J"⟩
def RL : String := "NightMoveLaw"
abbrev cL_law : ByteArray := code
def yL_law : MethodName := ⟨RL, "law", "([I)Z"⟩
abbrev vwCl : List vw_C := [(RX0, TX0, 7), (RX1, TX1, 3), (RX2, TX2, 5), (RX3, TX3, 12), (RX4, TX4, 6), (RX5, TX5, 11), (RX6, TX6, 2), (RX7, TX7, 8), (RX8, TX8, 12), (RX9, TX9, 48)]
end
section
/-! The flat machine: cells by number, steps as functions; nm_X is the least predicate that its steps close. -/
abbrev nm_E : Type := (Nat × Nat × ((Nat → Int32) ⊕ (Nat → Int64))) ⊕ (Nat × List Value)
abbrev nm_W : Type := List nm_E
abbrev nm_K : Type := List Value → nm_W → Prop
abbrev nm_C : Type := Nat → List Value → nm_W → nm_K → Prop
abbrev nm_F : Type := Nat → List Value → List Value → nm_W → Nat → Nat → Prop
abbrev nm_R : Type := (Nat × List Value × List Value × nm_W × Nat × Nat) ⊕ (List Value × nm_W) ⊕ (Nat × List Value × nm_W × Nat × List Value × List Value × Nat × Nat)
abbrev nm_Op : Type := List Value → List Value → nm_W → Nat → Nat → Option nm_R
abbrev nm_T : Type := List (Nat × nm_Op)
abbrev nm_go (pc : Nat) (ls st : List Value) (w : nm_W) (k n : Nat) : Option nm_R := some (.inl (pc, ls, st, w, k, n))
def nm_sem (C : nm_C) (Q : nm_K) (F : nm_F) : Option nm_R → Prop
  | none => False
  | some (.inl (pc, ls, st, w, k, n)) => F pc ls st w k n
  | some (.inr (.inl (v, w))) => Q v w
  | some (.inr (.inr (y, as, w, pc, ls, st, k, n))) => C y as w (fun v w' => F pc ls (v ++ st) w' k n)
def nm_look : nm_T → Nat → Option nm_Op
  | [], _ => none
  | (q, o) :: l, pc => bif Nat.beq q pc then some o else nm_look l pc
def nm_stp (t : nm_T) (C : nm_C) (Q : nm_K) (F : nm_F) : nm_F := fun pc ls st w k n => match nm_look t pc with
  | some op => nm_sem C Q F (op ls st w k n)
  | none => False
def nm_X (t : nm_T) (C : nm_C) (Q : nm_K) : nm_F := fun pc ls st w k n => ∀ F : nm_F, (∀ pc ls st w k n, nm_stp t C Q F pc ls st w k n → F pc ls st w k n) → F pc ls st w k n
def nm_Mono (C : nm_C) : Prop := ∀ (y : Nat) (as : List Value) (w : nm_W) (K K' : nm_K), (∀ v w', K v w' → K' v w') → C y as w K → C y as w K'
theorem nm_sem_mono {C : nm_C} (hC : nm_Mono C) {Q Q' : nm_K} {F F' : nm_F} (hQ : ∀ v w, Q v w → Q' v w) (hF : ∀ pc ls st w k n, F pc ls st w k n → F' pc ls st w k n) {r : Option nm_R} (h : nm_sem C Q F r) : nm_sem C Q' F' r := by
  rcases r with _ | ⟨pc, ls, st, w, k, n⟩ | ⟨v, w⟩ | ⟨y, as, w, pc, ls, st, k, n⟩
  · exact h
  · exact hF _ _ _ _ _ _ h
  · exact hQ _ _ h
  · exact hC _ _ _ _ _ (fun v w' => hF _ _ _ _ _ _) h
theorem nm_stp_mono {t : nm_T} {C : nm_C} (hC : nm_Mono C) {Q Q' : nm_K} {F F' : nm_F} (hQ : ∀ v w, Q v w → Q' v w) (hF : ∀ pc ls st w k n, F pc ls st w k n → F' pc ls st w k n) {pc : Nat} {ls st : List Value} {w : nm_W} {k n : Nat} (h : nm_stp t C Q F pc ls st w k n) : nm_stp t C Q' F' pc ls st w k n := by
  unfold nm_stp at h ⊢
  cases ho : nm_look t pc with
  | none => rw [ho] at h; exact h
  | some op => rw [ho] at h; exact nm_sem_mono hC hQ hF h
theorem nm_X_in {t : nm_T} {C : nm_C} (hC : nm_Mono C) {Q : nm_K} {pc : Nat} {ls st : List Value} {w : nm_W} {k n : Nat} (h : nm_stp t C Q (nm_X t C Q) pc ls st w k n) : nm_X t C Q pc ls st w k n :=
  fun F hF => hF _ _ _ _ _ _ (nm_stp_mono hC (fun _ _ h => h) (fun _ _ _ _ _ _ hx => hx F hF) h)
theorem nm_X_out {t : nm_T} {C : nm_C} (hC : nm_Mono C) {Q : nm_K} {pc : Nat} {ls st : List Value} {w : nm_W} {k n : Nat} (h : nm_X t C Q pc ls st w k n) : nm_stp t C Q (nm_X t C Q) pc ls st w k n :=
  h (nm_stp t C Q (nm_X t C Q)) (fun _ _ _ _ _ _ hx => nm_stp_mono hC (fun _ _ h => h) (fun _ _ _ _ _ _ hy => nm_X_in hC hy) hx)
theorem nm_X_iff {t : nm_T} {C : nm_C} (hC : nm_Mono C) {Q : nm_K} {pc : Nat} {op : nm_Op} (ho : nm_look t pc = some op) {ls st : List Value} {w : nm_W} {k n : Nat} : nm_X t C Q pc ls st w k n ↔ nm_sem C Q (nm_X t C Q) (op ls st w k n) := by
  constructor
  · intro h
    have := nm_X_out hC h
    unfold nm_stp at this
    rw [ho] at this
    exact this
  · intro h
    refine nm_X_in hC ?_
    unfold nm_stp
    rw [ho]
    exact h
theorem nm_X_mono {t : nm_T} {C : nm_C} (hC : nm_Mono C) {Q Q' : nm_K} (hQ : ∀ v w, Q v w → Q' v w) {pc : Nat} {ls st : List Value} {w : nm_W} {k n : Nat} (h : nm_X t C Q pc ls st w k n) : nm_X t C Q' pc ls st w k n :=
  h (nm_X t C Q') (fun _ _ _ _ _ _ hx => nm_X_in hC (nm_stp_mono hC hQ (fun _ _ _ _ _ _ hy => hy) hx))
/-- two ends of one run are one end -/
def nm_Conj (C : nm_C) : Prop := ∀ (y : Nat) (as : List Value) (w : nm_W) (K K' : nm_K), C y as w K → C y as w K' → C y as w (fun v w' => K v w' ∧ K' v w')
def nm_Strict (C : nm_C) : Prop := ∀ (y : Nat) (as : List Value) (w : nm_W), C y as w (fun _ _ => False) → False
theorem nm_X_conj {t : nm_T} {C : nm_C} (hC : nm_Mono C) (hJ : nm_Conj C) {Q Q' : nm_K} {pc : Nat} {ls st : List Value} {w : nm_W} {k n : Nat} (h : nm_X t C Q pc ls st w k n) (h' : nm_X t C Q' pc ls st w k n) : nm_X t C (fun v w' => Q v w' ∧ Q' v w') pc ls st w k n := by
  refine h (fun pc ls st w k n => nm_X t C Q' pc ls st w k n → nm_X t C (fun v w' => Q v w' ∧ Q' v w') pc ls st w k n) ?_ h'
  intro pc ls st w k n hs hx
  refine nm_X_in hC ?_
  have hx := nm_X_out hC hx
  unfold nm_stp at hs hx ⊢
  cases ho : nm_look t pc with
  | none => rw [ho] at hs; exact hs
  | some op =>
    rw [ho] at hs hx
    dsimp only at hs hx ⊢
    generalize op ls st w k n = r at hs hx ⊢
    rcases r with _ | ⟨pc, ls, st, w, k, n⟩ | ⟨v, w⟩ | ⟨y, as, w, pc, ls, st, k, n⟩
    · exact hs
    · exact hs hx
    · exact ⟨hs, hx⟩
    · exact hC _ _ _ _ _ (fun v w' hh => hh.1 hh.2) (hJ _ _ _ _ _ hs hx)
theorem nm_X_strict {t : nm_T} {C : nm_C} (hS : nm_Strict C) {pc : Nat} {ls st : List Value} {w : nm_W} {k n : Nat} (h : nm_X t C (fun _ _ => False) pc ls st w k n) : False := by
  refine h (fun _ _ _ _ _ _ => False) ?_
  intro pc ls st w k n hs
  unfold nm_stp at hs
  cases ho : nm_look t pc with
  | none => rw [ho] at hs; exact hs
  | some op =>
    rw [ho] at hs
    dsimp only at hs
    generalize op ls st w k n = r at hs
    rcases r with _ | ⟨pc, ls, st, w, k, n⟩ | ⟨v, w⟩ | ⟨y, as, w, pc, ls, st, k, n⟩
    · exact hs
    · exact hs
    · exact hs
    · exact hS _ _ _ hs
/-! the steps -/
def nm_get (w : nm_W) (a ci j : Nat) : Option Value := match w[a]? with
  | some (.inr (c, fs)) => if c = ci then fs[j]? else none
  | _ => none
def nm_put (w : nm_W) (a ci j : Nat) (v : Value) : Option nm_W := match w[a]? with
  | some (.inr (c, fs)) => if c = ci ∧ j < fs.length then some (w.set a (.inr (c, fs.set j v))) else none
  | _ => none
def nm_ald (w : nm_W) (a t : Nat) (i : Int32) : Option Int32 := match w[a]? with
  | some (.inl (t', n, .inl f)) => if t' = t ∧ ¬ (i < 0 ∨ n ≤ i.toNatClampNeg) then some (f i.toNatClampNeg) else none
  | _ => none
def nm_lald (w : nm_W) (a : Nat) (i : Int32) : Option Int64 := match w[a]? with
  | some (.inl (t', n, .inr f)) => if t' = 3 ∧ ¬ (i < 0 ∨ n ≤ i.toNatClampNeg) then some (f i.toNatClampNeg) else none
  | _ => none
def nm_nar (t : Nat) (x : Int32) : Int32 := match t with
  | 0 => vp_nar .boolean x
  | 1 => vp_nar .char x
  | _ => x
def nm_ast (w : nm_W) (a t : Nat) (i x : Int32) : Option nm_W := match w[a]? with
  | some (.inl (t', n, .inl f)) => if t' = t ∧ ¬ (i < 0 ∨ n ≤ i.toNatClampNeg) then some (w.set a (.inl (t', n, .inl (upd f i.toNatClampNeg (nm_nar t x))))) else none
  | _ => none
def nm_last (w : nm_W) (a : Nat) (i : Int32) (x : Int64) : Option nm_W := match w[a]? with
  | some (.inl (t', n, .inr f)) => if t' = 3 ∧ ¬ (i < 0 ∨ n ≤ i.toNatClampNeg) then some (w.set a (.inl (t', n, .inr (vp_updL f i.toNatClampNeg x)))) else none
  | _ => none
def nm_swt (lo : Int) (ts : List Nat) (d : Nat) (x : Int32) : Nat := if x.toInt < lo then d else ts.getD (x.toInt - lo).toNat d
def op_push (v : Value) (nx : Nat) : nm_Op := fun ls st w k n => nm_go nx ls (v :: st) w k n
def op_ldI (i nx : Nat) : nm_Op := fun ls st w k n => match ls[i]? with
  | some (.int x) => nm_go nx ls (.int x :: st) w k n
  | _ => none
def op_ldL (i nx : Nat) : nm_Op := fun ls st w k n => match ls[i]? with
  | some (.long x) => nm_go nx ls (.long x :: st) w k n
  | _ => none
def op_ldA (i nx : Nat) : nm_Op := fun ls st w k n => match ls[i]? with
  | some (.ref a) => nm_go nx ls (.ref a :: st) w k n
  | some (.float z) => nm_go nx ls (.float z :: st) w k n
  | _ => none
def op_stI (i nx : Nat) : nm_Op := fun ls st w k n => match st with
  | .int x :: r => nm_go nx (ls.set i (.int x)) r w k n
  | _ => none
def op_stL (i nx : Nat) : nm_Op := fun ls st w k n => match st with
  | .long x :: r => nm_go nx ((ls.set i (.long x)).set (i + 1) .null) r w k n
  | _ => none
def op_stA (i nx : Nat) : nm_Op := fun ls st w k n => match st with
  | .ref x :: r => nm_go nx (ls.set i (.ref x)) r w k n
  | _ => none
def op_inc (i : Nat) (c : Int32) (nx : Nat) : nm_Op := fun ls st w k n => match ls[i]? with
  | some (.int x) => nm_go nx (ls.set i (.int (x + c))) st w k n
  | _ => none
def op_bin (f : Int32 → Int32 → Int32) (nx : Nat) : nm_Op := fun ls st w k n => match st with
  | .int y :: .int x :: r => nm_go nx ls (.int (f x y) :: r) w k n
  | _ => none
def op_div (nx : Nat) : nm_Op := fun ls st w k n => match st with
  | .int y :: .int x :: r => if y = 0 then none else nm_go nx ls (.int (x / y) :: r) w k n
  | _ => none
def op_lbin (f : Int64 → Int64 → Int64) (nx : Nat) : nm_Op := fun ls st w k n => match st with
  | .long y :: .long x :: r => nm_go nx ls (.long (f x y) :: r) w k n
  | _ => none
def op_lsh (f : Int64 → Int32 → Int64) (nx : Nat) : nm_Op := fun ls st w k n => match st with
  | .int y :: .long x :: r => nm_go nx ls (.long (f x y) :: r) w k n
  | _ => none
def op_lcmp (nx : Nat) : nm_Op := fun ls st w k n => match st with
  | .long y :: .long x :: r => nm_go nx ls (.int (lg_cmp x y) :: r) w k n
  | _ => none
def op_i2l (nx : Nat) : nm_Op := fun ls st w k n => match st with
  | .int x :: r => nm_go nx ls (.long x.toInt64 :: r) w k n
  | _ => none
def op_l2i (nx : Nat) : nm_Op := fun ls st w k n => match st with
  | .long x :: r => nm_go nx ls (.int x.toInt32 :: r) w k n
  | _ => none
def op_i2c (nx : Nat) : nm_Op := fun ls st w k n => match st with
  | .int x :: r => nm_go nx ls (.int (x.toUInt32 % 65536).toInt32 :: r) w k n
  | _ => none
def op_dup (nx : Nat) : nm_Op := fun ls st w k n => match st with
  | .ref a :: r => nm_go nx ls (.ref a :: .ref a :: r) w k n
  | .int a :: r => nm_go nx ls (.int a :: .int a :: r) w k n
  | _ => none
def op_pop (nx : Nat) : nm_Op := fun ls st w k n => match st with
  | .int _ :: r => nm_go nx ls r w k n
  | _ => none
def op_dup2 (nx : Nat) : nm_Op := fun ls st w k n => match st with
  | .int i :: .ref a :: r => nm_go nx ls (.int i :: .ref a :: .int i :: .ref a :: r) w k n
  | _ => none
def op_goto (nx : Nat) : nm_Op := fun ls st w k n => nm_go nx ls st w k n
def op_if (f : Int32 → Int32 → Bool) (tg nx : Nat) : nm_Op := fun ls st w k n => match st with
  | .int y :: .int x :: r => if f x y = true then nm_go tg ls r w k n else nm_go nx ls r w k n
  | _ => none
def op_ifz (f : Int32 → Bool) (tg nx : Nat) : nm_Op := fun ls st w k n => match st with
  | .int x :: r => if f x = true then nm_go tg ls r w k n else nm_go nx ls r w k n
  | _ => none
def op_sw (lo : Int) (ts : List Nat) (d : Nat) : nm_Op := fun ls st w k n => match st with
  | .int x :: r => nm_go (nm_swt lo ts d x) ls r w k n
  | _ => none
def op_get (ci j nx : Nat) : nm_Op := fun ls st w k n => match st with
  | .ref a :: r => match nm_get w a ci j with
    | some v => nm_go nx ls (v :: r) w k n
    | none => none
  | _ => none
/-- kinds: 0 boolean, 1 char, 2 int -/
def op_putI (ci j t nx : Nat) : nm_Op := fun ls st w k n => match st with
  | .int x :: .ref a :: r => if (t = 0 ∧ ¬ (x = 0 ∨ x = 1)) ∨ (t = 1 ∧ ¬ (0 ≤ x ∧ x ≤ 65535)) then none else match nm_put w a ci j (.int x) with
    | some w' => nm_go nx ls r w' k n
    | none => none
  | _ => none
def op_putL (ci j nx : Nat) : nm_Op := fun ls st w k n => match st with
  | .long x :: .ref a :: r => match nm_put w a ci j (.long x) with
    | some w' => nm_go nx ls r w' k n
    | none => none
  | _ => none
def op_putA (ci j nx : Nat) : nm_Op := fun ls st w k n => match st with
  | .ref x :: .ref a :: r => match nm_put w a ci j (.ref x) with
    | some w' => nm_go nx ls r w' k n
    | none => none
  | _ => none
def op_ald (t nx : Nat) : nm_Op := fun ls st w k n => match st with
  | .int i :: .ref a :: r => match nm_ald w a t i with
    | some x => nm_go nx ls (.int x :: r) w k n
    | none => none
  | _ => none
def op_lald (nx : Nat) : nm_Op := fun ls st w k n => match st with
  | .int i :: .ref a :: r => match nm_lald w a i with
    | some x => nm_go nx ls (.long x :: r) w k n
    | none => none
  | _ => none
def op_ast (t nx : Nat) : nm_Op := fun ls st w k n => match st with
  | .int x :: .int i :: .ref a :: r => match nm_ast w a t i x with
    | some w' => nm_go nx ls r w' k n
    | none => none
  | _ => none
def op_last (nx : Nat) : nm_Op := fun ls st w k n => match st with
  | .long x :: .int i :: .ref a :: r => match nm_last w a i x with
    | some w' => nm_go nx ls r w' k n
    | none => none
  | _ => none
def op_sald (L : Nat) (xs : Nat → Int32) (nx : Nat) : nm_Op := fun ls st w k n => match st with
  | .int i :: .float _ :: r => if i < 0 ∨ L ≤ i.toNatClampNeg then none else nm_go nx ls (.int (xs i.toNatClampNeg) :: r) w k n
  | _ => none
def op_slen (L nx : Nat) : nm_Op := fun ls st w k n => match st with
  | .float _ :: r => nm_go nx ls (.int (Int32.ofNat L) :: r) w k n
  | _ => none
def op_new (ci N MC MS nx : Nat) (fs : List Value) : nm_Op := fun ls st w k n => if k + 1 ≤ MC ∧ n + N ≤ MS then nm_go nx ls (.ref w.length :: st) (w ++ [.inr (ci, fs)]) (k + 1) (n + N) else none
def op_newa (t MC MS nx : Nat) : nm_Op := fun ls st w k n => match st with
  | .int c :: r => if ¬ c < 0 ∧ c.toNatClampNeg ≤ 10000 ∧ k + 1 ≤ MC ∧ n + c.toNatClampNeg ≤ MS then nm_go nx ls (.ref w.length :: r) (w ++ [.inl (t, c.toNatClampNeg, if t = 3 then .inr (fun _ => 0) else .inl (fun _ => 0))]) (k + 1) (n + c.toNatClampNeg) else none
  | _ => none
def op_obj (nx : Nat) : nm_Op := fun ls st w k n => match st with
  | .ref _ :: r => if r.length ≤ 4 then nm_go nx ls r w k n else none
  | _ => none
/-- a call: method y, na values off the stack; rc: the kind of cell that the first must be -/
def nm_rcv (rc : Option Nat) (w : nm_W) (as : List Value) : Bool := match rc with
  | none => true
  | some ci => match as with
    | .ref a :: _ => match w[a]? with
      | some (.inr (c, _)) => c == ci
      | _ => false
    | _ => false
def op_call (y na : Nat) (rc : Option Nat) (mc ms MC MS nx : Nat) : nm_Op := fun ls st w k n =>
  if na ≤ st.length ∧ st.length ≤ na + 4 ∧ nm_rcv rc w (st.take na).reverse = true ∧ k + mc ≤ MC ∧ n + ms ≤ MS then some (.inr (.inr (y, (st.take na).reverse, w, nx, ls, st.drop na, k + mc, n + ms))) else none
def op_retV (MC MS : Nat) : nm_Op := fun _ st w k n => match st with
  | [] => if k ≤ MC ∧ n ≤ MS then some (.inr (.inl ([], w))) else none
  | _ => none
def op_retI (z : Bool) (MC MS : Nat) : nm_Op := fun _ st w k n => match st with
  | [.int x] => if k ≤ MC ∧ n ≤ MS ∧ (z = true → x = 0 ∨ x = 1) then some (.inr (.inl ([.int x], w))) else none
  | _ => none
def op_retL (MC MS : Nat) : nm_Op := fun _ st w k n => match st with
  | [.long x] => if k ≤ MC ∧ n ≤ MS then some (.inr (.inl ([.long x], w))) else none
  | _ => none
def nm_spr : List Value → List Value
  | [] => []
  | v :: vs => if v.category = 2 then v :: .null :: nm_spr vs else v :: nm_spr vs
def nm_ent (mL : Nat) (as : List Value) : List Value := nm_spr as ++ List.replicate (mL - (nm_spr as).length) .null
def nm_lok (S : List Nat) : Nat → List Value → Bool
  | _, [] => true
  | i, v :: vs => (decide (v.category = 1) || decide (i ∈ S)) && nm_lok S (i + 1) vs
end
section
/-! The flat machine and the real one. Cell number k of the flat world lies at base + k; a float stands for the script, which lies at b. -/
def nm_cv (b base : Nat) : Value → Value
  | .ref k => .ref (base + k)
  | .float _ => .ref b
  | v => v
theorem nm_cv_cat (b base : Nat) (v : Value) : (nm_cv b base v).category = v.category := by cases v <;> rfl
def nm_ce (cA : Nat → ClassId) (b base : Nat) : nm_E → va_E
  | .inl (t, n, .inl f) => .inl (cA t, n, .inl f)
  | .inl (t, n, .inr f) => .inl (cA t, n, .inr (.inl f))
  | .inr (c, fs) => .inr (c, fs.map (nm_cv b base))
def nm_cw (cA : Nat → ClassId) (b base : Nat) (w : nm_W) : va_W := w.mapIdx (fun i x => (base + i, nm_ce cA b base x))
theorem nm_cw_at {cA : Nat → ClassId} {b base : Nat} {w : nm_W} {k : Nat} {x : nm_E} (h : w[k]? = some x) : (nm_cw cA b base w)[k]? = some (base + k, nm_ce cA b base x) := by
  simp [nm_cw, List.getElem?_mapIdx, h]
theorem nm_cw_of {cA : Nat → ClassId} {b base : Nat} {w : nm_W} {k : Nat} {q : Nat × va_E} (h : (nm_cw cA b base w)[k]? = some q) : ∃ x, w[k]? = some x ∧ q = (base + k, nm_ce cA b base x) := by
  simp only [nm_cw, List.getElem?_mapIdx, Option.map_eq_some_iff] at h
  obtain ⟨x, h1, h2⟩ := h
  exact ⟨x, h1, h2.symm⟩
theorem nm_cw_set {cA : Nat → ClassId} {b base : Nat} {w : nm_W} {k : Nat} {x : nm_E} : (nm_cw cA b base w).set k (base + k, nm_ce cA b base x) = nm_cw cA b base (w.set k x) := by
  simp [nm_cw, List.mapIdx_set]
theorem nm_cw_push {cA : Nat → ClassId} {b base : Nat} {w : nm_W} {x : nm_E} : nm_cw cA b base w ++ [(base + w.length, nm_ce cA b base x)] = nm_cw cA b base (w ++ [x]) := by
  simp [nm_cw, List.mapIdx_append]
abbrev nm_A (base : Nat) : Nat → Prop := fun q => base ≤ q
theorem nm_cw_D {cA : Nat → ClassId} {b base : Nat} {w : nm_W} : va_D (nm_A base) (nm_cw cA b base w) := by
  refine ⟨fun i j p q h1 h2 h3 => ?_, fun k q h => ?_⟩
  · obtain ⟨x, -, rfl⟩ := nm_cw_of h1
    obtain ⟨y, -, rfl⟩ := nm_cw_of h2
    dsimp only at h3
    omega
  · obtain ⟨x, -, rfl⟩ := nm_cw_of h
    exact Nat.le_add_right _ _
def nm_tys (cA : Nat → ClassId) : List (ClassId × FieldType) := [(cA 0, .boolean), (cA 1, .char), (cA 2, .int), (cA 3, .long)]
def nm_good : List Cond := lw_tbl.filter goodWord
theorem nm_good_in {w : Cond} (h : w ∈ nm_good) : w ∈ lw_tbl ∧ goodWord w = true := List.mem_filter.mp h
theorem nm_good_of {w : Cond} (h : w ∈ lw_tbl) (h2 : goodWord w = true) : w ∈ nm_good := List.mem_filter.mpr ⟨h, h2⟩
/-- the words on calls of nest mates, which go with the state -/
abbrev nm_Q4 : Type := String × Nat × MethodName × String
def nm_nest : List nm_Q4 := lw_tbl.filterMap (fun w => match w with
  | .methodLinkNest a i x h => some (a, i, x, h)
  | _ => none)
def nm_N (U : State) : Prop := ∀ q ∈ nm_nest, va_Nw (.methodLinkNest q.1 q.2.1 q.2.2.1 q.2.2.2) U
theorem nm_N.warm {s U : State} (hW : s.WarmedH U.vm) (h : nm_N s) : nm_N U := fun q hq => va_Nw.warmM hW (h q hq)
theorem nm_N.same {s U : State} (hW : s.vm = U.vm) (h : nm_N s) : nm_N U := fun q hq => va_Nw.same rfl hW (h q hq)
/-- a method: name, code, locals, answer, where its longs lie, what it makes -/
abbrev nm_I : Type := MethodName × ByteArray × Nat × Option FieldType × List Nat × Nat × Nat
abbrev nm_I.nm (i : nm_I) : MethodName := i.1
abbrev nm_I.cc (i : nm_I) : ByteArray := i.2.1
abbrev nm_I.mL (i : nm_I) : Nat := i.2.2.1
abbrev nm_I.rt (i : nm_I) : Option FieldType := i.2.2.2.1
abbrev nm_I.sl (i : nm_I) : List Nat := i.2.2.2.2.1
abbrev nm_I.mc (i : nm_I) : Nat := i.2.2.2.2.2.1
abbrev nm_I.ms (i : nm_I) : Nat := i.2.2.2.2.2.2
def nm_ws (i : nm_I) : List Cond := .code i.nm i.cc i.mL i.rt :: nm_good
def nm_rm (d : Nat) (i : nm_I) : Room := { frames := d, cells := i.mc, slots := i.ms, locals := 64 * d }
def nm_U (D : va_G) (cA : Nat → ClassId) (b base L : Nat) (xs : Nat → Int32) (w : nm_W) (U : State) : Prop :=
  U.heap.size = base + w.length ∧ va_P D vwCl (nm_cw cA b base w) U.heap ∧ va_K D vwCl (nm_tys cA) U ∧ nm_N U ∧ va_X b L xs U U.heap ∧ b < base
def nm_Pc (D : va_G) (cA : Nat → ClassId) (b base L : Nat) (xs : Nat → Int32) (as : List Value) (w : nm_W) : Array Value → State → Prop := va_Pc (as.map (nm_cv b base)) (nm_U D cA b base L xs w)
def nm_Qc (D : va_G) (cA : Nat → ClassId) (b base : Nat) (K : nm_K) : Array Value → State → Outcome → State → Prop := fun _ st oc t =>
  (∃ (o : Option Value) (v : List Value) (w : nm_W), oc = .returned o ∧ o.toList = v.map (nm_cv b base) ∧ K v w ∧ t.heap.size = base + w.length ∧ va_P D vwCl (nm_cw cA b base w) t.heap) ∧ va_F (nm_A base) st t
def nm_CS (I : Nat → Option nm_I) (l : Launch) (D : va_G) (cA : Nat → ClassId) (b base L : Nat) (xs : Nat → Int32) (d : Nat) (C : nm_C) : Prop :=
  ∀ (y : Nat) (as : List Value) (w : nm_W) (K : nm_K) (i : nm_I), C y as w K → I y = some i → Met l i.nm (nm_ws i) (nm_rm d i) (nm_Pc D cA b base L xs as w) (nm_Qc D cA b base K) i.mc i.ms (nm_A base)
def nm_L (b base : Nat) (S : List Nat) (nL : Nat) (ls : List Value) (A : Array Slot) : Prop :=
  A.size = nL ∧ lv_wf A ∧ (∀ (j : Nat) (v : Value), ls[j]? = some v → v ≠ .null → A[j]? = some (.val (nm_cv b base v))) ∧ ∀ (j : Nat) (v : Value), ls[j]? = some v → v.category = 2 → j ∈ S
/-- the listed values -/
def nm_ll (b base : Nat) (ls : List Value) : List (Nat × Value) := (List.range ls.length).filterMap (fun j => match (ls[j]? : Option Value) with
  | some Value.null => none
  | some v => some (j, nm_cv b base v)
  | none => none)
theorem nm_ll_mem {b base : Nat} {ls : List Value} {q : Nat × Value} : q ∈ nm_ll b base ls ↔ ∃ v, ls[q.1]? = some v ∧ v ≠ .null ∧ q.2 = nm_cv b base v := by
  obtain ⟨j, u⟩ := q
  simp only [nm_ll, List.mem_filterMap, List.mem_range]
  constructor
  · rintro ⟨i, hi, h⟩
    cases hv : ls[i]? with
    | none => rw [hv] at h; cases h
    | some v =>
      rw [hv] at h
      cases v <;> first | (cases h; done) | (cases h; exact ⟨_, hv, (fun z => by cases z), rfl⟩)
  · rintro ⟨v, h1, h2, h3⟩
    have hj : j < ls.length := (List.getElem?_eq_some_iff.mp h1).1
    refine ⟨j, hj, ?_⟩
    try dsimp only at h1 h3
    rw [h1, h3]
    cases v <;> first | rfl | exact absurd rfl h2
theorem nm_L.has {b base : Nat} {S : List Nat} {nL : Nat} {ls : List Value} {A : Array Slot} (h : nm_L b base S nL ls A) : lv_has A nL (nm_ll b base ls) := by
  refine ⟨h.1, h.2.1, fun q hq => ?_⟩
  obtain ⟨v, h1, h2, h3⟩ := nm_ll_mem.mp hq
  rw [h3]
  exact h.2.2.1 _ _ h1 h2
theorem nm_L.set1 {b base : Nat} {S : List Nat} {nL : Nat} {ls : List Value} {A A' : Array Slot} {i : Nat} {v : Value} (h : nm_L b base S nL ls A) (hc : v.category = 1) (hS : i = 0 ∨ i - 1 ∉ S) (h' : lv_has A' nL ((i, nm_cv b base v) :: (nm_ll b base ls).filter (fun q => !(q.1 == i) && !(q.1 + 1 == i && q.2.category == 2)))) : nm_L b base S nL (ls.set i v) A' := by
  refine ⟨h'.1, h'.2.1, fun j u hj hn => ?_, fun j u hj hu => ?_⟩
  · by_cases hji : j = i
    · subst hji
      have hl : j < ls.length := by
        have := (List.getElem?_eq_some_iff.mp hj).1
        simpa using this
      rw [List.getElem?_set_self hl] at hj
      cases hj
      exact h'.2.2 (j, _) List.mem_cons_self
    · rw [List.getElem?_set_ne (Ne.symm hji)] at hj
      refine h'.2.2 (j, nm_cv b base u) (List.mem_cons_of_mem _ (List.mem_filter.mpr ⟨nm_ll_mem.mpr ⟨u, hj, hn, rfl⟩, ?_⟩))
      simp only [Bool.and_eq_true, Bool.not_eq_true', beq_eq_false_iff_ne, ne_eq, Bool.and_eq_false_iff, nm_cv_cat]
      refine ⟨hji, ?_⟩
      by_cases h1 : j + 1 = i
      · refine Or.inr (fun h2 => ?_)
        have := h.2.2.2 j u hj h2
        rcases hS with hS | hS
        · omega
        · exact hS (by rw [show i - 1 = j by omega]; exact this)
      · exact Or.inl h1
  · by_cases hji : j = i
    · subst hji
      have hl : j < ls.length := by
        have := (List.getElem?_eq_some_iff.mp hj).1
        simpa using this
      rw [List.getElem?_set_self hl] at hj
      cases hj
      omega
    · rw [List.getElem?_set_ne (Ne.symm hji)] at hj
      exact h.2.2.2 j u hj hu
theorem nm_L.set2 {b base : Nat} {S : List Nat} {nL : Nat} {ls : List Value} {A A' : Array Slot} {i : Nat} {v : Value} (h : nm_L b base S nL ls A) (hS : i = 0 ∨ i - 1 ∉ S) (hi : i ∈ S) (h' : lv_has A' nL ((i, nm_cv b base v) :: (nm_ll b base ls).filter (fun q => !(q.1 == i) && (!(q.1 == i + 1) && !(q.1 + 1 == i && q.2.category == 2))))) : nm_L b base S nL ((ls.set i v).set (i + 1) .null) A' := by
  refine ⟨h'.1, h'.2.1, fun j u hj hn => ?_, fun j u hj hu => ?_⟩
  · by_cases hj1 : j = i + 1
    · subst hj1
      have hl : i + 1 < (ls.set i v).length := by
        have := (List.getElem?_eq_some_iff.mp hj).1
        simpa using this
      rw [List.getElem?_set_self hl] at hj
      cases hj
      exact absurd rfl hn
    rw [List.getElem?_set_ne (Ne.symm hj1)] at hj
    by_cases hji : j = i
    · subst hji
      have hl : j < ls.length := by
        have := (List.getElem?_eq_some_iff.mp hj).1
        simpa using this
      rw [List.getElem?_set_self hl] at hj
      cases hj
      exact h'.2.2 (j, _) List.mem_cons_self
    · rw [List.getElem?_set_ne (Ne.symm hji)] at hj
      refine h'.2.2 (j, nm_cv b base u) (List.mem_cons_of_mem _ (List.mem_filter.mpr ⟨nm_ll_mem.mpr ⟨u, hj, hn, rfl⟩, ?_⟩))
      simp only [Bool.and_eq_true, Bool.not_eq_true', beq_eq_false_iff_ne, ne_eq, Bool.and_eq_false_iff, nm_cv_cat]
      refine ⟨hji, hj1, ?_⟩
      by_cases h1 : j + 1 = i
      · refine Or.inr (fun h2 => ?_)
        have := h.2.2.2 j u hj h2
        rcases hS with hS | hS
        · omega
        · exact hS (by rw [show i - 1 = j by omega]; exact this)
      · exact Or.inl h1
  · by_cases hj1 : j = i + 1
    · subst hj1
      have hl : i + 1 < (ls.set i v).length := by
        have := (List.getElem?_eq_some_iff.mp hj).1
        simpa using this
      rw [List.getElem?_set_self hl] at hj
      cases hj
      cases hu
    rw [List.getElem?_set_ne (Ne.symm hj1)] at hj
    by_cases hji : j = i
    · subst hji
      exact hi
    · rw [List.getElem?_set_ne (Ne.symm hji)] at hj
      exact h.2.2.2 j u hj hu
theorem nm_lok_spec {S : List Nat} : ∀ {vs : List Value} {i : Nat}, nm_lok S i vs = true → ∀ (j : Nat) (v : Value), vs[j]? = some v → v.category = 2 → i + j ∈ S
  | [], i, _, j, v, h, _ => by simp at h
  | u :: vs, i, h, j, v, hj, hv => by
    simp only [nm_lok, Bool.and_eq_true, Bool.or_eq_true, decide_eq_true_eq] at h
    cases j with
    | zero =>
      simp only [List.getElem?_cons_zero, Option.some.injEq] at hj
      subst hj
      rcases h.1 with h1 | h1
      · omega
      · exact h1
    | succ j =>
      rw [List.getElem?_cons_succ] at hj
      have := nm_lok_spec h.2 j v hj hv
      rw [show i + (j + 1) = i + 1 + j by omega]
      exact this
theorem nm_spr_args {b base : Nat} : ∀ (vs : List Value) (i j : Nat) (v : Value), (nm_spr vs)[j]? = some v → v ≠ .null → (i + j, nm_cv b base v) ∈ lv_args i (vs.map (nm_cv b base))
  | [], i, j, v, h, _ => by simp [nm_spr] at h
  | u :: vs, i, j, v, h, hn => by
    simp only [List.map_cons, lv_args, nm_cv_cat]
    unfold nm_spr at h
    by_cases hc : u.category = 2
    · rw [if_pos hc] at h ⊢
      cases j with
      | zero => simp at h; subst h; exact List.mem_cons_self
      | succ j =>
        cases j with
        | zero => simp at h; exact absurd h.symm hn
        | succ j =>
          simp only [List.getElem?_cons_succ] at h
          have := nm_spr_args (b := b) (base := base) vs (i + 2) j v h hn
          rw [show i + (j + 1 + 1) = i + 2 + j by omega]
          exact List.mem_cons_of_mem _ this
    · rw [if_neg hc] at h ⊢
      cases j with
      | zero => simp at h; subst h; exact List.mem_cons_self
      | succ j =>
        simp only [List.getElem?_cons_succ] at h
        have := nm_spr_args (b := b) (base := base) vs (i + 1) j v h hn
        rw [show i + (j + 1) = i + 1 + j by omega]
        exact List.mem_cons_of_mem _ this
theorem nm_spr_len {b base : Nat} : ∀ (vs : List Value), (lg_sl (vs.map (nm_cv b base))).length = (nm_spr vs).length
  | [] => rfl
  | u :: vs => by
    have ih := nm_spr_len (b := b) (base := base) vs
    unfold nm_spr
    by_cases hc : u.category = 2
    · rw [if_pos hc]
      simp only [lg_sl, List.map_cons, List.flatMap_cons, List.length_append, nm_cv_cat, hc] at ih ⊢
      simp at ih ⊢
      omega
    · rw [if_neg hc]
      simp only [lg_sl, List.map_cons, List.flatMap_cons, List.length_append, nm_cv_cat, hc] at ih ⊢
      simp at ih ⊢
      omega
theorem nm_L.entry {b base : Nat} {S : List Nat} {nL : Nat} {as : List Value} (hl : (nm_spr as).length ≤ nL) (hS : nm_lok S 0 (nm_spr as) = true) : nm_L b base S nL (nm_ent nL as) ((lg_sl (as.map (nm_cv b base)) ++ List.replicate (nL - (lg_sl (as.map (nm_cv b base))).length) Slot.unset).toArray) := by
  have h := lv_entry (as.map (nm_cv b base)) (n := nL) (by rw [nm_spr_len]; exact hl)
  have key : ∀ (j : Nat) (v : Value), (nm_ent nL as)[j]? = some v → v ≠ .null → (nm_spr as)[j]? = some v := by
    intro j v hj hn
    unfold nm_ent at hj
    by_cases hlt : j < (nm_spr as).length
    · rw [List.getElem?_append_left hlt] at hj; exact hj
    · rw [List.getElem?_append_right (by omega), List.getElem?_replicate] at hj
      split at hj
      · cases hj; exact absurd rfl hn
      · cases hj
  refine ⟨h.1, h.2.1, fun j v hj hn => ?_, fun j v hj hv => ?_⟩
  · have := nm_spr_args (b := b) (base := base) as 0 j v (key j v hj hn) hn
    rw [Nat.zero_add] at this
    exact h.2.2 _ this
  · have hn : v ≠ .null := fun z => by rw [z] at hv; cases hv
    have := nm_lok_spec hS j v (key j v hj hn) hv
    rw [Nat.zero_add] at this
    exact this
end
section
/-! Each step of the flat machine stands for one instruction. -/
def nm_G (i : nm_I) (D : va_G) (cA : Nat → ClassId) (b base L : Nat) (xs : Nat → Int32) (p : Program) (s : State) (m : MethodId) (args : Array Value) (meth : Method) (c : Code) : Prop :=
  p.tables.exec = Jvm.exec ∧ c.code = i.cc ∧ c.maxLocals = i.mL ∧ s.vm.findClass i.nm.cls = some m.cls ∧ (∀ w ∈ nm_good, w.before args s = true) ∧ nm_N s ∧ va_K D vwCl (nm_tys cA) s ∧ va_X b L xs s s.heap ∧ b < base ∧ base ≤ s.heap.size ∧ (i.nm.name = "<init>" → meth.name = "<init>")
def nm_Rt (i : nm_I) (D : va_G) (cA : Nat → ClassId) (b base : Nat) (p : Program) (l : Launch) (e : Env) (R : Room) (s : State) (m : MethodId) (args : Array Value) (below : List Frame) (meth : Method) (c : Code) (QQ : State → Prop) (Q : nm_K) : Prop :=
  ∀ (v : List Value) (w : nm_W) (H : Heap) (locs : List Loc) (k n : Nat) (A : Array Slot) (pc : Nat), ((∃ x ty, v = [.int x] ∧ decode i.cc pc = .ok (.ireturn, 1) ∧ i.rt = some ty ∧ narrow ty (.int x) = .int x) ∨ (∃ x, v = [.long x] ∧ decode i.cc pc = .ok (.lreturn, 1) ∧ i.rt = some .long) ∨ (v = [] ∧ decode i.cc pc = .ok (.return_, 1) ∧ i.rt = none)) →
    Q v w → H.size = base + w.length → va_P D vwCl (nm_cw cA b base w) H → va_S (nm_A base) s.heap H locs → k ≤ i.mc → n ≤ i.ms → W p l e R s m args below meth c H locs k n QQ (F0 m pc A (v.map (nm_cv b base)))
def nm_Wf (i : nm_I) (D : va_G) (cA : Nat → ClassId) (b base : Nat) (p : Program) (l : Launch) (e : Env) (R : Room) (s : State) (m : MethodId) (args : Array Value) (below : List Frame) (meth : Method) (c : Code) (QQ : State → Prop) : nm_F := fun pc ls st w k n =>
  ∀ (H : Heap) (locs : List Loc) (A : Array Slot), H.size = base + w.length → va_P D vwCl (nm_cw cA b base w) H → va_S (nm_A base) s.heap H locs → nm_L b base i.sl i.mL ls A → W p l e R s m args below meth c H locs k n QQ (F0 m pc A (st.map (nm_cv b base)))
def nm_ok (I : Nat → Option nm_I) (i : nm_I) (L : Nat) (xs : Nat → Int32) (pc : Nat) (op : nm_Op) : Prop :=
  ∀ (d : Nat) (l : Launch) (D : va_G) (cA : Nat → ClassId) (b base : Nat) (p : Program) (e : Env) (R : Room) (s : State) (m : MethodId) (args : Array Value) (below : List Frame) (meth : Method) (c : Code) (QQ : State → Prop) (C : nm_C) (Q : nm_K),
    d + 1 ≤ R.frames → 64 * d + 64 ≤ R.locals → i.mc ≤ R.cells → i.ms ≤ R.slots → nm_G i D cA b base L xs p s m args meth c → nm_CS I l D cA b base L xs d C → nm_Rt i D cA b base p l e R s m args below meth c QQ Q →
    ∀ (ls st : List Value) (w : nm_W) (k n : Nat), nm_sem C Q (nm_Wf i D cA b base p l e R s m args below meth c QQ) (op ls st w k n) → nm_Wf i D cA b base p l e R s m args below meth c QQ pc ls st w k n
theorem nm_sound {I : Nat → Option nm_I} {i : nm_I} {L : Nat} {xs : Nat → Int32} {t : nm_T} (ht : ∀ q ∈ t, nm_ok I i L xs q.1 q.2)
    {d : Nat} {l : Launch} {D : va_G} {cA : Nat → ClassId} {b base : Nat} {p : Program} {e : Env} {R : Room} {s : State} {m : MethodId} {args : Array Value} {below : List Frame} {meth : Method} {c : Code} {QQ : State → Prop} {C : nm_C} {Q : nm_K}
    (hR1 : d + 1 ≤ R.frames) (hR2 : 64 * d + 64 ≤ R.locals) (hR3 : i.mc ≤ R.cells) (hR4 : i.ms ≤ R.slots) (hG : nm_G i D cA b base L xs p s m args meth c) (hC : nm_CS I l D cA b base L xs d C) (hQ : nm_Rt i D cA b base p l e R s m args below meth c QQ Q)
    {pc : Nat} {ls st : List Value} {w : nm_W} {k n : Nat} (h : nm_X t C Q pc ls st w k n) : nm_Wf i D cA b base p l e R s m args below meth c QQ pc ls st w k n := by
  refine h _ ?_
  intro pc ls st w k n hs
  unfold nm_stp at hs
  have key : ∀ (t : nm_T), (∀ q ∈ t, nm_ok I i L xs q.1 q.2) → ∀ op, nm_look t pc = some op → nm_ok I i L xs pc op := by
    intro t
    induction t with
    | nil => intro _ op h; cases h
    | cons a t ih =>
      intro ht op h
      obtain ⟨q, o⟩ := a
      unfold nm_look at h
      cases hq : Nat.beq q pc with
      | true =>
        rw [hq] at h
        have h : some o = some op := h
        rw [← Option.some.inj h, ← Nat.eq_of_beq_eq_true hq]
        exact ht (q, o) List.mem_cons_self
      | false =>
        rw [hq] at h
        exact ih (fun z hz => ht z (List.mem_cons_of_mem _ hz)) op h
  cases ho : nm_look t pc with
  | none => rw [ho] at hs; exact False.elim hs
  | some op =>
    rw [ho] at hs
    exact key t ht op ho d l D cA b base p e R s m args below meth c QQ C Q hR1 hR2 hR3 hR4 hG hC hQ ls st w k n hs
section OK
variable {I : Nat → Option nm_I} {i : nm_I} {L : Nat} {xs : Nat → Int32} {pc nx tg : Nat}
theorem ok_iconst {z : Int} {v : Int32} (hd : decode i.cc pc = .ok (.iconst z, 1)) (hv : Int32.ofInt z = v) (hn : pc + 1 = nx) : nm_ok I i L xs pc (op_push (.int v) nx) := by
  intro d l D cA b base p e R s m args below meth c QQ C Q hR1 hR2 hR3 hR4 hG hC hQ ls st w k n hop H locs A hz hP hS hL
  obtain ⟨hx, hb, hml, hown, hts, hN, hK, hX, hbb, hbs, hin⟩ := hG
  subst hn
  exact lv_iconst hx hb hd hv (hop H locs A hz hP hS hL)
theorem ok_bipush {z : Int} {v : Int32} (hd : decode i.cc pc = .ok (.bipush z, 2)) (hv : (Int8.ofInt z).toInt32 = v) (hn : pc + 2 = nx) : nm_ok I i L xs pc (op_push (.int v) nx) := by
  intro d l D cA b base p e R s m args below meth c QQ C Q hR1 hR2 hR3 hR4 hG hC hQ ls st w k n hop H locs A hz hP hS hL
  obtain ⟨hx, hb, hml, hown, hts, hN, hK, hX, hbb, hbs, hin⟩ := hG
  subst hn
  exact lv_bipush hx hb hd hv (hop H locs A hz hP hS hL)
theorem ok_sipush {z : Int} {v : Int32} (hd : decode i.cc pc = .ok (.sipush z, 3)) (hv : (Int16.ofInt z).toInt32 = v) (hn : pc + 3 = nx) : nm_ok I i L xs pc (op_push (.int v) nx) := by
  intro d l D cA b base p e R s m args below meth c QQ C Q hR1 hR2 hR3 hR4 hG hC hQ ls st w k n hop H locs A hz hP hS hL
  obtain ⟨hx, hb, hml, hown, hts, hN, hK, hX, hbb, hbs, hin⟩ := hG
  subst hn
  exact lv_sipush hx hb hd hv (hop H locs A hz hP hS hL)
theorem ok_lconst {z : Fin 2} {v : Int64} (hd : decode i.cc pc = .ok (.lconst z, 1)) (hv : Int64.ofNat (z : Nat) = v) (hn : pc + 1 = nx) : nm_ok I i L xs pc (op_push (.long v) nx) := by
  intro d l D cA b base p e R s m args below meth c QQ C Q hR1 hR2 hR3 hR4 hG hC hQ ls st w k n hop H locs A hz hP hS hL
  obtain ⟨hx, hb, hml, hown, hts, hN, hK, hX, hbb, hbs, hin⟩ := hG
  subst hn
  exact lv_lconst hx hb hd hv (hop H locs A hz hP hS hL)
theorem ok_ldc {idx : Nat} {v : Int32} (hw : Cond.constant i.nm.cls idx v ∈ nm_good) (hd : decode i.cc pc = .ok (.ldc idx, 2)) (hn : pc + 2 = nx) : nm_ok I i L xs pc (op_push (.int v) nx) := by
  intro d l D cA b base p e R s m args below meth c QQ C Q hR1 hR2 hR3 hR4 hG hC hQ ls st w k n hop H locs A hz hP hS hL
  obtain ⟨hx, hb, hml, hown, hts, hN, hK, hX, hbb, hbs, hin⟩ := hG
  subst hn
  exact lv_ldc hx hb hown (hts _ hw) hd (hop H locs A hz hP hS hL)
theorem ok_ldcw {idx : Nat} {v : Int32} (hw : Cond.constant i.nm.cls idx v ∈ nm_good) (hd : decode i.cc pc = .ok (.ldc_w idx, 3)) (hn : pc + 3 = nx) : nm_ok I i L xs pc (op_push (.int v) nx) := by
  intro d l D cA b base p e R s m args below meth c QQ C Q hR1 hR2 hR3 hR4 hG hC hQ ls st w k n hop H locs A hz hP hS hL
  obtain ⟨hx, hb, hml, hown, hts, hN, hK, hX, hbb, hbs, hin⟩ := hG
  subst hn
  exact lv_ldcw hx hb hown (hts _ hw) hd (hop H locs A hz hP hS hL)
theorem ok_ldc2 {idx : Nat} {v : Int64} (hw : Cond.constantLong i.nm.cls idx v ∈ nm_good) (hd : decode i.cc pc = .ok (.ldc2_w idx, 3)) (hn : pc + 3 = nx) : nm_ok I i L xs pc (op_push (.long v) nx) := by
  intro d l D cA b base p e R s m args below meth c QQ C Q hR1 hR2 hR3 hR4 hG hC hQ ls st w k n hop H locs A hz hP hS hL
  obtain ⟨hx, hb, hml, hown, hts, hN, hK, hX, hbb, hbs, hin⟩ := hG
  subst hn
  exact lv_ldc2 hx hb hown (hts _ hw) hd (hop H locs A hz hP hS hL)
theorem ok_iload_n {f : Fin 4} {j : Nat} (hd : decode i.cc pc = .ok (.iload_n f, 1)) (hj : (f : Nat) = j) (hn : pc + 1 = nx) : nm_ok I i L xs pc (op_ldI j nx) := by
  intro d l D cA b base p e R s m args below meth c QQ C Q hR1 hR2 hR3 hR4 hG hC hQ ls st w k n hop H locs A hz hP hS hL
  obtain ⟨hx, hb, hml, hown, hts, hN, hK, hX, hbb, hbs, hin⟩ := hG
  subst hn
  unfold op_ldI at hop
  split at hop
  · rename_i x hv
    exact lv_iload_n hx hb hd hj (hL.2.2.1 j _ hv (fun z => by cases z)) (hop H locs A hz hP hS hL)
  · exact False.elim hop
theorem ok_iload {j : Nat} (hd : decode i.cc pc = .ok (.iload j, 2)) (hn : pc + 2 = nx) : nm_ok I i L xs pc (op_ldI j nx) := by
  intro d l D cA b base p e R s m args below meth c QQ C Q hR1 hR2 hR3 hR4 hG hC hQ ls st w k n hop H locs A hz hP hS hL
  obtain ⟨hx, hb, hml, hown, hts, hN, hK, hX, hbb, hbs, hin⟩ := hG
  subst hn
  unfold op_ldI at hop
  split at hop
  · rename_i x hv
    exact lv_iload hx hb hd (hL.2.2.1 j _ hv (fun z => by cases z)) (hop H locs A hz hP hS hL)
  · exact False.elim hop
theorem ok_lload_n {f : Fin 4} {j : Nat} (hd : decode i.cc pc = .ok (.lload_n f, 1)) (hj : (f : Nat) = j) (hn : pc + 1 = nx) : nm_ok I i L xs pc (op_ldL j nx) := by
  intro d l D cA b base p e R s m args below meth c QQ C Q hR1 hR2 hR3 hR4 hG hC hQ ls st w k n hop H locs A hz hP hS hL
  obtain ⟨hx, hb, hml, hown, hts, hN, hK, hX, hbb, hbs, hin⟩ := hG
  subst hn
  unfold op_ldL at hop
  split at hop
  · rename_i x hv
    exact lv_lload_n hx hb hd hj (hL.2.2.1 j _ hv (fun z => by cases z)) (hop H locs A hz hP hS hL)
  · exact False.elim hop
theorem ok_lload {j : Nat} (hd : decode i.cc pc = .ok (.lload j, 2)) (hn : pc + 2 = nx) : nm_ok I i L xs pc (op_ldL j nx) := by
  intro d l D cA b base p e R s m args below meth c QQ C Q hR1 hR2 hR3 hR4 hG hC hQ ls st w k n hop H locs A hz hP hS hL
  obtain ⟨hx, hb, hml, hown, hts, hN, hK, hX, hbb, hbs, hin⟩ := hG
  subst hn
  unfold op_ldL at hop
  split at hop
  · rename_i x hv
    exact lv_lload hx hb hd (hL.2.2.1 j _ hv (fun z => by cases z)) (hop H locs A hz hP hS hL)
  · exact False.elim hop
theorem ok_aload_n {f : Fin 4} {j : Nat} (hd : decode i.cc pc = .ok (.aload_n f, 1)) (hj : (f : Nat) = j) (hn : pc + 1 = nx) : nm_ok I i L xs pc (op_ldA j nx) := by
  intro d l D cA b base p e R s m args below meth c QQ C Q hR1 hR2 hR3 hR4 hG hC hQ ls st w k n hop H locs A hz hP hS hL
  obtain ⟨hx, hb, hml, hown, hts, hN, hK, hX, hbb, hbs, hin⟩ := hG
  subst hn
  unfold op_ldA at hop
  split at hop
  · rename_i x hv
    exact lv_aload_n hx hb hd hj (hL.2.2.1 j _ hv (fun z => by cases z)) (hop H locs A hz hP hS hL)
  · rename_i x hv
    exact lv_aload_n hx hb hd hj (hL.2.2.1 j _ hv (fun z => by cases z)) (hop H locs A hz hP hS hL)
  · exact False.elim hop
theorem ok_istore_n {f : Fin 4} {j : Nat} (hd : decode i.cc pc = .ok (.istore_n f, 1)) (hj : (f : Nat) = j) (hn : pc + 1 = nx) (hl : j < i.mL ∧ (j = 0 ∨ j - 1 ∉ i.sl)) : nm_ok I i L xs pc (op_stI j nx) := by
  intro d l D cA b base p e R s m args below meth c QQ C Q hR1 hR2 hR3 hR4 hG hC hQ ls st w k n hop H locs A hz hP hS hL
  obtain ⟨hx, hb, hml, hown, hts, hN, hK, hX, hbb, hbs, hin⟩ := hG
  subst hn
  unfold op_stI at hop
  split at hop
  · rename_i x r
    exact lv_istore_n hx hb hd hj hL.has hl.1 rfl (fun A' hA' => hop H locs A' hz hP hS (hL.set1 rfl hl.2 hA'))
  · exact False.elim hop
theorem ok_istore {j : Nat} (hd : decode i.cc pc = .ok (.istore j, 2)) (hn : pc + 2 = nx) (hl : j < i.mL ∧ (j = 0 ∨ j - 1 ∉ i.sl)) : nm_ok I i L xs pc (op_stI j nx) := by
  intro d l D cA b base p e R s m args below meth c QQ C Q hR1 hR2 hR3 hR4 hG hC hQ ls st w k n hop H locs A hz hP hS hL
  obtain ⟨hx, hb, hml, hown, hts, hN, hK, hX, hbb, hbs, hin⟩ := hG
  subst hn
  unfold op_stI at hop
  split at hop
  · rename_i x r
    exact lv_istore hx hb hd hL.has hl.1 rfl (fun A' hA' => hop H locs A' hz hP hS (hL.set1 rfl hl.2 hA'))
  · exact False.elim hop
theorem ok_lstore_n {f : Fin 4} {j : Nat} (hd : decode i.cc pc = .ok (.lstore_n f, 1)) (hj : (f : Nat) = j) (hn : pc + 1 = nx) (hl : j + 1 < i.mL ∧ (j = 0 ∨ j - 1 ∉ i.sl) ∧ j ∈ i.sl) : nm_ok I i L xs pc (op_stL j nx) := by
  intro d l D cA b base p e R s m args below meth c QQ C Q hR1 hR2 hR3 hR4 hG hC hQ ls st w k n hop H locs A hz hP hS hL
  obtain ⟨hx, hb, hml, hown, hts, hN, hK, hX, hbb, hbs, hin⟩ := hG
  subst hn
  unfold op_stL at hop
  split at hop
  · rename_i x r
    exact lv_lstore_n hx hb hd hj hL.has hl.1 rfl (fun A' hA' => hop H locs A' hz hP hS (hL.set2 (v := .long x) hl.2.1 hl.2.2 hA'))
  · exact False.elim hop
theorem ok_lstore {j : Nat} (hd : decode i.cc pc = .ok (.lstore j, 2)) (hn : pc + 2 = nx) (hl : j + 1 < i.mL ∧ (j = 0 ∨ j - 1 ∉ i.sl) ∧ j ∈ i.sl) : nm_ok I i L xs pc (op_stL j nx) := by
  intro d l D cA b base p e R s m args below meth c QQ C Q hR1 hR2 hR3 hR4 hG hC hQ ls st w k n hop H locs A hz hP hS hL
  obtain ⟨hx, hb, hml, hown, hts, hN, hK, hX, hbb, hbs, hin⟩ := hG
  subst hn
  unfold op_stL at hop
  split at hop
  · rename_i x r
    exact lv_lstore hx hb hd hL.has hl.1 rfl (fun A' hA' => hop H locs A' hz hP hS (hL.set2 (v := .long x) hl.2.1 hl.2.2 hA'))
  · exact False.elim hop
theorem ok_astore_n {f : Fin 4} {j : Nat} (hd : decode i.cc pc = .ok (.astore_n f, 1)) (hj : (f : Nat) = j) (hn : pc + 1 = nx) (hl : j < i.mL ∧ (j = 0 ∨ j - 1 ∉ i.sl)) : nm_ok I i L xs pc (op_stA j nx) := by
  intro d l D cA b base p e R s m args below meth c QQ C Q hR1 hR2 hR3 hR4 hG hC hQ ls st w k n hop H locs A hz hP hS hL
  obtain ⟨hx, hb, hml, hown, hts, hN, hK, hX, hbb, hbs, hin⟩ := hG
  subst hn
  unfold op_stA at hop
  split at hop
  · rename_i x r
    exact lv_astore_n hx hb hd hj hL.has hl.1 rfl (fun A' hA' => hop H locs A' hz hP hS (hL.set1 (v := .ref x) rfl hl.2 hA'))
  · exact False.elim hop
theorem ok_iinc {j : Nat} {z : Int} {v : Int32} (hd : decode i.cc pc = .ok (.iinc j z, 3)) (hv : Int32.ofInt z = v) (hn : pc + 3 = nx) (hl : j < i.mL ∧ (j = 0 ∨ j - 1 ∉ i.sl)) : nm_ok I i L xs pc (op_inc j v nx) := by
  intro d l D cA b base p e R s m args below meth c QQ C Q hR1 hR2 hR3 hR4 hG hC hQ ls st w k n hop H locs A hz hP hS hL
  obtain ⟨hx, hb, hml, hown, hts, hN, hK, hX, hbb, hbs, hin⟩ := hG
  subst hn
  unfold op_inc at hop
  split at hop
  · rename_i x hv2
    have hm : ((j, Value.int x) : Nat × Value) ∈ nm_ll b base ls := nm_ll_mem.mpr ⟨_, hv2, (fun z => by cases z), rfl⟩
    obtain ⟨kk, hkk⟩ := List.getElem?_of_mem hm
    exact lv_iinc hx hb hd hL.has hkk (by rw [hv]) hl.1 rfl (fun A' hA' => hop H locs A' hz hP hS (hL.set1 (v := .int (x + v)) rfl hl.2 hA'))
  · exact False.elim hop
theorem ok_iadd (hd : decode i.cc pc = .ok (.iadd, 1)) (hn : pc + 1 = nx) : nm_ok I i L xs pc (op_bin (fun x y => x + y) nx) := by
  intro d l D cA b base p e R s m args below meth c QQ C Q hR1 hR2 hR3 hR4 hG hC hQ ls st w k n hop H locs A hz hP hS hL
  obtain ⟨hx, hb, hml, hown, hts, hN, hK, hX, hbb, hbs, hin⟩ := hG
  subst hn
  unfold op_bin at hop
  split at hop
  · exact lv_iadd hx hb hd (hop H locs A hz hP hS hL)
  · exact False.elim hop
theorem ok_isub (hd : decode i.cc pc = .ok (.isub, 1)) (hn : pc + 1 = nx) : nm_ok I i L xs pc (op_bin (fun x y => x - y) nx) := by
  intro d l D cA b base p e R s m args below meth c QQ C Q hR1 hR2 hR3 hR4 hG hC hQ ls st w k n hop H locs A hz hP hS hL
  obtain ⟨hx, hb, hml, hown, hts, hN, hK, hX, hbb, hbs, hin⟩ := hG
  subst hn
  unfold op_bin at hop
  split at hop
  · exact lv_isub hx hb hd (hop H locs A hz hP hS hL)
  · exact False.elim hop
theorem ok_imul (hd : decode i.cc pc = .ok (.imul, 1)) (hn : pc + 1 = nx) : nm_ok I i L xs pc (op_bin (fun x y => x * y) nx) := by
  intro d l D cA b base p e R s m args below meth c QQ C Q hR1 hR2 hR3 hR4 hG hC hQ ls st w k n hop H locs A hz hP hS hL
  obtain ⟨hx, hb, hml, hown, hts, hN, hK, hX, hbb, hbs, hin⟩ := hG
  subst hn
  unfold op_bin at hop
  split at hop
  · exact lv_imul hx hb hd (hop H locs A hz hP hS hL)
  · exact False.elim hop
theorem ok_iand (hd : decode i.cc pc = .ok (.iand, 1)) (hn : pc + 1 = nx) : nm_ok I i L xs pc (op_bin (fun x y => x &&& y) nx) := by
  intro d l D cA b base p e R s m args below meth c QQ C Q hR1 hR2 hR3 hR4 hG hC hQ ls st w k n hop H locs A hz hP hS hL
  obtain ⟨hx, hb, hml, hown, hts, hN, hK, hX, hbb, hbs, hin⟩ := hG
  subst hn
  unfold op_bin at hop
  split at hop
  · exact lv_iand hx hb hd (hop H locs A hz hP hS hL)
  · exact False.elim hop
theorem ok_ior (hd : decode i.cc pc = .ok (.ior, 1)) (hn : pc + 1 = nx) : nm_ok I i L xs pc (op_bin (fun x y => x ||| y) nx) := by
  intro d l D cA b base p e R s m args below meth c QQ C Q hR1 hR2 hR3 hR4 hG hC hQ ls st w k n hop H locs A hz hP hS hL
  obtain ⟨hx, hb, hml, hown, hts, hN, hK, hX, hbb, hbs, hin⟩ := hG
  subst hn
  unfold op_bin at hop
  split at hop
  · exact lv_ior hx hb hd (hop H locs A hz hP hS hL)
  · exact False.elim hop
theorem ok_ixor (hd : decode i.cc pc = .ok (.ixor, 1)) (hn : pc + 1 = nx) : nm_ok I i L xs pc (op_bin (fun x y => x ^^^ y) nx) := by
  intro d l D cA b base p e R s m args below meth c QQ C Q hR1 hR2 hR3 hR4 hG hC hQ ls st w k n hop H locs A hz hP hS hL
  obtain ⟨hx, hb, hml, hown, hts, hN, hK, hX, hbb, hbs, hin⟩ := hG
  subst hn
  unfold op_bin at hop
  split at hop
  · exact lv_ixor hx hb hd (hop H locs A hz hP hS hL)
  · exact False.elim hop
theorem ok_ishl (hd : decode i.cc pc = .ok (.ishl, 1)) (hn : pc + 1 = nx) : nm_ok I i L xs pc (op_bin (fun x y => x <<< (y &&& 31)) nx) := by
  intro d l D cA b base p e R s m args below meth c QQ C Q hR1 hR2 hR3 hR4 hG hC hQ ls st w k n hop H locs A hz hP hS hL
  obtain ⟨hx, hb, hml, hown, hts, hN, hK, hX, hbb, hbs, hin⟩ := hG
  subst hn
  unfold op_bin at hop
  split at hop
  · exact lv_ishl hx hb hd (hop H locs A hz hP hS hL)
  · exact False.elim hop
theorem ok_ishr (hd : decode i.cc pc = .ok (.ishr, 1)) (hn : pc + 1 = nx) : nm_ok I i L xs pc (op_bin (fun x y => x >>> (y &&& 31)) nx) := by
  intro d l D cA b base p e R s m args below meth c QQ C Q hR1 hR2 hR3 hR4 hG hC hQ ls st w k n hop H locs A hz hP hS hL
  obtain ⟨hx, hb, hml, hown, hts, hN, hK, hX, hbb, hbs, hin⟩ := hG
  subst hn
  unfold op_bin at hop
  split at hop
  · exact lv_ishr hx hb hd (hop H locs A hz hP hS hL)
  · exact False.elim hop
theorem ok_iushr (hd : decode i.cc pc = .ok (.iushr, 1)) (hn : pc + 1 = nx) : nm_ok I i L xs pc (op_bin (fun x y => (x.toUInt32 >>> (y.toUInt32 &&& Int32.toUInt32 31)).toInt32) nx) := by
  intro d l D cA b base p e R s m args below meth c QQ C Q hR1 hR2 hR3 hR4 hG hC hQ ls st w k n hop H locs A hz hP hS hL
  obtain ⟨hx, hb, hml, hown, hts, hN, hK, hX, hbb, hbs, hin⟩ := hG
  subst hn
  unfold op_bin at hop
  split at hop
  · exact lv_iushr hx hb hd rfl (hop H locs A hz hP hS hL)
  · exact False.elim hop
theorem ok_idiv (hd : decode i.cc pc = .ok (.idiv, 1)) (hn : pc + 1 = nx) : nm_ok I i L xs pc (op_div nx) := by
  intro d l D cA b base p e R s m args below meth c QQ C Q hR1 hR2 hR3 hR4 hG hC hQ ls st w k n hop H locs A hz hP hS hL
  obtain ⟨hx, hb, hml, hown, hts, hN, hK, hX, hbb, hbs, hin⟩ := hG
  subst hn
  unfold op_div at hop
  split at hop
  · split at hop
    · exact False.elim hop
    · rename_i hne
      exact lv_idiv hx hb hd hne (hop H locs A hz hP hS hL)
  · exact False.elim hop
theorem ok_ladd (hd : decode i.cc pc = .ok (.ladd, 1)) (hn : pc + 1 = nx) : nm_ok I i L xs pc (op_lbin (fun x y => x + y) nx) := by
  intro d l D cA b base p e R s m args below meth c QQ C Q hR1 hR2 hR3 hR4 hG hC hQ ls st w k n hop H locs A hz hP hS hL
  obtain ⟨hx, hb, hml, hown, hts, hN, hK, hX, hbb, hbs, hin⟩ := hG
  subst hn
  unfold op_lbin at hop
  split at hop
  · exact lv_ladd hx hb hd (hop H locs A hz hP hS hL)
  · exact False.elim hop
theorem ok_lmul (hd : decode i.cc pc = .ok (.lmul, 1)) (hn : pc + 1 = nx) : nm_ok I i L xs pc (op_lbin (fun x y => x * y) nx) := by
  intro d l D cA b base p e R s m args below meth c QQ C Q hR1 hR2 hR3 hR4 hG hC hQ ls st w k n hop H locs A hz hP hS hL
  obtain ⟨hx, hb, hml, hown, hts, hN, hK, hX, hbb, hbs, hin⟩ := hG
  subst hn
  unfold op_lbin at hop
  split at hop
  · exact lv_lmul hx hb hd (hop H locs A hz hP hS hL)
  · exact False.elim hop
theorem ok_lshl (hd : decode i.cc pc = .ok (.lshl, 1)) (hn : pc + 1 = nx) : nm_ok I i L xs pc (op_lsh (fun x y => x <<< (y.toInt64 &&& 63)) nx) := by
  intro d l D cA b base p e R s m args below meth c QQ C Q hR1 hR2 hR3 hR4 hG hC hQ ls st w k n hop H locs A hz hP hS hL
  obtain ⟨hx, hb, hml, hown, hts, hN, hK, hX, hbb, hbs, hin⟩ := hG
  subst hn
  unfold op_lsh at hop
  split at hop
  · exact lv_lshl hx hb hd rfl (hop H locs A hz hP hS hL)
  · exact False.elim hop
theorem ok_lshr (hd : decode i.cc pc = .ok (.lshr, 1)) (hn : pc + 1 = nx) : nm_ok I i L xs pc (op_lsh (fun x y => x >>> (y.toInt64 &&& 63)) nx) := by
  intro d l D cA b base p e R s m args below meth c QQ C Q hR1 hR2 hR3 hR4 hG hC hQ ls st w k n hop H locs A hz hP hS hL
  obtain ⟨hx, hb, hml, hown, hts, hN, hK, hX, hbb, hbs, hin⟩ := hG
  subst hn
  unfold op_lsh at hop
  split at hop
  · exact lv_lshr hx hb hd rfl (hop H locs A hz hP hS hL)
  · exact False.elim hop
theorem ok_lcmp (hd : decode i.cc pc = .ok (.lcmp, 1)) (hn : pc + 1 = nx) : nm_ok I i L xs pc (op_lcmp nx) := by
  intro d l D cA b base p e R s m args below meth c QQ C Q hR1 hR2 hR3 hR4 hG hC hQ ls st w k n hop H locs A hz hP hS hL
  obtain ⟨hx, hb, hml, hown, hts, hN, hK, hX, hbb, hbs, hin⟩ := hG
  subst hn
  unfold op_lcmp at hop
  split at hop
  · exact W.lcmp hx hb hd (hop H locs A hz hP hS hL)
  · exact False.elim hop
theorem ok_i2l (hd : decode i.cc pc = .ok (.i2l, 1)) (hn : pc + 1 = nx) : nm_ok I i L xs pc (op_i2l nx) := by
  intro d l D cA b base p e R s m args below meth c QQ C Q hR1 hR2 hR3 hR4 hG hC hQ ls st w k n hop H locs A hz hP hS hL
  obtain ⟨hx, hb, hml, hown, hts, hN, hK, hX, hbb, hbs, hin⟩ := hG
  subst hn
  unfold op_i2l at hop
  split at hop
  · exact lv_i2l hx hb hd rfl (hop H locs A hz hP hS hL)
  · exact False.elim hop
theorem ok_l2i (hd : decode i.cc pc = .ok (.l2i, 1)) (hn : pc + 1 = nx) : nm_ok I i L xs pc (op_l2i nx) := by
  intro d l D cA b base p e R s m args below meth c QQ C Q hR1 hR2 hR3 hR4 hG hC hQ ls st w k n hop H locs A hz hP hS hL
  obtain ⟨hx, hb, hml, hown, hts, hN, hK, hX, hbb, hbs, hin⟩ := hG
  subst hn
  unfold op_l2i at hop
  split at hop
  · exact lv_l2i hx hb hd rfl (hop H locs A hz hP hS hL)
  · exact False.elim hop
theorem ok_i2c (hd : decode i.cc pc = .ok (.i2c, 1)) (hn : pc + 1 = nx) : nm_ok I i L xs pc (op_i2c nx) := by
  intro d l D cA b base p e R s m args below meth c QQ C Q hR1 hR2 hR3 hR4 hG hC hQ ls st w k n hop H locs A hz hP hS hL
  obtain ⟨hx, hb, hml, hown, hts, hN, hK, hX, hbb, hbs, hin⟩ := hG
  subst hn
  unfold op_i2c at hop
  split at hop
  · exact lv_i2c hx hb hd rfl (hop H locs A hz hP hS hL)
  · exact False.elim hop
theorem ok_dup (hd : decode i.cc pc = .ok (.dup, 1)) (hn : pc + 1 = nx) : nm_ok I i L xs pc (op_dup nx) := by
  intro d l D cA b base p e R s m args below meth c QQ C Q hR1 hR2 hR3 hR4 hG hC hQ ls st w k n hop H locs A hz hP hS hL
  obtain ⟨hx, hb, hml, hown, hts, hN, hK, hX, hbb, hbs, hin⟩ := hG
  subst hn
  unfold op_dup at hop
  split at hop
  · exact lv_dup hx hb hd rfl (hop H locs A hz hP hS hL)
  · exact lv_dup hx hb hd rfl (hop H locs A hz hP hS hL)
  · exact False.elim hop
theorem ok_pop (hd : decode i.cc pc = .ok (.pop, 1)) (hn : pc + 1 = nx) : nm_ok I i L xs pc (op_pop nx) := by
  intro d l D cA b base p e R s m args below meth c QQ C Q hR1 hR2 hR3 hR4 hG hC hQ ls st w k n hop H locs A hz hP hS hL
  obtain ⟨hx, hb, hml, hown, hts, hN, hK, hX, hbb, hbs, hin⟩ := hG
  subst hn
  unfold op_pop at hop
  split at hop
  · exact lv_pop hx hb hd rfl (hop H locs A hz hP hS hL)
  · exact False.elim hop
theorem ok_dup2 (hd : decode i.cc pc = .ok (.dup2, 1)) (hn : pc + 1 = nx) : nm_ok I i L xs pc (op_dup2 nx) := by
  intro d l D cA b base p e R s m args below meth c QQ C Q hR1 hR2 hR3 hR4 hG hC hQ ls st w k n hop H locs A hz hP hS hL
  obtain ⟨hx, hb, hml, hown, hts, hN, hK, hX, hbb, hbs, hin⟩ := hG
  subst hn
  unfold op_dup2 at hop
  split at hop
  · exact lv_dup2_11 hx hb hd rfl rfl (hop H locs A hz hP hS hL)
  · exact False.elim hop
theorem ok_goto {off : Int} (hd : decode i.cc pc = .ok (.goto off, 3)) (ht : (pc : Int) + off = (tg : Int)) : nm_ok I i L xs pc (op_goto tg) := by
  intro d l D cA b base p e R s m args below meth c QQ C Q hR1 hR2 hR3 hR4 hG hC hQ ls st w k n hop H locs A hz hP hS hL
  obtain ⟨hx, hb, hml, hown, hts, hN, hK, hX, hbb, hbs, hin⟩ := hG
  exact lv_goto hx hb hd ht (hop H locs A hz hP hS hL)
theorem ok_icmp_eq {off : Int} (hd : decode i.cc pc = .ok (.if_icmp .eq off, 3)) (ht : (pc : Int) + off = (tg : Int)) (hn : pc + 3 = nx) : nm_ok I i L xs pc (op_if (fun x y => decide (x = y)) tg nx) := by
  intro d l D cA b base p e R s m args below meth c QQ C Q hR1 hR2 hR3 hR4 hG hC hQ ls st w k n hop H locs A hz hP hS hL
  obtain ⟨hx, hb, hml, hown, hts, hN, hK, hX, hbb, hbs, hin⟩ := hG
  subst hn
  unfold op_if at hop
  split at hop
  · refine lv_icmp_eq hx hb hd ht (fun h => ?_) (fun h => ?_)
    · rw [if_pos (decide_eq_true h)] at hop
      exact hop H locs A hz hP hS hL
    · rw [if_neg (by rw [decide_eq_true_eq]; first | exact h | exact fun hh => hh h)] at hop
      exact hop H locs A hz hP hS hL
  · exact False.elim hop
theorem ok_if_eq {off : Int} (hd : decode i.cc pc = .ok (.ifCond .eq off, 3)) (ht : (pc : Int) + off = (tg : Int)) (hn : pc + 3 = nx) : nm_ok I i L xs pc (op_ifz (fun x => decide (x = 0)) tg nx) := by
  intro d l D cA b base p e R s m args below meth c QQ C Q hR1 hR2 hR3 hR4 hG hC hQ ls st w k n hop H locs A hz hP hS hL
  obtain ⟨hx, hb, hml, hown, hts, hN, hK, hX, hbb, hbs, hin⟩ := hG
  subst hn
  unfold op_ifz at hop
  split at hop
  · refine lv_if_eq hx hb hd ht (fun h => ?_) (fun h => ?_)
    · rw [if_pos (decide_eq_true h)] at hop
      exact hop H locs A hz hP hS hL
    · rw [if_neg (by rw [decide_eq_true_eq]; first | exact h | exact fun hh => hh h)] at hop
      exact hop H locs A hz hP hS hL
  · exact False.elim hop
theorem ok_icmp_ne {off : Int} (hd : decode i.cc pc = .ok (.if_icmp .ne off, 3)) (ht : (pc : Int) + off = (tg : Int)) (hn : pc + 3 = nx) : nm_ok I i L xs pc (op_if (fun x y => decide (¬ x = y)) tg nx) := by
  intro d l D cA b base p e R s m args below meth c QQ C Q hR1 hR2 hR3 hR4 hG hC hQ ls st w k n hop H locs A hz hP hS hL
  obtain ⟨hx, hb, hml, hown, hts, hN, hK, hX, hbb, hbs, hin⟩ := hG
  subst hn
  unfold op_if at hop
  split at hop
  · refine lv_icmp_ne hx hb hd ht (fun h => ?_) (fun h => ?_)
    · rw [if_pos (decide_eq_true h)] at hop
      exact hop H locs A hz hP hS hL
    · rw [if_neg (by rw [decide_eq_true_eq]; first | exact h | exact fun hh => hh h)] at hop
      exact hop H locs A hz hP hS hL
  · exact False.elim hop
theorem ok_if_ne {off : Int} (hd : decode i.cc pc = .ok (.ifCond .ne off, 3)) (ht : (pc : Int) + off = (tg : Int)) (hn : pc + 3 = nx) : nm_ok I i L xs pc (op_ifz (fun x => decide (¬ x = 0)) tg nx) := by
  intro d l D cA b base p e R s m args below meth c QQ C Q hR1 hR2 hR3 hR4 hG hC hQ ls st w k n hop H locs A hz hP hS hL
  obtain ⟨hx, hb, hml, hown, hts, hN, hK, hX, hbb, hbs, hin⟩ := hG
  subst hn
  unfold op_ifz at hop
  split at hop
  · refine lv_if_ne hx hb hd ht (fun h => ?_) (fun h => ?_)
    · rw [if_pos (decide_eq_true h)] at hop
      exact hop H locs A hz hP hS hL
    · rw [if_neg (by rw [decide_eq_true_eq]; first | exact h | exact fun hh => hh h)] at hop
      exact hop H locs A hz hP hS hL
  · exact False.elim hop
theorem ok_icmp_lt {off : Int} (hd : decode i.cc pc = .ok (.if_icmp .lt off, 3)) (ht : (pc : Int) + off = (tg : Int)) (hn : pc + 3 = nx) : nm_ok I i L xs pc (op_if (fun x y => decide (x < y)) tg nx) := by
  intro d l D cA b base p e R s m args below meth c QQ C Q hR1 hR2 hR3 hR4 hG hC hQ ls st w k n hop H locs A hz hP hS hL
  obtain ⟨hx, hb, hml, hown, hts, hN, hK, hX, hbb, hbs, hin⟩ := hG
  subst hn
  unfold op_if at hop
  split at hop
  · refine lv_icmp_lt hx hb hd ht (fun h => ?_) (fun h => ?_)
    · rw [if_pos (decide_eq_true h)] at hop
      exact hop H locs A hz hP hS hL
    · rw [if_neg (by rw [decide_eq_true_eq]; first | exact h | exact fun hh => hh h)] at hop
      exact hop H locs A hz hP hS hL
  · exact False.elim hop
theorem ok_if_lt {off : Int} (hd : decode i.cc pc = .ok (.ifCond .lt off, 3)) (ht : (pc : Int) + off = (tg : Int)) (hn : pc + 3 = nx) : nm_ok I i L xs pc (op_ifz (fun x => decide (x < 0)) tg nx) := by
  intro d l D cA b base p e R s m args below meth c QQ C Q hR1 hR2 hR3 hR4 hG hC hQ ls st w k n hop H locs A hz hP hS hL
  obtain ⟨hx, hb, hml, hown, hts, hN, hK, hX, hbb, hbs, hin⟩ := hG
  subst hn
  unfold op_ifz at hop
  split at hop
  · refine lv_if_lt hx hb hd ht (fun h => ?_) (fun h => ?_)
    · rw [if_pos (decide_eq_true h)] at hop
      exact hop H locs A hz hP hS hL
    · rw [if_neg (by rw [decide_eq_true_eq]; first | exact h | exact fun hh => hh h)] at hop
      exact hop H locs A hz hP hS hL
  · exact False.elim hop
theorem ok_icmp_ge {off : Int} (hd : decode i.cc pc = .ok (.if_icmp .ge off, 3)) (ht : (pc : Int) + off = (tg : Int)) (hn : pc + 3 = nx) : nm_ok I i L xs pc (op_if (fun x y => decide (y ≤ x)) tg nx) := by
  intro d l D cA b base p e R s m args below meth c QQ C Q hR1 hR2 hR3 hR4 hG hC hQ ls st w k n hop H locs A hz hP hS hL
  obtain ⟨hx, hb, hml, hown, hts, hN, hK, hX, hbb, hbs, hin⟩ := hG
  subst hn
  unfold op_if at hop
  split at hop
  · refine lv_icmp_ge hx hb hd ht (fun h => ?_) (fun h => ?_)
    · rw [if_pos (decide_eq_true h)] at hop
      exact hop H locs A hz hP hS hL
    · rw [if_neg (by rw [decide_eq_true_eq]; first | exact h | exact fun hh => hh h)] at hop
      exact hop H locs A hz hP hS hL
  · exact False.elim hop
theorem ok_if_ge {off : Int} (hd : decode i.cc pc = .ok (.ifCond .ge off, 3)) (ht : (pc : Int) + off = (tg : Int)) (hn : pc + 3 = nx) : nm_ok I i L xs pc (op_ifz (fun x => decide (0 ≤ x)) tg nx) := by
  intro d l D cA b base p e R s m args below meth c QQ C Q hR1 hR2 hR3 hR4 hG hC hQ ls st w k n hop H locs A hz hP hS hL
  obtain ⟨hx, hb, hml, hown, hts, hN, hK, hX, hbb, hbs, hin⟩ := hG
  subst hn
  unfold op_ifz at hop
  split at hop
  · refine lv_if_ge hx hb hd ht (fun h => ?_) (fun h => ?_)
    · rw [if_pos (decide_eq_true h)] at hop
      exact hop H locs A hz hP hS hL
    · rw [if_neg (by rw [decide_eq_true_eq]; first | exact h | exact fun hh => hh h)] at hop
      exact hop H locs A hz hP hS hL
  · exact False.elim hop
theorem ok_icmp_gt {off : Int} (hd : decode i.cc pc = .ok (.if_icmp .gt off, 3)) (ht : (pc : Int) + off = (tg : Int)) (hn : pc + 3 = nx) : nm_ok I i L xs pc (op_if (fun x y => decide (y < x)) tg nx) := by
  intro d l D cA b base p e R s m args below meth c QQ C Q hR1 hR2 hR3 hR4 hG hC hQ ls st w k n hop H locs A hz hP hS hL
  obtain ⟨hx, hb, hml, hown, hts, hN, hK, hX, hbb, hbs, hin⟩ := hG
  subst hn
  unfold op_if at hop
  split at hop
  · refine lv_icmp_gt hx hb hd ht (fun h => ?_) (fun h => ?_)
    · rw [if_pos (decide_eq_true h)] at hop
      exact hop H locs A hz hP hS hL
    · rw [if_neg (by rw [decide_eq_true_eq]; first | exact h | exact fun hh => hh h)] at hop
      exact hop H locs A hz hP hS hL
  · exact False.elim hop
theorem ok_if_gt {off : Int} (hd : decode i.cc pc = .ok (.ifCond .gt off, 3)) (ht : (pc : Int) + off = (tg : Int)) (hn : pc + 3 = nx) : nm_ok I i L xs pc (op_ifz (fun x => decide (0 < x)) tg nx) := by
  intro d l D cA b base p e R s m args below meth c QQ C Q hR1 hR2 hR3 hR4 hG hC hQ ls st w k n hop H locs A hz hP hS hL
  obtain ⟨hx, hb, hml, hown, hts, hN, hK, hX, hbb, hbs, hin⟩ := hG
  subst hn
  unfold op_ifz at hop
  split at hop
  · refine lv_if_gt hx hb hd ht (fun h => ?_) (fun h => ?_)
    · rw [if_pos (decide_eq_true h)] at hop
      exact hop H locs A hz hP hS hL
    · rw [if_neg (by rw [decide_eq_true_eq]; first | exact h | exact fun hh => hh h)] at hop
      exact hop H locs A hz hP hS hL
  · exact False.elim hop
theorem ok_icmp_le {off : Int} (hd : decode i.cc pc = .ok (.if_icmp .le off, 3)) (ht : (pc : Int) + off = (tg : Int)) (hn : pc + 3 = nx) : nm_ok I i L xs pc (op_if (fun x y => decide (x ≤ y)) tg nx) := by
  intro d l D cA b base p e R s m args below meth c QQ C Q hR1 hR2 hR3 hR4 hG hC hQ ls st w k n hop H locs A hz hP hS hL
  obtain ⟨hx, hb, hml, hown, hts, hN, hK, hX, hbb, hbs, hin⟩ := hG
  subst hn
  unfold op_if at hop
  split at hop
  · refine lv_icmp_le hx hb hd ht (fun h => ?_) (fun h => ?_)
    · rw [if_pos (decide_eq_true h)] at hop
      exact hop H locs A hz hP hS hL
    · rw [if_neg (by rw [decide_eq_true_eq]; first | exact h | exact fun hh => hh h)] at hop
      exact hop H locs A hz hP hS hL
  · exact False.elim hop
theorem ok_if_le {off : Int} (hd : decode i.cc pc = .ok (.ifCond .le off, 3)) (ht : (pc : Int) + off = (tg : Int)) (hn : pc + 3 = nx) : nm_ok I i L xs pc (op_ifz (fun x => decide (x ≤ 0)) tg nx) := by
  intro d l D cA b base p e R s m args below meth c QQ C Q hR1 hR2 hR3 hR4 hG hC hQ ls st w k n hop H locs A hz hP hS hL
  obtain ⟨hx, hb, hml, hown, hts, hN, hK, hX, hbb, hbs, hin⟩ := hG
  subst hn
  unfold op_ifz at hop
  split at hop
  · refine lv_if_le hx hb hd ht (fun h => ?_) (fun h => ?_)
    · rw [if_pos (decide_eq_true h)] at hop
      exact hop H locs A hz hP hS hL
    · rw [if_neg (by rw [decide_eq_true_eq]; first | exact h | exact fun hh => hh h)] at hop
      exact hop H locs A hz hP hS hL
  · exact False.elim hop
end OK
end
section
/-! Steps on cells, calls and ends. -/
section OKH
variable {I : Nat → Option nm_I} {i : nm_I} {L : Nat} {xs : Nat → Int32} {pc nx tg : Nat}
theorem ok_sw {dflt lo hi : Int} {offs : Array Int} {len d0 : Nat} {ts : List Nat} (hd : decode i.cc pc = .ok (.tableswitch dflt lo hi offs, len)) (hdf : (pc : Int) + dflt = (d0 : Int)) (hts : offs.toList.map (fun o => (pc : Int) + o) = ts.map (fun t : Nat => (t : Int))) (hsz : hi - lo + 1 = (ts.length : Int)) : nm_ok I i L xs pc (op_sw lo ts d0) := by
  intro d l D cA b base p e R s m args below meth c QQ C Q hR1 hR2 hR3 hR4 hG hC hQ ls st w k n hop H locs A hz hP hS hL
  obtain ⟨hx, hb, hml, hown, hts2, hN, hK, hX, hbb, hbs, hin⟩ := hG
  unfold op_sw at hop
  split at hop
  · rename_i x r
    have hlen : offs.toList.length = ts.length := by
      have := congrArg List.length hts
      simpa using this
    by_cases h1 : x.toInt < lo
    · have e1 : nm_swt lo ts d0 x = d0 := by simp [nm_swt, h1]
      rw [e1] at hop
      exact lv_tableOut hx hb hd (Or.inl h1) hdf (hop H locs A hz hP hS hL)
    · by_cases h2 : hi < x.toInt
      · have e1 : nm_swt lo ts d0 x = d0 := by
          simp only [nm_swt, if_neg h1]
          have : ts.length ≤ (x.toInt - lo).toNat := by omega
          simp [List.getD_eq_getElem?_getD, List.getElem?_eq_none this]
        rw [e1] at hop
        exact lv_tableOut hx hb hd (Or.inr h2) hdf (hop H locs A hz hP hS hL)
      · have hlt : (x.toInt - lo).toNat < ts.length := by omega
        have hlt2 : (x.toInt - lo).toNat < offs.toList.length := by omega
        have e1 : nm_swt lo ts d0 x = ts[(x.toInt - lo).toNat] := by
          simp [nm_swt, if_neg h1, List.getD_eq_getElem?_getD, List.getElem?_eq_getElem hlt]
        rw [e1] at hop
        have e2 : (pc : Int) + offs.toList[(x.toInt - lo).toNat] = ((ts[(x.toInt - lo).toNat] : Nat) : Int) := by
          have := congrArg (fun q => q[(x.toInt - lo).toNat]?) hts
          simp only [List.getElem?_map, List.getElem?_eq_getElem hlt, List.getElem?_eq_getElem hlt2, Option.map_some, Option.some.injEq] at this
          exact this
        exact lv_tableIn hx hb hd h1 h2 (off := offs.toList[(x.toInt - lo).toNat]) (by rw [← Array.getElem?_toList]; exact List.getElem?_eq_getElem hlt2) e2 (hop H locs A hz hP hS hL)
  · exact False.elim hop
theorem ok_get {idx ci j N : Nat} {C0 : String} {T : u_T} (hc : vwCl[ci]? = some (C0, T, N)) (hin0 : ∀ w ∈ u_ws C0 T N, w ∈ nm_good) (hj : j < N) (hl : Cond.fieldLink i.nm.cls idx (T j).1 (T j).2.1 (T j).2.2.1 ∈ nm_good) (hd : decode i.cc pc = .ok (.getfield idx, 3)) (hn : pc + 3 = nx) : nm_ok I i L xs pc (op_get ci j nx) := by
  intro d l D cA b base p e R s m args below meth c QQ C Q hR1 hR2 hR3 hR4 hG hC hQ ls st w k n hop H locs A hz hP hS hL
  obtain ⟨hx, hb, hml, hown, hts, hN, hK, hX, hbb, hbs, hin⟩ := hG
  subst hn
  unfold op_get at hop
  split at hop
  · rename_i a r
    unfold nm_get at hop
    cases ha : w[a]? with
    | none => rw [ha] at hop; exact False.elim hop
    | some x =>
      rw [ha] at hop
      rcases x with x | ⟨c0, fs⟩
      · exact False.elim hop
      · dsimp only at hop
        by_cases hcc : c0 = ci
        · subst hcc
          rw [if_pos rfl] at hop
          cases hv : fs[j]? with
          | none => rw [hv] at hop; exact False.elim hop
          | some v =>
            rw [hv] at hop
            exact va_get hx hb hts hin0 hown hK hP a (nm_cw_at ha) hc j hj (hts _ hl) (fun _ h => h) (v := nm_cv b base v) (by rw [List.getElem?_map, hv]; rfl) hd (hop H locs A hz hP hS hL)
        · rw [if_neg hcc] at hop
          exact False.elim hop
  · exact False.elim hop
theorem nm_put_some {w w' : nm_W} {a ci j : Nat} {v : Value} (h : nm_put w a ci j v = some w') : ∃ fs, w[a]? = some (.inr (ci, fs)) ∧ j < fs.length ∧ w' = w.set a (.inr (ci, fs.set j v)) := by
  unfold nm_put at h
  cases ha : w[a]? with
  | none => rw [ha] at h; cases h
  | some x =>
    rw [ha] at h
    rcases x with x | ⟨c0, fs⟩
    · cases h
    · dsimp only at h
      split at h
      · rename_i hh
        obtain ⟨rfl, h2⟩ := hh
        cases h
        exact ⟨fs, rfl, h2, rfl⟩
      · cases h
/-- one store into a field that isn't final, and one into a final one by its maker -/
theorem nm_put1 {idx ci j N : Nat} {C0 : String} {T : u_T} {ty0 : Nat → FieldType} (hc : vwCl[ci]? = some (C0, T, N)) (hin0 : ∀ w ∈ u_ws C0 T N, w ∈ nm_good) (hty : ∀ k, k < N → parseFieldDescriptor (T k).2.2.1 = some (ty0 k)) (hnm : ∀ a, a < N → ∀ b, b < N → a ≠ b → (T a).2.1 ≠ (T b).2.1) (hj : j < N) (hl : Cond.fieldLink i.nm.cls idx (T j).1 (T j).2.1 (T j).2.2.1 ∈ nm_good) (hd : decode i.cc pc = .ok (.putfield idx, 3))
    (hf : (T j).2.2.2 = false ∨ ((T j).2.2.2 = true ∧ i.nm.name = "<init>" ∧ (T j).1 = i.nm.cls))
    {D : va_G} {cA : Nat → ClassId} {b base : Nat} {p : Program} {l : Launch} {e : Env} {R : Room} {s : State} {m : MethodId} {args : Array Value} {below : List Frame} {meth : Method} {c : Code} {QQ : State → Prop}
    (hG : nm_G i D cA b base L xs p s m args meth c) {w w' : nm_W} {k n a : Nat} {v : Value} (hp : nm_put w a ci j v = some w') (hn1 : narrow (ty0 j) (nm_cv b base v) = nm_cv b base v) (hf1 : fits (ty0 j) (nm_cv b base v) = true)
    {ls r : List Value} (hop : nm_Wf i D cA b base p l e R s m args below meth c QQ (pc + 3) ls r w' k n) {H : Heap} {locs : List Loc} {A : Array Slot} (hz : H.size = base + w.length) (hP : va_P D vwCl (nm_cw cA b base w) H) (hS : va_S (nm_A base) s.heap H locs) (hL : nm_L b base i.sl i.mL ls A) :
    W p l e R s m args below meth c H locs k n QQ (F0 m pc A (nm_cv b base v :: .ref (base + a) :: r.map (nm_cv b base))) := by
  obtain ⟨hx, hb, hml, hown, hts, hN, hK, hX, hbb, hbs, hin⟩ := hG
  obtain ⟨fs, ha, hjl, rfl⟩ := nm_put_some hp
  have hal : a < w.length := (List.getElem?_eq_some_iff.mp ha).1
  have e1 : ∀ u : Value, (nm_cw cA b base w).set a (base + a, (Sum.inr (ci, (fs.map (nm_cv b base)).set j (nm_cv b base u)) : va_E)) = nm_cw cA b base (w.set a (.inr (ci, fs.set j u))) := fun u => by
    rw [← nm_cw_set]
    simp only [nm_ce, List.map_set]
  have kk : ∀ (H1 : Heap) (locs1 : List Loc), va_P D vwCl ((nm_cw cA b base w).set a (base + a, (Sum.inr (ci, (fs.map (nm_cv b base)).set j (nm_cv b base v)) : va_E))) H1 → va_D (nm_A base) ((nm_cw cA b base w).set a (base + a, (Sum.inr (ci, (fs.map (nm_cv b base)).set j (nm_cv b base v)) : va_E))) → va_S (nm_A base) s.heap H1 locs1 → H1.size = H.size → W p l e R s m args below meth c H1 locs1 k n QQ (F0 m (pc + 3) A (r.map (nm_cv b base))) := by
    intro H1 locs1 q1 q2 q3 q4
    rw [e1] at q1
    exact hop H1 locs1 A (by rw [q4, hz, List.length_set]) q1 q3 hL
  obtain ⟨r0, h1, cell, q1, q2, q3, q4⟩ := hP a _ (nm_cw_at ha)
  have hr : r0 = (C0, T, N) := Option.some.inj (h1.symm.trans hc)
  subst hr
  have hap := va_apart (own := i.nm.cls) hts hin0 ty0 hty hnm hK hc
  obtain ⟨hS1, hfc, kC, hkC, hkind⟩ := hK.1 ci _ hc
  obtain ⟨cf, kf, fi, f, hi, hsl⟩ := hS1 j hj
  have hst := (u_facts hfc hkC (u_lays hts hin0 hj) hi).1
  have hlay := hts _ (hin0 _ (u_in_lay hj))
  unfold u_lay at hlay
  rcases hf with hfin | ⟨hfin, hini, hdecl⟩
  · rw [if_neg (by rw [hfin]; decide)] at hlay
    have h6 := u_store hfc hkC hkind hlay hi (hty j hj) hn1 hf1
    refine W.putK hx hb (f := f) ⟨hown, hts _ hl, ⟨_, _, _, hi⟩, hst⟩ (by rw [q2]; exact h6) q1 q3 (by rw [hsl]; exact k2_hasslot (q4 j hj)) rfl rfl hd fun H' e1 e2 e3 => ?_
    rw [hsl] at e1 ⊢
    exact kk H' _ (hP.set nm_cw_D (nm_cw_at ha) ⟨_, hc, t_OB.to (V := updV (vp_V (fs.map (nm_cv b base))) j (nm_cv b base v)) ⟨_, e1, q2, q3, t_set q4 hap hj (nm_cv b base v)⟩ (fun x _ => vp_updV_set (by rw [List.length_map]; exact hjl) (nm_cv b base v) x)⟩ e3) (nm_cw_D.set (nm_cw_at ha)) (hS.put e2 e3 (Nat.le_add_right _ _)) e2
  · rw [if_pos hfin] at hlay
    have hcf : m.cls = cf := by
      obtain ⟨_, _, c', _, _, _, -, -, hf', -, -, -, hown2, -⟩ := Cond.laysFinal_spec hlay
      have e1 : c' = cf := by have := hi.symm.trans hf'; simp at this; exact this.1.symm
      rw [hdecl] at hown2
      rw [← e1]; exact Option.some.inj (hown.symm.trans hown2)
    have h6 := u_fits hfc hkC hkind (Or.inr hlay) hi (hty j hj) hn1 hf1
    refine W.putFinK hx hb hown (hts _ hl) hi hst hcf (hin hini) (by rw [q2]; exact h6) q1 q3 (by rw [hsl]; exact k2_hasslot (q4 j hj)) rfl rfl hd fun H' e1 e2 e3 => ?_
    rw [hsl] at e1 ⊢
    exact kk H' _ (hP.set nm_cw_D (nm_cw_at ha) ⟨_, hc, t_OB.to (V := updV (vp_V (fs.map (nm_cv b base))) j (nm_cv b base v)) ⟨_, e1, q2, q3, t_set q4 hap hj (nm_cv b base v)⟩ (fun x _ => vp_updV_set (by rw [List.length_map]; exact hjl) (nm_cv b base v) x)⟩ e3) (nm_cw_D.set (nm_cw_at ha)) (hS.put e2 e3 (Nat.le_add_right _ _)) e2
theorem nm_bool_and {x : Int32} (h : x = 0 ∨ x = 1) : x &&& 1 = x := by rcases h with rfl | rfl <;> decide
theorem nm_char_ok {x : Int32} (h : 0 ≤ x ∧ x ≤ 65535) : narrow .char (.int x) = .int x ∧ fits .char (.int x) = true := by
  obtain ⟨q, h1, rfl⟩ := nI_of2 (M := 65535) (n := 65535) (by decide) (by
    intro h0
    have h1 := h.1
    rw [Int32.le_iff_toInt_le] at h1
    rw [Int32.lt_iff_toInt_lt] at h0
    omega) h.2
  exact pk_charN (by omega)
theorem ok_putI {idx ci j N t : Nat} {C0 : String} {T : u_T} {ty0 : Nat → FieldType} (hc : vwCl[ci]? = some (C0, T, N)) (hin0 : ∀ w ∈ u_ws C0 T N, w ∈ nm_good) (hty : ∀ k, k < N → parseFieldDescriptor (T k).2.2.1 = some (ty0 k)) (hnm : ∀ a, a < N → ∀ b, b < N → a ≠ b → (T a).2.1 ≠ (T b).2.1) (hj : j < N) (hl : Cond.fieldLink i.nm.cls idx (T j).1 (T j).2.1 (T j).2.2.1 ∈ nm_good) (hd : decode i.cc pc = .ok (.putfield idx, 3))
    (hf : (T j).2.2.2 = false ∨ ((T j).2.2.2 = true ∧ i.nm.name = "<init>" ∧ (T j).1 = i.nm.cls)) (hk : (t = 0 ∧ ty0 j = .boolean) ∨ (t = 1 ∧ ty0 j = .char) ∨ (t = 2 ∧ ty0 j = .int)) (hn : pc + 3 = nx) : nm_ok I i L xs pc (op_putI ci j t nx) := by
  intro d l D cA b base p e R s m args below meth c QQ C Q hR1 hR2 hR3 hR4 hG hC hQ ls st w k n hop H locs A hz hP hS hL
  subst hn
  unfold op_putI at hop
  split at hop
  · rename_i x a r
    split at hop
    · exact False.elim hop
    · rename_i hcond
      split at hop
      · rename_i w' hp
        have hnf : narrow (ty0 j) (.int x) = .int x ∧ fits (ty0 j) (.int x) = true := by
          rcases hk with ⟨rfl, h2⟩ | ⟨rfl, h2⟩ | ⟨rfl, h2⟩
          · have hb : x = 0 ∨ x = 1 := Decidable.byContradiction (fun hh => hcond (Or.inl ⟨rfl, hh⟩))
            rw [h2]
            exact ⟨by simp only [narrow, nm_bool_and hb], by rcases hb with rfl | rfl <;> rfl⟩
          · have hb : 0 ≤ x ∧ x ≤ 65535 := Decidable.byContradiction (fun hh => hcond (Or.inr ⟨rfl, hh⟩))
            rw [h2]
            exact nm_char_ok hb
          · rw [h2]
            exact ⟨rfl, rfl⟩
        exact nm_put1 (v := .int x) hc hin0 hty hnm hj hl hd hf hG hp hnf.1 hnf.2 hop hz hP hS hL
      · exact False.elim hop
  · exact False.elim hop
theorem ok_putL {idx ci j N : Nat} {C0 : String} {T : u_T} {ty0 : Nat → FieldType} (hc : vwCl[ci]? = some (C0, T, N)) (hin0 : ∀ w ∈ u_ws C0 T N, w ∈ nm_good) (hty : ∀ k, k < N → parseFieldDescriptor (T k).2.2.1 = some (ty0 k)) (hnm : ∀ a, a < N → ∀ b, b < N → a ≠ b → (T a).2.1 ≠ (T b).2.1) (hj : j < N) (hl : Cond.fieldLink i.nm.cls idx (T j).1 (T j).2.1 (T j).2.2.1 ∈ nm_good) (hd : decode i.cc pc = .ok (.putfield idx, 3))
    (hf : (T j).2.2.2 = false ∨ ((T j).2.2.2 = true ∧ i.nm.name = "<init>" ∧ (T j).1 = i.nm.cls)) (hk : ty0 j = .long) (hn : pc + 3 = nx) : nm_ok I i L xs pc (op_putL ci j nx) := by
  intro d l D cA b base p e R s m args below meth c QQ C Q hR1 hR2 hR3 hR4 hG hC hQ ls st w k n hop H locs A hz hP hS hL
  subst hn
  unfold op_putL at hop
  split at hop
  · rename_i x a r
    split at hop
    · rename_i w' hp
      exact nm_put1 (v := .long x) hc hin0 hty hnm hj hl hd hf hG hp (by rw [hk]; rfl) (by rw [hk]; rfl) hop hz hP hS hL
    · exact False.elim hop
  · exact False.elim hop
theorem ok_putA {idx ci j N : Nat} {C0 : String} {T : u_T} {ty0 : Nat → FieldType} (hc : vwCl[ci]? = some (C0, T, N)) (hin0 : ∀ w ∈ u_ws C0 T N, w ∈ nm_good) (hty : ∀ k, k < N → parseFieldDescriptor (T k).2.2.1 = some (ty0 k)) (hnm : ∀ a, a < N → ∀ b, b < N → a ≠ b → (T a).2.1 ≠ (T b).2.1) (hj : j < N) (hl : Cond.fieldLink i.nm.cls idx (T j).1 (T j).2.1 (T j).2.2.1 ∈ nm_good) (hd : decode i.cc pc = .ok (.putfield idx, 3))
    (hf : (T j).2.2.2 = false ∨ ((T j).2.2.2 = true ∧ i.nm.name = "<init>" ∧ (T j).1 = i.nm.cls)) (hk : ∀ a : Nat, narrow (ty0 j) (.ref a) = .ref a ∧ fits (ty0 j) (.ref a) = true) (hn : pc + 3 = nx) : nm_ok I i L xs pc (op_putA ci j nx) := by
  intro d l D cA b base p e R s m args below meth c QQ C Q hR1 hR2 hR3 hR4 hG hC hQ ls st w k n hop H locs A hz hP hS hL
  subst hn
  unfold op_putA at hop
  split at hop
  · rename_i x a r
    split at hop
    · rename_i w' hp
      exact nm_put1 (v := .ref x) hc hin0 hty hnm hj hl hd hf hG hp (hk _).1 (hk _).2 hop hz hP hS hL
    · exact False.elim hop
  · exact False.elim hop
theorem nm_ald_some {w : nm_W} {a t : Nat} {x y : Int32} (h : nm_ald w a t x = some y) : ∃ n f, w[a]? = some (.inl (t, n, .inl f)) ∧ vp_in x n ∧ y = f x.toNatClampNeg := by
  unfold nm_ald at h
  split at h
  · rename_i t' n f ha
    split at h
    · rename_i hh
      cases h
      exact ⟨n, f, by rw [← hh.1]; exact ha, hh.2, rfl⟩
    · cases h
  · cases h
theorem nm_ast_some {w w' : nm_W} {a t : Nat} {x y : Int32} (h : nm_ast w a t x y = some w') : ∃ n f, w[a]? = some (.inl (t, n, .inl f)) ∧ vp_in x n ∧ w' = w.set a (.inl (t, n, .inl (upd f x.toNatClampNeg (nm_nar t y)))) := by
  unfold nm_ast at h
  split at h
  · rename_i t' n f ha
    split at h
    · rename_i hh
      cases h
      obtain ⟨rfl, h2⟩ := hh
      exact ⟨n, f, ha, h2, rfl⟩
    · cases h
  · cases h
theorem ok_iaload (hd : decode i.cc pc = .ok (.iaload, 1)) (hn : pc + 1 = nx) : nm_ok I i L xs pc (op_ald 2 nx) := by
  intro d l D cA b base p e R s m args below meth c QQ C Q hR1 hR2 hR3 hR4 hG hC hQ ls st w k n hop H locs A hz hP hS hL
  obtain ⟨hx, hb, hml, hown, hts, hN, hK, hX, hbb, hbs, hin⟩ := hG
  subst hn
  unfold op_ald at hop
  split at hop
  · rename_i x a r
    split at hop
    · rename_i y hy
      obtain ⟨n0, f, ha, hi, rfl⟩ := nm_ald_some hy
      exact va_iald hx hb hK hP a 2 (nm_cw_at ha) rfl hi hd (hop H locs A hz hP hS hL)
    · exact False.elim hop
  · exact False.elim hop
theorem ok_caload (hd : decode i.cc pc = .ok (.caload, 1)) (hn : pc + 1 = nx) : nm_ok I i L xs pc (op_ald 1 nx) := by
  intro d l D cA b base p e R s m args below meth c QQ C Q hR1 hR2 hR3 hR4 hG hC hQ ls st w k n hop H locs A hz hP hS hL
  obtain ⟨hx, hb, hml, hown, hts, hN, hK, hX, hbb, hbs, hin⟩ := hG
  subst hn
  unfold op_ald at hop
  split at hop
  · rename_i x a r
    split at hop
    · rename_i y hy
      obtain ⟨n0, f, ha, hi, rfl⟩ := nm_ald_some hy
      exact va_cald hx hb hK hP a 1 (nm_cw_at ha) rfl hi hd (hop H locs A hz hP hS hL)
    · exact False.elim hop
  · exact False.elim hop
theorem ok_baload (hd : decode i.cc pc = .ok (.baload, 1)) (hn : pc + 1 = nx) : nm_ok I i L xs pc (op_ald 0 nx) := by
  intro d l D cA b base p e R s m args below meth c QQ C Q hR1 hR2 hR3 hR4 hG hC hQ ls st w k n hop H locs A hz hP hS hL
  obtain ⟨hx, hb, hml, hown, hts, hN, hK, hX, hbb, hbs, hin⟩ := hG
  subst hn
  unfold op_ald at hop
  split at hop
  · rename_i x a r
    split at hop
    · rename_i y hy
      obtain ⟨n0, f, ha, hi, rfl⟩ := nm_ald_some hy
      exact va_zald hx hb hK hP a 0 (nm_cw_at ha) rfl hi hd (hop H locs A hz hP hS hL)
    · exact False.elim hop
  · exact False.elim hop
theorem ok_laload (hd : decode i.cc pc = .ok (.laload, 1)) (hn : pc + 1 = nx) : nm_ok I i L xs pc (op_lald nx) := by
  intro d l D cA b base p e R s m args below meth c QQ C Q hR1 hR2 hR3 hR4 hG hC hQ ls st w k n hop H locs A hz hP hS hL
  obtain ⟨hx, hb, hml, hown, hts, hN, hK, hX, hbb, hbs, hin⟩ := hG
  subst hn
  unfold op_lald at hop
  split at hop
  · rename_i x a r
    split at hop
    · rename_i y hy
      unfold nm_lald at hy
      split at hy
      · rename_i t' n0 f ha
        split at hy
        · rename_i hh
          cases hy
          obtain ⟨rfl, h2⟩ := hh
          exact va_lald hx hb hK hP a 3 (nm_cw_at ha) rfl h2 hd (hop H locs A hz hP hS hL)
        · cases hy
      · cases hy
    · exact False.elim hop
  · exact False.elim hop
theorem ok_iastore (hd : decode i.cc pc = .ok (.iastore, 1)) (hn : pc + 1 = nx) : nm_ok I i L xs pc (op_ast 2 nx) := by
  intro d l D cA b base p e R s m args below meth c QQ C Q hR1 hR2 hR3 hR4 hG hC hQ ls st w k n hop H locs A hz hP hS hL
  obtain ⟨hx, hb, hml, hown, hts, hN, hK, hX, hbb, hbs, hin⟩ := hG
  subst hn
  unfold op_ast at hop
  split at hop
  · rename_i y x a r
    split at hop
    · rename_i w' hy
      obtain ⟨n0, f, ha, hi, rfl⟩ := nm_ast_some hy
      refine W.iast hx hb (hP a _ (nm_cw_at ha)) ((hK.2 2 _ rfl).1 n0 (fun j => .int (f j))) (fun q => by cases q) (by show ¬ (x < 0 ∨ (arrV _ _ _).slots.size ≤ _); rw [arrV_size]; exact hi) rfl rfl hd fun H1 e1 z oq => ?_
      refine hop H1 _ A (by rw [z, hz, List.length_set]) ?_ (hS.put z oq (Nat.le_add_right _ _)) hL
      have hs := va_P.set (e := .inl (cA 2, n0, .inl (upd f x.toNatClampNeg y))) hP nm_cw_D (nm_cw_at ha) ?_ oq
      · rw [show (Sum.inl (cA 2, n0, Sum.inl (upd f x.toNatClampNeg y)) : va_E) = nm_ce cA b base (.inl (2, n0, .inl (upd f x.toNatClampNeg y))) from rfl, nm_cw_set] at hs
        exact hs
      · show H1[base + a]? = some (vp_cell _ _)
        rw [e1]
        rw [show vp_cell (cA 2) (n0, Sum.inl (upd f x.toNatClampNeg y)) = arrV (cA 2) n0 (fun j => .int (upd f x.toNatClampNeg y j)) from rfl]
        show some ((arrV (cA 2) n0 (fun j => .int (f j))).setSlot _ _) = _
        rw [arrV_store]
        congr 2
        funext q
        by_cases hq : q = x.toNatClampNeg
        · subst hq
          simp [updV, upd]
        · simp [updV, upd, hq]
    · exact False.elim hop
  · exact False.elim hop
theorem ok_bastore (hd : decode i.cc pc = .ok (.bastore, 1)) (hn : pc + 1 = nx) : nm_ok I i L xs pc (op_ast 0 nx) := by
  intro d l D cA b base p e R s m args below meth c QQ C Q hR1 hR2 hR3 hR4 hG hC hQ ls st w k n hop H locs A hz hP hS hL
  obtain ⟨hx, hb, hml, hown, hts, hN, hK, hX, hbb, hbs, hin⟩ := hG
  subst hn
  unfold op_ast at hop
  split at hop
  · rename_i y x a r
    split at hop
    · rename_i w' hy
      obtain ⟨n0, f, ha, hi, rfl⟩ := nm_ast_some hy
      refine W.zast hx hb (hP a _ (nm_cw_at ha)) ((hK.2 0 _ rfl).1 n0 (fun j => .int (f j))) (fun q => by cases q) (by show ¬ (x < 0 ∨ (arrV _ _ _).slots.size ≤ _); rw [arrV_size]; exact hi) rfl rfl hd fun H1 e1 z oq => ?_
      refine hop H1 _ A (by rw [z, hz, List.length_set]) ?_ (hS.put z oq (Nat.le_add_right _ _)) hL
      have hs := va_P.set (e := .inl (cA 0, n0, .inl (upd f x.toNatClampNeg (vp_nar .boolean y)))) hP nm_cw_D (nm_cw_at ha) ?_ oq
      · rw [show (Sum.inl (cA 0, n0, Sum.inl (upd f x.toNatClampNeg (vp_nar .boolean y))) : va_E) = nm_ce cA b base (.inl (0, n0, .inl (upd f x.toNatClampNeg (vp_nar .boolean y)))) from rfl, nm_cw_set] at hs
        exact hs
      · show H1[base + a]? = some (vp_cell _ _)
        rw [e1]
        rw [show vp_cell (cA 0) (n0, Sum.inl (upd f x.toNatClampNeg (vp_nar .boolean y))) = arrV (cA 0) n0 (fun j => .int (upd f x.toNatClampNeg (vp_nar .boolean y) j)) from rfl]
        show some ((arrV (cA 0) n0 (fun j => .int (f j))).setSlot _ _) = _
        rw [arrV_store]
        congr 2
        funext q
        by_cases hq : q = x.toNatClampNeg
        · subst hq
          simp [updV, upd, vp_nar]
          try rfl
        · simp [updV, upd, hq]
    · exact False.elim hop
  · exact False.elim hop
theorem ok_castore (hd : decode i.cc pc = .ok (.castore, 1)) (hn : pc + 1 = nx) : nm_ok I i L xs pc (op_ast 1 nx) := by
  intro d l D cA b base p e R s m args below meth c QQ C Q hR1 hR2 hR3 hR4 hG hC hQ ls st w k n hop H locs A hz hP hS hL
  obtain ⟨hx, hb, hml, hown, hts, hN, hK, hX, hbb, hbs, hin⟩ := hG
  subst hn
  unfold op_ast at hop
  split at hop
  · rename_i y x a r
    split at hop
    · rename_i w' hy
      obtain ⟨n0, f, ha, hi, rfl⟩ := nm_ast_some hy
      refine W.cast hx hb (hP a _ (nm_cw_at ha)) ((hK.2 1 _ rfl).1 n0 (fun j => .int (f j))) (fun q => by cases q) (by show ¬ (x < 0 ∨ (arrV _ _ _).slots.size ≤ _); rw [arrV_size]; exact hi) rfl rfl hd fun H1 e1 z oq => ?_
      refine hop H1 _ A (by rw [z, hz, List.length_set]) ?_ (hS.put z oq (Nat.le_add_right _ _)) hL
      have hs := va_P.set (e := .inl (cA 1, n0, .inl (upd f x.toNatClampNeg (vp_nar .char y)))) hP nm_cw_D (nm_cw_at ha) ?_ oq
      · rw [show (Sum.inl (cA 1, n0, Sum.inl (upd f x.toNatClampNeg (vp_nar .char y))) : va_E) = nm_ce cA b base (.inl (1, n0, .inl (upd f x.toNatClampNeg (vp_nar .char y)))) from rfl, nm_cw_set] at hs
        exact hs
      · show H1[base + a]? = some (vp_cell _ _)
        rw [e1]
        rw [show vp_cell (cA 1) (n0, Sum.inl (upd f x.toNatClampNeg (vp_nar .char y))) = arrV (cA 1) n0 (fun j => .int (upd f x.toNatClampNeg (vp_nar .char y) j)) from rfl]
        show some ((arrV (cA 1) n0 (fun j => .int (f j))).setSlot _ _) = _
        rw [arrV_store]
        congr 2
        funext q
        by_cases hq : q = x.toNatClampNeg
        · subst hq
          simp [updV, upd, vp_nar]
          try rfl
        · simp [updV, upd, hq]
    · exact False.elim hop
  · exact False.elim hop
theorem ok_lastore (hd : decode i.cc pc = .ok (.lastore, 1)) (hn : pc + 1 = nx) : nm_ok I i L xs pc (op_last nx) := by
  intro d l D cA b base p e R s m args below meth c QQ C Q hR1 hR2 hR3 hR4 hG hC hQ ls st w k n hop H locs A hz hP hS hL
  obtain ⟨hx, hb, hml, hown, hts, hN, hK, hX, hbb, hbs, hin⟩ := hG
  subst hn
  unfold op_last at hop
  split at hop
  · rename_i y x a r
    split at hop
    · rename_i w' hy
      unfold nm_last at hy
      split at hy
      · rename_i t' n0 f ha
        split at hy
        · rename_i hh
          cases hy
          obtain ⟨rfl, hi⟩ := hh
          refine W.last hx hb (hP a _ (nm_cw_at ha)) ((hK.2 3 _ rfl).1 n0 (fun j => .long (f j))) (fun q => by cases q) (by show ¬ (x < 0 ∨ (arrV _ _ _).slots.size ≤ _); rw [arrV_size]; exact hi) rfl rfl hd fun H1 e1 z oq => ?_
          refine hop H1 _ A (by rw [z, hz, List.length_set]) ?_ (hS.put z oq (Nat.le_add_right _ _)) hL
          have hs := va_P.set (e := .inl (cA 3, n0, .inr (.inl (vp_updL f x.toNatClampNeg y)))) hP nm_cw_D (nm_cw_at ha) ?_ oq
          · rw [show (Sum.inl (cA 3, n0, Sum.inr (Sum.inl (vp_updL f x.toNatClampNeg y))) : va_E) = nm_ce cA b base (.inl (3, n0, .inr (vp_updL f x.toNatClampNeg y))) from rfl, nm_cw_set] at hs
            exact hs
          · show H1[base + a]? = some (vp_cell _ _)
            rw [e1]
            rw [show vp_cell (cA 3) (n0, Sum.inr (Sum.inl (vp_updL f x.toNatClampNeg y))) = arrV (cA 3) n0 (fun j => .long (vp_updL f x.toNatClampNeg y j)) from rfl]
            show some ((arrV (cA 3) n0 (fun j => .long (f j))).setSlot _ _) = _
            rw [arrV_store]
            congr 2
            funext q
            by_cases hq : q = x.toNatClampNeg
            · subst hq
              simp [updV, vp_updL]
            · simp [updV, vp_updL, hq]
        · cases hy
      · cases hy
    · exact False.elim hop
  · exact False.elim hop
end OKH
end
section
/-! The script, new cells, calls and ends; then the methods by depth. -/
section OKC
variable {I : Nat → Option nm_I} {i : nm_I} {L : Nat} {xs : Nat → Int32} {pc nx tg : Nat}
theorem ok_sald (hd : decode i.cc pc = .ok (.iaload, 1)) (hn : pc + 1 = nx) : nm_ok I i L xs pc (op_sald L xs nx) := by
  intro d l D cA b base p e R s m args below meth c QQ C Q hR1 hR2 hR3 hR4 hG hC hQ ls st w k n hop H locs A hz hP hS hL
  obtain ⟨hx, hb, hml, hown, hts, hN, hK, hX, hbb, hbs, hin⟩ := hG
  subst hn
  unfold op_sald at hop
  split at hop
  · split at hop
    · exact False.elim hop
    · rename_i hi
      exact va_sld hx hb hX (Nat.lt_of_lt_of_le hbb hbs) (Nat.not_le.mpr hbb) hS hi hd (hop H locs A hz hP hS hL)
  · exact False.elim hop
theorem ok_slen (hd : decode i.cc pc = .ok (.arraylength, 1)) (hn : pc + 1 = nx) : nm_ok I i L xs pc (op_slen L nx) := by
  intro d l D cA b base p e R s m args below meth c QQ C Q hR1 hR2 hR3 hR4 hG hC hQ ls st w k n hop H locs A hz hP hS hL
  obtain ⟨hx, hb, hml, hown, hts, hN, hK, hX, hbb, hbs, hin⟩ := hG
  subst hn
  unfold op_slen at hop
  split at hop
  · exact va_slen hx hb hX (Nat.lt_of_lt_of_le hbb hbs) (Nat.not_le.mpr hbb) hS hd (hop H locs A hz hP hS hL)
  · exact False.elim hop
theorem nm_P_push {D : va_G} {cA : Nat → ClassId} {b base : Nat} {w : nm_W} {x : nm_E} {H H1 : Heap} (hz : H.size = base + w.length) (hP : va_P D vwCl (nm_cw cA b base w) H) (o1 : ∀ q, q < H.size → H1[q]? = H[q]?) (hx : va_at D vwCl (base + w.length, nm_ce cA b base x) H1) : va_P D vwCl (nm_cw cA b base (w ++ [x])) H1 := by
  rw [← nm_cw_push]
  refine (hP.kept fun k q hq => o1 q.1 (hP k q hq).lt).app (fun k q hq => ?_)
  have h0 : k < 1 := (List.getElem?_eq_some_iff.mp hq).1
  rw [show k = 0 by omega] at hq
  cases hq
  exact hx
theorem nm_S_push {base : Nat} {H0 H H1 : Heap} {locs : List Loc} (hS : va_S (nm_A base) H0 H locs) (z1 : H1.size = H.size + 1) (o1 : ∀ q, q < H.size → H1[q]? = H[q]?) : va_S (nm_A base) H0 H1 locs :=
  ⟨Nat.le_trans hS.1 (by omega), fun x h1 h2 => (o1 x (Nat.lt_of_lt_of_le h1 hS.1)).trans (hS.2.1 x h1 h2), hS.2.2⟩
theorem ok_new {idx ci N : Nat} {C0 : String} {T : u_T} {ty0 : Nat → FieldType} {fs : List Value} (hc : vwCl[ci]? = some (C0, T, N)) (hin0 : ∀ w ∈ u_ws C0 T N, w ∈ nm_good) (hty : ∀ k, k < N → parseFieldDescriptor (T k).2.2.1 = some (ty0 k)) (hcl : Cond.classLink i.nm.cls idx C0 ∈ nm_good) (hinst : Cond.instantiable C0 N ∈ nm_good) (hini : Cond.initialized C0 ∈ nm_good) (hfs : ∀ b base : Nat, ∀ j, j < N → defaultValue (ty0 j) = vp_V (fs.map (nm_cv b base)) j) (hd : decode i.cc pc = .ok (.new idx, 3)) (hn : pc + 3 = nx) : nm_ok I i L xs pc (op_new ci N i.mc i.ms nx fs) := by
  intro d l D cA b base p e R s m args below meth c QQ C Q hR1 hR2 hR3 hR4 hG hC hQ ls st w k n hop H locs A hz hP hS hL
  obtain ⟨hx, hb, hml, hown, hts, hN, hK, hX, hbb, hbs, hin⟩ := hG
  subst hn
  unfold op_new at hop
  split at hop
  · rename_i hh
    have hKn := hK.1 ci _ hc
    refine W.newcK hx hb hown (hts _ hcl) (hts _ hinst) (hts _ hini) rfl hd (Nat.le_trans hh.1 hR3) (Nat.le_trans hh.2 hR4) hKn.2.1 rfl fun H1 kC hkC e1 z1 o1 => ?_
    have hop' := hop H1 locs A (by rw [z1, hz, List.length_append]; rfl) (nm_P_push hz hP o1 ⟨_, hc, by rw [← hz]; exact (u_born ty0 hts hin0 hKn hkC e1 hty).to (hfs b base)⟩) (nm_S_push hS z1 o1) hL
    rw [hz]
    exact hop'
  · exact False.elim hop
theorem ok_newa {at0 : ArrayType} {ty : FieldType} {t : Nat} (hat : newarray.typeOf at0 = ty) (ht : (t = 0 ∧ ty = .boolean) ∨ (t = 1 ∧ ty = .char) ∨ (t = 2 ∧ ty = .int) ∨ (t = 3 ∧ ty = .long)) (hw : Cond.arrayClass ty ∈ nm_good) (hd : decode i.cc pc = .ok (.newarray at0, 2)) (hn : pc + 2 = nx) : nm_ok I i L xs pc (op_newa t i.mc i.ms nx) := by
  intro d l D cA b base p e R s m args below meth c QQ C Q hR1 hR2 hR3 hR4 hG hC hQ ls st w k n hop H locs A hz hP hS hL
  obtain ⟨hx, hb, hml, hown, hts, hN, hK, hX, hbb, hbs, hin⟩ := hG
  subst hn
  subst hat
  unfold op_newa at hop
  split at hop
  · rename_i x r
    split at hop
    · rename_i hh
      have hcb : componentBytes (newarray.typeOf at0) ≤ 8 := by
        rcases ht with ⟨-, h⟩ | ⟨-, h⟩ | ⟨-, h⟩ | ⟨-, h⟩ <;> rw [h] <;> decide
      refine va_newaK hx hb (hts _ hw) rfl hd rfl hh.1 rfl (Nat.le_trans (Nat.mul_le_mul hh.2.1 hcb) (by decide)) (Nat.le_trans hh.2.2.1 hR3) (Nat.le_trans hh.2.2.2 hR4) rfl fun H1 cN e1 z1 o1 hAr hNm => ?_
      have hcN : cN = cA t := by
        rcases ht with ⟨rfl, h⟩ | ⟨rfl, h⟩ | ⟨rfl, h⟩ | ⟨rfl, h⟩ <;> rw [h] at hNm
        · exact Option.some.inj (hNm.symm.trans (hK.2 0 _ rfl).2)
        · exact Option.some.inj (hNm.symm.trans (hK.2 1 _ rfl).2)
        · exact Option.some.inj (hNm.symm.trans (hK.2 2 _ rfl).2)
        · exact Option.some.inj (hNm.symm.trans (hK.2 3 _ rfl).2)
      subst hcN
      have hop' := hop H1 locs A (by rw [z1, hz, List.length_append]; rfl) (nm_P_push hz hP o1 (by
        rw [← hz]
        rcases ht with ⟨rfl, h⟩ | ⟨rfl, h⟩ | ⟨rfl, h⟩ | ⟨rfl, h⟩ <;> rw [h] at e1 <;> exact e1)) (nm_S_push hS z1 o1) hL
      rw [hz]
      exact hop'
    · exact False.elim hop
  · exact False.elim hop
theorem nm_cat_sum {b base : Nat} : ∀ (r : List Value), ((r.map (nm_cv b base)).map fun v => v.category).sum ≤ 2 * r.length
  | [] => by simp
  | v :: r => by
    have ih := nm_cat_sum (b := b) (base := base) r
    have h1 : v.category = 1 ∨ v.category = 2 := lv_cat v
    simp only [List.map_cons, List.sum_cons, List.length_cons, nm_cv_cat] at ih ⊢
    omega
theorem ok_obj {idx : Nat} (hl : Cond.methodLink i.nm.cls idx Lib.objectInit ∈ nm_good) (hi0 : Cond.instanceMethod Lib.objectInit ∈ nm_good) (hc0 : Cond.code Lib.objectInit ⟨#[0xb1]⟩ 1 none ∈ nm_good) (hd : decode i.cc pc = .ok (.invokespecial idx, 3)) (hn : pc + 3 = nx) : nm_ok I i L xs pc (op_obj nx) := by
  intro d l D cA b base p e R s m args below meth c QQ C Q hR1 hR2 hR3 hR4 hG hC hQ ls st w k n hop H locs A hz hP hS hL
  obtain ⟨hx, hb, hml, hown, hts, hN, hK, hX, hbb, hbs, hin⟩ := hG
  subst hn
  unfold op_obj at hop
  split at hop
  · rename_i a r
    split at hop
    · rename_i hr
      refine W.objInit hx hb hown (hts _ hl) (hts _ hi0) (hts _ hc0) rfl (by rw [hml]; exact hL.1) rfl hd (by omega) ?_ (hop H locs A hz hP hS hL)
      have h1 := nm_cat_sum (b := b) (base := base) r
      have h2 := lv_room (m := m) (pc := pc) (ls := A) (rest := List.map (nm_cv b base) (Value.ref a :: r)) (st := r.map (nm_cv b base)) (by omega)
      omega
    · exact False.elim hop
  · exact False.elim hop
/-- behind a call -/
theorem nm_after {D : va_G} {cA : Nat → ClassId} {b base : Nat} {p : Program} {l : Launch} {e : Env} {R : Room} {s : State} {m : MethodId} {args a : Array Value} {below : List Frame} {meth : Method} {c : Code} {QQ : State → Prop} {H : Heap} {locs : List Loc} {k n mc ms : Nat} {A : Array Slot} {st0 rest : List Value} {K : nm_K}
    (hr : va_Run p l e R s m args below meth c H locs k n mc ms (F0 m pc A st0) rest (nm_Qc D cA b base K a) (nm_A base)) (hS : va_S (nm_A base) s.heap H locs)
    (kk : ∀ (v : List Value) (w : nm_W) (H1 : Heap) (locs1 : List Loc), K v w → H1.size = base + w.length → va_P D vwCl (nm_cw cA b base w) H1 → va_S (nm_A base) s.heap H1 locs1 → W p l e R s m args below meth c H1 locs1 (k + mc) (n + ms) QQ (F0 m (pc + 3) A (v.map (nm_cv b base) ++ rest))) : W p l e R s m args below meth c H locs k n QQ (F0 m pc A st0) := by
  intro T hT X
  obtain ⟨v, st₀, t, T', LL, h0, X', hLL, e1, e2, ⟨⟨o, vl, w, hv, hvl, hk, hz, hp⟩, hz1, hk1⟩, st⟩ := hr T hT X
  cases hv
  rw [h0] at hz1 hk1
  obtain ⟨t2, a1, b1⟩ := kk vl w T'.heap (locs ++ LL) hk (by rw [e1]; exact hz) (by rw [e1]; exact hp)
    ⟨Nat.le_trans hS.1 (by rw [e1]; exact hz1), fun q h1 h2 => by rw [e1, hk1 q (Nat.lt_of_lt_of_le h1 hS.1) h2]; exact hS.2.1 q h1 h2, fun q hq => by
      rcases List.mem_append.mp hq with h | h
      · exact hS.2.2 q h
      · exact hLL q h⟩ T' rfl X'
  rw [← hvl] at a1
  exact ⟨t2, st t2 a1, b1⟩
theorem nm_blind {D : va_G} {cA : Nat → ClassId} {b base : Nat} {as : List Value} {w : nm_W} : FrameBlind (nm_Pc D cA b base L xs as w) := by
  intro a U g mk q
  obtain ⟨q0, q1, q2, q3, q4, q5, q6⟩ := q
  exact ⟨q0, q1, q2, va_K.moved (u := U) (U := U.calling g mk a) (Vm.Alike.refl U.vm) q3, nm_N.same (s := U) (U := U.calling g mk a) rfl q4, va_X.moved (u := U) (U := U.calling g mk a) (Vm.Alike.refl U.vm) q5, q6⟩
theorem nm_pre {D : va_G} {cA : Nat → ClassId} {b base : Nat} {p : Program} {s : State} {m : MethodId} {args : Array Value} {meth : Method} {c : Code} (hG : nm_G i D cA b base L xs p s m args meth c) {H : Heap} {locs : List Loc} {w : nm_W} (hz : H.size = base + w.length) (hP : va_P D vwCl (nm_cw cA b base w) H) (hS : va_S (nm_A base) s.heap H locs) (as : List Value) :
    ∀ U : State, U.heap = H → s.WarmedH U.vm → nm_Pc D cA b base L xs as w (as.map (nm_cv b base)).toArray U := by
  obtain ⟨hx, hb, hml, hown, hts, hN, hK, hX, hbb, hbs, hin⟩ := hG
  intro U hU hW
  have hb0 : H[b]? = s.heap[b]? := hS.2.1 b (Nat.lt_of_lt_of_le hbb hbs) (Nat.not_le.mpr hbb)
  exact ⟨rfl, by rw [hU]; exact hz, by rw [hU]; exact hP, va_K.moved hW.alike hK, nm_N.warm hW hN, by rw [hU]; exact va_X.moved hW.alike (hX.kept hb0), hbb⟩
theorem nm_GoodIn {X : List Cond} (h : ∀ w ∈ X, w ∈ nm_good) : GoodIn nm_good X := fun w hw => ⟨h w hw, good_of_word (nm_good_in (h w hw)).2⟩
theorem nm_ws_good {j : nm_I} (h : Cond.code j.nm j.cc j.mL j.rt ∈ nm_good) : ∀ w ∈ nm_ws j, w ∈ nm_good := by
  intro w hw
  rcases List.mem_cons.mp hw with rfl | hw
  · exact h
  · exact hw
theorem nm_call_some {y na mc ms MC MS nx : Nat} {rc : Option Nat} {ls st : List Value} {w : nm_W} {k n : Nat} {C : nm_C} {Q : nm_K} {F : nm_F} (hop : nm_sem C Q F (op_call y na rc mc ms MC MS nx ls st w k n)) : ∃ as rest, st = as.reverse ++ rest ∧ as.length = na ∧ rest.length ≤ 4 ∧ nm_rcv rc w as = true ∧ k + mc ≤ MC ∧ n + ms ≤ MS ∧ C y as w (fun v w' => F nx ls (v ++ rest) w' (k + mc) (n + ms)) := by
  unfold op_call at hop
  split at hop
  · rename_i hh
    refine ⟨(st.take na).reverse, st.drop na, by rw [List.reverse_reverse, List.take_append_drop], by rw [List.length_reverse, List.length_take]; omega, by rw [List.length_drop]; omega, hh.2.2.1, hh.2.2.2.1, hh.2.2.2.2, hop⟩
  · exact False.elim hop
/-- the face of the method that is called -/
def nm_desc (j : nm_I) (na : Nat) : Prop := j.nm.cls ≠ "java/lang/invoke/MethodHandle" ∧ j.nm.cls ≠ "java/lang/invoke/VarHandle" ∧ (parseMethodDescriptor j.nm.desc).map (fun d => d.parameters.length) = some na
theorem ok_callS {y na idx : Nat} {j : nm_I} (hI : I y = some j) (hcode : Cond.code j.nm j.cc j.mL j.rt ∈ nm_good) (hl : Cond.methodLink i.nm.cls idx j.nm ∈ nm_good) (hst : Cond.static j.nm ∈ nm_good) (hini : Cond.initialized j.nm.cls ∈ nm_good) (hd0 : nm_desc j na) (hmL : j.mL ≤ 40) (hd : decode i.cc pc = .ok (.invokestatic idx, 3)) (hn : pc + 3 = nx) : nm_ok I i L xs pc (op_call y na none j.mc j.ms i.mc i.ms nx) := by
  intro d l D cA b base p e R s m args below meth c QQ C Q hR1 hR2 hR3 hR4 hG hC hQ ls st w k n hop H locs A hz hP hS hL
  have hG0 := hG
  obtain ⟨hx, hb, hml, hown, hts, hN, hK, hX, hbb, hbs, hin⟩ := hG
  subst hn
  obtain ⟨as, rest, rfl, hna, hrest, hrc, h1, h2, hop⟩ := nm_call_some hop
  have hM := hC y as w _ j hop hI
  have hcs := nm_cat_sum (b := b) (base := base) rest
  have hrm : (nm_rm d j).frames + 1 ≤ R.frames ∧ 8 + (j.mL + 11) + (nm_rm d j).locals ≤ R.locals := ⟨hR1, by show 8 + (j.mL + 11) + 64 * d ≤ _; omega⟩
  refine nm_after (va_runS (As := as.map (nm_cv b base)) (rest := rest.map (nm_cv b base)) (n := na) (nL := i.mL) (own := i.nm.cls) (index := idx) (bytes := j.cc) (maxL := j.mL) (ret := j.rt) ⟨hx, hb, hml, hown, hts⟩ hM ⟨callB_of na hts (nm_GoodIn (nm_ws_good hcode)) rfl rfl rfl (hts _ hini) (hts _ hl) hd0 hrm, hts _ hst⟩ ⟨nm_blind, nm_pre hG0 hz hP hS as⟩ rfl (by rw [List.length_map]; exact hna) hL.1 (by rw [List.map_append, List.map_reverse]) (lv_room (by omega)) hd ⟨Nat.le_trans h1 hR3, Nat.le_trans h2 hR4⟩) hS ?_
  intro v w' H1 locs1 hk hz1 hP1 hS1
  have := hk H1 locs1 A hz1 hP1 hS1 hL
  rw [List.map_append] at this
  exact this
theorem ok_callSN {y na idx : Nat} {j : nm_I} {host : String} (hI : I y = some j) (hcode : Cond.code j.nm j.cc j.mL j.rt ∈ nm_good) (hl : (i.nm.cls, idx, j.nm, host) ∈ nm_nest) (hst : Cond.static j.nm ∈ nm_good) (hini : Cond.initialized j.nm.cls ∈ nm_good) (hd0 : nm_desc j na) (hmL : j.mL ≤ 40) (hd : decode i.cc pc = .ok (.invokestatic idx, 3)) (hn : pc + 3 = nx) : nm_ok I i L xs pc (op_call y na none j.mc j.ms i.mc i.ms nx) := by
  intro d l D cA b base p e R s m args below meth c QQ C Q hR1 hR2 hR3 hR4 hG hC hQ ls st w k n hop H locs A hz hP hS hL
  have hG0 := hG
  obtain ⟨hx, hb, hml, hown, hts, hN, hK, hX, hbb, hbs, hin⟩ := hG
  subst hn
  obtain ⟨as, rest, rfl, hna, hrest, hrc, h1, h2, hop⟩ := nm_call_some hop
  have hM := hC y as w _ j hop hI
  have hcs := nm_cat_sum (b := b) (base := base) rest
  have hrm : (nm_rm d j).frames + 1 ≤ R.frames ∧ 8 + (j.mL + 11) + (nm_rm d j).locals ≤ R.locals := ⟨hR1, by show 8 + (j.mL + 11) + 64 * d ≤ _; omega⟩
  refine nm_after (va_runSN (As := as.map (nm_cv b base)) (rest := rest.map (nm_cv b base)) (n := na) (nL := i.mL) (own := i.nm.cls) (host := host) (index := idx) (bytes := j.cc) (maxL := j.mL) (ret := j.rt) ⟨hx, hb, hml, hown, hts⟩ hM ⟨va_cnB na hts (nm_GoodIn (nm_ws_good hcode)) rfl rfl rfl (hN _ hl) (hts _ hini) hd0 hrm, hts _ hst, trivial⟩ ⟨nm_blind, nm_pre hG0 hz hP hS as⟩ rfl (by rw [List.length_map]; exact hna) hL.1 (by rw [List.map_append, List.map_reverse]) (lv_room (by omega)) hd ⟨Nat.le_trans h1 hR3, Nat.le_trans h2 hR4⟩) hS ?_
  intro v w' H1 locs1 hk hz1 hP1 hS1
  have := hk H1 locs1 A hz1 hP1 hS1 hL
  rw [List.map_append] at this
  exact this
theorem nm_rcv_some {ci : Nat} {w : nm_W} {as : List Value} (h : nm_rcv (some ci) w as = true) : ∃ a fs as', as = .ref a :: as' ∧ w[a]? = some (.inr (ci, fs)) := by
  unfold nm_rcv at h
  dsimp only at h
  split at h
  · rename_i a as'
    split at h
    · rename_i c fs ha
      rw [beq_iff_eq] at h
      subst h
      exact ⟨a, fs, as', rfl, ha⟩
    · cases h
  · cases h
theorem ok_callV {y na idx ci N : Nat} {j : nm_I} {T : u_T} (hc : vwCl[ci]? = some (j.nm.cls, T, N)) (hI : I y = some j) (hcode : Cond.code j.nm j.cc j.mL j.rt ∈ nm_good) (hl : Cond.methodLink i.nm.cls idx j.nm ∈ nm_good) (hst : Cond.instanceMethod j.nm ∈ nm_good) (hsel : Cond.selects j.nm.cls j.nm j.nm ∈ nm_good) (hini : Cond.initialized j.nm.cls ∈ nm_good) (hd0 : nm_desc j na) (hmL : j.mL ≤ 40) (hd : decode i.cc pc = .ok (.invokevirtual idx, 3)) (hn : pc + 3 = nx) : nm_ok I i L xs pc (op_call y (na + 1) (some ci) j.mc j.ms i.mc i.ms nx) := by
  intro d l D cA b base p e R s m args below meth c QQ C Q hR1 hR2 hR3 hR4 hG hC hQ ls st w k n hop H locs A hz hP hS hL
  have hG0 := hG
  obtain ⟨hx, hb, hml, hown, hts, hN, hK, hX, hbb, hbs, hin⟩ := hG
  subst hn
  obtain ⟨as, rest, rfl, hna, hrest, hrc, h1, h2, hop⟩ := nm_call_some hop
  have hM := hC y as w _ j hop hI
  obtain ⟨a, fs, as', rfl, ha⟩ := nm_rcv_some hrc
  have hcs := nm_cat_sum (b := b) (base := base) rest
  have hrm : (nm_rm d j).frames + 1 ≤ R.frames ∧ 8 + (j.mL + 11) + (nm_rm d j).locals ≤ R.locals := ⟨hR1, by show 8 + (j.mL + 11) + 64 * d ≤ _; omega⟩
  refine nm_after (va_runV (C := j.nm.cls) (b := base + a) (As := as'.map (nm_cv b base)) (rest := rest.map (nm_cv b base)) (n := na) (nL := i.mL) (own := i.nm.cls) (index := idx) (bytes := j.cc) (maxL := j.mL) (ret := j.rt) ⟨hx, hb, hml, hown, hts⟩ hM ⟨callB_of na hts (nm_GoodIn (nm_ws_good hcode)) rfl rfl rfl (hts _ hini) (hts _ hl) hd0 hrm, hts _ hst, hts _ hsel⟩ ⟨nm_blind, va_recv hK hP hc (nm_cw_at ha), nm_pre hG0 hz hP hS (.ref a :: as')⟩ rfl (by rw [List.length_map]; simpa using hna) hL.1 (by simp [nm_cv]) (lv_room (by omega)) hd ⟨Nat.le_trans h1 hR3, Nat.le_trans h2 hR4⟩) hS ?_
  intro v w' H1 locs1 hk hz1 hP1 hS1
  have := hk H1 locs1 A hz1 hP1 hS1 hL
  rw [List.map_append] at this
  exact this
theorem ok_callI {y na idx ci : Nat} {j : nm_I} (hrt : j.rt = none) (hnm : j.nm.name = "<init>") (hI : I y = some j) (hcode : Cond.code j.nm j.cc j.mL j.rt ∈ nm_good) (hl : Cond.methodLink i.nm.cls idx j.nm ∈ nm_good) (hst : Cond.instanceMethod j.nm ∈ nm_good) (hini : Cond.initialized j.nm.cls ∈ nm_good) (hd0 : nm_desc j na) (hmL : j.mL ≤ 40) (hd : decode i.cc pc = .ok (.invokespecial idx, 3)) (hn : pc + 3 = nx) : nm_ok I i L xs pc (op_call y (na + 1) (some ci) j.mc j.ms i.mc i.ms nx) := by
  intro d l D cA b base p e R s m args below meth c QQ C Q hR1 hR2 hR3 hR4 hG hC hQ ls st w k n hop H locs A hz hP hS hL
  have hG0 := hG
  obtain ⟨hx, hb, hml, hown, hts, hN, hK, hX, hbb, hbs, hin⟩ := hG
  subst hn
  obtain ⟨as, rest, rfl, hna, hrest, hrc, h1, h2, hop⟩ := nm_call_some hop
  have hM := hC y as w _ j hop hI
  obtain ⟨a, fs, as', rfl, ha⟩ := nm_rcv_some hrc
  have hcs := nm_cat_sum (b := b) (base := base) rest
  have hrm : (nm_rm d j).frames + 1 ≤ R.frames ∧ 8 + (j.mL + 11) + (nm_rm d j).locals ≤ R.locals := ⟨hR1, by show 8 + (j.mL + 11) + 64 * d ≤ _; omega⟩
  have hcb := callB_of na hts (nm_GoodIn (nm_ws_good hcode)) rfl rfl rfl (hts _ hini) (hts _ hl) hd0 hrm
  rw [hrt] at hcb
  refine nm_after (va_runI (b := base + a) (As := as'.map (nm_cv b base)) (rest := rest.map (nm_cv b base)) (n := na) (nL := i.mL) (own := i.nm.cls) (index := idx) (bytes := j.cc) (maxL := j.mL) ⟨hx, hb, hml, hown, hts⟩ hM ⟨hcb, hnm, hts _ hst⟩ ⟨nm_blind, nm_pre hG0 hz hP hS (.ref a :: as')⟩ rfl (by rw [List.length_map]; simpa using hna) hL.1 (by simp [nm_cv]) (lv_room (by omega)) hd ⟨Nat.le_trans h1 hR3, Nat.le_trans h2 hR4⟩) hS ?_
  intro v w' H1 locs1 hk hz1 hP1 hS1
  have := hk H1 locs1 A hz1 hP1 hS1 hL
  rw [List.map_append] at this
  exact this
theorem ok_callIN {y na idx ci : Nat} {j : nm_I} {host : String} (hrt : j.rt = none) (hnm : j.nm.name = "<init>") (hI : I y = some j) (hcode : Cond.code j.nm j.cc j.mL j.rt ∈ nm_good) (hl : (i.nm.cls, idx, j.nm, host) ∈ nm_nest) (hst : Cond.instanceMethod j.nm ∈ nm_good) (hini : Cond.initialized j.nm.cls ∈ nm_good) (hd0 : nm_desc j na) (hmL : j.mL ≤ 40) (hd : decode i.cc pc = .ok (.invokespecial idx, 3)) (hn : pc + 3 = nx) : nm_ok I i L xs pc (op_call y (na + 1) (some ci) j.mc j.ms i.mc i.ms nx) := by
  intro d l D cA b base p e R s m args below meth c QQ C Q hR1 hR2 hR3 hR4 hG hC hQ ls st w k n hop H locs A hz hP hS hL
  have hG0 := hG
  obtain ⟨hx, hb, hml, hown, hts, hN, hK, hX, hbb, hbs, hin⟩ := hG
  subst hn
  obtain ⟨as, rest, rfl, hna, hrest, hrc, h1, h2, hop⟩ := nm_call_some hop
  have hM := hC y as w _ j hop hI
  obtain ⟨a, fs, as', rfl, ha⟩ := nm_rcv_some hrc
  have hcs := nm_cat_sum (b := b) (base := base) rest
  have hrm : (nm_rm d j).frames + 1 ≤ R.frames ∧ 8 + (j.mL + 11) + (nm_rm d j).locals ≤ R.locals := ⟨hR1, by show 8 + (j.mL + 11) + 64 * d ≤ _; omega⟩
  have hcb := va_cnB na hts (nm_GoodIn (nm_ws_good hcode)) rfl rfl rfl (hN _ hl) (hts _ hini) hd0 hrm
  dsimp only at hcb
  rw [hrt] at hcb
  refine nm_after (va_runIN (b := base + a) (As := as'.map (nm_cv b base)) (rest := rest.map (nm_cv b base)) (n := na) (nL := i.mL) (own := i.nm.cls) (host := host) (index := idx) (bytes := j.cc) (maxL := j.mL) ⟨hx, hb, hml, hown, hts⟩ hM ⟨hcb, hnm, hts _ hst⟩ ⟨nm_blind, nm_pre hG0 hz hP hS (.ref a :: as')⟩ rfl (by rw [List.length_map]; simpa using hna) hL.1 (by simp [nm_cv]) (lv_room (by omega)) hd ⟨Nat.le_trans h1 hR3, Nat.le_trans h2 hR4⟩) hS ?_
  intro v w' H1 locs1 hk hz1 hP1 hS1
  have := hk H1 locs1 A hz1 hP1 hS1 hL
  rw [List.map_append] at this
  exact this
theorem ok_retV (hr : i.rt = none) (hd : decode i.cc pc = .ok (.return_, 1)) : nm_ok I i L xs pc (op_retV i.mc i.ms) := by
  intro d l D cA b base p e R s m args below meth c QQ C Q hR1 hR2 hR3 hR4 hG hC hQ ls st w k n hop H locs A hz hP hS hL
  unfold op_retV at hop
  split at hop
  · split at hop
    · rename_i hh
      exact hQ [] w H locs k n A pc (Or.inr (Or.inr ⟨rfl, hd, hr⟩)) hop hz hP hS hh.1 hh.2
    · exact False.elim hop
  · exact False.elim hop
theorem ok_retI {z : Bool} (hr : (z = true ∧ i.rt = some .boolean) ∨ i.rt = some .int) (hd : decode i.cc pc = .ok (.ireturn, 1)) : nm_ok I i L xs pc (op_retI z i.mc i.ms) := by
  intro d l D cA b base p e R s m args below meth c QQ C Q hR1 hR2 hR3 hR4 hG hC hQ ls st w k n hop H locs A hz hP hS hL
  unfold op_retI at hop
  split at hop
  · rename_i x
    split at hop
    · rename_i hh
      rcases hr with ⟨hz1, hr⟩ | hr
      · exact hQ [.int x] w H locs k n A pc (Or.inl ⟨x, .boolean, rfl, hd, hr, by simp only [narrow, nm_bool_and (hh.2.2 hz1)]⟩) hop hz hP hS hh.1 hh.2.1
      · exact hQ [.int x] w H locs k n A pc (Or.inl ⟨x, .int, rfl, hd, hr, rfl⟩) hop hz hP hS hh.1 hh.2.1
    · exact False.elim hop
  · exact False.elim hop
theorem ok_retL (hr : i.rt = some .long) (hd : decode i.cc pc = .ok (.lreturn, 1)) : nm_ok I i L xs pc (op_retL i.mc i.ms) := by
  intro d l D cA b base p e R s m args below meth c QQ C Q hR1 hR2 hR3 hR4 hG hC hQ ls st w k n hop H locs A hz hP hS hL
  unfold op_retL at hop
  split at hop
  · rename_i x
    split at hop
    · rename_i hh
      exact hQ [.long x] w H locs k n A pc (Or.inr (Or.inl ⟨x, rfl, hd, hr⟩)) hop hz hP hS hh.1 hh.2
    · exact False.elim hop
  · exact False.elim hop
end OKC
/-- the methods, by number: their steps, and what the machine knows of them -/
abbrev nm_P : Type := List (nm_T × nm_I)
def nm_callG (P : nm_P) : Nat → nm_C
  | 0 => fun _ _ _ _ => False
  | d + 1 => fun y as w Q => match P[y]? with
    | some (t, i) => ((nm_spr as).length ≤ i.mL ∧ nm_lok i.sl 0 (nm_spr as) = true) ∧ nm_X t (nm_callG P d) Q 0 (nm_ent i.mL as) [] w 0 0
    | none => False
theorem nm_callG_mono (P : nm_P) : ∀ d, nm_Mono (nm_callG P d)
  | 0 => fun _ _ _ _ _ _ h => h
  | d + 1 => fun y as w K K' hK h => by
    unfold nm_callG at h ⊢
    split at h
    · exact ⟨h.1, nm_X_mono (nm_callG_mono P d) hK h.2⟩
    · exact h
theorem nm_callG_conj (P : nm_P) : ∀ d, nm_Conj (nm_callG P d)
  | 0 => fun _ _ _ _ _ h _ => h
  | d + 1 => fun y as w K K' h h' => by
    unfold nm_callG at h h' ⊢
    split at h
    · rename_i t i ho
      rw [ho] at h'
      exact ⟨h.1, nm_X_conj (nm_callG_mono P d) (nm_callG_conj P d) h.2 h'.2⟩
    · exact h
theorem nm_callG_strict (P : nm_P) : ∀ d, nm_Strict (nm_callG P d)
  | 0 => fun _ _ _ h => h
  | d + 1 => fun y as w h => by
    unfold nm_callG at h
    split at h
    · exact nm_X_strict (nm_callG_strict P d) h.2
    · exact h
def nm_info (P : nm_P) (y : Nat) : Option nm_I := (P[y]?).map (fun q => q.2)
theorem nm_callG_CS {P : nm_P} {l : Launch} {D : va_G} {cA : Nat → ClassId} {b base L : Nat} {xs : Nat → Int32} (hok : ∀ q ∈ P, plainName q.2.nm.cls = true ∧ ∀ z ∈ q.1, nm_ok (nm_info P) q.2 L xs z.1 z.2) : ∀ d, nm_CS (nm_info P) l D cA b base L xs d (nm_callG P d)
  | 0 => fun y as w K i h _ => False.elim h
  | d + 1 => fun y as w K i h hi => by
    have ih := nm_callG_CS (l := l) (D := D) (cA := cA) (b := b) (base := base) hok d
    unfold nm_callG at h
    split at h
    · rename_i t i' ho
      have hii : i' = i := by
        unfold nm_info at hi
        rw [ho] at hi
        exact Option.some.inj hi
      subst hii
      obtain ⟨⟨hl1, hl2⟩, hX0⟩ := h
      obtain ⟨hpl, hzz⟩ := hok (t, i') (List.mem_of_getElem? ho)
      refine Met.ofW (cc := i'.cc) (maxL := i'.mL) (ret := i'.rt) hpl rfl ?_
      intro p e s m args below meth c s₁ B hml hv
      obtain ⟨rfl, hz, hP, hK, hN, hX, hbb⟩ := hv
      have hx := B.exec
      have hb := B.bytes
      have hr := B.returns
      have hts := atoms_spec (ws := nm_ws i') B.pre
      have hown : s.vm.findClass i'.nm.cls = some m.cls := findClass_of_methodNamed B.named
      have hlocks := B.notSynchronized
      have hnm0 : meth.name = i'.nm.name := (name_of_methodNamed B.named B.method).1
      have hG : nm_G i' D cA b base L xs p s m (as.map (nm_cv b base)).toArray meth c := ⟨hx, hb, hml, hown, fun w hw => hts w (List.mem_cons_of_mem _ hw), hN, hK, hX, hbb, by rw [hz]; exact Nat.le_add_right _ _, fun h => by rw [hnm0]; exact h⟩
      rw [lg_entry_eq]
      refine nm_sound (d := d) hzz (show d + 1 ≤ d + 1 from Nat.le_refl _) (show 64 * d + 64 ≤ 64 * (d + 1) by omega) (Nat.le_refl _) (Nat.le_refl _) hG ih ?_ hX0 s.heap [] _ hz hP va_S.rf (nm_L.entry hl1 hl2)
      intro v w' H locs k n A pc hcase hQ hz1 hP1 hS1 hk1 hn1
      have hfr : ∀ t : State, t.heap = H → va_F (nm_A base) s t := fun t ht => hS1.F ht
      rcases hcase with ⟨x, ty, rfl, hd, hrt, hna⟩ | ⟨x, rfl, hd, hrt⟩ | ⟨rfl, hd, hrt⟩
      · exact W.widen hk1 hn1 (W.zret (v := x) hx hb (hr.trans hrt) hna (fun t ht _ => ⟨⟨some (.int x), [.int x], w', rfl, rfl, hQ, by rw [ht]; exact hz1, by rw [ht]; exact hP1⟩, hfr t ht⟩) hS1.2.2 hd hlocks)
      · exact W.widen hk1 hn1 (W.lret (v := x) hx hb (hr.trans hrt) (fun t ht _ => ⟨⟨some (.long x), [.long x], w', rfl, rfl, hQ, by rw [ht]; exact hz1, by rw [ht]; exact hP1⟩, hfr t ht⟩) hS1.2.2 hd hlocks)
      · exact W.widen hk1 hn1 (W.vret hx hb (hr.trans hrt) (fun t ht _ => ⟨⟨none, [], w', rfl, rfl, hQ, by rw [ht]; exact hz1, by rw [ht]; exact hP1⟩, hfr t ht⟩) hS1.2.2 hd hlocks)
    · exact False.elim h
end
