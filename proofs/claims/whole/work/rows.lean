section
-- ===== PART A: goes FIRST, ahead of the names: the tables' words, and 'selects' of the private methods out of them =====
/-- a private method of a class that the tables say can be made, by its rows of tables_1 -/
def lw_okq (q : MethodName × Nat) : Prop := (q.1.cls ≠ "java/lang/invoke/MethodHandle" ∧ q.1.cls ≠ "java/lang/invoke/VarHandle") ∧ Cond.instantiable q.1.cls q.2 ∈ tables_1 ∧ Cond.privateMethod q.1 ∈ tables_1 ∧ Cond.instanceMethod q.1 ∈ tables_1
theorem lw_p0 : lw_okq (⟨"LeaseBoard", "isClock", "(II)Z"⟩, 18) := ⟨⟨by decide +kernel, by decide +kernel⟩, List.mem_of_getElem? (i := 24) (by decide +kernel), List.mem_of_getElem? (i := 150) (by decide +kernel), List.mem_of_getElem? (i := 151) (by decide +kernel)⟩
theorem lw_p1 : lw_okq (⟨"java/util/ArrayList", "add", "(Ljava/lang/Object;[Ljava/lang/Object;I)V"⟩, 3) := ⟨⟨by decide +kernel, by decide +kernel⟩, List.mem_of_getElem? (i := 32) (by decide +kernel), List.mem_of_getElem? (i := 186) (by decide +kernel), List.mem_of_getElem? (i := 187) (by decide +kernel)⟩
theorem lw_p2 : lw_okq (⟨"java/util/ArrayList", "grow", "()[Ljava/lang/Object;"⟩, 3) := ⟨⟨by decide +kernel, by decide +kernel⟩, List.mem_of_getElem? (i := 32) (by decide +kernel), List.mem_of_getElem? (i := 190) (by decide +kernel), List.mem_of_getElem? (i := 191) (by decide +kernel)⟩
theorem lw_p3 : lw_okq (⟨"java/util/ArrayList", "grow", "(I)[Ljava/lang/Object;"⟩, 3) := ⟨⟨by decide +kernel, by decide +kernel⟩, List.mem_of_getElem? (i := 32) (by decide +kernel), List.mem_of_getElem? (i := 194) (by decide +kernel), List.mem_of_getElem? (i := 195) (by decide +kernel)⟩
theorem lw_p4 : lw_okq (⟨"LeaseBoard", "newThing", "(III)LLeaseBoard$Only;"⟩, 18) := ⟨⟨by decide +kernel, by decide +kernel⟩, List.mem_of_getElem? (i := 24) (by decide +kernel), List.mem_of_getElem? (i := 296) (by decide +kernel), List.mem_of_getElem? (i := 297) (by decide +kernel)⟩
theorem lw_p5 : lw_okq (⟨"LeaseBoard", "partyAt", "(II)LLeaseBoard$Party;"⟩, 18) := ⟨⟨by decide +kernel, by decide +kernel⟩, List.mem_of_getElem? (i := 24) (by decide +kernel), List.mem_of_getElem? (i := 427) (by decide +kernel), List.mem_of_getElem? (i := 428) (by decide +kernel)⟩
theorem lw_p6 : lw_okq (⟨"LeaseBoard", "keeperAt", "(I)LLeaseBoard$Party;"⟩, 18) := ⟨⟨by decide +kernel, by decide +kernel⟩, List.mem_of_getElem? (i := 24) (by decide +kernel), List.mem_of_getElem? (i := 431) (by decide +kernel), List.mem_of_getElem? (i := 432) (by decide +kernel)⟩
theorem lw_p7 : lw_okq (⟨"LeaseBoard", "workerAt", "(I)LLeaseBoard$Worker;"⟩, 18) := ⟨⟨by decide +kernel, by decide +kernel⟩, List.mem_of_getElem? (i := 24) (by decide +kernel), List.mem_of_getElem? (i := 449) (by decide +kernel), List.mem_of_getElem? (i := 450) (by decide +kernel)⟩
theorem lw_p8 : lw_okq (⟨"LeaseBoard", "areMostAwake", "()Z"⟩, 18) := ⟨⟨by decide +kernel, by decide +kernel⟩, List.mem_of_getElem? (i := 24) (by decide +kernel), List.mem_of_getElem? (i := 481) (by decide +kernel), List.mem_of_getElem? (i := 482) (by decide +kernel)⟩
theorem lw_p9 : lw_okq (⟨"LeaseBoard", "keepersAwake", "()I"⟩, 18) := ⟨⟨by decide +kernel, by decide +kernel⟩, List.mem_of_getElem? (i := 24) (by decide +kernel), List.mem_of_getElem? (i := 485) (by decide +kernel), List.mem_of_getElem? (i := 486) (by decide +kernel)⟩
theorem lw_p10 : lw_okq (⟨"LeaseBoard", "prolongBoard", "(J)V"⟩, 18) := ⟨⟨by decide +kernel, by decide +kernel⟩, List.mem_of_getElem? (i := 24) (by decide +kernel), List.mem_of_getElem? (i := 489) (by decide +kernel), List.mem_of_getElem? (i := 490) (by decide +kernel)⟩
theorem lw_p11 : lw_okq (⟨"LeaseBoard", "thingAt", "(I)LLeaseBoard$Only;"⟩, 18) := ⟨⟨by decide +kernel, by decide +kernel⟩, List.mem_of_getElem? (i := 24) (by decide +kernel), List.mem_of_getElem? (i := 513) (by decide +kernel), List.mem_of_getElem? (i := 514) (by decide +kernel)⟩
theorem lw_p12 : lw_okq (⟨"LeaseBoard", "hasRoomFor", "(I)Z"⟩, 18) := ⟨⟨by decide +kernel, by decide +kernel⟩, List.mem_of_getElem? (i := 24) (by decide +kernel), List.mem_of_getElem? (i := 532) (by decide +kernel), List.mem_of_getElem? (i := 533) (by decide +kernel)⟩
theorem lw_p13 : lw_okq (⟨"LeaseBoard", "sendMarked", "(LLeaseBoard$Letter;)I"⟩, 18) := ⟨⟨by decide +kernel, by decide +kernel⟩, List.mem_of_getElem? (i := 24) (by decide +kernel), List.mem_of_getElem? (i := 592) (by decide +kernel), List.mem_of_getElem? (i := 593) (by decide +kernel)⟩
theorem lw_p14 : lw_okq (⟨"LeaseBoard", "memoryAt", "(II)LLeaseBoard$Memory;"⟩, 18) := ⟨⟨by decide +kernel, by decide +kernel⟩, List.mem_of_getElem? (i := 24) (by decide +kernel), List.mem_of_getElem? (i := 596) (by decide +kernel), List.mem_of_getElem? (i := 597) (by decide +kernel)⟩
theorem lw_p15 : lw_okq (⟨"LeaseBoard", "send", "(LLeaseBoard$Letter;)I"⟩, 18) := ⟨⟨by decide +kernel, by decide +kernel⟩, List.mem_of_getElem? (i := 24) (by decide +kernel), List.mem_of_getElem? (i := 604) (by decide +kernel), List.mem_of_getElem? (i := 605) (by decide +kernel)⟩
def lw_privs_1 : List (MethodName × Nat) := [(⟨"LeaseBoard", "isClock", "(II)Z"⟩, 18), (⟨"java/util/ArrayList", "add", "(Ljava/lang/Object;[Ljava/lang/Object;I)V"⟩, 3), (⟨"java/util/ArrayList", "grow", "()[Ljava/lang/Object;"⟩, 3), (⟨"java/util/ArrayList", "grow", "(I)[Ljava/lang/Object;"⟩, 3), (⟨"LeaseBoard", "newThing", "(III)LLeaseBoard$Only;"⟩, 18), (⟨"LeaseBoard", "partyAt", "(II)LLeaseBoard$Party;"⟩, 18), (⟨"LeaseBoard", "keeperAt", "(I)LLeaseBoard$Party;"⟩, 18), (⟨"LeaseBoard", "workerAt", "(I)LLeaseBoard$Worker;"⟩, 18), (⟨"LeaseBoard", "areMostAwake", "()Z"⟩, 18), (⟨"LeaseBoard", "keepersAwake", "()I"⟩, 18), (⟨"LeaseBoard", "prolongBoard", "(J)V"⟩, 18), (⟨"LeaseBoard", "thingAt", "(I)LLeaseBoard$Only;"⟩, 18), (⟨"LeaseBoard", "hasRoomFor", "(I)Z"⟩, 18), (⟨"LeaseBoard", "sendMarked", "(LLeaseBoard$Letter;)I"⟩, 18), (⟨"LeaseBoard", "memoryAt", "(II)LLeaseBoard$Memory;"⟩, 18), (⟨"LeaseBoard", "send", "(LLeaseBoard$Letter;)I"⟩, 18)]
theorem lw_r1 : ∀ q ∈ lw_privs_1, lw_okq q := List.forall_mem_cons.mpr ⟨lw_p0, List.forall_mem_cons.mpr ⟨lw_p1, List.forall_mem_cons.mpr ⟨lw_p2, List.forall_mem_cons.mpr ⟨lw_p3, List.forall_mem_cons.mpr ⟨lw_p4, List.forall_mem_cons.mpr ⟨lw_p5, List.forall_mem_cons.mpr ⟨lw_p6, List.forall_mem_cons.mpr ⟨lw_p7, List.forall_mem_cons.mpr ⟨lw_p8, List.forall_mem_cons.mpr ⟨lw_p9, List.forall_mem_cons.mpr ⟨lw_p10, List.forall_mem_cons.mpr ⟨lw_p11, List.forall_mem_cons.mpr ⟨lw_p12, List.forall_mem_cons.mpr ⟨lw_p13, List.forall_mem_cons.mpr ⟨lw_p14, List.forall_mem_cons.mpr ⟨lw_p15, fun _ h => absurd h List.not_mem_nil⟩⟩⟩⟩⟩⟩⟩⟩⟩⟩⟩⟩⟩⟩⟩⟩
theorem lw_p16 : lw_okq (⟨"LeaseBoard", "refusalToHolder", "(III)I"⟩, 18) := ⟨⟨by decide +kernel, by decide +kernel⟩, List.mem_of_getElem? (i := 24) (by decide +kernel), List.mem_of_getElem? (i := 612) (by decide +kernel), List.mem_of_getElem? (i := 613) (by decide +kernel)⟩
theorem lw_p17 : lw_okq (⟨"LeaseBoard", "letterAt", "(I)LLeaseBoard$Letter;"⟩, 18) := ⟨⟨by decide +kernel, by decide +kernel⟩, List.mem_of_getElem? (i := 24) (by decide +kernel), List.mem_of_getElem? (i := 628) (by decide +kernel), List.mem_of_getElem? (i := 629) (by decide +kernel)⟩
theorem lw_p18 : lw_okq (⟨"LeaseBoard", "reachKeeper", "(LLeaseBoard$Letter;)I"⟩, 18) := ⟨⟨by decide +kernel, by decide +kernel⟩, List.mem_of_getElem? (i := 24) (by decide +kernel), List.mem_of_getElem? (i := 636) (by decide +kernel), List.mem_of_getElem? (i := 637) (by decide +kernel)⟩
theorem lw_p19 : lw_okq (⟨"LeaseBoard", "ableLeader", "()LLeaseBoard$Party;"⟩, 18) := ⟨⟨by decide +kernel, by decide +kernel⟩, List.mem_of_getElem? (i := 24) (by decide +kernel), List.mem_of_getElem? (i := 640) (by decide +kernel), List.mem_of_getElem? (i := 641) (by decide +kernel)⟩
theorem lw_p20 : lw_okq (⟨"LeaseBoard", "lookAt", "(LLeaseBoard$Only;IJ)V"⟩, 18) := ⟨⟨by decide +kernel, by decide +kernel⟩, List.mem_of_getElem? (i := 24) (by decide +kernel), List.mem_of_getElem? (i := 644) (by decide +kernel), List.mem_of_getElem? (i := 645) (by decide +kernel)⟩
theorem lw_p21 : lw_okq (⟨"java/util/ArrayList", "fastRemove", "([Ljava/lang/Object;I)V"⟩, 3) := ⟨⟨by decide +kernel, by decide +kernel⟩, List.mem_of_getElem? (i := 32) (by decide +kernel), List.mem_of_getElem? (i := 661) (by decide +kernel), List.mem_of_getElem? (i := 662) (by decide +kernel)⟩
theorem lw_p22 : lw_okq (⟨"LeaseBoard", "hearAsk", "(LLeaseBoard$Letter;LLeaseBoard$Only;J)V"⟩, 18) := ⟨⟨by decide +kernel, by decide +kernel⟩, List.mem_of_getElem? (i := 24) (by decide +kernel), List.mem_of_getElem? (i := 696) (by decide +kernel), List.mem_of_getElem? (i := 697) (by decide +kernel)⟩
theorem lw_p23 : lw_okq (⟨"LeaseBoard", "answerRefusal", "(LLeaseBoard$Letter;)V"⟩, 18) := ⟨⟨by decide +kernel, by decide +kernel⟩, List.mem_of_getElem? (i := 24) (by decide +kernel), List.mem_of_getElem? (i := 701) (by decide +kernel), List.mem_of_getElem? (i := 702) (by decide +kernel)⟩
theorem lw_p24 : lw_okq (⟨"LeaseBoard", "grantAsAsked", "(LLeaseBoard$Letter;LLeaseBoard$Only;J)V"⟩, 18) := ⟨⟨by decide +kernel, by decide +kernel⟩, List.mem_of_getElem? (i := 24) (by decide +kernel), List.mem_of_getElem? (i := 742) (by decide +kernel), List.mem_of_getElem? (i := 743) (by decide +kernel)⟩
theorem lw_p25 : lw_okq (⟨"LeaseBoard", "giveNumber", "(LLeaseBoard$Only;LLeaseBoard$Grant;J)V"⟩, 18) := ⟨⟨by decide +kernel, by decide +kernel⟩, List.mem_of_getElem? (i := 24) (by decide +kernel), List.mem_of_getElem? (i := 778) (by decide +kernel), List.mem_of_getElem? (i := 779) (by decide +kernel)⟩
theorem lw_p26 : lw_okq (⟨"LeaseBoard", "answerGrant", "(LLeaseBoard$Letter;LLeaseBoard$Grant;)V"⟩, 18) := ⟨⟨by decide +kernel, by decide +kernel⟩, List.mem_of_getElem? (i := 24) (by decide +kernel), List.mem_of_getElem? (i := 792) (by decide +kernel), List.mem_of_getElem? (i := 793) (by decide +kernel)⟩
theorem lw_p27 : lw_okq (⟨"LeaseBoard", "waitOrRefuse", "(LLeaseBoard$Letter;LLeaseBoard$Waiting;)V"⟩, 18) := ⟨⟨by decide +kernel, by decide +kernel⟩, List.mem_of_getElem? (i := 24) (by decide +kernel), List.mem_of_getElem? (i := 796) (by decide +kernel), List.mem_of_getElem? (i := 797) (by decide +kernel)⟩
theorem lw_p28 : lw_okq (⟨"LeaseBoard", "hearRenew", "(LLeaseBoard$Letter;LLeaseBoard$Only;J)V"⟩, 18) := ⟨⟨by decide +kernel, by decide +kernel⟩, List.mem_of_getElem? (i := 24) (by decide +kernel), List.mem_of_getElem? (i := 812) (by decide +kernel), List.mem_of_getElem? (i := 813) (by decide +kernel)⟩
theorem lw_p29 : lw_okq (⟨"LeaseBoard", "answerLate", "(LLeaseBoard$Letter;)V"⟩, 18) := ⟨⟨by decide +kernel, by decide +kernel⟩, List.mem_of_getElem? (i := 24) (by decide +kernel), List.mem_of_getElem? (i := 826) (by decide +kernel), List.mem_of_getElem? (i := 827) (by decide +kernel)⟩
theorem lw_p30 : lw_okq (⟨"LeaseBoard", "hearEnd", "(LLeaseBoard$Letter;LLeaseBoard$Only;J)V"⟩, 18) := ⟨⟨by decide +kernel, by decide +kernel⟩, List.mem_of_getElem? (i := 24) (by decide +kernel), List.mem_of_getElem? (i := 830) (by decide +kernel), List.mem_of_getElem? (i := 831) (by decide +kernel)⟩
theorem lw_p31 : lw_okq (⟨"LeaseBoard", "hearRise", "(LLeaseBoard$Letter;LLeaseBoard$Only;J)V"⟩, 18) := ⟨⟨by decide +kernel, by decide +kernel⟩, List.mem_of_getElem? (i := 24) (by decide +kernel), List.mem_of_getElem? (i := 843) (by decide +kernel), List.mem_of_getElem? (i := 844) (by decide +kernel)⟩
def lw_privs_2 : List (MethodName × Nat) := [(⟨"LeaseBoard", "refusalToHolder", "(III)I"⟩, 18), (⟨"LeaseBoard", "letterAt", "(I)LLeaseBoard$Letter;"⟩, 18), (⟨"LeaseBoard", "reachKeeper", "(LLeaseBoard$Letter;)I"⟩, 18), (⟨"LeaseBoard", "ableLeader", "()LLeaseBoard$Party;"⟩, 18), (⟨"LeaseBoard", "lookAt", "(LLeaseBoard$Only;IJ)V"⟩, 18), (⟨"java/util/ArrayList", "fastRemove", "([Ljava/lang/Object;I)V"⟩, 3), (⟨"LeaseBoard", "hearAsk", "(LLeaseBoard$Letter;LLeaseBoard$Only;J)V"⟩, 18), (⟨"LeaseBoard", "answerRefusal", "(LLeaseBoard$Letter;)V"⟩, 18), (⟨"LeaseBoard", "grantAsAsked", "(LLeaseBoard$Letter;LLeaseBoard$Only;J)V"⟩, 18), (⟨"LeaseBoard", "giveNumber", "(LLeaseBoard$Only;LLeaseBoard$Grant;J)V"⟩, 18), (⟨"LeaseBoard", "answerGrant", "(LLeaseBoard$Letter;LLeaseBoard$Grant;)V"⟩, 18), (⟨"LeaseBoard", "waitOrRefuse", "(LLeaseBoard$Letter;LLeaseBoard$Waiting;)V"⟩, 18), (⟨"LeaseBoard", "hearRenew", "(LLeaseBoard$Letter;LLeaseBoard$Only;J)V"⟩, 18), (⟨"LeaseBoard", "answerLate", "(LLeaseBoard$Letter;)V"⟩, 18), (⟨"LeaseBoard", "hearEnd", "(LLeaseBoard$Letter;LLeaseBoard$Only;J)V"⟩, 18), (⟨"LeaseBoard", "hearRise", "(LLeaseBoard$Letter;LLeaseBoard$Only;J)V"⟩, 18)]
theorem lw_r2 : ∀ q ∈ lw_privs_2, lw_okq q := List.forall_mem_cons.mpr ⟨lw_p16, List.forall_mem_cons.mpr ⟨lw_p17, List.forall_mem_cons.mpr ⟨lw_p18, List.forall_mem_cons.mpr ⟨lw_p19, List.forall_mem_cons.mpr ⟨lw_p20, List.forall_mem_cons.mpr ⟨lw_p21, List.forall_mem_cons.mpr ⟨lw_p22, List.forall_mem_cons.mpr ⟨lw_p23, List.forall_mem_cons.mpr ⟨lw_p24, List.forall_mem_cons.mpr ⟨lw_p25, List.forall_mem_cons.mpr ⟨lw_p26, List.forall_mem_cons.mpr ⟨lw_p27, List.forall_mem_cons.mpr ⟨lw_p28, List.forall_mem_cons.mpr ⟨lw_p29, List.forall_mem_cons.mpr ⟨lw_p30, List.forall_mem_cons.mpr ⟨lw_p31, fun _ h => absurd h List.not_mem_nil⟩⟩⟩⟩⟩⟩⟩⟩⟩⟩⟩⟩⟩⟩⟩⟩
theorem lw_p32 : lw_okq (⟨"LeaseBoard", "riseReader", "(LLeaseBoard$Letter;LLeaseBoard$Rising;LLeaseBoard$Grant;J)V"⟩, 18) := ⟨⟨by decide +kernel, by decide +kernel⟩, List.mem_of_getElem? (i := 24) (by decide +kernel), List.mem_of_getElem? (i := 847) (by decide +kernel), List.mem_of_getElem? (i := 848) (by decide +kernel)⟩
theorem lw_p33 : lw_okq (⟨"LeaseBoard", "reachWorker", "(LLeaseBoard$Letter;)I"⟩, 18) := ⟨⟨by decide +kernel, by decide +kernel⟩, List.mem_of_getElem? (i := 24) (by decide +kernel), List.mem_of_getElem? (i := 851) (by decide +kernel), List.mem_of_getElem? (i := 852) (by decide +kernel)⟩
theorem lw_p34 : lw_okq (⟨"LeaseBoard", "grantAt", "(II)LLeaseBoard$Grant;"⟩, 18) := ⟨⟨by decide +kernel, by decide +kernel⟩, List.mem_of_getElem? (i := 24) (by decide +kernel), List.mem_of_getElem? (i := 892) (by decide +kernel), List.mem_of_getElem? (i := 893) (by decide +kernel)⟩
theorem lw_p35 : lw_okq (⟨"LeaseBoard", "usersOf", "(I)I"⟩, 18) := ⟨⟨by decide +kernel, by decide +kernel⟩, List.mem_of_getElem? (i := 24) (by decide +kernel), List.mem_of_getElem? (i := 904) (by decide +kernel), List.mem_of_getElem? (i := 905) (by decide +kernel)⟩
theorem lw_p36 : lw_okq (⟨"LeaseBoard", "mayUse", "(II)Z"⟩, 18) := ⟨⟨by decide +kernel, by decide +kernel⟩, List.mem_of_getElem? (i := 24) (by decide +kernel), List.mem_of_getElem? (i := 908) (by decide +kernel), List.mem_of_getElem? (i := 909) (by decide +kernel)⟩
theorem lw_p37 : lw_okq (⟨"LeaseBoard", "isStored", "(II)Z"⟩, 18) := ⟨⟨by decide +kernel, by decide +kernel⟩, List.mem_of_getElem? (i := 24) (by decide +kernel), List.mem_of_getElem? (i := 924) (by decide +kernel), List.mem_of_getElem? (i := 925) (by decide +kernel)⟩
theorem lw_p38 : lw_okq (⟨"LeaseBoard", "lettersUnderWay", "()I"⟩, 18) := ⟨⟨by decide +kernel, by decide +kernel⟩, List.mem_of_getElem? (i := 24) (by decide +kernel), List.mem_of_getElem? (i := 936) (by decide +kernel), List.mem_of_getElem? (i := 937) (by decide +kernel)⟩
theorem lw_p39 : lw_okq (⟨"LeaseBoard", "thingsInClash", "()I"⟩, 18) := ⟨⟨by decide +kernel, by decide +kernel⟩, List.mem_of_getElem? (i := 24) (by decide +kernel), List.mem_of_getElem? (i := 940) (by decide +kernel), List.mem_of_getElem? (i := 941) (by decide +kernel)⟩
theorem lw_p40 : lw_okq (⟨"LeaseBoard", "isInClash", "(LLeaseBoard$Only;I)Z"⟩, 18) := ⟨⟨by decide +kernel, by decide +kernel⟩, List.mem_of_getElem? (i := 24) (by decide +kernel), List.mem_of_getElem? (i := 944) (by decide +kernel), List.mem_of_getElem? (i := 945) (by decide +kernel)⟩
theorem lw_p41 : lw_okq (⟨"LeaseBoard", "trayAt", "(I)LLeaseBoard$Tray;"⟩, 18) := ⟨⟨by decide +kernel, by decide +kernel⟩, List.mem_of_getElem? (i := 24) (by decide +kernel), List.mem_of_getElem? (i := 952) (by decide +kernel), List.mem_of_getElem? (i := 953) (by decide +kernel)⟩
theorem lw_p42 : lw_okq (⟨"LeaseBoard", "canBePut", "(II)Z"⟩, 18) := ⟨⟨by decide +kernel, by decide +kernel⟩, List.mem_of_getElem? (i := 24) (by decide +kernel), List.mem_of_getElem? (i := 956) (by decide +kernel), List.mem_of_getElem? (i := 957) (by decide +kernel)⟩
theorem lw_p43 : lw_okq (⟨"LeaseBoard", "refuse", "(I)I"⟩, 18) := ⟨⟨by decide +kernel, by decide +kernel⟩, List.mem_of_getElem? (i := 24) (by decide +kernel), List.mem_of_getElem? (i := 960) (by decide +kernel), List.mem_of_getElem? (i := 961) (by decide +kernel)⟩
theorem lw_p44 : lw_okq (⟨"LeaseBoard", "numbersOf", "(I)[J"⟩, 18) := ⟨⟨by decide +kernel, by decide +kernel⟩, List.mem_of_getElem? (i := 24) (by decide +kernel), List.mem_of_getElem? (i := 968) (by decide +kernel), List.mem_of_getElem? (i := 969) (by decide +kernel)⟩
theorem lw_p45 : lw_okq (⟨"LeaseBoard", "truthsOf", "(I)[Z"⟩, 18) := ⟨⟨by decide +kernel, by decide +kernel⟩, List.mem_of_getElem? (i := 24) (by decide +kernel), List.mem_of_getElem? (i := 972) (by decide +kernel), List.mem_of_getElem? (i := 973) (by decide +kernel)⟩
theorem lw_p46 : lw_okq (⟨"LeaseBoard", "lengthAsKind", "(LLeaseBoard$Tray;I)I"⟩, 18) := ⟨⟨by decide +kernel, by decide +kernel⟩, List.mem_of_getElem? (i := 24) (by decide +kernel), List.mem_of_getElem? (i := 984) (by decide +kernel), List.mem_of_getElem? (i := 985) (by decide +kernel)⟩
theorem lw_p47 : lw_okq (⟨"LeaseBoard", "refuseSort", "(LLeaseBoard$Tray;)I"⟩, 18) := ⟨⟨by decide +kernel, by decide +kernel⟩, List.mem_of_getElem? (i := 24) (by decide +kernel), List.mem_of_getElem? (i := 991) (by decide +kernel), List.mem_of_getElem? (i := 992) (by decide +kernel)⟩
def lw_privs_3 : List (MethodName × Nat) := [(⟨"LeaseBoard", "riseReader", "(LLeaseBoard$Letter;LLeaseBoard$Rising;LLeaseBoard$Grant;J)V"⟩, 18), (⟨"LeaseBoard", "reachWorker", "(LLeaseBoard$Letter;)I"⟩, 18), (⟨"LeaseBoard", "grantAt", "(II)LLeaseBoard$Grant;"⟩, 18), (⟨"LeaseBoard", "usersOf", "(I)I"⟩, 18), (⟨"LeaseBoard", "mayUse", "(II)Z"⟩, 18), (⟨"LeaseBoard", "isStored", "(II)Z"⟩, 18), (⟨"LeaseBoard", "lettersUnderWay", "()I"⟩, 18), (⟨"LeaseBoard", "thingsInClash", "()I"⟩, 18), (⟨"LeaseBoard", "isInClash", "(LLeaseBoard$Only;I)Z"⟩, 18), (⟨"LeaseBoard", "trayAt", "(I)LLeaseBoard$Tray;"⟩, 18), (⟨"LeaseBoard", "canBePut", "(II)Z"⟩, 18), (⟨"LeaseBoard", "refuse", "(I)I"⟩, 18), (⟨"LeaseBoard", "numbersOf", "(I)[J"⟩, 18), (⟨"LeaseBoard", "truthsOf", "(I)[Z"⟩, 18), (⟨"LeaseBoard", "lengthAsKind", "(LLeaseBoard$Tray;I)I"⟩, 18), (⟨"LeaseBoard", "refuseSort", "(LLeaseBoard$Tray;)I"⟩, 18)]
theorem lw_r3 : ∀ q ∈ lw_privs_3, lw_okq q := List.forall_mem_cons.mpr ⟨lw_p32, List.forall_mem_cons.mpr ⟨lw_p33, List.forall_mem_cons.mpr ⟨lw_p34, List.forall_mem_cons.mpr ⟨lw_p35, List.forall_mem_cons.mpr ⟨lw_p36, List.forall_mem_cons.mpr ⟨lw_p37, List.forall_mem_cons.mpr ⟨lw_p38, List.forall_mem_cons.mpr ⟨lw_p39, List.forall_mem_cons.mpr ⟨lw_p40, List.forall_mem_cons.mpr ⟨lw_p41, List.forall_mem_cons.mpr ⟨lw_p42, List.forall_mem_cons.mpr ⟨lw_p43, List.forall_mem_cons.mpr ⟨lw_p44, List.forall_mem_cons.mpr ⟨lw_p45, List.forall_mem_cons.mpr ⟨lw_p46, List.forall_mem_cons.mpr ⟨lw_p47, fun _ h => absurd h List.not_mem_nil⟩⟩⟩⟩⟩⟩⟩⟩⟩⟩⟩⟩⟩⟩⟩⟩
theorem lw_p48 : lw_okq (⟨"LeaseBoard", "thingOfLetter", "(LLeaseBoard$Tray;Z)I"⟩, 18) := ⟨⟨by decide +kernel, by decide +kernel⟩, List.mem_of_getElem? (i := 24) (by decide +kernel), List.mem_of_getElem? (i := 999) (by decide +kernel), List.mem_of_getElem? (i := 1000) (by decide +kernel)⟩
theorem lw_p49 : lw_okq (⟨"LeaseBoard", "numberAt", "(LLeaseBoard$Tray;I)I"⟩, 18) := ⟨⟨by decide +kernel, by decide +kernel⟩, List.mem_of_getElem? (i := 24) (by decide +kernel), List.mem_of_getElem? (i := 1003) (by decide +kernel), List.mem_of_getElem? (i := 1004) (by decide +kernel)⟩
theorem lw_p50 : lw_okq (⟨"LeaseBoard", "truthAt", "(LLeaseBoard$Tray;I)I"⟩, 18) := ⟨⟨by decide +kernel, by decide +kernel⟩, List.mem_of_getElem? (i := 24) (by decide +kernel), List.mem_of_getElem? (i := 1007) (by decide +kernel), List.mem_of_getElem? (i := 1008) (by decide +kernel)⟩
theorem lw_p51 : lw_okq (⟨"LeaseBoard", "sumOfCopied", "(LLeaseBoard$Tray;I)I"⟩, 18) := ⟨⟨by decide +kernel, by decide +kernel⟩, List.mem_of_getElem? (i := 24) (by decide +kernel), List.mem_of_getElem? (i := 1011) (by decide +kernel), List.mem_of_getElem? (i := 1012) (by decide +kernel)⟩
theorem lw_p52 : lw_okq (⟨"LeaseBoard", "lengthLaidAmongShared", "(LLeaseBoard$Tray;)I"⟩, 18) := ⟨⟨by decide +kernel, by decide +kernel⟩, List.mem_of_getElem? (i := 24) (by decide +kernel), List.mem_of_getElem? (i := 1015) (by decide +kernel), List.mem_of_getElem? (i := 1016) (by decide +kernel)⟩
theorem lw_p53 : lw_okq (⟨"LeaseBoardModel", "isClock", "(II)Z"⟩, 59) := ⟨⟨by decide +kernel, by decide +kernel⟩, List.mem_of_getElem? (i := 1026) (by decide +kernel), List.mem_of_getElem? (i := 1214) (by decide +kernel), List.mem_of_getElem? (i := 1215) (by decide +kernel)⟩
theorem lw_p54 : lw_okq (⟨"LeaseBoardModel", "isKeeper", "(I)Z"⟩, 59) := ⟨⟨by decide +kernel, by decide +kernel⟩, List.mem_of_getElem? (i := 1026) (by decide +kernel), List.mem_of_getElem? (i := 1245) (by decide +kernel), List.mem_of_getElem? (i := 1246) (by decide +kernel)⟩
theorem lw_p55 : lw_okq (⟨"LeaseBoardModel", "kClock", "(I)J"⟩, 59) := ⟨⟨by decide +kernel, by decide +kernel⟩, List.mem_of_getElem? (i := 1026) (by decide +kernel), List.mem_of_getElem? (i := 1249) (by decide +kernel), List.mem_of_getElem? (i := 1250) (by decide +kernel)⟩
theorem lw_p56 : lw_okq (⟨"LeaseBoardModel", "isWorker", "(I)Z"⟩, 59) := ⟨⟨by decide +kernel, by decide +kernel⟩, List.mem_of_getElem? (i := 1026) (by decide +kernel), List.mem_of_getElem? (i := 1254) (by decide +kernel), List.mem_of_getElem? (i := 1255) (by decide +kernel)⟩
theorem lw_p57 : lw_okq (⟨"LeaseBoardModel", "wClock", "(I)J"⟩, 59) := ⟨⟨by decide +kernel, by decide +kernel⟩, List.mem_of_getElem? (i := 1026) (by decide +kernel), List.mem_of_getElem? (i := 1258) (by decide +kernel), List.mem_of_getElem? (i := 1259) (by decide +kernel)⟩
theorem lw_p58 : lw_okq (⟨"LeaseBoardModel", "isMost", "()Z"⟩, 59) := ⟨⟨by decide +kernel, by decide +kernel⟩, List.mem_of_getElem? (i := 1026) (by decide +kernel), List.mem_of_getElem? (i := 1275) (by decide +kernel), List.mem_of_getElem? (i := 1276) (by decide +kernel)⟩
theorem lw_p59 : lw_okq (⟨"LeaseBoardModel", "awake", "()I"⟩, 59) := ⟨⟨by decide +kernel, by decide +kernel⟩, List.mem_of_getElem? (i := 1026) (by decide +kernel), List.mem_of_getElem? (i := 1279) (by decide +kernel), List.mem_of_getElem? (i := 1280) (by decide +kernel)⟩
theorem lw_p60 : lw_okq (⟨"LeaseBoardModel", "long0", "(I)I"⟩, 59) := ⟨⟨by decide +kernel, by decide +kernel⟩, List.mem_of_getElem? (i := 1026) (by decide +kernel), List.mem_of_getElem? (i := 1283) (by decide +kernel), List.mem_of_getElem? (i := 1284) (by decide +kernel)⟩
theorem lw_p61 : lw_okq (⟨"LeaseBoardModel", "areThere", "(III)Z"⟩, 59) := ⟨⟨by decide +kernel, by decide +kernel⟩, List.mem_of_getElem? (i := 1026) (by decide +kernel), List.mem_of_getElem? (i := 1291) (by decide +kernel), List.mem_of_getElem? (i := 1292) (by decide +kernel)⟩
theorem lw_p62 : lw_okq (⟨"LeaseBoardModel", "isThing", "(I)Z"⟩, 59) := ⟨⟨by decide +kernel, by decide +kernel⟩, List.mem_of_getElem? (i := 1026) (by decide +kernel), List.mem_of_getElem? (i := 1295) (by decide +kernel), List.mem_of_getElem? (i := 1296) (by decide +kernel)⟩
theorem lw_p63 : lw_okq (⟨"LeaseBoardModel", "marked", "(IIIIIIJ)I"⟩, 59) := ⟨⟨by decide +kernel, by decide +kernel⟩, List.mem_of_getElem? (i := 1026) (by decide +kernel), List.mem_of_getElem? (i := 1299) (by decide +kernel), List.mem_of_getElem? (i := 1300) (by decide +kernel)⟩
def lw_privs_4 : List (MethodName × Nat) := [(⟨"LeaseBoard", "thingOfLetter", "(LLeaseBoard$Tray;Z)I"⟩, 18), (⟨"LeaseBoard", "numberAt", "(LLeaseBoard$Tray;I)I"⟩, 18), (⟨"LeaseBoard", "truthAt", "(LLeaseBoard$Tray;I)I"⟩, 18), (⟨"LeaseBoard", "sumOfCopied", "(LLeaseBoard$Tray;I)I"⟩, 18), (⟨"LeaseBoard", "lengthLaidAmongShared", "(LLeaseBoard$Tray;)I"⟩, 18), (⟨"LeaseBoardModel", "isClock", "(II)Z"⟩, 59), (⟨"LeaseBoardModel", "isKeeper", "(I)Z"⟩, 59), (⟨"LeaseBoardModel", "kClock", "(I)J"⟩, 59), (⟨"LeaseBoardModel", "isWorker", "(I)Z"⟩, 59), (⟨"LeaseBoardModel", "wClock", "(I)J"⟩, 59), (⟨"LeaseBoardModel", "isMost", "()Z"⟩, 59), (⟨"LeaseBoardModel", "awake", "()I"⟩, 59), (⟨"LeaseBoardModel", "long0", "(I)I"⟩, 59), (⟨"LeaseBoardModel", "areThere", "(III)Z"⟩, 59), (⟨"LeaseBoardModel", "isThing", "(I)Z"⟩, 59), (⟨"LeaseBoardModel", "marked", "(IIIIIIJ)I"⟩, 59)]
theorem lw_r4 : ∀ q ∈ lw_privs_4, lw_okq q := List.forall_mem_cons.mpr ⟨lw_p48, List.forall_mem_cons.mpr ⟨lw_p49, List.forall_mem_cons.mpr ⟨lw_p50, List.forall_mem_cons.mpr ⟨lw_p51, List.forall_mem_cons.mpr ⟨lw_p52, List.forall_mem_cons.mpr ⟨lw_p53, List.forall_mem_cons.mpr ⟨lw_p54, List.forall_mem_cons.mpr ⟨lw_p55, List.forall_mem_cons.mpr ⟨lw_p56, List.forall_mem_cons.mpr ⟨lw_p57, List.forall_mem_cons.mpr ⟨lw_p58, List.forall_mem_cons.mpr ⟨lw_p59, List.forall_mem_cons.mpr ⟨lw_p60, List.forall_mem_cons.mpr ⟨lw_p61, List.forall_mem_cons.mpr ⟨lw_p62, List.forall_mem_cons.mpr ⟨lw_p63, fun _ h => absurd h List.not_mem_nil⟩⟩⟩⟩⟩⟩⟩⟩⟩⟩⟩⟩⟩⟩⟩⟩
theorem lw_p64 : lw_okq (⟨"LeaseBoardModel", "send", "(IIII)I"⟩, 59) := ⟨⟨by decide +kernel, by decide +kernel⟩, List.mem_of_getElem? (i := 1026) (by decide +kernel), List.mem_of_getElem? (i := 1303) (by decide +kernel), List.mem_of_getElem? (i := 1304) (by decide +kernel)⟩
theorem lw_p65 : lw_okq (⟨"LeaseBoardModel", "isLetter", "(I)Z"⟩, 59) := ⟨⟨by decide +kernel, by decide +kernel⟩, List.mem_of_getElem? (i := 1026) (by decide +kernel), List.mem_of_getElem? (i := 1323) (by decide +kernel), List.mem_of_getElem? (i := 1324) (by decide +kernel)⟩
theorem lw_p66 : lw_okq (⟨"LeaseBoardModel", "toWorker", "(I)V"⟩, 59) := ⟨⟨by decide +kernel, by decide +kernel⟩, List.mem_of_getElem? (i := 1026) (by decide +kernel), List.mem_of_getElem? (i := 1343) (by decide +kernel), List.mem_of_getElem? (i := 1344) (by decide +kernel)⟩
theorem lw_p67 : lw_okq (⟨"LeaseBoardModel", "toKeeper", "(I)V"⟩, 59) := ⟨⟨by decide +kernel, by decide +kernel⟩, List.mem_of_getElem? (i := 1026) (by decide +kernel), List.mem_of_getElem? (i := 1347) (by decide +kernel), List.mem_of_getElem? (i := 1348) (by decide +kernel)⟩
theorem lw_p68 : lw_okq (⟨"LeaseBoardModel", "looks", "(I)V"⟩, 59) := ⟨⟨by decide +kernel, by decide +kernel⟩, List.mem_of_getElem? (i := 1026) (by decide +kernel), List.mem_of_getElem? (i := 1351) (by decide +kernel), List.mem_of_getElem? (i := 1352) (by decide +kernel)⟩
theorem lw_p69 : lw_okq (⟨"LeaseBoardModel", "goes", "(II)V"⟩, 59) := ⟨⟨by decide +kernel, by decide +kernel⟩, List.mem_of_getElem? (i := 1026) (by decide +kernel), List.mem_of_getElem? (i := 1355) (by decide +kernel), List.mem_of_getElem? (i := 1356) (by decide +kernel)⟩
theorem lw_p70 : lw_okq (⟨"LeaseBoardModel", "grantOf", "(II)I"⟩, 59) := ⟨⟨by decide +kernel, by decide +kernel⟩, List.mem_of_getElem? (i := 1026) (by decide +kernel), List.mem_of_getElem? (i := 1359) (by decide +kernel), List.mem_of_getElem? (i := 1360) (by decide +kernel)⟩
theorem lw_p71 : lw_okq (⟨"LeaseBoardModel", "unqueue", "(II)V"⟩, 59) := ⟨⟨by decide +kernel, by decide +kernel⟩, List.mem_of_getElem? (i := 1026) (by decide +kernel), List.mem_of_getElem? (i := 1363) (by decide +kernel), List.mem_of_getElem? (i := 1364) (by decide +kernel)⟩
theorem lw_p72 : lw_okq (⟨"LeaseBoardModel", "meant", "(I)I"⟩, 59) := ⟨⟨by decide +kernel, by decide +kernel⟩, List.mem_of_getElem? (i := 1026) (by decide +kernel), List.mem_of_getElem? (i := 1367) (by decide +kernel), List.mem_of_getElem? (i := 1368) (by decide +kernel)⟩
theorem lw_p73 : lw_okq (⟨"LeaseBoardModel", "asks", "(I)V"⟩, 59) := ⟨⟨by decide +kernel, by decide +kernel⟩, List.mem_of_getElem? (i := 1026) (by decide +kernel), List.mem_of_getElem? (i := 1371) (by decide +kernel), List.mem_of_getElem? (i := 1372) (by decide +kernel)⟩
theorem lw_p74 : lw_okq (⟨"LeaseBoardModel", "refuses", "(I)V"⟩, 59) := ⟨⟨by decide +kernel, by decide +kernel⟩, List.mem_of_getElem? (i := 1026) (by decide +kernel), List.mem_of_getElem? (i := 1375) (by decide +kernel), List.mem_of_getElem? (i := 1376) (by decide +kernel)⟩
theorem lw_p75 : lw_okq (⟨"LeaseBoardModel", "answers", "(II)I"⟩, 59) := ⟨⟨by decide +kernel, by decide +kernel⟩, List.mem_of_getElem? (i := 1026) (by decide +kernel), List.mem_of_getElem? (i := 1379) (by decide +kernel), List.mem_of_getElem? (i := 1380) (by decide +kernel)⟩
theorem lw_p76 : lw_okq (⟨"LeaseBoardModel", "fits", "(IIII)Z"⟩, 59) := ⟨⟨by decide +kernel, by decide +kernel⟩, List.mem_of_getElem? (i := 1026) (by decide +kernel), List.mem_of_getElem? (i := 1383) (by decide +kernel), List.mem_of_getElem? (i := 1384) (by decide +kernel)⟩
theorem lw_p77 : lw_okq (⟨"LeaseBoardModel", "isWritten", "(I)Z"⟩, 59) := ⟨⟨by decide +kernel, by decide +kernel⟩, List.mem_of_getElem? (i := 1026) (by decide +kernel), List.mem_of_getElem? (i := 1387) (by decide +kernel), List.mem_of_getElem? (i := 1388) (by decide +kernel)⟩
theorem lw_p78 : lw_okq (⟨"LeaseBoardModel", "partsOf", "(I)I"⟩, 59) := ⟨⟨by decide +kernel, by decide +kernel⟩, List.mem_of_getElem? (i := 1026) (by decide +kernel), List.mem_of_getElem? (i := 1391) (by decide +kernel), List.mem_of_getElem? (i := 1392) (by decide +kernel)⟩
theorem lw_p79 : lw_okq (⟨"LeaseBoardModel", "queuedAt", "(II)I"⟩, 59) := ⟨⟨by decide +kernel, by decide +kernel⟩, List.mem_of_getElem? (i := 1026) (by decide +kernel), List.mem_of_getElem? (i := 1395) (by decide +kernel), List.mem_of_getElem? (i := 1396) (by decide +kernel)⟩
def lw_privs_5 : List (MethodName × Nat) := [(⟨"LeaseBoardModel", "send", "(IIII)I"⟩, 59), (⟨"LeaseBoardModel", "isLetter", "(I)Z"⟩, 59), (⟨"LeaseBoardModel", "toWorker", "(I)V"⟩, 59), (⟨"LeaseBoardModel", "toKeeper", "(I)V"⟩, 59), (⟨"LeaseBoardModel", "looks", "(I)V"⟩, 59), (⟨"LeaseBoardModel", "goes", "(II)V"⟩, 59), (⟨"LeaseBoardModel", "grantOf", "(II)I"⟩, 59), (⟨"LeaseBoardModel", "unqueue", "(II)V"⟩, 59), (⟨"LeaseBoardModel", "meant", "(I)I"⟩, 59), (⟨"LeaseBoardModel", "asks", "(I)V"⟩, 59), (⟨"LeaseBoardModel", "refuses", "(I)V"⟩, 59), (⟨"LeaseBoardModel", "answers", "(II)I"⟩, 59), (⟨"LeaseBoardModel", "fits", "(IIII)Z"⟩, 59), (⟨"LeaseBoardModel", "isWritten", "(I)Z"⟩, 59), (⟨"LeaseBoardModel", "partsOf", "(I)I"⟩, 59), (⟨"LeaseBoardModel", "queuedAt", "(II)I"⟩, 59)]
theorem lw_r5 : ∀ q ∈ lw_privs_5, lw_okq q := List.forall_mem_cons.mpr ⟨lw_p64, List.forall_mem_cons.mpr ⟨lw_p65, List.forall_mem_cons.mpr ⟨lw_p66, List.forall_mem_cons.mpr ⟨lw_p67, List.forall_mem_cons.mpr ⟨lw_p68, List.forall_mem_cons.mpr ⟨lw_p69, List.forall_mem_cons.mpr ⟨lw_p70, List.forall_mem_cons.mpr ⟨lw_p71, List.forall_mem_cons.mpr ⟨lw_p72, List.forall_mem_cons.mpr ⟨lw_p73, List.forall_mem_cons.mpr ⟨lw_p74, List.forall_mem_cons.mpr ⟨lw_p75, List.forall_mem_cons.mpr ⟨lw_p76, List.forall_mem_cons.mpr ⟨lw_p77, List.forall_mem_cons.mpr ⟨lw_p78, List.forall_mem_cons.mpr ⟨lw_p79, fun _ h => absurd h List.not_mem_nil⟩⟩⟩⟩⟩⟩⟩⟩⟩⟩⟩⟩⟩⟩⟩⟩
theorem lw_p80 : lw_okq (⟨"LeaseBoardModel", "granted", "(II)V"⟩, 59) := ⟨⟨by decide +kernel, by decide +kernel⟩, List.mem_of_getElem? (i := 1026) (by decide +kernel), List.mem_of_getElem? (i := 1399) (by decide +kernel), List.mem_of_getElem? (i := 1400) (by decide +kernel)⟩
theorem lw_p81 : lw_okq (⟨"LeaseBoardModel", "grants", "(II)V"⟩, 59) := ⟨⟨by decide +kernel, by decide +kernel⟩, List.mem_of_getElem? (i := 1026) (by decide +kernel), List.mem_of_getElem? (i := 1403) (by decide +kernel), List.mem_of_getElem? (i := 1404) (by decide +kernel)⟩
theorem lw_p82 : lw_okq (⟨"LeaseBoardModel", "isLate", "(I)V"⟩, 59) := ⟨⟨by decide +kernel, by decide +kernel⟩, List.mem_of_getElem? (i := 1026) (by decide +kernel), List.mem_of_getElem? (i := 1407) (by decide +kernel), List.mem_of_getElem? (i := 1408) (by decide +kernel)⟩
theorem lw_p83 : lw_okq (⟨"LeaseBoardModel", "prolongs", "(II)V"⟩, 59) := ⟨⟨by decide +kernel, by decide +kernel⟩, List.mem_of_getElem? (i := 1026) (by decide +kernel), List.mem_of_getElem? (i := 1411) (by decide +kernel), List.mem_of_getElem? (i := 1412) (by decide +kernel)⟩
theorem lw_p84 : lw_okq (⟨"LeaseBoardModel", "rises", "(I)V"⟩, 59) := ⟨⟨by decide +kernel, by decide +kernel⟩, List.mem_of_getElem? (i := 1026) (by decide +kernel), List.mem_of_getElem? (i := 1415) (by decide +kernel), List.mem_of_getElem? (i := 1416) (by decide +kernel)⟩
theorem lw_p85 : lw_okq (⟨"LeaseBoardModel", "mays", "(I)I"⟩, 59) := ⟨⟨by decide +kernel, by decide +kernel⟩, List.mem_of_getElem? (i := 1026) (by decide +kernel), List.mem_of_getElem? (i := 1435) (by decide +kernel), List.mem_of_getElem? (i := 1436) (by decide +kernel)⟩
theorem lw_p86 : lw_okq (⟨"LeaseBoardModel", "may", "(II)Z"⟩, 59) := ⟨⟨by decide +kernel, by decide +kernel⟩, List.mem_of_getElem? (i := 1026) (by decide +kernel), List.mem_of_getElem? (i := 1439) (by decide +kernel), List.mem_of_getElem? (i := 1440) (by decide +kernel)⟩
theorem lw_p87 : lw_okq (⟨"LeaseBoardModel", "isStore", "(I)Z"⟩, 59) := ⟨⟨by decide +kernel, by decide +kernel⟩, List.mem_of_getElem? (i := 1026) (by decide +kernel), List.mem_of_getElem? (i := 1455) (by decide +kernel), List.mem_of_getElem? (i := 1456) (by decide +kernel)⟩
theorem lw_p88 : lw_okq (⟨"LeaseBoardModel", "underWay", "()I"⟩, 59) := ⟨⟨by decide +kernel, by decide +kernel⟩, List.mem_of_getElem? (i := 1026) (by decide +kernel), List.mem_of_getElem? (i := 1467) (by decide +kernel), List.mem_of_getElem? (i := 1468) (by decide +kernel)⟩
theorem lw_p89 : lw_okq (⟨"LeaseBoardModel", "clashes", "(I)Z"⟩, 59) := ⟨⟨by decide +kernel, by decide +kernel⟩, List.mem_of_getElem? (i := 1026) (by decide +kernel), List.mem_of_getElem? (i := 1471) (by decide +kernel), List.mem_of_getElem? (i := 1472) (by decide +kernel)⟩
theorem lw_p90 : lw_okq (⟨"LeaseBoardModel", "refuse", "(I)I"⟩, 59) := ⟨⟨by decide +kernel, by decide +kernel⟩, List.mem_of_getElem? (i := 1026) (by decide +kernel), List.mem_of_getElem? (i := 1479) (by decide +kernel), List.mem_of_getElem? (i := 1480) (by decide +kernel)⟩
theorem lw_p91 : lw_okq (⟨"LeaseBoardModel", "done", "(I)I"⟩, 59) := ⟨⟨by decide +kernel, by decide +kernel⟩, List.mem_of_getElem? (i := 1026) (by decide +kernel), List.mem_of_getElem? (i := 1483) (by decide +kernel), List.mem_of_getElem? (i := 1484) (by decide +kernel)⟩
theorem lw_p92 : lw_okq (⟨"LeaseBoardModel", "asThing", "(II)I"⟩, 59) := ⟨⟨by decide +kernel, by decide +kernel⟩, List.mem_of_getElem? (i := 1026) (by decide +kernel), List.mem_of_getElem? (i := 1491) (by decide +kernel), List.mem_of_getElem? (i := 1492) (by decide +kernel)⟩
theorem lw_p93 : lw_okq (⟨"LeaseBoardModel", "asLetter", "(II)I"⟩, 59) := ⟨⟨by decide +kernel, by decide +kernel⟩, List.mem_of_getElem? (i := 1026) (by decide +kernel), List.mem_of_getElem? (i := 1498) (by decide +kernel), List.mem_of_getElem? (i := 1499) (by decide +kernel)⟩
theorem lw_p94 : lw_okq (⟨"LeaseBoardModel", "asRow", "(III)I"⟩, 59) := ⟨⟨by decide +kernel, by decide +kernel⟩, List.mem_of_getElem? (i := 1026) (by decide +kernel), List.mem_of_getElem? (i := 1502) (by decide +kernel), List.mem_of_getElem? (i := 1503) (by decide +kernel)⟩
theorem lw_p95 : lw_okq (⟨"LeaseBoardModel", "copied", "(II)I"⟩, 59) := ⟨⟨by decide +kernel, by decide +kernel⟩, List.mem_of_getElem? (i := 1026) (by decide +kernel), List.mem_of_getElem? (i := 1506) (by decide +kernel), List.mem_of_getElem? (i := 1507) (by decide +kernel)⟩
def lw_privs_6 : List (MethodName × Nat) := [(⟨"LeaseBoardModel", "granted", "(II)V"⟩, 59), (⟨"LeaseBoardModel", "grants", "(II)V"⟩, 59), (⟨"LeaseBoardModel", "isLate", "(I)V"⟩, 59), (⟨"LeaseBoardModel", "prolongs", "(II)V"⟩, 59), (⟨"LeaseBoardModel", "rises", "(I)V"⟩, 59), (⟨"LeaseBoardModel", "mays", "(I)I"⟩, 59), (⟨"LeaseBoardModel", "may", "(II)Z"⟩, 59), (⟨"LeaseBoardModel", "isStore", "(I)Z"⟩, 59), (⟨"LeaseBoardModel", "underWay", "()I"⟩, 59), (⟨"LeaseBoardModel", "clashes", "(I)Z"⟩, 59), (⟨"LeaseBoardModel", "refuse", "(I)I"⟩, 59), (⟨"LeaseBoardModel", "done", "(I)I"⟩, 59), (⟨"LeaseBoardModel", "asThing", "(II)I"⟩, 59), (⟨"LeaseBoardModel", "asLetter", "(II)I"⟩, 59), (⟨"LeaseBoardModel", "asRow", "(III)I"⟩, 59), (⟨"LeaseBoardModel", "copied", "(II)I"⟩, 59)]
theorem lw_r6 : ∀ q ∈ lw_privs_6, lw_okq q := List.forall_mem_cons.mpr ⟨lw_p80, List.forall_mem_cons.mpr ⟨lw_p81, List.forall_mem_cons.mpr ⟨lw_p82, List.forall_mem_cons.mpr ⟨lw_p83, List.forall_mem_cons.mpr ⟨lw_p84, List.forall_mem_cons.mpr ⟨lw_p85, List.forall_mem_cons.mpr ⟨lw_p86, List.forall_mem_cons.mpr ⟨lw_p87, List.forall_mem_cons.mpr ⟨lw_p88, List.forall_mem_cons.mpr ⟨lw_p89, List.forall_mem_cons.mpr ⟨lw_p90, List.forall_mem_cons.mpr ⟨lw_p91, List.forall_mem_cons.mpr ⟨lw_p92, List.forall_mem_cons.mpr ⟨lw_p93, List.forall_mem_cons.mpr ⟨lw_p94, List.forall_mem_cons.mpr ⟨lw_p95, fun _ h => absurd h List.not_mem_nil⟩⟩⟩⟩⟩⟩⟩⟩⟩⟩⟩⟩⟩⟩⟩⟩
theorem lw_p96 : lw_okq (⟨"LeaseBoardModel", "laid", "(I)I"⟩, 59) := ⟨⟨by decide +kernel, by decide +kernel⟩, List.mem_of_getElem? (i := 1026) (by decide +kernel), List.mem_of_getElem? (i := 1510) (by decide +kernel), List.mem_of_getElem? (i := 1511) (by decide +kernel)⟩
def lw_privs_7 : List (MethodName × Nat) := [(⟨"LeaseBoardModel", "laid", "(I)I"⟩, 59)]
theorem lw_r7 : ∀ q ∈ lw_privs_7, lw_okq q := List.forall_mem_cons.mpr ⟨lw_p96, fun _ h => absurd h List.not_mem_nil⟩
def lw_privs : List (MethodName × Nat) := lw_privs_1 ++ (lw_privs_2 ++ (lw_privs_3 ++ (lw_privs_4 ++ (lw_privs_5 ++ (lw_privs_6 ++ (lw_privs_7))))))
def lw_tbl : List Cond := k2_sels lw_privs ++ tables_1
theorem lw_privs_ok : ∀ q ∈ lw_privs, lw_okq q := by
  show ∀ q ∈ lw_privs_1 ++ (lw_privs_2 ++ (lw_privs_3 ++ (lw_privs_4 ++ (lw_privs_5 ++ (lw_privs_6 ++ (lw_privs_7)))))), lw_okq q
  exact List.forall_mem_append.mpr ⟨lw_r1, List.forall_mem_append.mpr ⟨lw_r2, List.forall_mem_append.mpr ⟨lw_r3, List.forall_mem_append.mpr ⟨lw_r4, List.forall_mem_append.mpr ⟨lw_r5, List.forall_mem_append.mpr ⟨lw_r6, lw_r7⟩⟩⟩⟩⟩⟩
end
section
def RX0 : String := "LeaseBoard$Counted"
def TX0 : u_T := fun k => match k with
  | 0 => ("LeaseBoard$Only", "kind", "I", true)
  | 1 => ("LeaseBoard$Only", "length", "I", true)
  | 2 => ("LeaseBoard$Only", "lasting", "I", true)
  | 3 => ("LeaseBoard$Only", "grants", "Ljava/util/ArrayList;", true)
  | 4 => ("LeaseBoard$Only", "lastNumber", "J", false)
  | _ => ("LeaseBoard$Counted", "whole", "I", true)
def tyX0 : Nat → FieldType := fun k => match k with
  | 0 => .int
  | 1 => .int
  | 2 => .int
  | 3 => .object "java/util/ArrayList"
  | 4 => .long
  | _ => .int
theorem nmX0 : ∀ a, a < 6 → ∀ b, b < 6 → a ≠ b → (TX0 a).2.1 ≠ (TX0 b).2.1 := by decide +kernel
theorem tyX0_ok : ∀ k, k < 6 → parseFieldDescriptor (TX0 k).2.2.1 = some (tyX0 k) := by decide +kernel
abbrev cX0_init : ByteArray := prog_2_method_1_code
def yX0_init : MethodName := ⟨RX0, "<init>", "(III)V"⟩
abbrev cX0_mayBeAsked : ByteArray := prog_2_method_2_code
def yX0_mayBeAsked : MethodName := ⟨RX0, "mayBeAsked", "(II)Z"⟩
abbrev cX0_fits : ByteArray := prog_2_method_3_code
def yX0_fits : MethodName := ⟨RX0, "fits", "(III)Z"⟩
def RX1 : String := "LeaseBoard$Grant"
def TX1 : u_T := fun k => match k with
  | 0 => ("LeaseBoard$Grant", "worker", "I", true)
  | 1 => ("LeaseBoard$Grant", "parts", "I", true)
  | 2 => ("LeaseBoard$Grant", "mode", "I", false)
  | 3 => ("LeaseBoard$Grant", "number", "J", false)
  | _ => ("LeaseBoard$Grant", "end", "J", false)
def tyX1 : Nat → FieldType := fun k => match k with
  | 0 => .int
  | 1 => .int
  | 2 => .int
  | 3 => .long
  | _ => .long
theorem nmX1 : ∀ a, a < 5 → ∀ b, b < 5 → a ≠ b → (TX1 a).2.1 ≠ (TX1 b).2.1 := by decide +kernel
theorem tyX1_ok : ∀ k, k < 5 → parseFieldDescriptor (TX1 k).2.2.1 = some (tyX1 k) := by decide +kernel
abbrev cX1_init : ByteArray := prog_3_method_1_code
def yX1_init : MethodName := ⟨RX1, "<init>", "(III)V"⟩
def RX2 : String := "LeaseBoard$Letter"
def TX2 : u_T := fun k => match k with
  | 0 => ("LeaseBoard$Letter", "kind", "I", true)
  | 1 => ("LeaseBoard$Letter", "worker", "I", true)
  | 2 => ("LeaseBoard$Letter", "keeper", "I", true)
  | 3 => ("LeaseBoard$Letter", "thing", "I", true)
  | 4 => ("LeaseBoard$Letter", "mode", "I", false)
  | 5 => ("LeaseBoard$Letter", "parts", "I", false)
  | 6 => ("LeaseBoard$Letter", "number", "J", false)
  | 7 => ("LeaseBoard$Letter", "mark", "I", false)
  | 8 => ("LeaseBoard$Letter", "asked", "J", false)
  | _ => ("LeaseBoard$Letter", "how", "I", false)
def tyX2 : Nat → FieldType := fun k => match k with
  | 0 => .int
  | 1 => .int
  | 2 => .int
  | 3 => .int
  | 4 => .int
  | 5 => .int
  | 6 => .long
  | 7 => .int
  | 8 => .long
  | _ => .int
theorem nmX2 : ∀ a, a < 10 → ∀ b, b < 10 → a ≠ b → (TX2 a).2.1 ≠ (TX2 b).2.1 := by decide +kernel
theorem tyX2_ok : ∀ k, k < 10 → parseFieldDescriptor (TX2 k).2.2.1 = some (tyX2 k) := by decide +kernel
abbrev cX2_init : ByteArray := prog_4_method_1_code
def yX2_init : MethodName := ⟨RX2, "<init>", "(IIII)V"⟩
abbrev cX2_isToKeeper : ByteArray := prog_4_method_2_code
def yX2_isToKeeper : MethodName := ⟨RX2, "isToKeeper", "()Z"⟩
abbrev cX2_takeMarkOf : ByteArray := prog_4_method_3_code
def yX2_takeMarkOf : MethodName := ⟨RX2, "takeMarkOf", "(LLeaseBoard$Letter;)V"⟩
abbrev cX2_fill : ByteArray := prog_4_method_4_code
def yX2_fill : MethodName := ⟨RX2, "fill", "(IIJ)V"⟩
def RX3 : String := "LeaseBoard$Memory"
def TX3 : u_T := fun k => match k with
  | 0 => ("LeaseBoard$Memory", "awaited", "I", false)
  | 1 => ("LeaseBoard$Memory", "holding", "Z", false)
  | 2 => ("LeaseBoard$Memory", "mode", "I", false)
  | 3 => ("LeaseBoard$Memory", "parts", "I", false)
  | 4 => ("LeaseBoard$Memory", "number", "J", false)
  | _ => ("LeaseBoard$Memory", "until", "J", false)
def tyX3 : Nat → FieldType := fun k => match k with
  | 0 => .int
  | 1 => .boolean
  | 2 => .int
  | 3 => .int
  | 4 => .long
  | _ => .long
theorem nmX3 : ∀ a, a < 6 → ∀ b, b < 6 → a ≠ b → (TX3 a).2.1 ≠ (TX3 b).2.1 := by decide +kernel
theorem tyX3_ok : ∀ k, k < 6 → parseFieldDescriptor (TX3 k).2.2.1 = some (tyX3 k) := by decide +kernel
abbrev cX3_init : ByteArray := prog_5_method_1_code
def yX3_init : MethodName := ⟨RX3, "<init>", "()V"⟩
abbrev cX3_keep : ByteArray := prog_5_method_2_code
def yX3_keep : MethodName := ⟨RX3, "keep", "(LLeaseBoard$Letter;J)V"⟩
abbrev cX3_forget : ByteArray := prog_5_method_3_code
def yX3_forget : MethodName := ⟨RX3, "forget", "()V"⟩
def RX4 : String := "LeaseBoard$Only"
def TX4 : u_T := fun k => match k with
  | 0 => ("LeaseBoard$Only", "kind", "I", true)
  | 1 => ("LeaseBoard$Only", "length", "I", true)
  | 2 => ("LeaseBoard$Only", "lasting", "I", true)
  | 3 => ("LeaseBoard$Only", "grants", "Ljava/util/ArrayList;", true)
  | _ => ("LeaseBoard$Only", "lastNumber", "J", false)
def tyX4 : Nat → FieldType := fun k => match k with
  | 0 => .int
  | 1 => .int
  | 2 => .int
  | 3 => .object "java/util/ArrayList"
  | _ => .long
theorem nmX4 : ∀ a, a < 5 → ∀ b, b < 5 → a ≠ b → (TX4 a).2.1 ≠ (TX4 b).2.1 := by decide +kernel
theorem tyX4_ok : ∀ k, k < 5 → parseFieldDescriptor (TX4 k).2.2.1 = some (tyX4 k) := by decide +kernel
abbrev cX4_init : ByteArray := prog_6_method_1_code
def yX4_init : MethodName := ⟨RX4, "<init>", "(III)V"⟩
abbrev cX4_mayBeAsked : ByteArray := prog_6_method_2_code
def yX4_mayBeAsked : MethodName := ⟨RX4, "mayBeAsked", "(II)Z"⟩
abbrev cX4_fits : ByteArray := prog_6_method_3_code
def yX4_fits : MethodName := ⟨RX4, "fits", "(III)Z"⟩
abbrev cX4_isWritten : ByteArray := prog_6_method_4_code
def yX4_isWritten : MethodName := ⟨RX4, "isWritten", "()Z"⟩
abbrev cX4_grantOf : ByteArray := prog_6_method_5_code
def yX4_grantOf : MethodName := ⟨RX4, "grantOf", "(I)LLeaseBoard$Grant;"⟩
abbrev cX4_grantMeantBy : ByteArray := prog_6_method_6_code
def yX4_grantMeantBy : MethodName := ⟨RX4, "grantMeantBy", "(LLeaseBoard$Letter;)LLeaseBoard$Grant;"⟩
abbrev cX4_numberAnew : ByteArray := prog_6_method_7_code
def yX4_numberAnew : MethodName := ⟨RX4, "numberAnew", "(LLeaseBoard$Grant;J)V"⟩
abbrev cX4_dropEnded : ByteArray := prog_6_method_8_code
def yX4_dropEnded : MethodName := ⟨RX4, "dropEnded", "(J)V"⟩
abbrev cX4_dropGrantOf : ByteArray := prog_6_method_9_code
def yX4_dropGrantOf : MethodName := ⟨RX4, "dropGrantOf", "(I)V"⟩
abbrev cX4_prolongAll : ByteArray := prog_6_method_10_code
def yX4_prolongAll : MethodName := ⟨RX4, "prolongAll", "(J)V"⟩
def RX5 : String := "LeaseBoard$Party"
def TX5 : u_T := fun k => match k with
  | 0 => ("LeaseBoard$Party", "begin", "I", true)
  | 1 => ("LeaseBoard$Party", "rate", "I", true)
  | _ => ("LeaseBoard$Party", "awake", "Z", false)
def tyX5 : Nat → FieldType := fun k => match k with
  | 0 => .int
  | 1 => .int
  | _ => .boolean
theorem nmX5 : ∀ a, a < 3 → ∀ b, b < 3 → a ≠ b → (TX5 a).2.1 ≠ (TX5 b).2.1 := by decide +kernel
theorem tyX5_ok : ∀ k, k < 3 → parseFieldDescriptor (TX5 k).2.2.1 = some (tyX5 k) := by decide +kernel
abbrev cX5_init : ByteArray := prog_7_method_1_code
def yX5_init : MethodName := ⟨RX5, "<init>", "(II)V"⟩
abbrev cX5_shows : ByteArray := prog_7_method_2_code
def yX5_shows : MethodName := ⟨RX5, "shows", "(I)J"⟩
def RX6 : String := "LeaseBoard$Rising"
def TX6 : u_T := fun k => match k with
  | 0 => ("LeaseBoard$Only", "kind", "I", true)
  | 1 => ("LeaseBoard$Only", "length", "I", true)
  | 2 => ("LeaseBoard$Only", "lasting", "I", true)
  | 3 => ("LeaseBoard$Only", "grants", "Ljava/util/ArrayList;", true)
  | 4 => ("LeaseBoard$Only", "lastNumber", "J", false)
  | _ => ("LeaseBoard$Rising", "riser", "I", false)
def tyX6 : Nat → FieldType := fun k => match k with
  | 0 => .int
  | 1 => .int
  | 2 => .int
  | 3 => .object "java/util/ArrayList"
  | 4 => .long
  | _ => .int
theorem nmX6 : ∀ a, a < 6 → ∀ b, b < 6 → a ≠ b → (TX6 a).2.1 ≠ (TX6 b).2.1 := by decide +kernel
theorem tyX6_ok : ∀ k, k < 6 → parseFieldDescriptor (TX6 k).2.2.1 = some (tyX6 k) := by decide +kernel
abbrev cX6_init : ByteArray := prog_8_method_1_code
def yX6_init : MethodName := ⟨RX6, "<init>", "(II)V"⟩
abbrev cX6_mayBeAsked : ByteArray := prog_8_method_2_code
def yX6_mayBeAsked : MethodName := ⟨RX6, "mayBeAsked", "(II)Z"⟩
abbrev cX6_fits : ByteArray := prog_8_method_3_code
def yX6_fits : MethodName := ⟨RX6, "fits", "(III)Z"⟩
abbrev cX6_dropLoneRiser : ByteArray := prog_8_method_4_code
def yX6_dropLoneRiser : MethodName := ⟨RX6, "dropLoneRiser", "()V"⟩
def RX7 : String := "LeaseBoard$Shared"
def TX7 : u_T := fun k => match k with
  | 0 => ("LeaseBoard$Only", "kind", "I", true)
  | 1 => ("LeaseBoard$Only", "length", "I", true)
  | 2 => ("LeaseBoard$Only", "lasting", "I", true)
  | 3 => ("LeaseBoard$Only", "grants", "Ljava/util/ArrayList;", true)
  | _ => ("LeaseBoard$Only", "lastNumber", "J", false)
def tyX7 : Nat → FieldType := fun k => match k with
  | 0 => .int
  | 1 => .int
  | 2 => .int
  | 3 => .object "java/util/ArrayList"
  | _ => .long
theorem nmX7 : ∀ a, a < 5 → ∀ b, b < 5 → a ≠ b → (TX7 a).2.1 ≠ (TX7 b).2.1 := by decide +kernel
theorem tyX7_ok : ∀ k, k < 5 → parseFieldDescriptor (TX7 k).2.2.1 = some (tyX7 k) := by decide +kernel
abbrev cX7_init : ByteArray := prog_9_method_1_code
def yX7_init : MethodName := ⟨RX7, "<init>", "(III)V"⟩
abbrev cX7_mayBeAsked : ByteArray := prog_9_method_2_code
def yX7_mayBeAsked : MethodName := ⟨RX7, "mayBeAsked", "(II)Z"⟩
abbrev cX7_fits : ByteArray := prog_9_method_3_code
def yX7_fits : MethodName := ⟨RX7, "fits", "(III)Z"⟩
def RX8 : String := "LeaseBoard$Tray"
def TX8 : u_T := fun k => match k with
  | 0 => ("LeaseBoard$Tray", "thing", "LLeaseBoard$Only;", false)
  | 1 => ("LeaseBoard$Tray", "letter", "LLeaseBoard$Letter;", false)
  | 2 => ("LeaseBoard$Tray", "numbers", "[J", false)
  | _ => ("LeaseBoard$Tray", "truths", "[Z", false)
def tyX8 : Nat → FieldType := fun k => match k with
  | 0 => .object "LeaseBoard$Only"
  | 1 => .object "LeaseBoard$Letter"
  | 2 => .array .long
  | _ => .array .boolean
theorem nmX8 : ∀ a, a < 4 → ∀ b, b < 4 → a ≠ b → (TX8 a).2.1 ≠ (TX8 b).2.1 := by decide +kernel
theorem tyX8_ok : ∀ k, k < 4 → parseFieldDescriptor (TX8 k).2.2.1 = some (tyX8 k) := by decide +kernel
abbrev cX8_init : ByteArray := prog_10_method_1_code
def yX8_init : MethodName := ⟨RX8, "<init>", "()V"⟩
abbrev cX8_clear : ByteArray := prog_10_method_2_code
def yX8_clear : MethodName := ⟨RX8, "clear", "()V"⟩
abbrev cX8_isEmpty : ByteArray := prog_10_method_3_code
def yX8_isEmpty : MethodName := ⟨RX8, "isEmpty", "()Z"⟩
def RX9 : String := "LeaseBoard$Waiting"
def TX9 : u_T := fun k => match k with
  | 0 => ("LeaseBoard$Only", "kind", "I", true)
  | 1 => ("LeaseBoard$Only", "length", "I", true)
  | 2 => ("LeaseBoard$Only", "lasting", "I", true)
  | 3 => ("LeaseBoard$Only", "grants", "Ljava/util/ArrayList;", true)
  | 4 => ("LeaseBoard$Only", "lastNumber", "J", false)
  | 5 => ("LeaseBoard$Waiting", "queue", "[I", true)
  | 6 => ("LeaseBoard$Waiting", "queued", "I", false)
  | 7 => ("LeaseBoard$Waiting", "called", "Z", false)
  | _ => ("LeaseBoard$Waiting", "calledEnd", "J", false)
def tyX9 : Nat → FieldType := fun k => match k with
  | 0 => .int
  | 1 => .int
  | 2 => .int
  | 3 => .object "java/util/ArrayList"
  | 4 => .long
  | 5 => .array .int
  | 6 => .int
  | 7 => .boolean
  | _ => .long
theorem nmX9 : ∀ a, a < 9 → ∀ b, b < 9 → a ≠ b → (TX9 a).2.1 ≠ (TX9 b).2.1 := by decide +kernel
theorem tyX9_ok : ∀ k, k < 9 → parseFieldDescriptor (TX9 k).2.2.1 = some (tyX9 k) := by decide +kernel
abbrev cX9_init : ByteArray := prog_11_method_1_code
def yX9_init : MethodName := ⟨RX9, "<init>", "(II)V"⟩
abbrev cX9_fits : ByteArray := prog_11_method_2_code
def yX9_fits : MethodName := ⟨RX9, "fits", "(III)Z"⟩
abbrev cX9_queuedAt : ByteArray := prog_11_method_3_code
def yX9_queuedAt : MethodName := ⟨RX9, "queuedAt", "(I)I"⟩
abbrev cX9_isQueued : ByteArray := prog_11_method_4_code
def yX9_isQueued : MethodName := ⟨RX9, "isQueued", "(I)Z"⟩
abbrev cX9_isQueueFull : ByteArray := prog_11_method_5_code
def yX9_isQueueFull : MethodName := ⟨RX9, "isQueueFull", "()Z"⟩
abbrev cX9_join : ByteArray := prog_11_method_6_code
def yX9_join : MethodName := ⟨RX9, "join", "(I)V"⟩
abbrev cX9_dropFirst : ByteArray := prog_11_method_7_code
def yX9_dropFirst : MethodName := ⟨RX9, "dropFirst", "()V"⟩
abbrev cX9_dropLateFirst : ByteArray := prog_11_method_8_code
def yX9_dropLateFirst : MethodName := ⟨RX9, "dropLateFirst", "(J)V"⟩
abbrev cX9_isFirstDue : ByteArray := prog_11_method_9_code
def yX9_isFirstDue : MethodName := ⟨RX9, "isFirstDue", "()Z"⟩
abbrev cX9_callFirst : ByteArray := prog_11_method_10_code
def yX9_callFirst : MethodName := ⟨RX9, "callFirst", "(J)V"⟩
def RX10 : String := "LeaseBoard$Worker"
def TX10 : u_T := fun k => match k with
  | 0 => ("LeaseBoard$Party", "begin", "I", true)
  | 1 => ("LeaseBoard$Party", "rate", "I", true)
  | 2 => ("LeaseBoard$Party", "awake", "Z", false)
  | 3 => ("LeaseBoard$Worker", "memories", "[LLeaseBoard$Memory;", true)
  | _ => ("LeaseBoard$Worker", "marks", "I", false)
def tyX10 : Nat → FieldType := fun k => match k with
  | 0 => .int
  | 1 => .int
  | 2 => .boolean
  | 3 => .array (.object "LeaseBoard$Memory")
  | _ => .int
theorem nmX10 : ∀ a, a < 5 → ∀ b, b < 5 → a ≠ b → (TX10 a).2.1 ≠ (TX10 b).2.1 := by decide +kernel
theorem tyX10_ok : ∀ k, k < 5 → parseFieldDescriptor (TX10 k).2.2.1 = some (tyX10 k) := by decide +kernel
abbrev cX10_init : ByteArray := prog_12_method_1_code
def yX10_init : MethodName := ⟨RX10, "<init>", "(II)V"⟩
abbrev cX10_memoryOf : ByteArray := prog_12_method_2_code
def yX10_memoryOf : MethodName := ⟨RX10, "memoryOf", "(I)LLeaseBoard$Memory;"⟩
def RX11 : String := "LeaseBoard"
def TX11 : u_T := fun k => match k with
  | 0 => ("LeaseBoard", "drift", "I", true)
  | 1 => ("LeaseBoard", "keepers", "Ljava/util/ArrayList;", true)
  | 2 => ("LeaseBoard", "workers", "Ljava/util/ArrayList;", true)
  | 3 => ("LeaseBoard", "things", "Ljava/util/ArrayList;", true)
  | 4 => ("LeaseBoard", "letters", "Ljava/util/ArrayList;", true)
  | 5 => ("LeaseBoard", "greatest", "[[J", true)
  | 6 => ("LeaseBoard", "written", "[[J", true)
  | 7 => ("LeaseBoard", "trays", "[LLeaseBoard$Tray;", true)
  | 8 => ("LeaseBoard", "stores", "I", false)
  | 9 => ("LeaseBoard", "time", "I", false)
  | 10 => ("LeaseBoard", "leader", "I", false)
  | 11 => ("LeaseBoard", "term", "I", false)
  | 12 => ("LeaseBoard", "granted", "I", false)
  | 13 => ("LeaseBoard", "refusals", "I", false)
  | 14 => ("LeaseBoard", "lates", "I", false)
  | 15 => ("LeaseBoard", "turns", "I", false)
  | 16 => ("LeaseBoard", "refusedWrites", "I", false)
  | _ => ("LeaseBoard", "status", "I", false)
def tyX11 : Nat → FieldType := fun k => match k with
  | 0 => .int
  | 1 => .object "java/util/ArrayList"
  | 2 => .object "java/util/ArrayList"
  | 3 => .object "java/util/ArrayList"
  | 4 => .object "java/util/ArrayList"
  | 5 => .array (.array .long)
  | 6 => .array (.array .long)
  | 7 => .array (.object "LeaseBoard$Tray")
  | 8 => .int
  | 9 => .int
  | 10 => .int
  | 11 => .int
  | 12 => .int
  | 13 => .int
  | 14 => .int
  | 15 => .int
  | 16 => .int
  | _ => .int
theorem nmX11 : ∀ a, a < 18 → ∀ b, b < 18 → a ≠ b → (TX11 a).2.1 ≠ (TX11 b).2.1 := by decide +kernel
theorem tyX11_ok : ∀ k, k < 18 → parseFieldDescriptor (TX11 k).2.2.1 = some (tyX11 k) := by decide +kernel
abbrev cX11_init : ByteArray := prog_1_method_1_code
def yX11_init : MethodName := ⟨RX11, "<init>", "(I)V"⟩
abbrev cX11_keeper : ByteArray := prog_1_method_2_code
def yX11_keeper : MethodName := ⟨RX11, "keeper", "(II)I"⟩
abbrev cX11_worker : ByteArray := prog_1_method_3_code
def yX11_worker : MethodName := ⟨RX11, "worker", "(II)I"⟩
abbrev cX11_thing : ByteArray := prog_1_method_4_code
def yX11_thing : MethodName := ⟨RX11, "thing", "(III)I"⟩
abbrev cX11_store : ByteArray := prog_1_method_5_code
def yX11_store : MethodName := ⟨RX11, "store", "()I"⟩
abbrev cX11_tick : ByteArray := prog_1_method_6_code
def yX11_tick : MethodName := ⟨RX11, "tick", "(I)I"⟩
abbrev cX11_clock : ByteArray := prog_1_method_7_code
def yX11_clock : MethodName := ⟨RX11, "clock", "(II)J"⟩
abbrev cX11_wake : ByteArray := prog_1_method_8_code
def yX11_wake : MethodName := ⟨RX11, "wake", "(IIZ)I"⟩
abbrev cX11_fall : ByteArray := prog_1_method_9_code
def yX11_fall : MethodName := ⟨RX11, "fall", "(I)I"⟩
abbrev cX11_lead : ByteArray := prog_1_method_10_code
def yX11_lead : MethodName := ⟨RX11, "lead", "(I)I"⟩
abbrev cX11_ask : ByteArray := prog_1_method_11_code
def yX11_ask : MethodName := ⟨RX11, "ask", "(IIIII)I"⟩
abbrev cX11_renew : ByteArray := prog_1_method_12_code
def yX11_renew : MethodName := ⟨RX11, "renew", "(III)I"⟩
abbrev cX11_end : ByteArray := prog_1_method_13_code
def yX11_end : MethodName := ⟨RX11, "end", "(III)I"⟩
abbrev cX11_rise : ByteArray := prog_1_method_14_code
def yX11_rise : MethodName := ⟨RX11, "rise", "(III)I"⟩
abbrev cX11_deliver : ByteArray := prog_1_method_15_code
def yX11_deliver : MethodName := ⟨RX11, "deliver", "(I)I"⟩
abbrev cX11_lose : ByteArray := prog_1_method_16_code
def yX11_lose : MethodName := ⟨RX11, "lose", "(I)I"⟩
abbrev cX11_twice : ByteArray := prog_1_method_17_code
def yX11_twice : MethodName := ⟨RX11, "twice", "(I)I"⟩
abbrev cX11_letter : ByteArray := prog_1_method_18_code
def yX11_letter : MethodName := ⟨RX11, "letter", "(II)I"⟩
abbrev cX11_wrote : ByteArray := prog_1_method_19_code
def yX11_wrote : MethodName := ⟨RX11, "wrote", "(II)J"⟩
abbrev cX11_look : ByteArray := prog_1_method_20_code
def yX11_look : MethodName := ⟨RX11, "look", "(I)I"⟩
abbrev cX11_grant : ByteArray := prog_1_method_21_code
def yX11_grant : MethodName := ⟨RX11, "grant", "(III)I"⟩
abbrev cX11_ends : ByteArray := prog_1_method_22_code
def yX11_ends : MethodName := ⟨RX11, "ends", "(III)J"⟩
abbrev cX11_told : ByteArray := prog_1_method_23_code
def yX11_told : MethodName := ⟨RX11, "told", "(II)I"⟩
abbrev cX11_holds : ByteArray := prog_1_method_24_code
def yX11_holds : MethodName := ⟨RX11, "holds", "(III)I"⟩
abbrev cX11_held : ByteArray := prog_1_method_25_code
def yX11_held : MethodName := ⟨RX11, "held", "(III)J"⟩
abbrev cX11_write : ByteArray := prog_1_method_26_code
def yX11_write : MethodName := ⟨RX11, "write", "(IIIJ)I"⟩
abbrev cX11_stored : ByteArray := prog_1_method_27_code
def yX11_stored : MethodName := ⟨RX11, "stored", "(III)J"⟩
abbrev cX11_count : ByteArray := prog_1_method_28_code
def yX11_count : MethodName := ⟨RX11, "count", "(I)I"⟩
abbrev cX11_put : ByteArray := prog_1_method_29_code
def yX11_put : MethodName := ⟨RX11, "put", "(III)I"⟩
abbrev cX11_forge : ByteArray := prog_1_method_30_code
def yX11_forge : MethodName := ⟨RX11, "forge", "(III)I"⟩
abbrev cX11_status : ByteArray := prog_1_method_31_code
def yX11_status : MethodName := ⟨RX11, "status", "()I"⟩
abbrev cX11_isWithin : ByteArray := prog_1_method_32_code
def yX11_isWithin : MethodName := ⟨RX11, "isWithin", "(III)Z"⟩
abbrev cX11_isClock : ByteArray := prog_1_method_33_code
def yX11_isClock : MethodName := ⟨RX11, "isClock", "(II)Z"⟩
abbrev cX11_isStored : ByteArray := prog_1_method_34_code
def yX11_isStored : MethodName := ⟨RX11, "isStored", "(II)Z"⟩
abbrev cX11_keeperAt : ByteArray := prog_1_method_35_code
def yX11_keeperAt : MethodName := ⟨RX11, "keeperAt", "(I)LLeaseBoard$Party;"⟩
abbrev cX11_workerAt : ByteArray := prog_1_method_36_code
def yX11_workerAt : MethodName := ⟨RX11, "workerAt", "(I)LLeaseBoard$Worker;"⟩
abbrev cX11_partyAt : ByteArray := prog_1_method_37_code
def yX11_partyAt : MethodName := ⟨RX11, "partyAt", "(II)LLeaseBoard$Party;"⟩
abbrev cX11_thingAt : ByteArray := prog_1_method_38_code
def yX11_thingAt : MethodName := ⟨RX11, "thingAt", "(I)LLeaseBoard$Only;"⟩
abbrev cX11_letterAt : ByteArray := prog_1_method_39_code
def yX11_letterAt : MethodName := ⟨RX11, "letterAt", "(I)LLeaseBoard$Letter;"⟩
abbrev cX11_grantAt : ByteArray := prog_1_method_40_code
def yX11_grantAt : MethodName := ⟨RX11, "grantAt", "(II)LLeaseBoard$Grant;"⟩
abbrev cX11_memoryAt : ByteArray := prog_1_method_41_code
def yX11_memoryAt : MethodName := ⟨RX11, "memoryAt", "(II)LLeaseBoard$Memory;"⟩
abbrev cX11_trayAt : ByteArray := prog_1_method_42_code
def yX11_trayAt : MethodName := ⟨RX11, "trayAt", "(I)LLeaseBoard$Tray;"⟩
abbrev cX11_newThing : ByteArray := prog_1_method_43_code
def yX11_newThing : MethodName := ⟨RX11, "newThing", "(III)LLeaseBoard$Only;"⟩
abbrev cX11_divideUp : ByteArray := prog_1_method_44_code
def yX11_divideUp : MethodName := ⟨RX11, "divideUp", "(II)I"⟩
abbrev cX11_keepersAwake : ByteArray := prog_1_method_45_code
def yX11_keepersAwake : MethodName := ⟨RX11, "keepersAwake", "()I"⟩
abbrev cX11_areMostAwake : ByteArray := prog_1_method_46_code
def yX11_areMostAwake : MethodName := ⟨RX11, "areMostAwake", "()Z"⟩
abbrev cX11_ableLeader : ByteArray := prog_1_method_47_code
def yX11_ableLeader : MethodName := ⟨RX11, "ableLeader", "()LLeaseBoard$Party;"⟩
abbrev cX11_prolongBoard : ByteArray := prog_1_method_48_code
def yX11_prolongBoard : MethodName := ⟨RX11, "prolongBoard", "(J)V"⟩
abbrev cX11_hasRoomFor : ByteArray := prog_1_method_49_code
def yX11_hasRoomFor : MethodName := ⟨RX11, "hasRoomFor", "(I)Z"⟩
abbrev cX11_send : ByteArray := prog_1_method_50_code
def yX11_send : MethodName := ⟨RX11, "send", "(LLeaseBoard$Letter;)I"⟩
abbrev cX11_sendMarked : ByteArray := prog_1_method_51_code
def yX11_sendMarked : MethodName := ⟨RX11, "sendMarked", "(LLeaseBoard$Letter;)I"⟩
abbrev cX11_refusalToHolder : ByteArray := prog_1_method_52_code
def yX11_refusalToHolder : MethodName := ⟨RX11, "refusalToHolder", "(III)I"⟩
abbrev cX11_answerGrant : ByteArray := prog_1_method_53_code
def yX11_answerGrant : MethodName := ⟨RX11, "answerGrant", "(LLeaseBoard$Letter;LLeaseBoard$Grant;)V"⟩
abbrev cX11_answerRefusal : ByteArray := prog_1_method_54_code
def yX11_answerRefusal : MethodName := ⟨RX11, "answerRefusal", "(LLeaseBoard$Letter;)V"⟩
abbrev cX11_answerLate : ByteArray := prog_1_method_55_code
def yX11_answerLate : MethodName := ⟨RX11, "answerLate", "(LLeaseBoard$Letter;)V"⟩
abbrev cX11_reachKeeper : ByteArray := prog_1_method_56_code
def yX11_reachKeeper : MethodName := ⟨RX11, "reachKeeper", "(LLeaseBoard$Letter;)I"⟩
abbrev cX11_lookAt : ByteArray := prog_1_method_57_code
def yX11_lookAt : MethodName := ⟨RX11, "lookAt", "(LLeaseBoard$Only;IJ)V"⟩
abbrev cX11_hearAsk : ByteArray := prog_1_method_58_code
def yX11_hearAsk : MethodName := ⟨RX11, "hearAsk", "(LLeaseBoard$Letter;LLeaseBoard$Only;J)V"⟩
abbrev cX11_grantAsAsked : ByteArray := prog_1_method_59_code
def yX11_grantAsAsked : MethodName := ⟨RX11, "grantAsAsked", "(LLeaseBoard$Letter;LLeaseBoard$Only;J)V"⟩
abbrev cX11_waitOrRefuse : ByteArray := prog_1_method_60_code
def yX11_waitOrRefuse : MethodName := ⟨RX11, "waitOrRefuse", "(LLeaseBoard$Letter;LLeaseBoard$Waiting;)V"⟩
abbrev cX11_hearRenew : ByteArray := prog_1_method_61_code
def yX11_hearRenew : MethodName := ⟨RX11, "hearRenew", "(LLeaseBoard$Letter;LLeaseBoard$Only;J)V"⟩
abbrev cX11_hearEnd : ByteArray := prog_1_method_62_code
def yX11_hearEnd : MethodName := ⟨RX11, "hearEnd", "(LLeaseBoard$Letter;LLeaseBoard$Only;J)V"⟩
abbrev cX11_hearRise : ByteArray := prog_1_method_63_code
def yX11_hearRise : MethodName := ⟨RX11, "hearRise", "(LLeaseBoard$Letter;LLeaseBoard$Only;J)V"⟩
abbrev cX11_riseReader : ByteArray := prog_1_method_64_code
def yX11_riseReader : MethodName := ⟨RX11, "riseReader", "(LLeaseBoard$Letter;LLeaseBoard$Rising;LLeaseBoard$Grant;J)V"⟩
abbrev cX11_giveNumber : ByteArray := prog_1_method_65_code
def yX11_giveNumber : MethodName := ⟨RX11, "giveNumber", "(LLeaseBoard$Only;LLeaseBoard$Grant;J)V"⟩
abbrev cX11_reachWorker : ByteArray := prog_1_method_66_code
def yX11_reachWorker : MethodName := ⟨RX11, "reachWorker", "(LLeaseBoard$Letter;)I"⟩
abbrev cX11_hearGrant : ByteArray := prog_1_method_67_code
def yX11_hearGrant : MethodName := ⟨RX11, "hearGrant", "(LLeaseBoard$Letter;LLeaseBoard$Memory;JI)V"⟩
abbrev cX11_hearRefusal : ByteArray := prog_1_method_68_code
def yX11_hearRefusal : MethodName := ⟨RX11, "hearRefusal", "(LLeaseBoard$Letter;LLeaseBoard$Memory;)V"⟩
abbrev cX11_hearLate : ByteArray := prog_1_method_69_code
def yX11_hearLate : MethodName := ⟨RX11, "hearLate", "(LLeaseBoard$Letter;LLeaseBoard$Memory;)V"⟩
abbrev cX11_mayUse : ByteArray := prog_1_method_70_code
def yX11_mayUse : MethodName := ⟨RX11, "mayUse", "(II)Z"⟩
abbrev cX11_usersOf : ByteArray := prog_1_method_71_code
def yX11_usersOf : MethodName := ⟨RX11, "usersOf", "(I)I"⟩
abbrev cX11_thingsInClash : ByteArray := prog_1_method_72_code
def yX11_thingsInClash : MethodName := ⟨RX11, "thingsInClash", "()I"⟩
abbrev cX11_isInClash : ByteArray := prog_1_method_73_code
def yX11_isInClash : MethodName := ⟨RX11, "isInClash", "(LLeaseBoard$Only;I)Z"⟩
abbrev cX11_lettersUnderWay : ByteArray := prog_1_method_74_code
def yX11_lettersUnderWay : MethodName := ⟨RX11, "lettersUnderWay", "()I"⟩
abbrev cX11_refuse : ByteArray := prog_1_method_75_code
def yX11_refuse : MethodName := ⟨RX11, "refuse", "(I)I"⟩
abbrev cX11_canBePut : ByteArray := prog_1_method_76_code
def yX11_canBePut : MethodName := ⟨RX11, "canBePut", "(II)Z"⟩
abbrev cX11_numbersOf : ByteArray := prog_1_method_77_code
def yX11_numbersOf : MethodName := ⟨RX11, "numbersOf", "(I)[J"⟩
abbrev cX11_truthsOf : ByteArray := prog_1_method_78_code
def yX11_truthsOf : MethodName := ⟨RX11, "truthsOf", "(I)[Z"⟩
abbrev cX11_isOfKind : ByteArray := prog_1_method_79_code
def yX11_isOfKind : MethodName := ⟨RX11, "isOfKind", "(LLeaseBoard$Only;I)Z"⟩
abbrev cX11_refuseSort : ByteArray := prog_1_method_80_code
def yX11_refuseSort : MethodName := ⟨RX11, "refuseSort", "(LLeaseBoard$Tray;)I"⟩
abbrev cX11_lengthAsKind : ByteArray := prog_1_method_81_code
def yX11_lengthAsKind : MethodName := ⟨RX11, "lengthAsKind", "(LLeaseBoard$Tray;I)I"⟩
abbrev cX11_thingOfLetter : ByteArray := prog_1_method_82_code
def yX11_thingOfLetter : MethodName := ⟨RX11, "thingOfLetter", "(LLeaseBoard$Tray;Z)I"⟩
abbrev cX11_numberAt : ByteArray := prog_1_method_83_code
def yX11_numberAt : MethodName := ⟨RX11, "numberAt", "(LLeaseBoard$Tray;I)I"⟩
abbrev cX11_truthAt : ByteArray := prog_1_method_84_code
def yX11_truthAt : MethodName := ⟨RX11, "truthAt", "(LLeaseBoard$Tray;I)I"⟩
abbrev cX11_sumOfCopied : ByteArray := prog_1_method_85_code
def yX11_sumOfCopied : MethodName := ⟨RX11, "sumOfCopied", "(LLeaseBoard$Tray;I)I"⟩
abbrev cX11_lengthLaidAmongShared : ByteArray := prog_1_method_86_code
def yX11_lengthLaidAmongShared : MethodName := ⟨RX11, "lengthLaidAmongShared", "(LLeaseBoard$Tray;)I"⟩
def RX12 : String := "LeaseBoardModel"
def TX12 : u_T := fun k => match k with
  | 0 => ("LeaseBoardModel", "drift", "I", true)
  | 1 => ("LeaseBoardModel", "time", "I", false)
  | 2 => ("LeaseBoardModel", "keepers", "I", false)
  | 3 => ("LeaseBoardModel", "kBegin", "[I", true)
  | 4 => ("LeaseBoardModel", "kRate", "[I", true)
  | 5 => ("LeaseBoardModel", "kAwake", "[Z", true)
  | 6 => ("LeaseBoardModel", "workers", "I", false)
  | 7 => ("LeaseBoardModel", "wBegin", "[I", true)
  | 8 => ("LeaseBoardModel", "wRate", "[I", true)
  | 9 => ("LeaseBoardModel", "sent", "[I", true)
  | 10 => ("LeaseBoardModel", "wAwake", "[Z", true)
  | 11 => ("LeaseBoardModel", "things", "I", false)
  | 12 => ("LeaseBoardModel", "kind", "[I", true)
  | 13 => ("LeaseBoardModel", "length", "[I", true)
  | 14 => ("LeaseBoardModel", "whole", "[I", true)
  | 15 => ("LeaseBoardModel", "riser", "[I", true)
  | 16 => ("LeaseBoardModel", "queued", "[I", true)
  | 17 => ("LeaseBoardModel", "queue", "[I", true)
  | 18 => ("LeaseBoardModel", "last", "[J", true)
  | 19 => ("LeaseBoardModel", "calledEnd", "[J", true)
  | 20 => ("LeaseBoardModel", "called", "[Z", true)
  | 21 => ("LeaseBoardModel", "grants", "[I", true)
  | 22 => ("LeaseBoardModel", "gWorker", "[I", true)
  | 23 => ("LeaseBoardModel", "gMode", "[I", true)
  | 24 => ("LeaseBoardModel", "gParts", "[I", true)
  | 25 => ("LeaseBoardModel", "gNumber", "[J", true)
  | 26 => ("LeaseBoardModel", "gEnd", "[J", true)
  | 27 => ("LeaseBoardModel", "leader", "I", false)
  | 28 => ("LeaseBoardModel", "term", "I", false)
  | 29 => ("LeaseBoardModel", "isHeld", "[Z", true)
  | 30 => ("LeaseBoardModel", "hMode", "[I", true)
  | 31 => ("LeaseBoardModel", "hParts", "[I", true)
  | 32 => ("LeaseBoardModel", "waits", "[I", true)
  | 33 => ("LeaseBoardModel", "hNumber", "[J", true)
  | 34 => ("LeaseBoardModel", "until", "[J", true)
  | 35 => ("LeaseBoardModel", "letters", "I", false)
  | 36 => ("LeaseBoardModel", "lKind", "[I", true)
  | 37 => ("LeaseBoardModel", "lWorker", "[I", true)
  | 38 => ("LeaseBoardModel", "lKeeper", "[I", true)
  | 39 => ("LeaseBoardModel", "lThing", "[I", true)
  | 40 => ("LeaseBoardModel", "lMode", "[I", true)
  | 41 => ("LeaseBoardModel", "lParts", "[I", true)
  | 42 => ("LeaseBoardModel", "lHow", "[I", true)
  | 43 => ("LeaseBoardModel", "lMark", "[I", true)
  | 44 => ("LeaseBoardModel", "lNumber", "[J", true)
  | 45 => ("LeaseBoardModel", "lAsked", "[J", true)
  | 46 => ("LeaseBoardModel", "stores", "I", false)
  | 47 => ("LeaseBoardModel", "sNumber", "[J", true)
  | 48 => ("LeaseBoardModel", "sValue", "[J", true)
  | 49 => ("LeaseBoardModel", "made", "I", false)
  | 50 => ("LeaseBoardModel", "nos", "I", false)
  | 51 => ("LeaseBoardModel", "lates", "I", false)
  | 52 => ("LeaseBoardModel", "turns", "I", false)
  | 53 => ("LeaseBoardModel", "refused", "I", false)
  | 54 => ("LeaseBoardModel", "tray", "[I", true)
  | 55 => ("LeaseBoardModel", "trayOf", "[I", true)
  | 56 => ("LeaseBoardModel", "traySize", "[I", true)
  | 57 => ("LeaseBoardModel", "trayRow", "[J", true)
  | _ => ("LeaseBoardModel", "status", "I", false)
def tyX12 : Nat → FieldType := fun k => match k with
  | 0 => .int
  | 1 => .int
  | 2 => .int
  | 3 => .array .int
  | 4 => .array .int
  | 5 => .array .boolean
  | 6 => .int
  | 7 => .array .int
  | 8 => .array .int
  | 9 => .array .int
  | 10 => .array .boolean
  | 11 => .int
  | 12 => .array .int
  | 13 => .array .int
  | 14 => .array .int
  | 15 => .array .int
  | 16 => .array .int
  | 17 => .array .int
  | 18 => .array .long
  | 19 => .array .long
  | 20 => .array .boolean
  | 21 => .array .int
  | 22 => .array .int
  | 23 => .array .int
  | 24 => .array .int
  | 25 => .array .long
  | 26 => .array .long
  | 27 => .int
  | 28 => .int
  | 29 => .array .boolean
  | 30 => .array .int
  | 31 => .array .int
  | 32 => .array .int
  | 33 => .array .long
  | 34 => .array .long
  | 35 => .int
  | 36 => .array .int
  | 37 => .array .int
  | 38 => .array .int
  | 39 => .array .int
  | 40 => .array .int
  | 41 => .array .int
  | 42 => .array .int
  | 43 => .array .int
  | 44 => .array .long
  | 45 => .array .long
  | 46 => .int
  | 47 => .array .long
  | 48 => .array .long
  | 49 => .int
  | 50 => .int
  | 51 => .int
  | 52 => .int
  | 53 => .int
  | 54 => .array .int
  | 55 => .array .int
  | 56 => .array .int
  | 57 => .array .long
  | _ => .int
theorem nmX12 : ∀ a, a < 59 → ∀ b, b < 59 → a ≠ b → (TX12 a).2.1 ≠ (TX12 b).2.1 := by decide +kernel
theorem tyX12_ok : ∀ k, k < 59 → parseFieldDescriptor (TX12 k).2.2.1 = some (tyX12 k) := by decide +kernel
abbrev cX12_init : ByteArray := prog_14_method_1_code
def yX12_init : MethodName := ⟨RX12, "<init>", "(I)V"⟩
abbrev cX12_in : ByteArray := prog_14_method_2_code
def yX12_in : MethodName := ⟨RX12, "in", "(III)Z"⟩
abbrev cX12_isClock : ByteArray := prog_14_method_3_code
def yX12_isClock : MethodName := ⟨RX12, "isClock", "(II)Z"⟩
abbrev cX12_keeper : ByteArray := prog_14_method_4_code
def yX12_keeper : MethodName := ⟨RX12, "keeper", "(II)I"⟩
abbrev cX12_worker : ByteArray := prog_14_method_5_code
def yX12_worker : MethodName := ⟨RX12, "worker", "(II)I"⟩
abbrev cX12_thing : ByteArray := prog_14_method_6_code
def yX12_thing : MethodName := ⟨RX12, "thing", "(III)I"⟩
abbrev cX12_store : ByteArray := prog_14_method_7_code
def yX12_store : MethodName := ⟨RX12, "store", "()I"⟩
abbrev cX12_tick : ByteArray := prog_14_method_8_code
def yX12_tick : MethodName := ⟨RX12, "tick", "(I)I"⟩
abbrev cX12_isKeeper : ByteArray := prog_14_method_9_code
def yX12_isKeeper : MethodName := ⟨RX12, "isKeeper", "(I)Z"⟩
abbrev cX12_isWorker : ByteArray := prog_14_method_10_code
def yX12_isWorker : MethodName := ⟨RX12, "isWorker", "(I)Z"⟩
abbrev cX12_isThing : ByteArray := prog_14_method_11_code
def yX12_isThing : MethodName := ⟨RX12, "isThing", "(I)Z"⟩
abbrev cX12_isLetter : ByteArray := prog_14_method_12_code
def yX12_isLetter : MethodName := ⟨RX12, "isLetter", "(I)Z"⟩
abbrev cX12_kClock : ByteArray := prog_14_method_13_code
def yX12_kClock : MethodName := ⟨RX12, "kClock", "(I)J"⟩
abbrev cX12_wClock : ByteArray := prog_14_method_14_code
def yX12_wClock : MethodName := ⟨RX12, "wClock", "(I)J"⟩
abbrev cX12_clock : ByteArray := prog_14_method_15_code
def yX12_clock : MethodName := ⟨RX12, "clock", "(II)J"⟩
abbrev cX12_long0 : ByteArray := prog_14_method_16_code
def yX12_long0 : MethodName := ⟨RX12, "long0", "(I)I"⟩
abbrev cX12_awake : ByteArray := prog_14_method_17_code
def yX12_awake : MethodName := ⟨RX12, "awake", "()I"⟩
abbrev cX12_isMost : ByteArray := prog_14_method_18_code
def yX12_isMost : MethodName := ⟨RX12, "isMost", "()Z"⟩
abbrev cX12_wake : ByteArray := prog_14_method_19_code
def yX12_wake : MethodName := ⟨RX12, "wake", "(IIZ)I"⟩
abbrev cX12_fall : ByteArray := prog_14_method_20_code
def yX12_fall : MethodName := ⟨RX12, "fall", "(I)I"⟩
abbrev cX12_lead : ByteArray := prog_14_method_21_code
def yX12_lead : MethodName := ⟨RX12, "lead", "(I)I"⟩
abbrev cX12_send : ByteArray := prog_14_method_22_code
def yX12_send : MethodName := ⟨RX12, "send", "(IIII)I"⟩
abbrev cX12_areThere : ByteArray := prog_14_method_23_code
def yX12_areThere : MethodName := ⟨RX12, "areThere", "(III)Z"⟩
abbrev cX12_marked : ByteArray := prog_14_method_24_code
def yX12_marked : MethodName := ⟨RX12, "marked", "(IIIIIIJ)I"⟩
abbrev cX12_ask : ByteArray := prog_14_method_25_code
def yX12_ask : MethodName := ⟨RX12, "ask", "(IIIII)I"⟩
abbrev cX12_renew : ByteArray := prog_14_method_26_code
def yX12_renew : MethodName := ⟨RX12, "renew", "(III)I"⟩
abbrev cX12_end : ByteArray := prog_14_method_27_code
def yX12_end : MethodName := ⟨RX12, "end", "(III)I"⟩
abbrev cX12_rise : ByteArray := prog_14_method_28_code
def yX12_rise : MethodName := ⟨RX12, "rise", "(III)I"⟩
abbrev cX12_lose : ByteArray := prog_14_method_29_code
def yX12_lose : MethodName := ⟨RX12, "lose", "(I)I"⟩
abbrev cX12_twice : ByteArray := prog_14_method_30_code
def yX12_twice : MethodName := ⟨RX12, "twice", "(I)I"⟩
abbrev cX12_letter : ByteArray := prog_14_method_31_code
def yX12_letter : MethodName := ⟨RX12, "letter", "(II)I"⟩
abbrev cX12_wrote : ByteArray := prog_14_method_32_code
def yX12_wrote : MethodName := ⟨RX12, "wrote", "(II)J"⟩
abbrev cX12_grantOf : ByteArray := prog_14_method_33_code
def yX12_grantOf : MethodName := ⟨RX12, "grantOf", "(II)I"⟩
abbrev cX12_goes : ByteArray := prog_14_method_34_code
def yX12_goes : MethodName := ⟨RX12, "goes", "(II)V"⟩
abbrev cX12_unqueue : ByteArray := prog_14_method_35_code
def yX12_unqueue : MethodName := ⟨RX12, "unqueue", "(II)V"⟩
abbrev cX12_queuedAt : ByteArray := prog_14_method_36_code
def yX12_queuedAt : MethodName := ⟨RX12, "queuedAt", "(II)I"⟩
abbrev cX12_looks : ByteArray := prog_14_method_37_code
def yX12_looks : MethodName := ⟨RX12, "looks", "(I)V"⟩
abbrev cX12_isWritten : ByteArray := prog_14_method_38_code
def yX12_isWritten : MethodName := ⟨RX12, "isWritten", "(I)Z"⟩
abbrev cX12_partsOf : ByteArray := prog_14_method_39_code
def yX12_partsOf : MethodName := ⟨RX12, "partsOf", "(I)I"⟩
abbrev cX12_fits : ByteArray := prog_14_method_40_code
def yX12_fits : MethodName := ⟨RX12, "fits", "(IIII)Z"⟩
abbrev cX12_granted : ByteArray := prog_14_method_41_code
def yX12_granted : MethodName := ⟨RX12, "granted", "(II)V"⟩
abbrev cX12_answers : ByteArray := prog_14_method_42_code
def yX12_answers : MethodName := ⟨RX12, "answers", "(II)I"⟩
abbrev cX12_refuses : ByteArray := prog_14_method_43_code
def yX12_refuses : MethodName := ⟨RX12, "refuses", "(I)V"⟩
abbrev cX12_isLate : ByteArray := prog_14_method_44_code
def yX12_isLate : MethodName := ⟨RX12, "isLate", "(I)V"⟩
abbrev cX12_grants : ByteArray := prog_14_method_45_code
def yX12_grants : MethodName := ⟨RX12, "grants", "(II)V"⟩
abbrev cX12_asks : ByteArray := prog_14_method_46_code
def yX12_asks : MethodName := ⟨RX12, "asks", "(I)V"⟩
abbrev cX12_meant : ByteArray := prog_14_method_47_code
def yX12_meant : MethodName := ⟨RX12, "meant", "(I)I"⟩
abbrev cX12_prolongs : ByteArray := prog_14_method_48_code
def yX12_prolongs : MethodName := ⟨RX12, "prolongs", "(II)V"⟩
abbrev cX12_rises : ByteArray := prog_14_method_49_code
def yX12_rises : MethodName := ⟨RX12, "rises", "(I)V"⟩
abbrev cX12_toKeeper : ByteArray := prog_14_method_50_code
def yX12_toKeeper : MethodName := ⟨RX12, "toKeeper", "(I)V"⟩
abbrev cX12_toWorker : ByteArray := prog_14_method_51_code
def yX12_toWorker : MethodName := ⟨RX12, "toWorker", "(I)V"⟩
abbrev cX12_deliver : ByteArray := prog_14_method_52_code
def yX12_deliver : MethodName := ⟨RX12, "deliver", "(I)I"⟩
abbrev cX12_look : ByteArray := prog_14_method_53_code
def yX12_look : MethodName := ⟨RX12, "look", "(I)I"⟩
abbrev cX12_grant : ByteArray := prog_14_method_54_code
def yX12_grant : MethodName := ⟨RX12, "grant", "(III)I"⟩
abbrev cX12_ends : ByteArray := prog_14_method_55_code
def yX12_ends : MethodName := ⟨RX12, "ends", "(III)J"⟩
abbrev cX12_may : ByteArray := prog_14_method_56_code
def yX12_may : MethodName := ⟨RX12, "may", "(II)Z"⟩
abbrev cX12_mays : ByteArray := prog_14_method_57_code
def yX12_mays : MethodName := ⟨RX12, "mays", "(I)I"⟩
abbrev cX12_told : ByteArray := prog_14_method_58_code
def yX12_told : MethodName := ⟨RX12, "told", "(II)I"⟩
abbrev cX12_holds : ByteArray := prog_14_method_59_code
def yX12_holds : MethodName := ⟨RX12, "holds", "(III)I"⟩
abbrev cX12_held : ByteArray := prog_14_method_60_code
def yX12_held : MethodName := ⟨RX12, "held", "(III)J"⟩
abbrev cX12_isStore : ByteArray := prog_14_method_61_code
def yX12_isStore : MethodName := ⟨RX12, "isStore", "(I)Z"⟩
abbrev cX12_write : ByteArray := prog_14_method_62_code
def yX12_write : MethodName := ⟨RX12, "write", "(IIIJ)I"⟩
abbrev cX12_stored : ByteArray := prog_14_method_63_code
def yX12_stored : MethodName := ⟨RX12, "stored", "(III)J"⟩
abbrev cX12_underWay : ByteArray := prog_14_method_64_code
def yX12_underWay : MethodName := ⟨RX12, "underWay", "()I"⟩
abbrev cX12_clashes : ByteArray := prog_14_method_65_code
def yX12_clashes : MethodName := ⟨RX12, "clashes", "(I)Z"⟩
abbrev cX12_count : ByteArray := prog_14_method_66_code
def yX12_count : MethodName := ⟨RX12, "count", "(I)I"⟩
abbrev cX12_done : ByteArray := prog_14_method_67_code
def yX12_done : MethodName := ⟨RX12, "done", "(I)I"⟩
abbrev cX12_refuse : ByteArray := prog_14_method_68_code
def yX12_refuse : MethodName := ⟨RX12, "refuse", "(I)I"⟩
abbrev cX12_put : ByteArray := prog_14_method_69_code
def yX12_put : MethodName := ⟨RX12, "put", "(III)I"⟩
abbrev cX12_isUnder : ByteArray := prog_14_method_70_code
def yX12_isUnder : MethodName := ⟨RX12, "isUnder", "(II)Z"⟩
abbrev cX12_asThing : ByteArray := prog_14_method_71_code
def yX12_asThing : MethodName := ⟨RX12, "asThing", "(II)I"⟩
abbrev cX12_asLetter : ByteArray := prog_14_method_72_code
def yX12_asLetter : MethodName := ⟨RX12, "asLetter", "(II)I"⟩
abbrev cX12_asRow : ByteArray := prog_14_method_73_code
def yX12_asRow : MethodName := ⟨RX12, "asRow", "(III)I"⟩
abbrev cX12_copied : ByteArray := prog_14_method_74_code
def yX12_copied : MethodName := ⟨RX12, "copied", "(II)I"⟩
abbrev cX12_laid : ByteArray := prog_14_method_75_code
def yX12_laid : MethodName := ⟨RX12, "laid", "(I)I"⟩
abbrev cX12_forge : ByteArray := prog_14_method_76_code
def yX12_forge : MethodName := ⟨RX12, "forge", "(III)I"⟩
abbrev cX12_status : ByteArray := prog_14_method_77_code
def yX12_status : MethodName := ⟨RX12, "status", "()I"⟩
def RJ9 : String := "java/lang/Math"
def TJ9 : u_T := fun k => match k with
  | _ => ("", "", "", false)
def tyJ9 : Nat → FieldType := fun k => match k with
  | _ => .int
theorem nmJ9 : ∀ a, a < 0 → ∀ b, b < 0 → a ≠ b → (TJ9 a).2.1 ≠ (TJ9 b).2.1 := by decide +kernel
theorem tyJ9_ok : ∀ k, k < 0 → parseFieldDescriptor (TJ9 k).2.2.1 = some (tyJ9 k) := by decide +kernel
abbrev cJ9_floorMod_7cf53 : ByteArray := prog_18_method_50_code
def yJ9_floorMod_7cf53 : MethodName := ⟨RJ9, "floorMod", "(II)I"⟩
abbrev cJ9_max_7cf53 : ByteArray := prog_18_method_65_code
def yJ9_max_7cf53 : MethodName := ⟨RJ9, "max", "(II)I"⟩
abbrev cJ9_min_7cf53 : ByteArray := prog_18_method_69_code
def yJ9_min_7cf53 : MethodName := ⟨RJ9, "min", "(II)I"⟩
def RJ10 : String := "java/lang/System"
def TJ10 : u_T := fun k => match k with
  | _ => ("", "", "", false)
def tyJ10 : Nat → FieldType := fun k => match k with
  | _ => .int
theorem nmJ10 : ∀ a, a < 0 → ∀ b, b < 0 → a ≠ b → (TJ10 a).2.1 ≠ (TJ10 b).2.1 := by decide +kernel
theorem tyJ10_ok : ∀ k, k < 0 → parseFieldDescriptor (TJ10 k).2.2.1 = some (tyJ10 k) := by decide +kernel
def RJxa1e45 : String := "java/util/AbstractCollection"
def TJxa1e45 : u_T := fun k => match k with
  | _ => ("", "", "", false)
def tyJxa1e45 : Nat → FieldType := fun k => match k with
  | _ => .int
theorem nmJxa1e45 : ∀ a, a < 0 → ∀ b, b < 0 → a ≠ b → (TJxa1e45 a).2.1 ≠ (TJxa1e45 b).2.1 := by decide +kernel
theorem tyJxa1e45_ok : ∀ k, k < 0 → parseFieldDescriptor (TJxa1e45 k).2.2.1 = some (tyJxa1e45 k) := by decide +kernel
abbrev cJxa1e45_init_da8c8 : ByteArray := prog_20_method_1_code
def yJxa1e45_init_da8c8 : MethodName := ⟨RJxa1e45, "<init>", "()V"⟩
def RJxc12de : String := "java/util/AbstractList"
def TJxc12de : u_T := fun k => match k with
  | _ => ("", "", "", false)
def tyJxc12de : Nat → FieldType := fun k => match k with
  | _ => .int
theorem nmJxc12de : ∀ a, a < 0 → ∀ b, b < 0 → a ≠ b → (TJxc12de a).2.1 ≠ (TJxc12de b).2.1 := by decide +kernel
theorem tyJxc12de_ok : ∀ k, k < 0 → parseFieldDescriptor (TJxc12de k).2.2.1 = some (tyJxc12de k) := by decide +kernel
abbrev cJxc12de_init_da8c8 : ByteArray := prog_21_method_1_code
def yJxc12de_init_da8c8 : MethodName := ⟨RJxc12de, "<init>", "()V"⟩
def RJx4a65c : String := "java/util/ArrayList"
def TJx4a65c : u_T := fun k => match k with
  | 0 => ("java/util/AbstractList", "modCount", "I", false)
  | 1 => ("java/util/ArrayList", "elementData", "[Ljava/lang/Object;", false)
  | _ => ("java/util/ArrayList", "size", "I", false)
def tyJx4a65c : Nat → FieldType := fun k => match k with
  | 0 => .int
  | 1 => .array (.object "java/lang/Object")
  | _ => .int
theorem nmJx4a65c : ∀ a, a < 3 → ∀ b, b < 3 → a ≠ b → (TJx4a65c a).2.1 ≠ (TJx4a65c b).2.1 := by decide +kernel
theorem tyJx4a65c_ok : ∀ k, k < 3 → parseFieldDescriptor (TJx4a65c k).2.2.1 = some (tyJx4a65c k) := by decide +kernel
abbrev cJx4a65c_init_da8c8 : ByteArray := prog_22_method_2_code
def yJx4a65c_init_da8c8 : MethodName := ⟨RJx4a65c, "<init>", "()V"⟩
abbrev cJx4a65c_grow_92f84 : ByteArray := prog_22_method_6_code
def yJx4a65c_grow_92f84 : MethodName := ⟨RJx4a65c, "grow", "(I)[Ljava/lang/Object;"⟩
abbrev cJx4a65c_grow_d5877 : ByteArray := prog_22_method_7_code
def yJx4a65c_grow_d5877 : MethodName := ⟨RJx4a65c, "grow", "()[Ljava/lang/Object;"⟩
abbrev cJx4a65c_size_8abf5 : ByteArray := prog_22_method_8_code
def yJx4a65c_size_8abf5 : MethodName := ⟨RJx4a65c, "size", "()I"⟩
abbrev cJx4a65c_isEmpty_aae02 : ByteArray := prog_22_method_9_code
def yJx4a65c_isEmpty_aae02 : MethodName := ⟨RJx4a65c, "isEmpty", "()Z"⟩
abbrev cJx4a65c_elementData_915e3 : ByteArray := prog_22_method_18_code
def yJx4a65c_elementData_915e3 : MethodName := ⟨RJx4a65c, "elementData", "(I)Ljava/lang/Object;"⟩
abbrev cJx4a65c_get_915e3 : ByteArray := prog_22_method_20_code
def yJx4a65c_get_915e3 : MethodName := ⟨RJx4a65c, "get", "(I)Ljava/lang/Object;"⟩
abbrev cJx4a65c_add_72be8 : ByteArray := prog_22_method_24_code
def yJx4a65c_add_72be8 : MethodName := ⟨RJx4a65c, "add", "(Ljava/lang/Object;[Ljava/lang/Object;I)V"⟩
abbrev cJx4a65c_add_9ea2d : ByteArray := prog_22_method_25_code
def yJx4a65c_add_9ea2d : MethodName := ⟨RJx4a65c, "add", "(Ljava/lang/Object;)Z"⟩
abbrev cJx4a65c_remove_915e3 : ByteArray := prog_22_method_29_code
def yJx4a65c_remove_915e3 : MethodName := ⟨RJx4a65c, "remove", "(I)Ljava/lang/Object;"⟩
abbrev cJx4a65c_fastRemove_b59b0 : ByteArray := prog_22_method_39_code
def yJx4a65c_fastRemove_b59b0 : MethodName := ⟨RJx4a65c, "fastRemove", "([Ljava/lang/Object;I)V"⟩
def RJ7 : String := "java/util/Arrays"
def TJ7 : u_T := fun k => match k with
  | _ => ("", "", "", false)
def tyJ7 : Nat → FieldType := fun k => match k with
  | _ => .int
theorem nmJ7 : ∀ a, a < 0 → ∀ b, b < 0 → a ≠ b → (TJ7 a).2.1 ≠ (TJ7 b).2.1 := by decide +kernel
theorem tyJ7_ok : ∀ k, k < 0 → parseFieldDescriptor (TJ7 k).2.2.1 = some (tyJ7 k) := by decide +kernel
abbrev cJ7_copyOf_1904c : ByteArray := prog_23_method_119_code
def yJ7_copyOf_1904c : MethodName := ⟨RJ7, "copyOf", "([Ljava/lang/Object;I)[Ljava/lang/Object;"⟩
abbrev cJ7_copyOf_6403c : ByteArray := prog_23_method_120_code
def yJ7_copyOf_6403c : MethodName := ⟨RJ7, "copyOf", "([Ljava/lang/Object;ILjava/lang/Class;)[Ljava/lang/Object;"⟩
def RJ15 : String := "java/util/Objects"
def TJ15 : u_T := fun k => match k with
  | _ => ("", "", "", false)
def tyJ15 : Nat → FieldType := fun k => match k with
  | _ => .int
theorem nmJ15 : ∀ a, a < 0 → ∀ b, b < 0 → a ≠ b → (TJ15 a).2.1 ≠ (TJ15 b).2.1 := by decide +kernel
theorem tyJ15_ok : ∀ k, k < 0 → parseFieldDescriptor (TJ15 k).2.2.1 = some (tyJ15 k) := by decide +kernel
abbrev cJ15_checkIndex_7cf53 : ByteArray := prog_26_method_17_code
def yJ15_checkIndex_7cf53 : MethodName := ⟨RJ15, "checkIndex", "(II)I"⟩
def RJ8 : String := "jdk/internal/util/ArraysSupport"
def TJ8 : u_T := fun k => match k with
  | _ => ("", "", "", false)
def tyJ8 : Nat → FieldType := fun k => match k with
  | _ => .int
theorem nmJ8 : ∀ a, a < 0 → ∀ b, b < 0 → a ≠ b → (TJ8 a).2.1 ≠ (TJ8 b).2.1 := by decide +kernel
theorem tyJ8_ok : ∀ k, k < 0 → parseFieldDescriptor (TJ8 k).2.2.1 = some (tyJ8 k) := by decide +kernel
abbrev cJ8_newLength_cabcc : ByteArray := prog_29_method_27_code
def yJ8_newLength_cabcc : MethodName := ⟨RJ8, "newLength", "(III)I"⟩
abbrev cJ8_hugeLength_7cf53 : ByteArray := prog_29_method_28_code
def yJ8_hugeLength_7cf53 : MethodName := ⟨RJ8, "hugeLength", "(II)I"⟩
def RJ3 : String := "jdk/internal/util/Preconditions"
def TJ3 : u_T := fun k => match k with
  | _ => ("", "", "", false)
def tyJ3 : Nat → FieldType := fun k => match k with
  | _ => .int
theorem nmJ3 : ∀ a, a < 0 → ∀ b, b < 0 → a ≠ b → (TJ3 a).2.1 ≠ (TJ3 b).2.1 := by decide +kernel
theorem tyJ3_ok : ∀ k, k < 0 → parseFieldDescriptor (TJ3 k).2.2.1 = some (tyJ3 k) := by decide +kernel
abbrev cJ3_checkIndex_8e157 : ByteArray := prog_30_method_11_code
def yJ3_checkIndex_8e157 : MethodName := ⟨RJ3, "checkIndex", "(IILjava/util/function/BiFunction;)I"⟩
def RL : String := "LeaseBoardLaw"
abbrev cL_cell : ByteArray := method_2_code
def yL_cell : MethodName := ⟨RL, "cell", "([II)I"⟩
abbrev cL_law : ByteArray := code
def yL_law : MethodName := ⟨RL, "law", "([I)Z"⟩
abbrev vwCl : List vw_C := [(RJx4a65c, TJx4a65c, 3), (RX0, TX0, 6), (RX1, TX1, 5), (RX2, TX2, 10), (RX3, TX3, 6), (RX4, TX4, 5), (RX5, TX5, 3), (RX6, TX6, 6), (RX7, TX7, 5), (RX8, TX8, 4), (RX9, TX9, 9), (RX10, TX10, 5), (RX11, TX11, 18), (RX12, TX12, 59)]
end
section
theorem dJ9_floorMod_7cf53_0 : decode cJ9_floorMod_7cf53 0 = .ok (.iload_n 0, 1) := by decide +kernel
theorem dJ9_floorMod_7cf53_1 : decode cJ9_floorMod_7cf53 1 = .ok (.iload_n 1, 1) := by decide +kernel
theorem dJ9_floorMod_7cf53_2 : decode cJ9_floorMod_7cf53 2 = .ok (.irem, 1) := by decide +kernel
theorem dJ9_floorMod_7cf53_3 : decode cJ9_floorMod_7cf53 3 = .ok (.istore_n 2, 1) := by decide +kernel
theorem dJ9_floorMod_7cf53_4 : decode cJ9_floorMod_7cf53 4 = .ok (.iload_n 0, 1) := by decide +kernel
theorem dJ9_floorMod_7cf53_5 : decode cJ9_floorMod_7cf53 5 = .ok (.iload_n 1, 1) := by decide +kernel
theorem dJ9_floorMod_7cf53_6 : decode cJ9_floorMod_7cf53 6 = .ok (.ixor, 1) := by decide +kernel
theorem dJ9_floorMod_7cf53_7 : decode cJ9_floorMod_7cf53 7 = .ok (.ifCond .ge 11, 3) := by decide +kernel
theorem dJ9_floorMod_7cf53_10 : decode cJ9_floorMod_7cf53 10 = .ok (.iload_n 2, 1) := by decide +kernel
theorem dJ9_floorMod_7cf53_11 : decode cJ9_floorMod_7cf53 11 = .ok (.ifCond .eq 7, 3) := by decide +kernel
theorem dJ9_floorMod_7cf53_14 : decode cJ9_floorMod_7cf53 14 = .ok (.iload_n 2, 1) := by decide +kernel
theorem dJ9_floorMod_7cf53_15 : decode cJ9_floorMod_7cf53 15 = .ok (.iload_n 1, 1) := by decide +kernel
theorem dJ9_floorMod_7cf53_16 : decode cJ9_floorMod_7cf53 16 = .ok (.iadd, 1) := by decide +kernel
theorem dJ9_floorMod_7cf53_17 : decode cJ9_floorMod_7cf53 17 = .ok (.ireturn, 1) := by decide +kernel
theorem dJ9_floorMod_7cf53_18 : decode cJ9_floorMod_7cf53 18 = .ok (.iload_n 2, 1) := by decide +kernel
theorem dJ9_floorMod_7cf53_19 : decode cJ9_floorMod_7cf53 19 = .ok (.ireturn, 1) := by decide +kernel
theorem dJ9_max_7cf53_0 : decode cJ9_max_7cf53 0 = .ok (.iload_n 0, 1) := by decide +kernel
theorem dJ9_max_7cf53_1 : decode cJ9_max_7cf53 1 = .ok (.iload_n 1, 1) := by decide +kernel
theorem dJ9_max_7cf53_2 : decode cJ9_max_7cf53 2 = .ok (.if_icmp .lt 7, 3) := by decide +kernel
theorem dJ9_max_7cf53_5 : decode cJ9_max_7cf53 5 = .ok (.iload_n 0, 1) := by decide +kernel
theorem dJ9_max_7cf53_6 : decode cJ9_max_7cf53 6 = .ok (.goto 4, 3) := by decide +kernel
theorem dJ9_max_7cf53_9 : decode cJ9_max_7cf53 9 = .ok (.iload_n 1, 1) := by decide +kernel
theorem dJ9_max_7cf53_10 : decode cJ9_max_7cf53 10 = .ok (.ireturn, 1) := by decide +kernel
theorem dJ9_min_7cf53_0 : decode cJ9_min_7cf53 0 = .ok (.iload_n 0, 1) := by decide +kernel
theorem dJ9_min_7cf53_1 : decode cJ9_min_7cf53 1 = .ok (.iload_n 1, 1) := by decide +kernel
theorem dJ9_min_7cf53_2 : decode cJ9_min_7cf53 2 = .ok (.if_icmp .gt 7, 3) := by decide +kernel
theorem dJ9_min_7cf53_5 : decode cJ9_min_7cf53 5 = .ok (.iload_n 0, 1) := by decide +kernel
theorem dJ9_min_7cf53_6 : decode cJ9_min_7cf53 6 = .ok (.goto 4, 3) := by decide +kernel
theorem dJ9_min_7cf53_9 : decode cJ9_min_7cf53 9 = .ok (.iload_n 1, 1) := by decide +kernel
theorem dJ9_min_7cf53_10 : decode cJ9_min_7cf53 10 = .ok (.ireturn, 1) := by decide +kernel
theorem dJxa1e45_init_da8c8_0 : decode cJxa1e45_init_da8c8 0 = .ok (.aload_n 0, 1) := by decide +kernel
theorem dJxa1e45_init_da8c8_1 : decode cJxa1e45_init_da8c8 1 = .ok (.invokespecial 1, 3) := by decide +kernel
theorem dJxa1e45_init_da8c8_4 : decode cJxa1e45_init_da8c8 4 = .ok (.return_, 1) := by decide +kernel
theorem dJxc12de_init_da8c8_0 : decode cJxc12de_init_da8c8 0 = .ok (.aload_n 0, 1) := by decide +kernel
theorem dJxc12de_init_da8c8_1 : decode cJxc12de_init_da8c8 1 = .ok (.invokespecial 1, 3) := by decide +kernel
theorem dJxc12de_init_da8c8_4 : decode cJxc12de_init_da8c8 4 = .ok (.aload_n 0, 1) := by decide +kernel
theorem dJxc12de_init_da8c8_5 : decode cJxc12de_init_da8c8 5 = .ok (.iconst 0, 1) := by decide +kernel
theorem dJxc12de_init_da8c8_6 : decode cJxc12de_init_da8c8 6 = .ok (.putfield 7, 3) := by decide +kernel
theorem dJxc12de_init_da8c8_9 : decode cJxc12de_init_da8c8 9 = .ok (.return_, 1) := by decide +kernel
theorem dJx4a65c_init_da8c8_0 : decode cJx4a65c_init_da8c8 0 = .ok (.aload_n 0, 1) := by decide +kernel
theorem dJx4a65c_init_da8c8_1 : decode cJx4a65c_init_da8c8 1 = .ok (.invokespecial 1, 3) := by decide +kernel
theorem dJx4a65c_init_da8c8_4 : decode cJx4a65c_init_da8c8 4 = .ok (.aload_n 0, 1) := by decide +kernel
theorem dJx4a65c_init_da8c8_5 : decode cJx4a65c_init_da8c8 5 = .ok (.getstatic 39, 3) := by decide +kernel
theorem dJx4a65c_init_da8c8_8 : decode cJx4a65c_init_da8c8 8 = .ok (.putfield 9, 3) := by decide +kernel
theorem dJx4a65c_init_da8c8_11 : decode cJx4a65c_init_da8c8 11 = .ok (.return_, 1) := by decide +kernel
theorem dJx4a65c_grow_92f84_0 : decode cJx4a65c_grow_92f84 0 = .ok (.aload_n 0, 1) := by decide +kernel
theorem dJx4a65c_grow_92f84_1 : decode cJx4a65c_grow_92f84 1 = .ok (.getfield 9, 3) := by decide +kernel
theorem dJx4a65c_grow_92f84_4 : decode cJx4a65c_grow_92f84 4 = .ok (.arraylength, 1) := by decide +kernel
theorem dJx4a65c_grow_92f84_5 : decode cJx4a65c_grow_92f84 5 = .ok (.istore_n 2, 1) := by decide +kernel
theorem dJx4a65c_grow_92f84_6 : decode cJx4a65c_grow_92f84 6 = .ok (.iload_n 2, 1) := by decide +kernel
theorem dJx4a65c_grow_92f84_7 : decode cJx4a65c_grow_92f84 7 = .ok (.ifCond .gt 13, 3) := by decide +kernel
theorem dJx4a65c_grow_92f84_10 : decode cJx4a65c_grow_92f84 10 = .ok (.aload_n 0, 1) := by decide +kernel
theorem dJx4a65c_grow_92f84_11 : decode cJx4a65c_grow_92f84 11 = .ok (.getfield 9, 3) := by decide +kernel
theorem dJx4a65c_grow_92f84_14 : decode cJx4a65c_grow_92f84 14 = .ok (.getstatic 39, 3) := by decide +kernel
theorem dJx4a65c_grow_92f84_17 : decode cJx4a65c_grow_92f84 17 = .ok (.if_acmp .eq 28, 3) := by decide +kernel
theorem dJx4a65c_grow_92f84_20 : decode cJx4a65c_grow_92f84 20 = .ok (.iload_n 2, 1) := by decide +kernel
theorem dJx4a65c_grow_92f84_21 : decode cJx4a65c_grow_92f84 21 = .ok (.iload_n 1, 1) := by decide +kernel
theorem dJx4a65c_grow_92f84_22 : decode cJx4a65c_grow_92f84 22 = .ok (.iload_n 2, 1) := by decide +kernel
theorem dJx4a65c_grow_92f84_23 : decode cJx4a65c_grow_92f84 23 = .ok (.isub, 1) := by decide +kernel
theorem dJx4a65c_grow_92f84_24 : decode cJx4a65c_grow_92f84 24 = .ok (.iload_n 2, 1) := by decide +kernel
theorem dJx4a65c_grow_92f84_25 : decode cJx4a65c_grow_92f84 25 = .ok (.iconst 1, 1) := by decide +kernel
theorem dJx4a65c_grow_92f84_26 : decode cJx4a65c_grow_92f84 26 = .ok (.ishr, 1) := by decide +kernel
theorem dJx4a65c_grow_92f84_27 : decode cJx4a65c_grow_92f84 27 = .ok (.invokestatic 73, 3) := by decide +kernel
theorem dJx4a65c_grow_92f84_30 : decode cJx4a65c_grow_92f84 30 = .ok (.istore_n 3, 1) := by decide +kernel
theorem dJx4a65c_grow_92f84_31 : decode cJx4a65c_grow_92f84 31 = .ok (.aload_n 0, 1) := by decide +kernel
theorem dJx4a65c_grow_92f84_32 : decode cJx4a65c_grow_92f84 32 = .ok (.aload_n 0, 1) := by decide +kernel
theorem dJx4a65c_grow_92f84_33 : decode cJx4a65c_grow_92f84 33 = .ok (.getfield 9, 3) := by decide +kernel
theorem dJx4a65c_grow_92f84_36 : decode cJx4a65c_grow_92f84 36 = .ok (.iload_n 3, 1) := by decide +kernel
theorem dJx4a65c_grow_92f84_37 : decode cJx4a65c_grow_92f84 37 = .ok (.invokestatic 66, 3) := by decide +kernel
theorem dJx4a65c_grow_92f84_40 : decode cJx4a65c_grow_92f84 40 = .ok (.dup_x1, 1) := by decide +kernel
theorem dJx4a65c_grow_92f84_41 : decode cJx4a65c_grow_92f84 41 = .ok (.putfield 9, 3) := by decide +kernel
theorem dJx4a65c_grow_92f84_44 : decode cJx4a65c_grow_92f84 44 = .ok (.areturn, 1) := by decide +kernel
theorem dJx4a65c_grow_92f84_45 : decode cJx4a65c_grow_92f84 45 = .ok (.aload_n 0, 1) := by decide +kernel
theorem dJx4a65c_grow_92f84_46 : decode cJx4a65c_grow_92f84 46 = .ok (.bipush 10, 2) := by decide +kernel
theorem dJx4a65c_grow_92f84_48 : decode cJx4a65c_grow_92f84 48 = .ok (.iload_n 1, 1) := by decide +kernel
theorem dJx4a65c_grow_92f84_49 : decode cJx4a65c_grow_92f84 49 = .ok (.invokestatic 79, 3) := by decide +kernel
theorem dJx4a65c_grow_92f84_52 : decode cJx4a65c_grow_92f84 52 = .ok (.anewarray 7, 3) := by decide +kernel
theorem dJx4a65c_grow_92f84_55 : decode cJx4a65c_grow_92f84 55 = .ok (.dup_x1, 1) := by decide +kernel
theorem dJx4a65c_grow_92f84_56 : decode cJx4a65c_grow_92f84 56 = .ok (.putfield 9, 3) := by decide +kernel
theorem dJx4a65c_grow_92f84_59 : decode cJx4a65c_grow_92f84 59 = .ok (.areturn, 1) := by decide +kernel
theorem dJx4a65c_grow_d5877_0 : decode cJx4a65c_grow_d5877 0 = .ok (.aload_n 0, 1) := by decide +kernel
theorem dJx4a65c_grow_d5877_1 : decode cJx4a65c_grow_d5877 1 = .ok (.aload_n 0, 1) := by decide +kernel
theorem dJx4a65c_grow_d5877_2 : decode cJx4a65c_grow_d5877 2 = .ok (.getfield 48, 3) := by decide +kernel
theorem dJx4a65c_grow_d5877_5 : decode cJx4a65c_grow_d5877 5 = .ok (.iconst 1, 1) := by decide +kernel
theorem dJx4a65c_grow_d5877_6 : decode cJx4a65c_grow_d5877 6 = .ok (.iadd, 1) := by decide +kernel
theorem dJx4a65c_grow_d5877_7 : decode cJx4a65c_grow_d5877 7 = .ok (.invokevirtual 69, 3) := by decide +kernel
theorem dJx4a65c_grow_d5877_10 : decode cJx4a65c_grow_d5877 10 = .ok (.areturn, 1) := by decide +kernel
theorem dJx4a65c_size_8abf5_0 : decode cJx4a65c_size_8abf5 0 = .ok (.aload_n 0, 1) := by decide +kernel
theorem dJx4a65c_size_8abf5_1 : decode cJx4a65c_size_8abf5 1 = .ok (.getfield 48, 3) := by decide +kernel
theorem dJx4a65c_size_8abf5_4 : decode cJx4a65c_size_8abf5 4 = .ok (.ireturn, 1) := by decide +kernel
theorem dJx4a65c_isEmpty_aae02_0 : decode cJx4a65c_isEmpty_aae02 0 = .ok (.aload_n 0, 1) := by decide +kernel
theorem dJx4a65c_isEmpty_aae02_1 : decode cJx4a65c_isEmpty_aae02 1 = .ok (.getfield 48, 3) := by decide +kernel
theorem dJx4a65c_isEmpty_aae02_4 : decode cJx4a65c_isEmpty_aae02 4 = .ok (.ifCond .ne 7, 3) := by decide +kernel
theorem dJx4a65c_isEmpty_aae02_7 : decode cJx4a65c_isEmpty_aae02 7 = .ok (.iconst 1, 1) := by decide +kernel
theorem dJx4a65c_isEmpty_aae02_8 : decode cJx4a65c_isEmpty_aae02 8 = .ok (.goto 4, 3) := by decide +kernel
theorem dJx4a65c_isEmpty_aae02_11 : decode cJx4a65c_isEmpty_aae02 11 = .ok (.iconst 0, 1) := by decide +kernel
theorem dJx4a65c_isEmpty_aae02_12 : decode cJx4a65c_isEmpty_aae02 12 = .ok (.ireturn, 1) := by decide +kernel
theorem dJx4a65c_elementData_915e3_0 : decode cJx4a65c_elementData_915e3 0 = .ok (.aload_n 0, 1) := by decide +kernel
theorem dJx4a65c_elementData_915e3_1 : decode cJx4a65c_elementData_915e3 1 = .ok (.getfield 9, 3) := by decide +kernel
theorem dJx4a65c_elementData_915e3_4 : decode cJx4a65c_elementData_915e3 4 = .ok (.iload_n 1, 1) := by decide +kernel
theorem dJx4a65c_elementData_915e3_5 : decode cJx4a65c_elementData_915e3 5 = .ok (.aaload, 1) := by decide +kernel
theorem dJx4a65c_elementData_915e3_6 : decode cJx4a65c_elementData_915e3 6 = .ok (.areturn, 1) := by decide +kernel
theorem dJx4a65c_get_915e3_0 : decode cJx4a65c_get_915e3 0 = .ok (.iload_n 1, 1) := by decide +kernel
theorem dJx4a65c_get_915e3_1 : decode cJx4a65c_get_915e3 1 = .ok (.aload_n 0, 1) := by decide +kernel
theorem dJx4a65c_get_915e3_2 : decode cJx4a65c_get_915e3 2 = .ok (.getfield 48, 3) := by decide +kernel
theorem dJx4a65c_get_915e3_5 : decode cJx4a65c_get_915e3 5 = .ok (.invokestatic 118, 3) := by decide +kernel
theorem dJx4a65c_get_915e3_8 : decode cJx4a65c_get_915e3 8 = .ok (.pop, 1) := by decide +kernel
theorem dJx4a65c_get_915e3_9 : decode cJx4a65c_get_915e3 9 = .ok (.aload_n 0, 1) := by decide +kernel
theorem dJx4a65c_get_915e3_10 : decode cJx4a65c_get_915e3 10 = .ok (.iload_n 1, 1) := by decide +kernel
theorem dJx4a65c_get_915e3_11 : decode cJx4a65c_get_915e3 11 = .ok (.invokevirtual 123, 3) := by decide +kernel
theorem dJx4a65c_get_915e3_14 : decode cJx4a65c_get_915e3 14 = .ok (.areturn, 1) := by decide +kernel
theorem dJx4a65c_add_72be8_0 : decode cJx4a65c_add_72be8 0 = .ok (.iload_n 3, 1) := by decide +kernel
theorem dJx4a65c_add_72be8_1 : decode cJx4a65c_add_72be8 1 = .ok (.aload_n 2, 1) := by decide +kernel
theorem dJx4a65c_add_72be8_2 : decode cJx4a65c_add_72be8 2 = .ok (.arraylength, 1) := by decide +kernel
theorem dJx4a65c_add_72be8_3 : decode cJx4a65c_add_72be8 3 = .ok (.if_icmp .ne 8, 3) := by decide +kernel
theorem dJx4a65c_add_72be8_6 : decode cJx4a65c_add_72be8 6 = .ok (.aload_n 0, 1) := by decide +kernel
theorem dJx4a65c_add_72be8_7 : decode cJx4a65c_add_72be8 7 = .ok (.invokevirtual 129, 3) := by decide +kernel
theorem dJx4a65c_add_72be8_10 : decode cJx4a65c_add_72be8 10 = .ok (.astore_n 2, 1) := by decide +kernel
theorem dJx4a65c_add_72be8_11 : decode cJx4a65c_add_72be8 11 = .ok (.aload_n 2, 1) := by decide +kernel
theorem dJx4a65c_add_72be8_12 : decode cJx4a65c_add_72be8 12 = .ok (.iload_n 3, 1) := by decide +kernel
theorem dJx4a65c_add_72be8_13 : decode cJx4a65c_add_72be8 13 = .ok (.aload_n 1, 1) := by decide +kernel
theorem dJx4a65c_add_72be8_14 : decode cJx4a65c_add_72be8 14 = .ok (.aastore, 1) := by decide +kernel
theorem dJx4a65c_add_72be8_15 : decode cJx4a65c_add_72be8 15 = .ok (.aload_n 0, 1) := by decide +kernel
theorem dJx4a65c_add_72be8_16 : decode cJx4a65c_add_72be8 16 = .ok (.iload_n 3, 1) := by decide +kernel
theorem dJx4a65c_add_72be8_17 : decode cJx4a65c_add_72be8 17 = .ok (.iconst 1, 1) := by decide +kernel
theorem dJx4a65c_add_72be8_18 : decode cJx4a65c_add_72be8 18 = .ok (.iadd, 1) := by decide +kernel
theorem dJx4a65c_add_72be8_19 : decode cJx4a65c_add_72be8 19 = .ok (.putfield 48, 3) := by decide +kernel
theorem dJx4a65c_add_72be8_22 : decode cJx4a65c_add_72be8 22 = .ok (.return_, 1) := by decide +kernel
theorem dJx4a65c_add_9ea2d_0 : decode cJx4a65c_add_9ea2d 0 = .ok (.aload_n 0, 1) := by decide +kernel
theorem dJx4a65c_add_9ea2d_1 : decode cJx4a65c_add_9ea2d 1 = .ok (.dup, 1) := by decide +kernel
theorem dJx4a65c_add_9ea2d_2 : decode cJx4a65c_add_9ea2d 2 = .ok (.getfield 63, 3) := by decide +kernel
theorem dJx4a65c_add_9ea2d_5 : decode cJx4a65c_add_9ea2d 5 = .ok (.iconst 1, 1) := by decide +kernel
theorem dJx4a65c_add_9ea2d_6 : decode cJx4a65c_add_9ea2d 6 = .ok (.iadd, 1) := by decide +kernel
theorem dJx4a65c_add_9ea2d_7 : decode cJx4a65c_add_9ea2d 7 = .ok (.putfield 63, 3) := by decide +kernel
theorem dJx4a65c_add_9ea2d_10 : decode cJx4a65c_add_9ea2d 10 = .ok (.aload_n 0, 1) := by decide +kernel
theorem dJx4a65c_add_9ea2d_11 : decode cJx4a65c_add_9ea2d 11 = .ok (.aload_n 1, 1) := by decide +kernel
theorem dJx4a65c_add_9ea2d_12 : decode cJx4a65c_add_9ea2d 12 = .ok (.aload_n 0, 1) := by decide +kernel
theorem dJx4a65c_add_9ea2d_13 : decode cJx4a65c_add_9ea2d 13 = .ok (.getfield 9, 3) := by decide +kernel
theorem dJx4a65c_add_9ea2d_16 : decode cJx4a65c_add_9ea2d 16 = .ok (.aload_n 0, 1) := by decide +kernel
theorem dJx4a65c_add_9ea2d_17 : decode cJx4a65c_add_9ea2d 17 = .ok (.getfield 48, 3) := by decide +kernel
theorem dJx4a65c_add_9ea2d_20 : decode cJx4a65c_add_9ea2d 20 = .ok (.invokevirtual 131, 3) := by decide +kernel
theorem dJx4a65c_add_9ea2d_23 : decode cJx4a65c_add_9ea2d 23 = .ok (.iconst 1, 1) := by decide +kernel
theorem dJx4a65c_add_9ea2d_24 : decode cJx4a65c_add_9ea2d 24 = .ok (.ireturn, 1) := by decide +kernel
theorem dJx4a65c_remove_915e3_0 : decode cJx4a65c_remove_915e3 0 = .ok (.iload_n 1, 1) := by decide +kernel
theorem dJx4a65c_remove_915e3_1 : decode cJx4a65c_remove_915e3 1 = .ok (.aload_n 0, 1) := by decide +kernel
theorem dJx4a65c_remove_915e3_2 : decode cJx4a65c_remove_915e3 2 = .ok (.getfield 48, 3) := by decide +kernel
theorem dJx4a65c_remove_915e3_5 : decode cJx4a65c_remove_915e3 5 = .ok (.invokestatic 118, 3) := by decide +kernel
theorem dJx4a65c_remove_915e3_8 : decode cJx4a65c_remove_915e3 8 = .ok (.pop, 1) := by decide +kernel
theorem dJx4a65c_remove_915e3_9 : decode cJx4a65c_remove_915e3 9 = .ok (.aload_n 0, 1) := by decide +kernel
theorem dJx4a65c_remove_915e3_10 : decode cJx4a65c_remove_915e3 10 = .ok (.getfield 9, 3) := by decide +kernel
theorem dJx4a65c_remove_915e3_13 : decode cJx4a65c_remove_915e3 13 = .ok (.astore_n 2, 1) := by decide +kernel
theorem dJx4a65c_remove_915e3_14 : decode cJx4a65c_remove_915e3 14 = .ok (.aload_n 2, 1) := by decide +kernel
theorem dJx4a65c_remove_915e3_15 : decode cJx4a65c_remove_915e3 15 = .ok (.iload_n 1, 1) := by decide +kernel
theorem dJx4a65c_remove_915e3_16 : decode cJx4a65c_remove_915e3 16 = .ok (.aaload, 1) := by decide +kernel
theorem dJx4a65c_remove_915e3_17 : decode cJx4a65c_remove_915e3 17 = .ok (.astore_n 3, 1) := by decide +kernel
theorem dJx4a65c_remove_915e3_18 : decode cJx4a65c_remove_915e3 18 = .ok (.aload_n 0, 1) := by decide +kernel
theorem dJx4a65c_remove_915e3_19 : decode cJx4a65c_remove_915e3 19 = .ok (.aload_n 2, 1) := by decide +kernel
theorem dJx4a65c_remove_915e3_20 : decode cJx4a65c_remove_915e3 20 = .ok (.iload_n 1, 1) := by decide +kernel
theorem dJx4a65c_remove_915e3_21 : decode cJx4a65c_remove_915e3 21 = .ok (.invokevirtual 144, 3) := by decide +kernel
theorem dJx4a65c_remove_915e3_24 : decode cJx4a65c_remove_915e3 24 = .ok (.aload_n 3, 1) := by decide +kernel
theorem dJx4a65c_remove_915e3_25 : decode cJx4a65c_remove_915e3 25 = .ok (.areturn, 1) := by decide +kernel
theorem dJx4a65c_fastRemove_b59b0_0 : decode cJx4a65c_fastRemove_b59b0 0 = .ok (.aload_n 0, 1) := by decide +kernel
theorem dJx4a65c_fastRemove_b59b0_1 : decode cJx4a65c_fastRemove_b59b0 1 = .ok (.dup, 1) := by decide +kernel
theorem dJx4a65c_fastRemove_b59b0_2 : decode cJx4a65c_fastRemove_b59b0 2 = .ok (.getfield 63, 3) := by decide +kernel
theorem dJx4a65c_fastRemove_b59b0_5 : decode cJx4a65c_fastRemove_b59b0 5 = .ok (.iconst 1, 1) := by decide +kernel
theorem dJx4a65c_fastRemove_b59b0_6 : decode cJx4a65c_fastRemove_b59b0 6 = .ok (.iadd, 1) := by decide +kernel
theorem dJx4a65c_fastRemove_b59b0_7 : decode cJx4a65c_fastRemove_b59b0 7 = .ok (.putfield 63, 3) := by decide +kernel
theorem dJx4a65c_fastRemove_b59b0_10 : decode cJx4a65c_fastRemove_b59b0 10 = .ok (.aload_n 0, 1) := by decide +kernel
theorem dJx4a65c_fastRemove_b59b0_11 : decode cJx4a65c_fastRemove_b59b0 11 = .ok (.getfield 48, 3) := by decide +kernel
theorem dJx4a65c_fastRemove_b59b0_14 : decode cJx4a65c_fastRemove_b59b0 14 = .ok (.iconst 1, 1) := by decide +kernel
theorem dJx4a65c_fastRemove_b59b0_15 : decode cJx4a65c_fastRemove_b59b0 15 = .ok (.isub, 1) := by decide +kernel
theorem dJx4a65c_fastRemove_b59b0_16 : decode cJx4a65c_fastRemove_b59b0 16 = .ok (.dup, 1) := by decide +kernel
theorem dJx4a65c_fastRemove_b59b0_17 : decode cJx4a65c_fastRemove_b59b0 17 = .ok (.istore_n 3, 1) := by decide +kernel
theorem dJx4a65c_fastRemove_b59b0_18 : decode cJx4a65c_fastRemove_b59b0 18 = .ok (.iload_n 2, 1) := by decide +kernel
theorem dJx4a65c_fastRemove_b59b0_19 : decode cJx4a65c_fastRemove_b59b0 19 = .ok (.if_icmp .le 15, 3) := by decide +kernel
theorem dJx4a65c_fastRemove_b59b0_22 : decode cJx4a65c_fastRemove_b59b0 22 = .ok (.aload_n 1, 1) := by decide +kernel
theorem dJx4a65c_fastRemove_b59b0_23 : decode cJx4a65c_fastRemove_b59b0 23 = .ok (.iload_n 2, 1) := by decide +kernel
theorem dJx4a65c_fastRemove_b59b0_24 : decode cJx4a65c_fastRemove_b59b0 24 = .ok (.iconst 1, 1) := by decide +kernel
theorem dJx4a65c_fastRemove_b59b0_25 : decode cJx4a65c_fastRemove_b59b0 25 = .ok (.iadd, 1) := by decide +kernel
theorem dJx4a65c_fastRemove_b59b0_26 : decode cJx4a65c_fastRemove_b59b0 26 = .ok (.aload_n 1, 1) := by decide +kernel
theorem dJx4a65c_fastRemove_b59b0_27 : decode cJx4a65c_fastRemove_b59b0 27 = .ok (.iload_n 2, 1) := by decide +kernel
theorem dJx4a65c_fastRemove_b59b0_28 : decode cJx4a65c_fastRemove_b59b0 28 = .ok (.iload_n 3, 1) := by decide +kernel
theorem dJx4a65c_fastRemove_b59b0_29 : decode cJx4a65c_fastRemove_b59b0 29 = .ok (.iload_n 2, 1) := by decide +kernel
theorem dJx4a65c_fastRemove_b59b0_30 : decode cJx4a65c_fastRemove_b59b0 30 = .ok (.isub, 1) := by decide +kernel
theorem dJx4a65c_fastRemove_b59b0_31 : decode cJx4a65c_fastRemove_b59b0 31 = .ok (.invokestatic 112, 3) := by decide +kernel
theorem dJx4a65c_fastRemove_b59b0_34 : decode cJx4a65c_fastRemove_b59b0 34 = .ok (.aload_n 1, 1) := by decide +kernel
theorem dJx4a65c_fastRemove_b59b0_35 : decode cJx4a65c_fastRemove_b59b0 35 = .ok (.aload_n 0, 1) := by decide +kernel
theorem dJx4a65c_fastRemove_b59b0_36 : decode cJx4a65c_fastRemove_b59b0 36 = .ok (.iload_n 3, 1) := by decide +kernel
theorem dJx4a65c_fastRemove_b59b0_37 : decode cJx4a65c_fastRemove_b59b0 37 = .ok (.dup_x1, 1) := by decide +kernel
theorem dJx4a65c_fastRemove_b59b0_38 : decode cJx4a65c_fastRemove_b59b0 38 = .ok (.putfield 48, 3) := by decide +kernel
theorem dJx4a65c_fastRemove_b59b0_41 : decode cJx4a65c_fastRemove_b59b0 41 = .ok (.aconst_null, 1) := by decide +kernel
theorem dJx4a65c_fastRemove_b59b0_42 : decode cJx4a65c_fastRemove_b59b0 42 = .ok (.aastore, 1) := by decide +kernel
theorem dJx4a65c_fastRemove_b59b0_43 : decode cJx4a65c_fastRemove_b59b0 43 = .ok (.return_, 1) := by decide +kernel
theorem dJ7_copyOf_1904c_0 : decode cJ7_copyOf_1904c 0 = .ok (.aload_n 0, 1) := by decide +kernel
theorem dJ7_copyOf_1904c_1 : decode cJ7_copyOf_1904c 1 = .ok (.iload_n 1, 1) := by decide +kernel
theorem dJ7_copyOf_1904c_2 : decode cJ7_copyOf_1904c 2 = .ok (.aload_n 0, 1) := by decide +kernel
theorem dJ7_copyOf_1904c_3 : decode cJ7_copyOf_1904c 3 = .ok (.invokevirtual 86, 3) := by decide +kernel
theorem dJ7_copyOf_1904c_6 : decode cJ7_copyOf_1904c 6 = .ok (.invokestatic 300, 3) := by decide +kernel
theorem dJ7_copyOf_1904c_9 : decode cJ7_copyOf_1904c 9 = .ok (.areturn, 1) := by decide +kernel
theorem dJ7_copyOf_6403c_0 : decode cJ7_copyOf_6403c 0 = .ok (.aload_n 2, 1) := by decide +kernel
theorem dJ7_copyOf_6403c_1 : decode cJ7_copyOf_6403c 1 = .ok (.ldc 110, 2) := by decide +kernel
theorem dJ7_copyOf_6403c_3 : decode cJ7_copyOf_6403c 3 = .ok (.if_acmp .ne 10, 3) := by decide +kernel
theorem dJ7_copyOf_6403c_6 : decode cJ7_copyOf_6403c 6 = .ok (.iload_n 1, 1) := by decide +kernel
theorem dJ7_copyOf_6403c_7 : decode cJ7_copyOf_6403c 7 = .ok (.anewarray 2, 3) := by decide +kernel
theorem dJ7_copyOf_6403c_10 : decode cJ7_copyOf_6403c 10 = .ok (.goto 14, 3) := by decide +kernel
theorem dJ7_copyOf_6403c_13 : decode cJ7_copyOf_6403c 13 = .ok (.aload_n 2, 1) := by decide +kernel
theorem dJ7_copyOf_6403c_14 : decode cJ7_copyOf_6403c 14 = .ok (.invokevirtual 90, 3) := by decide +kernel
theorem dJ7_copyOf_6403c_17 : decode cJ7_copyOf_6403c 17 = .ok (.iload_n 1, 1) := by decide +kernel
theorem dJ7_copyOf_6403c_18 : decode cJ7_copyOf_6403c 18 = .ok (.invokestatic 95, 3) := by decide +kernel
theorem dJ7_copyOf_6403c_21 : decode cJ7_copyOf_6403c 21 = .ok (.checkcast 110, 3) := by decide +kernel
theorem dJ7_copyOf_6403c_24 : decode cJ7_copyOf_6403c 24 = .ok (.astore_n 3, 1) := by decide +kernel
theorem dJ7_copyOf_6403c_25 : decode cJ7_copyOf_6403c 25 = .ok (.aload_n 0, 1) := by decide +kernel
theorem dJ7_copyOf_6403c_26 : decode cJ7_copyOf_6403c 26 = .ok (.iconst 0, 1) := by decide +kernel
theorem dJ7_copyOf_6403c_27 : decode cJ7_copyOf_6403c 27 = .ok (.aload_n 3, 1) := by decide +kernel
theorem dJ7_copyOf_6403c_28 : decode cJ7_copyOf_6403c 28 = .ok (.iconst 0, 1) := by decide +kernel
theorem dJ7_copyOf_6403c_29 : decode cJ7_copyOf_6403c 29 = .ok (.aload_n 0, 1) := by decide +kernel
theorem dJ7_copyOf_6403c_30 : decode cJ7_copyOf_6403c 30 = .ok (.arraylength, 1) := by decide +kernel
theorem dJ7_copyOf_6403c_31 : decode cJ7_copyOf_6403c 31 = .ok (.iload_n 1, 1) := by decide +kernel
theorem dJ7_copyOf_6403c_32 : decode cJ7_copyOf_6403c 32 = .ok (.invokestatic 304, 3) := by decide +kernel
theorem dJ7_copyOf_6403c_35 : decode cJ7_copyOf_6403c 35 = .ok (.invokestatic 150, 3) := by decide +kernel
theorem dJ7_copyOf_6403c_38 : decode cJ7_copyOf_6403c 38 = .ok (.aload_n 3, 1) := by decide +kernel
theorem dJ7_copyOf_6403c_39 : decode cJ7_copyOf_6403c 39 = .ok (.areturn, 1) := by decide +kernel
theorem dJ15_checkIndex_7cf53_0 : decode cJ15_checkIndex_7cf53 0 = .ok (.iload_n 0, 1) := by decide +kernel
theorem dJ15_checkIndex_7cf53_1 : decode cJ15_checkIndex_7cf53 1 = .ok (.iload_n 1, 1) := by decide +kernel
theorem dJ15_checkIndex_7cf53_2 : decode cJ15_checkIndex_7cf53 2 = .ok (.aconst_null, 1) := by decide +kernel
theorem dJ15_checkIndex_7cf53_3 : decode cJ15_checkIndex_7cf53 3 = .ok (.invokestatic 105, 3) := by decide +kernel
theorem dJ15_checkIndex_7cf53_6 : decode cJ15_checkIndex_7cf53 6 = .ok (.ireturn, 1) := by decide +kernel
theorem dJ8_newLength_cabcc_0 : decode cJ8_newLength_cabcc 0 = .ok (.iload_n 0, 1) := by decide +kernel
theorem dJ8_newLength_cabcc_1 : decode cJ8_newLength_cabcc 1 = .ok (.iload_n 1, 1) := by decide +kernel
theorem dJ8_newLength_cabcc_2 : decode cJ8_newLength_cabcc 2 = .ok (.iload_n 2, 1) := by decide +kernel
theorem dJ8_newLength_cabcc_3 : decode cJ8_newLength_cabcc 3 = .ok (.invokestatic 194, 3) := by decide +kernel
theorem dJ8_newLength_cabcc_6 : decode cJ8_newLength_cabcc 6 = .ok (.iadd, 1) := by decide +kernel
theorem dJ8_newLength_cabcc_7 : decode cJ8_newLength_cabcc 7 = .ok (.istore_n 3, 1) := by decide +kernel
theorem dJ8_newLength_cabcc_8 : decode cJ8_newLength_cabcc 8 = .ok (.iconst 0, 1) := by decide +kernel
theorem dJ8_newLength_cabcc_9 : decode cJ8_newLength_cabcc 9 = .ok (.iload_n 3, 1) := by decide +kernel
theorem dJ8_newLength_cabcc_10 : decode cJ8_newLength_cabcc 10 = .ok (.if_icmp .ge 11, 3) := by decide +kernel
theorem dJ8_newLength_cabcc_13 : decode cJ8_newLength_cabcc 13 = .ok (.iload_n 3, 1) := by decide +kernel
theorem dJ8_newLength_cabcc_14 : decode cJ8_newLength_cabcc 14 = .ok (.ldc 200, 2) := by decide +kernel
theorem dJ8_newLength_cabcc_16 : decode cJ8_newLength_cabcc 16 = .ok (.if_icmp .gt 5, 3) := by decide +kernel
theorem dJ8_newLength_cabcc_19 : decode cJ8_newLength_cabcc 19 = .ok (.iload_n 3, 1) := by decide +kernel
theorem dJ8_newLength_cabcc_20 : decode cJ8_newLength_cabcc 20 = .ok (.ireturn, 1) := by decide +kernel
theorem dJ8_newLength_cabcc_21 : decode cJ8_newLength_cabcc 21 = .ok (.iload_n 0, 1) := by decide +kernel
theorem dJ8_newLength_cabcc_22 : decode cJ8_newLength_cabcc 22 = .ok (.iload_n 1, 1) := by decide +kernel
theorem dJ8_newLength_cabcc_23 : decode cJ8_newLength_cabcc 23 = .ok (.invokestatic 201, 3) := by decide +kernel
theorem dJ8_newLength_cabcc_26 : decode cJ8_newLength_cabcc 26 = .ok (.ireturn, 1) := by decide +kernel
theorem dJ8_hugeLength_7cf53_0 : decode cJ8_hugeLength_7cf53 0 = .ok (.iload_n 0, 1) := by decide +kernel
theorem dJ8_hugeLength_7cf53_1 : decode cJ8_hugeLength_7cf53 1 = .ok (.iload_n 1, 1) := by decide +kernel
theorem dJ8_hugeLength_7cf53_2 : decode cJ8_hugeLength_7cf53 2 = .ok (.iadd, 1) := by decide +kernel
theorem dJ8_hugeLength_7cf53_3 : decode cJ8_hugeLength_7cf53 3 = .ok (.istore_n 2, 1) := by decide +kernel
theorem dJ8_hugeLength_7cf53_4 : decode cJ8_hugeLength_7cf53 4 = .ok (.iload_n 2, 1) := by decide +kernel
theorem dJ8_hugeLength_7cf53_5 : decode cJ8_hugeLength_7cf53 5 = .ok (.ifCond .ge 44, 3) := by decide +kernel
theorem dJ8_hugeLength_7cf53_8 : decode cJ8_hugeLength_7cf53 8 = .ok (.new 204, 3) := by decide +kernel
theorem dJ8_hugeLength_7cf53_11 : decode cJ8_hugeLength_7cf53 11 = .ok (.dup, 1) := by decide +kernel
theorem dJ8_hugeLength_7cf53_12 : decode cJ8_hugeLength_7cf53 12 = .ok (.new 89, 3) := by decide +kernel
theorem dJ8_hugeLength_7cf53_15 : decode cJ8_hugeLength_7cf53 15 = .ok (.dup, 1) := by decide +kernel
theorem dJ8_hugeLength_7cf53_16 : decode cJ8_hugeLength_7cf53 16 = .ok (.invokespecial 91, 3) := by decide +kernel
theorem dJ8_hugeLength_7cf53_19 : decode cJ8_hugeLength_7cf53 19 = .ok (.ldc 206, 2) := by decide +kernel
theorem dJ8_hugeLength_7cf53_21 : decode cJ8_hugeLength_7cf53 21 = .ok (.invokevirtual 94, 3) := by decide +kernel
theorem dJ8_hugeLength_7cf53_24 : decode cJ8_hugeLength_7cf53 24 = .ok (.iload_n 0, 1) := by decide +kernel
theorem dJ8_hugeLength_7cf53_25 : decode cJ8_hugeLength_7cf53 25 = .ok (.invokevirtual 98, 3) := by decide +kernel
theorem dJ8_hugeLength_7cf53_28 : decode cJ8_hugeLength_7cf53 28 = .ok (.ldc 208, 2) := by decide +kernel
theorem dJ8_hugeLength_7cf53_30 : decode cJ8_hugeLength_7cf53 30 = .ok (.invokevirtual 94, 3) := by decide +kernel
theorem dJ8_hugeLength_7cf53_33 : decode cJ8_hugeLength_7cf53 33 = .ok (.iload_n 1, 1) := by decide +kernel
theorem dJ8_hugeLength_7cf53_34 : decode cJ8_hugeLength_7cf53 34 = .ok (.invokevirtual 98, 3) := by decide +kernel
theorem dJ8_hugeLength_7cf53_37 : decode cJ8_hugeLength_7cf53 37 = .ok (.ldc 210, 2) := by decide +kernel
theorem dJ8_hugeLength_7cf53_39 : decode cJ8_hugeLength_7cf53 39 = .ok (.invokevirtual 94, 3) := by decide +kernel
theorem dJ8_hugeLength_7cf53_42 : decode cJ8_hugeLength_7cf53 42 = .ok (.invokevirtual 101, 3) := by decide +kernel
theorem dJ8_hugeLength_7cf53_45 : decode cJ8_hugeLength_7cf53 45 = .ok (.invokespecial 212, 3) := by decide +kernel
theorem dJ8_hugeLength_7cf53_48 : decode cJ8_hugeLength_7cf53 48 = .ok (.athrow, 1) := by decide +kernel
theorem dJ8_hugeLength_7cf53_49 : decode cJ8_hugeLength_7cf53 49 = .ok (.iload_n 2, 1) := by decide +kernel
theorem dJ8_hugeLength_7cf53_50 : decode cJ8_hugeLength_7cf53 50 = .ok (.ldc 200, 2) := by decide +kernel
theorem dJ8_hugeLength_7cf53_52 : decode cJ8_hugeLength_7cf53 52 = .ok (.if_icmp .gt 6, 3) := by decide +kernel
theorem dJ8_hugeLength_7cf53_55 : decode cJ8_hugeLength_7cf53 55 = .ok (.ldc 200, 2) := by decide +kernel
theorem dJ8_hugeLength_7cf53_57 : decode cJ8_hugeLength_7cf53 57 = .ok (.ireturn, 1) := by decide +kernel
theorem dJ8_hugeLength_7cf53_58 : decode cJ8_hugeLength_7cf53 58 = .ok (.iload_n 2, 1) := by decide +kernel
theorem dJ8_hugeLength_7cf53_59 : decode cJ8_hugeLength_7cf53 59 = .ok (.ireturn, 1) := by decide +kernel
theorem dJ3_checkIndex_8e157_0 : decode cJ3_checkIndex_8e157 0 = .ok (.iload_n 0, 1) := by decide +kernel
theorem dJ3_checkIndex_8e157_1 : decode cJ3_checkIndex_8e157 1 = .ok (.ifCond .lt 8, 3) := by decide +kernel
theorem dJ3_checkIndex_8e157_4 : decode cJ3_checkIndex_8e157 4 = .ok (.iload_n 0, 1) := by decide +kernel
theorem dJ3_checkIndex_8e157_5 : decode cJ3_checkIndex_8e157 5 = .ok (.iload_n 1, 1) := by decide +kernel
theorem dJ3_checkIndex_8e157_6 : decode cJ3_checkIndex_8e157 6 = .ok (.if_icmp .lt 10, 3) := by decide +kernel
theorem dJ3_checkIndex_8e157_9 : decode cJ3_checkIndex_8e157 9 = .ok (.aload_n 2, 1) := by decide +kernel
theorem dJ3_checkIndex_8e157_10 : decode cJ3_checkIndex_8e157 10 = .ok (.iload_n 0, 1) := by decide +kernel
theorem dJ3_checkIndex_8e157_11 : decode cJ3_checkIndex_8e157 11 = .ok (.iload_n 1, 1) := by decide +kernel
theorem dJ3_checkIndex_8e157_12 : decode cJ3_checkIndex_8e157 12 = .ok (.invokestatic 95, 3) := by decide +kernel
theorem dJ3_checkIndex_8e157_15 : decode cJ3_checkIndex_8e157 15 = .ok (.athrow, 1) := by decide +kernel
theorem dJ3_checkIndex_8e157_16 : decode cJ3_checkIndex_8e157 16 = .ok (.iload_n 0, 1) := by decide +kernel
theorem dJ3_checkIndex_8e157_17 : decode cJ3_checkIndex_8e157 17 = .ok (.ireturn, 1) := by decide +kernel
end
section
theorem dX12_init_0 : decode cX12_init 0 = .ok (.aload_n 0, 1) := by decide +kernel
theorem dX12_init_1 : decode cX12_init 1 = .ok (.invokespecial 1, 3) := by decide +kernel
theorem dX12_init_4 : decode cX12_init 4 = .ok (.aload_n 0, 1) := by decide +kernel
theorem dX12_init_5 : decode cX12_init 5 = .ok (.iconst 5, 1) := by decide +kernel
theorem dX12_init_6 : decode cX12_init 6 = .ok (.newarray .int, 2) := by decide +kernel
theorem dX12_init_8 : decode cX12_init 8 = .ok (.putfield 7, 3) := by decide +kernel
theorem dX12_init_11 : decode cX12_init 11 = .ok (.aload_n 0, 1) := by decide +kernel
theorem dX12_init_12 : decode cX12_init 12 = .ok (.iconst 5, 1) := by decide +kernel
theorem dX12_init_13 : decode cX12_init 13 = .ok (.newarray .int, 2) := by decide +kernel
theorem dX12_init_15 : decode cX12_init 15 = .ok (.putfield 13, 3) := by decide +kernel
theorem dX12_init_18 : decode cX12_init 18 = .ok (.aload_n 0, 1) := by decide +kernel
theorem dX12_init_19 : decode cX12_init 19 = .ok (.iconst 5, 1) := by decide +kernel
theorem dX12_init_20 : decode cX12_init 20 = .ok (.newarray .boolean, 2) := by decide +kernel
theorem dX12_init_22 : decode cX12_init 22 = .ok (.putfield 16, 3) := by decide +kernel
theorem dX12_init_25 : decode cX12_init 25 = .ok (.aload_n 0, 1) := by decide +kernel
theorem dX12_init_26 : decode cX12_init 26 = .ok (.bipush 20, 2) := by decide +kernel
theorem dX12_init_28 : decode cX12_init 28 = .ok (.newarray .int, 2) := by decide +kernel
theorem dX12_init_30 : decode cX12_init 30 = .ok (.putfield 20, 3) := by decide +kernel
theorem dX12_init_33 : decode cX12_init 33 = .ok (.aload_n 0, 1) := by decide +kernel
theorem dX12_init_34 : decode cX12_init 34 = .ok (.bipush 20, 2) := by decide +kernel
theorem dX12_init_36 : decode cX12_init 36 = .ok (.newarray .int, 2) := by decide +kernel
theorem dX12_init_38 : decode cX12_init 38 = .ok (.putfield 23, 3) := by decide +kernel
theorem dX12_init_41 : decode cX12_init 41 = .ok (.aload_n 0, 1) := by decide +kernel
theorem dX12_init_42 : decode cX12_init 42 = .ok (.bipush 20, 2) := by decide +kernel
theorem dX12_init_44 : decode cX12_init 44 = .ok (.newarray .int, 2) := by decide +kernel
theorem dX12_init_46 : decode cX12_init 46 = .ok (.putfield 26, 3) := by decide +kernel
theorem dX12_init_49 : decode cX12_init 49 = .ok (.aload_n 0, 1) := by decide +kernel
theorem dX12_init_50 : decode cX12_init 50 = .ok (.bipush 20, 2) := by decide +kernel
theorem dX12_init_52 : decode cX12_init 52 = .ok (.newarray .boolean, 2) := by decide +kernel
theorem dX12_init_54 : decode cX12_init 54 = .ok (.putfield 29, 3) := by decide +kernel
theorem dX12_init_57 : decode cX12_init 57 = .ok (.aload_n 0, 1) := by decide +kernel
theorem dX12_init_58 : decode cX12_init 58 = .ok (.bipush 20, 2) := by decide +kernel
theorem dX12_init_60 : decode cX12_init 60 = .ok (.newarray .int, 2) := by decide +kernel
theorem dX12_init_62 : decode cX12_init 62 = .ok (.putfield 32, 3) := by decide +kernel
theorem dX12_init_65 : decode cX12_init 65 = .ok (.aload_n 0, 1) := by decide +kernel
theorem dX12_init_66 : decode cX12_init 66 = .ok (.bipush 20, 2) := by decide +kernel
theorem dX12_init_68 : decode cX12_init 68 = .ok (.newarray .int, 2) := by decide +kernel
theorem dX12_init_70 : decode cX12_init 70 = .ok (.putfield 35, 3) := by decide +kernel
theorem dX12_init_73 : decode cX12_init 73 = .ok (.aload_n 0, 1) := by decide +kernel
theorem dX12_init_74 : decode cX12_init 74 = .ok (.bipush 20, 2) := by decide +kernel
theorem dX12_init_76 : decode cX12_init 76 = .ok (.newarray .int, 2) := by decide +kernel
theorem dX12_init_78 : decode cX12_init 78 = .ok (.putfield 38, 3) := by decide +kernel
theorem dX12_init_81 : decode cX12_init 81 = .ok (.aload_n 0, 1) := by decide +kernel
theorem dX12_init_82 : decode cX12_init 82 = .ok (.bipush 20, 2) := by decide +kernel
theorem dX12_init_84 : decode cX12_init 84 = .ok (.newarray .int, 2) := by decide +kernel
theorem dX12_init_86 : decode cX12_init 86 = .ok (.putfield 41, 3) := by decide +kernel
theorem dX12_init_89 : decode cX12_init 89 = .ok (.aload_n 0, 1) := by decide +kernel
theorem dX12_init_90 : decode cX12_init 90 = .ok (.bipush 20, 2) := by decide +kernel
theorem dX12_init_92 : decode cX12_init 92 = .ok (.newarray .int, 2) := by decide +kernel
theorem dX12_init_94 : decode cX12_init 94 = .ok (.putfield 44, 3) := by decide +kernel
theorem dX12_init_97 : decode cX12_init 97 = .ok (.aload_n 0, 1) := by decide +kernel
theorem dX12_init_98 : decode cX12_init 98 = .ok (.sipush 160, 3) := by decide +kernel
theorem dX12_init_101 : decode cX12_init 101 = .ok (.newarray .int, 2) := by decide +kernel
theorem dX12_init_103 : decode cX12_init 103 = .ok (.putfield 47, 3) := by decide +kernel
theorem dX12_init_106 : decode cX12_init 106 = .ok (.aload_n 0, 1) := by decide +kernel
theorem dX12_init_107 : decode cX12_init 107 = .ok (.bipush 20, 2) := by decide +kernel
theorem dX12_init_109 : decode cX12_init 109 = .ok (.newarray .long, 2) := by decide +kernel
theorem dX12_init_111 : decode cX12_init 111 = .ok (.putfield 50, 3) := by decide +kernel
theorem dX12_init_114 : decode cX12_init 114 = .ok (.aload_n 0, 1) := by decide +kernel
theorem dX12_init_115 : decode cX12_init 115 = .ok (.bipush 20, 2) := by decide +kernel
theorem dX12_init_117 : decode cX12_init 117 = .ok (.newarray .long, 2) := by decide +kernel
theorem dX12_init_119 : decode cX12_init 119 = .ok (.putfield 54, 3) := by decide +kernel
theorem dX12_init_122 : decode cX12_init 122 = .ok (.aload_n 0, 1) := by decide +kernel
theorem dX12_init_123 : decode cX12_init 123 = .ok (.bipush 20, 2) := by decide +kernel
theorem dX12_init_125 : decode cX12_init 125 = .ok (.newarray .boolean, 2) := by decide +kernel
theorem dX12_init_127 : decode cX12_init 127 = .ok (.putfield 57, 3) := by decide +kernel
theorem dX12_init_130 : decode cX12_init 130 = .ok (.aload_n 0, 1) := by decide +kernel
theorem dX12_init_131 : decode cX12_init 131 = .ok (.bipush 20, 2) := by decide +kernel
theorem dX12_init_133 : decode cX12_init 133 = .ok (.newarray .int, 2) := by decide +kernel
theorem dX12_init_135 : decode cX12_init 135 = .ok (.putfield 60, 3) := by decide +kernel
theorem dX12_init_138 : decode cX12_init 138 = .ok (.aload_n 0, 1) := by decide +kernel
theorem dX12_init_139 : decode cX12_init 139 = .ok (.sipush 400, 3) := by decide +kernel
theorem dX12_init_142 : decode cX12_init 142 = .ok (.newarray .int, 2) := by decide +kernel
theorem dX12_init_144 : decode cX12_init 144 = .ok (.putfield 63, 3) := by decide +kernel
theorem dX12_init_147 : decode cX12_init 147 = .ok (.aload_n 0, 1) := by decide +kernel
theorem dX12_init_148 : decode cX12_init 148 = .ok (.sipush 400, 3) := by decide +kernel
theorem dX12_init_151 : decode cX12_init 151 = .ok (.newarray .int, 2) := by decide +kernel
theorem dX12_init_153 : decode cX12_init 153 = .ok (.putfield 66, 3) := by decide +kernel
theorem dX12_init_156 : decode cX12_init 156 = .ok (.aload_n 0, 1) := by decide +kernel
theorem dX12_init_157 : decode cX12_init 157 = .ok (.sipush 400, 3) := by decide +kernel
theorem dX12_init_160 : decode cX12_init 160 = .ok (.newarray .int, 2) := by decide +kernel
theorem dX12_init_162 : decode cX12_init 162 = .ok (.putfield 69, 3) := by decide +kernel
theorem dX12_init_165 : decode cX12_init 165 = .ok (.aload_n 0, 1) := by decide +kernel
theorem dX12_init_166 : decode cX12_init 166 = .ok (.sipush 400, 3) := by decide +kernel
theorem dX12_init_169 : decode cX12_init 169 = .ok (.newarray .long, 2) := by decide +kernel
theorem dX12_init_171 : decode cX12_init 171 = .ok (.putfield 72, 3) := by decide +kernel
theorem dX12_init_174 : decode cX12_init 174 = .ok (.aload_n 0, 1) := by decide +kernel
theorem dX12_init_175 : decode cX12_init 175 = .ok (.sipush 400, 3) := by decide +kernel
theorem dX12_init_178 : decode cX12_init 178 = .ok (.newarray .long, 2) := by decide +kernel
theorem dX12_init_180 : decode cX12_init 180 = .ok (.putfield 75, 3) := by decide +kernel
theorem dX12_init_183 : decode cX12_init 183 = .ok (.aload_n 0, 1) := by decide +kernel
theorem dX12_init_184 : decode cX12_init 184 = .ok (.iconst (-1), 1) := by decide +kernel
theorem dX12_init_185 : decode cX12_init 185 = .ok (.putfield 78, 3) := by decide +kernel
theorem dX12_init_188 : decode cX12_init 188 = .ok (.aload_n 0, 1) := by decide +kernel
theorem dX12_init_189 : decode cX12_init 189 = .ok (.sipush 400, 3) := by decide +kernel
theorem dX12_init_192 : decode cX12_init 192 = .ok (.newarray .boolean, 2) := by decide +kernel
theorem dX12_init_194 : decode cX12_init 194 = .ok (.putfield 82, 3) := by decide +kernel
theorem dX12_init_197 : decode cX12_init 197 = .ok (.aload_n 0, 1) := by decide +kernel
theorem dX12_init_198 : decode cX12_init 198 = .ok (.sipush 400, 3) := by decide +kernel
theorem dX12_init_201 : decode cX12_init 201 = .ok (.newarray .int, 2) := by decide +kernel
theorem dX12_init_203 : decode cX12_init 203 = .ok (.putfield 85, 3) := by decide +kernel
theorem dX12_init_206 : decode cX12_init 206 = .ok (.aload_n 0, 1) := by decide +kernel
theorem dX12_init_207 : decode cX12_init 207 = .ok (.sipush 400, 3) := by decide +kernel
theorem dX12_init_210 : decode cX12_init 210 = .ok (.newarray .int, 2) := by decide +kernel
theorem dX12_init_212 : decode cX12_init 212 = .ok (.putfield 88, 3) := by decide +kernel
theorem dX12_init_215 : decode cX12_init 215 = .ok (.aload_n 0, 1) := by decide +kernel
theorem dX12_init_216 : decode cX12_init 216 = .ok (.sipush 400, 3) := by decide +kernel
theorem dX12_init_219 : decode cX12_init 219 = .ok (.newarray .int, 2) := by decide +kernel
theorem dX12_init_221 : decode cX12_init 221 = .ok (.putfield 91, 3) := by decide +kernel
theorem dX12_init_224 : decode cX12_init 224 = .ok (.aload_n 0, 1) := by decide +kernel
theorem dX12_init_225 : decode cX12_init 225 = .ok (.sipush 400, 3) := by decide +kernel
theorem dX12_init_228 : decode cX12_init 228 = .ok (.newarray .long, 2) := by decide +kernel
theorem dX12_init_230 : decode cX12_init 230 = .ok (.putfield 94, 3) := by decide +kernel
theorem dX12_init_233 : decode cX12_init 233 = .ok (.aload_n 0, 1) := by decide +kernel
theorem dX12_init_234 : decode cX12_init 234 = .ok (.sipush 400, 3) := by decide +kernel
theorem dX12_init_237 : decode cX12_init 237 = .ok (.newarray .long, 2) := by decide +kernel
theorem dX12_init_239 : decode cX12_init 239 = .ok (.putfield 97, 3) := by decide +kernel
theorem dX12_init_242 : decode cX12_init 242 = .ok (.aload_n 0, 1) := by decide +kernel
theorem dX12_init_243 : decode cX12_init 243 = .ok (.sipush 400, 3) := by decide +kernel
theorem dX12_init_246 : decode cX12_init 246 = .ok (.newarray .int, 2) := by decide +kernel
theorem dX12_init_248 : decode cX12_init 248 = .ok (.putfield 100, 3) := by decide +kernel
theorem dX12_init_251 : decode cX12_init 251 = .ok (.aload_n 0, 1) := by decide +kernel
theorem dX12_init_252 : decode cX12_init 252 = .ok (.sipush 400, 3) := by decide +kernel
theorem dX12_init_255 : decode cX12_init 255 = .ok (.newarray .int, 2) := by decide +kernel
theorem dX12_init_257 : decode cX12_init 257 = .ok (.putfield 103, 3) := by decide +kernel
theorem dX12_init_260 : decode cX12_init 260 = .ok (.aload_n 0, 1) := by decide +kernel
theorem dX12_init_261 : decode cX12_init 261 = .ok (.sipush 400, 3) := by decide +kernel
theorem dX12_init_264 : decode cX12_init 264 = .ok (.newarray .int, 2) := by decide +kernel
theorem dX12_init_266 : decode cX12_init 266 = .ok (.putfield 106, 3) := by decide +kernel
theorem dX12_init_269 : decode cX12_init 269 = .ok (.aload_n 0, 1) := by decide +kernel
theorem dX12_init_270 : decode cX12_init 270 = .ok (.sipush 400, 3) := by decide +kernel
theorem dX12_init_273 : decode cX12_init 273 = .ok (.newarray .int, 2) := by decide +kernel
theorem dX12_init_275 : decode cX12_init 275 = .ok (.putfield 109, 3) := by decide +kernel
theorem dX12_init_278 : decode cX12_init 278 = .ok (.aload_n 0, 1) := by decide +kernel
theorem dX12_init_279 : decode cX12_init 279 = .ok (.sipush 400, 3) := by decide +kernel
theorem dX12_init_282 : decode cX12_init 282 = .ok (.newarray .int, 2) := by decide +kernel
theorem dX12_init_284 : decode cX12_init 284 = .ok (.putfield 112, 3) := by decide +kernel
theorem dX12_init_287 : decode cX12_init 287 = .ok (.aload_n 0, 1) := by decide +kernel
theorem dX12_init_288 : decode cX12_init 288 = .ok (.sipush 400, 3) := by decide +kernel
theorem dX12_init_291 : decode cX12_init 291 = .ok (.newarray .int, 2) := by decide +kernel
theorem dX12_init_293 : decode cX12_init 293 = .ok (.putfield 115, 3) := by decide +kernel
theorem dX12_init_296 : decode cX12_init 296 = .ok (.aload_n 0, 1) := by decide +kernel
theorem dX12_init_297 : decode cX12_init 297 = .ok (.sipush 400, 3) := by decide +kernel
theorem dX12_init_300 : decode cX12_init 300 = .ok (.newarray .int, 2) := by decide +kernel
theorem dX12_init_302 : decode cX12_init 302 = .ok (.putfield 118, 3) := by decide +kernel
theorem dX12_init_305 : decode cX12_init 305 = .ok (.aload_n 0, 1) := by decide +kernel
theorem dX12_init_306 : decode cX12_init 306 = .ok (.sipush 400, 3) := by decide +kernel
theorem dX12_init_309 : decode cX12_init 309 = .ok (.newarray .int, 2) := by decide +kernel
theorem dX12_init_311 : decode cX12_init 311 = .ok (.putfield 121, 3) := by decide +kernel
theorem dX12_init_314 : decode cX12_init 314 = .ok (.aload_n 0, 1) := by decide +kernel
theorem dX12_init_315 : decode cX12_init 315 = .ok (.sipush 400, 3) := by decide +kernel
theorem dX12_init_318 : decode cX12_init 318 = .ok (.newarray .long, 2) := by decide +kernel
theorem dX12_init_320 : decode cX12_init 320 = .ok (.putfield 124, 3) := by decide +kernel
theorem dX12_init_323 : decode cX12_init 323 = .ok (.aload_n 0, 1) := by decide +kernel
theorem dX12_init_324 : decode cX12_init 324 = .ok (.sipush 400, 3) := by decide +kernel
theorem dX12_init_327 : decode cX12_init 327 = .ok (.newarray .long, 2) := by decide +kernel
theorem dX12_init_329 : decode cX12_init 329 = .ok (.putfield 127, 3) := by decide +kernel
theorem dX12_init_332 : decode cX12_init 332 = .ok (.aload_n 0, 1) := by decide +kernel
theorem dX12_init_333 : decode cX12_init 333 = .ok (.bipush 120, 2) := by decide +kernel
theorem dX12_init_335 : decode cX12_init 335 = .ok (.newarray .long, 2) := by decide +kernel
theorem dX12_init_337 : decode cX12_init 337 = .ok (.putfield 130, 3) := by decide +kernel
theorem dX12_init_340 : decode cX12_init 340 = .ok (.aload_n 0, 1) := by decide +kernel
theorem dX12_init_341 : decode cX12_init 341 = .ok (.bipush 120, 2) := by decide +kernel
theorem dX12_init_343 : decode cX12_init 343 = .ok (.newarray .long, 2) := by decide +kernel
theorem dX12_init_345 : decode cX12_init 345 = .ok (.putfield 133, 3) := by decide +kernel
theorem dX12_init_348 : decode cX12_init 348 = .ok (.aload_n 0, 1) := by decide +kernel
theorem dX12_init_349 : decode cX12_init 349 = .ok (.bipush 6, 2) := by decide +kernel
theorem dX12_init_351 : decode cX12_init 351 = .ok (.newarray .int, 2) := by decide +kernel
theorem dX12_init_353 : decode cX12_init 353 = .ok (.putfield 136, 3) := by decide +kernel
theorem dX12_init_356 : decode cX12_init 356 = .ok (.aload_n 0, 1) := by decide +kernel
theorem dX12_init_357 : decode cX12_init 357 = .ok (.bipush 6, 2) := by decide +kernel
theorem dX12_init_359 : decode cX12_init 359 = .ok (.newarray .int, 2) := by decide +kernel
theorem dX12_init_361 : decode cX12_init 361 = .ok (.putfield 139, 3) := by decide +kernel
theorem dX12_init_364 : decode cX12_init 364 = .ok (.aload_n 0, 1) := by decide +kernel
theorem dX12_init_365 : decode cX12_init 365 = .ok (.bipush 6, 2) := by decide +kernel
theorem dX12_init_367 : decode cX12_init 367 = .ok (.newarray .int, 2) := by decide +kernel
theorem dX12_init_369 : decode cX12_init 369 = .ok (.putfield 142, 3) := by decide +kernel
theorem dX12_init_372 : decode cX12_init 372 = .ok (.aload_n 0, 1) := by decide +kernel
theorem dX12_init_373 : decode cX12_init 373 = .ok (.bipush 120, 2) := by decide +kernel
theorem dX12_init_375 : decode cX12_init 375 = .ok (.newarray .long, 2) := by decide +kernel
theorem dX12_init_377 : decode cX12_init 377 = .ok (.putfield 145, 3) := by decide +kernel
theorem dX12_init_380 : decode cX12_init 380 = .ok (.aload_n 0, 1) := by decide +kernel
theorem dX12_init_381 : decode cX12_init 381 = .ok (.iload_n 1, 1) := by decide +kernel
theorem dX12_init_382 : decode cX12_init 382 = .ok (.ifCond .ge 7, 3) := by decide +kernel
theorem dX12_init_385 : decode cX12_init 385 = .ok (.iconst 0, 1) := by decide +kernel
theorem dX12_init_386 : decode cX12_init 386 = .ok (.goto 15, 3) := by decide +kernel
theorem dX12_init_389 : decode cX12_init 389 = .ok (.iload_n 1, 1) := by decide +kernel
theorem dX12_init_390 : decode cX12_init 390 = .ok (.bipush 100, 2) := by decide +kernel
theorem dX12_init_392 : decode cX12_init 392 = .ok (.if_icmp .le 8, 3) := by decide +kernel
theorem dX12_init_395 : decode cX12_init 395 = .ok (.bipush 100, 2) := by decide +kernel
theorem dX12_init_397 : decode cX12_init 397 = .ok (.goto 4, 3) := by decide +kernel
theorem dX12_init_400 : decode cX12_init 400 = .ok (.iload_n 1, 1) := by decide +kernel
theorem dX12_init_401 : decode cX12_init 401 = .ok (.putfield 148, 3) := by decide +kernel
theorem dX12_init_404 : decode cX12_init 404 = .ok (.return_, 1) := by decide +kernel
theorem dX12_in_0 : decode cX12_in 0 = .ok (.iload_n 0, 1) := by decide +kernel
theorem dX12_in_1 : decode cX12_in 1 = .ok (.iload_n 1, 1) := by decide +kernel
theorem dX12_in_2 : decode cX12_in 2 = .ok (.if_icmp .lt 12, 3) := by decide +kernel
theorem dX12_in_5 : decode cX12_in 5 = .ok (.iload_n 0, 1) := by decide +kernel
theorem dX12_in_6 : decode cX12_in 6 = .ok (.iload_n 2, 1) := by decide +kernel
theorem dX12_in_7 : decode cX12_in 7 = .ok (.if_icmp .gt 7, 3) := by decide +kernel
theorem dX12_in_10 : decode cX12_in 10 = .ok (.iconst 1, 1) := by decide +kernel
theorem dX12_in_11 : decode cX12_in 11 = .ok (.goto 4, 3) := by decide +kernel
theorem dX12_in_14 : decode cX12_in 14 = .ok (.iconst 0, 1) := by decide +kernel
theorem dX12_in_15 : decode cX12_in 15 = .ok (.ireturn, 1) := by decide +kernel
theorem dX12_isClock_0 : decode cX12_isClock 0 = .ok (.iload_n 1, 1) := by decide +kernel
theorem dX12_isClock_1 : decode cX12_isClock 1 = .ok (.ldc 151, 2) := by decide +kernel
theorem dX12_isClock_3 : decode cX12_isClock 3 = .ok (.ldc 152, 2) := by decide +kernel
theorem dX12_isClock_5 : decode cX12_isClock 5 = .ok (.invokestatic 153, 3) := by decide +kernel
theorem dX12_isClock_8 : decode cX12_isClock 8 = .ok (.ifCond .eq 30, 3) := by decide +kernel
theorem dX12_isClock_11 : decode cX12_isClock 11 = .ok (.iload_n 2, 1) := by decide +kernel
theorem dX12_isClock_12 : decode cX12_isClock 12 = .ok (.sipush 1000, 3) := by decide +kernel
theorem dX12_isClock_15 : decode cX12_isClock 15 = .ok (.aload_n 0, 1) := by decide +kernel
theorem dX12_isClock_16 : decode cX12_isClock 16 = .ok (.getfield 148, 3) := by decide +kernel
theorem dX12_isClock_19 : decode cX12_isClock 19 = .ok (.isub, 1) := by decide +kernel
theorem dX12_isClock_20 : decode cX12_isClock 20 = .ok (.sipush 1000, 3) := by decide +kernel
theorem dX12_isClock_23 : decode cX12_isClock 23 = .ok (.aload_n 0, 1) := by decide +kernel
theorem dX12_isClock_24 : decode cX12_isClock 24 = .ok (.getfield 148, 3) := by decide +kernel
theorem dX12_isClock_27 : decode cX12_isClock 27 = .ok (.iadd, 1) := by decide +kernel
theorem dX12_isClock_28 : decode cX12_isClock 28 = .ok (.invokestatic 153, 3) := by decide +kernel
theorem dX12_isClock_31 : decode cX12_isClock 31 = .ok (.ifCond .eq 7, 3) := by decide +kernel
theorem dX12_isClock_34 : decode cX12_isClock 34 = .ok (.iconst 1, 1) := by decide +kernel
theorem dX12_isClock_35 : decode cX12_isClock 35 = .ok (.goto 4, 3) := by decide +kernel
theorem dX12_isClock_38 : decode cX12_isClock 38 = .ok (.iconst 0, 1) := by decide +kernel
theorem dX12_isClock_39 : decode cX12_isClock 39 = .ok (.ireturn, 1) := by decide +kernel
theorem dX12_keeper_0 : decode cX12_keeper 0 = .ok (.aload_n 0, 1) := by decide +kernel
theorem dX12_keeper_1 : decode cX12_keeper 1 = .ok (.iload_n 1, 1) := by decide +kernel
theorem dX12_keeper_2 : decode cX12_keeper 2 = .ok (.iload_n 2, 1) := by decide +kernel
theorem dX12_keeper_3 : decode cX12_keeper 3 = .ok (.invokevirtual 157, 3) := by decide +kernel
theorem dX12_keeper_6 : decode cX12_keeper 6 = .ok (.ifCond .ne 6, 3) := by decide +kernel
theorem dX12_keeper_9 : decode cX12_keeper 9 = .ok (.bipush (-2), 2) := by decide +kernel
theorem dX12_keeper_11 : decode cX12_keeper 11 = .ok (.ireturn, 1) := by decide +kernel
theorem dX12_keeper_12 : decode cX12_keeper 12 = .ok (.aload_n 0, 1) := by decide +kernel
theorem dX12_keeper_13 : decode cX12_keeper 13 = .ok (.getfield 161, 3) := by decide +kernel
theorem dX12_keeper_16 : decode cX12_keeper 16 = .ok (.iconst 5, 1) := by decide +kernel
theorem dX12_keeper_17 : decode cX12_keeper 17 = .ok (.if_icmp .ne 6, 3) := by decide +kernel
theorem dX12_keeper_20 : decode cX12_keeper 20 = .ok (.bipush (-4), 2) := by decide +kernel
theorem dX12_keeper_22 : decode cX12_keeper 22 = .ok (.ireturn, 1) := by decide +kernel
theorem dX12_keeper_23 : decode cX12_keeper 23 = .ok (.aload_n 0, 1) := by decide +kernel
theorem dX12_keeper_24 : decode cX12_keeper 24 = .ok (.getfield 7, 3) := by decide +kernel
theorem dX12_keeper_27 : decode cX12_keeper 27 = .ok (.aload_n 0, 1) := by decide +kernel
theorem dX12_keeper_28 : decode cX12_keeper 28 = .ok (.getfield 161, 3) := by decide +kernel
theorem dX12_keeper_31 : decode cX12_keeper 31 = .ok (.iload_n 1, 1) := by decide +kernel
theorem dX12_keeper_32 : decode cX12_keeper 32 = .ok (.iastore, 1) := by decide +kernel
theorem dX12_keeper_33 : decode cX12_keeper 33 = .ok (.aload_n 0, 1) := by decide +kernel
theorem dX12_keeper_34 : decode cX12_keeper 34 = .ok (.getfield 13, 3) := by decide +kernel
theorem dX12_keeper_37 : decode cX12_keeper 37 = .ok (.aload_n 0, 1) := by decide +kernel
theorem dX12_keeper_38 : decode cX12_keeper 38 = .ok (.getfield 161, 3) := by decide +kernel
theorem dX12_keeper_41 : decode cX12_keeper 41 = .ok (.iload_n 2, 1) := by decide +kernel
theorem dX12_keeper_42 : decode cX12_keeper 42 = .ok (.iastore, 1) := by decide +kernel
theorem dX12_keeper_43 : decode cX12_keeper 43 = .ok (.aload_n 0, 1) := by decide +kernel
theorem dX12_keeper_44 : decode cX12_keeper 44 = .ok (.getfield 16, 3) := by decide +kernel
theorem dX12_keeper_47 : decode cX12_keeper 47 = .ok (.aload_n 0, 1) := by decide +kernel
theorem dX12_keeper_48 : decode cX12_keeper 48 = .ok (.getfield 161, 3) := by decide +kernel
theorem dX12_keeper_51 : decode cX12_keeper 51 = .ok (.iconst 1, 1) := by decide +kernel
theorem dX12_keeper_52 : decode cX12_keeper 52 = .ok (.bastore, 1) := by decide +kernel
theorem dX12_keeper_53 : decode cX12_keeper 53 = .ok (.aload_n 0, 1) := by decide +kernel
theorem dX12_keeper_54 : decode cX12_keeper 54 = .ok (.dup, 1) := by decide +kernel
theorem dX12_keeper_55 : decode cX12_keeper 55 = .ok (.getfield 161, 3) := by decide +kernel
theorem dX12_keeper_58 : decode cX12_keeper 58 = .ok (.iconst 1, 1) := by decide +kernel
theorem dX12_keeper_59 : decode cX12_keeper 59 = .ok (.iadd, 1) := by decide +kernel
theorem dX12_keeper_60 : decode cX12_keeper 60 = .ok (.putfield 161, 3) := by decide +kernel
theorem dX12_keeper_63 : decode cX12_keeper 63 = .ok (.aload_n 0, 1) := by decide +kernel
theorem dX12_keeper_64 : decode cX12_keeper 64 = .ok (.getfield 161, 3) := by decide +kernel
theorem dX12_keeper_67 : decode cX12_keeper 67 = .ok (.iconst 1, 1) := by decide +kernel
theorem dX12_keeper_68 : decode cX12_keeper 68 = .ok (.isub, 1) := by decide +kernel
theorem dX12_keeper_69 : decode cX12_keeper 69 = .ok (.ireturn, 1) := by decide +kernel
theorem dX12_worker_0 : decode cX12_worker 0 = .ok (.aload_n 0, 1) := by decide +kernel
theorem dX12_worker_1 : decode cX12_worker 1 = .ok (.iload_n 1, 1) := by decide +kernel
theorem dX12_worker_2 : decode cX12_worker 2 = .ok (.iload_n 2, 1) := by decide +kernel
theorem dX12_worker_3 : decode cX12_worker 3 = .ok (.invokevirtual 157, 3) := by decide +kernel
theorem dX12_worker_6 : decode cX12_worker 6 = .ok (.ifCond .ne 6, 3) := by decide +kernel
theorem dX12_worker_9 : decode cX12_worker 9 = .ok (.bipush (-2), 2) := by decide +kernel
theorem dX12_worker_11 : decode cX12_worker 11 = .ok (.ireturn, 1) := by decide +kernel
theorem dX12_worker_12 : decode cX12_worker 12 = .ok (.aload_n 0, 1) := by decide +kernel
theorem dX12_worker_13 : decode cX12_worker 13 = .ok (.getfield 164, 3) := by decide +kernel
theorem dX12_worker_16 : decode cX12_worker 16 = .ok (.bipush 20, 2) := by decide +kernel
theorem dX12_worker_18 : decode cX12_worker 18 = .ok (.if_icmp .ne 6, 3) := by decide +kernel
theorem dX12_worker_21 : decode cX12_worker 21 = .ok (.bipush (-4), 2) := by decide +kernel
theorem dX12_worker_23 : decode cX12_worker 23 = .ok (.ireturn, 1) := by decide +kernel
theorem dX12_worker_24 : decode cX12_worker 24 = .ok (.aload_n 0, 1) := by decide +kernel
theorem dX12_worker_25 : decode cX12_worker 25 = .ok (.getfield 20, 3) := by decide +kernel
theorem dX12_worker_28 : decode cX12_worker 28 = .ok (.aload_n 0, 1) := by decide +kernel
theorem dX12_worker_29 : decode cX12_worker 29 = .ok (.getfield 164, 3) := by decide +kernel
theorem dX12_worker_32 : decode cX12_worker 32 = .ok (.iload_n 1, 1) := by decide +kernel
theorem dX12_worker_33 : decode cX12_worker 33 = .ok (.iastore, 1) := by decide +kernel
theorem dX12_worker_34 : decode cX12_worker 34 = .ok (.aload_n 0, 1) := by decide +kernel
theorem dX12_worker_35 : decode cX12_worker 35 = .ok (.getfield 23, 3) := by decide +kernel
theorem dX12_worker_38 : decode cX12_worker 38 = .ok (.aload_n 0, 1) := by decide +kernel
theorem dX12_worker_39 : decode cX12_worker 39 = .ok (.getfield 164, 3) := by decide +kernel
theorem dX12_worker_42 : decode cX12_worker 42 = .ok (.iload_n 2, 1) := by decide +kernel
theorem dX12_worker_43 : decode cX12_worker 43 = .ok (.iastore, 1) := by decide +kernel
theorem dX12_worker_44 : decode cX12_worker 44 = .ok (.aload_n 0, 1) := by decide +kernel
theorem dX12_worker_45 : decode cX12_worker 45 = .ok (.getfield 29, 3) := by decide +kernel
theorem dX12_worker_48 : decode cX12_worker 48 = .ok (.aload_n 0, 1) := by decide +kernel
theorem dX12_worker_49 : decode cX12_worker 49 = .ok (.getfield 164, 3) := by decide +kernel
theorem dX12_worker_52 : decode cX12_worker 52 = .ok (.iconst 1, 1) := by decide +kernel
theorem dX12_worker_53 : decode cX12_worker 53 = .ok (.bastore, 1) := by decide +kernel
theorem dX12_worker_54 : decode cX12_worker 54 = .ok (.aload_n 0, 1) := by decide +kernel
theorem dX12_worker_55 : decode cX12_worker 55 = .ok (.dup, 1) := by decide +kernel
theorem dX12_worker_56 : decode cX12_worker 56 = .ok (.getfield 164, 3) := by decide +kernel
theorem dX12_worker_59 : decode cX12_worker 59 = .ok (.iconst 1, 1) := by decide +kernel
theorem dX12_worker_60 : decode cX12_worker 60 = .ok (.iadd, 1) := by decide +kernel
theorem dX12_worker_61 : decode cX12_worker 61 = .ok (.putfield 164, 3) := by decide +kernel
theorem dX12_worker_64 : decode cX12_worker 64 = .ok (.aload_n 0, 1) := by decide +kernel
theorem dX12_worker_65 : decode cX12_worker 65 = .ok (.getfield 164, 3) := by decide +kernel
theorem dX12_worker_68 : decode cX12_worker 68 = .ok (.iconst 1, 1) := by decide +kernel
theorem dX12_worker_69 : decode cX12_worker 69 = .ok (.isub, 1) := by decide +kernel
theorem dX12_worker_70 : decode cX12_worker 70 = .ok (.ireturn, 1) := by decide +kernel
theorem dX12_thing_0 : decode cX12_thing 0 = .ok (.iload_n 1, 1) := by decide +kernel
theorem dX12_thing_1 : decode cX12_thing 1 = .ok (.iconst 0, 1) := by decide +kernel
theorem dX12_thing_2 : decode cX12_thing 2 = .ok (.iconst 4, 1) := by decide +kernel
theorem dX12_thing_3 : decode cX12_thing 3 = .ok (.invokestatic 153, 3) := by decide +kernel
theorem dX12_thing_6 : decode cX12_thing 6 = .ok (.ifCond .eq 36, 3) := by decide +kernel
theorem dX12_thing_9 : decode cX12_thing 9 = .ok (.iload_n 2, 1) := by decide +kernel
theorem dX12_thing_10 : decode cX12_thing 10 = .ok (.iconst 1, 1) := by decide +kernel
theorem dX12_thing_11 : decode cX12_thing 11 = .ok (.sipush 1000, 3) := by decide +kernel
theorem dX12_thing_14 : decode cX12_thing 14 = .ok (.invokestatic 153, 3) := by decide +kernel
theorem dX12_thing_17 : decode cX12_thing 17 = .ok (.ifCond .eq 25, 3) := by decide +kernel
theorem dX12_thing_20 : decode cX12_thing 20 = .ok (.iload_n 1, 1) := by decide +kernel
theorem dX12_thing_21 : decode cX12_thing 21 = .ok (.iconst 2, 1) := by decide +kernel
theorem dX12_thing_22 : decode cX12_thing 22 = .ok (.if_icmp .ne 16, 3) := by decide +kernel
theorem dX12_thing_25 : decode cX12_thing 25 = .ok (.iload_n 3, 1) := by decide +kernel
theorem dX12_thing_26 : decode cX12_thing 26 = .ok (.iconst 1, 1) := by decide +kernel
theorem dX12_thing_27 : decode cX12_thing 27 = .ok (.bipush 100, 2) := by decide +kernel
theorem dX12_thing_29 : decode cX12_thing 29 = .ok (.invokestatic 153, 3) := by decide +kernel
theorem dX12_thing_32 : decode cX12_thing 32 = .ok (.ifCond .eq 10, 3) := by decide +kernel
theorem dX12_thing_35 : decode cX12_thing 35 = .ok (.goto 10, 3) := by decide +kernel
theorem dX12_thing_38 : decode cX12_thing 38 = .ok (.iload_n 3, 1) := by decide +kernel
theorem dX12_thing_39 : decode cX12_thing 39 = .ok (.ifCond .eq 6, 3) := by decide +kernel
theorem dX12_thing_42 : decode cX12_thing 42 = .ok (.bipush (-2), 2) := by decide +kernel
theorem dX12_thing_44 : decode cX12_thing 44 = .ok (.ireturn, 1) := by decide +kernel
theorem dX12_thing_45 : decode cX12_thing 45 = .ok (.aload_n 0, 1) := by decide +kernel
theorem dX12_thing_46 : decode cX12_thing 46 = .ok (.getfield 167, 3) := by decide +kernel
theorem dX12_thing_49 : decode cX12_thing 49 = .ok (.bipush 20, 2) := by decide +kernel
theorem dX12_thing_51 : decode cX12_thing 51 = .ok (.if_icmp .ne 6, 3) := by decide +kernel
theorem dX12_thing_54 : decode cX12_thing 54 = .ok (.bipush (-4), 2) := by decide +kernel
theorem dX12_thing_56 : decode cX12_thing 56 = .ok (.ireturn, 1) := by decide +kernel
theorem dX12_thing_57 : decode cX12_thing 57 = .ok (.aload_n 0, 1) := by decide +kernel
theorem dX12_thing_58 : decode cX12_thing 58 = .ok (.getfield 32, 3) := by decide +kernel
theorem dX12_thing_61 : decode cX12_thing 61 = .ok (.aload_n 0, 1) := by decide +kernel
theorem dX12_thing_62 : decode cX12_thing 62 = .ok (.getfield 167, 3) := by decide +kernel
theorem dX12_thing_65 : decode cX12_thing 65 = .ok (.iload_n 1, 1) := by decide +kernel
theorem dX12_thing_66 : decode cX12_thing 66 = .ok (.iastore, 1) := by decide +kernel
theorem dX12_thing_67 : decode cX12_thing 67 = .ok (.aload_n 0, 1) := by decide +kernel
theorem dX12_thing_68 : decode cX12_thing 68 = .ok (.getfield 35, 3) := by decide +kernel
theorem dX12_thing_71 : decode cX12_thing 71 = .ok (.aload_n 0, 1) := by decide +kernel
theorem dX12_thing_72 : decode cX12_thing 72 = .ok (.getfield 167, 3) := by decide +kernel
theorem dX12_thing_75 : decode cX12_thing 75 = .ok (.iload_n 2, 1) := by decide +kernel
theorem dX12_thing_76 : decode cX12_thing 76 = .ok (.iastore, 1) := by decide +kernel
theorem dX12_thing_77 : decode cX12_thing 77 = .ok (.aload_n 0, 1) := by decide +kernel
theorem dX12_thing_78 : decode cX12_thing 78 = .ok (.getfield 38, 3) := by decide +kernel
theorem dX12_thing_81 : decode cX12_thing 81 = .ok (.aload_n 0, 1) := by decide +kernel
theorem dX12_thing_82 : decode cX12_thing 82 = .ok (.getfield 167, 3) := by decide +kernel
theorem dX12_thing_85 : decode cX12_thing 85 = .ok (.iload_n 3, 1) := by decide +kernel
theorem dX12_thing_86 : decode cX12_thing 86 = .ok (.iastore, 1) := by decide +kernel
theorem dX12_thing_87 : decode cX12_thing 87 = .ok (.aload_n 0, 1) := by decide +kernel
theorem dX12_thing_88 : decode cX12_thing 88 = .ok (.getfield 41, 3) := by decide +kernel
theorem dX12_thing_91 : decode cX12_thing 91 = .ok (.aload_n 0, 1) := by decide +kernel
theorem dX12_thing_92 : decode cX12_thing 92 = .ok (.getfield 167, 3) := by decide +kernel
theorem dX12_thing_95 : decode cX12_thing 95 = .ok (.iconst (-1), 1) := by decide +kernel
theorem dX12_thing_96 : decode cX12_thing 96 = .ok (.iastore, 1) := by decide +kernel
theorem dX12_thing_97 : decode cX12_thing 97 = .ok (.aload_n 0, 1) := by decide +kernel
theorem dX12_thing_98 : decode cX12_thing 98 = .ok (.dup, 1) := by decide +kernel
theorem dX12_thing_99 : decode cX12_thing 99 = .ok (.getfield 167, 3) := by decide +kernel
theorem dX12_thing_102 : decode cX12_thing 102 = .ok (.iconst 1, 1) := by decide +kernel
theorem dX12_thing_103 : decode cX12_thing 103 = .ok (.iadd, 1) := by decide +kernel
theorem dX12_thing_104 : decode cX12_thing 104 = .ok (.putfield 167, 3) := by decide +kernel
theorem dX12_thing_107 : decode cX12_thing 107 = .ok (.aload_n 0, 1) := by decide +kernel
theorem dX12_thing_108 : decode cX12_thing 108 = .ok (.getfield 167, 3) := by decide +kernel
theorem dX12_thing_111 : decode cX12_thing 111 = .ok (.iconst 1, 1) := by decide +kernel
theorem dX12_thing_112 : decode cX12_thing 112 = .ok (.isub, 1) := by decide +kernel
theorem dX12_thing_113 : decode cX12_thing 113 = .ok (.ireturn, 1) := by decide +kernel
theorem dX12_store_0 : decode cX12_store 0 = .ok (.aload_n 0, 1) := by decide +kernel
theorem dX12_store_1 : decode cX12_store 1 = .ok (.getfield 170, 3) := by decide +kernel
theorem dX12_store_4 : decode cX12_store 4 = .ok (.bipush 6, 2) := by decide +kernel
theorem dX12_store_6 : decode cX12_store 6 = .ok (.if_icmp .ne 6, 3) := by decide +kernel
theorem dX12_store_9 : decode cX12_store 9 = .ok (.bipush (-4), 2) := by decide +kernel
theorem dX12_store_11 : decode cX12_store 11 = .ok (.ireturn, 1) := by decide +kernel
theorem dX12_store_12 : decode cX12_store 12 = .ok (.aload_n 0, 1) := by decide +kernel
theorem dX12_store_13 : decode cX12_store 13 = .ok (.dup, 1) := by decide +kernel
theorem dX12_store_14 : decode cX12_store 14 = .ok (.getfield 170, 3) := by decide +kernel
theorem dX12_store_17 : decode cX12_store 17 = .ok (.iconst 1, 1) := by decide +kernel
theorem dX12_store_18 : decode cX12_store 18 = .ok (.iadd, 1) := by decide +kernel
theorem dX12_store_19 : decode cX12_store 19 = .ok (.putfield 170, 3) := by decide +kernel
theorem dX12_store_22 : decode cX12_store 22 = .ok (.aload_n 0, 1) := by decide +kernel
theorem dX12_store_23 : decode cX12_store 23 = .ok (.getfield 170, 3) := by decide +kernel
theorem dX12_store_26 : decode cX12_store 26 = .ok (.iconst 1, 1) := by decide +kernel
theorem dX12_store_27 : decode cX12_store 27 = .ok (.isub, 1) := by decide +kernel
theorem dX12_store_28 : decode cX12_store 28 = .ok (.ireturn, 1) := by decide +kernel
theorem dX12_tick_0 : decode cX12_tick 0 = .ok (.iload_n 1, 1) := by decide +kernel
theorem dX12_tick_1 : decode cX12_tick 1 = .ok (.iconst 0, 1) := by decide +kernel
theorem dX12_tick_2 : decode cX12_tick 2 = .ok (.ldc 173, 2) := by decide +kernel
theorem dX12_tick_4 : decode cX12_tick 4 = .ok (.invokestatic 153, 3) := by decide +kernel
theorem dX12_tick_7 : decode cX12_tick 7 = .ok (.ifCond .ne 6, 3) := by decide +kernel
theorem dX12_tick_10 : decode cX12_tick 10 = .ok (.bipush (-2), 2) := by decide +kernel
theorem dX12_tick_12 : decode cX12_tick 12 = .ok (.ireturn, 1) := by decide +kernel
theorem dX12_tick_13 : decode cX12_tick 13 = .ok (.aload_n 0, 1) := by decide +kernel
theorem dX12_tick_14 : decode cX12_tick 14 = .ok (.getfield 174, 3) := by decide +kernel
theorem dX12_tick_17 : decode cX12_tick 17 = .ok (.iload_n 1, 1) := by decide +kernel
theorem dX12_tick_18 : decode cX12_tick 18 = .ok (.iadd, 1) := by decide +kernel
theorem dX12_tick_19 : decode cX12_tick 19 = .ok (.ldc 177, 2) := by decide +kernel
theorem dX12_tick_21 : decode cX12_tick 21 = .ok (.if_icmp .le 6, 3) := by decide +kernel
theorem dX12_tick_24 : decode cX12_tick 24 = .ok (.bipush (-4), 2) := by decide +kernel
theorem dX12_tick_26 : decode cX12_tick 26 = .ok (.ireturn, 1) := by decide +kernel
theorem dX12_tick_27 : decode cX12_tick 27 = .ok (.aload_n 0, 1) := by decide +kernel
theorem dX12_tick_28 : decode cX12_tick 28 = .ok (.dup, 1) := by decide +kernel
theorem dX12_tick_29 : decode cX12_tick 29 = .ok (.getfield 174, 3) := by decide +kernel
theorem dX12_tick_32 : decode cX12_tick 32 = .ok (.iload_n 1, 1) := by decide +kernel
theorem dX12_tick_33 : decode cX12_tick 33 = .ok (.iadd, 1) := by decide +kernel
theorem dX12_tick_34 : decode cX12_tick 34 = .ok (.putfield 174, 3) := by decide +kernel
theorem dX12_tick_37 : decode cX12_tick 37 = .ok (.aload_n 0, 1) := by decide +kernel
theorem dX12_tick_38 : decode cX12_tick 38 = .ok (.getfield 174, 3) := by decide +kernel
theorem dX12_tick_41 : decode cX12_tick 41 = .ok (.ireturn, 1) := by decide +kernel
theorem dX12_isKeeper_0 : decode cX12_isKeeper 0 = .ok (.iload_n 1, 1) := by decide +kernel
theorem dX12_isKeeper_1 : decode cX12_isKeeper 1 = .ok (.iconst 0, 1) := by decide +kernel
theorem dX12_isKeeper_2 : decode cX12_isKeeper 2 = .ok (.aload_n 0, 1) := by decide +kernel
theorem dX12_isKeeper_3 : decode cX12_isKeeper 3 = .ok (.getfield 161, 3) := by decide +kernel
theorem dX12_isKeeper_6 : decode cX12_isKeeper 6 = .ok (.iconst 1, 1) := by decide +kernel
theorem dX12_isKeeper_7 : decode cX12_isKeeper 7 = .ok (.isub, 1) := by decide +kernel
theorem dX12_isKeeper_8 : decode cX12_isKeeper 8 = .ok (.invokestatic 153, 3) := by decide +kernel
theorem dX12_isKeeper_11 : decode cX12_isKeeper 11 = .ok (.ireturn, 1) := by decide +kernel
theorem dX12_isWorker_0 : decode cX12_isWorker 0 = .ok (.iload_n 1, 1) := by decide +kernel
theorem dX12_isWorker_1 : decode cX12_isWorker 1 = .ok (.iconst 0, 1) := by decide +kernel
theorem dX12_isWorker_2 : decode cX12_isWorker 2 = .ok (.aload_n 0, 1) := by decide +kernel
theorem dX12_isWorker_3 : decode cX12_isWorker 3 = .ok (.getfield 164, 3) := by decide +kernel
theorem dX12_isWorker_6 : decode cX12_isWorker 6 = .ok (.iconst 1, 1) := by decide +kernel
theorem dX12_isWorker_7 : decode cX12_isWorker 7 = .ok (.isub, 1) := by decide +kernel
theorem dX12_isWorker_8 : decode cX12_isWorker 8 = .ok (.invokestatic 153, 3) := by decide +kernel
theorem dX12_isWorker_11 : decode cX12_isWorker 11 = .ok (.ireturn, 1) := by decide +kernel
theorem dX12_isThing_0 : decode cX12_isThing 0 = .ok (.iload_n 1, 1) := by decide +kernel
theorem dX12_isThing_1 : decode cX12_isThing 1 = .ok (.iconst 0, 1) := by decide +kernel
theorem dX12_isThing_2 : decode cX12_isThing 2 = .ok (.aload_n 0, 1) := by decide +kernel
theorem dX12_isThing_3 : decode cX12_isThing 3 = .ok (.getfield 167, 3) := by decide +kernel
theorem dX12_isThing_6 : decode cX12_isThing 6 = .ok (.iconst 1, 1) := by decide +kernel
theorem dX12_isThing_7 : decode cX12_isThing 7 = .ok (.isub, 1) := by decide +kernel
theorem dX12_isThing_8 : decode cX12_isThing 8 = .ok (.invokestatic 153, 3) := by decide +kernel
theorem dX12_isThing_11 : decode cX12_isThing 11 = .ok (.ireturn, 1) := by decide +kernel
theorem dX12_isLetter_0 : decode cX12_isLetter 0 = .ok (.iload_n 1, 1) := by decide +kernel
theorem dX12_isLetter_1 : decode cX12_isLetter 1 = .ok (.iconst 0, 1) := by decide +kernel
theorem dX12_isLetter_2 : decode cX12_isLetter 2 = .ok (.aload_n 0, 1) := by decide +kernel
theorem dX12_isLetter_3 : decode cX12_isLetter 3 = .ok (.getfield 178, 3) := by decide +kernel
theorem dX12_isLetter_6 : decode cX12_isLetter 6 = .ok (.iconst 1, 1) := by decide +kernel
theorem dX12_isLetter_7 : decode cX12_isLetter 7 = .ok (.isub, 1) := by decide +kernel
theorem dX12_isLetter_8 : decode cX12_isLetter 8 = .ok (.invokestatic 153, 3) := by decide +kernel
theorem dX12_isLetter_11 : decode cX12_isLetter 11 = .ok (.ireturn, 1) := by decide +kernel
theorem dX12_kClock_0 : decode cX12_kClock 0 = .ok (.aload_n 0, 1) := by decide +kernel
theorem dX12_kClock_1 : decode cX12_kClock 1 = .ok (.getfield 7, 3) := by decide +kernel
theorem dX12_kClock_4 : decode cX12_kClock 4 = .ok (.iload_n 1, 1) := by decide +kernel
theorem dX12_kClock_5 : decode cX12_kClock 5 = .ok (.iaload, 1) := by decide +kernel
theorem dX12_kClock_6 : decode cX12_kClock 6 = .ok (.i2l, 1) := by decide +kernel
theorem dX12_kClock_7 : decode cX12_kClock 7 = .ok (.aload_n 0, 1) := by decide +kernel
theorem dX12_kClock_8 : decode cX12_kClock 8 = .ok (.getfield 174, 3) := by decide +kernel
theorem dX12_kClock_11 : decode cX12_kClock 11 = .ok (.i2l, 1) := by decide +kernel
theorem dX12_kClock_12 : decode cX12_kClock 12 = .ok (.aload_n 0, 1) := by decide +kernel
theorem dX12_kClock_13 : decode cX12_kClock 13 = .ok (.getfield 13, 3) := by decide +kernel
theorem dX12_kClock_16 : decode cX12_kClock 16 = .ok (.iload_n 1, 1) := by decide +kernel
theorem dX12_kClock_17 : decode cX12_kClock 17 = .ok (.iaload, 1) := by decide +kernel
theorem dX12_kClock_18 : decode cX12_kClock 18 = .ok (.i2l, 1) := by decide +kernel
theorem dX12_kClock_19 : decode cX12_kClock 19 = .ok (.lmul, 1) := by decide +kernel
theorem dX12_kClock_20 : decode cX12_kClock 20 = .ok (.ldc2_w 181, 3) := by decide +kernel
theorem dX12_kClock_23 : decode cX12_kClock 23 = .ok (.ldiv, 1) := by decide +kernel
theorem dX12_kClock_24 : decode cX12_kClock 24 = .ok (.ladd, 1) := by decide +kernel
theorem dX12_kClock_25 : decode cX12_kClock 25 = .ok (.lreturn, 1) := by decide +kernel
theorem dX12_wClock_0 : decode cX12_wClock 0 = .ok (.aload_n 0, 1) := by decide +kernel
theorem dX12_wClock_1 : decode cX12_wClock 1 = .ok (.getfield 20, 3) := by decide +kernel
theorem dX12_wClock_4 : decode cX12_wClock 4 = .ok (.iload_n 1, 1) := by decide +kernel
theorem dX12_wClock_5 : decode cX12_wClock 5 = .ok (.iaload, 1) := by decide +kernel
theorem dX12_wClock_6 : decode cX12_wClock 6 = .ok (.i2l, 1) := by decide +kernel
theorem dX12_wClock_7 : decode cX12_wClock 7 = .ok (.aload_n 0, 1) := by decide +kernel
theorem dX12_wClock_8 : decode cX12_wClock 8 = .ok (.getfield 174, 3) := by decide +kernel
theorem dX12_wClock_11 : decode cX12_wClock 11 = .ok (.i2l, 1) := by decide +kernel
theorem dX12_wClock_12 : decode cX12_wClock 12 = .ok (.aload_n 0, 1) := by decide +kernel
theorem dX12_wClock_13 : decode cX12_wClock 13 = .ok (.getfield 23, 3) := by decide +kernel
theorem dX12_wClock_16 : decode cX12_wClock 16 = .ok (.iload_n 1, 1) := by decide +kernel
theorem dX12_wClock_17 : decode cX12_wClock 17 = .ok (.iaload, 1) := by decide +kernel
theorem dX12_wClock_18 : decode cX12_wClock 18 = .ok (.i2l, 1) := by decide +kernel
theorem dX12_wClock_19 : decode cX12_wClock 19 = .ok (.lmul, 1) := by decide +kernel
theorem dX12_wClock_20 : decode cX12_wClock 20 = .ok (.ldc2_w 181, 3) := by decide +kernel
theorem dX12_wClock_23 : decode cX12_wClock 23 = .ok (.ldiv, 1) := by decide +kernel
theorem dX12_wClock_24 : decode cX12_wClock 24 = .ok (.ladd, 1) := by decide +kernel
theorem dX12_wClock_25 : decode cX12_wClock 25 = .ok (.lreturn, 1) := by decide +kernel
theorem dX12_clock_0 : decode cX12_clock 0 = .ok (.iload_n 1, 1) := by decide +kernel
theorem dX12_clock_1 : decode cX12_clock 1 = .ok (.ifCond .ne 17, 3) := by decide +kernel
theorem dX12_clock_4 : decode cX12_clock 4 = .ok (.aload_n 0, 1) := by decide +kernel
theorem dX12_clock_5 : decode cX12_clock 5 = .ok (.iload_n 2, 1) := by decide +kernel
theorem dX12_clock_6 : decode cX12_clock 6 = .ok (.invokevirtual 183, 3) := by decide +kernel
theorem dX12_clock_9 : decode cX12_clock 9 = .ok (.ifCond .eq 9, 3) := by decide +kernel
theorem dX12_clock_12 : decode cX12_clock 12 = .ok (.aload_n 0, 1) := by decide +kernel
theorem dX12_clock_13 : decode cX12_clock 13 = .ok (.iload_n 2, 1) := by decide +kernel
theorem dX12_clock_14 : decode cX12_clock 14 = .ok (.invokevirtual 187, 3) := by decide +kernel
theorem dX12_clock_17 : decode cX12_clock 17 = .ok (.lreturn, 1) := by decide +kernel
theorem dX12_clock_18 : decode cX12_clock 18 = .ok (.iload_n 1, 1) := by decide +kernel
theorem dX12_clock_19 : decode cX12_clock 19 = .ok (.iconst 1, 1) := by decide +kernel
theorem dX12_clock_20 : decode cX12_clock 20 = .ok (.if_icmp .ne 19, 3) := by decide +kernel
theorem dX12_clock_23 : decode cX12_clock 23 = .ok (.aload_n 0, 1) := by decide +kernel
theorem dX12_clock_24 : decode cX12_clock 24 = .ok (.iload_n 2, 1) := by decide +kernel
theorem dX12_clock_25 : decode cX12_clock 25 = .ok (.invokevirtual 191, 3) := by decide +kernel
theorem dX12_clock_28 : decode cX12_clock 28 = .ok (.ifCond .eq 11, 3) := by decide +kernel
theorem dX12_clock_31 : decode cX12_clock 31 = .ok (.aload_n 0, 1) := by decide +kernel
theorem dX12_clock_32 : decode cX12_clock 32 = .ok (.iload_n 2, 1) := by decide +kernel
theorem dX12_clock_33 : decode cX12_clock 33 = .ok (.invokevirtual 194, 3) := by decide +kernel
theorem dX12_clock_36 : decode cX12_clock 36 = .ok (.goto 6, 3) := by decide +kernel
theorem dX12_clock_39 : decode cX12_clock 39 = .ok (.ldc2_w 197, 3) := by decide +kernel
theorem dX12_clock_42 : decode cX12_clock 42 = .ok (.lreturn, 1) := by decide +kernel
theorem dX12_long0_0 : decode cX12_long0 0 = .ok (.aload_n 0, 1) := by decide +kernel
theorem dX12_long0_1 : decode cX12_long0 1 = .ok (.getfield 35, 3) := by decide +kernel
theorem dX12_long0_4 : decode cX12_long0 4 = .ok (.iload_n 1, 1) := by decide +kernel
theorem dX12_long0_5 : decode cX12_long0 5 = .ok (.iaload, 1) := by decide +kernel
theorem dX12_long0_6 : decode cX12_long0 6 = .ok (.sipush 1000, 3) := by decide +kernel
theorem dX12_long0_9 : decode cX12_long0 9 = .ok (.aload_n 0, 1) := by decide +kernel
theorem dX12_long0_10 : decode cX12_long0 10 = .ok (.getfield 148, 3) := by decide +kernel
theorem dX12_long0_13 : decode cX12_long0 13 = .ok (.iadd, 1) := by decide +kernel
theorem dX12_long0_14 : decode cX12_long0 14 = .ok (.imul, 1) := by decide +kernel
theorem dX12_long0_15 : decode cX12_long0 15 = .ok (.istore_n 2, 1) := by decide +kernel
theorem dX12_long0_16 : decode cX12_long0 16 = .ok (.sipush 1000, 3) := by decide +kernel
theorem dX12_long0_19 : decode cX12_long0 19 = .ok (.aload_n 0, 1) := by decide +kernel
theorem dX12_long0_20 : decode cX12_long0 20 = .ok (.getfield 148, 3) := by decide +kernel
theorem dX12_long0_23 : decode cX12_long0 23 = .ok (.isub, 1) := by decide +kernel
theorem dX12_long0_24 : decode cX12_long0 24 = .ok (.istore_n 3, 1) := by decide +kernel
theorem dX12_long0_25 : decode cX12_long0 25 = .ok (.iload_n 2, 1) := by decide +kernel
theorem dX12_long0_26 : decode cX12_long0 26 = .ok (.iload_n 3, 1) := by decide +kernel
theorem dX12_long0_27 : decode cX12_long0 27 = .ok (.iadd, 1) := by decide +kernel
theorem dX12_long0_28 : decode cX12_long0 28 = .ok (.iconst 1, 1) := by decide +kernel
theorem dX12_long0_29 : decode cX12_long0 29 = .ok (.isub, 1) := by decide +kernel
theorem dX12_long0_30 : decode cX12_long0 30 = .ok (.iload_n 3, 1) := by decide +kernel
theorem dX12_long0_31 : decode cX12_long0 31 = .ok (.idiv, 1) := by decide +kernel
theorem dX12_long0_32 : decode cX12_long0 32 = .ok (.iconst 2, 1) := by decide +kernel
theorem dX12_long0_33 : decode cX12_long0 33 = .ok (.iadd, 1) := by decide +kernel
theorem dX12_long0_34 : decode cX12_long0 34 = .ok (.ireturn, 1) := by decide +kernel
theorem dX12_awake_0 : decode cX12_awake 0 = .ok (.iconst 0, 1) := by decide +kernel
theorem dX12_awake_1 : decode cX12_awake 1 = .ok (.istore_n 1, 1) := by decide +kernel
theorem dX12_awake_2 : decode cX12_awake 2 = .ok (.iconst 0, 1) := by decide +kernel
theorem dX12_awake_3 : decode cX12_awake 3 = .ok (.istore_n 2, 1) := by decide +kernel
theorem dX12_awake_4 : decode cX12_awake 4 = .ok (.iload_n 2, 1) := by decide +kernel
theorem dX12_awake_5 : decode cX12_awake 5 = .ok (.aload_n 0, 1) := by decide +kernel
theorem dX12_awake_6 : decode cX12_awake 6 = .ok (.getfield 161, 3) := by decide +kernel
theorem dX12_awake_9 : decode cX12_awake 9 = .ok (.if_icmp .ge 26, 3) := by decide +kernel
theorem dX12_awake_12 : decode cX12_awake 12 = .ok (.iload_n 1, 1) := by decide +kernel
theorem dX12_awake_13 : decode cX12_awake 13 = .ok (.aload_n 0, 1) := by decide +kernel
theorem dX12_awake_14 : decode cX12_awake 14 = .ok (.getfield 16, 3) := by decide +kernel
theorem dX12_awake_17 : decode cX12_awake 17 = .ok (.iload_n 2, 1) := by decide +kernel
theorem dX12_awake_18 : decode cX12_awake 18 = .ok (.baload, 1) := by decide +kernel
theorem dX12_awake_19 : decode cX12_awake 19 = .ok (.ifCond .eq 7, 3) := by decide +kernel
theorem dX12_awake_22 : decode cX12_awake 22 = .ok (.iconst 1, 1) := by decide +kernel
theorem dX12_awake_23 : decode cX12_awake 23 = .ok (.goto 4, 3) := by decide +kernel
theorem dX12_awake_26 : decode cX12_awake 26 = .ok (.iconst 0, 1) := by decide +kernel
theorem dX12_awake_27 : decode cX12_awake 27 = .ok (.iadd, 1) := by decide +kernel
theorem dX12_awake_28 : decode cX12_awake 28 = .ok (.istore_n 1, 1) := by decide +kernel
theorem dX12_awake_29 : decode cX12_awake 29 = .ok (.iinc 2 1, 3) := by decide +kernel
theorem dX12_awake_32 : decode cX12_awake 32 = .ok (.goto (-28), 3) := by decide +kernel
theorem dX12_awake_35 : decode cX12_awake 35 = .ok (.iload_n 1, 1) := by decide +kernel
theorem dX12_awake_36 : decode cX12_awake 36 = .ok (.ireturn, 1) := by decide +kernel
theorem dX12_isMost_0 : decode cX12_isMost 0 = .ok (.iconst 2, 1) := by decide +kernel
theorem dX12_isMost_1 : decode cX12_isMost 1 = .ok (.aload_n 0, 1) := by decide +kernel
theorem dX12_isMost_2 : decode cX12_isMost 2 = .ok (.invokevirtual 199, 3) := by decide +kernel
theorem dX12_isMost_5 : decode cX12_isMost 5 = .ok (.imul, 1) := by decide +kernel
theorem dX12_isMost_6 : decode cX12_isMost 6 = .ok (.aload_n 0, 1) := by decide +kernel
theorem dX12_isMost_7 : decode cX12_isMost 7 = .ok (.getfield 161, 3) := by decide +kernel
theorem dX12_isMost_10 : decode cX12_isMost 10 = .ok (.if_icmp .le 7, 3) := by decide +kernel
theorem dX12_isMost_13 : decode cX12_isMost 13 = .ok (.iconst 1, 1) := by decide +kernel
theorem dX12_isMost_14 : decode cX12_isMost 14 = .ok (.goto 4, 3) := by decide +kernel
theorem dX12_isMost_17 : decode cX12_isMost 17 = .ok (.iconst 0, 1) := by decide +kernel
theorem dX12_isMost_18 : decode cX12_isMost 18 = .ok (.ireturn, 1) := by decide +kernel
theorem dX12_wake_0 : decode cX12_wake 0 = .ok (.iload_n 1, 1) := by decide +kernel
theorem dX12_wake_1 : decode cX12_wake 1 = .ok (.ifCond .ne 62, 3) := by decide +kernel
theorem dX12_wake_4 : decode cX12_wake 4 = .ok (.aload_n 0, 1) := by decide +kernel
theorem dX12_wake_5 : decode cX12_wake 5 = .ok (.iload_n 2, 1) := by decide +kernel
theorem dX12_wake_6 : decode cX12_wake 6 = .ok (.invokevirtual 183, 3) := by decide +kernel
theorem dX12_wake_9 : decode cX12_wake 9 = .ok (.ifCond .eq 54, 3) := by decide +kernel
theorem dX12_wake_12 : decode cX12_wake 12 = .ok (.aload_n 0, 1) := by decide +kernel
theorem dX12_wake_13 : decode cX12_wake 13 = .ok (.getfield 16, 3) := by decide +kernel
theorem dX12_wake_16 : decode cX12_wake 16 = .ok (.iload_n 2, 1) := by decide +kernel
theorem dX12_wake_17 : decode cX12_wake 17 = .ok (.baload, 1) := by decide +kernel
theorem dX12_wake_18 : decode cX12_wake 18 = .ok (.istore 4, 2) := by decide +kernel
theorem dX12_wake_20 : decode cX12_wake 20 = .ok (.aload_n 0, 1) := by decide +kernel
theorem dX12_wake_21 : decode cX12_wake 21 = .ok (.getfield 16, 3) := by decide +kernel
theorem dX12_wake_24 : decode cX12_wake 24 = .ok (.iload_n 2, 1) := by decide +kernel
theorem dX12_wake_25 : decode cX12_wake 25 = .ok (.iload_n 3, 1) := by decide +kernel
theorem dX12_wake_26 : decode cX12_wake 26 = .ok (.bastore, 1) := by decide +kernel
theorem dX12_wake_27 : decode cX12_wake 27 = .ok (.aload_n 0, 1) := by decide +kernel
theorem dX12_wake_28 : decode cX12_wake 28 = .ok (.aload_n 0, 1) := by decide +kernel
theorem dX12_wake_29 : decode cX12_wake 29 = .ok (.getfield 78, 3) := by decide +kernel
theorem dX12_wake_32 : decode cX12_wake 32 = .ok (.iload_n 2, 1) := by decide +kernel
theorem dX12_wake_33 : decode cX12_wake 33 = .ok (.if_icmp .ne 11, 3) := by decide +kernel
theorem dX12_wake_36 : decode cX12_wake 36 = .ok (.iload_n 3, 1) := by decide +kernel
theorem dX12_wake_37 : decode cX12_wake 37 = .ok (.ifCond .ne 7, 3) := by decide +kernel
theorem dX12_wake_40 : decode cX12_wake 40 = .ok (.iconst (-1), 1) := by decide +kernel
theorem dX12_wake_41 : decode cX12_wake 41 = .ok (.goto 7, 3) := by decide +kernel
theorem dX12_wake_44 : decode cX12_wake 44 = .ok (.aload_n 0, 1) := by decide +kernel
theorem dX12_wake_45 : decode cX12_wake 45 = .ok (.getfield 78, 3) := by decide +kernel
theorem dX12_wake_48 : decode cX12_wake 48 = .ok (.putfield 78, 3) := by decide +kernel
theorem dX12_wake_51 : decode cX12_wake 51 = .ok (.iload 4, 2) := by decide +kernel
theorem dX12_wake_53 : decode cX12_wake 53 = .ok (.iload_n 3, 1) := by decide +kernel
theorem dX12_wake_54 : decode cX12_wake 54 = .ok (.if_icmp .ne 7, 3) := by decide +kernel
theorem dX12_wake_57 : decode cX12_wake 57 = .ok (.iconst 0, 1) := by decide +kernel
theorem dX12_wake_58 : decode cX12_wake 58 = .ok (.goto 4, 3) := by decide +kernel
theorem dX12_wake_61 : decode cX12_wake 61 = .ok (.iconst 1, 1) := by decide +kernel
theorem dX12_wake_62 : decode cX12_wake 62 = .ok (.ireturn, 1) := by decide +kernel
theorem dX12_wake_63 : decode cX12_wake 63 = .ok (.iload_n 1, 1) := by decide +kernel
theorem dX12_wake_64 : decode cX12_wake 64 = .ok (.iconst 1, 1) := by decide +kernel
theorem dX12_wake_65 : decode cX12_wake 65 = .ok (.if_icmp .ne 38, 3) := by decide +kernel
theorem dX12_wake_68 : decode cX12_wake 68 = .ok (.aload_n 0, 1) := by decide +kernel
theorem dX12_wake_69 : decode cX12_wake 69 = .ok (.iload_n 2, 1) := by decide +kernel
theorem dX12_wake_70 : decode cX12_wake 70 = .ok (.invokevirtual 191, 3) := by decide +kernel
theorem dX12_wake_73 : decode cX12_wake 73 = .ok (.ifCond .eq 30, 3) := by decide +kernel
theorem dX12_wake_76 : decode cX12_wake 76 = .ok (.aload_n 0, 1) := by decide +kernel
theorem dX12_wake_77 : decode cX12_wake 77 = .ok (.getfield 29, 3) := by decide +kernel
theorem dX12_wake_80 : decode cX12_wake 80 = .ok (.iload_n 2, 1) := by decide +kernel
theorem dX12_wake_81 : decode cX12_wake 81 = .ok (.baload, 1) := by decide +kernel
theorem dX12_wake_82 : decode cX12_wake 82 = .ok (.istore 4, 2) := by decide +kernel
theorem dX12_wake_84 : decode cX12_wake 84 = .ok (.aload_n 0, 1) := by decide +kernel
theorem dX12_wake_85 : decode cX12_wake 85 = .ok (.getfield 29, 3) := by decide +kernel
theorem dX12_wake_88 : decode cX12_wake 88 = .ok (.iload_n 2, 1) := by decide +kernel
theorem dX12_wake_89 : decode cX12_wake 89 = .ok (.iload_n 3, 1) := by decide +kernel
theorem dX12_wake_90 : decode cX12_wake 90 = .ok (.bastore, 1) := by decide +kernel
theorem dX12_wake_91 : decode cX12_wake 91 = .ok (.iload 4, 2) := by decide +kernel
theorem dX12_wake_93 : decode cX12_wake 93 = .ok (.iload_n 3, 1) := by decide +kernel
theorem dX12_wake_94 : decode cX12_wake 94 = .ok (.if_icmp .ne 7, 3) := by decide +kernel
theorem dX12_wake_97 : decode cX12_wake 97 = .ok (.iconst 0, 1) := by decide +kernel
theorem dX12_wake_98 : decode cX12_wake 98 = .ok (.goto 4, 3) := by decide +kernel
theorem dX12_wake_101 : decode cX12_wake 101 = .ok (.iconst 1, 1) := by decide +kernel
theorem dX12_wake_102 : decode cX12_wake 102 = .ok (.ireturn, 1) := by decide +kernel
theorem dX12_wake_103 : decode cX12_wake 103 = .ok (.bipush (-2), 2) := by decide +kernel
theorem dX12_wake_105 : decode cX12_wake 105 = .ok (.ireturn, 1) := by decide +kernel
theorem dX12_fall_0 : decode cX12_fall 0 = .ok (.aload_n 0, 1) := by decide +kernel
theorem dX12_fall_1 : decode cX12_fall 1 = .ok (.iload_n 1, 1) := by decide +kernel
theorem dX12_fall_2 : decode cX12_fall 2 = .ok (.invokevirtual 191, 3) := by decide +kernel
theorem dX12_fall_5 : decode cX12_fall 5 = .ok (.ifCond .ne 6, 3) := by decide +kernel
theorem dX12_fall_8 : decode cX12_fall 8 = .ok (.bipush (-2), 2) := by decide +kernel
theorem dX12_fall_10 : decode cX12_fall 10 = .ok (.ireturn, 1) := by decide +kernel
theorem dX12_fall_11 : decode cX12_fall 11 = .ok (.iconst 0, 1) := by decide +kernel
theorem dX12_fall_12 : decode cX12_fall 12 = .ok (.istore_n 2, 1) := by decide +kernel
theorem dX12_fall_13 : decode cX12_fall 13 = .ok (.iconst 0, 1) := by decide +kernel
theorem dX12_fall_14 : decode cX12_fall 14 = .ok (.istore_n 3, 1) := by decide +kernel
theorem dX12_fall_15 : decode cX12_fall 15 = .ok (.iload_n 3, 1) := by decide +kernel
theorem dX12_fall_16 : decode cX12_fall 16 = .ok (.bipush 20, 2) := by decide +kernel
theorem dX12_fall_18 : decode cX12_fall 18 = .ok (.if_icmp .ge 55, 3) := by decide +kernel
theorem dX12_fall_21 : decode cX12_fall 21 = .ok (.iload_n 2, 1) := by decide +kernel
theorem dX12_fall_22 : decode cX12_fall 22 = .ok (.aload_n 0, 1) := by decide +kernel
theorem dX12_fall_23 : decode cX12_fall 23 = .ok (.getfield 82, 3) := by decide +kernel
theorem dX12_fall_26 : decode cX12_fall 26 = .ok (.bipush 20, 2) := by decide +kernel
theorem dX12_fall_28 : decode cX12_fall 28 = .ok (.iload_n 1, 1) := by decide +kernel
theorem dX12_fall_29 : decode cX12_fall 29 = .ok (.imul, 1) := by decide +kernel
theorem dX12_fall_30 : decode cX12_fall 30 = .ok (.iload_n 3, 1) := by decide +kernel
theorem dX12_fall_31 : decode cX12_fall 31 = .ok (.iadd, 1) := by decide +kernel
theorem dX12_fall_32 : decode cX12_fall 32 = .ok (.baload, 1) := by decide +kernel
theorem dX12_fall_33 : decode cX12_fall 33 = .ok (.ifCond .eq 7, 3) := by decide +kernel
theorem dX12_fall_36 : decode cX12_fall 36 = .ok (.iconst 1, 1) := by decide +kernel
theorem dX12_fall_37 : decode cX12_fall 37 = .ok (.goto 4, 3) := by decide +kernel
theorem dX12_fall_40 : decode cX12_fall 40 = .ok (.iconst 0, 1) := by decide +kernel
theorem dX12_fall_41 : decode cX12_fall 41 = .ok (.iadd, 1) := by decide +kernel
theorem dX12_fall_42 : decode cX12_fall 42 = .ok (.istore_n 2, 1) := by decide +kernel
theorem dX12_fall_43 : decode cX12_fall 43 = .ok (.aload_n 0, 1) := by decide +kernel
theorem dX12_fall_44 : decode cX12_fall 44 = .ok (.getfield 82, 3) := by decide +kernel
theorem dX12_fall_47 : decode cX12_fall 47 = .ok (.bipush 20, 2) := by decide +kernel
theorem dX12_fall_49 : decode cX12_fall 49 = .ok (.iload_n 1, 1) := by decide +kernel
theorem dX12_fall_50 : decode cX12_fall 50 = .ok (.imul, 1) := by decide +kernel
theorem dX12_fall_51 : decode cX12_fall 51 = .ok (.iload_n 3, 1) := by decide +kernel
theorem dX12_fall_52 : decode cX12_fall 52 = .ok (.iadd, 1) := by decide +kernel
theorem dX12_fall_53 : decode cX12_fall 53 = .ok (.iconst 0, 1) := by decide +kernel
theorem dX12_fall_54 : decode cX12_fall 54 = .ok (.bastore, 1) := by decide +kernel
theorem dX12_fall_55 : decode cX12_fall 55 = .ok (.aload_n 0, 1) := by decide +kernel
theorem dX12_fall_56 : decode cX12_fall 56 = .ok (.getfield 91, 3) := by decide +kernel
theorem dX12_fall_59 : decode cX12_fall 59 = .ok (.bipush 20, 2) := by decide +kernel
theorem dX12_fall_61 : decode cX12_fall 61 = .ok (.iload_n 1, 1) := by decide +kernel
theorem dX12_fall_62 : decode cX12_fall 62 = .ok (.imul, 1) := by decide +kernel
theorem dX12_fall_63 : decode cX12_fall 63 = .ok (.iload_n 3, 1) := by decide +kernel
theorem dX12_fall_64 : decode cX12_fall 64 = .ok (.iadd, 1) := by decide +kernel
theorem dX12_fall_65 : decode cX12_fall 65 = .ok (.iconst 0, 1) := by decide +kernel
theorem dX12_fall_66 : decode cX12_fall 66 = .ok (.iastore, 1) := by decide +kernel
theorem dX12_fall_67 : decode cX12_fall 67 = .ok (.iinc 3 1, 3) := by decide +kernel
theorem dX12_fall_70 : decode cX12_fall 70 = .ok (.goto (-55), 3) := by decide +kernel
theorem dX12_fall_73 : decode cX12_fall 73 = .ok (.aload_n 0, 1) := by decide +kernel
theorem dX12_fall_74 : decode cX12_fall 74 = .ok (.getfield 29, 3) := by decide +kernel
theorem dX12_fall_77 : decode cX12_fall 77 = .ok (.iload_n 1, 1) := by decide +kernel
theorem dX12_fall_78 : decode cX12_fall 78 = .ok (.iconst 0, 1) := by decide +kernel
theorem dX12_fall_79 : decode cX12_fall 79 = .ok (.bastore, 1) := by decide +kernel
theorem dX12_fall_80 : decode cX12_fall 80 = .ok (.iload_n 2, 1) := by decide +kernel
theorem dX12_fall_81 : decode cX12_fall 81 = .ok (.ireturn, 1) := by decide +kernel
theorem dX12_lead_0 : decode cX12_lead 0 = .ok (.aload_n 0, 1) := by decide +kernel
theorem dX12_lead_1 : decode cX12_lead 1 = .ok (.iload_n 1, 1) := by decide +kernel
theorem dX12_lead_2 : decode cX12_lead 2 = .ok (.invokevirtual 183, 3) := by decide +kernel
theorem dX12_lead_5 : decode cX12_lead 5 = .ok (.ifCond .ne 6, 3) := by decide +kernel
theorem dX12_lead_8 : decode cX12_lead 8 = .ok (.bipush (-2), 2) := by decide +kernel
theorem dX12_lead_10 : decode cX12_lead 10 = .ok (.ireturn, 1) := by decide +kernel
theorem dX12_lead_11 : decode cX12_lead 11 = .ok (.aload_n 0, 1) := by decide +kernel
theorem dX12_lead_12 : decode cX12_lead 12 = .ok (.getfield 16, 3) := by decide +kernel
theorem dX12_lead_15 : decode cX12_lead 15 = .ok (.iload_n 1, 1) := by decide +kernel
theorem dX12_lead_16 : decode cX12_lead 16 = .ok (.baload, 1) := by decide +kernel
theorem dX12_lead_17 : decode cX12_lead 17 = .ok (.ifCond .eq 10, 3) := by decide +kernel
theorem dX12_lead_20 : decode cX12_lead 20 = .ok (.aload_n 0, 1) := by decide +kernel
theorem dX12_lead_21 : decode cX12_lead 21 = .ok (.invokevirtual 203, 3) := by decide +kernel
theorem dX12_lead_24 : decode cX12_lead 24 = .ok (.ifCond .ne 6, 3) := by decide +kernel
theorem dX12_lead_27 : decode cX12_lead 27 = .ok (.bipush (-3), 2) := by decide +kernel
theorem dX12_lead_29 : decode cX12_lead 29 = .ok (.ireturn, 1) := by decide +kernel
theorem dX12_lead_30 : decode cX12_lead 30 = .ok (.aload_n 0, 1) := by decide +kernel
theorem dX12_lead_31 : decode cX12_lead 31 = .ok (.iload_n 1, 1) := by decide +kernel
theorem dX12_lead_32 : decode cX12_lead 32 = .ok (.putfield 78, 3) := by decide +kernel
theorem dX12_lead_35 : decode cX12_lead 35 = .ok (.aload_n 0, 1) := by decide +kernel
theorem dX12_lead_36 : decode cX12_lead 36 = .ok (.dup, 1) := by decide +kernel
theorem dX12_lead_37 : decode cX12_lead 37 = .ok (.getfield 207, 3) := by decide +kernel
theorem dX12_lead_40 : decode cX12_lead 40 = .ok (.iconst 1, 1) := by decide +kernel
theorem dX12_lead_41 : decode cX12_lead 41 = .ok (.iadd, 1) := by decide +kernel
theorem dX12_lead_42 : decode cX12_lead 42 = .ok (.putfield 207, 3) := by decide +kernel
theorem dX12_lead_45 : decode cX12_lead 45 = .ok (.iconst 0, 1) := by decide +kernel
theorem dX12_lead_46 : decode cX12_lead 46 = .ok (.istore_n 2, 1) := by decide +kernel
theorem dX12_lead_47 : decode cX12_lead 47 = .ok (.iload_n 2, 1) := by decide +kernel
theorem dX12_lead_48 : decode cX12_lead 48 = .ok (.aload_n 0, 1) := by decide +kernel
theorem dX12_lead_49 : decode cX12_lead 49 = .ok (.getfield 167, 3) := by decide +kernel
theorem dX12_lead_52 : decode cX12_lead 52 = .ok (.if_icmp .ge 62, 3) := by decide +kernel
theorem dX12_lead_55 : decode cX12_lead 55 = .ok (.aload_n 0, 1) := by decide +kernel
theorem dX12_lead_56 : decode cX12_lead 56 = .ok (.iload_n 1, 1) := by decide +kernel
theorem dX12_lead_57 : decode cX12_lead 57 = .ok (.invokevirtual 187, 3) := by decide +kernel
theorem dX12_lead_60 : decode cX12_lead 60 = .ok (.aload_n 0, 1) := by decide +kernel
theorem dX12_lead_61 : decode cX12_lead 61 = .ok (.iload_n 2, 1) := by decide +kernel
theorem dX12_lead_62 : decode cX12_lead 62 = .ok (.invokevirtual 210, 3) := by decide +kernel
theorem dX12_lead_65 : decode cX12_lead 65 = .ok (.i2l, 1) := by decide +kernel
theorem dX12_lead_66 : decode cX12_lead 66 = .ok (.ladd, 1) := by decide +kernel
theorem dX12_lead_67 : decode cX12_lead 67 = .ok (.lstore_n 3, 1) := by decide +kernel
theorem dX12_lead_68 : decode cX12_lead 68 = .ok (.iconst 0, 1) := by decide +kernel
theorem dX12_lead_69 : decode cX12_lead 69 = .ok (.istore 5, 2) := by decide +kernel
theorem dX12_lead_71 : decode cX12_lead 71 = .ok (.iload 5, 2) := by decide +kernel
theorem dX12_lead_73 : decode cX12_lead 73 = .ok (.aload_n 0, 1) := by decide +kernel
theorem dX12_lead_74 : decode cX12_lead 74 = .ok (.getfield 60, 3) := by decide +kernel
theorem dX12_lead_77 : decode cX12_lead 77 = .ok (.iload_n 2, 1) := by decide +kernel
theorem dX12_lead_78 : decode cX12_lead 78 = .ok (.iaload, 1) := by decide +kernel
theorem dX12_lead_79 : decode cX12_lead 79 = .ok (.if_icmp .ge 22, 3) := by decide +kernel
theorem dX12_lead_82 : decode cX12_lead 82 = .ok (.aload_n 0, 1) := by decide +kernel
theorem dX12_lead_83 : decode cX12_lead 83 = .ok (.getfield 75, 3) := by decide +kernel
theorem dX12_lead_86 : decode cX12_lead 86 = .ok (.bipush 20, 2) := by decide +kernel
theorem dX12_lead_88 : decode cX12_lead 88 = .ok (.iload_n 2, 1) := by decide +kernel
theorem dX12_lead_89 : decode cX12_lead 89 = .ok (.imul, 1) := by decide +kernel
theorem dX12_lead_90 : decode cX12_lead 90 = .ok (.iload 5, 2) := by decide +kernel
theorem dX12_lead_92 : decode cX12_lead 92 = .ok (.iadd, 1) := by decide +kernel
theorem dX12_lead_93 : decode cX12_lead 93 = .ok (.lload_n 3, 1) := by decide +kernel
theorem dX12_lead_94 : decode cX12_lead 94 = .ok (.lastore, 1) := by decide +kernel
theorem dX12_lead_95 : decode cX12_lead 95 = .ok (.iinc 5 1, 3) := by decide +kernel
theorem dX12_lead_98 : decode cX12_lead 98 = .ok (.goto (-27), 3) := by decide +kernel
theorem dX12_lead_101 : decode cX12_lead 101 = .ok (.aload_n 0, 1) := by decide +kernel
theorem dX12_lead_102 : decode cX12_lead 102 = .ok (.getfield 54, 3) := by decide +kernel
theorem dX12_lead_105 : decode cX12_lead 105 = .ok (.iload_n 2, 1) := by decide +kernel
theorem dX12_lead_106 : decode cX12_lead 106 = .ok (.lload_n 3, 1) := by decide +kernel
theorem dX12_lead_107 : decode cX12_lead 107 = .ok (.lastore, 1) := by decide +kernel
theorem dX12_lead_108 : decode cX12_lead 108 = .ok (.iinc 2 1, 3) := by decide +kernel
theorem dX12_lead_111 : decode cX12_lead 111 = .ok (.goto (-64), 3) := by decide +kernel
theorem dX12_lead_114 : decode cX12_lead 114 = .ok (.aload_n 0, 1) := by decide +kernel
theorem dX12_lead_115 : decode cX12_lead 115 = .ok (.getfield 207, 3) := by decide +kernel
theorem dX12_lead_118 : decode cX12_lead 118 = .ok (.ireturn, 1) := by decide +kernel
theorem dX12_send_0 : decode cX12_send 0 = .ok (.aload_n 0, 1) := by decide +kernel
theorem dX12_send_1 : decode cX12_send 1 = .ok (.getfield 178, 3) := by decide +kernel
theorem dX12_send_4 : decode cX12_send 4 = .ok (.istore 5, 2) := by decide +kernel
theorem dX12_send_6 : decode cX12_send 6 = .ok (.aload_n 0, 1) := by decide +kernel
theorem dX12_send_7 : decode cX12_send 7 = .ok (.dup, 1) := by decide +kernel
theorem dX12_send_8 : decode cX12_send 8 = .ok (.getfield 178, 3) := by decide +kernel
theorem dX12_send_11 : decode cX12_send 11 = .ok (.iconst 1, 1) := by decide +kernel
theorem dX12_send_12 : decode cX12_send 12 = .ok (.iadd, 1) := by decide +kernel
theorem dX12_send_13 : decode cX12_send 13 = .ok (.putfield 178, 3) := by decide +kernel
theorem dX12_send_16 : decode cX12_send 16 = .ok (.aload_n 0, 1) := by decide +kernel
theorem dX12_send_17 : decode cX12_send 17 = .ok (.getfield 100, 3) := by decide +kernel
theorem dX12_send_20 : decode cX12_send 20 = .ok (.iload 5, 2) := by decide +kernel
theorem dX12_send_22 : decode cX12_send 22 = .ok (.iload_n 1, 1) := by decide +kernel
theorem dX12_send_23 : decode cX12_send 23 = .ok (.iastore, 1) := by decide +kernel
theorem dX12_send_24 : decode cX12_send 24 = .ok (.aload_n 0, 1) := by decide +kernel
theorem dX12_send_25 : decode cX12_send 25 = .ok (.getfield 103, 3) := by decide +kernel
theorem dX12_send_28 : decode cX12_send 28 = .ok (.iload 5, 2) := by decide +kernel
theorem dX12_send_30 : decode cX12_send 30 = .ok (.iload_n 2, 1) := by decide +kernel
theorem dX12_send_31 : decode cX12_send 31 = .ok (.iastore, 1) := by decide +kernel
theorem dX12_send_32 : decode cX12_send 32 = .ok (.aload_n 0, 1) := by decide +kernel
theorem dX12_send_33 : decode cX12_send 33 = .ok (.getfield 106, 3) := by decide +kernel
theorem dX12_send_36 : decode cX12_send 36 = .ok (.iload 5, 2) := by decide +kernel
theorem dX12_send_38 : decode cX12_send 38 = .ok (.iload_n 3, 1) := by decide +kernel
theorem dX12_send_39 : decode cX12_send 39 = .ok (.iastore, 1) := by decide +kernel
theorem dX12_send_40 : decode cX12_send 40 = .ok (.aload_n 0, 1) := by decide +kernel
theorem dX12_send_41 : decode cX12_send 41 = .ok (.getfield 109, 3) := by decide +kernel
theorem dX12_send_44 : decode cX12_send 44 = .ok (.iload 5, 2) := by decide +kernel
theorem dX12_send_46 : decode cX12_send 46 = .ok (.iload 4, 2) := by decide +kernel
theorem dX12_send_48 : decode cX12_send 48 = .ok (.iastore, 1) := by decide +kernel
theorem dX12_send_49 : decode cX12_send 49 = .ok (.aload_n 0, 1) := by decide +kernel
theorem dX12_send_50 : decode cX12_send 50 = .ok (.getfield 112, 3) := by decide +kernel
theorem dX12_send_53 : decode cX12_send 53 = .ok (.iload 5, 2) := by decide +kernel
theorem dX12_send_55 : decode cX12_send 55 = .ok (.iconst 0, 1) := by decide +kernel
theorem dX12_send_56 : decode cX12_send 56 = .ok (.iastore, 1) := by decide +kernel
theorem dX12_send_57 : decode cX12_send 57 = .ok (.aload_n 0, 1) := by decide +kernel
theorem dX12_send_58 : decode cX12_send 58 = .ok (.getfield 115, 3) := by decide +kernel
theorem dX12_send_61 : decode cX12_send 61 = .ok (.iload 5, 2) := by decide +kernel
theorem dX12_send_63 : decode cX12_send 63 = .ok (.iconst 0, 1) := by decide +kernel
theorem dX12_send_64 : decode cX12_send 64 = .ok (.iastore, 1) := by decide +kernel
theorem dX12_send_65 : decode cX12_send 65 = .ok (.aload_n 0, 1) := by decide +kernel
theorem dX12_send_66 : decode cX12_send 66 = .ok (.getfield 118, 3) := by decide +kernel
theorem dX12_send_69 : decode cX12_send 69 = .ok (.iload 5, 2) := by decide +kernel
theorem dX12_send_71 : decode cX12_send 71 = .ok (.iconst 0, 1) := by decide +kernel
theorem dX12_send_72 : decode cX12_send 72 = .ok (.iastore, 1) := by decide +kernel
theorem dX12_send_73 : decode cX12_send 73 = .ok (.aload_n 0, 1) := by decide +kernel
theorem dX12_send_74 : decode cX12_send 74 = .ok (.getfield 121, 3) := by decide +kernel
theorem dX12_send_77 : decode cX12_send 77 = .ok (.iload 5, 2) := by decide +kernel
theorem dX12_send_79 : decode cX12_send 79 = .ok (.iconst 0, 1) := by decide +kernel
theorem dX12_send_80 : decode cX12_send 80 = .ok (.iastore, 1) := by decide +kernel
theorem dX12_send_81 : decode cX12_send 81 = .ok (.aload_n 0, 1) := by decide +kernel
theorem dX12_send_82 : decode cX12_send 82 = .ok (.getfield 124, 3) := by decide +kernel
theorem dX12_send_85 : decode cX12_send 85 = .ok (.iload 5, 2) := by decide +kernel
theorem dX12_send_87 : decode cX12_send 87 = .ok (.lconst 0, 1) := by decide +kernel
theorem dX12_send_88 : decode cX12_send 88 = .ok (.lastore, 1) := by decide +kernel
theorem dX12_send_89 : decode cX12_send 89 = .ok (.aload_n 0, 1) := by decide +kernel
theorem dX12_send_90 : decode cX12_send 90 = .ok (.getfield 127, 3) := by decide +kernel
theorem dX12_send_93 : decode cX12_send 93 = .ok (.iload 5, 2) := by decide +kernel
theorem dX12_send_95 : decode cX12_send 95 = .ok (.lconst 0, 1) := by decide +kernel
theorem dX12_send_96 : decode cX12_send 96 = .ok (.lastore, 1) := by decide +kernel
theorem dX12_send_97 : decode cX12_send 97 = .ok (.iload 5, 2) := by decide +kernel
theorem dX12_send_99 : decode cX12_send 99 = .ok (.ireturn, 1) := by decide +kernel
theorem dX12_areThere_0 : decode cX12_areThere 0 = .ok (.aload_n 0, 1) := by decide +kernel
theorem dX12_areThere_1 : decode cX12_areThere 1 = .ok (.iload_n 1, 1) := by decide +kernel
theorem dX12_areThere_2 : decode cX12_areThere 2 = .ok (.invokevirtual 191, 3) := by decide +kernel
theorem dX12_areThere_5 : decode cX12_areThere 5 = .ok (.ifCond .eq 23, 3) := by decide +kernel
theorem dX12_areThere_8 : decode cX12_areThere 8 = .ok (.aload_n 0, 1) := by decide +kernel
theorem dX12_areThere_9 : decode cX12_areThere 9 = .ok (.iload_n 2, 1) := by decide +kernel
theorem dX12_areThere_10 : decode cX12_areThere 10 = .ok (.invokevirtual 183, 3) := by decide +kernel
theorem dX12_areThere_13 : decode cX12_areThere 13 = .ok (.ifCond .eq 15, 3) := by decide +kernel
theorem dX12_areThere_16 : decode cX12_areThere 16 = .ok (.aload_n 0, 1) := by decide +kernel
theorem dX12_areThere_17 : decode cX12_areThere 17 = .ok (.iload_n 3, 1) := by decide +kernel
theorem dX12_areThere_18 : decode cX12_areThere 18 = .ok (.invokevirtual 214, 3) := by decide +kernel
theorem dX12_areThere_21 : decode cX12_areThere 21 = .ok (.ifCond .eq 7, 3) := by decide +kernel
theorem dX12_areThere_24 : decode cX12_areThere 24 = .ok (.iconst 1, 1) := by decide +kernel
theorem dX12_areThere_25 : decode cX12_areThere 25 = .ok (.goto 4, 3) := by decide +kernel
theorem dX12_areThere_28 : decode cX12_areThere 28 = .ok (.iconst 0, 1) := by decide +kernel
theorem dX12_areThere_29 : decode cX12_areThere 29 = .ok (.ireturn, 1) := by decide +kernel
theorem dX12_marked_0 : decode cX12_marked 0 = .ok (.aload_n 0, 1) := by decide +kernel
theorem dX12_marked_1 : decode cX12_marked 1 = .ok (.getfield 178, 3) := by decide +kernel
theorem dX12_marked_4 : decode cX12_marked 4 = .ok (.sipush 400, 3) := by decide +kernel
theorem dX12_marked_7 : decode cX12_marked 7 = .ok (.if_icmp .ne 6, 3) := by decide +kernel
theorem dX12_marked_10 : decode cX12_marked 10 = .ok (.bipush (-4), 2) := by decide +kernel
theorem dX12_marked_12 : decode cX12_marked 12 = .ok (.ireturn, 1) := by decide +kernel
theorem dX12_marked_13 : decode cX12_marked 13 = .ok (.aload_n 0, 1) := by decide +kernel
theorem dX12_marked_14 : decode cX12_marked 14 = .ok (.iload_n 1, 1) := by decide +kernel
theorem dX12_marked_15 : decode cX12_marked 15 = .ok (.iload_n 2, 1) := by decide +kernel
theorem dX12_marked_16 : decode cX12_marked 16 = .ok (.iload_n 3, 1) := by decide +kernel
theorem dX12_marked_17 : decode cX12_marked 17 = .ok (.iload 4, 2) := by decide +kernel
theorem dX12_marked_19 : decode cX12_marked 19 = .ok (.invokevirtual 217, 3) := by decide +kernel
theorem dX12_marked_22 : decode cX12_marked 22 = .ok (.istore 9, 2) := by decide +kernel
theorem dX12_marked_24 : decode cX12_marked 24 = .ok (.aload_n 0, 1) := by decide +kernel
theorem dX12_marked_25 : decode cX12_marked 25 = .ok (.getfield 112, 3) := by decide +kernel
theorem dX12_marked_28 : decode cX12_marked 28 = .ok (.iload 9, 2) := by decide +kernel
theorem dX12_marked_30 : decode cX12_marked 30 = .ok (.iload 5, 2) := by decide +kernel
theorem dX12_marked_32 : decode cX12_marked 32 = .ok (.iastore, 1) := by decide +kernel
theorem dX12_marked_33 : decode cX12_marked 33 = .ok (.aload_n 0, 1) := by decide +kernel
theorem dX12_marked_34 : decode cX12_marked 34 = .ok (.getfield 115, 3) := by decide +kernel
theorem dX12_marked_37 : decode cX12_marked 37 = .ok (.iload 9, 2) := by decide +kernel
theorem dX12_marked_39 : decode cX12_marked 39 = .ok (.iload 6, 2) := by decide +kernel
theorem dX12_marked_41 : decode cX12_marked 41 = .ok (.iastore, 1) := by decide +kernel
theorem dX12_marked_42 : decode cX12_marked 42 = .ok (.aload_n 0, 1) := by decide +kernel
theorem dX12_marked_43 : decode cX12_marked 43 = .ok (.getfield 124, 3) := by decide +kernel
theorem dX12_marked_46 : decode cX12_marked 46 = .ok (.iload 9, 2) := by decide +kernel
theorem dX12_marked_48 : decode cX12_marked 48 = .ok (.lload 7, 2) := by decide +kernel
theorem dX12_marked_50 : decode cX12_marked 50 = .ok (.lastore, 1) := by decide +kernel
theorem dX12_marked_51 : decode cX12_marked 51 = .ok (.aload_n 0, 1) := by decide +kernel
theorem dX12_marked_52 : decode cX12_marked 52 = .ok (.getfield 26, 3) := by decide +kernel
theorem dX12_marked_55 : decode cX12_marked 55 = .ok (.iload_n 2, 1) := by decide +kernel
theorem dX12_marked_56 : decode cX12_marked 56 = .ok (.dup2, 1) := by decide +kernel
theorem dX12_marked_57 : decode cX12_marked 57 = .ok (.iaload, 1) := by decide +kernel
theorem dX12_marked_58 : decode cX12_marked 58 = .ok (.iconst 1, 1) := by decide +kernel
theorem dX12_marked_59 : decode cX12_marked 59 = .ok (.iadd, 1) := by decide +kernel
theorem dX12_marked_60 : decode cX12_marked 60 = .ok (.iastore, 1) := by decide +kernel
theorem dX12_marked_61 : decode cX12_marked 61 = .ok (.aload_n 0, 1) := by decide +kernel
theorem dX12_marked_62 : decode cX12_marked 62 = .ok (.getfield 121, 3) := by decide +kernel
theorem dX12_marked_65 : decode cX12_marked 65 = .ok (.iload 9, 2) := by decide +kernel
theorem dX12_marked_67 : decode cX12_marked 67 = .ok (.aload_n 0, 1) := by decide +kernel
theorem dX12_marked_68 : decode cX12_marked 68 = .ok (.getfield 26, 3) := by decide +kernel
theorem dX12_marked_71 : decode cX12_marked 71 = .ok (.iload_n 2, 1) := by decide +kernel
theorem dX12_marked_72 : decode cX12_marked 72 = .ok (.iaload, 1) := by decide +kernel
theorem dX12_marked_73 : decode cX12_marked 73 = .ok (.iastore, 1) := by decide +kernel
theorem dX12_marked_74 : decode cX12_marked 74 = .ok (.aload_n 0, 1) := by decide +kernel
theorem dX12_marked_75 : decode cX12_marked 75 = .ok (.getfield 127, 3) := by decide +kernel
theorem dX12_marked_78 : decode cX12_marked 78 = .ok (.iload 9, 2) := by decide +kernel
theorem dX12_marked_80 : decode cX12_marked 80 = .ok (.aload_n 0, 1) := by decide +kernel
theorem dX12_marked_81 : decode cX12_marked 81 = .ok (.iload_n 2, 1) := by decide +kernel
theorem dX12_marked_82 : decode cX12_marked 82 = .ok (.invokevirtual 194, 3) := by decide +kernel
theorem dX12_marked_85 : decode cX12_marked 85 = .ok (.lastore, 1) := by decide +kernel
theorem dX12_marked_86 : decode cX12_marked 86 = .ok (.aload_n 0, 1) := by decide +kernel
theorem dX12_marked_87 : decode cX12_marked 87 = .ok (.getfield 91, 3) := by decide +kernel
theorem dX12_marked_90 : decode cX12_marked 90 = .ok (.bipush 20, 2) := by decide +kernel
theorem dX12_marked_92 : decode cX12_marked 92 = .ok (.iload_n 2, 1) := by decide +kernel
theorem dX12_marked_93 : decode cX12_marked 93 = .ok (.imul, 1) := by decide +kernel
theorem dX12_marked_94 : decode cX12_marked 94 = .ok (.iload 4, 2) := by decide +kernel
theorem dX12_marked_96 : decode cX12_marked 96 = .ok (.iadd, 1) := by decide +kernel
theorem dX12_marked_97 : decode cX12_marked 97 = .ok (.aload_n 0, 1) := by decide +kernel
theorem dX12_marked_98 : decode cX12_marked 98 = .ok (.getfield 26, 3) := by decide +kernel
theorem dX12_marked_101 : decode cX12_marked 101 = .ok (.iload_n 2, 1) := by decide +kernel
theorem dX12_marked_102 : decode cX12_marked 102 = .ok (.iaload, 1) := by decide +kernel
theorem dX12_marked_103 : decode cX12_marked 103 = .ok (.iastore, 1) := by decide +kernel
theorem dX12_marked_104 : decode cX12_marked 104 = .ok (.iload 9, 2) := by decide +kernel
theorem dX12_marked_106 : decode cX12_marked 106 = .ok (.ireturn, 1) := by decide +kernel
theorem dX12_ask_0 : decode cX12_ask 0 = .ok (.aload_n 0, 1) := by decide +kernel
theorem dX12_ask_1 : decode cX12_ask 1 = .ok (.iload_n 1, 1) := by decide +kernel
theorem dX12_ask_2 : decode cX12_ask 2 = .ok (.iload_n 2, 1) := by decide +kernel
theorem dX12_ask_3 : decode cX12_ask 3 = .ok (.iload_n 3, 1) := by decide +kernel
theorem dX12_ask_4 : decode cX12_ask 4 = .ok (.invokevirtual 221, 3) := by decide +kernel
theorem dX12_ask_7 : decode cX12_ask 7 = .ok (.ifCond .ne 6, 3) := by decide +kernel
theorem dX12_ask_10 : decode cX12_ask 10 = .ok (.bipush (-2), 2) := by decide +kernel
theorem dX12_ask_12 : decode cX12_ask 12 = .ok (.ireturn, 1) := by decide +kernel
theorem dX12_ask_13 : decode cX12_ask 13 = .ok (.aload_n 0, 1) := by decide +kernel
theorem dX12_ask_14 : decode cX12_ask 14 = .ok (.getfield 32, 3) := by decide +kernel
theorem dX12_ask_17 : decode cX12_ask 17 = .ok (.iload_n 3, 1) := by decide +kernel
theorem dX12_ask_18 : decode cX12_ask 18 = .ok (.iaload, 1) := by decide +kernel
theorem dX12_ask_19 : decode cX12_ask 19 = .ok (.iconst 1, 1) := by decide +kernel
theorem dX12_ask_20 : decode cX12_ask 20 = .ok (.if_icmp .eq 13, 3) := by decide +kernel
theorem dX12_ask_23 : decode cX12_ask 23 = .ok (.aload_n 0, 1) := by decide +kernel
theorem dX12_ask_24 : decode cX12_ask 24 = .ok (.getfield 32, 3) := by decide +kernel
theorem dX12_ask_27 : decode cX12_ask 27 = .ok (.iload_n 3, 1) := by decide +kernel
theorem dX12_ask_28 : decode cX12_ask 28 = .ok (.iaload, 1) := by decide +kernel
theorem dX12_ask_29 : decode cX12_ask 29 = .ok (.iconst 3, 1) := by decide +kernel
theorem dX12_ask_30 : decode cX12_ask 30 = .ok (.if_icmp .ne 7, 3) := by decide +kernel
theorem dX12_ask_33 : decode cX12_ask 33 = .ok (.iconst 1, 1) := by decide +kernel
theorem dX12_ask_34 : decode cX12_ask 34 = .ok (.goto 4, 3) := by decide +kernel
theorem dX12_ask_37 : decode cX12_ask 37 = .ok (.iconst 0, 1) := by decide +kernel
theorem dX12_ask_38 : decode cX12_ask 38 = .ok (.istore 6, 2) := by decide +kernel
theorem dX12_ask_40 : decode cX12_ask 40 = .ok (.iload 4, 2) := by decide +kernel
theorem dX12_ask_42 : decode cX12_ask 42 = .ok (.ifCond .eq 14, 3) := by decide +kernel
theorem dX12_ask_45 : decode cX12_ask 45 = .ok (.iload 4, 2) := by decide +kernel
theorem dX12_ask_47 : decode cX12_ask 47 = .ok (.iconst 1, 1) := by decide +kernel
theorem dX12_ask_48 : decode cX12_ask 48 = .ok (.if_icmp .ne 45, 3) := by decide +kernel
theorem dX12_ask_51 : decode cX12_ask 51 = .ok (.iload 6, 2) := by decide +kernel
theorem dX12_ask_53 : decode cX12_ask 53 = .ok (.ifCond .eq 40, 3) := by decide +kernel
theorem dX12_ask_56 : decode cX12_ask 56 = .ok (.aload_n 0, 1) := by decide +kernel
theorem dX12_ask_57 : decode cX12_ask 57 = .ok (.getfield 32, 3) := by decide +kernel
theorem dX12_ask_60 : decode cX12_ask 60 = .ok (.iload_n 3, 1) := by decide +kernel
theorem dX12_ask_61 : decode cX12_ask 61 = .ok (.iaload, 1) := by decide +kernel
theorem dX12_ask_62 : decode cX12_ask 62 = .ok (.iconst 2, 1) := by decide +kernel
theorem dX12_ask_63 : decode cX12_ask 63 = .ok (.if_icmp .ne 21, 3) := by decide +kernel
theorem dX12_ask_66 : decode cX12_ask 66 = .ok (.iload 5, 2) := by decide +kernel
theorem dX12_ask_68 : decode cX12_ask 68 = .ok (.iconst 1, 1) := by decide +kernel
theorem dX12_ask_69 : decode cX12_ask 69 = .ok (.aload_n 0, 1) := by decide +kernel
theorem dX12_ask_70 : decode cX12_ask 70 = .ok (.getfield 38, 3) := by decide +kernel
theorem dX12_ask_73 : decode cX12_ask 73 = .ok (.iload_n 3, 1) := by decide +kernel
theorem dX12_ask_74 : decode cX12_ask 74 = .ok (.iaload, 1) := by decide +kernel
theorem dX12_ask_75 : decode cX12_ask 75 = .ok (.invokestatic 153, 3) := by decide +kernel
theorem dX12_ask_78 : decode cX12_ask 78 = .ok (.ifCond .eq 15, 3) := by decide +kernel
theorem dX12_ask_81 : decode cX12_ask 81 = .ok (.goto 8, 3) := by decide +kernel
theorem dX12_ask_84 : decode cX12_ask 84 = .ok (.iload 5, 2) := by decide +kernel
theorem dX12_ask_86 : decode cX12_ask 86 = .ok (.ifCond .ne 7, 3) := by decide +kernel
theorem dX12_ask_89 : decode cX12_ask 89 = .ok (.iconst 1, 1) := by decide +kernel
theorem dX12_ask_90 : decode cX12_ask 90 = .ok (.goto 4, 3) := by decide +kernel
theorem dX12_ask_93 : decode cX12_ask 93 = .ok (.iconst 0, 1) := by decide +kernel
theorem dX12_ask_94 : decode cX12_ask 94 = .ok (.istore 7, 2) := by decide +kernel
theorem dX12_ask_96 : decode cX12_ask 96 = .ok (.iload 7, 2) := by decide +kernel
theorem dX12_ask_98 : decode cX12_ask 98 = .ok (.ifCond .ne 6, 3) := by decide +kernel
theorem dX12_ask_101 : decode cX12_ask 101 = .ok (.bipush (-2), 2) := by decide +kernel
theorem dX12_ask_103 : decode cX12_ask 103 = .ok (.ireturn, 1) := by decide +kernel
theorem dX12_ask_104 : decode cX12_ask 104 = .ok (.aload_n 0, 1) := by decide +kernel
theorem dX12_ask_105 : decode cX12_ask 105 = .ok (.getfield 29, 3) := by decide +kernel
theorem dX12_ask_108 : decode cX12_ask 108 = .ok (.iload_n 1, 1) := by decide +kernel
theorem dX12_ask_109 : decode cX12_ask 109 = .ok (.baload, 1) := by decide +kernel
theorem dX12_ask_110 : decode cX12_ask 110 = .ok (.ifCond .ne 6, 3) := by decide +kernel
theorem dX12_ask_113 : decode cX12_ask 113 = .ok (.bipush (-3), 2) := by decide +kernel
theorem dX12_ask_115 : decode cX12_ask 115 = .ok (.ireturn, 1) := by decide +kernel
theorem dX12_ask_116 : decode cX12_ask 116 = .ok (.aload_n 0, 1) := by decide +kernel
theorem dX12_ask_117 : decode cX12_ask 117 = .ok (.iconst 0, 1) := by decide +kernel
theorem dX12_ask_118 : decode cX12_ask 118 = .ok (.iload_n 1, 1) := by decide +kernel
theorem dX12_ask_119 : decode cX12_ask 119 = .ok (.iload_n 2, 1) := by decide +kernel
theorem dX12_ask_120 : decode cX12_ask 120 = .ok (.iload_n 3, 1) := by decide +kernel
theorem dX12_ask_121 : decode cX12_ask 121 = .ok (.iload 4, 2) := by decide +kernel
theorem dX12_ask_123 : decode cX12_ask 123 = .ok (.iload 5, 2) := by decide +kernel
theorem dX12_ask_125 : decode cX12_ask 125 = .ok (.lconst 0, 1) := by decide +kernel
theorem dX12_ask_126 : decode cX12_ask 126 = .ok (.invokevirtual 224, 3) := by decide +kernel
theorem dX12_ask_129 : decode cX12_ask 129 = .ok (.ireturn, 1) := by decide +kernel
theorem dX12_renew_0 : decode cX12_renew 0 = .ok (.aload_n 0, 1) := by decide +kernel
theorem dX12_renew_1 : decode cX12_renew 1 = .ok (.iload_n 1, 1) := by decide +kernel
theorem dX12_renew_2 : decode cX12_renew 2 = .ok (.iload_n 2, 1) := by decide +kernel
theorem dX12_renew_3 : decode cX12_renew 3 = .ok (.iload_n 3, 1) := by decide +kernel
theorem dX12_renew_4 : decode cX12_renew 4 = .ok (.invokevirtual 221, 3) := by decide +kernel
theorem dX12_renew_7 : decode cX12_renew 7 = .ok (.ifCond .ne 6, 3) := by decide +kernel
theorem dX12_renew_10 : decode cX12_renew 10 = .ok (.bipush (-2), 2) := by decide +kernel
theorem dX12_renew_12 : decode cX12_renew 12 = .ok (.ireturn, 1) := by decide +kernel
theorem dX12_renew_13 : decode cX12_renew 13 = .ok (.bipush 20, 2) := by decide +kernel
theorem dX12_renew_15 : decode cX12_renew 15 = .ok (.iload_n 1, 1) := by decide +kernel
theorem dX12_renew_16 : decode cX12_renew 16 = .ok (.imul, 1) := by decide +kernel
theorem dX12_renew_17 : decode cX12_renew 17 = .ok (.iload_n 3, 1) := by decide +kernel
theorem dX12_renew_18 : decode cX12_renew 18 = .ok (.iadd, 1) := by decide +kernel
theorem dX12_renew_19 : decode cX12_renew 19 = .ok (.istore 4, 2) := by decide +kernel
theorem dX12_renew_21 : decode cX12_renew 21 = .ok (.aload_n 0, 1) := by decide +kernel
theorem dX12_renew_22 : decode cX12_renew 22 = .ok (.getfield 29, 3) := by decide +kernel
theorem dX12_renew_25 : decode cX12_renew 25 = .ok (.iload_n 1, 1) := by decide +kernel
theorem dX12_renew_26 : decode cX12_renew 26 = .ok (.baload, 1) := by decide +kernel
theorem dX12_renew_27 : decode cX12_renew 27 = .ok (.ifCond .eq 13, 3) := by decide +kernel
theorem dX12_renew_30 : decode cX12_renew 30 = .ok (.aload_n 0, 1) := by decide +kernel
theorem dX12_renew_31 : decode cX12_renew 31 = .ok (.getfield 82, 3) := by decide +kernel
theorem dX12_renew_34 : decode cX12_renew 34 = .ok (.iload 4, 2) := by decide +kernel
theorem dX12_renew_36 : decode cX12_renew 36 = .ok (.baload, 1) := by decide +kernel
theorem dX12_renew_37 : decode cX12_renew 37 = .ok (.ifCond .ne 6, 3) := by decide +kernel
theorem dX12_renew_40 : decode cX12_renew 40 = .ok (.bipush (-3), 2) := by decide +kernel
theorem dX12_renew_42 : decode cX12_renew 42 = .ok (.ireturn, 1) := by decide +kernel
theorem dX12_renew_43 : decode cX12_renew 43 = .ok (.aload_n 0, 1) := by decide +kernel
theorem dX12_renew_44 : decode cX12_renew 44 = .ok (.iconst 1, 1) := by decide +kernel
theorem dX12_renew_45 : decode cX12_renew 45 = .ok (.iload_n 1, 1) := by decide +kernel
theorem dX12_renew_46 : decode cX12_renew 46 = .ok (.iload_n 2, 1) := by decide +kernel
theorem dX12_renew_47 : decode cX12_renew 47 = .ok (.iload_n 3, 1) := by decide +kernel
theorem dX12_renew_48 : decode cX12_renew 48 = .ok (.aload_n 0, 1) := by decide +kernel
theorem dX12_renew_49 : decode cX12_renew 49 = .ok (.getfield 85, 3) := by decide +kernel
theorem dX12_renew_52 : decode cX12_renew 52 = .ok (.iload 4, 2) := by decide +kernel
theorem dX12_renew_54 : decode cX12_renew 54 = .ok (.iaload, 1) := by decide +kernel
theorem dX12_renew_55 : decode cX12_renew 55 = .ok (.aload_n 0, 1) := by decide +kernel
theorem dX12_renew_56 : decode cX12_renew 56 = .ok (.getfield 88, 3) := by decide +kernel
theorem dX12_renew_59 : decode cX12_renew 59 = .ok (.iload 4, 2) := by decide +kernel
theorem dX12_renew_61 : decode cX12_renew 61 = .ok (.iaload, 1) := by decide +kernel
theorem dX12_renew_62 : decode cX12_renew 62 = .ok (.aload_n 0, 1) := by decide +kernel
theorem dX12_renew_63 : decode cX12_renew 63 = .ok (.getfield 94, 3) := by decide +kernel
theorem dX12_renew_66 : decode cX12_renew 66 = .ok (.iload 4, 2) := by decide +kernel
theorem dX12_renew_68 : decode cX12_renew 68 = .ok (.laload, 1) := by decide +kernel
theorem dX12_renew_69 : decode cX12_renew 69 = .ok (.invokevirtual 224, 3) := by decide +kernel
theorem dX12_renew_72 : decode cX12_renew 72 = .ok (.ireturn, 1) := by decide +kernel
theorem dX12_end_0 : decode cX12_end 0 = .ok (.aload_n 0, 1) := by decide +kernel
theorem dX12_end_1 : decode cX12_end 1 = .ok (.iload_n 1, 1) := by decide +kernel
theorem dX12_end_2 : decode cX12_end 2 = .ok (.iload_n 2, 1) := by decide +kernel
theorem dX12_end_3 : decode cX12_end 3 = .ok (.iload_n 3, 1) := by decide +kernel
theorem dX12_end_4 : decode cX12_end 4 = .ok (.invokevirtual 221, 3) := by decide +kernel
theorem dX12_end_7 : decode cX12_end 7 = .ok (.ifCond .ne 6, 3) := by decide +kernel
theorem dX12_end_10 : decode cX12_end 10 = .ok (.bipush (-2), 2) := by decide +kernel
theorem dX12_end_12 : decode cX12_end 12 = .ok (.ireturn, 1) := by decide +kernel
theorem dX12_end_13 : decode cX12_end 13 = .ok (.bipush 20, 2) := by decide +kernel
theorem dX12_end_15 : decode cX12_end 15 = .ok (.iload_n 1, 1) := by decide +kernel
theorem dX12_end_16 : decode cX12_end 16 = .ok (.imul, 1) := by decide +kernel
theorem dX12_end_17 : decode cX12_end 17 = .ok (.iload_n 3, 1) := by decide +kernel
theorem dX12_end_18 : decode cX12_end 18 = .ok (.iadd, 1) := by decide +kernel
theorem dX12_end_19 : decode cX12_end 19 = .ok (.istore 4, 2) := by decide +kernel
theorem dX12_end_21 : decode cX12_end 21 = .ok (.aload_n 0, 1) := by decide +kernel
theorem dX12_end_22 : decode cX12_end 22 = .ok (.getfield 29, 3) := by decide +kernel
theorem dX12_end_25 : decode cX12_end 25 = .ok (.iload_n 1, 1) := by decide +kernel
theorem dX12_end_26 : decode cX12_end 26 = .ok (.baload, 1) := by decide +kernel
theorem dX12_end_27 : decode cX12_end 27 = .ok (.ifCond .eq 13, 3) := by decide +kernel
theorem dX12_end_30 : decode cX12_end 30 = .ok (.aload_n 0, 1) := by decide +kernel
theorem dX12_end_31 : decode cX12_end 31 = .ok (.getfield 82, 3) := by decide +kernel
theorem dX12_end_34 : decode cX12_end 34 = .ok (.iload 4, 2) := by decide +kernel
theorem dX12_end_36 : decode cX12_end 36 = .ok (.baload, 1) := by decide +kernel
theorem dX12_end_37 : decode cX12_end 37 = .ok (.ifCond .ne 6, 3) := by decide +kernel
theorem dX12_end_40 : decode cX12_end 40 = .ok (.bipush (-3), 2) := by decide +kernel
theorem dX12_end_42 : decode cX12_end 42 = .ok (.ireturn, 1) := by decide +kernel
theorem dX12_end_43 : decode cX12_end 43 = .ok (.aload_n 0, 1) := by decide +kernel
theorem dX12_end_44 : decode cX12_end 44 = .ok (.getfield 178, 3) := by decide +kernel
theorem dX12_end_47 : decode cX12_end 47 = .ok (.sipush 400, 3) := by decide +kernel
theorem dX12_end_50 : decode cX12_end 50 = .ok (.if_icmp .ne 6, 3) := by decide +kernel
theorem dX12_end_53 : decode cX12_end 53 = .ok (.bipush (-4), 2) := by decide +kernel
theorem dX12_end_55 : decode cX12_end 55 = .ok (.ireturn, 1) := by decide +kernel
theorem dX12_end_56 : decode cX12_end 56 = .ok (.aload_n 0, 1) := by decide +kernel
theorem dX12_end_57 : decode cX12_end 57 = .ok (.iconst 2, 1) := by decide +kernel
theorem dX12_end_58 : decode cX12_end 58 = .ok (.iload_n 1, 1) := by decide +kernel
theorem dX12_end_59 : decode cX12_end 59 = .ok (.iload_n 2, 1) := by decide +kernel
theorem dX12_end_60 : decode cX12_end 60 = .ok (.iload_n 3, 1) := by decide +kernel
theorem dX12_end_61 : decode cX12_end 61 = .ok (.invokevirtual 217, 3) := by decide +kernel
theorem dX12_end_64 : decode cX12_end 64 = .ok (.istore 5, 2) := by decide +kernel
theorem dX12_end_66 : decode cX12_end 66 = .ok (.aload_n 0, 1) := by decide +kernel
theorem dX12_end_67 : decode cX12_end 67 = .ok (.getfield 112, 3) := by decide +kernel
theorem dX12_end_70 : decode cX12_end 70 = .ok (.iload 5, 2) := by decide +kernel
theorem dX12_end_72 : decode cX12_end 72 = .ok (.aload_n 0, 1) := by decide +kernel
theorem dX12_end_73 : decode cX12_end 73 = .ok (.getfield 85, 3) := by decide +kernel
theorem dX12_end_76 : decode cX12_end 76 = .ok (.iload 4, 2) := by decide +kernel
theorem dX12_end_78 : decode cX12_end 78 = .ok (.iaload, 1) := by decide +kernel
theorem dX12_end_79 : decode cX12_end 79 = .ok (.iastore, 1) := by decide +kernel
theorem dX12_end_80 : decode cX12_end 80 = .ok (.aload_n 0, 1) := by decide +kernel
theorem dX12_end_81 : decode cX12_end 81 = .ok (.getfield 115, 3) := by decide +kernel
theorem dX12_end_84 : decode cX12_end 84 = .ok (.iload 5, 2) := by decide +kernel
theorem dX12_end_86 : decode cX12_end 86 = .ok (.aload_n 0, 1) := by decide +kernel
theorem dX12_end_87 : decode cX12_end 87 = .ok (.getfield 88, 3) := by decide +kernel
theorem dX12_end_90 : decode cX12_end 90 = .ok (.iload 4, 2) := by decide +kernel
theorem dX12_end_92 : decode cX12_end 92 = .ok (.iaload, 1) := by decide +kernel
theorem dX12_end_93 : decode cX12_end 93 = .ok (.iastore, 1) := by decide +kernel
theorem dX12_end_94 : decode cX12_end 94 = .ok (.aload_n 0, 1) := by decide +kernel
theorem dX12_end_95 : decode cX12_end 95 = .ok (.getfield 124, 3) := by decide +kernel
theorem dX12_end_98 : decode cX12_end 98 = .ok (.iload 5, 2) := by decide +kernel
theorem dX12_end_100 : decode cX12_end 100 = .ok (.aload_n 0, 1) := by decide +kernel
theorem dX12_end_101 : decode cX12_end 101 = .ok (.getfield 94, 3) := by decide +kernel
theorem dX12_end_104 : decode cX12_end 104 = .ok (.iload 4, 2) := by decide +kernel
theorem dX12_end_106 : decode cX12_end 106 = .ok (.laload, 1) := by decide +kernel
theorem dX12_end_107 : decode cX12_end 107 = .ok (.lastore, 1) := by decide +kernel
theorem dX12_end_108 : decode cX12_end 108 = .ok (.aload_n 0, 1) := by decide +kernel
theorem dX12_end_109 : decode cX12_end 109 = .ok (.getfield 82, 3) := by decide +kernel
theorem dX12_end_112 : decode cX12_end 112 = .ok (.iload 4, 2) := by decide +kernel
theorem dX12_end_114 : decode cX12_end 114 = .ok (.iconst 0, 1) := by decide +kernel
theorem dX12_end_115 : decode cX12_end 115 = .ok (.bastore, 1) := by decide +kernel
theorem dX12_end_116 : decode cX12_end 116 = .ok (.aload_n 0, 1) := by decide +kernel
theorem dX12_end_117 : decode cX12_end 117 = .ok (.getfield 91, 3) := by decide +kernel
theorem dX12_end_120 : decode cX12_end 120 = .ok (.iload 4, 2) := by decide +kernel
theorem dX12_end_122 : decode cX12_end 122 = .ok (.iconst 0, 1) := by decide +kernel
theorem dX12_end_123 : decode cX12_end 123 = .ok (.iastore, 1) := by decide +kernel
theorem dX12_end_124 : decode cX12_end 124 = .ok (.iload 5, 2) := by decide +kernel
theorem dX12_end_126 : decode cX12_end 126 = .ok (.ireturn, 1) := by decide +kernel
theorem dX12_rise_0 : decode cX12_rise 0 = .ok (.aload_n 0, 1) := by decide +kernel
theorem dX12_rise_1 : decode cX12_rise 1 = .ok (.iload_n 1, 1) := by decide +kernel
theorem dX12_rise_2 : decode cX12_rise 2 = .ok (.iload_n 2, 1) := by decide +kernel
theorem dX12_rise_3 : decode cX12_rise 3 = .ok (.iload_n 3, 1) := by decide +kernel
theorem dX12_rise_4 : decode cX12_rise 4 = .ok (.invokevirtual 221, 3) := by decide +kernel
theorem dX12_rise_7 : decode cX12_rise 7 = .ok (.ifCond .eq 13, 3) := by decide +kernel
theorem dX12_rise_10 : decode cX12_rise 10 = .ok (.aload_n 0, 1) := by decide +kernel
theorem dX12_rise_11 : decode cX12_rise 11 = .ok (.getfield 32, 3) := by decide +kernel
theorem dX12_rise_14 : decode cX12_rise 14 = .ok (.iload_n 3, 1) := by decide +kernel
theorem dX12_rise_15 : decode cX12_rise 15 = .ok (.iaload, 1) := by decide +kernel
theorem dX12_rise_16 : decode cX12_rise 16 = .ok (.iconst 3, 1) := by decide +kernel
theorem dX12_rise_17 : decode cX12_rise 17 = .ok (.if_icmp .eq 6, 3) := by decide +kernel
theorem dX12_rise_20 : decode cX12_rise 20 = .ok (.bipush (-2), 2) := by decide +kernel
theorem dX12_rise_22 : decode cX12_rise 22 = .ok (.ireturn, 1) := by decide +kernel
theorem dX12_rise_23 : decode cX12_rise 23 = .ok (.bipush 20, 2) := by decide +kernel
theorem dX12_rise_25 : decode cX12_rise 25 = .ok (.iload_n 1, 1) := by decide +kernel
theorem dX12_rise_26 : decode cX12_rise 26 = .ok (.imul, 1) := by decide +kernel
theorem dX12_rise_27 : decode cX12_rise 27 = .ok (.iload_n 3, 1) := by decide +kernel
theorem dX12_rise_28 : decode cX12_rise 28 = .ok (.iadd, 1) := by decide +kernel
theorem dX12_rise_29 : decode cX12_rise 29 = .ok (.istore 4, 2) := by decide +kernel
theorem dX12_rise_31 : decode cX12_rise 31 = .ok (.aload_n 0, 1) := by decide +kernel
theorem dX12_rise_32 : decode cX12_rise 32 = .ok (.getfield 29, 3) := by decide +kernel
theorem dX12_rise_35 : decode cX12_rise 35 = .ok (.iload_n 1, 1) := by decide +kernel
theorem dX12_rise_36 : decode cX12_rise 36 = .ok (.baload, 1) := by decide +kernel
theorem dX12_rise_37 : decode cX12_rise 37 = .ok (.ifCond .eq 13, 3) := by decide +kernel
theorem dX12_rise_40 : decode cX12_rise 40 = .ok (.aload_n 0, 1) := by decide +kernel
theorem dX12_rise_41 : decode cX12_rise 41 = .ok (.getfield 82, 3) := by decide +kernel
theorem dX12_rise_44 : decode cX12_rise 44 = .ok (.iload 4, 2) := by decide +kernel
theorem dX12_rise_46 : decode cX12_rise 46 = .ok (.baload, 1) := by decide +kernel
theorem dX12_rise_47 : decode cX12_rise 47 = .ok (.ifCond .ne 6, 3) := by decide +kernel
theorem dX12_rise_50 : decode cX12_rise 50 = .ok (.bipush (-3), 2) := by decide +kernel
theorem dX12_rise_52 : decode cX12_rise 52 = .ok (.ireturn, 1) := by decide +kernel
theorem dX12_rise_53 : decode cX12_rise 53 = .ok (.aload_n 0, 1) := by decide +kernel
theorem dX12_rise_54 : decode cX12_rise 54 = .ok (.iconst 3, 1) := by decide +kernel
theorem dX12_rise_55 : decode cX12_rise 55 = .ok (.iload_n 1, 1) := by decide +kernel
theorem dX12_rise_56 : decode cX12_rise 56 = .ok (.iload_n 2, 1) := by decide +kernel
theorem dX12_rise_57 : decode cX12_rise 57 = .ok (.iload_n 3, 1) := by decide +kernel
theorem dX12_rise_58 : decode cX12_rise 58 = .ok (.iconst 0, 1) := by decide +kernel
theorem dX12_rise_59 : decode cX12_rise 59 = .ok (.iconst 0, 1) := by decide +kernel
theorem dX12_rise_60 : decode cX12_rise 60 = .ok (.aload_n 0, 1) := by decide +kernel
theorem dX12_rise_61 : decode cX12_rise 61 = .ok (.getfield 94, 3) := by decide +kernel
theorem dX12_rise_64 : decode cX12_rise 64 = .ok (.iload 4, 2) := by decide +kernel
theorem dX12_rise_66 : decode cX12_rise 66 = .ok (.laload, 1) := by decide +kernel
theorem dX12_rise_67 : decode cX12_rise 67 = .ok (.invokevirtual 224, 3) := by decide +kernel
theorem dX12_rise_70 : decode cX12_rise 70 = .ok (.ireturn, 1) := by decide +kernel
theorem dX12_lose_0 : decode cX12_lose 0 = .ok (.aload_n 0, 1) := by decide +kernel
theorem dX12_lose_1 : decode cX12_lose 1 = .ok (.iload_n 1, 1) := by decide +kernel
theorem dX12_lose_2 : decode cX12_lose 2 = .ok (.invokevirtual 228, 3) := by decide +kernel
theorem dX12_lose_5 : decode cX12_lose 5 = .ok (.ifCond .ne 6, 3) := by decide +kernel
theorem dX12_lose_8 : decode cX12_lose 8 = .ok (.bipush (-2), 2) := by decide +kernel
theorem dX12_lose_10 : decode cX12_lose 10 = .ok (.ireturn, 1) := by decide +kernel
theorem dX12_lose_11 : decode cX12_lose 11 = .ok (.aload_n 0, 1) := by decide +kernel
theorem dX12_lose_12 : decode cX12_lose 12 = .ok (.getfield 118, 3) := by decide +kernel
theorem dX12_lose_15 : decode cX12_lose 15 = .ok (.iload_n 1, 1) := by decide +kernel
theorem dX12_lose_16 : decode cX12_lose 16 = .ok (.iaload, 1) := by decide +kernel
theorem dX12_lose_17 : decode cX12_lose 17 = .ok (.ifCond .eq 6, 3) := by decide +kernel
theorem dX12_lose_20 : decode cX12_lose 20 = .ok (.bipush (-3), 2) := by decide +kernel
theorem dX12_lose_22 : decode cX12_lose 22 = .ok (.ireturn, 1) := by decide +kernel
theorem dX12_lose_23 : decode cX12_lose 23 = .ok (.aload_n 0, 1) := by decide +kernel
theorem dX12_lose_24 : decode cX12_lose 24 = .ok (.getfield 118, 3) := by decide +kernel
theorem dX12_lose_27 : decode cX12_lose 27 = .ok (.iload_n 1, 1) := by decide +kernel
theorem dX12_lose_28 : decode cX12_lose 28 = .ok (.iconst 2, 1) := by decide +kernel
theorem dX12_lose_29 : decode cX12_lose 29 = .ok (.iastore, 1) := by decide +kernel
theorem dX12_lose_30 : decode cX12_lose 30 = .ok (.iconst 1, 1) := by decide +kernel
theorem dX12_lose_31 : decode cX12_lose 31 = .ok (.ireturn, 1) := by decide +kernel
theorem dX12_twice_0 : decode cX12_twice 0 = .ok (.aload_n 0, 1) := by decide +kernel
theorem dX12_twice_1 : decode cX12_twice 1 = .ok (.iload_n 1, 1) := by decide +kernel
theorem dX12_twice_2 : decode cX12_twice 2 = .ok (.invokevirtual 228, 3) := by decide +kernel
theorem dX12_twice_5 : decode cX12_twice 5 = .ok (.ifCond .ne 6, 3) := by decide +kernel
theorem dX12_twice_8 : decode cX12_twice 8 = .ok (.bipush (-2), 2) := by decide +kernel
theorem dX12_twice_10 : decode cX12_twice 10 = .ok (.ireturn, 1) := by decide +kernel
theorem dX12_twice_11 : decode cX12_twice 11 = .ok (.aload_n 0, 1) := by decide +kernel
theorem dX12_twice_12 : decode cX12_twice 12 = .ok (.getfield 178, 3) := by decide +kernel
theorem dX12_twice_15 : decode cX12_twice 15 = .ok (.sipush 400, 3) := by decide +kernel
theorem dX12_twice_18 : decode cX12_twice 18 = .ok (.if_icmp .ne 6, 3) := by decide +kernel
theorem dX12_twice_21 : decode cX12_twice 21 = .ok (.bipush (-4), 2) := by decide +kernel
theorem dX12_twice_23 : decode cX12_twice 23 = .ok (.ireturn, 1) := by decide +kernel
theorem dX12_twice_24 : decode cX12_twice 24 = .ok (.aload_n 0, 1) := by decide +kernel
theorem dX12_twice_25 : decode cX12_twice 25 = .ok (.aload_n 0, 1) := by decide +kernel
theorem dX12_twice_26 : decode cX12_twice 26 = .ok (.getfield 100, 3) := by decide +kernel
theorem dX12_twice_29 : decode cX12_twice 29 = .ok (.iload_n 1, 1) := by decide +kernel
theorem dX12_twice_30 : decode cX12_twice 30 = .ok (.iaload, 1) := by decide +kernel
theorem dX12_twice_31 : decode cX12_twice 31 = .ok (.aload_n 0, 1) := by decide +kernel
theorem dX12_twice_32 : decode cX12_twice 32 = .ok (.getfield 103, 3) := by decide +kernel
theorem dX12_twice_35 : decode cX12_twice 35 = .ok (.iload_n 1, 1) := by decide +kernel
theorem dX12_twice_36 : decode cX12_twice 36 = .ok (.iaload, 1) := by decide +kernel
theorem dX12_twice_37 : decode cX12_twice 37 = .ok (.aload_n 0, 1) := by decide +kernel
theorem dX12_twice_38 : decode cX12_twice 38 = .ok (.getfield 106, 3) := by decide +kernel
theorem dX12_twice_41 : decode cX12_twice 41 = .ok (.iload_n 1, 1) := by decide +kernel
theorem dX12_twice_42 : decode cX12_twice 42 = .ok (.iaload, 1) := by decide +kernel
theorem dX12_twice_43 : decode cX12_twice 43 = .ok (.aload_n 0, 1) := by decide +kernel
theorem dX12_twice_44 : decode cX12_twice 44 = .ok (.getfield 109, 3) := by decide +kernel
theorem dX12_twice_47 : decode cX12_twice 47 = .ok (.iload_n 1, 1) := by decide +kernel
theorem dX12_twice_48 : decode cX12_twice 48 = .ok (.iaload, 1) := by decide +kernel
theorem dX12_twice_49 : decode cX12_twice 49 = .ok (.invokevirtual 217, 3) := by decide +kernel
theorem dX12_twice_52 : decode cX12_twice 52 = .ok (.istore_n 2, 1) := by decide +kernel
theorem dX12_twice_53 : decode cX12_twice 53 = .ok (.aload_n 0, 1) := by decide +kernel
theorem dX12_twice_54 : decode cX12_twice 54 = .ok (.getfield 112, 3) := by decide +kernel
theorem dX12_twice_57 : decode cX12_twice 57 = .ok (.iload_n 2, 1) := by decide +kernel
theorem dX12_twice_58 : decode cX12_twice 58 = .ok (.aload_n 0, 1) := by decide +kernel
theorem dX12_twice_59 : decode cX12_twice 59 = .ok (.getfield 112, 3) := by decide +kernel
theorem dX12_twice_62 : decode cX12_twice 62 = .ok (.iload_n 1, 1) := by decide +kernel
theorem dX12_twice_63 : decode cX12_twice 63 = .ok (.iaload, 1) := by decide +kernel
theorem dX12_twice_64 : decode cX12_twice 64 = .ok (.iastore, 1) := by decide +kernel
theorem dX12_twice_65 : decode cX12_twice 65 = .ok (.aload_n 0, 1) := by decide +kernel
theorem dX12_twice_66 : decode cX12_twice 66 = .ok (.getfield 115, 3) := by decide +kernel
theorem dX12_twice_69 : decode cX12_twice 69 = .ok (.iload_n 2, 1) := by decide +kernel
theorem dX12_twice_70 : decode cX12_twice 70 = .ok (.aload_n 0, 1) := by decide +kernel
theorem dX12_twice_71 : decode cX12_twice 71 = .ok (.getfield 115, 3) := by decide +kernel
theorem dX12_twice_74 : decode cX12_twice 74 = .ok (.iload_n 1, 1) := by decide +kernel
theorem dX12_twice_75 : decode cX12_twice 75 = .ok (.iaload, 1) := by decide +kernel
theorem dX12_twice_76 : decode cX12_twice 76 = .ok (.iastore, 1) := by decide +kernel
theorem dX12_twice_77 : decode cX12_twice 77 = .ok (.aload_n 0, 1) := by decide +kernel
theorem dX12_twice_78 : decode cX12_twice 78 = .ok (.getfield 121, 3) := by decide +kernel
theorem dX12_twice_81 : decode cX12_twice 81 = .ok (.iload_n 2, 1) := by decide +kernel
theorem dX12_twice_82 : decode cX12_twice 82 = .ok (.aload_n 0, 1) := by decide +kernel
theorem dX12_twice_83 : decode cX12_twice 83 = .ok (.getfield 121, 3) := by decide +kernel
theorem dX12_twice_86 : decode cX12_twice 86 = .ok (.iload_n 1, 1) := by decide +kernel
theorem dX12_twice_87 : decode cX12_twice 87 = .ok (.iaload, 1) := by decide +kernel
theorem dX12_twice_88 : decode cX12_twice 88 = .ok (.iastore, 1) := by decide +kernel
theorem dX12_twice_89 : decode cX12_twice 89 = .ok (.aload_n 0, 1) := by decide +kernel
theorem dX12_twice_90 : decode cX12_twice 90 = .ok (.getfield 124, 3) := by decide +kernel
theorem dX12_twice_93 : decode cX12_twice 93 = .ok (.iload_n 2, 1) := by decide +kernel
theorem dX12_twice_94 : decode cX12_twice 94 = .ok (.aload_n 0, 1) := by decide +kernel
theorem dX12_twice_95 : decode cX12_twice 95 = .ok (.getfield 124, 3) := by decide +kernel
theorem dX12_twice_98 : decode cX12_twice 98 = .ok (.iload_n 1, 1) := by decide +kernel
theorem dX12_twice_99 : decode cX12_twice 99 = .ok (.laload, 1) := by decide +kernel
theorem dX12_twice_100 : decode cX12_twice 100 = .ok (.lastore, 1) := by decide +kernel
theorem dX12_twice_101 : decode cX12_twice 101 = .ok (.aload_n 0, 1) := by decide +kernel
theorem dX12_twice_102 : decode cX12_twice 102 = .ok (.getfield 127, 3) := by decide +kernel
theorem dX12_twice_105 : decode cX12_twice 105 = .ok (.iload_n 2, 1) := by decide +kernel
theorem dX12_twice_106 : decode cX12_twice 106 = .ok (.aload_n 0, 1) := by decide +kernel
theorem dX12_twice_107 : decode cX12_twice 107 = .ok (.getfield 127, 3) := by decide +kernel
theorem dX12_twice_110 : decode cX12_twice 110 = .ok (.iload_n 1, 1) := by decide +kernel
theorem dX12_twice_111 : decode cX12_twice 111 = .ok (.laload, 1) := by decide +kernel
theorem dX12_twice_112 : decode cX12_twice 112 = .ok (.lastore, 1) := by decide +kernel
theorem dX12_twice_113 : decode cX12_twice 113 = .ok (.iload_n 2, 1) := by decide +kernel
theorem dX12_twice_114 : decode cX12_twice 114 = .ok (.ireturn, 1) := by decide +kernel
theorem dX12_letter_0 : decode cX12_letter 0 = .ok (.aload_n 0, 1) := by decide +kernel
theorem dX12_letter_1 : decode cX12_letter 1 = .ok (.iload_n 1, 1) := by decide +kernel
theorem dX12_letter_2 : decode cX12_letter 2 = .ok (.invokevirtual 228, 3) := by decide +kernel
theorem dX12_letter_5 : decode cX12_letter 5 = .ok (.ifCond .eq 13, 3) := by decide +kernel
theorem dX12_letter_8 : decode cX12_letter 8 = .ok (.iload_n 2, 1) := by decide +kernel
theorem dX12_letter_9 : decode cX12_letter 9 = .ok (.iconst 0, 1) := by decide +kernel
theorem dX12_letter_10 : decode cX12_letter 10 = .ok (.bipush 6, 2) := by decide +kernel
theorem dX12_letter_12 : decode cX12_letter 12 = .ok (.invokestatic 153, 3) := by decide +kernel
theorem dX12_letter_15 : decode cX12_letter 15 = .ok (.ifCond .ne 6, 3) := by decide +kernel
theorem dX12_letter_18 : decode cX12_letter 18 = .ok (.bipush (-2), 2) := by decide +kernel
theorem dX12_letter_20 : decode cX12_letter 20 = .ok (.ireturn, 1) := by decide +kernel
theorem dX12_letter_21 : decode cX12_letter 21 = .ok (.iload_n 2, 1) := by decide +kernel
theorem dX12_letter_22 : decode cX12_letter 22 = .ok (.tableswitch 80 0 5 #[38, 45, 52, 59, 66, 73], 38) := by decide +kernel
theorem dX12_letter_60 : decode cX12_letter 60 = .ok (.aload_n 0, 1) := by decide +kernel
theorem dX12_letter_61 : decode cX12_letter 61 = .ok (.getfield 100, 3) := by decide +kernel
theorem dX12_letter_64 : decode cX12_letter 64 = .ok (.iload_n 1, 1) := by decide +kernel
theorem dX12_letter_65 : decode cX12_letter 65 = .ok (.iaload, 1) := by decide +kernel
theorem dX12_letter_66 : decode cX12_letter 66 = .ok (.ireturn, 1) := by decide +kernel
theorem dX12_letter_67 : decode cX12_letter 67 = .ok (.aload_n 0, 1) := by decide +kernel
theorem dX12_letter_68 : decode cX12_letter 68 = .ok (.getfield 103, 3) := by decide +kernel
theorem dX12_letter_71 : decode cX12_letter 71 = .ok (.iload_n 1, 1) := by decide +kernel
theorem dX12_letter_72 : decode cX12_letter 72 = .ok (.iaload, 1) := by decide +kernel
theorem dX12_letter_73 : decode cX12_letter 73 = .ok (.ireturn, 1) := by decide +kernel
theorem dX12_letter_74 : decode cX12_letter 74 = .ok (.aload_n 0, 1) := by decide +kernel
theorem dX12_letter_75 : decode cX12_letter 75 = .ok (.getfield 106, 3) := by decide +kernel
theorem dX12_letter_78 : decode cX12_letter 78 = .ok (.iload_n 1, 1) := by decide +kernel
theorem dX12_letter_79 : decode cX12_letter 79 = .ok (.iaload, 1) := by decide +kernel
theorem dX12_letter_80 : decode cX12_letter 80 = .ok (.ireturn, 1) := by decide +kernel
theorem dX12_letter_81 : decode cX12_letter 81 = .ok (.aload_n 0, 1) := by decide +kernel
theorem dX12_letter_82 : decode cX12_letter 82 = .ok (.getfield 109, 3) := by decide +kernel
theorem dX12_letter_85 : decode cX12_letter 85 = .ok (.iload_n 1, 1) := by decide +kernel
theorem dX12_letter_86 : decode cX12_letter 86 = .ok (.iaload, 1) := by decide +kernel
theorem dX12_letter_87 : decode cX12_letter 87 = .ok (.ireturn, 1) := by decide +kernel
theorem dX12_letter_88 : decode cX12_letter 88 = .ok (.aload_n 0, 1) := by decide +kernel
theorem dX12_letter_89 : decode cX12_letter 89 = .ok (.getfield 112, 3) := by decide +kernel
theorem dX12_letter_92 : decode cX12_letter 92 = .ok (.iload_n 1, 1) := by decide +kernel
theorem dX12_letter_93 : decode cX12_letter 93 = .ok (.iaload, 1) := by decide +kernel
theorem dX12_letter_94 : decode cX12_letter 94 = .ok (.ireturn, 1) := by decide +kernel
theorem dX12_letter_95 : decode cX12_letter 95 = .ok (.aload_n 0, 1) := by decide +kernel
theorem dX12_letter_96 : decode cX12_letter 96 = .ok (.getfield 115, 3) := by decide +kernel
theorem dX12_letter_99 : decode cX12_letter 99 = .ok (.iload_n 1, 1) := by decide +kernel
theorem dX12_letter_100 : decode cX12_letter 100 = .ok (.iaload, 1) := by decide +kernel
theorem dX12_letter_101 : decode cX12_letter 101 = .ok (.ireturn, 1) := by decide +kernel
theorem dX12_letter_102 : decode cX12_letter 102 = .ok (.aload_n 0, 1) := by decide +kernel
theorem dX12_letter_103 : decode cX12_letter 103 = .ok (.getfield 118, 3) := by decide +kernel
theorem dX12_letter_106 : decode cX12_letter 106 = .ok (.iload_n 1, 1) := by decide +kernel
theorem dX12_letter_107 : decode cX12_letter 107 = .ok (.iaload, 1) := by decide +kernel
theorem dX12_letter_108 : decode cX12_letter 108 = .ok (.ireturn, 1) := by decide +kernel
theorem dX12_wrote_0 : decode cX12_wrote 0 = .ok (.aload_n 0, 1) := by decide +kernel
theorem dX12_wrote_1 : decode cX12_wrote 1 = .ok (.iload_n 1, 1) := by decide +kernel
theorem dX12_wrote_2 : decode cX12_wrote 2 = .ok (.invokevirtual 228, 3) := by decide +kernel
theorem dX12_wrote_5 : decode cX12_wrote 5 = .ok (.ifCond .eq 12, 3) := by decide +kernel
theorem dX12_wrote_8 : decode cX12_wrote 8 = .ok (.iload_n 2, 1) := by decide +kernel
theorem dX12_wrote_9 : decode cX12_wrote 9 = .ok (.iconst 0, 1) := by decide +kernel
theorem dX12_wrote_10 : decode cX12_wrote 10 = .ok (.iconst 2, 1) := by decide +kernel
theorem dX12_wrote_11 : decode cX12_wrote 11 = .ok (.invokestatic 153, 3) := by decide +kernel
theorem dX12_wrote_14 : decode cX12_wrote 14 = .ok (.ifCond .ne 7, 3) := by decide +kernel
theorem dX12_wrote_17 : decode cX12_wrote 17 = .ok (.ldc2_w 197, 3) := by decide +kernel
theorem dX12_wrote_20 : decode cX12_wrote 20 = .ok (.lreturn, 1) := by decide +kernel
theorem dX12_wrote_21 : decode cX12_wrote 21 = .ok (.iload_n 2, 1) := by decide +kernel
theorem dX12_wrote_22 : decode cX12_wrote 22 = .ok (.ifCond .ne 12, 3) := by decide +kernel
theorem dX12_wrote_25 : decode cX12_wrote 25 = .ok (.aload_n 0, 1) := by decide +kernel
theorem dX12_wrote_26 : decode cX12_wrote 26 = .ok (.getfield 124, 3) := by decide +kernel
theorem dX12_wrote_29 : decode cX12_wrote 29 = .ok (.iload_n 1, 1) := by decide +kernel
theorem dX12_wrote_30 : decode cX12_wrote 30 = .ok (.laload, 1) := by decide +kernel
theorem dX12_wrote_31 : decode cX12_wrote 31 = .ok (.goto 24, 3) := by decide +kernel
theorem dX12_wrote_34 : decode cX12_wrote 34 = .ok (.iload_n 2, 1) := by decide +kernel
theorem dX12_wrote_35 : decode cX12_wrote 35 = .ok (.iconst 1, 1) := by decide +kernel
theorem dX12_wrote_36 : decode cX12_wrote 36 = .ok (.if_icmp .ne 12, 3) := by decide +kernel
theorem dX12_wrote_39 : decode cX12_wrote 39 = .ok (.aload_n 0, 1) := by decide +kernel
theorem dX12_wrote_40 : decode cX12_wrote 40 = .ok (.getfield 127, 3) := by decide +kernel
theorem dX12_wrote_43 : decode cX12_wrote 43 = .ok (.iload_n 1, 1) := by decide +kernel
theorem dX12_wrote_44 : decode cX12_wrote 44 = .ok (.laload, 1) := by decide +kernel
theorem dX12_wrote_45 : decode cX12_wrote 45 = .ok (.goto 10, 3) := by decide +kernel
theorem dX12_wrote_48 : decode cX12_wrote 48 = .ok (.aload_n 0, 1) := by decide +kernel
theorem dX12_wrote_49 : decode cX12_wrote 49 = .ok (.getfield 121, 3) := by decide +kernel
theorem dX12_wrote_52 : decode cX12_wrote 52 = .ok (.iload_n 1, 1) := by decide +kernel
theorem dX12_wrote_53 : decode cX12_wrote 53 = .ok (.iaload, 1) := by decide +kernel
theorem dX12_wrote_54 : decode cX12_wrote 54 = .ok (.i2l, 1) := by decide +kernel
theorem dX12_wrote_55 : decode cX12_wrote 55 = .ok (.lreturn, 1) := by decide +kernel
theorem dX12_grantOf_0 : decode cX12_grantOf 0 = .ok (.iconst 0, 1) := by decide +kernel
theorem dX12_grantOf_1 : decode cX12_grantOf 1 = .ok (.istore_n 3, 1) := by decide +kernel
theorem dX12_grantOf_2 : decode cX12_grantOf 2 = .ok (.iload_n 3, 1) := by decide +kernel
theorem dX12_grantOf_3 : decode cX12_grantOf 3 = .ok (.aload_n 0, 1) := by decide +kernel
theorem dX12_grantOf_4 : decode cX12_grantOf 4 = .ok (.getfield 60, 3) := by decide +kernel
theorem dX12_grantOf_7 : decode cX12_grantOf 7 = .ok (.iload_n 1, 1) := by decide +kernel
theorem dX12_grantOf_8 : decode cX12_grantOf 8 = .ok (.iaload, 1) := by decide +kernel
theorem dX12_grantOf_9 : decode cX12_grantOf 9 = .ok (.if_icmp .ge 26, 3) := by decide +kernel
theorem dX12_grantOf_12 : decode cX12_grantOf 12 = .ok (.aload_n 0, 1) := by decide +kernel
theorem dX12_grantOf_13 : decode cX12_grantOf 13 = .ok (.getfield 63, 3) := by decide +kernel
theorem dX12_grantOf_16 : decode cX12_grantOf 16 = .ok (.bipush 20, 2) := by decide +kernel
theorem dX12_grantOf_18 : decode cX12_grantOf 18 = .ok (.iload_n 1, 1) := by decide +kernel
theorem dX12_grantOf_19 : decode cX12_grantOf 19 = .ok (.imul, 1) := by decide +kernel
theorem dX12_grantOf_20 : decode cX12_grantOf 20 = .ok (.iload_n 3, 1) := by decide +kernel
theorem dX12_grantOf_21 : decode cX12_grantOf 21 = .ok (.iadd, 1) := by decide +kernel
theorem dX12_grantOf_22 : decode cX12_grantOf 22 = .ok (.iaload, 1) := by decide +kernel
theorem dX12_grantOf_23 : decode cX12_grantOf 23 = .ok (.iload_n 2, 1) := by decide +kernel
theorem dX12_grantOf_24 : decode cX12_grantOf 24 = .ok (.if_icmp .ne 5, 3) := by decide +kernel
theorem dX12_grantOf_27 : decode cX12_grantOf 27 = .ok (.iload_n 3, 1) := by decide +kernel
theorem dX12_grantOf_28 : decode cX12_grantOf 28 = .ok (.ireturn, 1) := by decide +kernel
theorem dX12_grantOf_29 : decode cX12_grantOf 29 = .ok (.iinc 3 1, 3) := by decide +kernel
theorem dX12_grantOf_32 : decode cX12_grantOf 32 = .ok (.goto (-30), 3) := by decide +kernel
theorem dX12_grantOf_35 : decode cX12_grantOf 35 = .ok (.iconst (-1), 1) := by decide +kernel
theorem dX12_grantOf_36 : decode cX12_grantOf 36 = .ok (.ireturn, 1) := by decide +kernel
theorem dX12_goes_0 : decode cX12_goes 0 = .ok (.aload_n 0, 1) := by decide +kernel
theorem dX12_goes_1 : decode cX12_goes 1 = .ok (.getfield 60, 3) := by decide +kernel
theorem dX12_goes_4 : decode cX12_goes 4 = .ok (.iload_n 1, 1) := by decide +kernel
theorem dX12_goes_5 : decode cX12_goes 5 = .ok (.dup2, 1) := by decide +kernel
theorem dX12_goes_6 : decode cX12_goes 6 = .ok (.iaload, 1) := by decide +kernel
theorem dX12_goes_7 : decode cX12_goes 7 = .ok (.iconst 1, 1) := by decide +kernel
theorem dX12_goes_8 : decode cX12_goes 8 = .ok (.isub, 1) := by decide +kernel
theorem dX12_goes_9 : decode cX12_goes 9 = .ok (.iastore, 1) := by decide +kernel
theorem dX12_goes_10 : decode cX12_goes 10 = .ok (.iload_n 2, 1) := by decide +kernel
theorem dX12_goes_11 : decode cX12_goes 11 = .ok (.istore_n 3, 1) := by decide +kernel
theorem dX12_goes_12 : decode cX12_goes 12 = .ok (.iload_n 3, 1) := by decide +kernel
theorem dX12_goes_13 : decode cX12_goes 13 = .ok (.aload_n 0, 1) := by decide +kernel
theorem dX12_goes_14 : decode cX12_goes 14 = .ok (.getfield 60, 3) := by decide +kernel
theorem dX12_goes_17 : decode cX12_goes 17 = .ok (.iload_n 1, 1) := by decide +kernel
theorem dX12_goes_18 : decode cX12_goes 18 = .ok (.iaload, 1) := by decide +kernel
theorem dX12_goes_19 : decode cX12_goes 19 = .ok (.if_icmp .ge 97, 3) := by decide +kernel
theorem dX12_goes_22 : decode cX12_goes 22 = .ok (.bipush 20, 2) := by decide +kernel
theorem dX12_goes_24 : decode cX12_goes 24 = .ok (.iload_n 1, 1) := by decide +kernel
theorem dX12_goes_25 : decode cX12_goes 25 = .ok (.imul, 1) := by decide +kernel
theorem dX12_goes_26 : decode cX12_goes 26 = .ok (.iload_n 3, 1) := by decide +kernel
theorem dX12_goes_27 : decode cX12_goes 27 = .ok (.iadd, 1) := by decide +kernel
theorem dX12_goes_28 : decode cX12_goes 28 = .ok (.istore 4, 2) := by decide +kernel
theorem dX12_goes_30 : decode cX12_goes 30 = .ok (.aload_n 0, 1) := by decide +kernel
theorem dX12_goes_31 : decode cX12_goes 31 = .ok (.getfield 63, 3) := by decide +kernel
theorem dX12_goes_34 : decode cX12_goes 34 = .ok (.iload 4, 2) := by decide +kernel
theorem dX12_goes_36 : decode cX12_goes 36 = .ok (.aload_n 0, 1) := by decide +kernel
theorem dX12_goes_37 : decode cX12_goes 37 = .ok (.getfield 63, 3) := by decide +kernel
theorem dX12_goes_40 : decode cX12_goes 40 = .ok (.iload 4, 2) := by decide +kernel
theorem dX12_goes_42 : decode cX12_goes 42 = .ok (.iconst 1, 1) := by decide +kernel
theorem dX12_goes_43 : decode cX12_goes 43 = .ok (.iadd, 1) := by decide +kernel
theorem dX12_goes_44 : decode cX12_goes 44 = .ok (.iaload, 1) := by decide +kernel
theorem dX12_goes_45 : decode cX12_goes 45 = .ok (.iastore, 1) := by decide +kernel
theorem dX12_goes_46 : decode cX12_goes 46 = .ok (.aload_n 0, 1) := by decide +kernel
theorem dX12_goes_47 : decode cX12_goes 47 = .ok (.getfield 66, 3) := by decide +kernel
theorem dX12_goes_50 : decode cX12_goes 50 = .ok (.iload 4, 2) := by decide +kernel
theorem dX12_goes_52 : decode cX12_goes 52 = .ok (.aload_n 0, 1) := by decide +kernel
theorem dX12_goes_53 : decode cX12_goes 53 = .ok (.getfield 66, 3) := by decide +kernel
theorem dX12_goes_56 : decode cX12_goes 56 = .ok (.iload 4, 2) := by decide +kernel
theorem dX12_goes_58 : decode cX12_goes 58 = .ok (.iconst 1, 1) := by decide +kernel
theorem dX12_goes_59 : decode cX12_goes 59 = .ok (.iadd, 1) := by decide +kernel
theorem dX12_goes_60 : decode cX12_goes 60 = .ok (.iaload, 1) := by decide +kernel
theorem dX12_goes_61 : decode cX12_goes 61 = .ok (.iastore, 1) := by decide +kernel
theorem dX12_goes_62 : decode cX12_goes 62 = .ok (.aload_n 0, 1) := by decide +kernel
theorem dX12_goes_63 : decode cX12_goes 63 = .ok (.getfield 69, 3) := by decide +kernel
theorem dX12_goes_66 : decode cX12_goes 66 = .ok (.iload 4, 2) := by decide +kernel
theorem dX12_goes_68 : decode cX12_goes 68 = .ok (.aload_n 0, 1) := by decide +kernel
theorem dX12_goes_69 : decode cX12_goes 69 = .ok (.getfield 69, 3) := by decide +kernel
theorem dX12_goes_72 : decode cX12_goes 72 = .ok (.iload 4, 2) := by decide +kernel
theorem dX12_goes_74 : decode cX12_goes 74 = .ok (.iconst 1, 1) := by decide +kernel
theorem dX12_goes_75 : decode cX12_goes 75 = .ok (.iadd, 1) := by decide +kernel
theorem dX12_goes_76 : decode cX12_goes 76 = .ok (.iaload, 1) := by decide +kernel
theorem dX12_goes_77 : decode cX12_goes 77 = .ok (.iastore, 1) := by decide +kernel
theorem dX12_goes_78 : decode cX12_goes 78 = .ok (.aload_n 0, 1) := by decide +kernel
theorem dX12_goes_79 : decode cX12_goes 79 = .ok (.getfield 72, 3) := by decide +kernel
theorem dX12_goes_82 : decode cX12_goes 82 = .ok (.iload 4, 2) := by decide +kernel
theorem dX12_goes_84 : decode cX12_goes 84 = .ok (.aload_n 0, 1) := by decide +kernel
theorem dX12_goes_85 : decode cX12_goes 85 = .ok (.getfield 72, 3) := by decide +kernel
theorem dX12_goes_88 : decode cX12_goes 88 = .ok (.iload 4, 2) := by decide +kernel
theorem dX12_goes_90 : decode cX12_goes 90 = .ok (.iconst 1, 1) := by decide +kernel
theorem dX12_goes_91 : decode cX12_goes 91 = .ok (.iadd, 1) := by decide +kernel
theorem dX12_goes_92 : decode cX12_goes 92 = .ok (.laload, 1) := by decide +kernel
theorem dX12_goes_93 : decode cX12_goes 93 = .ok (.lastore, 1) := by decide +kernel
theorem dX12_goes_94 : decode cX12_goes 94 = .ok (.aload_n 0, 1) := by decide +kernel
theorem dX12_goes_95 : decode cX12_goes 95 = .ok (.getfield 75, 3) := by decide +kernel
theorem dX12_goes_98 : decode cX12_goes 98 = .ok (.iload 4, 2) := by decide +kernel
theorem dX12_goes_100 : decode cX12_goes 100 = .ok (.aload_n 0, 1) := by decide +kernel
theorem dX12_goes_101 : decode cX12_goes 101 = .ok (.getfield 75, 3) := by decide +kernel
theorem dX12_goes_104 : decode cX12_goes 104 = .ok (.iload 4, 2) := by decide +kernel
theorem dX12_goes_106 : decode cX12_goes 106 = .ok (.iconst 1, 1) := by decide +kernel
theorem dX12_goes_107 : decode cX12_goes 107 = .ok (.iadd, 1) := by decide +kernel
theorem dX12_goes_108 : decode cX12_goes 108 = .ok (.laload, 1) := by decide +kernel
theorem dX12_goes_109 : decode cX12_goes 109 = .ok (.lastore, 1) := by decide +kernel
theorem dX12_goes_110 : decode cX12_goes 110 = .ok (.iinc 3 1, 3) := by decide +kernel
theorem dX12_goes_113 : decode cX12_goes 113 = .ok (.goto (-101), 3) := by decide +kernel
theorem dX12_goes_116 : decode cX12_goes 116 = .ok (.return_, 1) := by decide +kernel
theorem dX12_unqueue_0 : decode cX12_unqueue 0 = .ok (.aload_n 0, 1) := by decide +kernel
theorem dX12_unqueue_1 : decode cX12_unqueue 1 = .ok (.getfield 44, 3) := by decide +kernel
theorem dX12_unqueue_4 : decode cX12_unqueue 4 = .ok (.iload_n 1, 1) := by decide +kernel
theorem dX12_unqueue_5 : decode cX12_unqueue 5 = .ok (.dup2, 1) := by decide +kernel
theorem dX12_unqueue_6 : decode cX12_unqueue 6 = .ok (.iaload, 1) := by decide +kernel
theorem dX12_unqueue_7 : decode cX12_unqueue 7 = .ok (.iconst 1, 1) := by decide +kernel
theorem dX12_unqueue_8 : decode cX12_unqueue 8 = .ok (.isub, 1) := by decide +kernel
theorem dX12_unqueue_9 : decode cX12_unqueue 9 = .ok (.iastore, 1) := by decide +kernel
theorem dX12_unqueue_10 : decode cX12_unqueue 10 = .ok (.iload_n 2, 1) := by decide +kernel
theorem dX12_unqueue_11 : decode cX12_unqueue 11 = .ok (.istore_n 3, 1) := by decide +kernel
theorem dX12_unqueue_12 : decode cX12_unqueue 12 = .ok (.iload_n 3, 1) := by decide +kernel
theorem dX12_unqueue_13 : decode cX12_unqueue 13 = .ok (.aload_n 0, 1) := by decide +kernel
theorem dX12_unqueue_14 : decode cX12_unqueue 14 = .ok (.getfield 44, 3) := by decide +kernel
theorem dX12_unqueue_17 : decode cX12_unqueue 17 = .ok (.iload_n 1, 1) := by decide +kernel
theorem dX12_unqueue_18 : decode cX12_unqueue 18 = .ok (.iaload, 1) := by decide +kernel
theorem dX12_unqueue_19 : decode cX12_unqueue 19 = .ok (.if_icmp .ge 33, 3) := by decide +kernel
theorem dX12_unqueue_22 : decode cX12_unqueue 22 = .ok (.aload_n 0, 1) := by decide +kernel
theorem dX12_unqueue_23 : decode cX12_unqueue 23 = .ok (.getfield 47, 3) := by decide +kernel
theorem dX12_unqueue_26 : decode cX12_unqueue 26 = .ok (.bipush 8, 2) := by decide +kernel
theorem dX12_unqueue_28 : decode cX12_unqueue 28 = .ok (.iload_n 1, 1) := by decide +kernel
theorem dX12_unqueue_29 : decode cX12_unqueue 29 = .ok (.imul, 1) := by decide +kernel
theorem dX12_unqueue_30 : decode cX12_unqueue 30 = .ok (.iload_n 3, 1) := by decide +kernel
theorem dX12_unqueue_31 : decode cX12_unqueue 31 = .ok (.iadd, 1) := by decide +kernel
theorem dX12_unqueue_32 : decode cX12_unqueue 32 = .ok (.aload_n 0, 1) := by decide +kernel
theorem dX12_unqueue_33 : decode cX12_unqueue 33 = .ok (.getfield 47, 3) := by decide +kernel
theorem dX12_unqueue_36 : decode cX12_unqueue 36 = .ok (.bipush 8, 2) := by decide +kernel
theorem dX12_unqueue_38 : decode cX12_unqueue 38 = .ok (.iload_n 1, 1) := by decide +kernel
theorem dX12_unqueue_39 : decode cX12_unqueue 39 = .ok (.imul, 1) := by decide +kernel
theorem dX12_unqueue_40 : decode cX12_unqueue 40 = .ok (.iload_n 3, 1) := by decide +kernel
theorem dX12_unqueue_41 : decode cX12_unqueue 41 = .ok (.iadd, 1) := by decide +kernel
theorem dX12_unqueue_42 : decode cX12_unqueue 42 = .ok (.iconst 1, 1) := by decide +kernel
theorem dX12_unqueue_43 : decode cX12_unqueue 43 = .ok (.iadd, 1) := by decide +kernel
theorem dX12_unqueue_44 : decode cX12_unqueue 44 = .ok (.iaload, 1) := by decide +kernel
theorem dX12_unqueue_45 : decode cX12_unqueue 45 = .ok (.iastore, 1) := by decide +kernel
theorem dX12_unqueue_46 : decode cX12_unqueue 46 = .ok (.iinc 3 1, 3) := by decide +kernel
theorem dX12_unqueue_49 : decode cX12_unqueue 49 = .ok (.goto (-37), 3) := by decide +kernel
theorem dX12_unqueue_52 : decode cX12_unqueue 52 = .ok (.iload_n 2, 1) := by decide +kernel
theorem dX12_unqueue_53 : decode cX12_unqueue 53 = .ok (.ifCond .ne 10, 3) := by decide +kernel
theorem dX12_unqueue_56 : decode cX12_unqueue 56 = .ok (.aload_n 0, 1) := by decide +kernel
theorem dX12_unqueue_57 : decode cX12_unqueue 57 = .ok (.getfield 57, 3) := by decide +kernel
theorem dX12_unqueue_60 : decode cX12_unqueue 60 = .ok (.iload_n 1, 1) := by decide +kernel
theorem dX12_unqueue_61 : decode cX12_unqueue 61 = .ok (.iconst 0, 1) := by decide +kernel
theorem dX12_unqueue_62 : decode cX12_unqueue 62 = .ok (.bastore, 1) := by decide +kernel
theorem dX12_unqueue_63 : decode cX12_unqueue 63 = .ok (.return_, 1) := by decide +kernel
theorem dX12_queuedAt_0 : decode cX12_queuedAt 0 = .ok (.iconst 0, 1) := by decide +kernel
theorem dX12_queuedAt_1 : decode cX12_queuedAt 1 = .ok (.istore_n 3, 1) := by decide +kernel
theorem dX12_queuedAt_2 : decode cX12_queuedAt 2 = .ok (.iload_n 3, 1) := by decide +kernel
theorem dX12_queuedAt_3 : decode cX12_queuedAt 3 = .ok (.aload_n 0, 1) := by decide +kernel
theorem dX12_queuedAt_4 : decode cX12_queuedAt 4 = .ok (.getfield 44, 3) := by decide +kernel
theorem dX12_queuedAt_7 : decode cX12_queuedAt 7 = .ok (.iload_n 1, 1) := by decide +kernel
theorem dX12_queuedAt_8 : decode cX12_queuedAt 8 = .ok (.iaload, 1) := by decide +kernel
theorem dX12_queuedAt_9 : decode cX12_queuedAt 9 = .ok (.if_icmp .ge 26, 3) := by decide +kernel
theorem dX12_queuedAt_12 : decode cX12_queuedAt 12 = .ok (.aload_n 0, 1) := by decide +kernel
theorem dX12_queuedAt_13 : decode cX12_queuedAt 13 = .ok (.getfield 47, 3) := by decide +kernel
theorem dX12_queuedAt_16 : decode cX12_queuedAt 16 = .ok (.bipush 8, 2) := by decide +kernel
theorem dX12_queuedAt_18 : decode cX12_queuedAt 18 = .ok (.iload_n 1, 1) := by decide +kernel
theorem dX12_queuedAt_19 : decode cX12_queuedAt 19 = .ok (.imul, 1) := by decide +kernel
theorem dX12_queuedAt_20 : decode cX12_queuedAt 20 = .ok (.iload_n 3, 1) := by decide +kernel
theorem dX12_queuedAt_21 : decode cX12_queuedAt 21 = .ok (.iadd, 1) := by decide +kernel
theorem dX12_queuedAt_22 : decode cX12_queuedAt 22 = .ok (.iaload, 1) := by decide +kernel
theorem dX12_queuedAt_23 : decode cX12_queuedAt 23 = .ok (.iload_n 2, 1) := by decide +kernel
theorem dX12_queuedAt_24 : decode cX12_queuedAt 24 = .ok (.if_icmp .ne 5, 3) := by decide +kernel
theorem dX12_queuedAt_27 : decode cX12_queuedAt 27 = .ok (.iload_n 3, 1) := by decide +kernel
theorem dX12_queuedAt_28 : decode cX12_queuedAt 28 = .ok (.ireturn, 1) := by decide +kernel
theorem dX12_queuedAt_29 : decode cX12_queuedAt 29 = .ok (.iinc 3 1, 3) := by decide +kernel
theorem dX12_queuedAt_32 : decode cX12_queuedAt 32 = .ok (.goto (-30), 3) := by decide +kernel
theorem dX12_queuedAt_35 : decode cX12_queuedAt 35 = .ok (.iconst (-1), 1) := by decide +kernel
theorem dX12_queuedAt_36 : decode cX12_queuedAt 36 = .ok (.ireturn, 1) := by decide +kernel
theorem dX12_looks_0 : decode cX12_looks 0 = .ok (.aload_n 0, 1) := by decide +kernel
theorem dX12_looks_1 : decode cX12_looks 1 = .ok (.aload_n 0, 1) := by decide +kernel
theorem dX12_looks_2 : decode cX12_looks 2 = .ok (.getfield 78, 3) := by decide +kernel
theorem dX12_looks_5 : decode cX12_looks 5 = .ok (.invokevirtual 187, 3) := by decide +kernel
theorem dX12_looks_8 : decode cX12_looks 8 = .ok (.lstore_n 2, 1) := by decide +kernel
theorem dX12_looks_9 : decode cX12_looks 9 = .ok (.iconst 0, 1) := by decide +kernel
theorem dX12_looks_10 : decode cX12_looks 10 = .ok (.istore 4, 2) := by decide +kernel
theorem dX12_looks_12 : decode cX12_looks 12 = .ok (.iload 4, 2) := by decide +kernel
theorem dX12_looks_14 : decode cX12_looks 14 = .ok (.aload_n 0, 1) := by decide +kernel
theorem dX12_looks_15 : decode cX12_looks 15 = .ok (.getfield 60, 3) := by decide +kernel
theorem dX12_looks_18 : decode cX12_looks 18 = .ok (.iload_n 1, 1) := by decide +kernel
theorem dX12_looks_19 : decode cX12_looks 19 = .ok (.iaload, 1) := by decide +kernel
theorem dX12_looks_20 : decode cX12_looks 20 = .ok (.if_icmp .ge 36, 3) := by decide +kernel
theorem dX12_looks_23 : decode cX12_looks 23 = .ok (.aload_n 0, 1) := by decide +kernel
theorem dX12_looks_24 : decode cX12_looks 24 = .ok (.getfield 75, 3) := by decide +kernel
theorem dX12_looks_27 : decode cX12_looks 27 = .ok (.bipush 20, 2) := by decide +kernel
theorem dX12_looks_29 : decode cX12_looks 29 = .ok (.iload_n 1, 1) := by decide +kernel
theorem dX12_looks_30 : decode cX12_looks 30 = .ok (.imul, 1) := by decide +kernel
theorem dX12_looks_31 : decode cX12_looks 31 = .ok (.iload 4, 2) := by decide +kernel
theorem dX12_looks_33 : decode cX12_looks 33 = .ok (.iadd, 1) := by decide +kernel
theorem dX12_looks_34 : decode cX12_looks 34 = .ok (.laload, 1) := by decide +kernel
theorem dX12_looks_35 : decode cX12_looks 35 = .ok (.lload_n 2, 1) := by decide +kernel
theorem dX12_looks_36 : decode cX12_looks 36 = .ok (.lcmp, 1) := by decide +kernel
theorem dX12_looks_37 : decode cX12_looks 37 = .ok (.ifCond .gt 13, 3) := by decide +kernel
theorem dX12_looks_40 : decode cX12_looks 40 = .ok (.aload_n 0, 1) := by decide +kernel
theorem dX12_looks_41 : decode cX12_looks 41 = .ok (.iload_n 1, 1) := by decide +kernel
theorem dX12_looks_42 : decode cX12_looks 42 = .ok (.iload 4, 2) := by decide +kernel
theorem dX12_looks_44 : decode cX12_looks 44 = .ok (.invokevirtual 231, 3) := by decide +kernel
theorem dX12_looks_47 : decode cX12_looks 47 = .ok (.goto (-35), 3) := by decide +kernel
theorem dX12_looks_50 : decode cX12_looks 50 = .ok (.iinc 4 1, 3) := by decide +kernel
theorem dX12_looks_53 : decode cX12_looks 53 = .ok (.goto (-41), 3) := by decide +kernel
theorem dX12_looks_56 : decode cX12_looks 56 = .ok (.aload_n 0, 1) := by decide +kernel
theorem dX12_looks_57 : decode cX12_looks 57 = .ok (.getfield 41, 3) := by decide +kernel
theorem dX12_looks_60 : decode cX12_looks 60 = .ok (.iload_n 1, 1) := by decide +kernel
theorem dX12_looks_61 : decode cX12_looks 61 = .ok (.iaload, 1) := by decide +kernel
theorem dX12_looks_62 : decode cX12_looks 62 = .ok (.iconst (-1), 1) := by decide +kernel
theorem dX12_looks_63 : decode cX12_looks 63 = .ok (.if_icmp .eq 25, 3) := by decide +kernel
theorem dX12_looks_66 : decode cX12_looks 66 = .ok (.aload_n 0, 1) := by decide +kernel
theorem dX12_looks_67 : decode cX12_looks 67 = .ok (.iload_n 1, 1) := by decide +kernel
theorem dX12_looks_68 : decode cX12_looks 68 = .ok (.aload_n 0, 1) := by decide +kernel
theorem dX12_looks_69 : decode cX12_looks 69 = .ok (.getfield 41, 3) := by decide +kernel
theorem dX12_looks_72 : decode cX12_looks 72 = .ok (.iload_n 1, 1) := by decide +kernel
theorem dX12_looks_73 : decode cX12_looks 73 = .ok (.iaload, 1) := by decide +kernel
theorem dX12_looks_74 : decode cX12_looks 74 = .ok (.invokevirtual 235, 3) := by decide +kernel
theorem dX12_looks_77 : decode cX12_looks 77 = .ok (.iconst (-1), 1) := by decide +kernel
theorem dX12_looks_78 : decode cX12_looks 78 = .ok (.if_icmp .ne 10, 3) := by decide +kernel
theorem dX12_looks_81 : decode cX12_looks 81 = .ok (.aload_n 0, 1) := by decide +kernel
theorem dX12_looks_82 : decode cX12_looks 82 = .ok (.getfield 41, 3) := by decide +kernel
theorem dX12_looks_85 : decode cX12_looks 85 = .ok (.iload_n 1, 1) := by decide +kernel
theorem dX12_looks_86 : decode cX12_looks 86 = .ok (.iconst (-1), 1) := by decide +kernel
theorem dX12_looks_87 : decode cX12_looks 87 = .ok (.iastore, 1) := by decide +kernel
theorem dX12_looks_88 : decode cX12_looks 88 = .ok (.aload_n 0, 1) := by decide +kernel
theorem dX12_looks_89 : decode cX12_looks 89 = .ok (.getfield 57, 3) := by decide +kernel
theorem dX12_looks_92 : decode cX12_looks 92 = .ok (.iload_n 1, 1) := by decide +kernel
theorem dX12_looks_93 : decode cX12_looks 93 = .ok (.baload, 1) := by decide +kernel
theorem dX12_looks_94 : decode cX12_looks 94 = .ok (.ifCond .eq 20, 3) := by decide +kernel
theorem dX12_looks_97 : decode cX12_looks 97 = .ok (.aload_n 0, 1) := by decide +kernel
theorem dX12_looks_98 : decode cX12_looks 98 = .ok (.getfield 54, 3) := by decide +kernel
theorem dX12_looks_101 : decode cX12_looks 101 = .ok (.iload_n 1, 1) := by decide +kernel
theorem dX12_looks_102 : decode cX12_looks 102 = .ok (.laload, 1) := by decide +kernel
theorem dX12_looks_103 : decode cX12_looks 103 = .ok (.lload_n 2, 1) := by decide +kernel
theorem dX12_looks_104 : decode cX12_looks 104 = .ok (.lcmp, 1) := by decide +kernel
theorem dX12_looks_105 : decode cX12_looks 105 = .ok (.ifCond .gt 9, 3) := by decide +kernel
theorem dX12_looks_108 : decode cX12_looks 108 = .ok (.aload_n 0, 1) := by decide +kernel
theorem dX12_looks_109 : decode cX12_looks 109 = .ok (.iload_n 1, 1) := by decide +kernel
theorem dX12_looks_110 : decode cX12_looks 110 = .ok (.iconst 0, 1) := by decide +kernel
theorem dX12_looks_111 : decode cX12_looks 111 = .ok (.invokevirtual 239, 3) := by decide +kernel
theorem dX12_looks_114 : decode cX12_looks 114 = .ok (.aload_n 0, 1) := by decide +kernel
theorem dX12_looks_115 : decode cX12_looks 115 = .ok (.getfield 44, 3) := by decide +kernel
theorem dX12_looks_118 : decode cX12_looks 118 = .ok (.iload_n 1, 1) := by decide +kernel
theorem dX12_looks_119 : decode cX12_looks 119 = .ok (.iaload, 1) := by decide +kernel
theorem dX12_looks_120 : decode cX12_looks 120 = .ok (.ifCond .le 63, 3) := by decide +kernel
theorem dX12_looks_123 : decode cX12_looks 123 = .ok (.aload_n 0, 1) := by decide +kernel
theorem dX12_looks_124 : decode cX12_looks 124 = .ok (.getfield 60, 3) := by decide +kernel
theorem dX12_looks_127 : decode cX12_looks 127 = .ok (.iload_n 1, 1) := by decide +kernel
theorem dX12_looks_128 : decode cX12_looks 128 = .ok (.iaload, 1) := by decide +kernel
theorem dX12_looks_129 : decode cX12_looks 129 = .ok (.ifCond .ne 54, 3) := by decide +kernel
theorem dX12_looks_132 : decode cX12_looks 132 = .ok (.aload_n 0, 1) := by decide +kernel
theorem dX12_looks_133 : decode cX12_looks 133 = .ok (.getfield 57, 3) := by decide +kernel
theorem dX12_looks_136 : decode cX12_looks 136 = .ok (.iload_n 1, 1) := by decide +kernel
theorem dX12_looks_137 : decode cX12_looks 137 = .ok (.baload, 1) := by decide +kernel
theorem dX12_looks_138 : decode cX12_looks 138 = .ok (.ifCond .ne 45, 3) := by decide +kernel
theorem dX12_looks_141 : decode cX12_looks 141 = .ok (.aload_n 0, 1) := by decide +kernel
theorem dX12_looks_142 : decode cX12_looks 142 = .ok (.getfield 57, 3) := by decide +kernel
theorem dX12_looks_145 : decode cX12_looks 145 = .ok (.iload_n 1, 1) := by decide +kernel
theorem dX12_looks_146 : decode cX12_looks 146 = .ok (.iconst 1, 1) := by decide +kernel
theorem dX12_looks_147 : decode cX12_looks 147 = .ok (.bastore, 1) := by decide +kernel
theorem dX12_looks_148 : decode cX12_looks 148 = .ok (.aload_n 0, 1) := by decide +kernel
theorem dX12_looks_149 : decode cX12_looks 149 = .ok (.getfield 54, 3) := by decide +kernel
theorem dX12_looks_152 : decode cX12_looks 152 = .ok (.iload_n 1, 1) := by decide +kernel
theorem dX12_looks_153 : decode cX12_looks 153 = .ok (.lload_n 2, 1) := by decide +kernel
theorem dX12_looks_154 : decode cX12_looks 154 = .ok (.aload_n 0, 1) := by decide +kernel
theorem dX12_looks_155 : decode cX12_looks 155 = .ok (.iload_n 1, 1) := by decide +kernel
theorem dX12_looks_156 : decode cX12_looks 156 = .ok (.invokevirtual 210, 3) := by decide +kernel
theorem dX12_looks_159 : decode cX12_looks 159 = .ok (.i2l, 1) := by decide +kernel
theorem dX12_looks_160 : decode cX12_looks 160 = .ok (.ladd, 1) := by decide +kernel
theorem dX12_looks_161 : decode cX12_looks 161 = .ok (.lastore, 1) := by decide +kernel
theorem dX12_looks_162 : decode cX12_looks 162 = .ok (.aload_n 0, 1) := by decide +kernel
theorem dX12_looks_163 : decode cX12_looks 163 = .ok (.bipush 6, 2) := by decide +kernel
theorem dX12_looks_165 : decode cX12_looks 165 = .ok (.aload_n 0, 1) := by decide +kernel
theorem dX12_looks_166 : decode cX12_looks 166 = .ok (.getfield 47, 3) := by decide +kernel
theorem dX12_looks_169 : decode cX12_looks 169 = .ok (.bipush 8, 2) := by decide +kernel
theorem dX12_looks_171 : decode cX12_looks 171 = .ok (.iload_n 1, 1) := by decide +kernel
theorem dX12_looks_172 : decode cX12_looks 172 = .ok (.imul, 1) := by decide +kernel
theorem dX12_looks_173 : decode cX12_looks 173 = .ok (.iaload, 1) := by decide +kernel
theorem dX12_looks_174 : decode cX12_looks 174 = .ok (.aload_n 0, 1) := by decide +kernel
theorem dX12_looks_175 : decode cX12_looks 175 = .ok (.getfield 78, 3) := by decide +kernel
theorem dX12_looks_178 : decode cX12_looks 178 = .ok (.iload_n 1, 1) := by decide +kernel
theorem dX12_looks_179 : decode cX12_looks 179 = .ok (.invokevirtual 217, 3) := by decide +kernel
theorem dX12_looks_182 : decode cX12_looks 182 = .ok (.pop, 1) := by decide +kernel
theorem dX12_looks_183 : decode cX12_looks 183 = .ok (.return_, 1) := by decide +kernel
theorem dX12_isWritten_0 : decode cX12_isWritten 0 = .ok (.iconst 0, 1) := by decide +kernel
theorem dX12_isWritten_1 : decode cX12_isWritten 1 = .ok (.istore_n 2, 1) := by decide +kernel
theorem dX12_isWritten_2 : decode cX12_isWritten 2 = .ok (.iconst 0, 1) := by decide +kernel
theorem dX12_isWritten_3 : decode cX12_isWritten 3 = .ok (.istore_n 3, 1) := by decide +kernel
theorem dX12_isWritten_4 : decode cX12_isWritten 4 = .ok (.iload_n 3, 1) := by decide +kernel
theorem dX12_isWritten_5 : decode cX12_isWritten 5 = .ok (.aload_n 0, 1) := by decide +kernel
theorem dX12_isWritten_6 : decode cX12_isWritten 6 = .ok (.getfield 60, 3) := by decide +kernel
theorem dX12_isWritten_9 : decode cX12_isWritten 9 = .ok (.iload_n 1, 1) := by decide +kernel
theorem dX12_isWritten_10 : decode cX12_isWritten 10 = .ok (.iaload, 1) := by decide +kernel
theorem dX12_isWritten_11 : decode cX12_isWritten 11 = .ok (.if_icmp .ge 33, 3) := by decide +kernel
theorem dX12_isWritten_14 : decode cX12_isWritten 14 = .ok (.iload_n 2, 1) := by decide +kernel
theorem dX12_isWritten_15 : decode cX12_isWritten 15 = .ok (.ifCond .ne 17, 3) := by decide +kernel
theorem dX12_isWritten_18 : decode cX12_isWritten 18 = .ok (.aload_n 0, 1) := by decide +kernel
theorem dX12_isWritten_19 : decode cX12_isWritten 19 = .ok (.getfield 66, 3) := by decide +kernel
theorem dX12_isWritten_22 : decode cX12_isWritten 22 = .ok (.bipush 20, 2) := by decide +kernel
theorem dX12_isWritten_24 : decode cX12_isWritten 24 = .ok (.iload_n 1, 1) := by decide +kernel
theorem dX12_isWritten_25 : decode cX12_isWritten 25 = .ok (.imul, 1) := by decide +kernel
theorem dX12_isWritten_26 : decode cX12_isWritten 26 = .ok (.iload_n 3, 1) := by decide +kernel
theorem dX12_isWritten_27 : decode cX12_isWritten 27 = .ok (.iadd, 1) := by decide +kernel
theorem dX12_isWritten_28 : decode cX12_isWritten 28 = .ok (.iaload, 1) := by decide +kernel
theorem dX12_isWritten_29 : decode cX12_isWritten 29 = .ok (.ifCond .ne 7, 3) := by decide +kernel
theorem dX12_isWritten_32 : decode cX12_isWritten 32 = .ok (.iconst 1, 1) := by decide +kernel
theorem dX12_isWritten_33 : decode cX12_isWritten 33 = .ok (.goto 4, 3) := by decide +kernel
theorem dX12_isWritten_36 : decode cX12_isWritten 36 = .ok (.iconst 0, 1) := by decide +kernel
theorem dX12_isWritten_37 : decode cX12_isWritten 37 = .ok (.istore_n 2, 1) := by decide +kernel
theorem dX12_isWritten_38 : decode cX12_isWritten 38 = .ok (.iinc 3 1, 3) := by decide +kernel
theorem dX12_isWritten_41 : decode cX12_isWritten 41 = .ok (.goto (-37), 3) := by decide +kernel
theorem dX12_isWritten_44 : decode cX12_isWritten 44 = .ok (.iload_n 2, 1) := by decide +kernel
theorem dX12_isWritten_45 : decode cX12_isWritten 45 = .ok (.ireturn, 1) := by decide +kernel
theorem dX12_partsOf_0 : decode cX12_partsOf 0 = .ok (.iconst 0, 1) := by decide +kernel
theorem dX12_partsOf_1 : decode cX12_partsOf 1 = .ok (.istore_n 2, 1) := by decide +kernel
theorem dX12_partsOf_2 : decode cX12_partsOf 2 = .ok (.iconst 0, 1) := by decide +kernel
theorem dX12_partsOf_3 : decode cX12_partsOf 3 = .ok (.istore_n 3, 1) := by decide +kernel
theorem dX12_partsOf_4 : decode cX12_partsOf 4 = .ok (.iload_n 3, 1) := by decide +kernel
theorem dX12_partsOf_5 : decode cX12_partsOf 5 = .ok (.aload_n 0, 1) := by decide +kernel
theorem dX12_partsOf_6 : decode cX12_partsOf 6 = .ok (.getfield 60, 3) := by decide +kernel
theorem dX12_partsOf_9 : decode cX12_partsOf 9 = .ok (.iload_n 1, 1) := by decide +kernel
theorem dX12_partsOf_10 : decode cX12_partsOf 10 = .ok (.iaload, 1) := by decide +kernel
theorem dX12_partsOf_11 : decode cX12_partsOf 11 = .ok (.if_icmp .ge 23, 3) := by decide +kernel
theorem dX12_partsOf_14 : decode cX12_partsOf 14 = .ok (.iload_n 2, 1) := by decide +kernel
theorem dX12_partsOf_15 : decode cX12_partsOf 15 = .ok (.aload_n 0, 1) := by decide +kernel
theorem dX12_partsOf_16 : decode cX12_partsOf 16 = .ok (.getfield 69, 3) := by decide +kernel
theorem dX12_partsOf_19 : decode cX12_partsOf 19 = .ok (.bipush 20, 2) := by decide +kernel
theorem dX12_partsOf_21 : decode cX12_partsOf 21 = .ok (.iload_n 1, 1) := by decide +kernel
theorem dX12_partsOf_22 : decode cX12_partsOf 22 = .ok (.imul, 1) := by decide +kernel
theorem dX12_partsOf_23 : decode cX12_partsOf 23 = .ok (.iload_n 3, 1) := by decide +kernel
theorem dX12_partsOf_24 : decode cX12_partsOf 24 = .ok (.iadd, 1) := by decide +kernel
theorem dX12_partsOf_25 : decode cX12_partsOf 25 = .ok (.iaload, 1) := by decide +kernel
theorem dX12_partsOf_26 : decode cX12_partsOf 26 = .ok (.iadd, 1) := by decide +kernel
theorem dX12_partsOf_27 : decode cX12_partsOf 27 = .ok (.istore_n 2, 1) := by decide +kernel
theorem dX12_partsOf_28 : decode cX12_partsOf 28 = .ok (.iinc 3 1, 3) := by decide +kernel
theorem dX12_partsOf_31 : decode cX12_partsOf 31 = .ok (.goto (-27), 3) := by decide +kernel
theorem dX12_partsOf_34 : decode cX12_partsOf 34 = .ok (.iload_n 2, 1) := by decide +kernel
theorem dX12_partsOf_35 : decode cX12_partsOf 35 = .ok (.ireturn, 1) := by decide +kernel
theorem dX12_fits_0 : decode cX12_fits 0 = .ok (.aload_n 0, 1) := by decide +kernel
theorem dX12_fits_1 : decode cX12_fits 1 = .ok (.getfield 32, 3) := by decide +kernel
theorem dX12_fits_4 : decode cX12_fits 4 = .ok (.iload_n 1, 1) := by decide +kernel
theorem dX12_fits_5 : decode cX12_fits 5 = .ok (.iaload, 1) := by decide +kernel
theorem dX12_fits_6 : decode cX12_fits 6 = .ok (.tableswitch 172 1 4 #[30, 66, 89, 135], 30) := by decide +kernel
theorem dX12_fits_36 : decode cX12_fits 36 = .ok (.iload_n 3, 1) := by decide +kernel
theorem dX12_fits_37 : decode cX12_fits 37 = .ok (.iconst 1, 1) := by decide +kernel
theorem dX12_fits_38 : decode cX12_fits 38 = .ok (.if_icmp .ne 19, 3) := by decide +kernel
theorem dX12_fits_41 : decode cX12_fits 41 = .ok (.aload_n 0, 1) := by decide +kernel
theorem dX12_fits_42 : decode cX12_fits 42 = .ok (.iload_n 1, 1) := by decide +kernel
theorem dX12_fits_43 : decode cX12_fits 43 = .ok (.invokevirtual 242, 3) := by decide +kernel
theorem dX12_fits_46 : decode cX12_fits 46 = .ok (.ifCond .ne 7, 3) := by decide +kernel
theorem dX12_fits_49 : decode cX12_fits 49 = .ok (.iconst 1, 1) := by decide +kernel
theorem dX12_fits_50 : decode cX12_fits 50 = .ok (.goto 21, 3) := by decide +kernel
theorem dX12_fits_53 : decode cX12_fits 53 = .ok (.iconst 0, 1) := by decide +kernel
theorem dX12_fits_54 : decode cX12_fits 54 = .ok (.goto 17, 3) := by decide +kernel
theorem dX12_fits_57 : decode cX12_fits 57 = .ok (.aload_n 0, 1) := by decide +kernel
theorem dX12_fits_58 : decode cX12_fits 58 = .ok (.getfield 60, 3) := by decide +kernel
theorem dX12_fits_61 : decode cX12_fits 61 = .ok (.iload_n 1, 1) := by decide +kernel
theorem dX12_fits_62 : decode cX12_fits 62 = .ok (.iaload, 1) := by decide +kernel
theorem dX12_fits_63 : decode cX12_fits 63 = .ok (.ifCond .ne 7, 3) := by decide +kernel
theorem dX12_fits_66 : decode cX12_fits 66 = .ok (.iconst 1, 1) := by decide +kernel
theorem dX12_fits_67 : decode cX12_fits 67 = .ok (.goto 4, 3) := by decide +kernel
theorem dX12_fits_70 : decode cX12_fits 70 = .ok (.iconst 0, 1) := by decide +kernel
theorem dX12_fits_71 : decode cX12_fits 71 = .ok (.ireturn, 1) := by decide +kernel
theorem dX12_fits_72 : decode cX12_fits 72 = .ok (.aload_n 0, 1) := by decide +kernel
theorem dX12_fits_73 : decode cX12_fits 73 = .ok (.iload_n 1, 1) := by decide +kernel
theorem dX12_fits_74 : decode cX12_fits 74 = .ok (.invokevirtual 245, 3) := by decide +kernel
theorem dX12_fits_77 : decode cX12_fits 77 = .ok (.iload 4, 2) := by decide +kernel
theorem dX12_fits_79 : decode cX12_fits 79 = .ok (.iadd, 1) := by decide +kernel
theorem dX12_fits_80 : decode cX12_fits 80 = .ok (.aload_n 0, 1) := by decide +kernel
theorem dX12_fits_81 : decode cX12_fits 81 = .ok (.getfield 38, 3) := by decide +kernel
theorem dX12_fits_84 : decode cX12_fits 84 = .ok (.iload_n 1, 1) := by decide +kernel
theorem dX12_fits_85 : decode cX12_fits 85 = .ok (.iaload, 1) := by decide +kernel
theorem dX12_fits_86 : decode cX12_fits 86 = .ok (.if_icmp .gt 7, 3) := by decide +kernel
theorem dX12_fits_89 : decode cX12_fits 89 = .ok (.iconst 1, 1) := by decide +kernel
theorem dX12_fits_90 : decode cX12_fits 90 = .ok (.goto 4, 3) := by decide +kernel
theorem dX12_fits_93 : decode cX12_fits 93 = .ok (.iconst 0, 1) := by decide +kernel
theorem dX12_fits_94 : decode cX12_fits 94 = .ok (.ireturn, 1) := by decide +kernel
theorem dX12_fits_95 : decode cX12_fits 95 = .ok (.iload_n 3, 1) := by decide +kernel
theorem dX12_fits_96 : decode cX12_fits 96 = .ok (.iconst 1, 1) := by decide +kernel
theorem dX12_fits_97 : decode cX12_fits 97 = .ok (.if_icmp .ne 29, 3) := by decide +kernel
theorem dX12_fits_100 : decode cX12_fits 100 = .ok (.aload_n 0, 1) := by decide +kernel
theorem dX12_fits_101 : decode cX12_fits 101 = .ok (.iload_n 1, 1) := by decide +kernel
theorem dX12_fits_102 : decode cX12_fits 102 = .ok (.invokevirtual 242, 3) := by decide +kernel
theorem dX12_fits_105 : decode cX12_fits 105 = .ok (.ifCond .ne 17, 3) := by decide +kernel
theorem dX12_fits_108 : decode cX12_fits 108 = .ok (.aload_n 0, 1) := by decide +kernel
theorem dX12_fits_109 : decode cX12_fits 109 = .ok (.getfield 41, 3) := by decide +kernel
theorem dX12_fits_112 : decode cX12_fits 112 = .ok (.iload_n 1, 1) := by decide +kernel
theorem dX12_fits_113 : decode cX12_fits 113 = .ok (.iaload, 1) := by decide +kernel
theorem dX12_fits_114 : decode cX12_fits 114 = .ok (.iconst (-1), 1) := by decide +kernel
theorem dX12_fits_115 : decode cX12_fits 115 = .ok (.if_icmp .ne 7, 3) := by decide +kernel
theorem dX12_fits_118 : decode cX12_fits 118 = .ok (.iconst 1, 1) := by decide +kernel
theorem dX12_fits_119 : decode cX12_fits 119 = .ok (.goto 21, 3) := by decide +kernel
theorem dX12_fits_122 : decode cX12_fits 122 = .ok (.iconst 0, 1) := by decide +kernel
theorem dX12_fits_123 : decode cX12_fits 123 = .ok (.goto 17, 3) := by decide +kernel
theorem dX12_fits_126 : decode cX12_fits 126 = .ok (.aload_n 0, 1) := by decide +kernel
theorem dX12_fits_127 : decode cX12_fits 127 = .ok (.getfield 60, 3) := by decide +kernel
theorem dX12_fits_130 : decode cX12_fits 130 = .ok (.iload_n 1, 1) := by decide +kernel
theorem dX12_fits_131 : decode cX12_fits 131 = .ok (.iaload, 1) := by decide +kernel
theorem dX12_fits_132 : decode cX12_fits 132 = .ok (.ifCond .ne 7, 3) := by decide +kernel
theorem dX12_fits_135 : decode cX12_fits 135 = .ok (.iconst 1, 1) := by decide +kernel
theorem dX12_fits_136 : decode cX12_fits 136 = .ok (.goto 4, 3) := by decide +kernel
theorem dX12_fits_139 : decode cX12_fits 139 = .ok (.iconst 0, 1) := by decide +kernel
theorem dX12_fits_140 : decode cX12_fits 140 = .ok (.ireturn, 1) := by decide +kernel
theorem dX12_fits_141 : decode cX12_fits 141 = .ok (.aload_n 0, 1) := by decide +kernel
theorem dX12_fits_142 : decode cX12_fits 142 = .ok (.getfield 60, 3) := by decide +kernel
theorem dX12_fits_145 : decode cX12_fits 145 = .ok (.iload_n 1, 1) := by decide +kernel
theorem dX12_fits_146 : decode cX12_fits 146 = .ok (.iaload, 1) := by decide +kernel
theorem dX12_fits_147 : decode cX12_fits 147 = .ok (.ifCond .ne 29, 3) := by decide +kernel
theorem dX12_fits_150 : decode cX12_fits 150 = .ok (.aload_n 0, 1) := by decide +kernel
theorem dX12_fits_151 : decode cX12_fits 151 = .ok (.getfield 44, 3) := by decide +kernel
theorem dX12_fits_154 : decode cX12_fits 154 = .ok (.iload_n 1, 1) := by decide +kernel
theorem dX12_fits_155 : decode cX12_fits 155 = .ok (.iaload, 1) := by decide +kernel
theorem dX12_fits_156 : decode cX12_fits 156 = .ok (.ifCond .eq 16, 3) := by decide +kernel
theorem dX12_fits_159 : decode cX12_fits 159 = .ok (.aload_n 0, 1) := by decide +kernel
theorem dX12_fits_160 : decode cX12_fits 160 = .ok (.getfield 47, 3) := by decide +kernel
theorem dX12_fits_163 : decode cX12_fits 163 = .ok (.bipush 8, 2) := by decide +kernel
theorem dX12_fits_165 : decode cX12_fits 165 = .ok (.iload_n 1, 1) := by decide +kernel
theorem dX12_fits_166 : decode cX12_fits 166 = .ok (.imul, 1) := by decide +kernel
theorem dX12_fits_167 : decode cX12_fits 167 = .ok (.iaload, 1) := by decide +kernel
theorem dX12_fits_168 : decode cX12_fits 168 = .ok (.iload_n 2, 1) := by decide +kernel
theorem dX12_fits_169 : decode cX12_fits 169 = .ok (.if_icmp .ne 7, 3) := by decide +kernel
theorem dX12_fits_172 : decode cX12_fits 172 = .ok (.iconst 1, 1) := by decide +kernel
theorem dX12_fits_173 : decode cX12_fits 173 = .ok (.goto 4, 3) := by decide +kernel
theorem dX12_fits_176 : decode cX12_fits 176 = .ok (.iconst 0, 1) := by decide +kernel
theorem dX12_fits_177 : decode cX12_fits 177 = .ok (.ireturn, 1) := by decide +kernel
theorem dX12_fits_178 : decode cX12_fits 178 = .ok (.aload_n 0, 1) := by decide +kernel
theorem dX12_fits_179 : decode cX12_fits 179 = .ok (.getfield 60, 3) := by decide +kernel
theorem dX12_fits_182 : decode cX12_fits 182 = .ok (.iload_n 1, 1) := by decide +kernel
theorem dX12_fits_183 : decode cX12_fits 183 = .ok (.iaload, 1) := by decide +kernel
theorem dX12_fits_184 : decode cX12_fits 184 = .ok (.ifCond .ne 7, 3) := by decide +kernel
theorem dX12_fits_187 : decode cX12_fits 187 = .ok (.iconst 1, 1) := by decide +kernel
theorem dX12_fits_188 : decode cX12_fits 188 = .ok (.goto 4, 3) := by decide +kernel
theorem dX12_fits_191 : decode cX12_fits 191 = .ok (.iconst 0, 1) := by decide +kernel
theorem dX12_fits_192 : decode cX12_fits 192 = .ok (.ireturn, 1) := by decide +kernel
theorem dX12_granted_0 : decode cX12_granted 0 = .ok (.aload_n 0, 1) := by decide +kernel
theorem dX12_granted_1 : decode cX12_granted 1 = .ok (.getfield 50, 3) := by decide +kernel
theorem dX12_granted_4 : decode cX12_granted 4 = .ok (.iload_n 1, 1) := by decide +kernel
theorem dX12_granted_5 : decode cX12_granted 5 = .ok (.dup2, 1) := by decide +kernel
theorem dX12_granted_6 : decode cX12_granted 6 = .ok (.laload, 1) := by decide +kernel
theorem dX12_granted_7 : decode cX12_granted 7 = .ok (.lconst 1, 1) := by decide +kernel
theorem dX12_granted_8 : decode cX12_granted 8 = .ok (.ladd, 1) := by decide +kernel
theorem dX12_granted_9 : decode cX12_granted 9 = .ok (.lastore, 1) := by decide +kernel
theorem dX12_granted_10 : decode cX12_granted 10 = .ok (.aload_n 0, 1) := by decide +kernel
theorem dX12_granted_11 : decode cX12_granted 11 = .ok (.getfield 72, 3) := by decide +kernel
theorem dX12_granted_14 : decode cX12_granted 14 = .ok (.bipush 20, 2) := by decide +kernel
theorem dX12_granted_16 : decode cX12_granted 16 = .ok (.iload_n 1, 1) := by decide +kernel
theorem dX12_granted_17 : decode cX12_granted 17 = .ok (.imul, 1) := by decide +kernel
theorem dX12_granted_18 : decode cX12_granted 18 = .ok (.iload_n 2, 1) := by decide +kernel
theorem dX12_granted_19 : decode cX12_granted 19 = .ok (.iadd, 1) := by decide +kernel
theorem dX12_granted_20 : decode cX12_granted 20 = .ok (.aload_n 0, 1) := by decide +kernel
theorem dX12_granted_21 : decode cX12_granted 21 = .ok (.getfield 50, 3) := by decide +kernel
theorem dX12_granted_24 : decode cX12_granted 24 = .ok (.iload_n 1, 1) := by decide +kernel
theorem dX12_granted_25 : decode cX12_granted 25 = .ok (.laload, 1) := by decide +kernel
theorem dX12_granted_26 : decode cX12_granted 26 = .ok (.lastore, 1) := by decide +kernel
theorem dX12_granted_27 : decode cX12_granted 27 = .ok (.aload_n 0, 1) := by decide +kernel
theorem dX12_granted_28 : decode cX12_granted 28 = .ok (.getfield 75, 3) := by decide +kernel
theorem dX12_granted_31 : decode cX12_granted 31 = .ok (.bipush 20, 2) := by decide +kernel
theorem dX12_granted_33 : decode cX12_granted 33 = .ok (.iload_n 1, 1) := by decide +kernel
theorem dX12_granted_34 : decode cX12_granted 34 = .ok (.imul, 1) := by decide +kernel
theorem dX12_granted_35 : decode cX12_granted 35 = .ok (.iload_n 2, 1) := by decide +kernel
theorem dX12_granted_36 : decode cX12_granted 36 = .ok (.iadd, 1) := by decide +kernel
theorem dX12_granted_37 : decode cX12_granted 37 = .ok (.aload_n 0, 1) := by decide +kernel
theorem dX12_granted_38 : decode cX12_granted 38 = .ok (.aload_n 0, 1) := by decide +kernel
theorem dX12_granted_39 : decode cX12_granted 39 = .ok (.getfield 78, 3) := by decide +kernel
theorem dX12_granted_42 : decode cX12_granted 42 = .ok (.invokevirtual 187, 3) := by decide +kernel
theorem dX12_granted_45 : decode cX12_granted 45 = .ok (.aload_n 0, 1) := by decide +kernel
theorem dX12_granted_46 : decode cX12_granted 46 = .ok (.iload_n 1, 1) := by decide +kernel
theorem dX12_granted_47 : decode cX12_granted 47 = .ok (.invokevirtual 210, 3) := by decide +kernel
theorem dX12_granted_50 : decode cX12_granted 50 = .ok (.i2l, 1) := by decide +kernel
theorem dX12_granted_51 : decode cX12_granted 51 = .ok (.ladd, 1) := by decide +kernel
theorem dX12_granted_52 : decode cX12_granted 52 = .ok (.lastore, 1) := by decide +kernel
theorem dX12_granted_53 : decode cX12_granted 53 = .ok (.aload_n 0, 1) := by decide +kernel
theorem dX12_granted_54 : decode cX12_granted 54 = .ok (.dup, 1) := by decide +kernel
theorem dX12_granted_55 : decode cX12_granted 55 = .ok (.getfield 248, 3) := by decide +kernel
theorem dX12_granted_58 : decode cX12_granted 58 = .ok (.iconst 1, 1) := by decide +kernel
theorem dX12_granted_59 : decode cX12_granted 59 = .ok (.iadd, 1) := by decide +kernel
theorem dX12_granted_60 : decode cX12_granted 60 = .ok (.putfield 248, 3) := by decide +kernel
theorem dX12_granted_63 : decode cX12_granted 63 = .ok (.return_, 1) := by decide +kernel
theorem dX12_answers_0 : decode cX12_answers 0 = .ok (.aload_n 0, 1) := by decide +kernel
theorem dX12_answers_1 : decode cX12_answers 1 = .ok (.iload_n 2, 1) := by decide +kernel
theorem dX12_answers_2 : decode cX12_answers 2 = .ok (.aload_n 0, 1) := by decide +kernel
theorem dX12_answers_3 : decode cX12_answers 3 = .ok (.getfield 103, 3) := by decide +kernel
theorem dX12_answers_6 : decode cX12_answers 6 = .ok (.iload_n 1, 1) := by decide +kernel
theorem dX12_answers_7 : decode cX12_answers 7 = .ok (.iaload, 1) := by decide +kernel
theorem dX12_answers_8 : decode cX12_answers 8 = .ok (.aload_n 0, 1) := by decide +kernel
theorem dX12_answers_9 : decode cX12_answers 9 = .ok (.getfield 106, 3) := by decide +kernel
theorem dX12_answers_12 : decode cX12_answers 12 = .ok (.iload_n 1, 1) := by decide +kernel
theorem dX12_answers_13 : decode cX12_answers 13 = .ok (.iaload, 1) := by decide +kernel
theorem dX12_answers_14 : decode cX12_answers 14 = .ok (.aload_n 0, 1) := by decide +kernel
theorem dX12_answers_15 : decode cX12_answers 15 = .ok (.getfield 109, 3) := by decide +kernel
theorem dX12_answers_18 : decode cX12_answers 18 = .ok (.iload_n 1, 1) := by decide +kernel
theorem dX12_answers_19 : decode cX12_answers 19 = .ok (.iaload, 1) := by decide +kernel
theorem dX12_answers_20 : decode cX12_answers 20 = .ok (.invokevirtual 217, 3) := by decide +kernel
theorem dX12_answers_23 : decode cX12_answers 23 = .ok (.istore_n 3, 1) := by decide +kernel
theorem dX12_answers_24 : decode cX12_answers 24 = .ok (.iload_n 2, 1) := by decide +kernel
theorem dX12_answers_25 : decode cX12_answers 25 = .ok (.bipush 7, 2) := by decide +kernel
theorem dX12_answers_27 : decode cX12_answers 27 = .ok (.if_icmp .eq 27, 3) := by decide +kernel
theorem dX12_answers_30 : decode cX12_answers 30 = .ok (.aload_n 0, 1) := by decide +kernel
theorem dX12_answers_31 : decode cX12_answers 31 = .ok (.getfield 121, 3) := by decide +kernel
theorem dX12_answers_34 : decode cX12_answers 34 = .ok (.iload_n 3, 1) := by decide +kernel
theorem dX12_answers_35 : decode cX12_answers 35 = .ok (.aload_n 0, 1) := by decide +kernel
theorem dX12_answers_36 : decode cX12_answers 36 = .ok (.getfield 121, 3) := by decide +kernel
theorem dX12_answers_39 : decode cX12_answers 39 = .ok (.iload_n 1, 1) := by decide +kernel
theorem dX12_answers_40 : decode cX12_answers 40 = .ok (.iaload, 1) := by decide +kernel
theorem dX12_answers_41 : decode cX12_answers 41 = .ok (.iastore, 1) := by decide +kernel
theorem dX12_answers_42 : decode cX12_answers 42 = .ok (.aload_n 0, 1) := by decide +kernel
theorem dX12_answers_43 : decode cX12_answers 43 = .ok (.getfield 127, 3) := by decide +kernel
theorem dX12_answers_46 : decode cX12_answers 46 = .ok (.iload_n 3, 1) := by decide +kernel
theorem dX12_answers_47 : decode cX12_answers 47 = .ok (.aload_n 0, 1) := by decide +kernel
theorem dX12_answers_48 : decode cX12_answers 48 = .ok (.getfield 127, 3) := by decide +kernel
theorem dX12_answers_51 : decode cX12_answers 51 = .ok (.iload_n 1, 1) := by decide +kernel
theorem dX12_answers_52 : decode cX12_answers 52 = .ok (.laload, 1) := by decide +kernel
theorem dX12_answers_53 : decode cX12_answers 53 = .ok (.lastore, 1) := by decide +kernel
theorem dX12_answers_54 : decode cX12_answers 54 = .ok (.iload_n 3, 1) := by decide +kernel
theorem dX12_answers_55 : decode cX12_answers 55 = .ok (.ireturn, 1) := by decide +kernel
theorem dX12_refuses_0 : decode cX12_refuses 0 = .ok (.aload_n 0, 1) := by decide +kernel
theorem dX12_refuses_1 : decode cX12_refuses 1 = .ok (.dup, 1) := by decide +kernel
theorem dX12_refuses_2 : decode cX12_refuses 2 = .ok (.getfield 251, 3) := by decide +kernel
theorem dX12_refuses_5 : decode cX12_refuses 5 = .ok (.iconst 1, 1) := by decide +kernel
theorem dX12_refuses_6 : decode cX12_refuses 6 = .ok (.iadd, 1) := by decide +kernel
theorem dX12_refuses_7 : decode cX12_refuses 7 = .ok (.putfield 251, 3) := by decide +kernel
theorem dX12_refuses_10 : decode cX12_refuses 10 = .ok (.aload_n 0, 1) := by decide +kernel
theorem dX12_refuses_11 : decode cX12_refuses 11 = .ok (.iload_n 1, 1) := by decide +kernel
theorem dX12_refuses_12 : decode cX12_refuses 12 = .ok (.iconst 5, 1) := by decide +kernel
theorem dX12_refuses_13 : decode cX12_refuses 13 = .ok (.invokevirtual 254, 3) := by decide +kernel
theorem dX12_refuses_16 : decode cX12_refuses 16 = .ok (.pop, 1) := by decide +kernel
theorem dX12_refuses_17 : decode cX12_refuses 17 = .ok (.return_, 1) := by decide +kernel
theorem dX12_isLate_0 : decode cX12_isLate 0 = .ok (.aload_n 0, 1) := by decide +kernel
theorem dX12_isLate_1 : decode cX12_isLate 1 = .ok (.dup, 1) := by decide +kernel
theorem dX12_isLate_2 : decode cX12_isLate 2 = .ok (.getfield 257, 3) := by decide +kernel
theorem dX12_isLate_5 : decode cX12_isLate 5 = .ok (.iconst 1, 1) := by decide +kernel
theorem dX12_isLate_6 : decode cX12_isLate 6 = .ok (.iadd, 1) := by decide +kernel
theorem dX12_isLate_7 : decode cX12_isLate 7 = .ok (.putfield 257, 3) := by decide +kernel
theorem dX12_isLate_10 : decode cX12_isLate 10 = .ok (.aload_n 0, 1) := by decide +kernel
theorem dX12_isLate_11 : decode cX12_isLate 11 = .ok (.iload_n 1, 1) := by decide +kernel
theorem dX12_isLate_12 : decode cX12_isLate 12 = .ok (.bipush 7, 2) := by decide +kernel
theorem dX12_isLate_14 : decode cX12_isLate 14 = .ok (.invokevirtual 254, 3) := by decide +kernel
theorem dX12_isLate_17 : decode cX12_isLate 17 = .ok (.istore_n 2, 1) := by decide +kernel
theorem dX12_isLate_18 : decode cX12_isLate 18 = .ok (.aload_n 0, 1) := by decide +kernel
theorem dX12_isLate_19 : decode cX12_isLate 19 = .ok (.getfield 124, 3) := by decide +kernel
theorem dX12_isLate_22 : decode cX12_isLate 22 = .ok (.iload_n 2, 1) := by decide +kernel
theorem dX12_isLate_23 : decode cX12_isLate 23 = .ok (.aload_n 0, 1) := by decide +kernel
theorem dX12_isLate_24 : decode cX12_isLate 24 = .ok (.getfield 124, 3) := by decide +kernel
theorem dX12_isLate_27 : decode cX12_isLate 27 = .ok (.iload_n 1, 1) := by decide +kernel
theorem dX12_isLate_28 : decode cX12_isLate 28 = .ok (.laload, 1) := by decide +kernel
theorem dX12_isLate_29 : decode cX12_isLate 29 = .ok (.lastore, 1) := by decide +kernel
theorem dX12_isLate_30 : decode cX12_isLate 30 = .ok (.return_, 1) := by decide +kernel
theorem dX12_grants_0 : decode cX12_grants 0 = .ok (.bipush 20, 2) := by decide +kernel
theorem dX12_grants_2 : decode cX12_grants 2 = .ok (.aload_n 0, 1) := by decide +kernel
theorem dX12_grants_3 : decode cX12_grants 3 = .ok (.getfield 109, 3) := by decide +kernel
theorem dX12_grants_6 : decode cX12_grants 6 = .ok (.iload_n 1, 1) := by decide +kernel
theorem dX12_grants_7 : decode cX12_grants 7 = .ok (.iaload, 1) := by decide +kernel
theorem dX12_grants_8 : decode cX12_grants 8 = .ok (.imul, 1) := by decide +kernel
theorem dX12_grants_9 : decode cX12_grants 9 = .ok (.iload_n 2, 1) := by decide +kernel
theorem dX12_grants_10 : decode cX12_grants 10 = .ok (.iadd, 1) := by decide +kernel
theorem dX12_grants_11 : decode cX12_grants 11 = .ok (.istore_n 3, 1) := by decide +kernel
theorem dX12_grants_12 : decode cX12_grants 12 = .ok (.aload_n 0, 1) := by decide +kernel
theorem dX12_grants_13 : decode cX12_grants 13 = .ok (.iload_n 1, 1) := by decide +kernel
theorem dX12_grants_14 : decode cX12_grants 14 = .ok (.iconst 4, 1) := by decide +kernel
theorem dX12_grants_15 : decode cX12_grants 15 = .ok (.invokevirtual 254, 3) := by decide +kernel
theorem dX12_grants_18 : decode cX12_grants 18 = .ok (.istore 4, 2) := by decide +kernel
theorem dX12_grants_20 : decode cX12_grants 20 = .ok (.aload_n 0, 1) := by decide +kernel
theorem dX12_grants_21 : decode cX12_grants 21 = .ok (.getfield 112, 3) := by decide +kernel
theorem dX12_grants_24 : decode cX12_grants 24 = .ok (.iload 4, 2) := by decide +kernel
theorem dX12_grants_26 : decode cX12_grants 26 = .ok (.aload_n 0, 1) := by decide +kernel
theorem dX12_grants_27 : decode cX12_grants 27 = .ok (.getfield 66, 3) := by decide +kernel
theorem dX12_grants_30 : decode cX12_grants 30 = .ok (.iload_n 3, 1) := by decide +kernel
theorem dX12_grants_31 : decode cX12_grants 31 = .ok (.iaload, 1) := by decide +kernel
theorem dX12_grants_32 : decode cX12_grants 32 = .ok (.iastore, 1) := by decide +kernel
theorem dX12_grants_33 : decode cX12_grants 33 = .ok (.aload_n 0, 1) := by decide +kernel
theorem dX12_grants_34 : decode cX12_grants 34 = .ok (.getfield 115, 3) := by decide +kernel
theorem dX12_grants_37 : decode cX12_grants 37 = .ok (.iload 4, 2) := by decide +kernel
theorem dX12_grants_39 : decode cX12_grants 39 = .ok (.aload_n 0, 1) := by decide +kernel
theorem dX12_grants_40 : decode cX12_grants 40 = .ok (.getfield 69, 3) := by decide +kernel
theorem dX12_grants_43 : decode cX12_grants 43 = .ok (.iload_n 3, 1) := by decide +kernel
theorem dX12_grants_44 : decode cX12_grants 44 = .ok (.iaload, 1) := by decide +kernel
theorem dX12_grants_45 : decode cX12_grants 45 = .ok (.iastore, 1) := by decide +kernel
theorem dX12_grants_46 : decode cX12_grants 46 = .ok (.aload_n 0, 1) := by decide +kernel
theorem dX12_grants_47 : decode cX12_grants 47 = .ok (.getfield 124, 3) := by decide +kernel
theorem dX12_grants_50 : decode cX12_grants 50 = .ok (.iload 4, 2) := by decide +kernel
theorem dX12_grants_52 : decode cX12_grants 52 = .ok (.aload_n 0, 1) := by decide +kernel
theorem dX12_grants_53 : decode cX12_grants 53 = .ok (.getfield 72, 3) := by decide +kernel
theorem dX12_grants_56 : decode cX12_grants 56 = .ok (.iload_n 3, 1) := by decide +kernel
theorem dX12_grants_57 : decode cX12_grants 57 = .ok (.laload, 1) := by decide +kernel
theorem dX12_grants_58 : decode cX12_grants 58 = .ok (.lastore, 1) := by decide +kernel
theorem dX12_grants_59 : decode cX12_grants 59 = .ok (.return_, 1) := by decide +kernel
theorem dX12_asks_0 : decode cX12_asks 0 = .ok (.aload_n 0, 1) := by decide +kernel
theorem dX12_asks_1 : decode cX12_asks 1 = .ok (.getfield 109, 3) := by decide +kernel
theorem dX12_asks_4 : decode cX12_asks 4 = .ok (.iload_n 1, 1) := by decide +kernel
theorem dX12_asks_5 : decode cX12_asks 5 = .ok (.iaload, 1) := by decide +kernel
theorem dX12_asks_6 : decode cX12_asks 6 = .ok (.istore_n 2, 1) := by decide +kernel
theorem dX12_asks_7 : decode cX12_asks 7 = .ok (.aload_n 0, 1) := by decide +kernel
theorem dX12_asks_8 : decode cX12_asks 8 = .ok (.getfield 103, 3) := by decide +kernel
theorem dX12_asks_11 : decode cX12_asks 11 = .ok (.iload_n 1, 1) := by decide +kernel
theorem dX12_asks_12 : decode cX12_asks 12 = .ok (.iaload, 1) := by decide +kernel
theorem dX12_asks_13 : decode cX12_asks 13 = .ok (.istore_n 3, 1) := by decide +kernel
theorem dX12_asks_14 : decode cX12_asks 14 = .ok (.aload_n 0, 1) := by decide +kernel
theorem dX12_asks_15 : decode cX12_asks 15 = .ok (.iload_n 2, 1) := by decide +kernel
theorem dX12_asks_16 : decode cX12_asks 16 = .ok (.iload_n 3, 1) := by decide +kernel
theorem dX12_asks_17 : decode cX12_asks 17 = .ok (.invokevirtual 235, 3) := by decide +kernel
theorem dX12_asks_20 : decode cX12_asks 20 = .ok (.iconst (-1), 1) := by decide +kernel
theorem dX12_asks_21 : decode cX12_asks 21 = .ok (.if_icmp .eq 11, 3) := by decide +kernel
theorem dX12_asks_24 : decode cX12_asks 24 = .ok (.aload_n 0, 1) := by decide +kernel
theorem dX12_asks_25 : decode cX12_asks 25 = .ok (.iload_n 1, 1) := by decide +kernel
theorem dX12_asks_26 : decode cX12_asks 26 = .ok (.invokevirtual 260, 3) := by decide +kernel
theorem dX12_asks_29 : decode cX12_asks 29 = .ok (.goto 205, 3) := by decide +kernel
theorem dX12_asks_32 : decode cX12_asks 32 = .ok (.aload_n 0, 1) := by decide +kernel
theorem dX12_asks_33 : decode cX12_asks 33 = .ok (.iload_n 2, 1) := by decide +kernel
theorem dX12_asks_34 : decode cX12_asks 34 = .ok (.iload_n 3, 1) := by decide +kernel
theorem dX12_asks_35 : decode cX12_asks 35 = .ok (.aload_n 0, 1) := by decide +kernel
theorem dX12_asks_36 : decode cX12_asks 36 = .ok (.getfield 112, 3) := by decide +kernel
theorem dX12_asks_39 : decode cX12_asks 39 = .ok (.iload_n 1, 1) := by decide +kernel
theorem dX12_asks_40 : decode cX12_asks 40 = .ok (.iaload, 1) := by decide +kernel
theorem dX12_asks_41 : decode cX12_asks 41 = .ok (.aload_n 0, 1) := by decide +kernel
theorem dX12_asks_42 : decode cX12_asks 42 = .ok (.getfield 115, 3) := by decide +kernel
theorem dX12_asks_45 : decode cX12_asks 45 = .ok (.iload_n 1, 1) := by decide +kernel
theorem dX12_asks_46 : decode cX12_asks 46 = .ok (.iaload, 1) := by decide +kernel
theorem dX12_asks_47 : decode cX12_asks 47 = .ok (.invokevirtual 264, 3) := by decide +kernel
theorem dX12_asks_50 : decode cX12_asks 50 = .ok (.ifCond .eq 108, 3) := by decide +kernel
theorem dX12_asks_53 : decode cX12_asks 53 = .ok (.aload_n 0, 1) := by decide +kernel
theorem dX12_asks_54 : decode cX12_asks 54 = .ok (.iload_n 2, 1) := by decide +kernel
theorem dX12_asks_55 : decode cX12_asks 55 = .ok (.iload_n 3, 1) := by decide +kernel
theorem dX12_asks_56 : decode cX12_asks 56 = .ok (.invokevirtual 268, 3) := by decide +kernel
theorem dX12_asks_59 : decode cX12_asks 59 = .ok (.istore 4, 2) := by decide +kernel
theorem dX12_asks_61 : decode cX12_asks 61 = .ok (.iload 4, 2) := by decide +kernel
theorem dX12_asks_63 : decode cX12_asks 63 = .ok (.iconst (-1), 1) := by decide +kernel
theorem dX12_asks_64 : decode cX12_asks 64 = .ok (.if_icmp .eq 10, 3) := by decide +kernel
theorem dX12_asks_67 : decode cX12_asks 67 = .ok (.aload_n 0, 1) := by decide +kernel
theorem dX12_asks_68 : decode cX12_asks 68 = .ok (.iload_n 2, 1) := by decide +kernel
theorem dX12_asks_69 : decode cX12_asks 69 = .ok (.iload 4, 2) := by decide +kernel
theorem dX12_asks_71 : decode cX12_asks 71 = .ok (.invokevirtual 239, 3) := by decide +kernel
theorem dX12_asks_74 : decode cX12_asks 74 = .ok (.aload_n 0, 1) := by decide +kernel
theorem dX12_asks_75 : decode cX12_asks 75 = .ok (.getfield 60, 3) := by decide +kernel
theorem dX12_asks_78 : decode cX12_asks 78 = .ok (.iload_n 2, 1) := by decide +kernel
theorem dX12_asks_79 : decode cX12_asks 79 = .ok (.iaload, 1) := by decide +kernel
theorem dX12_asks_80 : decode cX12_asks 80 = .ok (.istore 5, 2) := by decide +kernel
theorem dX12_asks_82 : decode cX12_asks 82 = .ok (.aload_n 0, 1) := by decide +kernel
theorem dX12_asks_83 : decode cX12_asks 83 = .ok (.getfield 60, 3) := by decide +kernel
theorem dX12_asks_86 : decode cX12_asks 86 = .ok (.iload_n 2, 1) := by decide +kernel
theorem dX12_asks_87 : decode cX12_asks 87 = .ok (.dup2, 1) := by decide +kernel
theorem dX12_asks_88 : decode cX12_asks 88 = .ok (.iaload, 1) := by decide +kernel
theorem dX12_asks_89 : decode cX12_asks 89 = .ok (.iconst 1, 1) := by decide +kernel
theorem dX12_asks_90 : decode cX12_asks 90 = .ok (.iadd, 1) := by decide +kernel
theorem dX12_asks_91 : decode cX12_asks 91 = .ok (.iastore, 1) := by decide +kernel
theorem dX12_asks_92 : decode cX12_asks 92 = .ok (.aload_n 0, 1) := by decide +kernel
theorem dX12_asks_93 : decode cX12_asks 93 = .ok (.getfield 63, 3) := by decide +kernel
theorem dX12_asks_96 : decode cX12_asks 96 = .ok (.bipush 20, 2) := by decide +kernel
theorem dX12_asks_98 : decode cX12_asks 98 = .ok (.iload_n 2, 1) := by decide +kernel
theorem dX12_asks_99 : decode cX12_asks 99 = .ok (.imul, 1) := by decide +kernel
theorem dX12_asks_100 : decode cX12_asks 100 = .ok (.iload 5, 2) := by decide +kernel
theorem dX12_asks_102 : decode cX12_asks 102 = .ok (.iadd, 1) := by decide +kernel
theorem dX12_asks_103 : decode cX12_asks 103 = .ok (.iload_n 3, 1) := by decide +kernel
theorem dX12_asks_104 : decode cX12_asks 104 = .ok (.iastore, 1) := by decide +kernel
theorem dX12_asks_105 : decode cX12_asks 105 = .ok (.aload_n 0, 1) := by decide +kernel
theorem dX12_asks_106 : decode cX12_asks 106 = .ok (.getfield 66, 3) := by decide +kernel
theorem dX12_asks_109 : decode cX12_asks 109 = .ok (.bipush 20, 2) := by decide +kernel
theorem dX12_asks_111 : decode cX12_asks 111 = .ok (.iload_n 2, 1) := by decide +kernel
theorem dX12_asks_112 : decode cX12_asks 112 = .ok (.imul, 1) := by decide +kernel
theorem dX12_asks_113 : decode cX12_asks 113 = .ok (.iload 5, 2) := by decide +kernel
theorem dX12_asks_115 : decode cX12_asks 115 = .ok (.iadd, 1) := by decide +kernel
theorem dX12_asks_116 : decode cX12_asks 116 = .ok (.aload_n 0, 1) := by decide +kernel
theorem dX12_asks_117 : decode cX12_asks 117 = .ok (.getfield 112, 3) := by decide +kernel
theorem dX12_asks_120 : decode cX12_asks 120 = .ok (.iload_n 1, 1) := by decide +kernel
theorem dX12_asks_121 : decode cX12_asks 121 = .ok (.iaload, 1) := by decide +kernel
theorem dX12_asks_122 : decode cX12_asks 122 = .ok (.iastore, 1) := by decide +kernel
theorem dX12_asks_123 : decode cX12_asks 123 = .ok (.aload_n 0, 1) := by decide +kernel
theorem dX12_asks_124 : decode cX12_asks 124 = .ok (.getfield 69, 3) := by decide +kernel
theorem dX12_asks_127 : decode cX12_asks 127 = .ok (.bipush 20, 2) := by decide +kernel
theorem dX12_asks_129 : decode cX12_asks 129 = .ok (.iload_n 2, 1) := by decide +kernel
theorem dX12_asks_130 : decode cX12_asks 130 = .ok (.imul, 1) := by decide +kernel
theorem dX12_asks_131 : decode cX12_asks 131 = .ok (.iload 5, 2) := by decide +kernel
theorem dX12_asks_133 : decode cX12_asks 133 = .ok (.iadd, 1) := by decide +kernel
theorem dX12_asks_134 : decode cX12_asks 134 = .ok (.aload_n 0, 1) := by decide +kernel
theorem dX12_asks_135 : decode cX12_asks 135 = .ok (.getfield 115, 3) := by decide +kernel
theorem dX12_asks_138 : decode cX12_asks 138 = .ok (.iload_n 1, 1) := by decide +kernel
theorem dX12_asks_139 : decode cX12_asks 139 = .ok (.iaload, 1) := by decide +kernel
theorem dX12_asks_140 : decode cX12_asks 140 = .ok (.iastore, 1) := by decide +kernel
theorem dX12_asks_141 : decode cX12_asks 141 = .ok (.aload_n 0, 1) := by decide +kernel
theorem dX12_asks_142 : decode cX12_asks 142 = .ok (.iload_n 2, 1) := by decide +kernel
theorem dX12_asks_143 : decode cX12_asks 143 = .ok (.iload 5, 2) := by decide +kernel
theorem dX12_asks_145 : decode cX12_asks 145 = .ok (.invokevirtual 271, 3) := by decide +kernel
theorem dX12_asks_148 : decode cX12_asks 148 = .ok (.aload_n 0, 1) := by decide +kernel
theorem dX12_asks_149 : decode cX12_asks 149 = .ok (.iload_n 1, 1) := by decide +kernel
theorem dX12_asks_150 : decode cX12_asks 150 = .ok (.iload 5, 2) := by decide +kernel
theorem dX12_asks_152 : decode cX12_asks 152 = .ok (.invokevirtual 274, 3) := by decide +kernel
theorem dX12_asks_155 : decode cX12_asks 155 = .ok (.goto 79, 3) := by decide +kernel
theorem dX12_asks_158 : decode cX12_asks 158 = .ok (.aload_n 0, 1) := by decide +kernel
theorem dX12_asks_159 : decode cX12_asks 159 = .ok (.getfield 32, 3) := by decide +kernel
theorem dX12_asks_162 : decode cX12_asks 162 = .ok (.iload_n 2, 1) := by decide +kernel
theorem dX12_asks_163 : decode cX12_asks 163 = .ok (.iaload, 1) := by decide +kernel
theorem dX12_asks_164 : decode cX12_asks 164 = .ok (.iconst 4, 1) := by decide +kernel
theorem dX12_asks_165 : decode cX12_asks 165 = .ok (.if_icmp .ne 24, 3) := by decide +kernel
theorem dX12_asks_168 : decode cX12_asks 168 = .ok (.aload_n 0, 1) := by decide +kernel
theorem dX12_asks_169 : decode cX12_asks 169 = .ok (.iload_n 2, 1) := by decide +kernel
theorem dX12_asks_170 : decode cX12_asks 170 = .ok (.iload_n 3, 1) := by decide +kernel
theorem dX12_asks_171 : decode cX12_asks 171 = .ok (.invokevirtual 268, 3) := by decide +kernel
theorem dX12_asks_174 : decode cX12_asks 174 = .ok (.iconst (-1), 1) := by decide +kernel
theorem dX12_asks_175 : decode cX12_asks 175 = .ok (.if_icmp .ne 22, 3) := by decide +kernel
theorem dX12_asks_178 : decode cX12_asks 178 = .ok (.aload_n 0, 1) := by decide +kernel
theorem dX12_asks_179 : decode cX12_asks 179 = .ok (.getfield 44, 3) := by decide +kernel
theorem dX12_asks_182 : decode cX12_asks 182 = .ok (.iload_n 2, 1) := by decide +kernel
theorem dX12_asks_183 : decode cX12_asks 183 = .ok (.iaload, 1) := by decide +kernel
theorem dX12_asks_184 : decode cX12_asks 184 = .ok (.bipush 8, 2) := by decide +kernel
theorem dX12_asks_186 : decode cX12_asks 186 = .ok (.if_icmp .ne 11, 3) := by decide +kernel
theorem dX12_asks_189 : decode cX12_asks 189 = .ok (.aload_n 0, 1) := by decide +kernel
theorem dX12_asks_190 : decode cX12_asks 190 = .ok (.iload_n 1, 1) := by decide +kernel
theorem dX12_asks_191 : decode cX12_asks 191 = .ok (.invokevirtual 260, 3) := by decide +kernel
theorem dX12_asks_194 : decode cX12_asks 194 = .ok (.goto 40, 3) := by decide +kernel
theorem dX12_asks_197 : decode cX12_asks 197 = .ok (.aload_n 0, 1) := by decide +kernel
theorem dX12_asks_198 : decode cX12_asks 198 = .ok (.iload_n 2, 1) := by decide +kernel
theorem dX12_asks_199 : decode cX12_asks 199 = .ok (.iload_n 3, 1) := by decide +kernel
theorem dX12_asks_200 : decode cX12_asks 200 = .ok (.invokevirtual 268, 3) := by decide +kernel
theorem dX12_asks_203 : decode cX12_asks 203 = .ok (.iconst (-1), 1) := by decide +kernel
theorem dX12_asks_204 : decode cX12_asks 204 = .ok (.if_icmp .ne 30, 3) := by decide +kernel
theorem dX12_asks_207 : decode cX12_asks 207 = .ok (.aload_n 0, 1) := by decide +kernel
theorem dX12_asks_208 : decode cX12_asks 208 = .ok (.getfield 47, 3) := by decide +kernel
theorem dX12_asks_211 : decode cX12_asks 211 = .ok (.bipush 8, 2) := by decide +kernel
theorem dX12_asks_213 : decode cX12_asks 213 = .ok (.iload_n 2, 1) := by decide +kernel
theorem dX12_asks_214 : decode cX12_asks 214 = .ok (.imul, 1) := by decide +kernel
theorem dX12_asks_215 : decode cX12_asks 215 = .ok (.aload_n 0, 1) := by decide +kernel
theorem dX12_asks_216 : decode cX12_asks 216 = .ok (.getfield 44, 3) := by decide +kernel
theorem dX12_asks_219 : decode cX12_asks 219 = .ok (.iload_n 2, 1) := by decide +kernel
theorem dX12_asks_220 : decode cX12_asks 220 = .ok (.iaload, 1) := by decide +kernel
theorem dX12_asks_221 : decode cX12_asks 221 = .ok (.iadd, 1) := by decide +kernel
theorem dX12_asks_222 : decode cX12_asks 222 = .ok (.iload_n 3, 1) := by decide +kernel
theorem dX12_asks_223 : decode cX12_asks 223 = .ok (.iastore, 1) := by decide +kernel
theorem dX12_asks_224 : decode cX12_asks 224 = .ok (.aload_n 0, 1) := by decide +kernel
theorem dX12_asks_225 : decode cX12_asks 225 = .ok (.getfield 44, 3) := by decide +kernel
theorem dX12_asks_228 : decode cX12_asks 228 = .ok (.iload_n 2, 1) := by decide +kernel
theorem dX12_asks_229 : decode cX12_asks 229 = .ok (.dup2, 1) := by decide +kernel
theorem dX12_asks_230 : decode cX12_asks 230 = .ok (.iaload, 1) := by decide +kernel
theorem dX12_asks_231 : decode cX12_asks 231 = .ok (.iconst 1, 1) := by decide +kernel
theorem dX12_asks_232 : decode cX12_asks 232 = .ok (.iadd, 1) := by decide +kernel
theorem dX12_asks_233 : decode cX12_asks 233 = .ok (.iastore, 1) := by decide +kernel
theorem dX12_asks_234 : decode cX12_asks 234 = .ok (.return_, 1) := by decide +kernel
theorem dX12_meant_0 : decode cX12_meant 0 = .ok (.aload_n 0, 1) := by decide +kernel
theorem dX12_meant_1 : decode cX12_meant 1 = .ok (.aload_n 0, 1) := by decide +kernel
theorem dX12_meant_2 : decode cX12_meant 2 = .ok (.getfield 109, 3) := by decide +kernel
theorem dX12_meant_5 : decode cX12_meant 5 = .ok (.iload_n 1, 1) := by decide +kernel
theorem dX12_meant_6 : decode cX12_meant 6 = .ok (.iaload, 1) := by decide +kernel
theorem dX12_meant_7 : decode cX12_meant 7 = .ok (.aload_n 0, 1) := by decide +kernel
theorem dX12_meant_8 : decode cX12_meant 8 = .ok (.getfield 103, 3) := by decide +kernel
theorem dX12_meant_11 : decode cX12_meant 11 = .ok (.iload_n 1, 1) := by decide +kernel
theorem dX12_meant_12 : decode cX12_meant 12 = .ok (.iaload, 1) := by decide +kernel
theorem dX12_meant_13 : decode cX12_meant 13 = .ok (.invokevirtual 235, 3) := by decide +kernel
theorem dX12_meant_16 : decode cX12_meant 16 = .ok (.istore_n 2, 1) := by decide +kernel
theorem dX12_meant_17 : decode cX12_meant 17 = .ok (.iload_n 2, 1) := by decide +kernel
theorem dX12_meant_18 : decode cX12_meant 18 = .ok (.iconst (-1), 1) := by decide +kernel
theorem dX12_meant_19 : decode cX12_meant 19 = .ok (.if_icmp .eq 33, 3) := by decide +kernel
theorem dX12_meant_22 : decode cX12_meant 22 = .ok (.aload_n 0, 1) := by decide +kernel
theorem dX12_meant_23 : decode cX12_meant 23 = .ok (.getfield 72, 3) := by decide +kernel
theorem dX12_meant_26 : decode cX12_meant 26 = .ok (.bipush 20, 2) := by decide +kernel
theorem dX12_meant_28 : decode cX12_meant 28 = .ok (.aload_n 0, 1) := by decide +kernel
theorem dX12_meant_29 : decode cX12_meant 29 = .ok (.getfield 109, 3) := by decide +kernel
theorem dX12_meant_32 : decode cX12_meant 32 = .ok (.iload_n 1, 1) := by decide +kernel
theorem dX12_meant_33 : decode cX12_meant 33 = .ok (.iaload, 1) := by decide +kernel
theorem dX12_meant_34 : decode cX12_meant 34 = .ok (.imul, 1) := by decide +kernel
theorem dX12_meant_35 : decode cX12_meant 35 = .ok (.iload_n 2, 1) := by decide +kernel
theorem dX12_meant_36 : decode cX12_meant 36 = .ok (.iadd, 1) := by decide +kernel
theorem dX12_meant_37 : decode cX12_meant 37 = .ok (.laload, 1) := by decide +kernel
theorem dX12_meant_38 : decode cX12_meant 38 = .ok (.aload_n 0, 1) := by decide +kernel
theorem dX12_meant_39 : decode cX12_meant 39 = .ok (.getfield 124, 3) := by decide +kernel
theorem dX12_meant_42 : decode cX12_meant 42 = .ok (.iload_n 1, 1) := by decide +kernel
theorem dX12_meant_43 : decode cX12_meant 43 = .ok (.laload, 1) := by decide +kernel
theorem dX12_meant_44 : decode cX12_meant 44 = .ok (.lcmp, 1) := by decide +kernel
theorem dX12_meant_45 : decode cX12_meant 45 = .ok (.ifCond .ne 7, 3) := by decide +kernel
theorem dX12_meant_48 : decode cX12_meant 48 = .ok (.iload_n 2, 1) := by decide +kernel
theorem dX12_meant_49 : decode cX12_meant 49 = .ok (.goto 4, 3) := by decide +kernel
theorem dX12_meant_52 : decode cX12_meant 52 = .ok (.iconst (-1), 1) := by decide +kernel
theorem dX12_meant_53 : decode cX12_meant 53 = .ok (.ireturn, 1) := by decide +kernel
theorem dX12_prolongs_0 : decode cX12_prolongs 0 = .ok (.aload_n 0, 1) := by decide +kernel
theorem dX12_prolongs_1 : decode cX12_prolongs 1 = .ok (.getfield 109, 3) := by decide +kernel
theorem dX12_prolongs_4 : decode cX12_prolongs 4 = .ok (.iload_n 1, 1) := by decide +kernel
theorem dX12_prolongs_5 : decode cX12_prolongs 5 = .ok (.iaload, 1) := by decide +kernel
theorem dX12_prolongs_6 : decode cX12_prolongs 6 = .ok (.istore_n 3, 1) := by decide +kernel
theorem dX12_prolongs_7 : decode cX12_prolongs 7 = .ok (.aload_n 0, 1) := by decide +kernel
theorem dX12_prolongs_8 : decode cX12_prolongs 8 = .ok (.getfield 75, 3) := by decide +kernel
theorem dX12_prolongs_11 : decode cX12_prolongs 11 = .ok (.bipush 20, 2) := by decide +kernel
theorem dX12_prolongs_13 : decode cX12_prolongs 13 = .ok (.iload_n 3, 1) := by decide +kernel
theorem dX12_prolongs_14 : decode cX12_prolongs 14 = .ok (.imul, 1) := by decide +kernel
theorem dX12_prolongs_15 : decode cX12_prolongs 15 = .ok (.iload_n 2, 1) := by decide +kernel
theorem dX12_prolongs_16 : decode cX12_prolongs 16 = .ok (.iadd, 1) := by decide +kernel
theorem dX12_prolongs_17 : decode cX12_prolongs 17 = .ok (.aload_n 0, 1) := by decide +kernel
theorem dX12_prolongs_18 : decode cX12_prolongs 18 = .ok (.aload_n 0, 1) := by decide +kernel
theorem dX12_prolongs_19 : decode cX12_prolongs 19 = .ok (.getfield 78, 3) := by decide +kernel
theorem dX12_prolongs_22 : decode cX12_prolongs 22 = .ok (.invokevirtual 187, 3) := by decide +kernel
theorem dX12_prolongs_25 : decode cX12_prolongs 25 = .ok (.aload_n 0, 1) := by decide +kernel
theorem dX12_prolongs_26 : decode cX12_prolongs 26 = .ok (.iload_n 3, 1) := by decide +kernel
theorem dX12_prolongs_27 : decode cX12_prolongs 27 = .ok (.invokevirtual 210, 3) := by decide +kernel
theorem dX12_prolongs_30 : decode cX12_prolongs 30 = .ok (.i2l, 1) := by decide +kernel
theorem dX12_prolongs_31 : decode cX12_prolongs 31 = .ok (.ladd, 1) := by decide +kernel
theorem dX12_prolongs_32 : decode cX12_prolongs 32 = .ok (.lastore, 1) := by decide +kernel
theorem dX12_prolongs_33 : decode cX12_prolongs 33 = .ok (.aload_n 0, 1) := by decide +kernel
theorem dX12_prolongs_34 : decode cX12_prolongs 34 = .ok (.iload_n 1, 1) := by decide +kernel
theorem dX12_prolongs_35 : decode cX12_prolongs 35 = .ok (.iload_n 2, 1) := by decide +kernel
theorem dX12_prolongs_36 : decode cX12_prolongs 36 = .ok (.invokevirtual 274, 3) := by decide +kernel
theorem dX12_prolongs_39 : decode cX12_prolongs 39 = .ok (.return_, 1) := by decide +kernel
theorem dX12_rises_0 : decode cX12_rises 0 = .ok (.aload_n 0, 1) := by decide +kernel
theorem dX12_rises_1 : decode cX12_rises 1 = .ok (.getfield 109, 3) := by decide +kernel
theorem dX12_rises_4 : decode cX12_rises 4 = .ok (.iload_n 1, 1) := by decide +kernel
theorem dX12_rises_5 : decode cX12_rises 5 = .ok (.iaload, 1) := by decide +kernel
theorem dX12_rises_6 : decode cX12_rises 6 = .ok (.istore_n 2, 1) := by decide +kernel
theorem dX12_rises_7 : decode cX12_rises 7 = .ok (.aload_n 0, 1) := by decide +kernel
theorem dX12_rises_8 : decode cX12_rises 8 = .ok (.getfield 103, 3) := by decide +kernel
theorem dX12_rises_11 : decode cX12_rises 11 = .ok (.iload_n 1, 1) := by decide +kernel
theorem dX12_rises_12 : decode cX12_rises 12 = .ok (.iaload, 1) := by decide +kernel
theorem dX12_rises_13 : decode cX12_rises 13 = .ok (.istore_n 3, 1) := by decide +kernel
theorem dX12_rises_14 : decode cX12_rises 14 = .ok (.aload_n 0, 1) := by decide +kernel
theorem dX12_rises_15 : decode cX12_rises 15 = .ok (.iload_n 1, 1) := by decide +kernel
theorem dX12_rises_16 : decode cX12_rises 16 = .ok (.invokevirtual 276, 3) := by decide +kernel
theorem dX12_rises_19 : decode cX12_rises 19 = .ok (.istore 4, 2) := by decide +kernel
theorem dX12_rises_21 : decode cX12_rises 21 = .ok (.iload 4, 2) := by decide +kernel
theorem dX12_rises_23 : decode cX12_rises 23 = .ok (.iconst (-1), 1) := by decide +kernel
theorem dX12_rises_24 : decode cX12_rises 24 = .ok (.if_icmp .ne 11, 3) := by decide +kernel
theorem dX12_rises_27 : decode cX12_rises 27 = .ok (.aload_n 0, 1) := by decide +kernel
theorem dX12_rises_28 : decode cX12_rises 28 = .ok (.iload_n 1, 1) := by decide +kernel
theorem dX12_rises_29 : decode cX12_rises 29 = .ok (.invokevirtual 279, 3) := by decide +kernel
theorem dX12_rises_32 : decode cX12_rises 32 = .ok (.goto 102, 3) := by decide +kernel
theorem dX12_rises_35 : decode cX12_rises 35 = .ok (.aload_n 0, 1) := by decide +kernel
theorem dX12_rises_36 : decode cX12_rises 36 = .ok (.getfield 66, 3) := by decide +kernel
theorem dX12_rises_39 : decode cX12_rises 39 = .ok (.bipush 20, 2) := by decide +kernel
theorem dX12_rises_41 : decode cX12_rises 41 = .ok (.iload_n 2, 1) := by decide +kernel
theorem dX12_rises_42 : decode cX12_rises 42 = .ok (.imul, 1) := by decide +kernel
theorem dX12_rises_43 : decode cX12_rises 43 = .ok (.iload 4, 2) := by decide +kernel
theorem dX12_rises_45 : decode cX12_rises 45 = .ok (.iadd, 1) := by decide +kernel
theorem dX12_rises_46 : decode cX12_rises 46 = .ok (.iaload, 1) := by decide +kernel
theorem dX12_rises_47 : decode cX12_rises 47 = .ok (.ifCond .ne 13, 3) := by decide +kernel
theorem dX12_rises_50 : decode cX12_rises 50 = .ok (.aload_n 0, 1) := by decide +kernel
theorem dX12_rises_51 : decode cX12_rises 51 = .ok (.iload_n 1, 1) := by decide +kernel
theorem dX12_rises_52 : decode cX12_rises 52 = .ok (.iload 4, 2) := by decide +kernel
theorem dX12_rises_54 : decode cX12_rises 54 = .ok (.invokevirtual 282, 3) := by decide +kernel
theorem dX12_rises_57 : decode cX12_rises 57 = .ok (.goto 77, 3) := by decide +kernel
theorem dX12_rises_60 : decode cX12_rises 60 = .ok (.aload_n 0, 1) := by decide +kernel
theorem dX12_rises_61 : decode cX12_rises 61 = .ok (.getfield 41, 3) := by decide +kernel
theorem dX12_rises_64 : decode cX12_rises 64 = .ok (.iload_n 2, 1) := by decide +kernel
theorem dX12_rises_65 : decode cX12_rises 65 = .ok (.iaload, 1) := by decide +kernel
theorem dX12_rises_66 : decode cX12_rises 66 = .ok (.iconst (-1), 1) := by decide +kernel
theorem dX12_rises_67 : decode cX12_rises 67 = .ok (.if_icmp .eq 21, 3) := by decide +kernel
theorem dX12_rises_70 : decode cX12_rises 70 = .ok (.aload_n 0, 1) := by decide +kernel
theorem dX12_rises_71 : decode cX12_rises 71 = .ok (.getfield 41, 3) := by decide +kernel
theorem dX12_rises_74 : decode cX12_rises 74 = .ok (.iload_n 2, 1) := by decide +kernel
theorem dX12_rises_75 : decode cX12_rises 75 = .ok (.iaload, 1) := by decide +kernel
theorem dX12_rises_76 : decode cX12_rises 76 = .ok (.iload_n 3, 1) := by decide +kernel
theorem dX12_rises_77 : decode cX12_rises 77 = .ok (.if_icmp .eq 11, 3) := by decide +kernel
theorem dX12_rises_80 : decode cX12_rises 80 = .ok (.aload_n 0, 1) := by decide +kernel
theorem dX12_rises_81 : decode cX12_rises 81 = .ok (.iload_n 1, 1) := by decide +kernel
theorem dX12_rises_82 : decode cX12_rises 82 = .ok (.invokevirtual 260, 3) := by decide +kernel
theorem dX12_rises_85 : decode cX12_rises 85 = .ok (.goto 49, 3) := by decide +kernel
theorem dX12_rises_88 : decode cX12_rises 88 = .ok (.aload_n 0, 1) := by decide +kernel
theorem dX12_rises_89 : decode cX12_rises 89 = .ok (.getfield 41, 3) := by decide +kernel
theorem dX12_rises_92 : decode cX12_rises 92 = .ok (.iload_n 2, 1) := by decide +kernel
theorem dX12_rises_93 : decode cX12_rises 93 = .ok (.iload_n 3, 1) := by decide +kernel
theorem dX12_rises_94 : decode cX12_rises 94 = .ok (.iastore, 1) := by decide +kernel
theorem dX12_rises_95 : decode cX12_rises 95 = .ok (.aload_n 0, 1) := by decide +kernel
theorem dX12_rises_96 : decode cX12_rises 96 = .ok (.getfield 60, 3) := by decide +kernel
theorem dX12_rises_99 : decode cX12_rises 99 = .ok (.iload_n 2, 1) := by decide +kernel
theorem dX12_rises_100 : decode cX12_rises 100 = .ok (.iaload, 1) := by decide +kernel
theorem dX12_rises_101 : decode cX12_rises 101 = .ok (.iconst 1, 1) := by decide +kernel
theorem dX12_rises_102 : decode cX12_rises 102 = .ok (.if_icmp .ne 32, 3) := by decide +kernel
theorem dX12_rises_105 : decode cX12_rises 105 = .ok (.aload_n 0, 1) := by decide +kernel
theorem dX12_rises_106 : decode cX12_rises 106 = .ok (.getfield 66, 3) := by decide +kernel
theorem dX12_rises_109 : decode cX12_rises 109 = .ok (.bipush 20, 2) := by decide +kernel
theorem dX12_rises_111 : decode cX12_rises 111 = .ok (.iload_n 2, 1) := by decide +kernel
theorem dX12_rises_112 : decode cX12_rises 112 = .ok (.imul, 1) := by decide +kernel
theorem dX12_rises_113 : decode cX12_rises 113 = .ok (.iconst 0, 1) := by decide +kernel
theorem dX12_rises_114 : decode cX12_rises 114 = .ok (.iastore, 1) := by decide +kernel
theorem dX12_rises_115 : decode cX12_rises 115 = .ok (.aload_n 0, 1) := by decide +kernel
theorem dX12_rises_116 : decode cX12_rises 116 = .ok (.iload_n 2, 1) := by decide +kernel
theorem dX12_rises_117 : decode cX12_rises 117 = .ok (.iconst 0, 1) := by decide +kernel
theorem dX12_rises_118 : decode cX12_rises 118 = .ok (.invokevirtual 271, 3) := by decide +kernel
theorem dX12_rises_121 : decode cX12_rises 121 = .ok (.aload_n 0, 1) := by decide +kernel
theorem dX12_rises_122 : decode cX12_rises 122 = .ok (.getfield 41, 3) := by decide +kernel
theorem dX12_rises_125 : decode cX12_rises 125 = .ok (.iload_n 2, 1) := by decide +kernel
theorem dX12_rises_126 : decode cX12_rises 126 = .ok (.iconst (-1), 1) := by decide +kernel
theorem dX12_rises_127 : decode cX12_rises 127 = .ok (.iastore, 1) := by decide +kernel
theorem dX12_rises_128 : decode cX12_rises 128 = .ok (.aload_n 0, 1) := by decide +kernel
theorem dX12_rises_129 : decode cX12_rises 129 = .ok (.iload_n 1, 1) := by decide +kernel
theorem dX12_rises_130 : decode cX12_rises 130 = .ok (.iconst 0, 1) := by decide +kernel
theorem dX12_rises_131 : decode cX12_rises 131 = .ok (.invokevirtual 274, 3) := by decide +kernel
theorem dX12_rises_134 : decode cX12_rises 134 = .ok (.return_, 1) := by decide +kernel
theorem dX12_toKeeper_0 : decode cX12_toKeeper 0 = .ok (.aload_n 0, 1) := by decide +kernel
theorem dX12_toKeeper_1 : decode cX12_toKeeper 1 = .ok (.getfield 109, 3) := by decide +kernel
theorem dX12_toKeeper_4 : decode cX12_toKeeper 4 = .ok (.iload_n 1, 1) := by decide +kernel
theorem dX12_toKeeper_5 : decode cX12_toKeeper 5 = .ok (.iaload, 1) := by decide +kernel
theorem dX12_toKeeper_6 : decode cX12_toKeeper 6 = .ok (.istore_n 2, 1) := by decide +kernel
theorem dX12_toKeeper_7 : decode cX12_toKeeper 7 = .ok (.aload_n 0, 1) := by decide +kernel
theorem dX12_toKeeper_8 : decode cX12_toKeeper 8 = .ok (.iload_n 2, 1) := by decide +kernel
theorem dX12_toKeeper_9 : decode cX12_toKeeper 9 = .ok (.invokevirtual 285, 3) := by decide +kernel
theorem dX12_toKeeper_12 : decode cX12_toKeeper 12 = .ok (.aload_n 0, 1) := by decide +kernel
theorem dX12_toKeeper_13 : decode cX12_toKeeper 13 = .ok (.iload_n 1, 1) := by decide +kernel
theorem dX12_toKeeper_14 : decode cX12_toKeeper 14 = .ok (.invokevirtual 276, 3) := by decide +kernel
theorem dX12_toKeeper_17 : decode cX12_toKeeper 17 = .ok (.istore_n 3, 1) := by decide +kernel
theorem dX12_toKeeper_18 : decode cX12_toKeeper 18 = .ok (.aload_n 0, 1) := by decide +kernel
theorem dX12_toKeeper_19 : decode cX12_toKeeper 19 = .ok (.getfield 100, 3) := by decide +kernel
theorem dX12_toKeeper_22 : decode cX12_toKeeper 22 = .ok (.iload_n 1, 1) := by decide +kernel
theorem dX12_toKeeper_23 : decode cX12_toKeeper 23 = .ok (.iaload, 1) := by decide +kernel
theorem dX12_toKeeper_24 : decode cX12_toKeeper 24 = .ok (.tableswitch 77 0 2 #[28, 36, 58], 28) := by decide +kernel
theorem dX12_toKeeper_52 : decode cX12_toKeeper 52 = .ok (.aload_n 0, 1) := by decide +kernel
theorem dX12_toKeeper_53 : decode cX12_toKeeper 53 = .ok (.iload_n 1, 1) := by decide +kernel
theorem dX12_toKeeper_54 : decode cX12_toKeeper 54 = .ok (.invokevirtual 288, 3) := by decide +kernel
theorem dX12_toKeeper_57 : decode cX12_toKeeper 57 = .ok (.goto 49, 3) := by decide +kernel
theorem dX12_toKeeper_60 : decode cX12_toKeeper 60 = .ok (.iload_n 3, 1) := by decide +kernel
theorem dX12_toKeeper_61 : decode cX12_toKeeper 61 = .ok (.iconst (-1), 1) := by decide +kernel
theorem dX12_toKeeper_62 : decode cX12_toKeeper 62 = .ok (.if_icmp .ne 11, 3) := by decide +kernel
theorem dX12_toKeeper_65 : decode cX12_toKeeper 65 = .ok (.aload_n 0, 1) := by decide +kernel
theorem dX12_toKeeper_66 : decode cX12_toKeeper 66 = .ok (.iload_n 1, 1) := by decide +kernel
theorem dX12_toKeeper_67 : decode cX12_toKeeper 67 = .ok (.invokevirtual 279, 3) := by decide +kernel
theorem dX12_toKeeper_70 : decode cX12_toKeeper 70 = .ok (.goto 36, 3) := by decide +kernel
theorem dX12_toKeeper_73 : decode cX12_toKeeper 73 = .ok (.aload_n 0, 1) := by decide +kernel
theorem dX12_toKeeper_74 : decode cX12_toKeeper 74 = .ok (.iload_n 1, 1) := by decide +kernel
theorem dX12_toKeeper_75 : decode cX12_toKeeper 75 = .ok (.iload_n 3, 1) := by decide +kernel
theorem dX12_toKeeper_76 : decode cX12_toKeeper 76 = .ok (.invokevirtual 282, 3) := by decide +kernel
theorem dX12_toKeeper_79 : decode cX12_toKeeper 79 = .ok (.goto 27, 3) := by decide +kernel
theorem dX12_toKeeper_82 : decode cX12_toKeeper 82 = .ok (.iload_n 3, 1) := by decide +kernel
theorem dX12_toKeeper_83 : decode cX12_toKeeper 83 = .ok (.iconst (-1), 1) := by decide +kernel
theorem dX12_toKeeper_84 : decode cX12_toKeeper 84 = .ok (.if_icmp .eq 22, 3) := by decide +kernel
theorem dX12_toKeeper_87 : decode cX12_toKeeper 87 = .ok (.aload_n 0, 1) := by decide +kernel
theorem dX12_toKeeper_88 : decode cX12_toKeeper 88 = .ok (.iload_n 2, 1) := by decide +kernel
theorem dX12_toKeeper_89 : decode cX12_toKeeper 89 = .ok (.iload_n 3, 1) := by decide +kernel
theorem dX12_toKeeper_90 : decode cX12_toKeeper 90 = .ok (.invokevirtual 231, 3) := by decide +kernel
theorem dX12_toKeeper_93 : decode cX12_toKeeper 93 = .ok (.aload_n 0, 1) := by decide +kernel
theorem dX12_toKeeper_94 : decode cX12_toKeeper 94 = .ok (.iload_n 2, 1) := by decide +kernel
theorem dX12_toKeeper_95 : decode cX12_toKeeper 95 = .ok (.invokevirtual 285, 3) := by decide +kernel
theorem dX12_toKeeper_98 : decode cX12_toKeeper 98 = .ok (.goto 8, 3) := by decide +kernel
theorem dX12_toKeeper_101 : decode cX12_toKeeper 101 = .ok (.aload_n 0, 1) := by decide +kernel
theorem dX12_toKeeper_102 : decode cX12_toKeeper 102 = .ok (.iload_n 1, 1) := by decide +kernel
theorem dX12_toKeeper_103 : decode cX12_toKeeper 103 = .ok (.invokevirtual 291, 3) := by decide +kernel
theorem dX12_toKeeper_106 : decode cX12_toKeeper 106 = .ok (.return_, 1) := by decide +kernel
theorem dX12_toWorker_0 : decode cX12_toWorker 0 = .ok (.aload_n 0, 1) := by decide +kernel
theorem dX12_toWorker_1 : decode cX12_toWorker 1 = .ok (.getfield 103, 3) := by decide +kernel
theorem dX12_toWorker_4 : decode cX12_toWorker 4 = .ok (.iload_n 1, 1) := by decide +kernel
theorem dX12_toWorker_5 : decode cX12_toWorker 5 = .ok (.iaload, 1) := by decide +kernel
theorem dX12_toWorker_6 : decode cX12_toWorker 6 = .ok (.istore_n 2, 1) := by decide +kernel
theorem dX12_toWorker_7 : decode cX12_toWorker 7 = .ok (.bipush 20, 2) := by decide +kernel
theorem dX12_toWorker_9 : decode cX12_toWorker 9 = .ok (.iload_n 2, 1) := by decide +kernel
theorem dX12_toWorker_10 : decode cX12_toWorker 10 = .ok (.imul, 1) := by decide +kernel
theorem dX12_toWorker_11 : decode cX12_toWorker 11 = .ok (.aload_n 0, 1) := by decide +kernel
theorem dX12_toWorker_12 : decode cX12_toWorker 12 = .ok (.getfield 109, 3) := by decide +kernel
theorem dX12_toWorker_15 : decode cX12_toWorker 15 = .ok (.iload_n 1, 1) := by decide +kernel
theorem dX12_toWorker_16 : decode cX12_toWorker 16 = .ok (.iaload, 1) := by decide +kernel
theorem dX12_toWorker_17 : decode cX12_toWorker 17 = .ok (.iadd, 1) := by decide +kernel
theorem dX12_toWorker_18 : decode cX12_toWorker 18 = .ok (.istore_n 3, 1) := by decide +kernel
theorem dX12_toWorker_19 : decode cX12_toWorker 19 = .ok (.aload_n 0, 1) := by decide +kernel
theorem dX12_toWorker_20 : decode cX12_toWorker 20 = .ok (.getfield 91, 3) := by decide +kernel
theorem dX12_toWorker_23 : decode cX12_toWorker 23 = .ok (.iload_n 3, 1) := by decide +kernel
theorem dX12_toWorker_24 : decode cX12_toWorker 24 = .ok (.iaload, 1) := by decide +kernel
theorem dX12_toWorker_25 : decode cX12_toWorker 25 = .ok (.ifCond .eq 22, 3) := by decide +kernel
theorem dX12_toWorker_28 : decode cX12_toWorker 28 = .ok (.aload_n 0, 1) := by decide +kernel
theorem dX12_toWorker_29 : decode cX12_toWorker 29 = .ok (.getfield 91, 3) := by decide +kernel
theorem dX12_toWorker_32 : decode cX12_toWorker 32 = .ok (.iload_n 3, 1) := by decide +kernel
theorem dX12_toWorker_33 : decode cX12_toWorker 33 = .ok (.iaload, 1) := by decide +kernel
theorem dX12_toWorker_34 : decode cX12_toWorker 34 = .ok (.aload_n 0, 1) := by decide +kernel
theorem dX12_toWorker_35 : decode cX12_toWorker 35 = .ok (.getfield 121, 3) := by decide +kernel
theorem dX12_toWorker_38 : decode cX12_toWorker 38 = .ok (.iload_n 1, 1) := by decide +kernel
theorem dX12_toWorker_39 : decode cX12_toWorker 39 = .ok (.iaload, 1) := by decide +kernel
theorem dX12_toWorker_40 : decode cX12_toWorker 40 = .ok (.if_icmp .ne 7, 3) := by decide +kernel
theorem dX12_toWorker_43 : decode cX12_toWorker 43 = .ok (.iconst 1, 1) := by decide +kernel
theorem dX12_toWorker_44 : decode cX12_toWorker 44 = .ok (.goto 4, 3) := by decide +kernel
theorem dX12_toWorker_47 : decode cX12_toWorker 47 = .ok (.iconst 0, 1) := by decide +kernel
theorem dX12_toWorker_48 : decode cX12_toWorker 48 = .ok (.istore 4, 2) := by decide +kernel
theorem dX12_toWorker_50 : decode cX12_toWorker 50 = .ok (.aload_n 0, 1) := by decide +kernel
theorem dX12_toWorker_51 : decode cX12_toWorker 51 = .ok (.getfield 100, 3) := by decide +kernel
theorem dX12_toWorker_54 : decode cX12_toWorker 54 = .ok (.iload_n 1, 1) := by decide +kernel
theorem dX12_toWorker_55 : decode cX12_toWorker 55 = .ok (.iaload, 1) := by decide +kernel
theorem dX12_toWorker_56 : decode cX12_toWorker 56 = .ok (.tableswitch 193 4 7 #[32, 130, 193, 154], 32) := by decide +kernel
theorem dX12_toWorker_88 : decode cX12_toWorker 88 = .ok (.iload 4, 2) := by decide +kernel
theorem dX12_toWorker_90 : decode cX12_toWorker 90 = .ok (.ifCond .eq 169, 3) := by decide +kernel
theorem dX12_toWorker_93 : decode cX12_toWorker 93 = .ok (.aload_n 0, 1) := by decide +kernel
theorem dX12_toWorker_94 : decode cX12_toWorker 94 = .ok (.getfield 91, 3) := by decide +kernel
theorem dX12_toWorker_97 : decode cX12_toWorker 97 = .ok (.iload_n 3, 1) := by decide +kernel
theorem dX12_toWorker_98 : decode cX12_toWorker 98 = .ok (.iconst 0, 1) := by decide +kernel
theorem dX12_toWorker_99 : decode cX12_toWorker 99 = .ok (.iastore, 1) := by decide +kernel
theorem dX12_toWorker_100 : decode cX12_toWorker 100 = .ok (.aload_n 0, 1) := by decide +kernel
theorem dX12_toWorker_101 : decode cX12_toWorker 101 = .ok (.getfield 127, 3) := by decide +kernel
theorem dX12_toWorker_104 : decode cX12_toWorker 104 = .ok (.iload_n 1, 1) := by decide +kernel
theorem dX12_toWorker_105 : decode cX12_toWorker 105 = .ok (.laload, 1) := by decide +kernel
theorem dX12_toWorker_106 : decode cX12_toWorker 106 = .ok (.aload_n 0, 1) := by decide +kernel
theorem dX12_toWorker_107 : decode cX12_toWorker 107 = .ok (.getfield 35, 3) := by decide +kernel
theorem dX12_toWorker_110 : decode cX12_toWorker 110 = .ok (.aload_n 0, 1) := by decide +kernel
theorem dX12_toWorker_111 : decode cX12_toWorker 111 = .ok (.getfield 109, 3) := by decide +kernel
theorem dX12_toWorker_114 : decode cX12_toWorker 114 = .ok (.iload_n 1, 1) := by decide +kernel
theorem dX12_toWorker_115 : decode cX12_toWorker 115 = .ok (.iaload, 1) := by decide +kernel
theorem dX12_toWorker_116 : decode cX12_toWorker 116 = .ok (.iaload, 1) := by decide +kernel
theorem dX12_toWorker_117 : decode cX12_toWorker 117 = .ok (.i2l, 1) := by decide +kernel
theorem dX12_toWorker_118 : decode cX12_toWorker 118 = .ok (.ladd, 1) := by decide +kernel
theorem dX12_toWorker_119 : decode cX12_toWorker 119 = .ok (.lstore 5, 2) := by decide +kernel
theorem dX12_toWorker_121 : decode cX12_toWorker 121 = .ok (.lload 5, 2) := by decide +kernel
theorem dX12_toWorker_123 : decode cX12_toWorker 123 = .ok (.aload_n 0, 1) := by decide +kernel
theorem dX12_toWorker_124 : decode cX12_toWorker 124 = .ok (.iload_n 2, 1) := by decide +kernel
theorem dX12_toWorker_125 : decode cX12_toWorker 125 = .ok (.invokevirtual 194, 3) := by decide +kernel
theorem dX12_toWorker_128 : decode cX12_toWorker 128 = .ok (.lcmp, 1) := by decide +kernel
theorem dX12_toWorker_129 : decode cX12_toWorker 129 = .ok (.ifCond .le 54, 3) := by decide +kernel
theorem dX12_toWorker_132 : decode cX12_toWorker 132 = .ok (.aload_n 0, 1) := by decide +kernel
theorem dX12_toWorker_133 : decode cX12_toWorker 133 = .ok (.getfield 82, 3) := by decide +kernel
theorem dX12_toWorker_136 : decode cX12_toWorker 136 = .ok (.iload_n 3, 1) := by decide +kernel
theorem dX12_toWorker_137 : decode cX12_toWorker 137 = .ok (.iconst 1, 1) := by decide +kernel
theorem dX12_toWorker_138 : decode cX12_toWorker 138 = .ok (.bastore, 1) := by decide +kernel
theorem dX12_toWorker_139 : decode cX12_toWorker 139 = .ok (.aload_n 0, 1) := by decide +kernel
theorem dX12_toWorker_140 : decode cX12_toWorker 140 = .ok (.getfield 85, 3) := by decide +kernel
theorem dX12_toWorker_143 : decode cX12_toWorker 143 = .ok (.iload_n 3, 1) := by decide +kernel
theorem dX12_toWorker_144 : decode cX12_toWorker 144 = .ok (.aload_n 0, 1) := by decide +kernel
theorem dX12_toWorker_145 : decode cX12_toWorker 145 = .ok (.getfield 112, 3) := by decide +kernel
theorem dX12_toWorker_148 : decode cX12_toWorker 148 = .ok (.iload_n 1, 1) := by decide +kernel
theorem dX12_toWorker_149 : decode cX12_toWorker 149 = .ok (.iaload, 1) := by decide +kernel
theorem dX12_toWorker_150 : decode cX12_toWorker 150 = .ok (.iastore, 1) := by decide +kernel
theorem dX12_toWorker_151 : decode cX12_toWorker 151 = .ok (.aload_n 0, 1) := by decide +kernel
theorem dX12_toWorker_152 : decode cX12_toWorker 152 = .ok (.getfield 88, 3) := by decide +kernel
theorem dX12_toWorker_155 : decode cX12_toWorker 155 = .ok (.iload_n 3, 1) := by decide +kernel
theorem dX12_toWorker_156 : decode cX12_toWorker 156 = .ok (.aload_n 0, 1) := by decide +kernel
theorem dX12_toWorker_157 : decode cX12_toWorker 157 = .ok (.getfield 115, 3) := by decide +kernel
theorem dX12_toWorker_160 : decode cX12_toWorker 160 = .ok (.iload_n 1, 1) := by decide +kernel
theorem dX12_toWorker_161 : decode cX12_toWorker 161 = .ok (.iaload, 1) := by decide +kernel
theorem dX12_toWorker_162 : decode cX12_toWorker 162 = .ok (.iastore, 1) := by decide +kernel
theorem dX12_toWorker_163 : decode cX12_toWorker 163 = .ok (.aload_n 0, 1) := by decide +kernel
theorem dX12_toWorker_164 : decode cX12_toWorker 164 = .ok (.getfield 94, 3) := by decide +kernel
theorem dX12_toWorker_167 : decode cX12_toWorker 167 = .ok (.iload_n 3, 1) := by decide +kernel
theorem dX12_toWorker_168 : decode cX12_toWorker 168 = .ok (.aload_n 0, 1) := by decide +kernel
theorem dX12_toWorker_169 : decode cX12_toWorker 169 = .ok (.getfield 124, 3) := by decide +kernel
theorem dX12_toWorker_172 : decode cX12_toWorker 172 = .ok (.iload_n 1, 1) := by decide +kernel
theorem dX12_toWorker_173 : decode cX12_toWorker 173 = .ok (.laload, 1) := by decide +kernel
theorem dX12_toWorker_174 : decode cX12_toWorker 174 = .ok (.lastore, 1) := by decide +kernel
theorem dX12_toWorker_175 : decode cX12_toWorker 175 = .ok (.aload_n 0, 1) := by decide +kernel
theorem dX12_toWorker_176 : decode cX12_toWorker 176 = .ok (.getfield 97, 3) := by decide +kernel
theorem dX12_toWorker_179 : decode cX12_toWorker 179 = .ok (.iload_n 3, 1) := by decide +kernel
theorem dX12_toWorker_180 : decode cX12_toWorker 180 = .ok (.lload 5, 2) := by decide +kernel
theorem dX12_toWorker_182 : decode cX12_toWorker 182 = .ok (.lastore, 1) := by decide +kernel
theorem dX12_toWorker_183 : decode cX12_toWorker 183 = .ok (.goto 76, 3) := by decide +kernel
theorem dX12_toWorker_186 : decode cX12_toWorker 186 = .ok (.aload_n 0, 1) := by decide +kernel
theorem dX12_toWorker_187 : decode cX12_toWorker 187 = .ok (.getfield 91, 3) := by decide +kernel
theorem dX12_toWorker_190 : decode cX12_toWorker 190 = .ok (.iload_n 3, 1) := by decide +kernel
theorem dX12_toWorker_191 : decode cX12_toWorker 191 = .ok (.iload 4, 2) := by decide +kernel
theorem dX12_toWorker_193 : decode cX12_toWorker 193 = .ok (.ifCond .eq 7, 3) := by decide +kernel
theorem dX12_toWorker_196 : decode cX12_toWorker 196 = .ok (.iconst 0, 1) := by decide +kernel
theorem dX12_toWorker_197 : decode cX12_toWorker 197 = .ok (.goto 9, 3) := by decide +kernel
theorem dX12_toWorker_200 : decode cX12_toWorker 200 = .ok (.aload_n 0, 1) := by decide +kernel
theorem dX12_toWorker_201 : decode cX12_toWorker 201 = .ok (.getfield 91, 3) := by decide +kernel
theorem dX12_toWorker_204 : decode cX12_toWorker 204 = .ok (.iload_n 3, 1) := by decide +kernel
theorem dX12_toWorker_205 : decode cX12_toWorker 205 = .ok (.iaload, 1) := by decide +kernel
theorem dX12_toWorker_206 : decode cX12_toWorker 206 = .ok (.iastore, 1) := by decide +kernel
theorem dX12_toWorker_207 : decode cX12_toWorker 207 = .ok (.goto 52, 3) := by decide +kernel
theorem dX12_toWorker_210 : decode cX12_toWorker 210 = .ok (.aload_n 0, 1) := by decide +kernel
theorem dX12_toWorker_211 : decode cX12_toWorker 211 = .ok (.getfield 82, 3) := by decide +kernel
theorem dX12_toWorker_214 : decode cX12_toWorker 214 = .ok (.iload_n 3, 1) := by decide +kernel
theorem dX12_toWorker_215 : decode cX12_toWorker 215 = .ok (.aload_n 0, 1) := by decide +kernel
theorem dX12_toWorker_216 : decode cX12_toWorker 216 = .ok (.getfield 82, 3) := by decide +kernel
theorem dX12_toWorker_219 : decode cX12_toWorker 219 = .ok (.iload_n 3, 1) := by decide +kernel
theorem dX12_toWorker_220 : decode cX12_toWorker 220 = .ok (.baload, 1) := by decide +kernel
theorem dX12_toWorker_221 : decode cX12_toWorker 221 = .ok (.ifCond .eq 23, 3) := by decide +kernel
theorem dX12_toWorker_224 : decode cX12_toWorker 224 = .ok (.aload_n 0, 1) := by decide +kernel
theorem dX12_toWorker_225 : decode cX12_toWorker 225 = .ok (.getfield 94, 3) := by decide +kernel
theorem dX12_toWorker_228 : decode cX12_toWorker 228 = .ok (.iload_n 3, 1) := by decide +kernel
theorem dX12_toWorker_229 : decode cX12_toWorker 229 = .ok (.laload, 1) := by decide +kernel
theorem dX12_toWorker_230 : decode cX12_toWorker 230 = .ok (.aload_n 0, 1) := by decide +kernel
theorem dX12_toWorker_231 : decode cX12_toWorker 231 = .ok (.getfield 124, 3) := by decide +kernel
theorem dX12_toWorker_234 : decode cX12_toWorker 234 = .ok (.iload_n 1, 1) := by decide +kernel
theorem dX12_toWorker_235 : decode cX12_toWorker 235 = .ok (.laload, 1) := by decide +kernel
theorem dX12_toWorker_236 : decode cX12_toWorker 236 = .ok (.lcmp, 1) := by decide +kernel
theorem dX12_toWorker_237 : decode cX12_toWorker 237 = .ok (.ifCond .eq 7, 3) := by decide +kernel
theorem dX12_toWorker_240 : decode cX12_toWorker 240 = .ok (.iconst 1, 1) := by decide +kernel
theorem dX12_toWorker_241 : decode cX12_toWorker 241 = .ok (.goto 4, 3) := by decide +kernel
theorem dX12_toWorker_244 : decode cX12_toWorker 244 = .ok (.iconst 0, 1) := by decide +kernel
theorem dX12_toWorker_245 : decode cX12_toWorker 245 = .ok (.bastore, 1) := by decide +kernel
theorem dX12_toWorker_246 : decode cX12_toWorker 246 = .ok (.goto 13, 3) := by decide +kernel
theorem dX12_toWorker_249 : decode cX12_toWorker 249 = .ok (.aload_n 0, 1) := by decide +kernel
theorem dX12_toWorker_250 : decode cX12_toWorker 250 = .ok (.dup, 1) := by decide +kernel
theorem dX12_toWorker_251 : decode cX12_toWorker 251 = .ok (.getfield 294, 3) := by decide +kernel
theorem dX12_toWorker_254 : decode cX12_toWorker 254 = .ok (.iconst 1, 1) := by decide +kernel
theorem dX12_toWorker_255 : decode cX12_toWorker 255 = .ok (.iadd, 1) := by decide +kernel
theorem dX12_toWorker_256 : decode cX12_toWorker 256 = .ok (.putfield 294, 3) := by decide +kernel
theorem dX12_toWorker_259 : decode cX12_toWorker 259 = .ok (.return_, 1) := by decide +kernel
theorem dX12_deliver_0 : decode cX12_deliver 0 = .ok (.aload_n 0, 1) := by decide +kernel
theorem dX12_deliver_1 : decode cX12_deliver 1 = .ok (.iload_n 1, 1) := by decide +kernel
theorem dX12_deliver_2 : decode cX12_deliver 2 = .ok (.invokevirtual 228, 3) := by decide +kernel
theorem dX12_deliver_5 : decode cX12_deliver 5 = .ok (.ifCond .ne 6, 3) := by decide +kernel
theorem dX12_deliver_8 : decode cX12_deliver 8 = .ok (.bipush (-2), 2) := by decide +kernel
theorem dX12_deliver_10 : decode cX12_deliver 10 = .ok (.ireturn, 1) := by decide +kernel
theorem dX12_deliver_11 : decode cX12_deliver 11 = .ok (.aload_n 0, 1) := by decide +kernel
theorem dX12_deliver_12 : decode cX12_deliver 12 = .ok (.getfield 118, 3) := by decide +kernel
theorem dX12_deliver_15 : decode cX12_deliver 15 = .ok (.iload_n 1, 1) := by decide +kernel
theorem dX12_deliver_16 : decode cX12_deliver 16 = .ok (.iaload, 1) := by decide +kernel
theorem dX12_deliver_17 : decode cX12_deliver 17 = .ok (.ifCond .eq 6, 3) := by decide +kernel
theorem dX12_deliver_20 : decode cX12_deliver 20 = .ok (.bipush (-3), 2) := by decide +kernel
theorem dX12_deliver_22 : decode cX12_deliver 22 = .ok (.ireturn, 1) := by decide +kernel
theorem dX12_deliver_23 : decode cX12_deliver 23 = .ok (.aload_n 0, 1) := by decide +kernel
theorem dX12_deliver_24 : decode cX12_deliver 24 = .ok (.getfield 178, 3) := by decide +kernel
theorem dX12_deliver_27 : decode cX12_deliver 27 = .ok (.iconst 3, 1) := by decide +kernel
theorem dX12_deliver_28 : decode cX12_deliver 28 = .ok (.iadd, 1) := by decide +kernel
theorem dX12_deliver_29 : decode cX12_deliver 29 = .ok (.sipush 400, 3) := by decide +kernel
theorem dX12_deliver_32 : decode cX12_deliver 32 = .ok (.if_icmp .le 6, 3) := by decide +kernel
theorem dX12_deliver_35 : decode cX12_deliver 35 = .ok (.bipush (-4), 2) := by decide +kernel
theorem dX12_deliver_37 : decode cX12_deliver 37 = .ok (.ireturn, 1) := by decide +kernel
theorem dX12_deliver_38 : decode cX12_deliver 38 = .ok (.aload_n 0, 1) := by decide +kernel
theorem dX12_deliver_39 : decode cX12_deliver 39 = .ok (.getfield 118, 3) := by decide +kernel
theorem dX12_deliver_42 : decode cX12_deliver 42 = .ok (.iload_n 1, 1) := by decide +kernel
theorem dX12_deliver_43 : decode cX12_deliver 43 = .ok (.iconst 1, 1) := by decide +kernel
theorem dX12_deliver_44 : decode cX12_deliver 44 = .ok (.iastore, 1) := by decide +kernel
theorem dX12_deliver_45 : decode cX12_deliver 45 = .ok (.aload_n 0, 1) := by decide +kernel
theorem dX12_deliver_46 : decode cX12_deliver 46 = .ok (.getfield 100, 3) := by decide +kernel
theorem dX12_deliver_49 : decode cX12_deliver 49 = .ok (.iload_n 1, 1) := by decide +kernel
theorem dX12_deliver_50 : decode cX12_deliver 50 = .ok (.iaload, 1) := by decide +kernel
theorem dX12_deliver_51 : decode cX12_deliver 51 = .ok (.iconst 4, 1) := by decide +kernel
theorem dX12_deliver_52 : decode cX12_deliver 52 = .ok (.if_icmp .lt 26, 3) := by decide +kernel
theorem dX12_deliver_55 : decode cX12_deliver 55 = .ok (.aload_n 0, 1) := by decide +kernel
theorem dX12_deliver_56 : decode cX12_deliver 56 = .ok (.getfield 29, 3) := by decide +kernel
theorem dX12_deliver_59 : decode cX12_deliver 59 = .ok (.aload_n 0, 1) := by decide +kernel
theorem dX12_deliver_60 : decode cX12_deliver 60 = .ok (.getfield 103, 3) := by decide +kernel
theorem dX12_deliver_63 : decode cX12_deliver 63 = .ok (.iload_n 1, 1) := by decide +kernel
theorem dX12_deliver_64 : decode cX12_deliver 64 = .ok (.iaload, 1) := by decide +kernel
theorem dX12_deliver_65 : decode cX12_deliver 65 = .ok (.baload, 1) := by decide +kernel
theorem dX12_deliver_66 : decode cX12_deliver 66 = .ok (.ifCond .ne 5, 3) := by decide +kernel
theorem dX12_deliver_69 : decode cX12_deliver 69 = .ok (.iconst 0, 1) := by decide +kernel
theorem dX12_deliver_70 : decode cX12_deliver 70 = .ok (.ireturn, 1) := by decide +kernel
theorem dX12_deliver_71 : decode cX12_deliver 71 = .ok (.aload_n 0, 1) := by decide +kernel
theorem dX12_deliver_72 : decode cX12_deliver 72 = .ok (.iload_n 1, 1) := by decide +kernel
theorem dX12_deliver_73 : decode cX12_deliver 73 = .ok (.invokevirtual 297, 3) := by decide +kernel
theorem dX12_deliver_76 : decode cX12_deliver 76 = .ok (.iconst 1, 1) := by decide +kernel
theorem dX12_deliver_77 : decode cX12_deliver 77 = .ok (.ireturn, 1) := by decide +kernel
theorem dX12_deliver_78 : decode cX12_deliver 78 = .ok (.aload_n 0, 1) := by decide +kernel
theorem dX12_deliver_79 : decode cX12_deliver 79 = .ok (.getfield 106, 3) := by decide +kernel
theorem dX12_deliver_82 : decode cX12_deliver 82 = .ok (.iload_n 1, 1) := by decide +kernel
theorem dX12_deliver_83 : decode cX12_deliver 83 = .ok (.iaload, 1) := by decide +kernel
theorem dX12_deliver_84 : decode cX12_deliver 84 = .ok (.istore_n 2, 1) := by decide +kernel
theorem dX12_deliver_85 : decode cX12_deliver 85 = .ok (.aload_n 0, 1) := by decide +kernel
theorem dX12_deliver_86 : decode cX12_deliver 86 = .ok (.getfield 78, 3) := by decide +kernel
theorem dX12_deliver_89 : decode cX12_deliver 89 = .ok (.iload_n 2, 1) := by decide +kernel
theorem dX12_deliver_90 : decode cX12_deliver 90 = .ok (.if_icmp .ne 19, 3) := by decide +kernel
theorem dX12_deliver_93 : decode cX12_deliver 93 = .ok (.aload_n 0, 1) := by decide +kernel
theorem dX12_deliver_94 : decode cX12_deliver 94 = .ok (.getfield 16, 3) := by decide +kernel
theorem dX12_deliver_97 : decode cX12_deliver 97 = .ok (.iload_n 2, 1) := by decide +kernel
theorem dX12_deliver_98 : decode cX12_deliver 98 = .ok (.baload, 1) := by decide +kernel
theorem dX12_deliver_99 : decode cX12_deliver 99 = .ok (.ifCond .eq 10, 3) := by decide +kernel
theorem dX12_deliver_102 : decode cX12_deliver 102 = .ok (.aload_n 0, 1) := by decide +kernel
theorem dX12_deliver_103 : decode cX12_deliver 103 = .ok (.invokevirtual 203, 3) := by decide +kernel
theorem dX12_deliver_106 : decode cX12_deliver 106 = .ok (.ifCond .ne 5, 3) := by decide +kernel
theorem dX12_deliver_109 : decode cX12_deliver 109 = .ok (.iconst 0, 1) := by decide +kernel
theorem dX12_deliver_110 : decode cX12_deliver 110 = .ok (.ireturn, 1) := by decide +kernel
theorem dX12_deliver_111 : decode cX12_deliver 111 = .ok (.aload_n 0, 1) := by decide +kernel
theorem dX12_deliver_112 : decode cX12_deliver 112 = .ok (.iload_n 1, 1) := by decide +kernel
theorem dX12_deliver_113 : decode cX12_deliver 113 = .ok (.invokevirtual 300, 3) := by decide +kernel
theorem dX12_deliver_116 : decode cX12_deliver 116 = .ok (.iconst 1, 1) := by decide +kernel
theorem dX12_deliver_117 : decode cX12_deliver 117 = .ok (.ireturn, 1) := by decide +kernel
theorem dX12_look_0 : decode cX12_look 0 = .ok (.aload_n 0, 1) := by decide +kernel
theorem dX12_look_1 : decode cX12_look 1 = .ok (.iload_n 1, 1) := by decide +kernel
theorem dX12_look_2 : decode cX12_look 2 = .ok (.invokevirtual 214, 3) := by decide +kernel
theorem dX12_look_5 : decode cX12_look 5 = .ok (.ifCond .ne 6, 3) := by decide +kernel
theorem dX12_look_8 : decode cX12_look 8 = .ok (.bipush (-2), 2) := by decide +kernel
theorem dX12_look_10 : decode cX12_look 10 = .ok (.ireturn, 1) := by decide +kernel
theorem dX12_look_11 : decode cX12_look 11 = .ok (.aload_n 0, 1) := by decide +kernel
theorem dX12_look_12 : decode cX12_look 12 = .ok (.getfield 78, 3) := by decide +kernel
theorem dX12_look_15 : decode cX12_look 15 = .ok (.iconst (-1), 1) := by decide +kernel
theorem dX12_look_16 : decode cX12_look 16 = .ok (.if_icmp .eq 10, 3) := by decide +kernel
theorem dX12_look_19 : decode cX12_look 19 = .ok (.aload_n 0, 1) := by decide +kernel
theorem dX12_look_20 : decode cX12_look 20 = .ok (.invokevirtual 203, 3) := by decide +kernel
theorem dX12_look_23 : decode cX12_look 23 = .ok (.ifCond .ne 6, 3) := by decide +kernel
theorem dX12_look_26 : decode cX12_look 26 = .ok (.bipush (-3), 2) := by decide +kernel
theorem dX12_look_28 : decode cX12_look 28 = .ok (.ireturn, 1) := by decide +kernel
theorem dX12_look_29 : decode cX12_look 29 = .ok (.aload_n 0, 1) := by decide +kernel
theorem dX12_look_30 : decode cX12_look 30 = .ok (.getfield 178, 3) := by decide +kernel
theorem dX12_look_33 : decode cX12_look 33 = .ok (.sipush 400, 3) := by decide +kernel
theorem dX12_look_36 : decode cX12_look 36 = .ok (.if_icmp .ne 6, 3) := by decide +kernel
theorem dX12_look_39 : decode cX12_look 39 = .ok (.bipush (-4), 2) := by decide +kernel
theorem dX12_look_41 : decode cX12_look 41 = .ok (.ireturn, 1) := by decide +kernel
theorem dX12_look_42 : decode cX12_look 42 = .ok (.aload_n 0, 1) := by decide +kernel
theorem dX12_look_43 : decode cX12_look 43 = .ok (.iload_n 1, 1) := by decide +kernel
theorem dX12_look_44 : decode cX12_look 44 = .ok (.invokevirtual 285, 3) := by decide +kernel
theorem dX12_look_47 : decode cX12_look 47 = .ok (.aload_n 0, 1) := by decide +kernel
theorem dX12_look_48 : decode cX12_look 48 = .ok (.getfield 60, 3) := by decide +kernel
theorem dX12_look_51 : decode cX12_look 51 = .ok (.iload_n 1, 1) := by decide +kernel
theorem dX12_look_52 : decode cX12_look 52 = .ok (.iaload, 1) := by decide +kernel
theorem dX12_look_53 : decode cX12_look 53 = .ok (.ireturn, 1) := by decide +kernel
theorem dX12_grant_0 : decode cX12_grant 0 = .ok (.aload_n 0, 1) := by decide +kernel
theorem dX12_grant_1 : decode cX12_grant 1 = .ok (.iload_n 1, 1) := by decide +kernel
theorem dX12_grant_2 : decode cX12_grant 2 = .ok (.invokevirtual 214, 3) := by decide +kernel
theorem dX12_grant_5 : decode cX12_grant 5 = .ok (.ifCond .eq 12, 3) := by decide +kernel
theorem dX12_grant_8 : decode cX12_grant 8 = .ok (.iload_n 3, 1) := by decide +kernel
theorem dX12_grant_9 : decode cX12_grant 9 = .ok (.iconst 0, 1) := by decide +kernel
theorem dX12_grant_10 : decode cX12_grant 10 = .ok (.iconst 2, 1) := by decide +kernel
theorem dX12_grant_11 : decode cX12_grant 11 = .ok (.invokestatic 153, 3) := by decide +kernel
theorem dX12_grant_14 : decode cX12_grant 14 = .ok (.ifCond .ne 6, 3) := by decide +kernel
theorem dX12_grant_17 : decode cX12_grant 17 = .ok (.bipush (-2), 2) := by decide +kernel
theorem dX12_grant_19 : decode cX12_grant 19 = .ok (.ireturn, 1) := by decide +kernel
theorem dX12_grant_20 : decode cX12_grant 20 = .ok (.iload_n 2, 1) := by decide +kernel
theorem dX12_grant_21 : decode cX12_grant 21 = .ok (.iconst 0, 1) := by decide +kernel
theorem dX12_grant_22 : decode cX12_grant 22 = .ok (.aload_n 0, 1) := by decide +kernel
theorem dX12_grant_23 : decode cX12_grant 23 = .ok (.getfield 60, 3) := by decide +kernel
theorem dX12_grant_26 : decode cX12_grant 26 = .ok (.iload_n 1, 1) := by decide +kernel
theorem dX12_grant_27 : decode cX12_grant 27 = .ok (.iaload, 1) := by decide +kernel
theorem dX12_grant_28 : decode cX12_grant 28 = .ok (.iconst 1, 1) := by decide +kernel
theorem dX12_grant_29 : decode cX12_grant 29 = .ok (.isub, 1) := by decide +kernel
theorem dX12_grant_30 : decode cX12_grant 30 = .ok (.invokestatic 153, 3) := by decide +kernel
theorem dX12_grant_33 : decode cX12_grant 33 = .ok (.ifCond .ne 5, 3) := by decide +kernel
theorem dX12_grant_36 : decode cX12_grant 36 = .ok (.iconst (-1), 1) := by decide +kernel
theorem dX12_grant_37 : decode cX12_grant 37 = .ok (.ireturn, 1) := by decide +kernel
theorem dX12_grant_38 : decode cX12_grant 38 = .ok (.bipush 20, 2) := by decide +kernel
theorem dX12_grant_40 : decode cX12_grant 40 = .ok (.iload_n 1, 1) := by decide +kernel
theorem dX12_grant_41 : decode cX12_grant 41 = .ok (.imul, 1) := by decide +kernel
theorem dX12_grant_42 : decode cX12_grant 42 = .ok (.iload_n 2, 1) := by decide +kernel
theorem dX12_grant_43 : decode cX12_grant 43 = .ok (.iadd, 1) := by decide +kernel
theorem dX12_grant_44 : decode cX12_grant 44 = .ok (.istore 4, 2) := by decide +kernel
theorem dX12_grant_46 : decode cX12_grant 46 = .ok (.iload_n 3, 1) := by decide +kernel
theorem dX12_grant_47 : decode cX12_grant 47 = .ok (.ifCond .ne 13, 3) := by decide +kernel
theorem dX12_grant_50 : decode cX12_grant 50 = .ok (.aload_n 0, 1) := by decide +kernel
theorem dX12_grant_51 : decode cX12_grant 51 = .ok (.getfield 63, 3) := by decide +kernel
theorem dX12_grant_54 : decode cX12_grant 54 = .ok (.iload 4, 2) := by decide +kernel
theorem dX12_grant_56 : decode cX12_grant 56 = .ok (.iaload, 1) := by decide +kernel
theorem dX12_grant_57 : decode cX12_grant 57 = .ok (.goto 25, 3) := by decide +kernel
theorem dX12_grant_60 : decode cX12_grant 60 = .ok (.iload_n 3, 1) := by decide +kernel
theorem dX12_grant_61 : decode cX12_grant 61 = .ok (.iconst 1, 1) := by decide +kernel
theorem dX12_grant_62 : decode cX12_grant 62 = .ok (.if_icmp .ne 13, 3) := by decide +kernel
theorem dX12_grant_65 : decode cX12_grant 65 = .ok (.aload_n 0, 1) := by decide +kernel
theorem dX12_grant_66 : decode cX12_grant 66 = .ok (.getfield 66, 3) := by decide +kernel
theorem dX12_grant_69 : decode cX12_grant 69 = .ok (.iload 4, 2) := by decide +kernel
theorem dX12_grant_71 : decode cX12_grant 71 = .ok (.iaload, 1) := by decide +kernel
theorem dX12_grant_72 : decode cX12_grant 72 = .ok (.goto 10, 3) := by decide +kernel
theorem dX12_grant_75 : decode cX12_grant 75 = .ok (.aload_n 0, 1) := by decide +kernel
theorem dX12_grant_76 : decode cX12_grant 76 = .ok (.getfield 69, 3) := by decide +kernel
theorem dX12_grant_79 : decode cX12_grant 79 = .ok (.iload 4, 2) := by decide +kernel
theorem dX12_grant_81 : decode cX12_grant 81 = .ok (.iaload, 1) := by decide +kernel
theorem dX12_grant_82 : decode cX12_grant 82 = .ok (.ireturn, 1) := by decide +kernel
theorem dX12_ends_0 : decode cX12_ends 0 = .ok (.aload_n 0, 1) := by decide +kernel
theorem dX12_ends_1 : decode cX12_ends 1 = .ok (.iload_n 1, 1) := by decide +kernel
theorem dX12_ends_2 : decode cX12_ends 2 = .ok (.invokevirtual 214, 3) := by decide +kernel
theorem dX12_ends_5 : decode cX12_ends 5 = .ok (.ifCond .eq 28, 3) := by decide +kernel
theorem dX12_ends_8 : decode cX12_ends 8 = .ok (.iload_n 3, 1) := by decide +kernel
theorem dX12_ends_9 : decode cX12_ends 9 = .ok (.iconst 0, 1) := by decide +kernel
theorem dX12_ends_10 : decode cX12_ends 10 = .ok (.iconst 1, 1) := by decide +kernel
theorem dX12_ends_11 : decode cX12_ends 11 = .ok (.invokestatic 153, 3) := by decide +kernel
theorem dX12_ends_14 : decode cX12_ends 14 = .ok (.ifCond .eq 19, 3) := by decide +kernel
theorem dX12_ends_17 : decode cX12_ends 17 = .ok (.iload_n 2, 1) := by decide +kernel
theorem dX12_ends_18 : decode cX12_ends 18 = .ok (.iconst 0, 1) := by decide +kernel
theorem dX12_ends_19 : decode cX12_ends 19 = .ok (.aload_n 0, 1) := by decide +kernel
theorem dX12_ends_20 : decode cX12_ends 20 = .ok (.getfield 60, 3) := by decide +kernel
theorem dX12_ends_23 : decode cX12_ends 23 = .ok (.iload_n 1, 1) := by decide +kernel
theorem dX12_ends_24 : decode cX12_ends 24 = .ok (.iaload, 1) := by decide +kernel
theorem dX12_ends_25 : decode cX12_ends 25 = .ok (.iconst 1, 1) := by decide +kernel
theorem dX12_ends_26 : decode cX12_ends 26 = .ok (.isub, 1) := by decide +kernel
theorem dX12_ends_27 : decode cX12_ends 27 = .ok (.invokestatic 153, 3) := by decide +kernel
theorem dX12_ends_30 : decode cX12_ends 30 = .ok (.ifCond .ne 7, 3) := by decide +kernel
theorem dX12_ends_33 : decode cX12_ends 33 = .ok (.ldc2_w 197, 3) := by decide +kernel
theorem dX12_ends_36 : decode cX12_ends 36 = .ok (.lreturn, 1) := by decide +kernel
theorem dX12_ends_37 : decode cX12_ends 37 = .ok (.iload_n 3, 1) := by decide +kernel
theorem dX12_ends_38 : decode cX12_ends 38 = .ok (.ifCond .ne 17, 3) := by decide +kernel
theorem dX12_ends_41 : decode cX12_ends 41 = .ok (.aload_n 0, 1) := by decide +kernel
theorem dX12_ends_42 : decode cX12_ends 42 = .ok (.getfield 72, 3) := by decide +kernel
theorem dX12_ends_45 : decode cX12_ends 45 = .ok (.bipush 20, 2) := by decide +kernel
theorem dX12_ends_47 : decode cX12_ends 47 = .ok (.iload_n 1, 1) := by decide +kernel
theorem dX12_ends_48 : decode cX12_ends 48 = .ok (.imul, 1) := by decide +kernel
theorem dX12_ends_49 : decode cX12_ends 49 = .ok (.iload_n 2, 1) := by decide +kernel
theorem dX12_ends_50 : decode cX12_ends 50 = .ok (.iadd, 1) := by decide +kernel
theorem dX12_ends_51 : decode cX12_ends 51 = .ok (.laload, 1) := by decide +kernel
theorem dX12_ends_52 : decode cX12_ends 52 = .ok (.goto 14, 3) := by decide +kernel
theorem dX12_ends_55 : decode cX12_ends 55 = .ok (.aload_n 0, 1) := by decide +kernel
theorem dX12_ends_56 : decode cX12_ends 56 = .ok (.getfield 75, 3) := by decide +kernel
theorem dX12_ends_59 : decode cX12_ends 59 = .ok (.bipush 20, 2) := by decide +kernel
theorem dX12_ends_61 : decode cX12_ends 61 = .ok (.iload_n 1, 1) := by decide +kernel
theorem dX12_ends_62 : decode cX12_ends 62 = .ok (.imul, 1) := by decide +kernel
theorem dX12_ends_63 : decode cX12_ends 63 = .ok (.iload_n 2, 1) := by decide +kernel
theorem dX12_ends_64 : decode cX12_ends 64 = .ok (.iadd, 1) := by decide +kernel
theorem dX12_ends_65 : decode cX12_ends 65 = .ok (.laload, 1) := by decide +kernel
theorem dX12_ends_66 : decode cX12_ends 66 = .ok (.lreturn, 1) := by decide +kernel
theorem dX12_may_0 : decode cX12_may 0 = .ok (.aload_n 0, 1) := by decide +kernel
theorem dX12_may_1 : decode cX12_may 1 = .ok (.getfield 29, 3) := by decide +kernel
theorem dX12_may_4 : decode cX12_may 4 = .ok (.iload_n 1, 1) := by decide +kernel
theorem dX12_may_5 : decode cX12_may 5 = .ok (.baload, 1) := by decide +kernel
theorem dX12_may_6 : decode cX12_may 6 = .ok (.ifCond .eq 41, 3) := by decide +kernel
theorem dX12_may_9 : decode cX12_may 9 = .ok (.aload_n 0, 1) := by decide +kernel
theorem dX12_may_10 : decode cX12_may 10 = .ok (.getfield 82, 3) := by decide +kernel
theorem dX12_may_13 : decode cX12_may 13 = .ok (.bipush 20, 2) := by decide +kernel
theorem dX12_may_15 : decode cX12_may 15 = .ok (.iload_n 1, 1) := by decide +kernel
theorem dX12_may_16 : decode cX12_may 16 = .ok (.imul, 1) := by decide +kernel
theorem dX12_may_17 : decode cX12_may 17 = .ok (.iload_n 2, 1) := by decide +kernel
theorem dX12_may_18 : decode cX12_may 18 = .ok (.iadd, 1) := by decide +kernel
theorem dX12_may_19 : decode cX12_may 19 = .ok (.baload, 1) := by decide +kernel
theorem dX12_may_20 : decode cX12_may 20 = .ok (.ifCond .eq 27, 3) := by decide +kernel
theorem dX12_may_23 : decode cX12_may 23 = .ok (.aload_n 0, 1) := by decide +kernel
theorem dX12_may_24 : decode cX12_may 24 = .ok (.iload_n 1, 1) := by decide +kernel
theorem dX12_may_25 : decode cX12_may 25 = .ok (.invokevirtual 194, 3) := by decide +kernel
theorem dX12_may_28 : decode cX12_may 28 = .ok (.aload_n 0, 1) := by decide +kernel
theorem dX12_may_29 : decode cX12_may 29 = .ok (.getfield 97, 3) := by decide +kernel
theorem dX12_may_32 : decode cX12_may 32 = .ok (.bipush 20, 2) := by decide +kernel
theorem dX12_may_34 : decode cX12_may 34 = .ok (.iload_n 1, 1) := by decide +kernel
theorem dX12_may_35 : decode cX12_may 35 = .ok (.imul, 1) := by decide +kernel
theorem dX12_may_36 : decode cX12_may 36 = .ok (.iload_n 2, 1) := by decide +kernel
theorem dX12_may_37 : decode cX12_may 37 = .ok (.iadd, 1) := by decide +kernel
theorem dX12_may_38 : decode cX12_may 38 = .ok (.laload, 1) := by decide +kernel
theorem dX12_may_39 : decode cX12_may 39 = .ok (.lcmp, 1) := by decide +kernel
theorem dX12_may_40 : decode cX12_may 40 = .ok (.ifCond .ge 7, 3) := by decide +kernel
theorem dX12_may_43 : decode cX12_may 43 = .ok (.iconst 1, 1) := by decide +kernel
theorem dX12_may_44 : decode cX12_may 44 = .ok (.goto 4, 3) := by decide +kernel
theorem dX12_may_47 : decode cX12_may 47 = .ok (.iconst 0, 1) := by decide +kernel
theorem dX12_may_48 : decode cX12_may 48 = .ok (.ireturn, 1) := by decide +kernel
theorem dX12_mays_0 : decode cX12_mays 0 = .ok (.iconst 0, 1) := by decide +kernel
theorem dX12_mays_1 : decode cX12_mays 1 = .ok (.istore_n 2, 1) := by decide +kernel
theorem dX12_mays_2 : decode cX12_mays 2 = .ok (.iconst 0, 1) := by decide +kernel
theorem dX12_mays_3 : decode cX12_mays 3 = .ok (.istore_n 3, 1) := by decide +kernel
theorem dX12_mays_4 : decode cX12_mays 4 = .ok (.iload_n 3, 1) := by decide +kernel
theorem dX12_mays_5 : decode cX12_mays 5 = .ok (.aload_n 0, 1) := by decide +kernel
theorem dX12_mays_6 : decode cX12_mays 6 = .ok (.getfield 164, 3) := by decide +kernel
theorem dX12_mays_9 : decode cX12_mays 9 = .ok (.if_icmp .ge 26, 3) := by decide +kernel
theorem dX12_mays_12 : decode cX12_mays 12 = .ok (.iload_n 2, 1) := by decide +kernel
theorem dX12_mays_13 : decode cX12_mays 13 = .ok (.aload_n 0, 1) := by decide +kernel
theorem dX12_mays_14 : decode cX12_mays 14 = .ok (.iload_n 3, 1) := by decide +kernel
theorem dX12_mays_15 : decode cX12_mays 15 = .ok (.iload_n 1, 1) := by decide +kernel
theorem dX12_mays_16 : decode cX12_mays 16 = .ok (.invokevirtual 303, 3) := by decide +kernel
theorem dX12_mays_19 : decode cX12_mays 19 = .ok (.ifCond .eq 7, 3) := by decide +kernel
theorem dX12_mays_22 : decode cX12_mays 22 = .ok (.iconst 1, 1) := by decide +kernel
theorem dX12_mays_23 : decode cX12_mays 23 = .ok (.goto 4, 3) := by decide +kernel
theorem dX12_mays_26 : decode cX12_mays 26 = .ok (.iconst 0, 1) := by decide +kernel
theorem dX12_mays_27 : decode cX12_mays 27 = .ok (.iadd, 1) := by decide +kernel
theorem dX12_mays_28 : decode cX12_mays 28 = .ok (.istore_n 2, 1) := by decide +kernel
theorem dX12_mays_29 : decode cX12_mays 29 = .ok (.iinc 3 1, 3) := by decide +kernel
theorem dX12_mays_32 : decode cX12_mays 32 = .ok (.goto (-28), 3) := by decide +kernel
theorem dX12_mays_35 : decode cX12_mays 35 = .ok (.iload_n 2, 1) := by decide +kernel
theorem dX12_mays_36 : decode cX12_mays 36 = .ok (.ireturn, 1) := by decide +kernel
theorem dX12_told_0 : decode cX12_told 0 = .ok (.aload_n 0, 1) := by decide +kernel
theorem dX12_told_1 : decode cX12_told 1 = .ok (.iload_n 1, 1) := by decide +kernel
theorem dX12_told_2 : decode cX12_told 2 = .ok (.invokevirtual 214, 3) := by decide +kernel
theorem dX12_told_5 : decode cX12_told 5 = .ok (.ifCond .eq 7, 3) := by decide +kernel
theorem dX12_told_8 : decode cX12_told 8 = .ok (.iload_n 2, 1) := by decide +kernel
theorem dX12_told_9 : decode cX12_told 9 = .ok (.ifCond .ge 6, 3) := by decide +kernel
theorem dX12_told_12 : decode cX12_told 12 = .ok (.bipush (-2), 2) := by decide +kernel
theorem dX12_told_14 : decode cX12_told 14 = .ok (.ireturn, 1) := by decide +kernel
theorem dX12_told_15 : decode cX12_told 15 = .ok (.iload_n 2, 1) := by decide +kernel
theorem dX12_told_16 : decode cX12_told 16 = .ok (.tableswitch 121 0 8 #[52, 59, 66, 72, 79, 86, 93, 100, 115], 52) := by decide +kernel
theorem dX12_told_68 : decode cX12_told 68 = .ok (.aload_n 0, 1) := by decide +kernel
theorem dX12_told_69 : decode cX12_told 69 = .ok (.getfield 32, 3) := by decide +kernel
theorem dX12_told_72 : decode cX12_told 72 = .ok (.iload_n 1, 1) := by decide +kernel
theorem dX12_told_73 : decode cX12_told 73 = .ok (.iaload, 1) := by decide +kernel
theorem dX12_told_74 : decode cX12_told 74 = .ok (.ireturn, 1) := by decide +kernel
theorem dX12_told_75 : decode cX12_told 75 = .ok (.aload_n 0, 1) := by decide +kernel
theorem dX12_told_76 : decode cX12_told 76 = .ok (.getfield 35, 3) := by decide +kernel
theorem dX12_told_79 : decode cX12_told 79 = .ok (.iload_n 1, 1) := by decide +kernel
theorem dX12_told_80 : decode cX12_told 80 = .ok (.iaload, 1) := by decide +kernel
theorem dX12_told_81 : decode cX12_told 81 = .ok (.ireturn, 1) := by decide +kernel
theorem dX12_told_82 : decode cX12_told 82 = .ok (.aload_n 0, 1) := by decide +kernel
theorem dX12_told_83 : decode cX12_told 83 = .ok (.iload_n 1, 1) := by decide +kernel
theorem dX12_told_84 : decode cX12_told 84 = .ok (.invokevirtual 210, 3) := by decide +kernel
theorem dX12_told_87 : decode cX12_told 87 = .ok (.ireturn, 1) := by decide +kernel
theorem dX12_told_88 : decode cX12_told 88 = .ok (.aload_n 0, 1) := by decide +kernel
theorem dX12_told_89 : decode cX12_told 89 = .ok (.getfield 38, 3) := by decide +kernel
theorem dX12_told_92 : decode cX12_told 92 = .ok (.iload_n 1, 1) := by decide +kernel
theorem dX12_told_93 : decode cX12_told 93 = .ok (.iaload, 1) := by decide +kernel
theorem dX12_told_94 : decode cX12_told 94 = .ok (.ireturn, 1) := by decide +kernel
theorem dX12_told_95 : decode cX12_told 95 = .ok (.aload_n 0, 1) := by decide +kernel
theorem dX12_told_96 : decode cX12_told 96 = .ok (.getfield 60, 3) := by decide +kernel
theorem dX12_told_99 : decode cX12_told 99 = .ok (.iload_n 1, 1) := by decide +kernel
theorem dX12_told_100 : decode cX12_told 100 = .ok (.iaload, 1) := by decide +kernel
theorem dX12_told_101 : decode cX12_told 101 = .ok (.ireturn, 1) := by decide +kernel
theorem dX12_told_102 : decode cX12_told 102 = .ok (.aload_n 0, 1) := by decide +kernel
theorem dX12_told_103 : decode cX12_told 103 = .ok (.getfield 41, 3) := by decide +kernel
theorem dX12_told_106 : decode cX12_told 106 = .ok (.iload_n 1, 1) := by decide +kernel
theorem dX12_told_107 : decode cX12_told 107 = .ok (.iaload, 1) := by decide +kernel
theorem dX12_told_108 : decode cX12_told 108 = .ok (.ireturn, 1) := by decide +kernel
theorem dX12_told_109 : decode cX12_told 109 = .ok (.aload_n 0, 1) := by decide +kernel
theorem dX12_told_110 : decode cX12_told 110 = .ok (.getfield 44, 3) := by decide +kernel
theorem dX12_told_113 : decode cX12_told 113 = .ok (.iload_n 1, 1) := by decide +kernel
theorem dX12_told_114 : decode cX12_told 114 = .ok (.iaload, 1) := by decide +kernel
theorem dX12_told_115 : decode cX12_told 115 = .ok (.ireturn, 1) := by decide +kernel
theorem dX12_told_116 : decode cX12_told 116 = .ok (.aload_n 0, 1) := by decide +kernel
theorem dX12_told_117 : decode cX12_told 117 = .ok (.getfield 57, 3) := by decide +kernel
theorem dX12_told_120 : decode cX12_told 120 = .ok (.iload_n 1, 1) := by decide +kernel
theorem dX12_told_121 : decode cX12_told 121 = .ok (.baload, 1) := by decide +kernel
theorem dX12_told_122 : decode cX12_told 122 = .ok (.ifCond .eq 7, 3) := by decide +kernel
theorem dX12_told_125 : decode cX12_told 125 = .ok (.iconst 1, 1) := by decide +kernel
theorem dX12_told_126 : decode cX12_told 126 = .ok (.goto 4, 3) := by decide +kernel
theorem dX12_told_129 : decode cX12_told 129 = .ok (.iconst 0, 1) := by decide +kernel
theorem dX12_told_130 : decode cX12_told 130 = .ok (.ireturn, 1) := by decide +kernel
theorem dX12_told_131 : decode cX12_told 131 = .ok (.aload_n 0, 1) := by decide +kernel
theorem dX12_told_132 : decode cX12_told 132 = .ok (.iload_n 1, 1) := by decide +kernel
theorem dX12_told_133 : decode cX12_told 133 = .ok (.invokevirtual 306, 3) := by decide +kernel
theorem dX12_told_136 : decode cX12_told 136 = .ok (.ireturn, 1) := by decide +kernel
theorem dX12_told_137 : decode cX12_told 137 = .ok (.iload_n 2, 1) := by decide +kernel
theorem dX12_told_138 : decode cX12_told 138 = .ok (.bipush 9, 2) := by decide +kernel
theorem dX12_told_140 : decode cX12_told 140 = .ok (.isub, 1) := by decide +kernel
theorem dX12_told_141 : decode cX12_told 141 = .ok (.aload_n 0, 1) := by decide +kernel
theorem dX12_told_142 : decode cX12_told 142 = .ok (.getfield 44, 3) := by decide +kernel
theorem dX12_told_145 : decode cX12_told 145 = .ok (.iload_n 1, 1) := by decide +kernel
theorem dX12_told_146 : decode cX12_told 146 = .ok (.iaload, 1) := by decide +kernel
theorem dX12_told_147 : decode cX12_told 147 = .ok (.if_icmp .ge 20, 3) := by decide +kernel
theorem dX12_told_150 : decode cX12_told 150 = .ok (.aload_n 0, 1) := by decide +kernel
theorem dX12_told_151 : decode cX12_told 151 = .ok (.getfield 47, 3) := by decide +kernel
theorem dX12_told_154 : decode cX12_told 154 = .ok (.bipush 8, 2) := by decide +kernel
theorem dX12_told_156 : decode cX12_told 156 = .ok (.iload_n 1, 1) := by decide +kernel
theorem dX12_told_157 : decode cX12_told 157 = .ok (.imul, 1) := by decide +kernel
theorem dX12_told_158 : decode cX12_told 158 = .ok (.iload_n 2, 1) := by decide +kernel
theorem dX12_told_159 : decode cX12_told 159 = .ok (.iadd, 1) := by decide +kernel
theorem dX12_told_160 : decode cX12_told 160 = .ok (.bipush 9, 2) := by decide +kernel
theorem dX12_told_162 : decode cX12_told 162 = .ok (.isub, 1) := by decide +kernel
theorem dX12_told_163 : decode cX12_told 163 = .ok (.iaload, 1) := by decide +kernel
theorem dX12_told_164 : decode cX12_told 164 = .ok (.goto 4, 3) := by decide +kernel
theorem dX12_told_167 : decode cX12_told 167 = .ok (.iconst (-1), 1) := by decide +kernel
theorem dX12_told_168 : decode cX12_told 168 = .ok (.ireturn, 1) := by decide +kernel
theorem dX12_holds_0 : decode cX12_holds 0 = .ok (.aload_n 0, 1) := by decide +kernel
theorem dX12_holds_1 : decode cX12_holds 1 = .ok (.iload_n 1, 1) := by decide +kernel
theorem dX12_holds_2 : decode cX12_holds 2 = .ok (.invokevirtual 191, 3) := by decide +kernel
theorem dX12_holds_5 : decode cX12_holds 5 = .ok (.ifCond .eq 20, 3) := by decide +kernel
theorem dX12_holds_8 : decode cX12_holds 8 = .ok (.aload_n 0, 1) := by decide +kernel
theorem dX12_holds_9 : decode cX12_holds 9 = .ok (.iload_n 2, 1) := by decide +kernel
theorem dX12_holds_10 : decode cX12_holds 10 = .ok (.invokevirtual 214, 3) := by decide +kernel
theorem dX12_holds_13 : decode cX12_holds 13 = .ok (.ifCond .eq 12, 3) := by decide +kernel
theorem dX12_holds_16 : decode cX12_holds 16 = .ok (.iload_n 3, 1) := by decide +kernel
theorem dX12_holds_17 : decode cX12_holds 17 = .ok (.iconst 0, 1) := by decide +kernel
theorem dX12_holds_18 : decode cX12_holds 18 = .ok (.iconst 4, 1) := by decide +kernel
theorem dX12_holds_19 : decode cX12_holds 19 = .ok (.invokestatic 153, 3) := by decide +kernel
theorem dX12_holds_22 : decode cX12_holds 22 = .ok (.ifCond .ne 6, 3) := by decide +kernel
theorem dX12_holds_25 : decode cX12_holds 25 = .ok (.bipush (-2), 2) := by decide +kernel
theorem dX12_holds_27 : decode cX12_holds 27 = .ok (.ireturn, 1) := by decide +kernel
theorem dX12_holds_28 : decode cX12_holds 28 = .ok (.bipush 20, 2) := by decide +kernel
theorem dX12_holds_30 : decode cX12_holds 30 = .ok (.iload_n 1, 1) := by decide +kernel
theorem dX12_holds_31 : decode cX12_holds 31 = .ok (.imul, 1) := by decide +kernel
theorem dX12_holds_32 : decode cX12_holds 32 = .ok (.iload_n 2, 1) := by decide +kernel
theorem dX12_holds_33 : decode cX12_holds 33 = .ok (.iadd, 1) := by decide +kernel
theorem dX12_holds_34 : decode cX12_holds 34 = .ok (.istore 4, 2) := by decide +kernel
theorem dX12_holds_36 : decode cX12_holds 36 = .ok (.iload_n 3, 1) := by decide +kernel
theorem dX12_holds_37 : decode cX12_holds 37 = .ok (.tableswitch 106 0 3 #[31, 46, 62, 84], 31) := by decide +kernel
theorem dX12_holds_68 : decode cX12_holds 68 = .ok (.aload_n 0, 1) := by decide +kernel
theorem dX12_holds_69 : decode cX12_holds 69 = .ok (.iload_n 1, 1) := by decide +kernel
theorem dX12_holds_70 : decode cX12_holds 70 = .ok (.iload_n 2, 1) := by decide +kernel
theorem dX12_holds_71 : decode cX12_holds 71 = .ok (.invokevirtual 303, 3) := by decide +kernel
theorem dX12_holds_74 : decode cX12_holds 74 = .ok (.ifCond .eq 7, 3) := by decide +kernel
theorem dX12_holds_77 : decode cX12_holds 77 = .ok (.iconst 1, 1) := by decide +kernel
theorem dX12_holds_78 : decode cX12_holds 78 = .ok (.goto 4, 3) := by decide +kernel
theorem dX12_holds_81 : decode cX12_holds 81 = .ok (.iconst 0, 1) := by decide +kernel
theorem dX12_holds_82 : decode cX12_holds 82 = .ok (.ireturn, 1) := by decide +kernel
theorem dX12_holds_83 : decode cX12_holds 83 = .ok (.aload_n 0, 1) := by decide +kernel
theorem dX12_holds_84 : decode cX12_holds 84 = .ok (.getfield 82, 3) := by decide +kernel
theorem dX12_holds_87 : decode cX12_holds 87 = .ok (.iload 4, 2) := by decide +kernel
theorem dX12_holds_89 : decode cX12_holds 89 = .ok (.baload, 1) := by decide +kernel
theorem dX12_holds_90 : decode cX12_holds 90 = .ok (.ifCond .eq 7, 3) := by decide +kernel
theorem dX12_holds_93 : decode cX12_holds 93 = .ok (.iconst 1, 1) := by decide +kernel
theorem dX12_holds_94 : decode cX12_holds 94 = .ok (.goto 4, 3) := by decide +kernel
theorem dX12_holds_97 : decode cX12_holds 97 = .ok (.iconst 0, 1) := by decide +kernel
theorem dX12_holds_98 : decode cX12_holds 98 = .ok (.ireturn, 1) := by decide +kernel
theorem dX12_holds_99 : decode cX12_holds 99 = .ok (.aload_n 0, 1) := by decide +kernel
theorem dX12_holds_100 : decode cX12_holds 100 = .ok (.getfield 82, 3) := by decide +kernel
theorem dX12_holds_103 : decode cX12_holds 103 = .ok (.iload 4, 2) := by decide +kernel
theorem dX12_holds_105 : decode cX12_holds 105 = .ok (.baload, 1) := by decide +kernel
theorem dX12_holds_106 : decode cX12_holds 106 = .ok (.ifCond .eq 13, 3) := by decide +kernel
theorem dX12_holds_109 : decode cX12_holds 109 = .ok (.aload_n 0, 1) := by decide +kernel
theorem dX12_holds_110 : decode cX12_holds 110 = .ok (.getfield 85, 3) := by decide +kernel
theorem dX12_holds_113 : decode cX12_holds 113 = .ok (.iload 4, 2) := by decide +kernel
theorem dX12_holds_115 : decode cX12_holds 115 = .ok (.iaload, 1) := by decide +kernel
theorem dX12_holds_116 : decode cX12_holds 116 = .ok (.goto 4, 3) := by decide +kernel
theorem dX12_holds_119 : decode cX12_holds 119 = .ok (.iconst (-1), 1) := by decide +kernel
theorem dX12_holds_120 : decode cX12_holds 120 = .ok (.ireturn, 1) := by decide +kernel
theorem dX12_holds_121 : decode cX12_holds 121 = .ok (.aload_n 0, 1) := by decide +kernel
theorem dX12_holds_122 : decode cX12_holds 122 = .ok (.getfield 82, 3) := by decide +kernel
theorem dX12_holds_125 : decode cX12_holds 125 = .ok (.iload 4, 2) := by decide +kernel
theorem dX12_holds_127 : decode cX12_holds 127 = .ok (.baload, 1) := by decide +kernel
theorem dX12_holds_128 : decode cX12_holds 128 = .ok (.ifCond .eq 13, 3) := by decide +kernel
theorem dX12_holds_131 : decode cX12_holds 131 = .ok (.aload_n 0, 1) := by decide +kernel
theorem dX12_holds_132 : decode cX12_holds 132 = .ok (.getfield 88, 3) := by decide +kernel
theorem dX12_holds_135 : decode cX12_holds 135 = .ok (.iload 4, 2) := by decide +kernel
theorem dX12_holds_137 : decode cX12_holds 137 = .ok (.iaload, 1) := by decide +kernel
theorem dX12_holds_138 : decode cX12_holds 138 = .ok (.goto 4, 3) := by decide +kernel
theorem dX12_holds_141 : decode cX12_holds 141 = .ok (.iconst (-1), 1) := by decide +kernel
theorem dX12_holds_142 : decode cX12_holds 142 = .ok (.ireturn, 1) := by decide +kernel
theorem dX12_holds_143 : decode cX12_holds 143 = .ok (.aload_n 0, 1) := by decide +kernel
theorem dX12_holds_144 : decode cX12_holds 144 = .ok (.getfield 91, 3) := by decide +kernel
theorem dX12_holds_147 : decode cX12_holds 147 = .ok (.iload 4, 2) := by decide +kernel
theorem dX12_holds_149 : decode cX12_holds 149 = .ok (.iaload, 1) := by decide +kernel
theorem dX12_holds_150 : decode cX12_holds 150 = .ok (.ifCond .eq 7, 3) := by decide +kernel
theorem dX12_holds_153 : decode cX12_holds 153 = .ok (.iconst 1, 1) := by decide +kernel
theorem dX12_holds_154 : decode cX12_holds 154 = .ok (.goto 4, 3) := by decide +kernel
theorem dX12_holds_157 : decode cX12_holds 157 = .ok (.iconst 0, 1) := by decide +kernel
theorem dX12_holds_158 : decode cX12_holds 158 = .ok (.ireturn, 1) := by decide +kernel
theorem dX12_held_0 : decode cX12_held 0 = .ok (.aload_n 0, 1) := by decide +kernel
theorem dX12_held_1 : decode cX12_held 1 = .ok (.iload_n 1, 1) := by decide +kernel
theorem dX12_held_2 : decode cX12_held 2 = .ok (.invokevirtual 191, 3) := by decide +kernel
theorem dX12_held_5 : decode cX12_held 5 = .ok (.ifCond .eq 34, 3) := by decide +kernel
theorem dX12_held_8 : decode cX12_held 8 = .ok (.aload_n 0, 1) := by decide +kernel
theorem dX12_held_9 : decode cX12_held 9 = .ok (.iload_n 2, 1) := by decide +kernel
theorem dX12_held_10 : decode cX12_held 10 = .ok (.invokevirtual 214, 3) := by decide +kernel
theorem dX12_held_13 : decode cX12_held 13 = .ok (.ifCond .eq 26, 3) := by decide +kernel
theorem dX12_held_16 : decode cX12_held 16 = .ok (.iload_n 3, 1) := by decide +kernel
theorem dX12_held_17 : decode cX12_held 17 = .ok (.iconst 0, 1) := by decide +kernel
theorem dX12_held_18 : decode cX12_held 18 = .ok (.iconst 1, 1) := by decide +kernel
theorem dX12_held_19 : decode cX12_held 19 = .ok (.invokestatic 153, 3) := by decide +kernel
theorem dX12_held_22 : decode cX12_held 22 = .ok (.ifCond .eq 17, 3) := by decide +kernel
theorem dX12_held_25 : decode cX12_held 25 = .ok (.aload_n 0, 1) := by decide +kernel
theorem dX12_held_26 : decode cX12_held 26 = .ok (.getfield 82, 3) := by decide +kernel
theorem dX12_held_29 : decode cX12_held 29 = .ok (.bipush 20, 2) := by decide +kernel
theorem dX12_held_31 : decode cX12_held 31 = .ok (.iload_n 1, 1) := by decide +kernel
theorem dX12_held_32 : decode cX12_held 32 = .ok (.imul, 1) := by decide +kernel
theorem dX12_held_33 : decode cX12_held 33 = .ok (.iload_n 2, 1) := by decide +kernel
theorem dX12_held_34 : decode cX12_held 34 = .ok (.iadd, 1) := by decide +kernel
theorem dX12_held_35 : decode cX12_held 35 = .ok (.baload, 1) := by decide +kernel
theorem dX12_held_36 : decode cX12_held 36 = .ok (.ifCond .ne 7, 3) := by decide +kernel
theorem dX12_held_39 : decode cX12_held 39 = .ok (.ldc2_w 197, 3) := by decide +kernel
theorem dX12_held_42 : decode cX12_held 42 = .ok (.lreturn, 1) := by decide +kernel
theorem dX12_held_43 : decode cX12_held 43 = .ok (.iload_n 3, 1) := by decide +kernel
theorem dX12_held_44 : decode cX12_held 44 = .ok (.ifCond .ne 17, 3) := by decide +kernel
theorem dX12_held_47 : decode cX12_held 47 = .ok (.aload_n 0, 1) := by decide +kernel
theorem dX12_held_48 : decode cX12_held 48 = .ok (.getfield 94, 3) := by decide +kernel
theorem dX12_held_51 : decode cX12_held 51 = .ok (.bipush 20, 2) := by decide +kernel
theorem dX12_held_53 : decode cX12_held 53 = .ok (.iload_n 1, 1) := by decide +kernel
theorem dX12_held_54 : decode cX12_held 54 = .ok (.imul, 1) := by decide +kernel
theorem dX12_held_55 : decode cX12_held 55 = .ok (.iload_n 2, 1) := by decide +kernel
theorem dX12_held_56 : decode cX12_held 56 = .ok (.iadd, 1) := by decide +kernel
theorem dX12_held_57 : decode cX12_held 57 = .ok (.laload, 1) := by decide +kernel
theorem dX12_held_58 : decode cX12_held 58 = .ok (.goto 14, 3) := by decide +kernel
theorem dX12_held_61 : decode cX12_held 61 = .ok (.aload_n 0, 1) := by decide +kernel
theorem dX12_held_62 : decode cX12_held 62 = .ok (.getfield 97, 3) := by decide +kernel
theorem dX12_held_65 : decode cX12_held 65 = .ok (.bipush 20, 2) := by decide +kernel
theorem dX12_held_67 : decode cX12_held 67 = .ok (.iload_n 1, 1) := by decide +kernel
theorem dX12_held_68 : decode cX12_held 68 = .ok (.imul, 1) := by decide +kernel
theorem dX12_held_69 : decode cX12_held 69 = .ok (.iload_n 2, 1) := by decide +kernel
theorem dX12_held_70 : decode cX12_held 70 = .ok (.iadd, 1) := by decide +kernel
theorem dX12_held_71 : decode cX12_held 71 = .ok (.laload, 1) := by decide +kernel
theorem dX12_held_72 : decode cX12_held 72 = .ok (.lreturn, 1) := by decide +kernel
theorem dX12_isStore_0 : decode cX12_isStore 0 = .ok (.iload_n 1, 1) := by decide +kernel
theorem dX12_isStore_1 : decode cX12_isStore 1 = .ok (.iconst 0, 1) := by decide +kernel
theorem dX12_isStore_2 : decode cX12_isStore 2 = .ok (.aload_n 0, 1) := by decide +kernel
theorem dX12_isStore_3 : decode cX12_isStore 3 = .ok (.getfield 170, 3) := by decide +kernel
theorem dX12_isStore_6 : decode cX12_isStore 6 = .ok (.iconst 1, 1) := by decide +kernel
theorem dX12_isStore_7 : decode cX12_isStore 7 = .ok (.isub, 1) := by decide +kernel
theorem dX12_isStore_8 : decode cX12_isStore 8 = .ok (.invokestatic 153, 3) := by decide +kernel
theorem dX12_isStore_11 : decode cX12_isStore 11 = .ok (.ireturn, 1) := by decide +kernel
theorem dX12_write_0 : decode cX12_write 0 = .ok (.aload_n 0, 1) := by decide +kernel
theorem dX12_write_1 : decode cX12_write 1 = .ok (.iload_n 1, 1) := by decide +kernel
theorem dX12_write_2 : decode cX12_write 2 = .ok (.invokevirtual 191, 3) := by decide +kernel
theorem dX12_write_5 : decode cX12_write 5 = .ok (.ifCond .eq 19, 3) := by decide +kernel
theorem dX12_write_8 : decode cX12_write 8 = .ok (.aload_n 0, 1) := by decide +kernel
theorem dX12_write_9 : decode cX12_write 9 = .ok (.iload_n 2, 1) := by decide +kernel
theorem dX12_write_10 : decode cX12_write 10 = .ok (.invokevirtual 214, 3) := by decide +kernel
theorem dX12_write_13 : decode cX12_write 13 = .ok (.ifCond .eq 11, 3) := by decide +kernel
theorem dX12_write_16 : decode cX12_write 16 = .ok (.aload_n 0, 1) := by decide +kernel
theorem dX12_write_17 : decode cX12_write 17 = .ok (.iload_n 3, 1) := by decide +kernel
theorem dX12_write_18 : decode cX12_write 18 = .ok (.invokevirtual 309, 3) := by decide +kernel
theorem dX12_write_21 : decode cX12_write 21 = .ok (.ifCond .ne 6, 3) := by decide +kernel
theorem dX12_write_24 : decode cX12_write 24 = .ok (.bipush (-2), 2) := by decide +kernel
theorem dX12_write_26 : decode cX12_write 26 = .ok (.ireturn, 1) := by decide +kernel
theorem dX12_write_27 : decode cX12_write 27 = .ok (.bipush 20, 2) := by decide +kernel
theorem dX12_write_29 : decode cX12_write 29 = .ok (.iload_n 1, 1) := by decide +kernel
theorem dX12_write_30 : decode cX12_write 30 = .ok (.imul, 1) := by decide +kernel
theorem dX12_write_31 : decode cX12_write 31 = .ok (.iload_n 2, 1) := by decide +kernel
theorem dX12_write_32 : decode cX12_write 32 = .ok (.iadd, 1) := by decide +kernel
theorem dX12_write_33 : decode cX12_write 33 = .ok (.istore 6, 2) := by decide +kernel
theorem dX12_write_35 : decode cX12_write 35 = .ok (.aload_n 0, 1) := by decide +kernel
theorem dX12_write_36 : decode cX12_write 36 = .ok (.getfield 29, 3) := by decide +kernel
theorem dX12_write_39 : decode cX12_write 39 = .ok (.iload_n 1, 1) := by decide +kernel
theorem dX12_write_40 : decode cX12_write 40 = .ok (.baload, 1) := by decide +kernel
theorem dX12_write_41 : decode cX12_write 41 = .ok (.ifCond .eq 24, 3) := by decide +kernel
theorem dX12_write_44 : decode cX12_write 44 = .ok (.aload_n 0, 1) := by decide +kernel
theorem dX12_write_45 : decode cX12_write 45 = .ok (.getfield 82, 3) := by decide +kernel
theorem dX12_write_48 : decode cX12_write 48 = .ok (.iload 6, 2) := by decide +kernel
theorem dX12_write_50 : decode cX12_write 50 = .ok (.baload, 1) := by decide +kernel
theorem dX12_write_51 : decode cX12_write 51 = .ok (.ifCond .eq 14, 3) := by decide +kernel
theorem dX12_write_54 : decode cX12_write 54 = .ok (.aload_n 0, 1) := by decide +kernel
theorem dX12_write_55 : decode cX12_write 55 = .ok (.getfield 85, 3) := by decide +kernel
theorem dX12_write_58 : decode cX12_write 58 = .ok (.iload 6, 2) := by decide +kernel
theorem dX12_write_60 : decode cX12_write 60 = .ok (.iaload, 1) := by decide +kernel
theorem dX12_write_61 : decode cX12_write 61 = .ok (.iconst 1, 1) := by decide +kernel
theorem dX12_write_62 : decode cX12_write 62 = .ok (.if_icmp .ne 6, 3) := by decide +kernel
theorem dX12_write_65 : decode cX12_write 65 = .ok (.bipush (-3), 2) := by decide +kernel
theorem dX12_write_67 : decode cX12_write 67 = .ok (.ireturn, 1) := by decide +kernel
theorem dX12_write_68 : decode cX12_write 68 = .ok (.bipush 20, 2) := by decide +kernel
theorem dX12_write_70 : decode cX12_write 70 = .ok (.iload_n 3, 1) := by decide +kernel
theorem dX12_write_71 : decode cX12_write 71 = .ok (.imul, 1) := by decide +kernel
theorem dX12_write_72 : decode cX12_write 72 = .ok (.iload_n 2, 1) := by decide +kernel
theorem dX12_write_73 : decode cX12_write 73 = .ok (.iadd, 1) := by decide +kernel
theorem dX12_write_74 : decode cX12_write 74 = .ok (.istore 7, 2) := by decide +kernel
theorem dX12_write_76 : decode cX12_write 76 = .ok (.aload_n 0, 1) := by decide +kernel
theorem dX12_write_77 : decode cX12_write 77 = .ok (.getfield 94, 3) := by decide +kernel
theorem dX12_write_80 : decode cX12_write 80 = .ok (.iload 6, 2) := by decide +kernel
theorem dX12_write_82 : decode cX12_write 82 = .ok (.laload, 1) := by decide +kernel
theorem dX12_write_83 : decode cX12_write 83 = .ok (.aload_n 0, 1) := by decide +kernel
theorem dX12_write_84 : decode cX12_write 84 = .ok (.getfield 130, 3) := by decide +kernel
theorem dX12_write_87 : decode cX12_write 87 = .ok (.iload 7, 2) := by decide +kernel
theorem dX12_write_89 : decode cX12_write 89 = .ok (.laload, 1) := by decide +kernel
theorem dX12_write_90 : decode cX12_write 90 = .ok (.lcmp, 1) := by decide +kernel
theorem dX12_write_91 : decode cX12_write 91 = .ok (.ifCond .ge 15, 3) := by decide +kernel
theorem dX12_write_94 : decode cX12_write 94 = .ok (.aload_n 0, 1) := by decide +kernel
theorem dX12_write_95 : decode cX12_write 95 = .ok (.dup, 1) := by decide +kernel
theorem dX12_write_96 : decode cX12_write 96 = .ok (.getfield 312, 3) := by decide +kernel
theorem dX12_write_99 : decode cX12_write 99 = .ok (.iconst 1, 1) := by decide +kernel
theorem dX12_write_100 : decode cX12_write 100 = .ok (.iadd, 1) := by decide +kernel
theorem dX12_write_101 : decode cX12_write 101 = .ok (.putfield 312, 3) := by decide +kernel
theorem dX12_write_104 : decode cX12_write 104 = .ok (.iconst 0, 1) := by decide +kernel
theorem dX12_write_105 : decode cX12_write 105 = .ok (.ireturn, 1) := by decide +kernel
theorem dX12_write_106 : decode cX12_write 106 = .ok (.aload_n 0, 1) := by decide +kernel
theorem dX12_write_107 : decode cX12_write 107 = .ok (.getfield 130, 3) := by decide +kernel
theorem dX12_write_110 : decode cX12_write 110 = .ok (.iload 7, 2) := by decide +kernel
theorem dX12_write_112 : decode cX12_write 112 = .ok (.aload_n 0, 1) := by decide +kernel
theorem dX12_write_113 : decode cX12_write 113 = .ok (.getfield 94, 3) := by decide +kernel
theorem dX12_write_116 : decode cX12_write 116 = .ok (.iload 6, 2) := by decide +kernel
theorem dX12_write_118 : decode cX12_write 118 = .ok (.laload, 1) := by decide +kernel
theorem dX12_write_119 : decode cX12_write 119 = .ok (.lastore, 1) := by decide +kernel
theorem dX12_write_120 : decode cX12_write 120 = .ok (.aload_n 0, 1) := by decide +kernel
theorem dX12_write_121 : decode cX12_write 121 = .ok (.getfield 133, 3) := by decide +kernel
theorem dX12_write_124 : decode cX12_write 124 = .ok (.iload 7, 2) := by decide +kernel
theorem dX12_write_126 : decode cX12_write 126 = .ok (.lload 4, 2) := by decide +kernel
theorem dX12_write_128 : decode cX12_write 128 = .ok (.lastore, 1) := by decide +kernel
theorem dX12_write_129 : decode cX12_write 129 = .ok (.iconst 1, 1) := by decide +kernel
theorem dX12_write_130 : decode cX12_write 130 = .ok (.ireturn, 1) := by decide +kernel
theorem dX12_stored_0 : decode cX12_stored 0 = .ok (.aload_n 0, 1) := by decide +kernel
theorem dX12_stored_1 : decode cX12_stored 1 = .ok (.iload_n 1, 1) := by decide +kernel
theorem dX12_stored_2 : decode cX12_stored 2 = .ok (.invokevirtual 309, 3) := by decide +kernel
theorem dX12_stored_5 : decode cX12_stored 5 = .ok (.ifCond .eq 20, 3) := by decide +kernel
theorem dX12_stored_8 : decode cX12_stored 8 = .ok (.aload_n 0, 1) := by decide +kernel
theorem dX12_stored_9 : decode cX12_stored 9 = .ok (.iload_n 2, 1) := by decide +kernel
theorem dX12_stored_10 : decode cX12_stored 10 = .ok (.invokevirtual 214, 3) := by decide +kernel
theorem dX12_stored_13 : decode cX12_stored 13 = .ok (.ifCond .eq 12, 3) := by decide +kernel
theorem dX12_stored_16 : decode cX12_stored 16 = .ok (.iload_n 3, 1) := by decide +kernel
theorem dX12_stored_17 : decode cX12_stored 17 = .ok (.iconst 0, 1) := by decide +kernel
theorem dX12_stored_18 : decode cX12_stored 18 = .ok (.iconst 1, 1) := by decide +kernel
theorem dX12_stored_19 : decode cX12_stored 19 = .ok (.invokestatic 153, 3) := by decide +kernel
theorem dX12_stored_22 : decode cX12_stored 22 = .ok (.ifCond .ne 7, 3) := by decide +kernel
theorem dX12_stored_25 : decode cX12_stored 25 = .ok (.ldc2_w 197, 3) := by decide +kernel
theorem dX12_stored_28 : decode cX12_stored 28 = .ok (.lreturn, 1) := by decide +kernel
theorem dX12_stored_29 : decode cX12_stored 29 = .ok (.iload_n 3, 1) := by decide +kernel
theorem dX12_stored_30 : decode cX12_stored 30 = .ok (.ifCond .ne 17, 3) := by decide +kernel
theorem dX12_stored_33 : decode cX12_stored 33 = .ok (.aload_n 0, 1) := by decide +kernel
theorem dX12_stored_34 : decode cX12_stored 34 = .ok (.getfield 130, 3) := by decide +kernel
theorem dX12_stored_37 : decode cX12_stored 37 = .ok (.bipush 20, 2) := by decide +kernel
theorem dX12_stored_39 : decode cX12_stored 39 = .ok (.iload_n 1, 1) := by decide +kernel
theorem dX12_stored_40 : decode cX12_stored 40 = .ok (.imul, 1) := by decide +kernel
theorem dX12_stored_41 : decode cX12_stored 41 = .ok (.iload_n 2, 1) := by decide +kernel
theorem dX12_stored_42 : decode cX12_stored 42 = .ok (.iadd, 1) := by decide +kernel
theorem dX12_stored_43 : decode cX12_stored 43 = .ok (.laload, 1) := by decide +kernel
theorem dX12_stored_44 : decode cX12_stored 44 = .ok (.goto 14, 3) := by decide +kernel
theorem dX12_stored_47 : decode cX12_stored 47 = .ok (.aload_n 0, 1) := by decide +kernel
theorem dX12_stored_48 : decode cX12_stored 48 = .ok (.getfield 133, 3) := by decide +kernel
theorem dX12_stored_51 : decode cX12_stored 51 = .ok (.bipush 20, 2) := by decide +kernel
theorem dX12_stored_53 : decode cX12_stored 53 = .ok (.iload_n 1, 1) := by decide +kernel
theorem dX12_stored_54 : decode cX12_stored 54 = .ok (.imul, 1) := by decide +kernel
theorem dX12_stored_55 : decode cX12_stored 55 = .ok (.iload_n 2, 1) := by decide +kernel
theorem dX12_stored_56 : decode cX12_stored 56 = .ok (.iadd, 1) := by decide +kernel
theorem dX12_stored_57 : decode cX12_stored 57 = .ok (.laload, 1) := by decide +kernel
theorem dX12_stored_58 : decode cX12_stored 58 = .ok (.lreturn, 1) := by decide +kernel
theorem dX12_underWay_0 : decode cX12_underWay 0 = .ok (.iconst 0, 1) := by decide +kernel
theorem dX12_underWay_1 : decode cX12_underWay 1 = .ok (.istore_n 1, 1) := by decide +kernel
theorem dX12_underWay_2 : decode cX12_underWay 2 = .ok (.iconst 0, 1) := by decide +kernel
theorem dX12_underWay_3 : decode cX12_underWay 3 = .ok (.istore_n 2, 1) := by decide +kernel
theorem dX12_underWay_4 : decode cX12_underWay 4 = .ok (.iload_n 2, 1) := by decide +kernel
theorem dX12_underWay_5 : decode cX12_underWay 5 = .ok (.aload_n 0, 1) := by decide +kernel
theorem dX12_underWay_6 : decode cX12_underWay 6 = .ok (.getfield 178, 3) := by decide +kernel
theorem dX12_underWay_9 : decode cX12_underWay 9 = .ok (.if_icmp .ge 26, 3) := by decide +kernel
theorem dX12_underWay_12 : decode cX12_underWay 12 = .ok (.iload_n 1, 1) := by decide +kernel
theorem dX12_underWay_13 : decode cX12_underWay 13 = .ok (.aload_n 0, 1) := by decide +kernel
theorem dX12_underWay_14 : decode cX12_underWay 14 = .ok (.getfield 118, 3) := by decide +kernel
theorem dX12_underWay_17 : decode cX12_underWay 17 = .ok (.iload_n 2, 1) := by decide +kernel
theorem dX12_underWay_18 : decode cX12_underWay 18 = .ok (.iaload, 1) := by decide +kernel
theorem dX12_underWay_19 : decode cX12_underWay 19 = .ok (.ifCond .ne 7, 3) := by decide +kernel
theorem dX12_underWay_22 : decode cX12_underWay 22 = .ok (.iconst 1, 1) := by decide +kernel
theorem dX12_underWay_23 : decode cX12_underWay 23 = .ok (.goto 4, 3) := by decide +kernel
theorem dX12_underWay_26 : decode cX12_underWay 26 = .ok (.iconst 0, 1) := by decide +kernel
theorem dX12_underWay_27 : decode cX12_underWay 27 = .ok (.iadd, 1) := by decide +kernel
theorem dX12_underWay_28 : decode cX12_underWay 28 = .ok (.istore_n 1, 1) := by decide +kernel
theorem dX12_underWay_29 : decode cX12_underWay 29 = .ok (.iinc 2 1, 3) := by decide +kernel
theorem dX12_underWay_32 : decode cX12_underWay 32 = .ok (.goto (-28), 3) := by decide +kernel
theorem dX12_underWay_35 : decode cX12_underWay 35 = .ok (.iload_n 1, 1) := by decide +kernel
theorem dX12_underWay_36 : decode cX12_underWay 36 = .ok (.ireturn, 1) := by decide +kernel
theorem dX12_clashes_0 : decode cX12_clashes 0 = .ok (.iconst 0, 1) := by decide +kernel
theorem dX12_clashes_1 : decode cX12_clashes 1 = .ok (.istore_n 2, 1) := by decide +kernel
theorem dX12_clashes_2 : decode cX12_clashes 2 = .ok (.iconst 0, 1) := by decide +kernel
theorem dX12_clashes_3 : decode cX12_clashes 3 = .ok (.istore_n 3, 1) := by decide +kernel
theorem dX12_clashes_4 : decode cX12_clashes 4 = .ok (.iconst 0, 1) := by decide +kernel
theorem dX12_clashes_5 : decode cX12_clashes 5 = .ok (.istore 4, 2) := by decide +kernel
theorem dX12_clashes_7 : decode cX12_clashes 7 = .ok (.iload 4, 2) := by decide +kernel
theorem dX12_clashes_9 : decode cX12_clashes 9 = .ok (.aload_n 0, 1) := by decide +kernel
theorem dX12_clashes_10 : decode cX12_clashes 10 = .ok (.getfield 164, 3) := by decide +kernel
theorem dX12_clashes_13 : decode cX12_clashes 13 = .ok (.if_icmp .ge 59, 3) := by decide +kernel
theorem dX12_clashes_16 : decode cX12_clashes 16 = .ok (.aload_n 0, 1) := by decide +kernel
theorem dX12_clashes_17 : decode cX12_clashes 17 = .ok (.iload 4, 2) := by decide +kernel
theorem dX12_clashes_19 : decode cX12_clashes 19 = .ok (.iload_n 1, 1) := by decide +kernel
theorem dX12_clashes_20 : decode cX12_clashes 20 = .ok (.invokevirtual 303, 3) := by decide +kernel
theorem dX12_clashes_23 : decode cX12_clashes 23 = .ok (.ifCond .eq 43, 3) := by decide +kernel
theorem dX12_clashes_26 : decode cX12_clashes 26 = .ok (.iload_n 2, 1) := by decide +kernel
theorem dX12_clashes_27 : decode cX12_clashes 27 = .ok (.aload_n 0, 1) := by decide +kernel
theorem dX12_clashes_28 : decode cX12_clashes 28 = .ok (.getfield 88, 3) := by decide +kernel
theorem dX12_clashes_31 : decode cX12_clashes 31 = .ok (.bipush 20, 2) := by decide +kernel
theorem dX12_clashes_33 : decode cX12_clashes 33 = .ok (.iload 4, 2) := by decide +kernel
theorem dX12_clashes_35 : decode cX12_clashes 35 = .ok (.imul, 1) := by decide +kernel
theorem dX12_clashes_36 : decode cX12_clashes 36 = .ok (.iload_n 1, 1) := by decide +kernel
theorem dX12_clashes_37 : decode cX12_clashes 37 = .ok (.iadd, 1) := by decide +kernel
theorem dX12_clashes_38 : decode cX12_clashes 38 = .ok (.iaload, 1) := by decide +kernel
theorem dX12_clashes_39 : decode cX12_clashes 39 = .ok (.iadd, 1) := by decide +kernel
theorem dX12_clashes_40 : decode cX12_clashes 40 = .ok (.istore_n 2, 1) := by decide +kernel
theorem dX12_clashes_41 : decode cX12_clashes 41 = .ok (.iload_n 3, 1) := by decide +kernel
theorem dX12_clashes_42 : decode cX12_clashes 42 = .ok (.ifCond .ne 18, 3) := by decide +kernel
theorem dX12_clashes_45 : decode cX12_clashes 45 = .ok (.aload_n 0, 1) := by decide +kernel
theorem dX12_clashes_46 : decode cX12_clashes 46 = .ok (.getfield 85, 3) := by decide +kernel
theorem dX12_clashes_49 : decode cX12_clashes 49 = .ok (.bipush 20, 2) := by decide +kernel
theorem dX12_clashes_51 : decode cX12_clashes 51 = .ok (.iload 4, 2) := by decide +kernel
theorem dX12_clashes_53 : decode cX12_clashes 53 = .ok (.imul, 1) := by decide +kernel
theorem dX12_clashes_54 : decode cX12_clashes 54 = .ok (.iload_n 1, 1) := by decide +kernel
theorem dX12_clashes_55 : decode cX12_clashes 55 = .ok (.iadd, 1) := by decide +kernel
theorem dX12_clashes_56 : decode cX12_clashes 56 = .ok (.iaload, 1) := by decide +kernel
theorem dX12_clashes_57 : decode cX12_clashes 57 = .ok (.ifCond .ne 7, 3) := by decide +kernel
theorem dX12_clashes_60 : decode cX12_clashes 60 = .ok (.iconst 1, 1) := by decide +kernel
theorem dX12_clashes_61 : decode cX12_clashes 61 = .ok (.goto 4, 3) := by decide +kernel
theorem dX12_clashes_64 : decode cX12_clashes 64 = .ok (.iconst 0, 1) := by decide +kernel
theorem dX12_clashes_65 : decode cX12_clashes 65 = .ok (.istore_n 3, 1) := by decide +kernel
theorem dX12_clashes_66 : decode cX12_clashes 66 = .ok (.iinc 4 1, 3) := by decide +kernel
theorem dX12_clashes_69 : decode cX12_clashes 69 = .ok (.goto (-62), 3) := by decide +kernel
theorem dX12_clashes_72 : decode cX12_clashes 72 = .ok (.aload_n 0, 1) := by decide +kernel
theorem dX12_clashes_73 : decode cX12_clashes 73 = .ok (.getfield 32, 3) := by decide +kernel
theorem dX12_clashes_76 : decode cX12_clashes 76 = .ok (.iload_n 1, 1) := by decide +kernel
theorem dX12_clashes_77 : decode cX12_clashes 77 = .ok (.iaload, 1) := by decide +kernel
theorem dX12_clashes_78 : decode cX12_clashes 78 = .ok (.iconst 2, 1) := by decide +kernel
theorem dX12_clashes_79 : decode cX12_clashes 79 = .ok (.if_icmp .ne 21, 3) := by decide +kernel
theorem dX12_clashes_82 : decode cX12_clashes 82 = .ok (.iload_n 2, 1) := by decide +kernel
theorem dX12_clashes_83 : decode cX12_clashes 83 = .ok (.aload_n 0, 1) := by decide +kernel
theorem dX12_clashes_84 : decode cX12_clashes 84 = .ok (.getfield 38, 3) := by decide +kernel
theorem dX12_clashes_87 : decode cX12_clashes 87 = .ok (.iload_n 1, 1) := by decide +kernel
theorem dX12_clashes_88 : decode cX12_clashes 88 = .ok (.iaload, 1) := by decide +kernel
theorem dX12_clashes_89 : decode cX12_clashes 89 = .ok (.if_icmp .le 7, 3) := by decide +kernel
theorem dX12_clashes_92 : decode cX12_clashes 92 = .ok (.iconst 1, 1) := by decide +kernel
theorem dX12_clashes_93 : decode cX12_clashes 93 = .ok (.goto 25, 3) := by decide +kernel
theorem dX12_clashes_96 : decode cX12_clashes 96 = .ok (.iconst 0, 1) := by decide +kernel
theorem dX12_clashes_97 : decode cX12_clashes 97 = .ok (.goto 21, 3) := by decide +kernel
theorem dX12_clashes_100 : decode cX12_clashes 100 = .ok (.iload_n 3, 1) := by decide +kernel
theorem dX12_clashes_101 : decode cX12_clashes 101 = .ok (.ifCond .eq 16, 3) := by decide +kernel
theorem dX12_clashes_104 : decode cX12_clashes 104 = .ok (.aload_n 0, 1) := by decide +kernel
theorem dX12_clashes_105 : decode cX12_clashes 105 = .ok (.iload_n 1, 1) := by decide +kernel
theorem dX12_clashes_106 : decode cX12_clashes 106 = .ok (.invokevirtual 306, 3) := by decide +kernel
theorem dX12_clashes_109 : decode cX12_clashes 109 = .ok (.iconst 1, 1) := by decide +kernel
theorem dX12_clashes_110 : decode cX12_clashes 110 = .ok (.if_icmp .le 7, 3) := by decide +kernel
theorem dX12_clashes_113 : decode cX12_clashes 113 = .ok (.iconst 1, 1) := by decide +kernel
theorem dX12_clashes_114 : decode cX12_clashes 114 = .ok (.goto 4, 3) := by decide +kernel
theorem dX12_clashes_117 : decode cX12_clashes 117 = .ok (.iconst 0, 1) := by decide +kernel
theorem dX12_clashes_118 : decode cX12_clashes 118 = .ok (.ireturn, 1) := by decide +kernel
theorem dX12_count_0 : decode cX12_count 0 = .ok (.iload_n 1, 1) := by decide +kernel
theorem dX12_count_1 : decode cX12_count 1 = .ok (.tableswitch 181 0 14 #[75, 80, 85, 90, 95, 100, 105, 110, 115, 120, 125, 130, 135, 140, 145], 75) := by decide +kernel
theorem dX12_count_76 : decode cX12_count 76 = .ok (.aload_n 0, 1) := by decide +kernel
theorem dX12_count_77 : decode cX12_count 77 = .ok (.getfield 161, 3) := by decide +kernel
theorem dX12_count_80 : decode cX12_count 80 = .ok (.ireturn, 1) := by decide +kernel
theorem dX12_count_81 : decode cX12_count 81 = .ok (.aload_n 0, 1) := by decide +kernel
theorem dX12_count_82 : decode cX12_count 82 = .ok (.getfield 164, 3) := by decide +kernel
theorem dX12_count_85 : decode cX12_count 85 = .ok (.ireturn, 1) := by decide +kernel
theorem dX12_count_86 : decode cX12_count 86 = .ok (.aload_n 0, 1) := by decide +kernel
theorem dX12_count_87 : decode cX12_count 87 = .ok (.getfield 167, 3) := by decide +kernel
theorem dX12_count_90 : decode cX12_count 90 = .ok (.ireturn, 1) := by decide +kernel
theorem dX12_count_91 : decode cX12_count 91 = .ok (.aload_n 0, 1) := by decide +kernel
theorem dX12_count_92 : decode cX12_count 92 = .ok (.getfield 170, 3) := by decide +kernel
theorem dX12_count_95 : decode cX12_count 95 = .ok (.ireturn, 1) := by decide +kernel
theorem dX12_count_96 : decode cX12_count 96 = .ok (.aload_n 0, 1) := by decide +kernel
theorem dX12_count_97 : decode cX12_count 97 = .ok (.getfield 178, 3) := by decide +kernel
theorem dX12_count_100 : decode cX12_count 100 = .ok (.ireturn, 1) := by decide +kernel
theorem dX12_count_101 : decode cX12_count 101 = .ok (.aload_n 0, 1) := by decide +kernel
theorem dX12_count_102 : decode cX12_count 102 = .ok (.invokevirtual 315, 3) := by decide +kernel
theorem dX12_count_105 : decode cX12_count 105 = .ok (.ireturn, 1) := by decide +kernel
theorem dX12_count_106 : decode cX12_count 106 = .ok (.aload_n 0, 1) := by decide +kernel
theorem dX12_count_107 : decode cX12_count 107 = .ok (.invokevirtual 199, 3) := by decide +kernel
theorem dX12_count_110 : decode cX12_count 110 = .ok (.ireturn, 1) := by decide +kernel
theorem dX12_count_111 : decode cX12_count 111 = .ok (.aload_n 0, 1) := by decide +kernel
theorem dX12_count_112 : decode cX12_count 112 = .ok (.getfield 78, 3) := by decide +kernel
theorem dX12_count_115 : decode cX12_count 115 = .ok (.ireturn, 1) := by decide +kernel
theorem dX12_count_116 : decode cX12_count 116 = .ok (.aload_n 0, 1) := by decide +kernel
theorem dX12_count_117 : decode cX12_count 117 = .ok (.getfield 207, 3) := by decide +kernel
theorem dX12_count_120 : decode cX12_count 120 = .ok (.ireturn, 1) := by decide +kernel
theorem dX12_count_121 : decode cX12_count 121 = .ok (.aload_n 0, 1) := by decide +kernel
theorem dX12_count_122 : decode cX12_count 122 = .ok (.getfield 248, 3) := by decide +kernel
theorem dX12_count_125 : decode cX12_count 125 = .ok (.ireturn, 1) := by decide +kernel
theorem dX12_count_126 : decode cX12_count 126 = .ok (.aload_n 0, 1) := by decide +kernel
theorem dX12_count_127 : decode cX12_count 127 = .ok (.getfield 251, 3) := by decide +kernel
theorem dX12_count_130 : decode cX12_count 130 = .ok (.ireturn, 1) := by decide +kernel
theorem dX12_count_131 : decode cX12_count 131 = .ok (.aload_n 0, 1) := by decide +kernel
theorem dX12_count_132 : decode cX12_count 132 = .ok (.getfield 257, 3) := by decide +kernel
theorem dX12_count_135 : decode cX12_count 135 = .ok (.ireturn, 1) := by decide +kernel
theorem dX12_count_136 : decode cX12_count 136 = .ok (.aload_n 0, 1) := by decide +kernel
theorem dX12_count_137 : decode cX12_count 137 = .ok (.getfield 294, 3) := by decide +kernel
theorem dX12_count_140 : decode cX12_count 140 = .ok (.ireturn, 1) := by decide +kernel
theorem dX12_count_141 : decode cX12_count 141 = .ok (.aload_n 0, 1) := by decide +kernel
theorem dX12_count_142 : decode cX12_count 142 = .ok (.getfield 312, 3) := by decide +kernel
theorem dX12_count_145 : decode cX12_count 145 = .ok (.ireturn, 1) := by decide +kernel
theorem dX12_count_146 : decode cX12_count 146 = .ok (.iconst 0, 1) := by decide +kernel
theorem dX12_count_147 : decode cX12_count 147 = .ok (.istore_n 2, 1) := by decide +kernel
theorem dX12_count_148 : decode cX12_count 148 = .ok (.iconst 0, 1) := by decide +kernel
theorem dX12_count_149 : decode cX12_count 149 = .ok (.istore_n 3, 1) := by decide +kernel
theorem dX12_count_150 : decode cX12_count 150 = .ok (.iload_n 3, 1) := by decide +kernel
theorem dX12_count_151 : decode cX12_count 151 = .ok (.aload_n 0, 1) := by decide +kernel
theorem dX12_count_152 : decode cX12_count 152 = .ok (.getfield 167, 3) := by decide +kernel
theorem dX12_count_155 : decode cX12_count 155 = .ok (.if_icmp .ge 25, 3) := by decide +kernel
theorem dX12_count_158 : decode cX12_count 158 = .ok (.iload_n 2, 1) := by decide +kernel
theorem dX12_count_159 : decode cX12_count 159 = .ok (.aload_n 0, 1) := by decide +kernel
theorem dX12_count_160 : decode cX12_count 160 = .ok (.iload_n 3, 1) := by decide +kernel
theorem dX12_count_161 : decode cX12_count 161 = .ok (.invokevirtual 318, 3) := by decide +kernel
theorem dX12_count_164 : decode cX12_count 164 = .ok (.ifCond .eq 7, 3) := by decide +kernel
theorem dX12_count_167 : decode cX12_count 167 = .ok (.iconst 1, 1) := by decide +kernel
theorem dX12_count_168 : decode cX12_count 168 = .ok (.goto 4, 3) := by decide +kernel
theorem dX12_count_171 : decode cX12_count 171 = .ok (.iconst 0, 1) := by decide +kernel
theorem dX12_count_172 : decode cX12_count 172 = .ok (.iadd, 1) := by decide +kernel
theorem dX12_count_173 : decode cX12_count 173 = .ok (.istore_n 2, 1) := by decide +kernel
theorem dX12_count_174 : decode cX12_count 174 = .ok (.iinc 3 1, 3) := by decide +kernel
theorem dX12_count_177 : decode cX12_count 177 = .ok (.goto (-27), 3) := by decide +kernel
theorem dX12_count_180 : decode cX12_count 180 = .ok (.iload_n 2, 1) := by decide +kernel
theorem dX12_count_181 : decode cX12_count 181 = .ok (.ireturn, 1) := by decide +kernel
theorem dX12_count_182 : decode cX12_count 182 = .ok (.bipush (-2), 2) := by decide +kernel
theorem dX12_count_184 : decode cX12_count 184 = .ok (.ireturn, 1) := by decide +kernel
theorem dX12_done_0 : decode cX12_done 0 = .ok (.aload_n 0, 1) := by decide +kernel
theorem dX12_done_1 : decode cX12_done 1 = .ok (.iconst 0, 1) := by decide +kernel
theorem dX12_done_2 : decode cX12_done 2 = .ok (.putfield 321, 3) := by decide +kernel
theorem dX12_done_5 : decode cX12_done 5 = .ok (.iload_n 1, 1) := by decide +kernel
theorem dX12_done_6 : decode cX12_done 6 = .ok (.ireturn, 1) := by decide +kernel
theorem dX12_refuse_0 : decode cX12_refuse 0 = .ok (.aload_n 0, 1) := by decide +kernel
theorem dX12_refuse_1 : decode cX12_refuse 1 = .ok (.iload_n 1, 1) := by decide +kernel
theorem dX12_refuse_2 : decode cX12_refuse 2 = .ok (.putfield 321, 3) := by decide +kernel
theorem dX12_refuse_5 : decode cX12_refuse 5 = .ok (.iconst (-1), 1) := by decide +kernel
theorem dX12_refuse_6 : decode cX12_refuse 6 = .ok (.ireturn, 1) := by decide +kernel
theorem dX12_put_0 : decode cX12_put 0 = .ok (.iload_n 2, 1) := by decide +kernel
theorem dX12_put_1 : decode cX12_put 1 = .ok (.ifCond .eq 39, 3) := by decide +kernel
theorem dX12_put_4 : decode cX12_put 4 = .ok (.iload_n 2, 1) := by decide +kernel
theorem dX12_put_5 : decode cX12_put 5 = .ok (.iconst 2, 1) := by decide +kernel
theorem dX12_put_6 : decode cX12_put 6 = .ok (.if_icmp .ne 11, 3) := by decide +kernel
theorem dX12_put_9 : decode cX12_put 9 = .ok (.aload_n 0, 1) := by decide +kernel
theorem dX12_put_10 : decode cX12_put 10 = .ok (.iload_n 3, 1) := by decide +kernel
theorem dX12_put_11 : decode cX12_put 11 = .ok (.invokevirtual 228, 3) := by decide +kernel
theorem dX12_put_14 : decode cX12_put 14 = .ok (.ifCond .ne 26, 3) := by decide +kernel
theorem dX12_put_17 : decode cX12_put 17 = .ok (.iload_n 2, 1) := by decide +kernel
theorem dX12_put_18 : decode cX12_put 18 = .ok (.iconst 1, 1) := by decide +kernel
theorem dX12_put_19 : decode cX12_put 19 = .ok (.if_icmp .eq 13, 3) := by decide +kernel
theorem dX12_put_22 : decode cX12_put 22 = .ok (.iload_n 2, 1) := by decide +kernel
theorem dX12_put_23 : decode cX12_put 23 = .ok (.iconst 3, 1) := by decide +kernel
theorem dX12_put_24 : decode cX12_put 24 = .ok (.if_icmp .eq 8, 3) := by decide +kernel
theorem dX12_put_27 : decode cX12_put 27 = .ok (.iload_n 2, 1) := by decide +kernel
theorem dX12_put_28 : decode cX12_put 28 = .ok (.iconst 4, 1) := by decide +kernel
theorem dX12_put_29 : decode cX12_put 29 = .ok (.if_icmp .ne 15, 3) := by decide +kernel
theorem dX12_put_32 : decode cX12_put 32 = .ok (.aload_n 0, 1) := by decide +kernel
theorem dX12_put_33 : decode cX12_put 33 = .ok (.iload_n 3, 1) := by decide +kernel
theorem dX12_put_34 : decode cX12_put 34 = .ok (.invokevirtual 214, 3) := by decide +kernel
theorem dX12_put_37 : decode cX12_put 37 = .ok (.ifCond .eq 7, 3) := by decide +kernel
theorem dX12_put_40 : decode cX12_put 40 = .ok (.iconst 1, 1) := by decide +kernel
theorem dX12_put_41 : decode cX12_put 41 = .ok (.goto 4, 3) := by decide +kernel
theorem dX12_put_44 : decode cX12_put 44 = .ok (.iconst 0, 1) := by decide +kernel
theorem dX12_put_45 : decode cX12_put 45 = .ok (.istore 4, 2) := by decide +kernel
theorem dX12_put_47 : decode cX12_put 47 = .ok (.iload_n 1, 1) := by decide +kernel
theorem dX12_put_48 : decode cX12_put 48 = .ok (.iconst 0, 1) := by decide +kernel
theorem dX12_put_49 : decode cX12_put 49 = .ok (.iconst 5, 1) := by decide +kernel
theorem dX12_put_50 : decode cX12_put 50 = .ok (.invokestatic 153, 3) := by decide +kernel
theorem dX12_put_53 : decode cX12_put 53 = .ok (.ifCond .eq 8, 3) := by decide +kernel
theorem dX12_put_56 : decode cX12_put 56 = .ok (.iload 4, 2) := by decide +kernel
theorem dX12_put_58 : decode cX12_put 58 = .ok (.ifCond .ne 9, 3) := by decide +kernel
theorem dX12_put_61 : decode cX12_put 61 = .ok (.aload_n 0, 1) := by decide +kernel
theorem dX12_put_62 : decode cX12_put 62 = .ok (.iconst 1, 1) := by decide +kernel
theorem dX12_put_63 : decode cX12_put 63 = .ok (.invokevirtual 324, 3) := by decide +kernel
theorem dX12_put_66 : decode cX12_put 66 = .ok (.ireturn, 1) := by decide +kernel
theorem dX12_put_67 : decode cX12_put 67 = .ok (.aload_n 0, 1) := by decide +kernel
theorem dX12_put_68 : decode cX12_put 68 = .ok (.getfield 136, 3) := by decide +kernel
theorem dX12_put_71 : decode cX12_put 71 = .ok (.iload_n 1, 1) := by decide +kernel
theorem dX12_put_72 : decode cX12_put 72 = .ok (.iload_n 2, 1) := by decide +kernel
theorem dX12_put_73 : decode cX12_put 73 = .ok (.iastore, 1) := by decide +kernel
theorem dX12_put_74 : decode cX12_put 74 = .ok (.aload_n 0, 1) := by decide +kernel
theorem dX12_put_75 : decode cX12_put 75 = .ok (.getfield 139, 3) := by decide +kernel
theorem dX12_put_78 : decode cX12_put 78 = .ok (.iload_n 1, 1) := by decide +kernel
theorem dX12_put_79 : decode cX12_put 79 = .ok (.iload_n 3, 1) := by decide +kernel
theorem dX12_put_80 : decode cX12_put 80 = .ok (.iastore, 1) := by decide +kernel
theorem dX12_put_81 : decode cX12_put 81 = .ok (.aload_n 0, 1) := by decide +kernel
theorem dX12_put_82 : decode cX12_put 82 = .ok (.getfield 142, 3) := by decide +kernel
theorem dX12_put_85 : decode cX12_put 85 = .ok (.iload_n 1, 1) := by decide +kernel
theorem dX12_put_86 : decode cX12_put 86 = .ok (.iload_n 2, 1) := by decide +kernel
theorem dX12_put_87 : decode cX12_put 87 = .ok (.iconst 3, 1) := by decide +kernel
theorem dX12_put_88 : decode cX12_put 88 = .ok (.if_icmp .ne 12, 3) := by decide +kernel
theorem dX12_put_91 : decode cX12_put 91 = .ok (.aload_n 0, 1) := by decide +kernel
theorem dX12_put_92 : decode cX12_put 92 = .ok (.getfield 60, 3) := by decide +kernel
theorem dX12_put_95 : decode cX12_put 95 = .ok (.iload_n 3, 1) := by decide +kernel
theorem dX12_put_96 : decode cX12_put 96 = .ok (.iaload, 1) := by decide +kernel
theorem dX12_put_97 : decode cX12_put 97 = .ok (.goto 16, 3) := by decide +kernel
theorem dX12_put_100 : decode cX12_put 100 = .ok (.iload_n 2, 1) := by decide +kernel
theorem dX12_put_101 : decode cX12_put 101 = .ok (.iconst 4, 1) := by decide +kernel
theorem dX12_put_102 : decode cX12_put 102 = .ok (.if_icmp .ne 10, 3) := by decide +kernel
theorem dX12_put_105 : decode cX12_put 105 = .ok (.aload_n 0, 1) := by decide +kernel
theorem dX12_put_106 : decode cX12_put 106 = .ok (.getfield 164, 3) := by decide +kernel
theorem dX12_put_109 : decode cX12_put 109 = .ok (.goto 4, 3) := by decide +kernel
theorem dX12_put_112 : decode cX12_put 112 = .ok (.iconst 0, 1) := by decide +kernel
theorem dX12_put_113 : decode cX12_put 113 = .ok (.iastore, 1) := by decide +kernel
theorem dX12_put_114 : decode cX12_put 114 = .ok (.iconst 0, 1) := by decide +kernel
theorem dX12_put_115 : decode cX12_put 115 = .ok (.istore 5, 2) := by decide +kernel
theorem dX12_put_117 : decode cX12_put 117 = .ok (.iload 5, 2) := by decide +kernel
theorem dX12_put_119 : decode cX12_put 119 = .ok (.aload_n 0, 1) := by decide +kernel
theorem dX12_put_120 : decode cX12_put 120 = .ok (.getfield 142, 3) := by decide +kernel
theorem dX12_put_123 : decode cX12_put 123 = .ok (.iload_n 1, 1) := by decide +kernel
theorem dX12_put_124 : decode cX12_put 124 = .ok (.iaload, 1) := by decide +kernel
theorem dX12_put_125 : decode cX12_put 125 = .ok (.if_icmp .ge 56, 3) := by decide +kernel
theorem dX12_put_128 : decode cX12_put 128 = .ok (.aload_n 0, 1) := by decide +kernel
theorem dX12_put_129 : decode cX12_put 129 = .ok (.getfield 145, 3) := by decide +kernel
theorem dX12_put_132 : decode cX12_put 132 = .ok (.bipush 20, 2) := by decide +kernel
theorem dX12_put_134 : decode cX12_put 134 = .ok (.iload_n 1, 1) := by decide +kernel
theorem dX12_put_135 : decode cX12_put 135 = .ok (.imul, 1) := by decide +kernel
theorem dX12_put_136 : decode cX12_put 136 = .ok (.iload 5, 2) := by decide +kernel
theorem dX12_put_138 : decode cX12_put 138 = .ok (.iadd, 1) := by decide +kernel
theorem dX12_put_139 : decode cX12_put 139 = .ok (.iload_n 2, 1) := by decide +kernel
theorem dX12_put_140 : decode cX12_put 140 = .ok (.iconst 3, 1) := by decide +kernel
theorem dX12_put_141 : decode cX12_put 141 = .ok (.if_icmp .ne 18, 3) := by decide +kernel
theorem dX12_put_144 : decode cX12_put 144 = .ok (.aload_n 0, 1) := by decide +kernel
theorem dX12_put_145 : decode cX12_put 145 = .ok (.getfield 72, 3) := by decide +kernel
theorem dX12_put_148 : decode cX12_put 148 = .ok (.bipush 20, 2) := by decide +kernel
theorem dX12_put_150 : decode cX12_put 150 = .ok (.iload_n 3, 1) := by decide +kernel
theorem dX12_put_151 : decode cX12_put 151 = .ok (.imul, 1) := by decide +kernel
theorem dX12_put_152 : decode cX12_put 152 = .ok (.iload 5, 2) := by decide +kernel
theorem dX12_put_154 : decode cX12_put 154 = .ok (.iadd, 1) := by decide +kernel
theorem dX12_put_155 : decode cX12_put 155 = .ok (.laload, 1) := by decide +kernel
theorem dX12_put_156 : decode cX12_put 156 = .ok (.goto 18, 3) := by decide +kernel
theorem dX12_put_159 : decode cX12_put 159 = .ok (.aload_n 0, 1) := by decide +kernel
theorem dX12_put_160 : decode cX12_put 160 = .ok (.iload 5, 2) := by decide +kernel
theorem dX12_put_162 : decode cX12_put 162 = .ok (.iload_n 3, 1) := by decide +kernel
theorem dX12_put_163 : decode cX12_put 163 = .ok (.invokevirtual 303, 3) := by decide +kernel
theorem dX12_put_166 : decode cX12_put 166 = .ok (.ifCond .eq 7, 3) := by decide +kernel
theorem dX12_put_169 : decode cX12_put 169 = .ok (.lconst 1, 1) := by decide +kernel
theorem dX12_put_170 : decode cX12_put 170 = .ok (.goto 4, 3) := by decide +kernel
theorem dX12_put_173 : decode cX12_put 173 = .ok (.lconst 0, 1) := by decide +kernel
theorem dX12_put_174 : decode cX12_put 174 = .ok (.lastore, 1) := by decide +kernel
theorem dX12_put_175 : decode cX12_put 175 = .ok (.iinc 5 1, 3) := by decide +kernel
theorem dX12_put_178 : decode cX12_put 178 = .ok (.goto (-61), 3) := by decide +kernel
theorem dX12_put_181 : decode cX12_put 181 = .ok (.aload_n 0, 1) := by decide +kernel
theorem dX12_put_182 : decode cX12_put 182 = .ok (.iconst 1, 1) := by decide +kernel
theorem dX12_put_183 : decode cX12_put 183 = .ok (.invokevirtual 327, 3) := by decide +kernel
theorem dX12_put_186 : decode cX12_put 186 = .ok (.ireturn, 1) := by decide +kernel
theorem dX12_isUnder_0 : decode cX12_isUnder 0 = .ok (.iload_n 1, 1) := by decide +kernel
theorem dX12_isUnder_1 : decode cX12_isUnder 1 = .ok (.ifCond .eq 18, 3) := by decide +kernel
theorem dX12_isUnder_4 : decode cX12_isUnder 4 = .ok (.iload_n 0, 1) := by decide +kernel
theorem dX12_isUnder_5 : decode cX12_isUnder 5 = .ok (.iload_n 1, 1) := by decide +kernel
theorem dX12_isUnder_6 : decode cX12_isUnder 6 = .ok (.if_icmp .eq 13, 3) := by decide +kernel
theorem dX12_isUnder_9 : decode cX12_isUnder 9 = .ok (.iload_n 0, 1) := by decide +kernel
theorem dX12_isUnder_10 : decode cX12_isUnder 10 = .ok (.iconst 2, 1) := by decide +kernel
theorem dX12_isUnder_11 : decode cX12_isUnder 11 = .ok (.if_icmp .ne 12, 3) := by decide +kernel
theorem dX12_isUnder_14 : decode cX12_isUnder 14 = .ok (.iload_n 1, 1) := by decide +kernel
theorem dX12_isUnder_15 : decode cX12_isUnder 15 = .ok (.iconst 1, 1) := by decide +kernel
theorem dX12_isUnder_16 : decode cX12_isUnder 16 = .ok (.if_icmp .ne 7, 3) := by decide +kernel
theorem dX12_isUnder_19 : decode cX12_isUnder 19 = .ok (.iconst 1, 1) := by decide +kernel
theorem dX12_isUnder_20 : decode cX12_isUnder 20 = .ok (.goto 4, 3) := by decide +kernel
theorem dX12_isUnder_23 : decode cX12_isUnder 23 = .ok (.iconst 0, 1) := by decide +kernel
theorem dX12_isUnder_24 : decode cX12_isUnder 24 = .ok (.ireturn, 1) := by decide +kernel
theorem dX12_asThing_0 : decode cX12_asThing 0 = .ok (.iload_n 2, 1) := by decide +kernel
theorem dX12_asThing_1 : decode cX12_asThing 1 = .ok (.iconst 5, 1) := by decide +kernel
theorem dX12_asThing_2 : decode cX12_asThing 2 = .ok (.irem, 1) := by decide +kernel
theorem dX12_asThing_3 : decode cX12_asThing 3 = .ok (.istore_n 3, 1) := by decide +kernel
theorem dX12_asThing_4 : decode cX12_asThing 4 = .ok (.iload_n 3, 1) := by decide +kernel
theorem dX12_asThing_5 : decode cX12_asThing 5 = .ok (.ifCond .ge 9, 3) := by decide +kernel
theorem dX12_asThing_8 : decode cX12_asThing 8 = .ok (.iload_n 3, 1) := by decide +kernel
theorem dX12_asThing_9 : decode cX12_asThing 9 = .ok (.iconst 5, 1) := by decide +kernel
theorem dX12_asThing_10 : decode cX12_asThing 10 = .ok (.iadd, 1) := by decide +kernel
theorem dX12_asThing_11 : decode cX12_asThing 11 = .ok (.goto 4, 3) := by decide +kernel
theorem dX12_asThing_14 : decode cX12_asThing 14 = .ok (.iload_n 3, 1) := by decide +kernel
theorem dX12_asThing_15 : decode cX12_asThing 15 = .ok (.istore_n 3, 1) := by decide +kernel
theorem dX12_asThing_16 : decode cX12_asThing 16 = .ok (.aload_n 0, 1) := by decide +kernel
theorem dX12_asThing_17 : decode cX12_asThing 17 = .ok (.getfield 136, 3) := by decide +kernel
theorem dX12_asThing_20 : decode cX12_asThing 20 = .ok (.iload_n 1, 1) := by decide +kernel
theorem dX12_asThing_21 : decode cX12_asThing 21 = .ok (.iaload, 1) := by decide +kernel
theorem dX12_asThing_22 : decode cX12_asThing 22 = .ok (.istore 4, 2) := by decide +kernel
theorem dX12_asThing_24 : decode cX12_asThing 24 = .ok (.iload 4, 2) := by decide +kernel
theorem dX12_asThing_26 : decode cX12_asThing 26 = .ok (.ifCond .ne 10, 3) := by decide +kernel
theorem dX12_asThing_29 : decode cX12_asThing 29 = .ok (.aload_n 0, 1) := by decide +kernel
theorem dX12_asThing_30 : decode cX12_asThing 30 = .ok (.bipush 10, 2) := by decide +kernel
theorem dX12_asThing_32 : decode cX12_asThing 32 = .ok (.invokevirtual 324, 3) := by decide +kernel
theorem dX12_asThing_35 : decode cX12_asThing 35 = .ok (.ireturn, 1) := by decide +kernel
theorem dX12_asThing_36 : decode cX12_asThing 36 = .ok (.iload 4, 2) := by decide +kernel
theorem dX12_asThing_38 : decode cX12_asThing 38 = .ok (.iconst 1, 1) := by decide +kernel
theorem dX12_asThing_39 : decode cX12_asThing 39 = .ok (.if_icmp .ne 21, 3) := by decide +kernel
theorem dX12_asThing_42 : decode cX12_asThing 42 = .ok (.aload_n 0, 1) := by decide +kernel
theorem dX12_asThing_43 : decode cX12_asThing 43 = .ok (.getfield 32, 3) := by decide +kernel
theorem dX12_asThing_46 : decode cX12_asThing 46 = .ok (.aload_n 0, 1) := by decide +kernel
theorem dX12_asThing_47 : decode cX12_asThing 47 = .ok (.getfield 139, 3) := by decide +kernel
theorem dX12_asThing_50 : decode cX12_asThing 50 = .ok (.iload_n 1, 1) := by decide +kernel
theorem dX12_asThing_51 : decode cX12_asThing 51 = .ok (.iaload, 1) := by decide +kernel
theorem dX12_asThing_52 : decode cX12_asThing 52 = .ok (.iaload, 1) := by decide +kernel
theorem dX12_asThing_53 : decode cX12_asThing 53 = .ok (.iload_n 3, 1) := by decide +kernel
theorem dX12_asThing_54 : decode cX12_asThing 54 = .ok (.invokestatic 330, 3) := by decide +kernel
theorem dX12_asThing_57 : decode cX12_asThing 57 = .ok (.ifCond .ne 10, 3) := by decide +kernel
theorem dX12_asThing_60 : decode cX12_asThing 60 = .ok (.aload_n 0, 1) := by decide +kernel
theorem dX12_asThing_61 : decode cX12_asThing 61 = .ok (.bipush 11, 2) := by decide +kernel
theorem dX12_asThing_63 : decode cX12_asThing 63 = .ok (.invokevirtual 324, 3) := by decide +kernel
theorem dX12_asThing_66 : decode cX12_asThing 66 = .ok (.ireturn, 1) := by decide +kernel
theorem dX12_asThing_67 : decode cX12_asThing 67 = .ok (.aload_n 0, 1) := by decide +kernel
theorem dX12_asThing_68 : decode cX12_asThing 68 = .ok (.aload_n 0, 1) := by decide +kernel
theorem dX12_asThing_69 : decode cX12_asThing 69 = .ok (.getfield 35, 3) := by decide +kernel
theorem dX12_asThing_72 : decode cX12_asThing 72 = .ok (.aload_n 0, 1) := by decide +kernel
theorem dX12_asThing_73 : decode cX12_asThing 73 = .ok (.getfield 139, 3) := by decide +kernel
theorem dX12_asThing_76 : decode cX12_asThing 76 = .ok (.iload_n 1, 1) := by decide +kernel
theorem dX12_asThing_77 : decode cX12_asThing 77 = .ok (.iaload, 1) := by decide +kernel
theorem dX12_asThing_78 : decode cX12_asThing 78 = .ok (.iaload, 1) := by decide +kernel
theorem dX12_asThing_79 : decode cX12_asThing 79 = .ok (.invokevirtual 327, 3) := by decide +kernel
theorem dX12_asThing_82 : decode cX12_asThing 82 = .ok (.ireturn, 1) := by decide +kernel
theorem dX12_asLetter_0 : decode cX12_asLetter 0 = .ok (.aload_n 0, 1) := by decide +kernel
theorem dX12_asLetter_1 : decode cX12_asLetter 1 = .ok (.getfield 136, 3) := by decide +kernel
theorem dX12_asLetter_4 : decode cX12_asLetter 4 = .ok (.iload_n 1, 1) := by decide +kernel
theorem dX12_asLetter_5 : decode cX12_asLetter 5 = .ok (.iaload, 1) := by decide +kernel
theorem dX12_asLetter_6 : decode cX12_asLetter 6 = .ok (.istore_n 3, 1) := by decide +kernel
theorem dX12_asLetter_7 : decode cX12_asLetter 7 = .ok (.iload_n 3, 1) := by decide +kernel
theorem dX12_asLetter_8 : decode cX12_asLetter 8 = .ok (.ifCond .ne 10, 3) := by decide +kernel
theorem dX12_asLetter_11 : decode cX12_asLetter 11 = .ok (.aload_n 0, 1) := by decide +kernel
theorem dX12_asLetter_12 : decode cX12_asLetter 12 = .ok (.bipush 10, 2) := by decide +kernel
theorem dX12_asLetter_14 : decode cX12_asLetter 14 = .ok (.invokevirtual 324, 3) := by decide +kernel
theorem dX12_asLetter_17 : decode cX12_asLetter 17 = .ok (.ireturn, 1) := by decide +kernel
theorem dX12_asLetter_18 : decode cX12_asLetter 18 = .ok (.iload_n 3, 1) := by decide +kernel
theorem dX12_asLetter_19 : decode cX12_asLetter 19 = .ok (.iconst 2, 1) := by decide +kernel
theorem dX12_asLetter_20 : decode cX12_asLetter 20 = .ok (.if_icmp .ne 37, 3) := by decide +kernel
theorem dX12_asLetter_23 : decode cX12_asLetter 23 = .ok (.aload_n 0, 1) := by decide +kernel
theorem dX12_asLetter_24 : decode cX12_asLetter 24 = .ok (.getfield 100, 3) := by decide +kernel
theorem dX12_asLetter_27 : decode cX12_asLetter 27 = .ok (.aload_n 0, 1) := by decide +kernel
theorem dX12_asLetter_28 : decode cX12_asLetter 28 = .ok (.getfield 139, 3) := by decide +kernel
theorem dX12_asLetter_31 : decode cX12_asLetter 31 = .ok (.iload_n 1, 1) := by decide +kernel
theorem dX12_asLetter_32 : decode cX12_asLetter 32 = .ok (.iaload, 1) := by decide +kernel
theorem dX12_asLetter_33 : decode cX12_asLetter 33 = .ok (.iaload, 1) := by decide +kernel
theorem dX12_asLetter_34 : decode cX12_asLetter 34 = .ok (.iconst 4, 1) := by decide +kernel
theorem dX12_asLetter_35 : decode cX12_asLetter 35 = .ok (.if_icmp .ge 7, 3) := by decide +kernel
theorem dX12_asLetter_38 : decode cX12_asLetter 38 = .ok (.iconst 1, 1) := by decide +kernel
theorem dX12_asLetter_39 : decode cX12_asLetter 39 = .ok (.goto 4, 3) := by decide +kernel
theorem dX12_asLetter_42 : decode cX12_asLetter 42 = .ok (.iconst 0, 1) := by decide +kernel
theorem dX12_asLetter_43 : decode cX12_asLetter 43 = .ok (.iload_n 2, 1) := by decide +kernel
theorem dX12_asLetter_44 : decode cX12_asLetter 44 = .ok (.iconst 2, 1) := by decide +kernel
theorem dX12_asLetter_45 : decode cX12_asLetter 45 = .ok (.irem, 1) := by decide +kernel
theorem dX12_asLetter_46 : decode cX12_asLetter 46 = .ok (.ifCond .ne 7, 3) := by decide +kernel
theorem dX12_asLetter_49 : decode cX12_asLetter 49 = .ok (.iconst 1, 1) := by decide +kernel
theorem dX12_asLetter_50 : decode cX12_asLetter 50 = .ok (.goto 4, 3) := by decide +kernel
theorem dX12_asLetter_53 : decode cX12_asLetter 53 = .ok (.iconst 0, 1) := by decide +kernel
theorem dX12_asLetter_54 : decode cX12_asLetter 54 = .ok (.if_icmp .eq 10, 3) := by decide +kernel
theorem dX12_asLetter_57 : decode cX12_asLetter 57 = .ok (.aload_n 0, 1) := by decide +kernel
theorem dX12_asLetter_58 : decode cX12_asLetter 58 = .ok (.bipush 11, 2) := by decide +kernel
theorem dX12_asLetter_60 : decode cX12_asLetter 60 = .ok (.invokevirtual 324, 3) := by decide +kernel
theorem dX12_asLetter_63 : decode cX12_asLetter 63 = .ok (.ireturn, 1) := by decide +kernel
theorem dX12_asLetter_64 : decode cX12_asLetter 64 = .ok (.aload_n 0, 1) := by decide +kernel
theorem dX12_asLetter_65 : decode cX12_asLetter 65 = .ok (.aload_n 0, 1) := by decide +kernel
theorem dX12_asLetter_66 : decode cX12_asLetter 66 = .ok (.getfield 109, 3) := by decide +kernel
theorem dX12_asLetter_69 : decode cX12_asLetter 69 = .ok (.aload_n 0, 1) := by decide +kernel
theorem dX12_asLetter_70 : decode cX12_asLetter 70 = .ok (.getfield 139, 3) := by decide +kernel
theorem dX12_asLetter_73 : decode cX12_asLetter 73 = .ok (.iload_n 1, 1) := by decide +kernel
theorem dX12_asLetter_74 : decode cX12_asLetter 74 = .ok (.iaload, 1) := by decide +kernel
theorem dX12_asLetter_75 : decode cX12_asLetter 75 = .ok (.iaload, 1) := by decide +kernel
theorem dX12_asLetter_76 : decode cX12_asLetter 76 = .ok (.invokevirtual 327, 3) := by decide +kernel
theorem dX12_asLetter_79 : decode cX12_asLetter 79 = .ok (.ireturn, 1) := by decide +kernel
theorem dX12_asRow_0 : decode cX12_asRow 0 = .ok (.aload_n 0, 1) := by decide +kernel
theorem dX12_asRow_1 : decode cX12_asRow 1 = .ok (.getfield 136, 3) := by decide +kernel
theorem dX12_asRow_4 : decode cX12_asRow 4 = .ok (.iload_n 1, 1) := by decide +kernel
theorem dX12_asRow_5 : decode cX12_asRow 5 = .ok (.iaload, 1) := by decide +kernel
theorem dX12_asRow_6 : decode cX12_asRow 6 = .ok (.ifCond .ne 10, 3) := by decide +kernel
theorem dX12_asRow_9 : decode cX12_asRow 9 = .ok (.aload_n 0, 1) := by decide +kernel
theorem dX12_asRow_10 : decode cX12_asRow 10 = .ok (.bipush 10, 2) := by decide +kernel
theorem dX12_asRow_12 : decode cX12_asRow 12 = .ok (.invokevirtual 324, 3) := by decide +kernel
theorem dX12_asRow_15 : decode cX12_asRow 15 = .ok (.ireturn, 1) := by decide +kernel
theorem dX12_asRow_16 : decode cX12_asRow 16 = .ok (.aload_n 0, 1) := by decide +kernel
theorem dX12_asRow_17 : decode cX12_asRow 17 = .ok (.getfield 136, 3) := by decide +kernel
theorem dX12_asRow_20 : decode cX12_asRow 20 = .ok (.iload_n 1, 1) := by decide +kernel
theorem dX12_asRow_21 : decode cX12_asRow 21 = .ok (.iaload, 1) := by decide +kernel
theorem dX12_asRow_22 : decode cX12_asRow 22 = .ok (.iload_n 2, 1) := by decide +kernel
theorem dX12_asRow_23 : decode cX12_asRow 23 = .ok (.if_icmp .eq 10, 3) := by decide +kernel
theorem dX12_asRow_26 : decode cX12_asRow 26 = .ok (.aload_n 0, 1) := by decide +kernel
theorem dX12_asRow_27 : decode cX12_asRow 27 = .ok (.bipush 11, 2) := by decide +kernel
theorem dX12_asRow_29 : decode cX12_asRow 29 = .ok (.invokevirtual 324, 3) := by decide +kernel
theorem dX12_asRow_32 : decode cX12_asRow 32 = .ok (.ireturn, 1) := by decide +kernel
theorem dX12_asRow_33 : decode cX12_asRow 33 = .ok (.iload_n 3, 1) := by decide +kernel
theorem dX12_asRow_34 : decode cX12_asRow 34 = .ok (.iconst 0, 1) := by decide +kernel
theorem dX12_asRow_35 : decode cX12_asRow 35 = .ok (.aload_n 0, 1) := by decide +kernel
theorem dX12_asRow_36 : decode cX12_asRow 36 = .ok (.getfield 142, 3) := by decide +kernel
theorem dX12_asRow_39 : decode cX12_asRow 39 = .ok (.iload_n 1, 1) := by decide +kernel
theorem dX12_asRow_40 : decode cX12_asRow 40 = .ok (.iaload, 1) := by decide +kernel
theorem dX12_asRow_41 : decode cX12_asRow 41 = .ok (.iconst 1, 1) := by decide +kernel
theorem dX12_asRow_42 : decode cX12_asRow 42 = .ok (.isub, 1) := by decide +kernel
theorem dX12_asRow_43 : decode cX12_asRow 43 = .ok (.invokestatic 153, 3) := by decide +kernel
theorem dX12_asRow_46 : decode cX12_asRow 46 = .ok (.ifCond .ne 10, 3) := by decide +kernel
theorem dX12_asRow_49 : decode cX12_asRow 49 = .ok (.aload_n 0, 1) := by decide +kernel
theorem dX12_asRow_50 : decode cX12_asRow 50 = .ok (.bipush 12, 2) := by decide +kernel
theorem dX12_asRow_52 : decode cX12_asRow 52 = .ok (.invokevirtual 324, 3) := by decide +kernel
theorem dX12_asRow_55 : decode cX12_asRow 55 = .ok (.ireturn, 1) := by decide +kernel
theorem dX12_asRow_56 : decode cX12_asRow 56 = .ok (.aload_n 0, 1) := by decide +kernel
theorem dX12_asRow_57 : decode cX12_asRow 57 = .ok (.aload_n 0, 1) := by decide +kernel
theorem dX12_asRow_58 : decode cX12_asRow 58 = .ok (.getfield 145, 3) := by decide +kernel
theorem dX12_asRow_61 : decode cX12_asRow 61 = .ok (.bipush 20, 2) := by decide +kernel
theorem dX12_asRow_63 : decode cX12_asRow 63 = .ok (.iload_n 1, 1) := by decide +kernel
theorem dX12_asRow_64 : decode cX12_asRow 64 = .ok (.imul, 1) := by decide +kernel
theorem dX12_asRow_65 : decode cX12_asRow 65 = .ok (.iload_n 3, 1) := by decide +kernel
theorem dX12_asRow_66 : decode cX12_asRow 66 = .ok (.iadd, 1) := by decide +kernel
theorem dX12_asRow_67 : decode cX12_asRow 67 = .ok (.laload, 1) := by decide +kernel
theorem dX12_asRow_68 : decode cX12_asRow 68 = .ok (.l2i, 1) := by decide +kernel
theorem dX12_asRow_69 : decode cX12_asRow 69 = .ok (.invokevirtual 327, 3) := by decide +kernel
theorem dX12_asRow_72 : decode cX12_asRow 72 = .ok (.ireturn, 1) := by decide +kernel
theorem dX12_copied_0 : decode cX12_copied 0 = .ok (.aload_n 0, 1) := by decide +kernel
theorem dX12_copied_1 : decode cX12_copied 1 = .ok (.getfield 136, 3) := by decide +kernel
theorem dX12_copied_4 : decode cX12_copied 4 = .ok (.iload_n 1, 1) := by decide +kernel
theorem dX12_copied_5 : decode cX12_copied 5 = .ok (.iaload, 1) := by decide +kernel
theorem dX12_copied_6 : decode cX12_copied 6 = .ok (.ifCond .ne 10, 3) := by decide +kernel
theorem dX12_copied_9 : decode cX12_copied 9 = .ok (.aload_n 0, 1) := by decide +kernel
theorem dX12_copied_10 : decode cX12_copied 10 = .ok (.bipush 10, 2) := by decide +kernel
theorem dX12_copied_12 : decode cX12_copied 12 = .ok (.invokevirtual 324, 3) := by decide +kernel
theorem dX12_copied_15 : decode cX12_copied 15 = .ok (.ireturn, 1) := by decide +kernel
theorem dX12_copied_16 : decode cX12_copied 16 = .ok (.aload_n 0, 1) := by decide +kernel
theorem dX12_copied_17 : decode cX12_copied 17 = .ok (.getfield 136, 3) := by decide +kernel
theorem dX12_copied_20 : decode cX12_copied 20 = .ok (.iload_n 1, 1) := by decide +kernel
theorem dX12_copied_21 : decode cX12_copied 21 = .ok (.iaload, 1) := by decide +kernel
theorem dX12_copied_22 : decode cX12_copied 22 = .ok (.iconst 3, 1) := by decide +kernel
theorem dX12_copied_23 : decode cX12_copied 23 = .ok (.if_icmp .eq 10, 3) := by decide +kernel
theorem dX12_copied_26 : decode cX12_copied 26 = .ok (.aload_n 0, 1) := by decide +kernel
theorem dX12_copied_27 : decode cX12_copied 27 = .ok (.bipush 11, 2) := by decide +kernel
theorem dX12_copied_29 : decode cX12_copied 29 = .ok (.invokevirtual 324, 3) := by decide +kernel
theorem dX12_copied_32 : decode cX12_copied 32 = .ok (.ireturn, 1) := by decide +kernel
theorem dX12_copied_33 : decode cX12_copied 33 = .ok (.iload_n 2, 1) := by decide +kernel
theorem dX12_copied_34 : decode cX12_copied 34 = .ok (.ifCond .lt 22, 3) := by decide +kernel
theorem dX12_copied_37 : decode cX12_copied 37 = .ok (.iconst 1, 1) := by decide +kernel
theorem dX12_copied_38 : decode cX12_copied 38 = .ok (.iload_n 2, 1) := by decide +kernel
theorem dX12_copied_39 : decode cX12_copied 39 = .ok (.iadd, 1) := by decide +kernel
theorem dX12_copied_40 : decode cX12_copied 40 = .ok (.aload_n 0, 1) := by decide +kernel
theorem dX12_copied_41 : decode cX12_copied 41 = .ok (.getfield 142, 3) := by decide +kernel
theorem dX12_copied_44 : decode cX12_copied 44 = .ok (.iload_n 1, 1) := by decide +kernel
theorem dX12_copied_45 : decode cX12_copied 45 = .ok (.iaload, 1) := by decide +kernel
theorem dX12_copied_46 : decode cX12_copied 46 = .ok (.if_icmp .gt 10, 3) := by decide +kernel
theorem dX12_copied_49 : decode cX12_copied 49 = .ok (.iconst 2, 1) := by decide +kernel
theorem dX12_copied_50 : decode cX12_copied 50 = .ok (.iload_n 2, 1) := by decide +kernel
theorem dX12_copied_51 : decode cX12_copied 51 = .ok (.imul, 1) := by decide +kernel
theorem dX12_copied_52 : decode cX12_copied 52 = .ok (.iconst 5, 1) := by decide +kernel
theorem dX12_copied_53 : decode cX12_copied 53 = .ok (.if_icmp .le 10, 3) := by decide +kernel
theorem dX12_copied_56 : decode cX12_copied 56 = .ok (.aload_n 0, 1) := by decide +kernel
theorem dX12_copied_57 : decode cX12_copied 57 = .ok (.bipush 12, 2) := by decide +kernel
theorem dX12_copied_59 : decode cX12_copied 59 = .ok (.invokevirtual 324, 3) := by decide +kernel
theorem dX12_copied_62 : decode cX12_copied 62 = .ok (.ireturn, 1) := by decide +kernel
theorem dX12_copied_63 : decode cX12_copied 63 = .ok (.lconst 0, 1) := by decide +kernel
theorem dX12_copied_64 : decode cX12_copied 64 = .ok (.lstore_n 3, 1) := by decide +kernel
theorem dX12_copied_65 : decode cX12_copied 65 = .ok (.iconst 0, 1) := by decide +kernel
theorem dX12_copied_66 : decode cX12_copied 66 = .ok (.istore 5, 2) := by decide +kernel
theorem dX12_copied_68 : decode cX12_copied 68 = .ok (.iload 5, 2) := by decide +kernel
theorem dX12_copied_70 : decode cX12_copied 70 = .ok (.iload_n 2, 1) := by decide +kernel
theorem dX12_copied_71 : decode cX12_copied 71 = .ok (.if_icmp .ge 26, 3) := by decide +kernel
theorem dX12_copied_74 : decode cX12_copied 74 = .ok (.lload_n 3, 1) := by decide +kernel
theorem dX12_copied_75 : decode cX12_copied 75 = .ok (.aload_n 0, 1) := by decide +kernel
theorem dX12_copied_76 : decode cX12_copied 76 = .ok (.getfield 145, 3) := by decide +kernel
theorem dX12_copied_79 : decode cX12_copied 79 = .ok (.bipush 20, 2) := by decide +kernel
theorem dX12_copied_81 : decode cX12_copied 81 = .ok (.iload_n 1, 1) := by decide +kernel
theorem dX12_copied_82 : decode cX12_copied 82 = .ok (.imul, 1) := by decide +kernel
theorem dX12_copied_83 : decode cX12_copied 83 = .ok (.iconst 1, 1) := by decide +kernel
theorem dX12_copied_84 : decode cX12_copied 84 = .ok (.iadd, 1) := by decide +kernel
theorem dX12_copied_85 : decode cX12_copied 85 = .ok (.iload 5, 2) := by decide +kernel
theorem dX12_copied_87 : decode cX12_copied 87 = .ok (.iadd, 1) := by decide +kernel
theorem dX12_copied_88 : decode cX12_copied 88 = .ok (.laload, 1) := by decide +kernel
theorem dX12_copied_89 : decode cX12_copied 89 = .ok (.ladd, 1) := by decide +kernel
theorem dX12_copied_90 : decode cX12_copied 90 = .ok (.lstore_n 3, 1) := by decide +kernel
theorem dX12_copied_91 : decode cX12_copied 91 = .ok (.iinc 5 1, 3) := by decide +kernel
theorem dX12_copied_94 : decode cX12_copied 94 = .ok (.goto (-26), 3) := by decide +kernel
theorem dX12_copied_97 : decode cX12_copied 97 = .ok (.aload_n 0, 1) := by decide +kernel
theorem dX12_copied_98 : decode cX12_copied 98 = .ok (.lload_n 3, 1) := by decide +kernel
theorem dX12_copied_99 : decode cX12_copied 99 = .ok (.l2i, 1) := by decide +kernel
theorem dX12_copied_100 : decode cX12_copied 100 = .ok (.invokevirtual 327, 3) := by decide +kernel
theorem dX12_copied_103 : decode cX12_copied 103 = .ok (.ireturn, 1) := by decide +kernel
theorem dX12_laid_0 : decode cX12_laid 0 = .ok (.aload_n 0, 1) := by decide +kernel
theorem dX12_laid_1 : decode cX12_laid 1 = .ok (.getfield 136, 3) := by decide +kernel
theorem dX12_laid_4 : decode cX12_laid 4 = .ok (.iload_n 1, 1) := by decide +kernel
theorem dX12_laid_5 : decode cX12_laid 5 = .ok (.iaload, 1) := by decide +kernel
theorem dX12_laid_6 : decode cX12_laid 6 = .ok (.istore_n 2, 1) := by decide +kernel
theorem dX12_laid_7 : decode cX12_laid 7 = .ok (.iload_n 2, 1) := by decide +kernel
theorem dX12_laid_8 : decode cX12_laid 8 = .ok (.ifCond .ne 9, 3) := by decide +kernel
theorem dX12_laid_11 : decode cX12_laid 11 = .ok (.aload_n 0, 1) := by decide +kernel
theorem dX12_laid_12 : decode cX12_laid 12 = .ok (.iconst 0, 1) := by decide +kernel
theorem dX12_laid_13 : decode cX12_laid 13 = .ok (.invokevirtual 327, 3) := by decide +kernel
theorem dX12_laid_16 : decode cX12_laid 16 = .ok (.ireturn, 1) := by decide +kernel
theorem dX12_laid_17 : decode cX12_laid 17 = .ok (.iload_n 2, 1) := by decide +kernel
theorem dX12_laid_18 : decode cX12_laid 18 = .ok (.iconst 1, 1) := by decide +kernel
theorem dX12_laid_19 : decode cX12_laid 19 = .ok (.if_icmp .ne 21, 3) := by decide +kernel
theorem dX12_laid_22 : decode cX12_laid 22 = .ok (.aload_n 0, 1) := by decide +kernel
theorem dX12_laid_23 : decode cX12_laid 23 = .ok (.getfield 32, 3) := by decide +kernel
theorem dX12_laid_26 : decode cX12_laid 26 = .ok (.aload_n 0, 1) := by decide +kernel
theorem dX12_laid_27 : decode cX12_laid 27 = .ok (.getfield 139, 3) := by decide +kernel
theorem dX12_laid_30 : decode cX12_laid 30 = .ok (.iload_n 1, 1) := by decide +kernel
theorem dX12_laid_31 : decode cX12_laid 31 = .ok (.iaload, 1) := by decide +kernel
theorem dX12_laid_32 : decode cX12_laid 32 = .ok (.iaload, 1) := by decide +kernel
theorem dX12_laid_33 : decode cX12_laid 33 = .ok (.iconst 1, 1) := by decide +kernel
theorem dX12_laid_34 : decode cX12_laid 34 = .ok (.invokestatic 330, 3) := by decide +kernel
theorem dX12_laid_37 : decode cX12_laid 37 = .ok (.ifCond .ne 10, 3) := by decide +kernel
theorem dX12_laid_40 : decode cX12_laid 40 = .ok (.aload_n 0, 1) := by decide +kernel
theorem dX12_laid_41 : decode cX12_laid 41 = .ok (.bipush 14, 2) := by decide +kernel
theorem dX12_laid_43 : decode cX12_laid 43 = .ok (.invokevirtual 324, 3) := by decide +kernel
theorem dX12_laid_46 : decode cX12_laid 46 = .ok (.ireturn, 1) := by decide +kernel
theorem dX12_laid_47 : decode cX12_laid 47 = .ok (.aload_n 0, 1) := by decide +kernel
theorem dX12_laid_48 : decode cX12_laid 48 = .ok (.aload_n 0, 1) := by decide +kernel
theorem dX12_laid_49 : decode cX12_laid 49 = .ok (.getfield 35, 3) := by decide +kernel
theorem dX12_laid_52 : decode cX12_laid 52 = .ok (.aload_n 0, 1) := by decide +kernel
theorem dX12_laid_53 : decode cX12_laid 53 = .ok (.getfield 139, 3) := by decide +kernel
theorem dX12_laid_56 : decode cX12_laid 56 = .ok (.iload_n 1, 1) := by decide +kernel
theorem dX12_laid_57 : decode cX12_laid 57 = .ok (.iaload, 1) := by decide +kernel
theorem dX12_laid_58 : decode cX12_laid 58 = .ok (.iaload, 1) := by decide +kernel
theorem dX12_laid_59 : decode cX12_laid 59 = .ok (.invokevirtual 327, 3) := by decide +kernel
theorem dX12_laid_62 : decode cX12_laid 62 = .ok (.ireturn, 1) := by decide +kernel
theorem dX12_forge_0 : decode cX12_forge 0 = .ok (.iload_n 1, 1) := by decide +kernel
theorem dX12_forge_1 : decode cX12_forge 1 = .ok (.iconst 0, 1) := by decide +kernel
theorem dX12_forge_2 : decode cX12_forge 2 = .ok (.iconst 5, 1) := by decide +kernel
theorem dX12_forge_3 : decode cX12_forge 3 = .ok (.invokestatic 153, 3) := by decide +kernel
theorem dX12_forge_6 : decode cX12_forge 6 = .ok (.ifCond .eq 24, 3) := by decide +kernel
theorem dX12_forge_9 : decode cX12_forge 9 = .ok (.iload_n 2, 1) := by decide +kernel
theorem dX12_forge_10 : decode cX12_forge 10 = .ok (.iconst 0, 1) := by decide +kernel
theorem dX12_forge_11 : decode cX12_forge 11 = .ok (.bipush 8, 2) := by decide +kernel
theorem dX12_forge_13 : decode cX12_forge 13 = .ok (.invokestatic 153, 3) := by decide +kernel
theorem dX12_forge_16 : decode cX12_forge 16 = .ok (.ifCond .eq 14, 3) := by decide +kernel
theorem dX12_forge_19 : decode cX12_forge 19 = .ok (.iload_n 3, 1) := by decide +kernel
theorem dX12_forge_20 : decode cX12_forge 20 = .ok (.bipush (-100), 2) := by decide +kernel
theorem dX12_forge_22 : decode cX12_forge 22 = .ok (.bipush 100, 2) := by decide +kernel
theorem dX12_forge_24 : decode cX12_forge 24 = .ok (.invokestatic 153, 3) := by decide +kernel
theorem dX12_forge_27 : decode cX12_forge 27 = .ok (.ifCond .ne 9, 3) := by decide +kernel
theorem dX12_forge_30 : decode cX12_forge 30 = .ok (.aload_n 0, 1) := by decide +kernel
theorem dX12_forge_31 : decode cX12_forge 31 = .ok (.iconst 1, 1) := by decide +kernel
theorem dX12_forge_32 : decode cX12_forge 32 = .ok (.invokevirtual 324, 3) := by decide +kernel
theorem dX12_forge_35 : decode cX12_forge 35 = .ok (.ireturn, 1) := by decide +kernel
theorem dX12_forge_36 : decode cX12_forge 36 = .ok (.iload_n 2, 1) := by decide +kernel
theorem dX12_forge_37 : decode cX12_forge 37 = .ok (.tableswitch 132 0 7 #[47, 54, 61, 69, 77, 96, 103, 109], 47) := by decide +kernel
theorem dX12_forge_84 : decode cX12_forge 84 = .ok (.aload_n 0, 1) := by decide +kernel
theorem dX12_forge_85 : decode cX12_forge 85 = .ok (.iload_n 1, 1) := by decide +kernel
theorem dX12_forge_86 : decode cX12_forge 86 = .ok (.iload_n 3, 1) := by decide +kernel
theorem dX12_forge_87 : decode cX12_forge 87 = .ok (.invokevirtual 333, 3) := by decide +kernel
theorem dX12_forge_90 : decode cX12_forge 90 = .ok (.ireturn, 1) := by decide +kernel
theorem dX12_forge_91 : decode cX12_forge 91 = .ok (.aload_n 0, 1) := by decide +kernel
theorem dX12_forge_92 : decode cX12_forge 92 = .ok (.iload_n 1, 1) := by decide +kernel
theorem dX12_forge_93 : decode cX12_forge 93 = .ok (.iload_n 3, 1) := by decide +kernel
theorem dX12_forge_94 : decode cX12_forge 94 = .ok (.invokevirtual 336, 3) := by decide +kernel
theorem dX12_forge_97 : decode cX12_forge 97 = .ok (.ireturn, 1) := by decide +kernel
theorem dX12_forge_98 : decode cX12_forge 98 = .ok (.aload_n 0, 1) := by decide +kernel
theorem dX12_forge_99 : decode cX12_forge 99 = .ok (.iload_n 1, 1) := by decide +kernel
theorem dX12_forge_100 : decode cX12_forge 100 = .ok (.iconst 3, 1) := by decide +kernel
theorem dX12_forge_101 : decode cX12_forge 101 = .ok (.iload_n 3, 1) := by decide +kernel
theorem dX12_forge_102 : decode cX12_forge 102 = .ok (.invokevirtual 339, 3) := by decide +kernel
theorem dX12_forge_105 : decode cX12_forge 105 = .ok (.ireturn, 1) := by decide +kernel
theorem dX12_forge_106 : decode cX12_forge 106 = .ok (.aload_n 0, 1) := by decide +kernel
theorem dX12_forge_107 : decode cX12_forge 107 = .ok (.iload_n 1, 1) := by decide +kernel
theorem dX12_forge_108 : decode cX12_forge 108 = .ok (.iconst 4, 1) := by decide +kernel
theorem dX12_forge_109 : decode cX12_forge 109 = .ok (.iload_n 3, 1) := by decide +kernel
theorem dX12_forge_110 : decode cX12_forge 110 = .ok (.invokevirtual 339, 3) := by decide +kernel
theorem dX12_forge_113 : decode cX12_forge 113 = .ok (.ireturn, 1) := by decide +kernel
theorem dX12_forge_114 : decode cX12_forge 114 = .ok (.iload_n 3, 1) := by decide +kernel
theorem dX12_forge_115 : decode cX12_forge 115 = .ok (.ifCond .ge 12, 3) := by decide +kernel
theorem dX12_forge_118 : decode cX12_forge 118 = .ok (.aload_n 0, 1) := by decide +kernel
theorem dX12_forge_119 : decode cX12_forge 119 = .ok (.bipush 13, 2) := by decide +kernel
theorem dX12_forge_121 : decode cX12_forge 121 = .ok (.invokevirtual 324, 3) := by decide +kernel
theorem dX12_forge_124 : decode cX12_forge 124 = .ok (.goto 8, 3) := by decide +kernel
theorem dX12_forge_127 : decode cX12_forge 127 = .ok (.aload_n 0, 1) := by decide +kernel
theorem dX12_forge_128 : decode cX12_forge 128 = .ok (.iload_n 3, 1) := by decide +kernel
theorem dX12_forge_129 : decode cX12_forge 129 = .ok (.invokevirtual 327, 3) := by decide +kernel
theorem dX12_forge_132 : decode cX12_forge 132 = .ok (.ireturn, 1) := by decide +kernel
theorem dX12_forge_133 : decode cX12_forge 133 = .ok (.aload_n 0, 1) := by decide +kernel
theorem dX12_forge_134 : decode cX12_forge 134 = .ok (.iload_n 1, 1) := by decide +kernel
theorem dX12_forge_135 : decode cX12_forge 135 = .ok (.iload_n 3, 1) := by decide +kernel
theorem dX12_forge_136 : decode cX12_forge 136 = .ok (.invokevirtual 343, 3) := by decide +kernel
theorem dX12_forge_139 : decode cX12_forge 139 = .ok (.ireturn, 1) := by decide +kernel
theorem dX12_forge_140 : decode cX12_forge 140 = .ok (.aload_n 0, 1) := by decide +kernel
theorem dX12_forge_141 : decode cX12_forge 141 = .ok (.iload_n 1, 1) := by decide +kernel
theorem dX12_forge_142 : decode cX12_forge 142 = .ok (.invokevirtual 346, 3) := by decide +kernel
theorem dX12_forge_145 : decode cX12_forge 145 = .ok (.ireturn, 1) := by decide +kernel
theorem dX12_forge_146 : decode cX12_forge 146 = .ok (.iload_n 3, 1) := by decide +kernel
theorem dX12_forge_147 : decode cX12_forge 147 = .ok (.ifCond .ne 12, 3) := by decide +kernel
theorem dX12_forge_150 : decode cX12_forge 150 = .ok (.aload_n 0, 1) := by decide +kernel
theorem dX12_forge_151 : decode cX12_forge 151 = .ok (.bipush 15, 2) := by decide +kernel
theorem dX12_forge_153 : decode cX12_forge 153 = .ok (.invokevirtual 324, 3) := by decide +kernel
theorem dX12_forge_156 : decode cX12_forge 156 = .ok (.goto 12, 3) := by decide +kernel
theorem dX12_forge_159 : decode cX12_forge 159 = .ok (.aload_n 0, 1) := by decide +kernel
theorem dX12_forge_160 : decode cX12_forge 160 = .ok (.sipush 1000, 3) := by decide +kernel
theorem dX12_forge_163 : decode cX12_forge 163 = .ok (.iload_n 3, 1) := by decide +kernel
theorem dX12_forge_164 : decode cX12_forge 164 = .ok (.idiv, 1) := by decide +kernel
theorem dX12_forge_165 : decode cX12_forge 165 = .ok (.invokevirtual 327, 3) := by decide +kernel
theorem dX12_forge_168 : decode cX12_forge 168 = .ok (.ireturn, 1) := by decide +kernel
theorem dX12_forge_169 : decode cX12_forge 169 = .ok (.aload_n 0, 1) := by decide +kernel
theorem dX12_forge_170 : decode cX12_forge 170 = .ok (.bipush 10, 2) := by decide +kernel
theorem dX12_forge_172 : decode cX12_forge 172 = .ok (.invokevirtual 324, 3) := by decide +kernel
theorem dX12_forge_175 : decode cX12_forge 175 = .ok (.ireturn, 1) := by decide +kernel
theorem dX12_status_0 : decode cX12_status 0 = .ok (.aload_n 0, 1) := by decide +kernel
theorem dX12_status_1 : decode cX12_status 1 = .ok (.getfield 321, 3) := by decide +kernel
theorem dX12_status_4 : decode cX12_status 4 = .ok (.ireturn, 1) := by decide +kernel
end
section
theorem dX0_init_0 : decode cX0_init 0 = .ok (.aload_n 0, 1) := by decide +kernel
theorem dX0_init_1 : decode cX0_init 1 = .ok (.iconst 2, 1) := by decide +kernel
theorem dX0_init_2 : decode cX0_init 2 = .ok (.iload_n 1, 1) := by decide +kernel
theorem dX0_init_3 : decode cX0_init 3 = .ok (.iload_n 2, 1) := by decide +kernel
theorem dX0_init_4 : decode cX0_init 4 = .ok (.invokespecial 3, 3) := by decide +kernel
theorem dX0_init_7 : decode cX0_init 7 = .ok (.aload_n 0, 1) := by decide +kernel
theorem dX0_init_8 : decode cX0_init 8 = .ok (.iload_n 3, 1) := by decide +kernel
theorem dX0_init_9 : decode cX0_init 9 = .ok (.putfield 9, 3) := by decide +kernel
theorem dX0_init_12 : decode cX0_init 12 = .ok (.return_, 1) := by decide +kernel
theorem dX0_mayBeAsked_0 : decode cX0_mayBeAsked 0 = .ok (.iload_n 1, 1) := by decide +kernel
theorem dX0_mayBeAsked_1 : decode cX0_mayBeAsked 1 = .ok (.ifCond .ne 20, 3) := by decide +kernel
theorem dX0_mayBeAsked_4 : decode cX0_mayBeAsked 4 = .ok (.iload_n 2, 1) := by decide +kernel
theorem dX0_mayBeAsked_5 : decode cX0_mayBeAsked 5 = .ok (.iconst 1, 1) := by decide +kernel
theorem dX0_mayBeAsked_6 : decode cX0_mayBeAsked 6 = .ok (.if_icmp .lt 15, 3) := by decide +kernel
theorem dX0_mayBeAsked_9 : decode cX0_mayBeAsked 9 = .ok (.iload_n 2, 1) := by decide +kernel
theorem dX0_mayBeAsked_10 : decode cX0_mayBeAsked 10 = .ok (.aload_n 0, 1) := by decide +kernel
theorem dX0_mayBeAsked_11 : decode cX0_mayBeAsked 11 = .ok (.getfield 9, 3) := by decide +kernel
theorem dX0_mayBeAsked_14 : decode cX0_mayBeAsked 14 = .ok (.if_icmp .gt 7, 3) := by decide +kernel
theorem dX0_mayBeAsked_17 : decode cX0_mayBeAsked 17 = .ok (.iconst 1, 1) := by decide +kernel
theorem dX0_mayBeAsked_18 : decode cX0_mayBeAsked 18 = .ok (.goto 4, 3) := by decide +kernel
theorem dX0_mayBeAsked_21 : decode cX0_mayBeAsked 21 = .ok (.iconst 0, 1) := by decide +kernel
theorem dX0_mayBeAsked_22 : decode cX0_mayBeAsked 22 = .ok (.ireturn, 1) := by decide +kernel
theorem dX0_fits_0 : decode cX0_fits 0 = .ok (.iload_n 3, 1) := by decide +kernel
theorem dX0_fits_1 : decode cX0_fits 1 = .ok (.istore 4, 2) := by decide +kernel
theorem dX0_fits_3 : decode cX0_fits 3 = .ok (.iconst 0, 1) := by decide +kernel
theorem dX0_fits_4 : decode cX0_fits 4 = .ok (.istore 5, 2) := by decide +kernel
theorem dX0_fits_6 : decode cX0_fits 6 = .ok (.iload 5, 2) := by decide +kernel
theorem dX0_fits_8 : decode cX0_fits 8 = .ok (.aload_n 0, 1) := by decide +kernel
theorem dX0_fits_9 : decode cX0_fits 9 = .ok (.getfield 15, 3) := by decide +kernel
theorem dX0_fits_12 : decode cX0_fits 12 = .ok (.invokevirtual 19, 3) := by decide +kernel
theorem dX0_fits_15 : decode cX0_fits 15 = .ok (.if_icmp .ge 29, 3) := by decide +kernel
theorem dX0_fits_18 : decode cX0_fits 18 = .ok (.iload 4, 2) := by decide +kernel
theorem dX0_fits_20 : decode cX0_fits 20 = .ok (.aload_n 0, 1) := by decide +kernel
theorem dX0_fits_21 : decode cX0_fits 21 = .ok (.getfield 15, 3) := by decide +kernel
theorem dX0_fits_24 : decode cX0_fits 24 = .ok (.iload 5, 2) := by decide +kernel
theorem dX0_fits_26 : decode cX0_fits 26 = .ok (.invokevirtual 25, 3) := by decide +kernel
theorem dX0_fits_29 : decode cX0_fits 29 = .ok (.checkcast 29, 3) := by decide +kernel
theorem dX0_fits_32 : decode cX0_fits 32 = .ok (.getfield 31, 3) := by decide +kernel
theorem dX0_fits_35 : decode cX0_fits 35 = .ok (.iadd, 1) := by decide +kernel
theorem dX0_fits_36 : decode cX0_fits 36 = .ok (.istore 4, 2) := by decide +kernel
theorem dX0_fits_38 : decode cX0_fits 38 = .ok (.iinc 5 1, 3) := by decide +kernel
theorem dX0_fits_41 : decode cX0_fits 41 = .ok (.goto (-35), 3) := by decide +kernel
theorem dX0_fits_44 : decode cX0_fits 44 = .ok (.iload 4, 2) := by decide +kernel
theorem dX0_fits_46 : decode cX0_fits 46 = .ok (.aload_n 0, 1) := by decide +kernel
theorem dX0_fits_47 : decode cX0_fits 47 = .ok (.getfield 9, 3) := by decide +kernel
theorem dX0_fits_50 : decode cX0_fits 50 = .ok (.if_icmp .gt 7, 3) := by decide +kernel
theorem dX0_fits_53 : decode cX0_fits 53 = .ok (.iconst 1, 1) := by decide +kernel
theorem dX0_fits_54 : decode cX0_fits 54 = .ok (.goto 4, 3) := by decide +kernel
theorem dX0_fits_57 : decode cX0_fits 57 = .ok (.iconst 0, 1) := by decide +kernel
theorem dX0_fits_58 : decode cX0_fits 58 = .ok (.ireturn, 1) := by decide +kernel
theorem dX1_init_0 : decode cX1_init 0 = .ok (.aload_n 0, 1) := by decide +kernel
theorem dX1_init_1 : decode cX1_init 1 = .ok (.invokespecial 1, 3) := by decide +kernel
theorem dX1_init_4 : decode cX1_init 4 = .ok (.aload_n 0, 1) := by decide +kernel
theorem dX1_init_5 : decode cX1_init 5 = .ok (.lconst 0, 1) := by decide +kernel
theorem dX1_init_6 : decode cX1_init 6 = .ok (.putfield 7, 3) := by decide +kernel
theorem dX1_init_9 : decode cX1_init 9 = .ok (.aload_n 0, 1) := by decide +kernel
theorem dX1_init_10 : decode cX1_init 10 = .ok (.lconst 0, 1) := by decide +kernel
theorem dX1_init_11 : decode cX1_init 11 = .ok (.putfield 13, 3) := by decide +kernel
theorem dX1_init_14 : decode cX1_init 14 = .ok (.aload_n 0, 1) := by decide +kernel
theorem dX1_init_15 : decode cX1_init 15 = .ok (.iload_n 1, 1) := by decide +kernel
theorem dX1_init_16 : decode cX1_init 16 = .ok (.putfield 16, 3) := by decide +kernel
theorem dX1_init_19 : decode cX1_init 19 = .ok (.aload_n 0, 1) := by decide +kernel
theorem dX1_init_20 : decode cX1_init 20 = .ok (.iload_n 2, 1) := by decide +kernel
theorem dX1_init_21 : decode cX1_init 21 = .ok (.putfield 20, 3) := by decide +kernel
theorem dX1_init_24 : decode cX1_init 24 = .ok (.aload_n 0, 1) := by decide +kernel
theorem dX1_init_25 : decode cX1_init 25 = .ok (.iload_n 3, 1) := by decide +kernel
theorem dX1_init_26 : decode cX1_init 26 = .ok (.putfield 23, 3) := by decide +kernel
theorem dX1_init_29 : decode cX1_init 29 = .ok (.return_, 1) := by decide +kernel
theorem dX2_init_0 : decode cX2_init 0 = .ok (.aload_n 0, 1) := by decide +kernel
theorem dX2_init_1 : decode cX2_init 1 = .ok (.invokespecial 3, 3) := by decide +kernel
theorem dX2_init_4 : decode cX2_init 4 = .ok (.aload_n 0, 1) := by decide +kernel
theorem dX2_init_5 : decode cX2_init 5 = .ok (.iconst 0, 1) := by decide +kernel
theorem dX2_init_6 : decode cX2_init 6 = .ok (.putfield 9, 3) := by decide +kernel
theorem dX2_init_9 : decode cX2_init 9 = .ok (.aload_n 0, 1) := by decide +kernel
theorem dX2_init_10 : decode cX2_init 10 = .ok (.iconst 0, 1) := by decide +kernel
theorem dX2_init_11 : decode cX2_init 11 = .ok (.putfield 15, 3) := by decide +kernel
theorem dX2_init_14 : decode cX2_init 14 = .ok (.aload_n 0, 1) := by decide +kernel
theorem dX2_init_15 : decode cX2_init 15 = .ok (.lconst 0, 1) := by decide +kernel
theorem dX2_init_16 : decode cX2_init 16 = .ok (.putfield 18, 3) := by decide +kernel
theorem dX2_init_19 : decode cX2_init 19 = .ok (.aload_n 0, 1) := by decide +kernel
theorem dX2_init_20 : decode cX2_init 20 = .ok (.iconst 0, 1) := by decide +kernel
theorem dX2_init_21 : decode cX2_init 21 = .ok (.putfield 22, 3) := by decide +kernel
theorem dX2_init_24 : decode cX2_init 24 = .ok (.aload_n 0, 1) := by decide +kernel
theorem dX2_init_25 : decode cX2_init 25 = .ok (.lconst 0, 1) := by decide +kernel
theorem dX2_init_26 : decode cX2_init 26 = .ok (.putfield 25, 3) := by decide +kernel
theorem dX2_init_29 : decode cX2_init 29 = .ok (.aload_n 0, 1) := by decide +kernel
theorem dX2_init_30 : decode cX2_init 30 = .ok (.iconst 0, 1) := by decide +kernel
theorem dX2_init_31 : decode cX2_init 31 = .ok (.putfield 28, 3) := by decide +kernel
theorem dX2_init_34 : decode cX2_init 34 = .ok (.aload_n 0, 1) := by decide +kernel
theorem dX2_init_35 : decode cX2_init 35 = .ok (.iload_n 1, 1) := by decide +kernel
theorem dX2_init_36 : decode cX2_init 36 = .ok (.putfield 31, 3) := by decide +kernel
theorem dX2_init_39 : decode cX2_init 39 = .ok (.aload_n 0, 1) := by decide +kernel
theorem dX2_init_40 : decode cX2_init 40 = .ok (.iload_n 2, 1) := by decide +kernel
theorem dX2_init_41 : decode cX2_init 41 = .ok (.putfield 34, 3) := by decide +kernel
theorem dX2_init_44 : decode cX2_init 44 = .ok (.aload_n 0, 1) := by decide +kernel
theorem dX2_init_45 : decode cX2_init 45 = .ok (.iload_n 3, 1) := by decide +kernel
theorem dX2_init_46 : decode cX2_init 46 = .ok (.putfield 37, 3) := by decide +kernel
theorem dX2_init_49 : decode cX2_init 49 = .ok (.aload_n 0, 1) := by decide +kernel
theorem dX2_init_50 : decode cX2_init 50 = .ok (.iload 4, 2) := by decide +kernel
theorem dX2_init_52 : decode cX2_init 52 = .ok (.putfield 40, 3) := by decide +kernel
theorem dX2_init_55 : decode cX2_init 55 = .ok (.return_, 1) := by decide +kernel
theorem dX2_isToKeeper_0 : decode cX2_isToKeeper 0 = .ok (.aload_n 0, 1) := by decide +kernel
theorem dX2_isToKeeper_1 : decode cX2_isToKeeper 1 = .ok (.getfield 31, 3) := by decide +kernel
theorem dX2_isToKeeper_4 : decode cX2_isToKeeper 4 = .ok (.iconst 3, 1) := by decide +kernel
theorem dX2_isToKeeper_5 : decode cX2_isToKeeper 5 = .ok (.if_icmp .gt 7, 3) := by decide +kernel
theorem dX2_isToKeeper_8 : decode cX2_isToKeeper 8 = .ok (.iconst 1, 1) := by decide +kernel
theorem dX2_isToKeeper_9 : decode cX2_isToKeeper 9 = .ok (.goto 4, 3) := by decide +kernel
theorem dX2_isToKeeper_12 : decode cX2_isToKeeper 12 = .ok (.iconst 0, 1) := by decide +kernel
theorem dX2_isToKeeper_13 : decode cX2_isToKeeper 13 = .ok (.ireturn, 1) := by decide +kernel
theorem dX2_takeMarkOf_0 : decode cX2_takeMarkOf 0 = .ok (.aload_n 0, 1) := by decide +kernel
theorem dX2_takeMarkOf_1 : decode cX2_takeMarkOf 1 = .ok (.aload_n 1, 1) := by decide +kernel
theorem dX2_takeMarkOf_2 : decode cX2_takeMarkOf 2 = .ok (.getfield 22, 3) := by decide +kernel
theorem dX2_takeMarkOf_5 : decode cX2_takeMarkOf 5 = .ok (.putfield 22, 3) := by decide +kernel
theorem dX2_takeMarkOf_8 : decode cX2_takeMarkOf 8 = .ok (.aload_n 0, 1) := by decide +kernel
theorem dX2_takeMarkOf_9 : decode cX2_takeMarkOf 9 = .ok (.aload_n 1, 1) := by decide +kernel
theorem dX2_takeMarkOf_10 : decode cX2_takeMarkOf 10 = .ok (.getfield 25, 3) := by decide +kernel
theorem dX2_takeMarkOf_13 : decode cX2_takeMarkOf 13 = .ok (.putfield 25, 3) := by decide +kernel
theorem dX2_takeMarkOf_16 : decode cX2_takeMarkOf 16 = .ok (.return_, 1) := by decide +kernel
theorem dX2_fill_0 : decode cX2_fill 0 = .ok (.aload_n 0, 1) := by decide +kernel
theorem dX2_fill_1 : decode cX2_fill 1 = .ok (.iload_n 1, 1) := by decide +kernel
theorem dX2_fill_2 : decode cX2_fill 2 = .ok (.putfield 9, 3) := by decide +kernel
theorem dX2_fill_5 : decode cX2_fill 5 = .ok (.aload_n 0, 1) := by decide +kernel
theorem dX2_fill_6 : decode cX2_fill 6 = .ok (.iload_n 2, 1) := by decide +kernel
theorem dX2_fill_7 : decode cX2_fill 7 = .ok (.putfield 15, 3) := by decide +kernel
theorem dX2_fill_10 : decode cX2_fill 10 = .ok (.aload_n 0, 1) := by decide +kernel
theorem dX2_fill_11 : decode cX2_fill 11 = .ok (.lload_n 3, 1) := by decide +kernel
theorem dX2_fill_12 : decode cX2_fill 12 = .ok (.putfield 18, 3) := by decide +kernel
theorem dX2_fill_15 : decode cX2_fill 15 = .ok (.return_, 1) := by decide +kernel
theorem dX3_init_0 : decode cX3_init 0 = .ok (.aload_n 0, 1) := by decide +kernel
theorem dX3_init_1 : decode cX3_init 1 = .ok (.invokespecial 1, 3) := by decide +kernel
theorem dX3_init_4 : decode cX3_init 4 = .ok (.aload_n 0, 1) := by decide +kernel
theorem dX3_init_5 : decode cX3_init 5 = .ok (.iconst 0, 1) := by decide +kernel
theorem dX3_init_6 : decode cX3_init 6 = .ok (.putfield 7, 3) := by decide +kernel
theorem dX3_init_9 : decode cX3_init 9 = .ok (.aload_n 0, 1) := by decide +kernel
theorem dX3_init_10 : decode cX3_init 10 = .ok (.iconst 0, 1) := by decide +kernel
theorem dX3_init_11 : decode cX3_init 11 = .ok (.putfield 13, 3) := by decide +kernel
theorem dX3_init_14 : decode cX3_init 14 = .ok (.aload_n 0, 1) := by decide +kernel
theorem dX3_init_15 : decode cX3_init 15 = .ok (.iconst 0, 1) := by decide +kernel
theorem dX3_init_16 : decode cX3_init 16 = .ok (.putfield 17, 3) := by decide +kernel
theorem dX3_init_19 : decode cX3_init 19 = .ok (.aload_n 0, 1) := by decide +kernel
theorem dX3_init_20 : decode cX3_init 20 = .ok (.iconst 0, 1) := by decide +kernel
theorem dX3_init_21 : decode cX3_init 21 = .ok (.putfield 20, 3) := by decide +kernel
theorem dX3_init_24 : decode cX3_init 24 = .ok (.aload_n 0, 1) := by decide +kernel
theorem dX3_init_25 : decode cX3_init 25 = .ok (.lconst 0, 1) := by decide +kernel
theorem dX3_init_26 : decode cX3_init 26 = .ok (.putfield 23, 3) := by decide +kernel
theorem dX3_init_29 : decode cX3_init 29 = .ok (.aload_n 0, 1) := by decide +kernel
theorem dX3_init_30 : decode cX3_init 30 = .ok (.lconst 0, 1) := by decide +kernel
theorem dX3_init_31 : decode cX3_init 31 = .ok (.putfield 27, 3) := by decide +kernel
theorem dX3_init_34 : decode cX3_init 34 = .ok (.return_, 1) := by decide +kernel
theorem dX3_keep_0 : decode cX3_keep 0 = .ok (.aload_n 0, 1) := by decide +kernel
theorem dX3_keep_1 : decode cX3_keep 1 = .ok (.iconst 1, 1) := by decide +kernel
theorem dX3_keep_2 : decode cX3_keep 2 = .ok (.putfield 13, 3) := by decide +kernel
theorem dX3_keep_5 : decode cX3_keep 5 = .ok (.aload_n 0, 1) := by decide +kernel
theorem dX3_keep_6 : decode cX3_keep 6 = .ok (.aload_n 1, 1) := by decide +kernel
theorem dX3_keep_7 : decode cX3_keep 7 = .ok (.getfield 30, 3) := by decide +kernel
theorem dX3_keep_10 : decode cX3_keep 10 = .ok (.putfield 17, 3) := by decide +kernel
theorem dX3_keep_13 : decode cX3_keep 13 = .ok (.aload_n 0, 1) := by decide +kernel
theorem dX3_keep_14 : decode cX3_keep 14 = .ok (.aload_n 1, 1) := by decide +kernel
theorem dX3_keep_15 : decode cX3_keep 15 = .ok (.getfield 33, 3) := by decide +kernel
theorem dX3_keep_18 : decode cX3_keep 18 = .ok (.putfield 20, 3) := by decide +kernel
theorem dX3_keep_21 : decode cX3_keep 21 = .ok (.aload_n 0, 1) := by decide +kernel
theorem dX3_keep_22 : decode cX3_keep 22 = .ok (.aload_n 1, 1) := by decide +kernel
theorem dX3_keep_23 : decode cX3_keep 23 = .ok (.getfield 34, 3) := by decide +kernel
theorem dX3_keep_26 : decode cX3_keep 26 = .ok (.putfield 23, 3) := by decide +kernel
theorem dX3_keep_29 : decode cX3_keep 29 = .ok (.aload_n 0, 1) := by decide +kernel
theorem dX3_keep_30 : decode cX3_keep 30 = .ok (.lload_n 2, 1) := by decide +kernel
theorem dX3_keep_31 : decode cX3_keep 31 = .ok (.putfield 27, 3) := by decide +kernel
theorem dX3_keep_34 : decode cX3_keep 34 = .ok (.return_, 1) := by decide +kernel
theorem dX3_forget_0 : decode cX3_forget 0 = .ok (.aload_n 0, 1) := by decide +kernel
theorem dX3_forget_1 : decode cX3_forget 1 = .ok (.iconst 0, 1) := by decide +kernel
theorem dX3_forget_2 : decode cX3_forget 2 = .ok (.putfield 13, 3) := by decide +kernel
theorem dX3_forget_5 : decode cX3_forget 5 = .ok (.aload_n 0, 1) := by decide +kernel
theorem dX3_forget_6 : decode cX3_forget 6 = .ok (.iconst 0, 1) := by decide +kernel
theorem dX3_forget_7 : decode cX3_forget 7 = .ok (.putfield 7, 3) := by decide +kernel
theorem dX3_forget_10 : decode cX3_forget 10 = .ok (.return_, 1) := by decide +kernel
theorem dX4_init_0 : decode cX4_init 0 = .ok (.aload_n 0, 1) := by decide +kernel
theorem dX4_init_1 : decode cX4_init 1 = .ok (.invokespecial 3, 3) := by decide +kernel
theorem dX4_init_4 : decode cX4_init 4 = .ok (.aload_n 0, 1) := by decide +kernel
theorem dX4_init_5 : decode cX4_init 5 = .ok (.new 9, 3) := by decide +kernel
theorem dX4_init_8 : decode cX4_init 8 = .ok (.dup, 1) := by decide +kernel
theorem dX4_init_9 : decode cX4_init 9 = .ok (.invokespecial 11, 3) := by decide +kernel
theorem dX4_init_12 : decode cX4_init 12 = .ok (.putfield 12, 3) := by decide +kernel
theorem dX4_init_15 : decode cX4_init 15 = .ok (.aload_n 0, 1) := by decide +kernel
theorem dX4_init_16 : decode cX4_init 16 = .ok (.lconst 0, 1) := by decide +kernel
theorem dX4_init_17 : decode cX4_init 17 = .ok (.putfield 18, 3) := by decide +kernel
theorem dX4_init_20 : decode cX4_init 20 = .ok (.aload_n 0, 1) := by decide +kernel
theorem dX4_init_21 : decode cX4_init 21 = .ok (.iload_n 1, 1) := by decide +kernel
theorem dX4_init_22 : decode cX4_init 22 = .ok (.putfield 22, 3) := by decide +kernel
theorem dX4_init_25 : decode cX4_init 25 = .ok (.aload_n 0, 1) := by decide +kernel
theorem dX4_init_26 : decode cX4_init 26 = .ok (.iload_n 2, 1) := by decide +kernel
theorem dX4_init_27 : decode cX4_init 27 = .ok (.putfield 26, 3) := by decide +kernel
theorem dX4_init_30 : decode cX4_init 30 = .ok (.aload_n 0, 1) := by decide +kernel
theorem dX4_init_31 : decode cX4_init 31 = .ok (.iload_n 3, 1) := by decide +kernel
theorem dX4_init_32 : decode cX4_init 32 = .ok (.putfield 29, 3) := by decide +kernel
theorem dX4_init_35 : decode cX4_init 35 = .ok (.return_, 1) := by decide +kernel
theorem dX4_mayBeAsked_0 : decode cX4_mayBeAsked 0 = .ok (.iload_n 1, 1) := by decide +kernel
theorem dX4_mayBeAsked_1 : decode cX4_mayBeAsked 1 = .ok (.ifCond .ne 11, 3) := by decide +kernel
theorem dX4_mayBeAsked_4 : decode cX4_mayBeAsked 4 = .ok (.iload_n 2, 1) := by decide +kernel
theorem dX4_mayBeAsked_5 : decode cX4_mayBeAsked 5 = .ok (.ifCond .ne 7, 3) := by decide +kernel
theorem dX4_mayBeAsked_8 : decode cX4_mayBeAsked 8 = .ok (.iconst 1, 1) := by decide +kernel
theorem dX4_mayBeAsked_9 : decode cX4_mayBeAsked 9 = .ok (.goto 4, 3) := by decide +kernel
theorem dX4_mayBeAsked_12 : decode cX4_mayBeAsked 12 = .ok (.iconst 0, 1) := by decide +kernel
theorem dX4_mayBeAsked_13 : decode cX4_mayBeAsked 13 = .ok (.ireturn, 1) := by decide +kernel
theorem dX4_fits_0 : decode cX4_fits 0 = .ok (.aload_n 0, 1) := by decide +kernel
theorem dX4_fits_1 : decode cX4_fits 1 = .ok (.getfield 12, 3) := by decide +kernel
theorem dX4_fits_4 : decode cX4_fits 4 = .ok (.invokevirtual 32, 3) := by decide +kernel
theorem dX4_fits_7 : decode cX4_fits 7 = .ok (.ireturn, 1) := by decide +kernel
theorem dX4_isWritten_0 : decode cX4_isWritten 0 = .ok (.iconst 0, 1) := by decide +kernel
theorem dX4_isWritten_1 : decode cX4_isWritten 1 = .ok (.istore_n 1, 1) := by decide +kernel
theorem dX4_isWritten_2 : decode cX4_isWritten 2 = .ok (.iload_n 1, 1) := by decide +kernel
theorem dX4_isWritten_3 : decode cX4_isWritten 3 = .ok (.aload_n 0, 1) := by decide +kernel
theorem dX4_isWritten_4 : decode cX4_isWritten 4 = .ok (.getfield 12, 3) := by decide +kernel
theorem dX4_isWritten_7 : decode cX4_isWritten 7 = .ok (.invokevirtual 36, 3) := by decide +kernel
theorem dX4_isWritten_10 : decode cX4_isWritten 10 = .ok (.if_icmp .ge 28, 3) := by decide +kernel
theorem dX4_isWritten_13 : decode cX4_isWritten 13 = .ok (.aload_n 0, 1) := by decide +kernel
theorem dX4_isWritten_14 : decode cX4_isWritten 14 = .ok (.getfield 12, 3) := by decide +kernel
theorem dX4_isWritten_17 : decode cX4_isWritten 17 = .ok (.iload_n 1, 1) := by decide +kernel
theorem dX4_isWritten_18 : decode cX4_isWritten 18 = .ok (.invokevirtual 40, 3) := by decide +kernel
theorem dX4_isWritten_21 : decode cX4_isWritten 21 = .ok (.checkcast 44, 3) := by decide +kernel
theorem dX4_isWritten_24 : decode cX4_isWritten 24 = .ok (.getfield 46, 3) := by decide +kernel
theorem dX4_isWritten_27 : decode cX4_isWritten 27 = .ok (.ifCond .ne 5, 3) := by decide +kernel
theorem dX4_isWritten_30 : decode cX4_isWritten 30 = .ok (.iconst 1, 1) := by decide +kernel
theorem dX4_isWritten_31 : decode cX4_isWritten 31 = .ok (.ireturn, 1) := by decide +kernel
theorem dX4_isWritten_32 : decode cX4_isWritten 32 = .ok (.iinc 1 1, 3) := by decide +kernel
theorem dX4_isWritten_35 : decode cX4_isWritten 35 = .ok (.goto (-33), 3) := by decide +kernel
theorem dX4_isWritten_38 : decode cX4_isWritten 38 = .ok (.iconst 0, 1) := by decide +kernel
theorem dX4_isWritten_39 : decode cX4_isWritten 39 = .ok (.ireturn, 1) := by decide +kernel
theorem dX4_grantOf_0 : decode cX4_grantOf 0 = .ok (.iconst 0, 1) := by decide +kernel
theorem dX4_grantOf_1 : decode cX4_grantOf 1 = .ok (.istore_n 2, 1) := by decide +kernel
theorem dX4_grantOf_2 : decode cX4_grantOf 2 = .ok (.iload_n 2, 1) := by decide +kernel
theorem dX4_grantOf_3 : decode cX4_grantOf 3 = .ok (.aload_n 0, 1) := by decide +kernel
theorem dX4_grantOf_4 : decode cX4_grantOf 4 = .ok (.getfield 12, 3) := by decide +kernel
theorem dX4_grantOf_7 : decode cX4_grantOf 7 = .ok (.invokevirtual 36, 3) := by decide +kernel
theorem dX4_grantOf_10 : decode cX4_grantOf 10 = .ok (.if_icmp .ge 39, 3) := by decide +kernel
theorem dX4_grantOf_13 : decode cX4_grantOf 13 = .ok (.aload_n 0, 1) := by decide +kernel
theorem dX4_grantOf_14 : decode cX4_grantOf 14 = .ok (.getfield 12, 3) := by decide +kernel
theorem dX4_grantOf_17 : decode cX4_grantOf 17 = .ok (.iload_n 2, 1) := by decide +kernel
theorem dX4_grantOf_18 : decode cX4_grantOf 18 = .ok (.invokevirtual 40, 3) := by decide +kernel
theorem dX4_grantOf_21 : decode cX4_grantOf 21 = .ok (.checkcast 44, 3) := by decide +kernel
theorem dX4_grantOf_24 : decode cX4_grantOf 24 = .ok (.getfield 49, 3) := by decide +kernel
theorem dX4_grantOf_27 : decode cX4_grantOf 27 = .ok (.iload_n 1, 1) := by decide +kernel
theorem dX4_grantOf_28 : decode cX4_grantOf 28 = .ok (.if_icmp .ne 15, 3) := by decide +kernel
theorem dX4_grantOf_31 : decode cX4_grantOf 31 = .ok (.aload_n 0, 1) := by decide +kernel
theorem dX4_grantOf_32 : decode cX4_grantOf 32 = .ok (.getfield 12, 3) := by decide +kernel
theorem dX4_grantOf_35 : decode cX4_grantOf 35 = .ok (.iload_n 2, 1) := by decide +kernel
theorem dX4_grantOf_36 : decode cX4_grantOf 36 = .ok (.invokevirtual 40, 3) := by decide +kernel
theorem dX4_grantOf_39 : decode cX4_grantOf 39 = .ok (.checkcast 44, 3) := by decide +kernel
theorem dX4_grantOf_42 : decode cX4_grantOf 42 = .ok (.areturn, 1) := by decide +kernel
theorem dX4_grantOf_43 : decode cX4_grantOf 43 = .ok (.iinc 2 1, 3) := by decide +kernel
theorem dX4_grantOf_46 : decode cX4_grantOf 46 = .ok (.goto (-44), 3) := by decide +kernel
theorem dX4_grantOf_49 : decode cX4_grantOf 49 = .ok (.aconst_null, 1) := by decide +kernel
theorem dX4_grantOf_50 : decode cX4_grantOf 50 = .ok (.areturn, 1) := by decide +kernel
theorem dX4_grantMeantBy_0 : decode cX4_grantMeantBy 0 = .ok (.aload_n 0, 1) := by decide +kernel
theorem dX4_grantMeantBy_1 : decode cX4_grantMeantBy 1 = .ok (.aload_n 1, 1) := by decide +kernel
theorem dX4_grantMeantBy_2 : decode cX4_grantMeantBy 2 = .ok (.getfield 52, 3) := by decide +kernel
theorem dX4_grantMeantBy_5 : decode cX4_grantMeantBy 5 = .ok (.invokevirtual 55, 3) := by decide +kernel
theorem dX4_grantMeantBy_8 : decode cX4_grantMeantBy 8 = .ok (.astore_n 2, 1) := by decide +kernel
theorem dX4_grantMeantBy_9 : decode cX4_grantMeantBy 9 = .ok (.aload_n 2, 1) := by decide +kernel
theorem dX4_grantMeantBy_10 : decode cX4_grantMeantBy 10 = .ok (.ifnull 15, 3) := by decide +kernel
theorem dX4_grantMeantBy_13 : decode cX4_grantMeantBy 13 = .ok (.aload_n 2, 1) := by decide +kernel
theorem dX4_grantMeantBy_14 : decode cX4_grantMeantBy 14 = .ok (.getfield 59, 3) := by decide +kernel
theorem dX4_grantMeantBy_17 : decode cX4_grantMeantBy 17 = .ok (.aload_n 1, 1) := by decide +kernel
theorem dX4_grantMeantBy_18 : decode cX4_grantMeantBy 18 = .ok (.getfield 62, 3) := by decide +kernel
theorem dX4_grantMeantBy_21 : decode cX4_grantMeantBy 21 = .ok (.lcmp, 1) := by decide +kernel
theorem dX4_grantMeantBy_22 : decode cX4_grantMeantBy 22 = .ok (.ifCond .eq 7, 3) := by decide +kernel
theorem dX4_grantMeantBy_25 : decode cX4_grantMeantBy 25 = .ok (.aconst_null, 1) := by decide +kernel
theorem dX4_grantMeantBy_26 : decode cX4_grantMeantBy 26 = .ok (.goto 4, 3) := by decide +kernel
theorem dX4_grantMeantBy_29 : decode cX4_grantMeantBy 29 = .ok (.aload_n 2, 1) := by decide +kernel
theorem dX4_grantMeantBy_30 : decode cX4_grantMeantBy 30 = .ok (.areturn, 1) := by decide +kernel
theorem dX4_numberAnew_0 : decode cX4_numberAnew 0 = .ok (.aload_n 0, 1) := by decide +kernel
theorem dX4_numberAnew_1 : decode cX4_numberAnew 1 = .ok (.dup, 1) := by decide +kernel
theorem dX4_numberAnew_2 : decode cX4_numberAnew 2 = .ok (.getfield 18, 3) := by decide +kernel
theorem dX4_numberAnew_5 : decode cX4_numberAnew 5 = .ok (.lconst 1, 1) := by decide +kernel
theorem dX4_numberAnew_6 : decode cX4_numberAnew 6 = .ok (.ladd, 1) := by decide +kernel
theorem dX4_numberAnew_7 : decode cX4_numberAnew 7 = .ok (.putfield 18, 3) := by decide +kernel
theorem dX4_numberAnew_10 : decode cX4_numberAnew 10 = .ok (.aload_n 1, 1) := by decide +kernel
theorem dX4_numberAnew_11 : decode cX4_numberAnew 11 = .ok (.aload_n 0, 1) := by decide +kernel
theorem dX4_numberAnew_12 : decode cX4_numberAnew 12 = .ok (.getfield 18, 3) := by decide +kernel
theorem dX4_numberAnew_15 : decode cX4_numberAnew 15 = .ok (.putfield 59, 3) := by decide +kernel
theorem dX4_numberAnew_18 : decode cX4_numberAnew 18 = .ok (.aload_n 1, 1) := by decide +kernel
theorem dX4_numberAnew_19 : decode cX4_numberAnew 19 = .ok (.lload_n 2, 1) := by decide +kernel
theorem dX4_numberAnew_20 : decode cX4_numberAnew 20 = .ok (.aload_n 0, 1) := by decide +kernel
theorem dX4_numberAnew_21 : decode cX4_numberAnew 21 = .ok (.getfield 29, 3) := by decide +kernel
theorem dX4_numberAnew_24 : decode cX4_numberAnew 24 = .ok (.i2l, 1) := by decide +kernel
theorem dX4_numberAnew_25 : decode cX4_numberAnew 25 = .ok (.ladd, 1) := by decide +kernel
theorem dX4_numberAnew_26 : decode cX4_numberAnew 26 = .ok (.putfield 63, 3) := by decide +kernel
theorem dX4_numberAnew_29 : decode cX4_numberAnew 29 = .ok (.return_, 1) := by decide +kernel
theorem dX4_dropEnded_0 : decode cX4_dropEnded 0 = .ok (.aload_n 0, 1) := by decide +kernel
theorem dX4_dropEnded_1 : decode cX4_dropEnded 1 = .ok (.getfield 12, 3) := by decide +kernel
theorem dX4_dropEnded_4 : decode cX4_dropEnded 4 = .ok (.invokevirtual 36, 3) := by decide +kernel
theorem dX4_dropEnded_7 : decode cX4_dropEnded 7 = .ok (.iconst 1, 1) := by decide +kernel
theorem dX4_dropEnded_8 : decode cX4_dropEnded 8 = .ok (.isub, 1) := by decide +kernel
theorem dX4_dropEnded_9 : decode cX4_dropEnded 9 = .ok (.istore_n 3, 1) := by decide +kernel
theorem dX4_dropEnded_10 : decode cX4_dropEnded 10 = .ok (.iload_n 3, 1) := by decide +kernel
theorem dX4_dropEnded_11 : decode cX4_dropEnded 11 = .ok (.ifCond .lt 37, 3) := by decide +kernel
theorem dX4_dropEnded_14 : decode cX4_dropEnded 14 = .ok (.aload_n 0, 1) := by decide +kernel
theorem dX4_dropEnded_15 : decode cX4_dropEnded 15 = .ok (.getfield 12, 3) := by decide +kernel
theorem dX4_dropEnded_18 : decode cX4_dropEnded 18 = .ok (.iload_n 3, 1) := by decide +kernel
theorem dX4_dropEnded_19 : decode cX4_dropEnded 19 = .ok (.invokevirtual 40, 3) := by decide +kernel
theorem dX4_dropEnded_22 : decode cX4_dropEnded 22 = .ok (.checkcast 44, 3) := by decide +kernel
theorem dX4_dropEnded_25 : decode cX4_dropEnded 25 = .ok (.getfield 63, 3) := by decide +kernel
theorem dX4_dropEnded_28 : decode cX4_dropEnded 28 = .ok (.lload_n 1, 1) := by decide +kernel
theorem dX4_dropEnded_29 : decode cX4_dropEnded 29 = .ok (.lcmp, 1) := by decide +kernel
theorem dX4_dropEnded_30 : decode cX4_dropEnded 30 = .ok (.ifCond .gt 12, 3) := by decide +kernel
theorem dX4_dropEnded_33 : decode cX4_dropEnded 33 = .ok (.aload_n 0, 1) := by decide +kernel
theorem dX4_dropEnded_34 : decode cX4_dropEnded 34 = .ok (.getfield 12, 3) := by decide +kernel
theorem dX4_dropEnded_37 : decode cX4_dropEnded 37 = .ok (.iload_n 3, 1) := by decide +kernel
theorem dX4_dropEnded_38 : decode cX4_dropEnded 38 = .ok (.invokevirtual 66, 3) := by decide +kernel
theorem dX4_dropEnded_41 : decode cX4_dropEnded 41 = .ok (.pop, 1) := by decide +kernel
theorem dX4_dropEnded_42 : decode cX4_dropEnded 42 = .ok (.iinc 3 (-1), 3) := by decide +kernel
theorem dX4_dropEnded_45 : decode cX4_dropEnded 45 = .ok (.goto (-35), 3) := by decide +kernel
theorem dX4_dropEnded_48 : decode cX4_dropEnded 48 = .ok (.return_, 1) := by decide +kernel
theorem dX4_dropGrantOf_0 : decode cX4_dropGrantOf 0 = .ok (.aload_n 0, 1) := by decide +kernel
theorem dX4_dropGrantOf_1 : decode cX4_dropGrantOf 1 = .ok (.getfield 12, 3) := by decide +kernel
theorem dX4_dropGrantOf_4 : decode cX4_dropGrantOf 4 = .ok (.invokevirtual 36, 3) := by decide +kernel
theorem dX4_dropGrantOf_7 : decode cX4_dropGrantOf 7 = .ok (.iconst 1, 1) := by decide +kernel
theorem dX4_dropGrantOf_8 : decode cX4_dropGrantOf 8 = .ok (.isub, 1) := by decide +kernel
theorem dX4_dropGrantOf_9 : decode cX4_dropGrantOf 9 = .ok (.istore_n 2, 1) := by decide +kernel
theorem dX4_dropGrantOf_10 : decode cX4_dropGrantOf 10 = .ok (.iload_n 2, 1) := by decide +kernel
theorem dX4_dropGrantOf_11 : decode cX4_dropGrantOf 11 = .ok (.ifCond .lt 36, 3) := by decide +kernel
theorem dX4_dropGrantOf_14 : decode cX4_dropGrantOf 14 = .ok (.aload_n 0, 1) := by decide +kernel
theorem dX4_dropGrantOf_15 : decode cX4_dropGrantOf 15 = .ok (.getfield 12, 3) := by decide +kernel
theorem dX4_dropGrantOf_18 : decode cX4_dropGrantOf 18 = .ok (.iload_n 2, 1) := by decide +kernel
theorem dX4_dropGrantOf_19 : decode cX4_dropGrantOf 19 = .ok (.invokevirtual 40, 3) := by decide +kernel
theorem dX4_dropGrantOf_22 : decode cX4_dropGrantOf 22 = .ok (.checkcast 44, 3) := by decide +kernel
theorem dX4_dropGrantOf_25 : decode cX4_dropGrantOf 25 = .ok (.getfield 49, 3) := by decide +kernel
theorem dX4_dropGrantOf_28 : decode cX4_dropGrantOf 28 = .ok (.iload_n 1, 1) := by decide +kernel
theorem dX4_dropGrantOf_29 : decode cX4_dropGrantOf 29 = .ok (.if_icmp .ne 12, 3) := by decide +kernel
theorem dX4_dropGrantOf_32 : decode cX4_dropGrantOf 32 = .ok (.aload_n 0, 1) := by decide +kernel
theorem dX4_dropGrantOf_33 : decode cX4_dropGrantOf 33 = .ok (.getfield 12, 3) := by decide +kernel
theorem dX4_dropGrantOf_36 : decode cX4_dropGrantOf 36 = .ok (.iload_n 2, 1) := by decide +kernel
theorem dX4_dropGrantOf_37 : decode cX4_dropGrantOf 37 = .ok (.invokevirtual 66, 3) := by decide +kernel
theorem dX4_dropGrantOf_40 : decode cX4_dropGrantOf 40 = .ok (.pop, 1) := by decide +kernel
theorem dX4_dropGrantOf_41 : decode cX4_dropGrantOf 41 = .ok (.iinc 2 (-1), 3) := by decide +kernel
theorem dX4_dropGrantOf_44 : decode cX4_dropGrantOf 44 = .ok (.goto (-34), 3) := by decide +kernel
theorem dX4_dropGrantOf_47 : decode cX4_dropGrantOf 47 = .ok (.return_, 1) := by decide +kernel
theorem dX4_prolongAll_0 : decode cX4_prolongAll 0 = .ok (.iconst 0, 1) := by decide +kernel
theorem dX4_prolongAll_1 : decode cX4_prolongAll 1 = .ok (.istore_n 3, 1) := by decide +kernel
theorem dX4_prolongAll_2 : decode cX4_prolongAll 2 = .ok (.iload_n 3, 1) := by decide +kernel
theorem dX4_prolongAll_3 : decode cX4_prolongAll 3 = .ok (.aload_n 0, 1) := by decide +kernel
theorem dX4_prolongAll_4 : decode cX4_prolongAll 4 = .ok (.getfield 12, 3) := by decide +kernel
theorem dX4_prolongAll_7 : decode cX4_prolongAll 7 = .ok (.invokevirtual 36, 3) := by decide +kernel
theorem dX4_prolongAll_10 : decode cX4_prolongAll 10 = .ok (.if_icmp .ge 30, 3) := by decide +kernel
theorem dX4_prolongAll_13 : decode cX4_prolongAll 13 = .ok (.aload_n 0, 1) := by decide +kernel
theorem dX4_prolongAll_14 : decode cX4_prolongAll 14 = .ok (.getfield 12, 3) := by decide +kernel
theorem dX4_prolongAll_17 : decode cX4_prolongAll 17 = .ok (.iload_n 3, 1) := by decide +kernel
theorem dX4_prolongAll_18 : decode cX4_prolongAll 18 = .ok (.invokevirtual 40, 3) := by decide +kernel
theorem dX4_prolongAll_21 : decode cX4_prolongAll 21 = .ok (.checkcast 44, 3) := by decide +kernel
theorem dX4_prolongAll_24 : decode cX4_prolongAll 24 = .ok (.lload_n 1, 1) := by decide +kernel
theorem dX4_prolongAll_25 : decode cX4_prolongAll 25 = .ok (.aload_n 0, 1) := by decide +kernel
theorem dX4_prolongAll_26 : decode cX4_prolongAll 26 = .ok (.getfield 29, 3) := by decide +kernel
theorem dX4_prolongAll_29 : decode cX4_prolongAll 29 = .ok (.i2l, 1) := by decide +kernel
theorem dX4_prolongAll_30 : decode cX4_prolongAll 30 = .ok (.ladd, 1) := by decide +kernel
theorem dX4_prolongAll_31 : decode cX4_prolongAll 31 = .ok (.putfield 63, 3) := by decide +kernel
theorem dX4_prolongAll_34 : decode cX4_prolongAll 34 = .ok (.iinc 3 1, 3) := by decide +kernel
theorem dX4_prolongAll_37 : decode cX4_prolongAll 37 = .ok (.goto (-35), 3) := by decide +kernel
theorem dX4_prolongAll_40 : decode cX4_prolongAll 40 = .ok (.return_, 1) := by decide +kernel
theorem dX5_init_0 : decode cX5_init 0 = .ok (.aload_n 0, 1) := by decide +kernel
theorem dX5_init_1 : decode cX5_init 1 = .ok (.invokespecial 1, 3) := by decide +kernel
theorem dX5_init_4 : decode cX5_init 4 = .ok (.aload_n 0, 1) := by decide +kernel
theorem dX5_init_5 : decode cX5_init 5 = .ok (.iconst 1, 1) := by decide +kernel
theorem dX5_init_6 : decode cX5_init 6 = .ok (.putfield 7, 3) := by decide +kernel
theorem dX5_init_9 : decode cX5_init 9 = .ok (.aload_n 0, 1) := by decide +kernel
theorem dX5_init_10 : decode cX5_init 10 = .ok (.iload_n 1, 1) := by decide +kernel
theorem dX5_init_11 : decode cX5_init 11 = .ok (.putfield 13, 3) := by decide +kernel
theorem dX5_init_14 : decode cX5_init 14 = .ok (.aload_n 0, 1) := by decide +kernel
theorem dX5_init_15 : decode cX5_init 15 = .ok (.iload_n 2, 1) := by decide +kernel
theorem dX5_init_16 : decode cX5_init 16 = .ok (.putfield 17, 3) := by decide +kernel
theorem dX5_init_19 : decode cX5_init 19 = .ok (.return_, 1) := by decide +kernel
theorem dX5_shows_0 : decode cX5_shows 0 = .ok (.aload_n 0, 1) := by decide +kernel
theorem dX5_shows_1 : decode cX5_shows 1 = .ok (.getfield 13, 3) := by decide +kernel
theorem dX5_shows_4 : decode cX5_shows 4 = .ok (.i2l, 1) := by decide +kernel
theorem dX5_shows_5 : decode cX5_shows 5 = .ok (.iload_n 1, 1) := by decide +kernel
theorem dX5_shows_6 : decode cX5_shows 6 = .ok (.i2l, 1) := by decide +kernel
theorem dX5_shows_7 : decode cX5_shows 7 = .ok (.aload_n 0, 1) := by decide +kernel
theorem dX5_shows_8 : decode cX5_shows 8 = .ok (.getfield 17, 3) := by decide +kernel
theorem dX5_shows_11 : decode cX5_shows 11 = .ok (.i2l, 1) := by decide +kernel
theorem dX5_shows_12 : decode cX5_shows 12 = .ok (.lmul, 1) := by decide +kernel
theorem dX5_shows_13 : decode cX5_shows 13 = .ok (.ldc2_w 20, 3) := by decide +kernel
theorem dX5_shows_16 : decode cX5_shows 16 = .ok (.ldiv, 1) := by decide +kernel
theorem dX5_shows_17 : decode cX5_shows 17 = .ok (.ladd, 1) := by decide +kernel
theorem dX5_shows_18 : decode cX5_shows 18 = .ok (.lreturn, 1) := by decide +kernel
theorem dX6_init_0 : decode cX6_init 0 = .ok (.aload_n 0, 1) := by decide +kernel
theorem dX6_init_1 : decode cX6_init 1 = .ok (.iconst 3, 1) := by decide +kernel
theorem dX6_init_2 : decode cX6_init 2 = .ok (.iload_n 1, 1) := by decide +kernel
theorem dX6_init_3 : decode cX6_init 3 = .ok (.iload_n 2, 1) := by decide +kernel
theorem dX6_init_4 : decode cX6_init 4 = .ok (.invokespecial 3, 3) := by decide +kernel
theorem dX6_init_7 : decode cX6_init 7 = .ok (.aload_n 0, 1) := by decide +kernel
theorem dX6_init_8 : decode cX6_init 8 = .ok (.iconst (-1), 1) := by decide +kernel
theorem dX6_init_9 : decode cX6_init 9 = .ok (.putfield 9, 3) := by decide +kernel
theorem dX6_init_12 : decode cX6_init 12 = .ok (.return_, 1) := by decide +kernel
theorem dX6_mayBeAsked_0 : decode cX6_mayBeAsked 0 = .ok (.iload_n 1, 1) := by decide +kernel
theorem dX6_mayBeAsked_1 : decode cX6_mayBeAsked 1 = .ok (.ifCond .eq 8, 3) := by decide +kernel
theorem dX6_mayBeAsked_4 : decode cX6_mayBeAsked 4 = .ok (.iload_n 1, 1) := by decide +kernel
theorem dX6_mayBeAsked_5 : decode cX6_mayBeAsked 5 = .ok (.iconst 1, 1) := by decide +kernel
theorem dX6_mayBeAsked_6 : decode cX6_mayBeAsked 6 = .ok (.if_icmp .ne 11, 3) := by decide +kernel
theorem dX6_mayBeAsked_9 : decode cX6_mayBeAsked 9 = .ok (.iload_n 2, 1) := by decide +kernel
theorem dX6_mayBeAsked_10 : decode cX6_mayBeAsked 10 = .ok (.ifCond .ne 7, 3) := by decide +kernel
theorem dX6_mayBeAsked_13 : decode cX6_mayBeAsked 13 = .ok (.iconst 1, 1) := by decide +kernel
theorem dX6_mayBeAsked_14 : decode cX6_mayBeAsked 14 = .ok (.goto 4, 3) := by decide +kernel
theorem dX6_mayBeAsked_17 : decode cX6_mayBeAsked 17 = .ok (.iconst 0, 1) := by decide +kernel
theorem dX6_mayBeAsked_18 : decode cX6_mayBeAsked 18 = .ok (.ireturn, 1) := by decide +kernel
theorem dX6_fits_0 : decode cX6_fits 0 = .ok (.iload_n 2, 1) := by decide +kernel
theorem dX6_fits_1 : decode cX6_fits 1 = .ok (.iconst 1, 1) := by decide +kernel
theorem dX6_fits_2 : decode cX6_fits 2 = .ok (.if_icmp .ne 26, 3) := by decide +kernel
theorem dX6_fits_5 : decode cX6_fits 5 = .ok (.aload_n 0, 1) := by decide +kernel
theorem dX6_fits_6 : decode cX6_fits 6 = .ok (.invokevirtual 15, 3) := by decide +kernel
theorem dX6_fits_9 : decode cX6_fits 9 = .ok (.ifCond .ne 15, 3) := by decide +kernel
theorem dX6_fits_12 : decode cX6_fits 12 = .ok (.aload_n 0, 1) := by decide +kernel
theorem dX6_fits_13 : decode cX6_fits 13 = .ok (.getfield 9, 3) := by decide +kernel
theorem dX6_fits_16 : decode cX6_fits 16 = .ok (.iconst (-1), 1) := by decide +kernel
theorem dX6_fits_17 : decode cX6_fits 17 = .ok (.if_icmp .ne 7, 3) := by decide +kernel
theorem dX6_fits_20 : decode cX6_fits 20 = .ok (.iconst 1, 1) := by decide +kernel
theorem dX6_fits_21 : decode cX6_fits 21 = .ok (.goto 14, 3) := by decide +kernel
theorem dX6_fits_24 : decode cX6_fits 24 = .ok (.iconst 0, 1) := by decide +kernel
theorem dX6_fits_25 : decode cX6_fits 25 = .ok (.goto 10, 3) := by decide +kernel
theorem dX6_fits_28 : decode cX6_fits 28 = .ok (.aload_n 0, 1) := by decide +kernel
theorem dX6_fits_29 : decode cX6_fits 29 = .ok (.getfield 19, 3) := by decide +kernel
theorem dX6_fits_32 : decode cX6_fits 32 = .ok (.invokevirtual 23, 3) := by decide +kernel
theorem dX6_fits_35 : decode cX6_fits 35 = .ok (.ireturn, 1) := by decide +kernel
theorem dX6_dropLoneRiser_0 : decode cX6_dropLoneRiser 0 = .ok (.aload_n 0, 1) := by decide +kernel
theorem dX6_dropLoneRiser_1 : decode cX6_dropLoneRiser 1 = .ok (.aload_n 0, 1) := by decide +kernel
theorem dX6_dropLoneRiser_2 : decode cX6_dropLoneRiser 2 = .ok (.getfield 9, 3) := by decide +kernel
theorem dX6_dropLoneRiser_5 : decode cX6_dropLoneRiser 5 = .ok (.invokevirtual 28, 3) := by decide +kernel
theorem dX6_dropLoneRiser_8 : decode cX6_dropLoneRiser 8 = .ok (.ifnonnull 8, 3) := by decide +kernel
theorem dX6_dropLoneRiser_11 : decode cX6_dropLoneRiser 11 = .ok (.aload_n 0, 1) := by decide +kernel
theorem dX6_dropLoneRiser_12 : decode cX6_dropLoneRiser 12 = .ok (.iconst (-1), 1) := by decide +kernel
theorem dX6_dropLoneRiser_13 : decode cX6_dropLoneRiser 13 = .ok (.putfield 9, 3) := by decide +kernel
theorem dX6_dropLoneRiser_16 : decode cX6_dropLoneRiser 16 = .ok (.return_, 1) := by decide +kernel
theorem dX7_init_0 : decode cX7_init 0 = .ok (.aload_n 0, 1) := by decide +kernel
theorem dX7_init_1 : decode cX7_init 1 = .ok (.iload_n 1, 1) := by decide +kernel
theorem dX7_init_2 : decode cX7_init 2 = .ok (.iload_n 2, 1) := by decide +kernel
theorem dX7_init_3 : decode cX7_init 3 = .ok (.iload_n 3, 1) := by decide +kernel
theorem dX7_init_4 : decode cX7_init 4 = .ok (.invokespecial 3, 3) := by decide +kernel
theorem dX7_init_7 : decode cX7_init 7 = .ok (.return_, 1) := by decide +kernel
theorem dX7_mayBeAsked_0 : decode cX7_mayBeAsked 0 = .ok (.iload_n 1, 1) := by decide +kernel
theorem dX7_mayBeAsked_1 : decode cX7_mayBeAsked 1 = .ok (.ifCond .eq 8, 3) := by decide +kernel
theorem dX7_mayBeAsked_4 : decode cX7_mayBeAsked 4 = .ok (.iload_n 1, 1) := by decide +kernel
theorem dX7_mayBeAsked_5 : decode cX7_mayBeAsked 5 = .ok (.iconst 1, 1) := by decide +kernel
theorem dX7_mayBeAsked_6 : decode cX7_mayBeAsked 6 = .ok (.if_icmp .ne 11, 3) := by decide +kernel
theorem dX7_mayBeAsked_9 : decode cX7_mayBeAsked 9 = .ok (.iload_n 2, 1) := by decide +kernel
theorem dX7_mayBeAsked_10 : decode cX7_mayBeAsked 10 = .ok (.ifCond .ne 7, 3) := by decide +kernel
theorem dX7_mayBeAsked_13 : decode cX7_mayBeAsked 13 = .ok (.iconst 1, 1) := by decide +kernel
theorem dX7_mayBeAsked_14 : decode cX7_mayBeAsked 14 = .ok (.goto 4, 3) := by decide +kernel
theorem dX7_mayBeAsked_17 : decode cX7_mayBeAsked 17 = .ok (.iconst 0, 1) := by decide +kernel
theorem dX7_mayBeAsked_18 : decode cX7_mayBeAsked 18 = .ok (.ireturn, 1) := by decide +kernel
theorem dX7_fits_0 : decode cX7_fits 0 = .ok (.iload_n 2, 1) := by decide +kernel
theorem dX7_fits_1 : decode cX7_fits 1 = .ok (.iconst 1, 1) := by decide +kernel
theorem dX7_fits_2 : decode cX7_fits 2 = .ok (.if_icmp .ne 18, 3) := by decide +kernel
theorem dX7_fits_5 : decode cX7_fits 5 = .ok (.aload_n 0, 1) := by decide +kernel
theorem dX7_fits_6 : decode cX7_fits 6 = .ok (.invokevirtual 9, 3) := by decide +kernel
theorem dX7_fits_9 : decode cX7_fits 9 = .ok (.ifCond .ne 7, 3) := by decide +kernel
theorem dX7_fits_12 : decode cX7_fits 12 = .ok (.iconst 1, 1) := by decide +kernel
theorem dX7_fits_13 : decode cX7_fits 13 = .ok (.goto 14, 3) := by decide +kernel
theorem dX7_fits_16 : decode cX7_fits 16 = .ok (.iconst 0, 1) := by decide +kernel
theorem dX7_fits_17 : decode cX7_fits 17 = .ok (.goto 10, 3) := by decide +kernel
theorem dX7_fits_20 : decode cX7_fits 20 = .ok (.aload_n 0, 1) := by decide +kernel
theorem dX7_fits_21 : decode cX7_fits 21 = .ok (.getfield 15, 3) := by decide +kernel
theorem dX7_fits_24 : decode cX7_fits 24 = .ok (.invokevirtual 19, 3) := by decide +kernel
theorem dX7_fits_27 : decode cX7_fits 27 = .ok (.ireturn, 1) := by decide +kernel
theorem dX8_init_0 : decode cX8_init 0 = .ok (.aload_n 0, 1) := by decide +kernel
theorem dX8_init_1 : decode cX8_init 1 = .ok (.invokespecial 1, 3) := by decide +kernel
theorem dX8_init_4 : decode cX8_init 4 = .ok (.aload_n 0, 1) := by decide +kernel
theorem dX8_init_5 : decode cX8_init 5 = .ok (.aconst_null, 1) := by decide +kernel
theorem dX8_init_6 : decode cX8_init 6 = .ok (.putfield 7, 3) := by decide +kernel
theorem dX8_init_9 : decode cX8_init 9 = .ok (.aload_n 0, 1) := by decide +kernel
theorem dX8_init_10 : decode cX8_init 10 = .ok (.aconst_null, 1) := by decide +kernel
theorem dX8_init_11 : decode cX8_init 11 = .ok (.putfield 13, 3) := by decide +kernel
theorem dX8_init_14 : decode cX8_init 14 = .ok (.aload_n 0, 1) := by decide +kernel
theorem dX8_init_15 : decode cX8_init 15 = .ok (.aconst_null, 1) := by decide +kernel
theorem dX8_init_16 : decode cX8_init 16 = .ok (.putfield 17, 3) := by decide +kernel
theorem dX8_init_19 : decode cX8_init 19 = .ok (.aload_n 0, 1) := by decide +kernel
theorem dX8_init_20 : decode cX8_init 20 = .ok (.aconst_null, 1) := by decide +kernel
theorem dX8_init_21 : decode cX8_init 21 = .ok (.putfield 21, 3) := by decide +kernel
theorem dX8_init_24 : decode cX8_init 24 = .ok (.return_, 1) := by decide +kernel
theorem dX8_clear_0 : decode cX8_clear 0 = .ok (.aload_n 0, 1) := by decide +kernel
theorem dX8_clear_1 : decode cX8_clear 1 = .ok (.aconst_null, 1) := by decide +kernel
theorem dX8_clear_2 : decode cX8_clear 2 = .ok (.putfield 7, 3) := by decide +kernel
theorem dX8_clear_5 : decode cX8_clear 5 = .ok (.aload_n 0, 1) := by decide +kernel
theorem dX8_clear_6 : decode cX8_clear 6 = .ok (.aconst_null, 1) := by decide +kernel
theorem dX8_clear_7 : decode cX8_clear 7 = .ok (.putfield 13, 3) := by decide +kernel
theorem dX8_clear_10 : decode cX8_clear 10 = .ok (.aload_n 0, 1) := by decide +kernel
theorem dX8_clear_11 : decode cX8_clear 11 = .ok (.aconst_null, 1) := by decide +kernel
theorem dX8_clear_12 : decode cX8_clear 12 = .ok (.putfield 17, 3) := by decide +kernel
theorem dX8_clear_15 : decode cX8_clear 15 = .ok (.aload_n 0, 1) := by decide +kernel
theorem dX8_clear_16 : decode cX8_clear 16 = .ok (.aconst_null, 1) := by decide +kernel
theorem dX8_clear_17 : decode cX8_clear 17 = .ok (.putfield 21, 3) := by decide +kernel
theorem dX8_clear_20 : decode cX8_clear 20 = .ok (.return_, 1) := by decide +kernel
theorem dX8_isEmpty_0 : decode cX8_isEmpty 0 = .ok (.aload_n 0, 1) := by decide +kernel
theorem dX8_isEmpty_1 : decode cX8_isEmpty 1 = .ok (.getfield 7, 3) := by decide +kernel
theorem dX8_isEmpty_4 : decode cX8_isEmpty 4 = .ok (.ifnonnull 28, 3) := by decide +kernel
theorem dX8_isEmpty_7 : decode cX8_isEmpty 7 = .ok (.aload_n 0, 1) := by decide +kernel
theorem dX8_isEmpty_8 : decode cX8_isEmpty 8 = .ok (.getfield 13, 3) := by decide +kernel
theorem dX8_isEmpty_11 : decode cX8_isEmpty 11 = .ok (.ifnonnull 21, 3) := by decide +kernel
theorem dX8_isEmpty_14 : decode cX8_isEmpty 14 = .ok (.aload_n 0, 1) := by decide +kernel
theorem dX8_isEmpty_15 : decode cX8_isEmpty 15 = .ok (.getfield 17, 3) := by decide +kernel
theorem dX8_isEmpty_18 : decode cX8_isEmpty 18 = .ok (.ifnonnull 14, 3) := by decide +kernel
theorem dX8_isEmpty_21 : decode cX8_isEmpty 21 = .ok (.aload_n 0, 1) := by decide +kernel
theorem dX8_isEmpty_22 : decode cX8_isEmpty 22 = .ok (.getfield 21, 3) := by decide +kernel
theorem dX8_isEmpty_25 : decode cX8_isEmpty 25 = .ok (.ifnonnull 7, 3) := by decide +kernel
theorem dX8_isEmpty_28 : decode cX8_isEmpty 28 = .ok (.iconst 1, 1) := by decide +kernel
theorem dX8_isEmpty_29 : decode cX8_isEmpty 29 = .ok (.goto 4, 3) := by decide +kernel
theorem dX8_isEmpty_32 : decode cX8_isEmpty 32 = .ok (.iconst 0, 1) := by decide +kernel
theorem dX8_isEmpty_33 : decode cX8_isEmpty 33 = .ok (.ireturn, 1) := by decide +kernel
theorem dX9_init_0 : decode cX9_init 0 = .ok (.aload_n 0, 1) := by decide +kernel
theorem dX9_init_1 : decode cX9_init 1 = .ok (.iconst 4, 1) := by decide +kernel
theorem dX9_init_2 : decode cX9_init 2 = .ok (.iload_n 1, 1) := by decide +kernel
theorem dX9_init_3 : decode cX9_init 3 = .ok (.iload_n 2, 1) := by decide +kernel
theorem dX9_init_4 : decode cX9_init 4 = .ok (.invokespecial 3, 3) := by decide +kernel
theorem dX9_init_7 : decode cX9_init 7 = .ok (.aload_n 0, 1) := by decide +kernel
theorem dX9_init_8 : decode cX9_init 8 = .ok (.bipush 8, 2) := by decide +kernel
theorem dX9_init_10 : decode cX9_init 10 = .ok (.newarray .int, 2) := by decide +kernel
theorem dX9_init_12 : decode cX9_init 12 = .ok (.putfield 9, 3) := by decide +kernel
theorem dX9_init_15 : decode cX9_init 15 = .ok (.aload_n 0, 1) := by decide +kernel
theorem dX9_init_16 : decode cX9_init 16 = .ok (.iconst 0, 1) := by decide +kernel
theorem dX9_init_17 : decode cX9_init 17 = .ok (.putfield 15, 3) := by decide +kernel
theorem dX9_init_20 : decode cX9_init 20 = .ok (.aload_n 0, 1) := by decide +kernel
theorem dX9_init_21 : decode cX9_init 21 = .ok (.iconst 0, 1) := by decide +kernel
theorem dX9_init_22 : decode cX9_init 22 = .ok (.putfield 19, 3) := by decide +kernel
theorem dX9_init_25 : decode cX9_init 25 = .ok (.aload_n 0, 1) := by decide +kernel
theorem dX9_init_26 : decode cX9_init 26 = .ok (.lconst 0, 1) := by decide +kernel
theorem dX9_init_27 : decode cX9_init 27 = .ok (.putfield 23, 3) := by decide +kernel
theorem dX9_init_30 : decode cX9_init 30 = .ok (.return_, 1) := by decide +kernel
theorem dX9_fits_0 : decode cX9_fits 0 = .ok (.aload_n 0, 1) := by decide +kernel
theorem dX9_fits_1 : decode cX9_fits 1 = .ok (.getfield 27, 3) := by decide +kernel
theorem dX9_fits_4 : decode cX9_fits 4 = .ok (.invokevirtual 31, 3) := by decide +kernel
theorem dX9_fits_7 : decode cX9_fits 7 = .ok (.ifCond .eq 24, 3) := by decide +kernel
theorem dX9_fits_10 : decode cX9_fits 10 = .ok (.aload_n 0, 1) := by decide +kernel
theorem dX9_fits_11 : decode cX9_fits 11 = .ok (.getfield 15, 3) := by decide +kernel
theorem dX9_fits_14 : decode cX9_fits 14 = .ok (.ifCond .eq 13, 3) := by decide +kernel
theorem dX9_fits_17 : decode cX9_fits 17 = .ok (.aload_n 0, 1) := by decide +kernel
theorem dX9_fits_18 : decode cX9_fits 18 = .ok (.getfield 9, 3) := by decide +kernel
theorem dX9_fits_21 : decode cX9_fits 21 = .ok (.iconst 0, 1) := by decide +kernel
theorem dX9_fits_22 : decode cX9_fits 22 = .ok (.iaload, 1) := by decide +kernel
theorem dX9_fits_23 : decode cX9_fits 23 = .ok (.iload_n 1, 1) := by decide +kernel
theorem dX9_fits_24 : decode cX9_fits 24 = .ok (.if_icmp .ne 7, 3) := by decide +kernel
theorem dX9_fits_27 : decode cX9_fits 27 = .ok (.iconst 1, 1) := by decide +kernel
theorem dX9_fits_28 : decode cX9_fits 28 = .ok (.goto 4, 3) := by decide +kernel
theorem dX9_fits_31 : decode cX9_fits 31 = .ok (.iconst 0, 1) := by decide +kernel
theorem dX9_fits_32 : decode cX9_fits 32 = .ok (.ireturn, 1) := by decide +kernel
theorem dX9_queuedAt_0 : decode cX9_queuedAt 0 = .ok (.iload_n 1, 1) := by decide +kernel
theorem dX9_queuedAt_1 : decode cX9_queuedAt 1 = .ok (.ifCond .lt 20, 3) := by decide +kernel
theorem dX9_queuedAt_4 : decode cX9_queuedAt 4 = .ok (.iload_n 1, 1) := by decide +kernel
theorem dX9_queuedAt_5 : decode cX9_queuedAt 5 = .ok (.aload_n 0, 1) := by decide +kernel
theorem dX9_queuedAt_6 : decode cX9_queuedAt 6 = .ok (.getfield 15, 3) := by decide +kernel
theorem dX9_queuedAt_9 : decode cX9_queuedAt 9 = .ok (.if_icmp .ge 12, 3) := by decide +kernel
theorem dX9_queuedAt_12 : decode cX9_queuedAt 12 = .ok (.iload_n 1, 1) := by decide +kernel
theorem dX9_queuedAt_13 : decode cX9_queuedAt 13 = .ok (.aload_n 0, 1) := by decide +kernel
theorem dX9_queuedAt_14 : decode cX9_queuedAt 14 = .ok (.getfield 9, 3) := by decide +kernel
theorem dX9_queuedAt_17 : decode cX9_queuedAt 17 = .ok (.arraylength, 1) := by decide +kernel
theorem dX9_queuedAt_18 : decode cX9_queuedAt 18 = .ok (.if_icmp .lt 7, 3) := by decide +kernel
theorem dX9_queuedAt_21 : decode cX9_queuedAt 21 = .ok (.iconst (-1), 1) := by decide +kernel
theorem dX9_queuedAt_22 : decode cX9_queuedAt 22 = .ok (.goto 9, 3) := by decide +kernel
theorem dX9_queuedAt_25 : decode cX9_queuedAt 25 = .ok (.aload_n 0, 1) := by decide +kernel
theorem dX9_queuedAt_26 : decode cX9_queuedAt 26 = .ok (.getfield 9, 3) := by decide +kernel
theorem dX9_queuedAt_29 : decode cX9_queuedAt 29 = .ok (.iload_n 1, 1) := by decide +kernel
theorem dX9_queuedAt_30 : decode cX9_queuedAt 30 = .ok (.iaload, 1) := by decide +kernel
theorem dX9_queuedAt_31 : decode cX9_queuedAt 31 = .ok (.ireturn, 1) := by decide +kernel
theorem dX9_isQueued_0 : decode cX9_isQueued 0 = .ok (.iconst 0, 1) := by decide +kernel
theorem dX9_isQueued_1 : decode cX9_isQueued 1 = .ok (.istore_n 2, 1) := by decide +kernel
theorem dX9_isQueued_2 : decode cX9_isQueued 2 = .ok (.iload_n 2, 1) := by decide +kernel
theorem dX9_isQueued_3 : decode cX9_isQueued 3 = .ok (.aload_n 0, 1) := by decide +kernel
theorem dX9_isQueued_4 : decode cX9_isQueued 4 = .ok (.getfield 15, 3) := by decide +kernel
theorem dX9_isQueued_7 : decode cX9_isQueued 7 = .ok (.if_icmp .ge 30, 3) := by decide +kernel
theorem dX9_isQueued_10 : decode cX9_isQueued 10 = .ok (.iload_n 2, 1) := by decide +kernel
theorem dX9_isQueued_11 : decode cX9_isQueued 11 = .ok (.aload_n 0, 1) := by decide +kernel
theorem dX9_isQueued_12 : decode cX9_isQueued 12 = .ok (.getfield 9, 3) := by decide +kernel
theorem dX9_isQueued_15 : decode cX9_isQueued 15 = .ok (.arraylength, 1) := by decide +kernel
theorem dX9_isQueued_16 : decode cX9_isQueued 16 = .ok (.if_icmp .ge 21, 3) := by decide +kernel
theorem dX9_isQueued_19 : decode cX9_isQueued 19 = .ok (.aload_n 0, 1) := by decide +kernel
theorem dX9_isQueued_20 : decode cX9_isQueued 20 = .ok (.getfield 9, 3) := by decide +kernel
theorem dX9_isQueued_23 : decode cX9_isQueued 23 = .ok (.iload_n 2, 1) := by decide +kernel
theorem dX9_isQueued_24 : decode cX9_isQueued 24 = .ok (.iaload, 1) := by decide +kernel
theorem dX9_isQueued_25 : decode cX9_isQueued 25 = .ok (.iload_n 1, 1) := by decide +kernel
theorem dX9_isQueued_26 : decode cX9_isQueued 26 = .ok (.if_icmp .ne 5, 3) := by decide +kernel
theorem dX9_isQueued_29 : decode cX9_isQueued 29 = .ok (.iconst 1, 1) := by decide +kernel
theorem dX9_isQueued_30 : decode cX9_isQueued 30 = .ok (.ireturn, 1) := by decide +kernel
theorem dX9_isQueued_31 : decode cX9_isQueued 31 = .ok (.iinc 2 1, 3) := by decide +kernel
theorem dX9_isQueued_34 : decode cX9_isQueued 34 = .ok (.goto (-32), 3) := by decide +kernel
theorem dX9_isQueued_37 : decode cX9_isQueued 37 = .ok (.iconst 0, 1) := by decide +kernel
theorem dX9_isQueued_38 : decode cX9_isQueued 38 = .ok (.ireturn, 1) := by decide +kernel
theorem dX9_isQueueFull_0 : decode cX9_isQueueFull 0 = .ok (.aload_n 0, 1) := by decide +kernel
theorem dX9_isQueueFull_1 : decode cX9_isQueueFull 1 = .ok (.getfield 15, 3) := by decide +kernel
theorem dX9_isQueueFull_4 : decode cX9_isQueueFull 4 = .ok (.aload_n 0, 1) := by decide +kernel
theorem dX9_isQueueFull_5 : decode cX9_isQueueFull 5 = .ok (.getfield 9, 3) := by decide +kernel
theorem dX9_isQueueFull_8 : decode cX9_isQueueFull 8 = .ok (.arraylength, 1) := by decide +kernel
theorem dX9_isQueueFull_9 : decode cX9_isQueueFull 9 = .ok (.if_icmp .lt 7, 3) := by decide +kernel
theorem dX9_isQueueFull_12 : decode cX9_isQueueFull 12 = .ok (.iconst 1, 1) := by decide +kernel
theorem dX9_isQueueFull_13 : decode cX9_isQueueFull 13 = .ok (.goto 4, 3) := by decide +kernel
theorem dX9_isQueueFull_16 : decode cX9_isQueueFull 16 = .ok (.iconst 0, 1) := by decide +kernel
theorem dX9_isQueueFull_17 : decode cX9_isQueueFull 17 = .ok (.ireturn, 1) := by decide +kernel
theorem dX9_join_0 : decode cX9_join 0 = .ok (.aload_n 0, 1) := by decide +kernel
theorem dX9_join_1 : decode cX9_join 1 = .ok (.getfield 15, 3) := by decide +kernel
theorem dX9_join_4 : decode cX9_join 4 = .ok (.aload_n 0, 1) := by decide +kernel
theorem dX9_join_5 : decode cX9_join 5 = .ok (.getfield 9, 3) := by decide +kernel
theorem dX9_join_8 : decode cX9_join 8 = .ok (.arraylength, 1) := by decide +kernel
theorem dX9_join_9 : decode cX9_join 9 = .ok (.if_icmp .ge 23, 3) := by decide +kernel
theorem dX9_join_12 : decode cX9_join 12 = .ok (.aload_n 0, 1) := by decide +kernel
theorem dX9_join_13 : decode cX9_join 13 = .ok (.getfield 9, 3) := by decide +kernel
theorem dX9_join_16 : decode cX9_join 16 = .ok (.aload_n 0, 1) := by decide +kernel
theorem dX9_join_17 : decode cX9_join 17 = .ok (.getfield 15, 3) := by decide +kernel
theorem dX9_join_20 : decode cX9_join 20 = .ok (.iload_n 1, 1) := by decide +kernel
theorem dX9_join_21 : decode cX9_join 21 = .ok (.iastore, 1) := by decide +kernel
theorem dX9_join_22 : decode cX9_join 22 = .ok (.aload_n 0, 1) := by decide +kernel
theorem dX9_join_23 : decode cX9_join 23 = .ok (.dup, 1) := by decide +kernel
theorem dX9_join_24 : decode cX9_join 24 = .ok (.getfield 15, 3) := by decide +kernel
theorem dX9_join_27 : decode cX9_join 27 = .ok (.iconst 1, 1) := by decide +kernel
theorem dX9_join_28 : decode cX9_join 28 = .ok (.iadd, 1) := by decide +kernel
theorem dX9_join_29 : decode cX9_join 29 = .ok (.putfield 15, 3) := by decide +kernel
theorem dX9_join_32 : decode cX9_join 32 = .ok (.return_, 1) := by decide +kernel
theorem dX9_dropFirst_0 : decode cX9_dropFirst 0 = .ok (.aload_n 0, 1) := by decide +kernel
theorem dX9_dropFirst_1 : decode cX9_dropFirst 1 = .ok (.getfield 15, 3) := by decide +kernel
theorem dX9_dropFirst_4 : decode cX9_dropFirst 4 = .ok (.ifCond .le 57, 3) := by decide +kernel
theorem dX9_dropFirst_7 : decode cX9_dropFirst 7 = .ok (.iconst 1, 1) := by decide +kernel
theorem dX9_dropFirst_8 : decode cX9_dropFirst 8 = .ok (.istore_n 1, 1) := by decide +kernel
theorem dX9_dropFirst_9 : decode cX9_dropFirst 9 = .ok (.iload_n 1, 1) := by decide +kernel
theorem dX9_dropFirst_10 : decode cX9_dropFirst 10 = .ok (.aload_n 0, 1) := by decide +kernel
theorem dX9_dropFirst_11 : decode cX9_dropFirst 11 = .ok (.getfield 15, 3) := by decide +kernel
theorem dX9_dropFirst_14 : decode cX9_dropFirst 14 = .ok (.if_icmp .ge 32, 3) := by decide +kernel
theorem dX9_dropFirst_17 : decode cX9_dropFirst 17 = .ok (.iload_n 1, 1) := by decide +kernel
theorem dX9_dropFirst_18 : decode cX9_dropFirst 18 = .ok (.aload_n 0, 1) := by decide +kernel
theorem dX9_dropFirst_19 : decode cX9_dropFirst 19 = .ok (.getfield 9, 3) := by decide +kernel
theorem dX9_dropFirst_22 : decode cX9_dropFirst 22 = .ok (.arraylength, 1) := by decide +kernel
theorem dX9_dropFirst_23 : decode cX9_dropFirst 23 = .ok (.if_icmp .ge 23, 3) := by decide +kernel
theorem dX9_dropFirst_26 : decode cX9_dropFirst 26 = .ok (.aload_n 0, 1) := by decide +kernel
theorem dX9_dropFirst_27 : decode cX9_dropFirst 27 = .ok (.getfield 9, 3) := by decide +kernel
theorem dX9_dropFirst_30 : decode cX9_dropFirst 30 = .ok (.iload_n 1, 1) := by decide +kernel
theorem dX9_dropFirst_31 : decode cX9_dropFirst 31 = .ok (.iconst 1, 1) := by decide +kernel
theorem dX9_dropFirst_32 : decode cX9_dropFirst 32 = .ok (.isub, 1) := by decide +kernel
theorem dX9_dropFirst_33 : decode cX9_dropFirst 33 = .ok (.aload_n 0, 1) := by decide +kernel
theorem dX9_dropFirst_34 : decode cX9_dropFirst 34 = .ok (.getfield 9, 3) := by decide +kernel
theorem dX9_dropFirst_37 : decode cX9_dropFirst 37 = .ok (.iload_n 1, 1) := by decide +kernel
theorem dX9_dropFirst_38 : decode cX9_dropFirst 38 = .ok (.iaload, 1) := by decide +kernel
theorem dX9_dropFirst_39 : decode cX9_dropFirst 39 = .ok (.iastore, 1) := by decide +kernel
theorem dX9_dropFirst_40 : decode cX9_dropFirst 40 = .ok (.iinc 1 1, 3) := by decide +kernel
theorem dX9_dropFirst_43 : decode cX9_dropFirst 43 = .ok (.goto (-34), 3) := by decide +kernel
theorem dX9_dropFirst_46 : decode cX9_dropFirst 46 = .ok (.aload_n 0, 1) := by decide +kernel
theorem dX9_dropFirst_47 : decode cX9_dropFirst 47 = .ok (.dup, 1) := by decide +kernel
theorem dX9_dropFirst_48 : decode cX9_dropFirst 48 = .ok (.getfield 15, 3) := by decide +kernel
theorem dX9_dropFirst_51 : decode cX9_dropFirst 51 = .ok (.iconst 1, 1) := by decide +kernel
theorem dX9_dropFirst_52 : decode cX9_dropFirst 52 = .ok (.isub, 1) := by decide +kernel
theorem dX9_dropFirst_53 : decode cX9_dropFirst 53 = .ok (.putfield 15, 3) := by decide +kernel
theorem dX9_dropFirst_56 : decode cX9_dropFirst 56 = .ok (.aload_n 0, 1) := by decide +kernel
theorem dX9_dropFirst_57 : decode cX9_dropFirst 57 = .ok (.iconst 0, 1) := by decide +kernel
theorem dX9_dropFirst_58 : decode cX9_dropFirst 58 = .ok (.putfield 19, 3) := by decide +kernel
theorem dX9_dropFirst_61 : decode cX9_dropFirst 61 = .ok (.return_, 1) := by decide +kernel
theorem dX9_dropLateFirst_0 : decode cX9_dropLateFirst 0 = .ok (.aload_n 0, 1) := by decide +kernel
theorem dX9_dropLateFirst_1 : decode cX9_dropLateFirst 1 = .ok (.getfield 19, 3) := by decide +kernel
theorem dX9_dropLateFirst_4 : decode cX9_dropLateFirst 4 = .ok (.ifCond .eq 16, 3) := by decide +kernel
theorem dX9_dropLateFirst_7 : decode cX9_dropLateFirst 7 = .ok (.aload_n 0, 1) := by decide +kernel
theorem dX9_dropLateFirst_8 : decode cX9_dropLateFirst 8 = .ok (.getfield 23, 3) := by decide +kernel
theorem dX9_dropLateFirst_11 : decode cX9_dropLateFirst 11 = .ok (.lload_n 1, 1) := by decide +kernel
theorem dX9_dropLateFirst_12 : decode cX9_dropLateFirst 12 = .ok (.lcmp, 1) := by decide +kernel
theorem dX9_dropLateFirst_13 : decode cX9_dropLateFirst 13 = .ok (.ifCond .gt 7, 3) := by decide +kernel
theorem dX9_dropLateFirst_16 : decode cX9_dropLateFirst 16 = .ok (.aload_n 0, 1) := by decide +kernel
theorem dX9_dropLateFirst_17 : decode cX9_dropLateFirst 17 = .ok (.invokevirtual 37, 3) := by decide +kernel
theorem dX9_dropLateFirst_20 : decode cX9_dropLateFirst 20 = .ok (.return_, 1) := by decide +kernel
theorem dX9_isFirstDue_0 : decode cX9_isFirstDue 0 = .ok (.aload_n 0, 1) := by decide +kernel
theorem dX9_isFirstDue_1 : decode cX9_isFirstDue 1 = .ok (.getfield 15, 3) := by decide +kernel
theorem dX9_isFirstDue_4 : decode cX9_isFirstDue 4 = .ok (.ifCond .le 24, 3) := by decide +kernel
theorem dX9_isFirstDue_7 : decode cX9_isFirstDue 7 = .ok (.aload_n 0, 1) := by decide +kernel
theorem dX9_isFirstDue_8 : decode cX9_isFirstDue 8 = .ok (.getfield 27, 3) := by decide +kernel
theorem dX9_isFirstDue_11 : decode cX9_isFirstDue 11 = .ok (.invokevirtual 31, 3) := by decide +kernel
theorem dX9_isFirstDue_14 : decode cX9_isFirstDue 14 = .ok (.ifCond .eq 14, 3) := by decide +kernel
theorem dX9_isFirstDue_17 : decode cX9_isFirstDue 17 = .ok (.aload_n 0, 1) := by decide +kernel
theorem dX9_isFirstDue_18 : decode cX9_isFirstDue 18 = .ok (.getfield 19, 3) := by decide +kernel
theorem dX9_isFirstDue_21 : decode cX9_isFirstDue 21 = .ok (.ifCond .ne 7, 3) := by decide +kernel
theorem dX9_isFirstDue_24 : decode cX9_isFirstDue 24 = .ok (.iconst 1, 1) := by decide +kernel
theorem dX9_isFirstDue_25 : decode cX9_isFirstDue 25 = .ok (.goto 4, 3) := by decide +kernel
theorem dX9_isFirstDue_28 : decode cX9_isFirstDue 28 = .ok (.iconst 0, 1) := by decide +kernel
theorem dX9_isFirstDue_29 : decode cX9_isFirstDue 29 = .ok (.ireturn, 1) := by decide +kernel
theorem dX9_callFirst_0 : decode cX9_callFirst 0 = .ok (.aload_n 0, 1) := by decide +kernel
theorem dX9_callFirst_1 : decode cX9_callFirst 1 = .ok (.iconst 1, 1) := by decide +kernel
theorem dX9_callFirst_2 : decode cX9_callFirst 2 = .ok (.putfield 19, 3) := by decide +kernel
theorem dX9_callFirst_5 : decode cX9_callFirst 5 = .ok (.aload_n 0, 1) := by decide +kernel
theorem dX9_callFirst_6 : decode cX9_callFirst 6 = .ok (.lload_n 1, 1) := by decide +kernel
theorem dX9_callFirst_7 : decode cX9_callFirst 7 = .ok (.aload_n 0, 1) := by decide +kernel
theorem dX9_callFirst_8 : decode cX9_callFirst 8 = .ok (.getfield 41, 3) := by decide +kernel
theorem dX9_callFirst_11 : decode cX9_callFirst 11 = .ok (.i2l, 1) := by decide +kernel
theorem dX9_callFirst_12 : decode cX9_callFirst 12 = .ok (.ladd, 1) := by decide +kernel
theorem dX9_callFirst_13 : decode cX9_callFirst 13 = .ok (.putfield 23, 3) := by decide +kernel
theorem dX9_callFirst_16 : decode cX9_callFirst 16 = .ok (.return_, 1) := by decide +kernel
theorem dX10_init_0 : decode cX10_init 0 = .ok (.aload_n 0, 1) := by decide +kernel
theorem dX10_init_1 : decode cX10_init 1 = .ok (.iload_n 1, 1) := by decide +kernel
theorem dX10_init_2 : decode cX10_init 2 = .ok (.iload_n 2, 1) := by decide +kernel
theorem dX10_init_3 : decode cX10_init 3 = .ok (.invokespecial 3, 3) := by decide +kernel
theorem dX10_init_6 : decode cX10_init 6 = .ok (.aload_n 0, 1) := by decide +kernel
theorem dX10_init_7 : decode cX10_init 7 = .ok (.bipush 20, 2) := by decide +kernel
theorem dX10_init_9 : decode cX10_init 9 = .ok (.anewarray 9, 3) := by decide +kernel
theorem dX10_init_12 : decode cX10_init 12 = .ok (.putfield 11, 3) := by decide +kernel
theorem dX10_init_15 : decode cX10_init 15 = .ok (.aload_n 0, 1) := by decide +kernel
theorem dX10_init_16 : decode cX10_init 16 = .ok (.iconst 0, 1) := by decide +kernel
theorem dX10_init_17 : decode cX10_init 17 = .ok (.putfield 17, 3) := by decide +kernel
theorem dX10_init_20 : decode cX10_init 20 = .ok (.iconst 0, 1) := by decide +kernel
theorem dX10_init_21 : decode cX10_init 21 = .ok (.istore_n 3, 1) := by decide +kernel
theorem dX10_init_22 : decode cX10_init 22 = .ok (.iload_n 3, 1) := by decide +kernel
theorem dX10_init_23 : decode cX10_init 23 = .ok (.aload_n 0, 1) := by decide +kernel
theorem dX10_init_24 : decode cX10_init 24 = .ok (.getfield 11, 3) := by decide +kernel
theorem dX10_init_27 : decode cX10_init 27 = .ok (.arraylength, 1) := by decide +kernel
theorem dX10_init_28 : decode cX10_init 28 = .ok (.if_icmp .ge 22, 3) := by decide +kernel
theorem dX10_init_31 : decode cX10_init 31 = .ok (.aload_n 0, 1) := by decide +kernel
theorem dX10_init_32 : decode cX10_init 32 = .ok (.getfield 11, 3) := by decide +kernel
theorem dX10_init_35 : decode cX10_init 35 = .ok (.iload_n 3, 1) := by decide +kernel
theorem dX10_init_36 : decode cX10_init 36 = .ok (.new 9, 3) := by decide +kernel
theorem dX10_init_39 : decode cX10_init 39 = .ok (.dup, 1) := by decide +kernel
theorem dX10_init_40 : decode cX10_init 40 = .ok (.invokespecial 21, 3) := by decide +kernel
theorem dX10_init_43 : decode cX10_init 43 = .ok (.aastore, 1) := by decide +kernel
theorem dX10_init_44 : decode cX10_init 44 = .ok (.iinc 3 1, 3) := by decide +kernel
theorem dX10_init_47 : decode cX10_init 47 = .ok (.goto (-25), 3) := by decide +kernel
theorem dX10_init_50 : decode cX10_init 50 = .ok (.return_, 1) := by decide +kernel
theorem dX10_memoryOf_0 : decode cX10_memoryOf 0 = .ok (.iload_n 1, 1) := by decide +kernel
theorem dX10_memoryOf_1 : decode cX10_memoryOf 1 = .ok (.ifCond .lt 12, 3) := by decide +kernel
theorem dX10_memoryOf_4 : decode cX10_memoryOf 4 = .ok (.iload_n 1, 1) := by decide +kernel
theorem dX10_memoryOf_5 : decode cX10_memoryOf 5 = .ok (.aload_n 0, 1) := by decide +kernel
theorem dX10_memoryOf_6 : decode cX10_memoryOf 6 = .ok (.getfield 11, 3) := by decide +kernel
theorem dX10_memoryOf_9 : decode cX10_memoryOf 9 = .ok (.arraylength, 1) := by decide +kernel
theorem dX10_memoryOf_10 : decode cX10_memoryOf 10 = .ok (.if_icmp .lt 7, 3) := by decide +kernel
theorem dX10_memoryOf_13 : decode cX10_memoryOf 13 = .ok (.aconst_null, 1) := by decide +kernel
theorem dX10_memoryOf_14 : decode cX10_memoryOf 14 = .ok (.goto 9, 3) := by decide +kernel
theorem dX10_memoryOf_17 : decode cX10_memoryOf 17 = .ok (.aload_n 0, 1) := by decide +kernel
theorem dX10_memoryOf_18 : decode cX10_memoryOf 18 = .ok (.getfield 11, 3) := by decide +kernel
theorem dX10_memoryOf_21 : decode cX10_memoryOf 21 = .ok (.iload_n 1, 1) := by decide +kernel
theorem dX10_memoryOf_22 : decode cX10_memoryOf 22 = .ok (.aaload, 1) := by decide +kernel
theorem dX10_memoryOf_23 : decode cX10_memoryOf 23 = .ok (.areturn, 1) := by decide +kernel
theorem dX11_init_0 : decode cX11_init 0 = .ok (.aload_n 0, 1) := by decide +kernel
theorem dX11_init_1 : decode cX11_init 1 = .ok (.invokespecial 1, 3) := by decide +kernel
theorem dX11_init_4 : decode cX11_init 4 = .ok (.aload_n 0, 1) := by decide +kernel
theorem dX11_init_5 : decode cX11_init 5 = .ok (.new 7, 3) := by decide +kernel
theorem dX11_init_8 : decode cX11_init 8 = .ok (.dup, 1) := by decide +kernel
theorem dX11_init_9 : decode cX11_init 9 = .ok (.invokespecial 9, 3) := by decide +kernel
theorem dX11_init_12 : decode cX11_init 12 = .ok (.putfield 10, 3) := by decide +kernel
theorem dX11_init_15 : decode cX11_init 15 = .ok (.aload_n 0, 1) := by decide +kernel
theorem dX11_init_16 : decode cX11_init 16 = .ok (.new 7, 3) := by decide +kernel
theorem dX11_init_19 : decode cX11_init 19 = .ok (.dup, 1) := by decide +kernel
theorem dX11_init_20 : decode cX11_init 20 = .ok (.invokespecial 9, 3) := by decide +kernel
theorem dX11_init_23 : decode cX11_init 23 = .ok (.putfield 16, 3) := by decide +kernel
theorem dX11_init_26 : decode cX11_init 26 = .ok (.aload_n 0, 1) := by decide +kernel
theorem dX11_init_27 : decode cX11_init 27 = .ok (.new 7, 3) := by decide +kernel
theorem dX11_init_30 : decode cX11_init 30 = .ok (.dup, 1) := by decide +kernel
theorem dX11_init_31 : decode cX11_init 31 = .ok (.invokespecial 9, 3) := by decide +kernel
theorem dX11_init_34 : decode cX11_init 34 = .ok (.putfield 19, 3) := by decide +kernel
theorem dX11_init_37 : decode cX11_init 37 = .ok (.aload_n 0, 1) := by decide +kernel
theorem dX11_init_38 : decode cX11_init 38 = .ok (.new 7, 3) := by decide +kernel
theorem dX11_init_41 : decode cX11_init 41 = .ok (.dup, 1) := by decide +kernel
theorem dX11_init_42 : decode cX11_init 42 = .ok (.invokespecial 9, 3) := by decide +kernel
theorem dX11_init_45 : decode cX11_init 45 = .ok (.putfield 22, 3) := by decide +kernel
theorem dX11_init_48 : decode cX11_init 48 = .ok (.aload_n 0, 1) := by decide +kernel
theorem dX11_init_49 : decode cX11_init 49 = .ok (.bipush 6, 2) := by decide +kernel
theorem dX11_init_51 : decode cX11_init 51 = .ok (.bipush 20, 2) := by decide +kernel
theorem dX11_init_53 : decode cX11_init 53 = .ok (.multianewarray 25 2, 4) := by decide +kernel
theorem dX11_init_57 : decode cX11_init 57 = .ok (.putfield 27, 3) := by decide +kernel
theorem dX11_init_60 : decode cX11_init 60 = .ok (.aload_n 0, 1) := by decide +kernel
theorem dX11_init_61 : decode cX11_init 61 = .ok (.bipush 6, 2) := by decide +kernel
theorem dX11_init_63 : decode cX11_init 63 = .ok (.bipush 20, 2) := by decide +kernel
theorem dX11_init_65 : decode cX11_init 65 = .ok (.multianewarray 25 2, 4) := by decide +kernel
theorem dX11_init_69 : decode cX11_init 69 = .ok (.putfield 30, 3) := by decide +kernel
theorem dX11_init_72 : decode cX11_init 72 = .ok (.aload_n 0, 1) := by decide +kernel
theorem dX11_init_73 : decode cX11_init 73 = .ok (.bipush 6, 2) := by decide +kernel
theorem dX11_init_75 : decode cX11_init 75 = .ok (.anewarray 33, 3) := by decide +kernel
theorem dX11_init_78 : decode cX11_init 78 = .ok (.putfield 35, 3) := by decide +kernel
theorem dX11_init_81 : decode cX11_init 81 = .ok (.aload_n 0, 1) := by decide +kernel
theorem dX11_init_82 : decode cX11_init 82 = .ok (.iconst 0, 1) := by decide +kernel
theorem dX11_init_83 : decode cX11_init 83 = .ok (.putfield 39, 3) := by decide +kernel
theorem dX11_init_86 : decode cX11_init 86 = .ok (.aload_n 0, 1) := by decide +kernel
theorem dX11_init_87 : decode cX11_init 87 = .ok (.iconst 0, 1) := by decide +kernel
theorem dX11_init_88 : decode cX11_init 88 = .ok (.putfield 43, 3) := by decide +kernel
theorem dX11_init_91 : decode cX11_init 91 = .ok (.aload_n 0, 1) := by decide +kernel
theorem dX11_init_92 : decode cX11_init 92 = .ok (.iconst (-1), 1) := by decide +kernel
theorem dX11_init_93 : decode cX11_init 93 = .ok (.putfield 46, 3) := by decide +kernel
theorem dX11_init_96 : decode cX11_init 96 = .ok (.aload_n 0, 1) := by decide +kernel
theorem dX11_init_97 : decode cX11_init 97 = .ok (.iconst 0, 1) := by decide +kernel
theorem dX11_init_98 : decode cX11_init 98 = .ok (.putfield 49, 3) := by decide +kernel
theorem dX11_init_101 : decode cX11_init 101 = .ok (.aload_n 0, 1) := by decide +kernel
theorem dX11_init_102 : decode cX11_init 102 = .ok (.iconst 0, 1) := by decide +kernel
theorem dX11_init_103 : decode cX11_init 103 = .ok (.putfield 52, 3) := by decide +kernel
theorem dX11_init_106 : decode cX11_init 106 = .ok (.aload_n 0, 1) := by decide +kernel
theorem dX11_init_107 : decode cX11_init 107 = .ok (.iconst 0, 1) := by decide +kernel
theorem dX11_init_108 : decode cX11_init 108 = .ok (.putfield 55, 3) := by decide +kernel
theorem dX11_init_111 : decode cX11_init 111 = .ok (.aload_n 0, 1) := by decide +kernel
theorem dX11_init_112 : decode cX11_init 112 = .ok (.iconst 0, 1) := by decide +kernel
theorem dX11_init_113 : decode cX11_init 113 = .ok (.putfield 58, 3) := by decide +kernel
theorem dX11_init_116 : decode cX11_init 116 = .ok (.aload_n 0, 1) := by decide +kernel
theorem dX11_init_117 : decode cX11_init 117 = .ok (.iconst 0, 1) := by decide +kernel
theorem dX11_init_118 : decode cX11_init 118 = .ok (.putfield 61, 3) := by decide +kernel
theorem dX11_init_121 : decode cX11_init 121 = .ok (.aload_n 0, 1) := by decide +kernel
theorem dX11_init_122 : decode cX11_init 122 = .ok (.iconst 0, 1) := by decide +kernel
theorem dX11_init_123 : decode cX11_init 123 = .ok (.putfield 64, 3) := by decide +kernel
theorem dX11_init_126 : decode cX11_init 126 = .ok (.aload_n 0, 1) := by decide +kernel
theorem dX11_init_127 : decode cX11_init 127 = .ok (.iconst 0, 1) := by decide +kernel
theorem dX11_init_128 : decode cX11_init 128 = .ok (.putfield 67, 3) := by decide +kernel
theorem dX11_init_131 : decode cX11_init 131 = .ok (.aload_n 0, 1) := by decide +kernel
theorem dX11_init_132 : decode cX11_init 132 = .ok (.iconst 0, 1) := by decide +kernel
theorem dX11_init_133 : decode cX11_init 133 = .ok (.bipush 100, 2) := by decide +kernel
theorem dX11_init_135 : decode cX11_init 135 = .ok (.iload_n 1, 1) := by decide +kernel
theorem dX11_init_136 : decode cX11_init 136 = .ok (.invokestatic 70, 3) := by decide +kernel
theorem dX11_init_139 : decode cX11_init 139 = .ok (.invokestatic 76, 3) := by decide +kernel
theorem dX11_init_142 : decode cX11_init 142 = .ok (.putfield 79, 3) := by decide +kernel
theorem dX11_init_145 : decode cX11_init 145 = .ok (.iconst 0, 1) := by decide +kernel
theorem dX11_init_146 : decode cX11_init 146 = .ok (.istore_n 2, 1) := by decide +kernel
theorem dX11_init_147 : decode cX11_init 147 = .ok (.iload_n 2, 1) := by decide +kernel
theorem dX11_init_148 : decode cX11_init 148 = .ok (.aload_n 0, 1) := by decide +kernel
theorem dX11_init_149 : decode cX11_init 149 = .ok (.getfield 35, 3) := by decide +kernel
theorem dX11_init_152 : decode cX11_init 152 = .ok (.arraylength, 1) := by decide +kernel
theorem dX11_init_153 : decode cX11_init 153 = .ok (.if_icmp .ge 22, 3) := by decide +kernel
theorem dX11_init_156 : decode cX11_init 156 = .ok (.aload_n 0, 1) := by decide +kernel
theorem dX11_init_157 : decode cX11_init 157 = .ok (.getfield 35, 3) := by decide +kernel
theorem dX11_init_160 : decode cX11_init 160 = .ok (.iload_n 2, 1) := by decide +kernel
theorem dX11_init_161 : decode cX11_init 161 = .ok (.new 33, 3) := by decide +kernel
theorem dX11_init_164 : decode cX11_init 164 = .ok (.dup, 1) := by decide +kernel
theorem dX11_init_165 : decode cX11_init 165 = .ok (.invokespecial 82, 3) := by decide +kernel
theorem dX11_init_168 : decode cX11_init 168 = .ok (.aastore, 1) := by decide +kernel
theorem dX11_init_169 : decode cX11_init 169 = .ok (.iinc 2 1, 3) := by decide +kernel
theorem dX11_init_172 : decode cX11_init 172 = .ok (.goto (-25), 3) := by decide +kernel
theorem dX11_init_175 : decode cX11_init 175 = .ok (.return_, 1) := by decide +kernel
theorem dX11_keeper_0 : decode cX11_keeper 0 = .ok (.aload_n 0, 1) := by decide +kernel
theorem dX11_keeper_1 : decode cX11_keeper 1 = .ok (.iload_n 1, 1) := by decide +kernel
theorem dX11_keeper_2 : decode cX11_keeper 2 = .ok (.iload_n 2, 1) := by decide +kernel
theorem dX11_keeper_3 : decode cX11_keeper 3 = .ok (.invokevirtual 83, 3) := by decide +kernel
theorem dX11_keeper_6 : decode cX11_keeper 6 = .ok (.ifCond .ne 6, 3) := by decide +kernel
theorem dX11_keeper_9 : decode cX11_keeper 9 = .ok (.bipush (-2), 2) := by decide +kernel
theorem dX11_keeper_11 : decode cX11_keeper 11 = .ok (.ireturn, 1) := by decide +kernel
theorem dX11_keeper_12 : decode cX11_keeper 12 = .ok (.aload_n 0, 1) := by decide +kernel
theorem dX11_keeper_13 : decode cX11_keeper 13 = .ok (.getfield 10, 3) := by decide +kernel
theorem dX11_keeper_16 : decode cX11_keeper 16 = .ok (.invokevirtual 87, 3) := by decide +kernel
theorem dX11_keeper_19 : decode cX11_keeper 19 = .ok (.iconst 5, 1) := by decide +kernel
theorem dX11_keeper_20 : decode cX11_keeper 20 = .ok (.if_icmp .lt 6, 3) := by decide +kernel
theorem dX11_keeper_23 : decode cX11_keeper 23 = .ok (.bipush (-4), 2) := by decide +kernel
theorem dX11_keeper_25 : decode cX11_keeper 25 = .ok (.ireturn, 1) := by decide +kernel
theorem dX11_keeper_26 : decode cX11_keeper 26 = .ok (.aload_n 0, 1) := by decide +kernel
theorem dX11_keeper_27 : decode cX11_keeper 27 = .ok (.getfield 10, 3) := by decide +kernel
theorem dX11_keeper_30 : decode cX11_keeper 30 = .ok (.new 91, 3) := by decide +kernel
theorem dX11_keeper_33 : decode cX11_keeper 33 = .ok (.dup, 1) := by decide +kernel
theorem dX11_keeper_34 : decode cX11_keeper 34 = .ok (.iload_n 1, 1) := by decide +kernel
theorem dX11_keeper_35 : decode cX11_keeper 35 = .ok (.iload_n 2, 1) := by decide +kernel
theorem dX11_keeper_36 : decode cX11_keeper 36 = .ok (.invokespecial 93, 3) := by decide +kernel
theorem dX11_keeper_39 : decode cX11_keeper 39 = .ok (.invokevirtual 96, 3) := by decide +kernel
theorem dX11_keeper_42 : decode cX11_keeper 42 = .ok (.pop, 1) := by decide +kernel
theorem dX11_keeper_43 : decode cX11_keeper 43 = .ok (.aload_n 0, 1) := by decide +kernel
theorem dX11_keeper_44 : decode cX11_keeper 44 = .ok (.getfield 10, 3) := by decide +kernel
theorem dX11_keeper_47 : decode cX11_keeper 47 = .ok (.invokevirtual 87, 3) := by decide +kernel
theorem dX11_keeper_50 : decode cX11_keeper 50 = .ok (.iconst 1, 1) := by decide +kernel
theorem dX11_keeper_51 : decode cX11_keeper 51 = .ok (.isub, 1) := by decide +kernel
theorem dX11_keeper_52 : decode cX11_keeper 52 = .ok (.ireturn, 1) := by decide +kernel
theorem dX11_worker_0 : decode cX11_worker 0 = .ok (.aload_n 0, 1) := by decide +kernel
theorem dX11_worker_1 : decode cX11_worker 1 = .ok (.iload_n 1, 1) := by decide +kernel
theorem dX11_worker_2 : decode cX11_worker 2 = .ok (.iload_n 2, 1) := by decide +kernel
theorem dX11_worker_3 : decode cX11_worker 3 = .ok (.invokevirtual 83, 3) := by decide +kernel
theorem dX11_worker_6 : decode cX11_worker 6 = .ok (.ifCond .ne 6, 3) := by decide +kernel
theorem dX11_worker_9 : decode cX11_worker 9 = .ok (.bipush (-2), 2) := by decide +kernel
theorem dX11_worker_11 : decode cX11_worker 11 = .ok (.ireturn, 1) := by decide +kernel
theorem dX11_worker_12 : decode cX11_worker 12 = .ok (.aload_n 0, 1) := by decide +kernel
theorem dX11_worker_13 : decode cX11_worker 13 = .ok (.getfield 16, 3) := by decide +kernel
theorem dX11_worker_16 : decode cX11_worker 16 = .ok (.invokevirtual 87, 3) := by decide +kernel
theorem dX11_worker_19 : decode cX11_worker 19 = .ok (.bipush 20, 2) := by decide +kernel
theorem dX11_worker_21 : decode cX11_worker 21 = .ok (.if_icmp .lt 6, 3) := by decide +kernel
theorem dX11_worker_24 : decode cX11_worker 24 = .ok (.bipush (-4), 2) := by decide +kernel
theorem dX11_worker_26 : decode cX11_worker 26 = .ok (.ireturn, 1) := by decide +kernel
theorem dX11_worker_27 : decode cX11_worker 27 = .ok (.aload_n 0, 1) := by decide +kernel
theorem dX11_worker_28 : decode cX11_worker 28 = .ok (.getfield 16, 3) := by decide +kernel
theorem dX11_worker_31 : decode cX11_worker 31 = .ok (.new 100, 3) := by decide +kernel
theorem dX11_worker_34 : decode cX11_worker 34 = .ok (.dup, 1) := by decide +kernel
theorem dX11_worker_35 : decode cX11_worker 35 = .ok (.iload_n 1, 1) := by decide +kernel
theorem dX11_worker_36 : decode cX11_worker 36 = .ok (.iload_n 2, 1) := by decide +kernel
theorem dX11_worker_37 : decode cX11_worker 37 = .ok (.invokespecial 102, 3) := by decide +kernel
theorem dX11_worker_40 : decode cX11_worker 40 = .ok (.invokevirtual 96, 3) := by decide +kernel
theorem dX11_worker_43 : decode cX11_worker 43 = .ok (.pop, 1) := by decide +kernel
theorem dX11_worker_44 : decode cX11_worker 44 = .ok (.aload_n 0, 1) := by decide +kernel
theorem dX11_worker_45 : decode cX11_worker 45 = .ok (.getfield 16, 3) := by decide +kernel
theorem dX11_worker_48 : decode cX11_worker 48 = .ok (.invokevirtual 87, 3) := by decide +kernel
theorem dX11_worker_51 : decode cX11_worker 51 = .ok (.iconst 1, 1) := by decide +kernel
theorem dX11_worker_52 : decode cX11_worker 52 = .ok (.isub, 1) := by decide +kernel
theorem dX11_worker_53 : decode cX11_worker 53 = .ok (.ireturn, 1) := by decide +kernel
theorem dX11_thing_0 : decode cX11_thing 0 = .ok (.iload_n 1, 1) := by decide +kernel
theorem dX11_thing_1 : decode cX11_thing 1 = .ok (.iconst 2, 1) := by decide +kernel
theorem dX11_thing_2 : decode cX11_thing 2 = .ok (.if_icmp .ne 7, 3) := by decide +kernel
theorem dX11_thing_5 : decode cX11_thing 5 = .ok (.iconst 1, 1) := by decide +kernel
theorem dX11_thing_6 : decode cX11_thing 6 = .ok (.goto 4, 3) := by decide +kernel
theorem dX11_thing_9 : decode cX11_thing 9 = .ok (.iconst 0, 1) := by decide +kernel
theorem dX11_thing_10 : decode cX11_thing 10 = .ok (.istore 4, 2) := by decide +kernel
theorem dX11_thing_12 : decode cX11_thing 12 = .ok (.iload_n 1, 1) := by decide +kernel
theorem dX11_thing_13 : decode cX11_thing 13 = .ok (.iconst 2, 1) := by decide +kernel
theorem dX11_thing_14 : decode cX11_thing 14 = .ok (.if_icmp .ne 8, 3) := by decide +kernel
theorem dX11_thing_17 : decode cX11_thing 17 = .ok (.bipush 100, 2) := by decide +kernel
theorem dX11_thing_19 : decode cX11_thing 19 = .ok (.goto 4, 3) := by decide +kernel
theorem dX11_thing_22 : decode cX11_thing 22 = .ok (.iconst 0, 1) := by decide +kernel
theorem dX11_thing_23 : decode cX11_thing 23 = .ok (.istore 5, 2) := by decide +kernel
theorem dX11_thing_25 : decode cX11_thing 25 = .ok (.iload_n 1, 1) := by decide +kernel
theorem dX11_thing_26 : decode cX11_thing 26 = .ok (.iconst 0, 1) := by decide +kernel
theorem dX11_thing_27 : decode cX11_thing 27 = .ok (.iconst 4, 1) := by decide +kernel
theorem dX11_thing_28 : decode cX11_thing 28 = .ok (.invokestatic 103, 3) := by decide +kernel
theorem dX11_thing_31 : decode cX11_thing 31 = .ok (.ifCond .eq 25, 3) := by decide +kernel
theorem dX11_thing_34 : decode cX11_thing 34 = .ok (.iload_n 2, 1) := by decide +kernel
theorem dX11_thing_35 : decode cX11_thing 35 = .ok (.iconst 1, 1) := by decide +kernel
theorem dX11_thing_36 : decode cX11_thing 36 = .ok (.sipush 1000, 3) := by decide +kernel
theorem dX11_thing_39 : decode cX11_thing 39 = .ok (.invokestatic 103, 3) := by decide +kernel
theorem dX11_thing_42 : decode cX11_thing 42 = .ok (.ifCond .eq 14, 3) := by decide +kernel
theorem dX11_thing_45 : decode cX11_thing 45 = .ok (.iload_n 3, 1) := by decide +kernel
theorem dX11_thing_46 : decode cX11_thing 46 = .ok (.iload 4, 2) := by decide +kernel
theorem dX11_thing_48 : decode cX11_thing 48 = .ok (.iload 5, 2) := by decide +kernel
theorem dX11_thing_50 : decode cX11_thing 50 = .ok (.invokestatic 103, 3) := by decide +kernel
theorem dX11_thing_53 : decode cX11_thing 53 = .ok (.ifCond .ne 6, 3) := by decide +kernel
theorem dX11_thing_56 : decode cX11_thing 56 = .ok (.bipush (-2), 2) := by decide +kernel
theorem dX11_thing_58 : decode cX11_thing 58 = .ok (.ireturn, 1) := by decide +kernel
theorem dX11_thing_59 : decode cX11_thing 59 = .ok (.aload_n 0, 1) := by decide +kernel
theorem dX11_thing_60 : decode cX11_thing 60 = .ok (.getfield 19, 3) := by decide +kernel
theorem dX11_thing_63 : decode cX11_thing 63 = .ok (.invokevirtual 87, 3) := by decide +kernel
theorem dX11_thing_66 : decode cX11_thing 66 = .ok (.bipush 20, 2) := by decide +kernel
theorem dX11_thing_68 : decode cX11_thing 68 = .ok (.if_icmp .lt 6, 3) := by decide +kernel
theorem dX11_thing_71 : decode cX11_thing 71 = .ok (.bipush (-4), 2) := by decide +kernel
theorem dX11_thing_73 : decode cX11_thing 73 = .ok (.ireturn, 1) := by decide +kernel
theorem dX11_thing_74 : decode cX11_thing 74 = .ok (.aload_n 0, 1) := by decide +kernel
theorem dX11_thing_75 : decode cX11_thing 75 = .ok (.getfield 19, 3) := by decide +kernel
theorem dX11_thing_78 : decode cX11_thing 78 = .ok (.aload_n 0, 1) := by decide +kernel
theorem dX11_thing_79 : decode cX11_thing 79 = .ok (.iload_n 1, 1) := by decide +kernel
theorem dX11_thing_80 : decode cX11_thing 80 = .ok (.iload_n 2, 1) := by decide +kernel
theorem dX11_thing_81 : decode cX11_thing 81 = .ok (.iload_n 3, 1) := by decide +kernel
theorem dX11_thing_82 : decode cX11_thing 82 = .ok (.invokevirtual 107, 3) := by decide +kernel
theorem dX11_thing_85 : decode cX11_thing 85 = .ok (.invokevirtual 96, 3) := by decide +kernel
theorem dX11_thing_88 : decode cX11_thing 88 = .ok (.pop, 1) := by decide +kernel
theorem dX11_thing_89 : decode cX11_thing 89 = .ok (.aload_n 0, 1) := by decide +kernel
theorem dX11_thing_90 : decode cX11_thing 90 = .ok (.getfield 19, 3) := by decide +kernel
theorem dX11_thing_93 : decode cX11_thing 93 = .ok (.invokevirtual 87, 3) := by decide +kernel
theorem dX11_thing_96 : decode cX11_thing 96 = .ok (.iconst 1, 1) := by decide +kernel
theorem dX11_thing_97 : decode cX11_thing 97 = .ok (.isub, 1) := by decide +kernel
theorem dX11_thing_98 : decode cX11_thing 98 = .ok (.ireturn, 1) := by decide +kernel
theorem dX11_store_0 : decode cX11_store 0 = .ok (.aload_n 0, 1) := by decide +kernel
theorem dX11_store_1 : decode cX11_store 1 = .ok (.getfield 39, 3) := by decide +kernel
theorem dX11_store_4 : decode cX11_store 4 = .ok (.bipush 6, 2) := by decide +kernel
theorem dX11_store_6 : decode cX11_store 6 = .ok (.if_icmp .lt 6, 3) := by decide +kernel
theorem dX11_store_9 : decode cX11_store 9 = .ok (.bipush (-4), 2) := by decide +kernel
theorem dX11_store_11 : decode cX11_store 11 = .ok (.ireturn, 1) := by decide +kernel
theorem dX11_store_12 : decode cX11_store 12 = .ok (.aload_n 0, 1) := by decide +kernel
theorem dX11_store_13 : decode cX11_store 13 = .ok (.dup, 1) := by decide +kernel
theorem dX11_store_14 : decode cX11_store 14 = .ok (.getfield 39, 3) := by decide +kernel
theorem dX11_store_17 : decode cX11_store 17 = .ok (.iconst 1, 1) := by decide +kernel
theorem dX11_store_18 : decode cX11_store 18 = .ok (.iadd, 1) := by decide +kernel
theorem dX11_store_19 : decode cX11_store 19 = .ok (.putfield 39, 3) := by decide +kernel
theorem dX11_store_22 : decode cX11_store 22 = .ok (.aload_n 0, 1) := by decide +kernel
theorem dX11_store_23 : decode cX11_store 23 = .ok (.getfield 39, 3) := by decide +kernel
theorem dX11_store_26 : decode cX11_store 26 = .ok (.iconst 1, 1) := by decide +kernel
theorem dX11_store_27 : decode cX11_store 27 = .ok (.isub, 1) := by decide +kernel
theorem dX11_store_28 : decode cX11_store 28 = .ok (.ireturn, 1) := by decide +kernel
theorem dX11_tick_0 : decode cX11_tick 0 = .ok (.iload_n 1, 1) := by decide +kernel
theorem dX11_tick_1 : decode cX11_tick 1 = .ok (.iconst 0, 1) := by decide +kernel
theorem dX11_tick_2 : decode cX11_tick 2 = .ok (.ldc 111, 2) := by decide +kernel
theorem dX11_tick_4 : decode cX11_tick 4 = .ok (.invokestatic 103, 3) := by decide +kernel
theorem dX11_tick_7 : decode cX11_tick 7 = .ok (.ifCond .ne 6, 3) := by decide +kernel
theorem dX11_tick_10 : decode cX11_tick 10 = .ok (.bipush (-2), 2) := by decide +kernel
theorem dX11_tick_12 : decode cX11_tick 12 = .ok (.ireturn, 1) := by decide +kernel
theorem dX11_tick_13 : decode cX11_tick 13 = .ok (.aload_n 0, 1) := by decide +kernel
theorem dX11_tick_14 : decode cX11_tick 14 = .ok (.getfield 43, 3) := by decide +kernel
theorem dX11_tick_17 : decode cX11_tick 17 = .ok (.iload_n 1, 1) := by decide +kernel
theorem dX11_tick_18 : decode cX11_tick 18 = .ok (.iadd, 1) := by decide +kernel
theorem dX11_tick_19 : decode cX11_tick 19 = .ok (.ldc 112, 2) := by decide +kernel
theorem dX11_tick_21 : decode cX11_tick 21 = .ok (.if_icmp .le 6, 3) := by decide +kernel
theorem dX11_tick_24 : decode cX11_tick 24 = .ok (.bipush (-4), 2) := by decide +kernel
theorem dX11_tick_26 : decode cX11_tick 26 = .ok (.ireturn, 1) := by decide +kernel
theorem dX11_tick_27 : decode cX11_tick 27 = .ok (.aload_n 0, 1) := by decide +kernel
theorem dX11_tick_28 : decode cX11_tick 28 = .ok (.dup, 1) := by decide +kernel
theorem dX11_tick_29 : decode cX11_tick 29 = .ok (.getfield 43, 3) := by decide +kernel
theorem dX11_tick_32 : decode cX11_tick 32 = .ok (.iload_n 1, 1) := by decide +kernel
theorem dX11_tick_33 : decode cX11_tick 33 = .ok (.iadd, 1) := by decide +kernel
theorem dX11_tick_34 : decode cX11_tick 34 = .ok (.putfield 43, 3) := by decide +kernel
theorem dX11_tick_37 : decode cX11_tick 37 = .ok (.aload_n 0, 1) := by decide +kernel
theorem dX11_tick_38 : decode cX11_tick 38 = .ok (.getfield 43, 3) := by decide +kernel
theorem dX11_tick_41 : decode cX11_tick 41 = .ok (.ireturn, 1) := by decide +kernel
theorem dX11_clock_0 : decode cX11_clock 0 = .ok (.aload_n 0, 1) := by decide +kernel
theorem dX11_clock_1 : decode cX11_clock 1 = .ok (.iload_n 1, 1) := by decide +kernel
theorem dX11_clock_2 : decode cX11_clock 2 = .ok (.iload_n 2, 1) := by decide +kernel
theorem dX11_clock_3 : decode cX11_clock 3 = .ok (.invokevirtual 113, 3) := by decide +kernel
theorem dX11_clock_6 : decode cX11_clock 6 = .ok (.astore_n 3, 1) := by decide +kernel
theorem dX11_clock_7 : decode cX11_clock 7 = .ok (.aload_n 3, 1) := by decide +kernel
theorem dX11_clock_8 : decode cX11_clock 8 = .ok (.ifnonnull 9, 3) := by decide +kernel
theorem dX11_clock_11 : decode cX11_clock 11 = .ok (.ldc2_w 117, 3) := by decide +kernel
theorem dX11_clock_14 : decode cX11_clock 14 = .ok (.goto 11, 3) := by decide +kernel
theorem dX11_clock_17 : decode cX11_clock 17 = .ok (.aload_n 3, 1) := by decide +kernel
theorem dX11_clock_18 : decode cX11_clock 18 = .ok (.aload_n 0, 1) := by decide +kernel
theorem dX11_clock_19 : decode cX11_clock 19 = .ok (.getfield 43, 3) := by decide +kernel
theorem dX11_clock_22 : decode cX11_clock 22 = .ok (.invokevirtual 119, 3) := by decide +kernel
theorem dX11_clock_25 : decode cX11_clock 25 = .ok (.lreturn, 1) := by decide +kernel
theorem dX11_wake_0 : decode cX11_wake 0 = .ok (.aload_n 0, 1) := by decide +kernel
theorem dX11_wake_1 : decode cX11_wake 1 = .ok (.iload_n 1, 1) := by decide +kernel
theorem dX11_wake_2 : decode cX11_wake 2 = .ok (.iload_n 2, 1) := by decide +kernel
theorem dX11_wake_3 : decode cX11_wake 3 = .ok (.invokevirtual 113, 3) := by decide +kernel
theorem dX11_wake_6 : decode cX11_wake 6 = .ok (.astore 4, 2) := by decide +kernel
theorem dX11_wake_8 : decode cX11_wake 8 = .ok (.aload 4, 2) := by decide +kernel
theorem dX11_wake_10 : decode cX11_wake 10 = .ok (.ifnonnull 6, 3) := by decide +kernel
theorem dX11_wake_13 : decode cX11_wake 13 = .ok (.bipush (-2), 2) := by decide +kernel
theorem dX11_wake_15 : decode cX11_wake 15 = .ok (.ireturn, 1) := by decide +kernel
theorem dX11_wake_16 : decode cX11_wake 16 = .ok (.aload 4, 2) := by decide +kernel
theorem dX11_wake_18 : decode cX11_wake 18 = .ok (.getfield 123, 3) := by decide +kernel
theorem dX11_wake_21 : decode cX11_wake 21 = .ok (.istore 5, 2) := by decide +kernel
theorem dX11_wake_23 : decode cX11_wake 23 = .ok (.aload 4, 2) := by decide +kernel
theorem dX11_wake_25 : decode cX11_wake 25 = .ok (.iload_n 3, 1) := by decide +kernel
theorem dX11_wake_26 : decode cX11_wake 26 = .ok (.putfield 123, 3) := by decide +kernel
theorem dX11_wake_29 : decode cX11_wake 29 = .ok (.iload_n 1, 1) := by decide +kernel
theorem dX11_wake_30 : decode cX11_wake 30 = .ok (.ifCond .ne 20, 3) := by decide +kernel
theorem dX11_wake_33 : decode cX11_wake 33 = .ok (.iload_n 2, 1) := by decide +kernel
theorem dX11_wake_34 : decode cX11_wake 34 = .ok (.aload_n 0, 1) := by decide +kernel
theorem dX11_wake_35 : decode cX11_wake 35 = .ok (.getfield 46, 3) := by decide +kernel
theorem dX11_wake_38 : decode cX11_wake 38 = .ok (.if_icmp .ne 12, 3) := by decide +kernel
theorem dX11_wake_41 : decode cX11_wake 41 = .ok (.iload_n 3, 1) := by decide +kernel
theorem dX11_wake_42 : decode cX11_wake 42 = .ok (.ifCond .ne 8, 3) := by decide +kernel
theorem dX11_wake_45 : decode cX11_wake 45 = .ok (.aload_n 0, 1) := by decide +kernel
theorem dX11_wake_46 : decode cX11_wake 46 = .ok (.iconst (-1), 1) := by decide +kernel
theorem dX11_wake_47 : decode cX11_wake 47 = .ok (.putfield 46, 3) := by decide +kernel
theorem dX11_wake_50 : decode cX11_wake 50 = .ok (.iload 5, 2) := by decide +kernel
theorem dX11_wake_52 : decode cX11_wake 52 = .ok (.iload_n 3, 1) := by decide +kernel
theorem dX11_wake_53 : decode cX11_wake 53 = .ok (.if_icmp .ne 7, 3) := by decide +kernel
theorem dX11_wake_56 : decode cX11_wake 56 = .ok (.iconst 0, 1) := by decide +kernel
theorem dX11_wake_57 : decode cX11_wake 57 = .ok (.goto 4, 3) := by decide +kernel
theorem dX11_wake_60 : decode cX11_wake 60 = .ok (.iconst 1, 1) := by decide +kernel
theorem dX11_wake_61 : decode cX11_wake 61 = .ok (.ireturn, 1) := by decide +kernel
theorem dX11_fall_0 : decode cX11_fall 0 = .ok (.aload_n 0, 1) := by decide +kernel
theorem dX11_fall_1 : decode cX11_fall 1 = .ok (.iload_n 1, 1) := by decide +kernel
theorem dX11_fall_2 : decode cX11_fall 2 = .ok (.invokevirtual 127, 3) := by decide +kernel
theorem dX11_fall_5 : decode cX11_fall 5 = .ok (.astore_n 2, 1) := by decide +kernel
theorem dX11_fall_6 : decode cX11_fall 6 = .ok (.aload_n 2, 1) := by decide +kernel
theorem dX11_fall_7 : decode cX11_fall 7 = .ok (.ifnonnull 6, 3) := by decide +kernel
theorem dX11_fall_10 : decode cX11_fall 10 = .ok (.bipush (-2), 2) := by decide +kernel
theorem dX11_fall_12 : decode cX11_fall 12 = .ok (.ireturn, 1) := by decide +kernel
theorem dX11_fall_13 : decode cX11_fall 13 = .ok (.iconst 0, 1) := by decide +kernel
theorem dX11_fall_14 : decode cX11_fall 14 = .ok (.istore_n 3, 1) := by decide +kernel
theorem dX11_fall_15 : decode cX11_fall 15 = .ok (.iconst 0, 1) := by decide +kernel
theorem dX11_fall_16 : decode cX11_fall 16 = .ok (.istore 4, 2) := by decide +kernel
theorem dX11_fall_18 : decode cX11_fall 18 = .ok (.iload 4, 2) := by decide +kernel
theorem dX11_fall_20 : decode cX11_fall 20 = .ok (.aload_n 0, 1) := by decide +kernel
theorem dX11_fall_21 : decode cX11_fall 21 = .ok (.getfield 19, 3) := by decide +kernel
theorem dX11_fall_24 : decode cX11_fall 24 = .ok (.invokevirtual 87, 3) := by decide +kernel
theorem dX11_fall_27 : decode cX11_fall 27 = .ok (.if_icmp .ge 43, 3) := by decide +kernel
theorem dX11_fall_30 : decode cX11_fall 30 = .ok (.aload_n 2, 1) := by decide +kernel
theorem dX11_fall_31 : decode cX11_fall 31 = .ok (.iload 4, 2) := by decide +kernel
theorem dX11_fall_33 : decode cX11_fall 33 = .ok (.invokevirtual 131, 3) := by decide +kernel
theorem dX11_fall_36 : decode cX11_fall 36 = .ok (.astore 5, 2) := by decide +kernel
theorem dX11_fall_38 : decode cX11_fall 38 = .ok (.aload 5, 2) := by decide +kernel
theorem dX11_fall_40 : decode cX11_fall 40 = .ok (.ifnull 24, 3) := by decide +kernel
theorem dX11_fall_43 : decode cX11_fall 43 = .ok (.iload_n 3, 1) := by decide +kernel
theorem dX11_fall_44 : decode cX11_fall 44 = .ok (.aload 5, 2) := by decide +kernel
theorem dX11_fall_46 : decode cX11_fall 46 = .ok (.getfield 135, 3) := by decide +kernel
theorem dX11_fall_49 : decode cX11_fall 49 = .ok (.ifCond .eq 7, 3) := by decide +kernel
theorem dX11_fall_52 : decode cX11_fall 52 = .ok (.iconst 1, 1) := by decide +kernel
theorem dX11_fall_53 : decode cX11_fall 53 = .ok (.goto 4, 3) := by decide +kernel
theorem dX11_fall_56 : decode cX11_fall 56 = .ok (.iconst 0, 1) := by decide +kernel
theorem dX11_fall_57 : decode cX11_fall 57 = .ok (.iadd, 1) := by decide +kernel
theorem dX11_fall_58 : decode cX11_fall 58 = .ok (.istore_n 3, 1) := by decide +kernel
theorem dX11_fall_59 : decode cX11_fall 59 = .ok (.aload 5, 2) := by decide +kernel
theorem dX11_fall_61 : decode cX11_fall 61 = .ok (.invokevirtual 140, 3) := by decide +kernel
theorem dX11_fall_64 : decode cX11_fall 64 = .ok (.iinc 4 1, 3) := by decide +kernel
theorem dX11_fall_67 : decode cX11_fall 67 = .ok (.goto (-49), 3) := by decide +kernel
theorem dX11_fall_70 : decode cX11_fall 70 = .ok (.aload_n 2, 1) := by decide +kernel
theorem dX11_fall_71 : decode cX11_fall 71 = .ok (.iconst 0, 1) := by decide +kernel
theorem dX11_fall_72 : decode cX11_fall 72 = .ok (.putfield 143, 3) := by decide +kernel
theorem dX11_fall_75 : decode cX11_fall 75 = .ok (.iload_n 3, 1) := by decide +kernel
theorem dX11_fall_76 : decode cX11_fall 76 = .ok (.ireturn, 1) := by decide +kernel
theorem dX11_lead_0 : decode cX11_lead 0 = .ok (.aload_n 0, 1) := by decide +kernel
theorem dX11_lead_1 : decode cX11_lead 1 = .ok (.iload_n 1, 1) := by decide +kernel
theorem dX11_lead_2 : decode cX11_lead 2 = .ok (.invokevirtual 144, 3) := by decide +kernel
theorem dX11_lead_5 : decode cX11_lead 5 = .ok (.astore_n 2, 1) := by decide +kernel
theorem dX11_lead_6 : decode cX11_lead 6 = .ok (.aload_n 2, 1) := by decide +kernel
theorem dX11_lead_7 : decode cX11_lead 7 = .ok (.ifnonnull 6, 3) := by decide +kernel
theorem dX11_lead_10 : decode cX11_lead 10 = .ok (.bipush (-2), 2) := by decide +kernel
theorem dX11_lead_12 : decode cX11_lead 12 = .ok (.ireturn, 1) := by decide +kernel
theorem dX11_lead_13 : decode cX11_lead 13 = .ok (.aload_n 2, 1) := by decide +kernel
theorem dX11_lead_14 : decode cX11_lead 14 = .ok (.getfield 123, 3) := by decide +kernel
theorem dX11_lead_17 : decode cX11_lead 17 = .ok (.ifCond .eq 10, 3) := by decide +kernel
theorem dX11_lead_20 : decode cX11_lead 20 = .ok (.aload_n 0, 1) := by decide +kernel
theorem dX11_lead_21 : decode cX11_lead 21 = .ok (.invokevirtual 148, 3) := by decide +kernel
theorem dX11_lead_24 : decode cX11_lead 24 = .ok (.ifCond .ne 6, 3) := by decide +kernel
theorem dX11_lead_27 : decode cX11_lead 27 = .ok (.bipush (-3), 2) := by decide +kernel
theorem dX11_lead_29 : decode cX11_lead 29 = .ok (.ireturn, 1) := by decide +kernel
theorem dX11_lead_30 : decode cX11_lead 30 = .ok (.aload_n 0, 1) := by decide +kernel
theorem dX11_lead_31 : decode cX11_lead 31 = .ok (.dup, 1) := by decide +kernel
theorem dX11_lead_32 : decode cX11_lead 32 = .ok (.getfield 49, 3) := by decide +kernel
theorem dX11_lead_35 : decode cX11_lead 35 = .ok (.iconst 1, 1) := by decide +kernel
theorem dX11_lead_36 : decode cX11_lead 36 = .ok (.iadd, 1) := by decide +kernel
theorem dX11_lead_37 : decode cX11_lead 37 = .ok (.putfield 49, 3) := by decide +kernel
theorem dX11_lead_40 : decode cX11_lead 40 = .ok (.aload_n 0, 1) := by decide +kernel
theorem dX11_lead_41 : decode cX11_lead 41 = .ok (.iload_n 1, 1) := by decide +kernel
theorem dX11_lead_42 : decode cX11_lead 42 = .ok (.putfield 46, 3) := by decide +kernel
theorem dX11_lead_45 : decode cX11_lead 45 = .ok (.aload_n 0, 1) := by decide +kernel
theorem dX11_lead_46 : decode cX11_lead 46 = .ok (.aload_n 2, 1) := by decide +kernel
theorem dX11_lead_47 : decode cX11_lead 47 = .ok (.aload_n 0, 1) := by decide +kernel
theorem dX11_lead_48 : decode cX11_lead 48 = .ok (.getfield 43, 3) := by decide +kernel
theorem dX11_lead_51 : decode cX11_lead 51 = .ok (.invokevirtual 119, 3) := by decide +kernel
theorem dX11_lead_54 : decode cX11_lead 54 = .ok (.invokevirtual 152, 3) := by decide +kernel
theorem dX11_lead_57 : decode cX11_lead 57 = .ok (.aload_n 0, 1) := by decide +kernel
theorem dX11_lead_58 : decode cX11_lead 58 = .ok (.getfield 49, 3) := by decide +kernel
theorem dX11_lead_61 : decode cX11_lead 61 = .ok (.ireturn, 1) := by decide +kernel
theorem dX11_ask_0 : decode cX11_ask 0 = .ok (.aload_n 0, 1) := by decide +kernel
theorem dX11_ask_1 : decode cX11_ask 1 = .ok (.iload_n 1, 1) := by decide +kernel
theorem dX11_ask_2 : decode cX11_ask 2 = .ok (.invokevirtual 127, 3) := by decide +kernel
theorem dX11_ask_5 : decode cX11_ask 5 = .ok (.astore 6, 2) := by decide +kernel
theorem dX11_ask_7 : decode cX11_ask 7 = .ok (.aload_n 0, 1) := by decide +kernel
theorem dX11_ask_8 : decode cX11_ask 8 = .ok (.iload_n 3, 1) := by decide +kernel
theorem dX11_ask_9 : decode cX11_ask 9 = .ok (.invokevirtual 156, 3) := by decide +kernel
theorem dX11_ask_12 : decode cX11_ask 12 = .ok (.astore 7, 2) := by decide +kernel
theorem dX11_ask_14 : decode cX11_ask 14 = .ok (.aload 6, 2) := by decide +kernel
theorem dX11_ask_16 : decode cX11_ask 16 = .ok (.ifnull 28, 3) := by decide +kernel
theorem dX11_ask_19 : decode cX11_ask 19 = .ok (.aload 7, 2) := by decide +kernel
theorem dX11_ask_21 : decode cX11_ask 21 = .ok (.ifnull 23, 3) := by decide +kernel
theorem dX11_ask_24 : decode cX11_ask 24 = .ok (.aload_n 0, 1) := by decide +kernel
theorem dX11_ask_25 : decode cX11_ask 25 = .ok (.iload_n 2, 1) := by decide +kernel
theorem dX11_ask_26 : decode cX11_ask 26 = .ok (.invokevirtual 144, 3) := by decide +kernel
theorem dX11_ask_29 : decode cX11_ask 29 = .ok (.ifnull 15, 3) := by decide +kernel
theorem dX11_ask_32 : decode cX11_ask 32 = .ok (.aload 7, 2) := by decide +kernel
theorem dX11_ask_34 : decode cX11_ask 34 = .ok (.iload 4, 2) := by decide +kernel
theorem dX11_ask_36 : decode cX11_ask 36 = .ok (.iload 5, 2) := by decide +kernel
theorem dX11_ask_38 : decode cX11_ask 38 = .ok (.invokevirtual 160, 3) := by decide +kernel
theorem dX11_ask_41 : decode cX11_ask 41 = .ok (.ifCond .ne 6, 3) := by decide +kernel
theorem dX11_ask_44 : decode cX11_ask 44 = .ok (.bipush (-2), 2) := by decide +kernel
theorem dX11_ask_46 : decode cX11_ask 46 = .ok (.ireturn, 1) := by decide +kernel
theorem dX11_ask_47 : decode cX11_ask 47 = .ok (.aload 6, 2) := by decide +kernel
theorem dX11_ask_49 : decode cX11_ask 49 = .ok (.getfield 143, 3) := by decide +kernel
theorem dX11_ask_52 : decode cX11_ask 52 = .ok (.ifCond .ne 6, 3) := by decide +kernel
theorem dX11_ask_55 : decode cX11_ask 55 = .ok (.bipush (-3), 2) := by decide +kernel
theorem dX11_ask_57 : decode cX11_ask 57 = .ok (.ireturn, 1) := by decide +kernel
theorem dX11_ask_58 : decode cX11_ask 58 = .ok (.aload_n 0, 1) := by decide +kernel
theorem dX11_ask_59 : decode cX11_ask 59 = .ok (.iconst 1, 1) := by decide +kernel
theorem dX11_ask_60 : decode cX11_ask 60 = .ok (.invokevirtual 165, 3) := by decide +kernel
theorem dX11_ask_63 : decode cX11_ask 63 = .ok (.ifCond .ne 6, 3) := by decide +kernel
theorem dX11_ask_66 : decode cX11_ask 66 = .ok (.bipush (-4), 2) := by decide +kernel
theorem dX11_ask_68 : decode cX11_ask 68 = .ok (.ireturn, 1) := by decide +kernel
theorem dX11_ask_69 : decode cX11_ask 69 = .ok (.new 169, 3) := by decide +kernel
theorem dX11_ask_72 : decode cX11_ask 72 = .ok (.dup, 1) := by decide +kernel
theorem dX11_ask_73 : decode cX11_ask 73 = .ok (.iconst 0, 1) := by decide +kernel
theorem dX11_ask_74 : decode cX11_ask 74 = .ok (.iload_n 1, 1) := by decide +kernel
theorem dX11_ask_75 : decode cX11_ask 75 = .ok (.iload_n 2, 1) := by decide +kernel
theorem dX11_ask_76 : decode cX11_ask 76 = .ok (.iload_n 3, 1) := by decide +kernel
theorem dX11_ask_77 : decode cX11_ask 77 = .ok (.invokespecial 171, 3) := by decide +kernel
theorem dX11_ask_80 : decode cX11_ask 80 = .ok (.astore 8, 2) := by decide +kernel
theorem dX11_ask_82 : decode cX11_ask 82 = .ok (.aload 8, 2) := by decide +kernel
theorem dX11_ask_84 : decode cX11_ask 84 = .ok (.iload 4, 2) := by decide +kernel
theorem dX11_ask_86 : decode cX11_ask 86 = .ok (.iload 5, 2) := by decide +kernel
theorem dX11_ask_88 : decode cX11_ask 88 = .ok (.lconst 0, 1) := by decide +kernel
theorem dX11_ask_89 : decode cX11_ask 89 = .ok (.invokevirtual 174, 3) := by decide +kernel
theorem dX11_ask_92 : decode cX11_ask 92 = .ok (.aload_n 0, 1) := by decide +kernel
theorem dX11_ask_93 : decode cX11_ask 93 = .ok (.aload 8, 2) := by decide +kernel
theorem dX11_ask_95 : decode cX11_ask 95 = .ok (.invokevirtual 178, 3) := by decide +kernel
theorem dX11_ask_98 : decode cX11_ask 98 = .ok (.ireturn, 1) := by decide +kernel
theorem dX11_renew_0 : decode cX11_renew 0 = .ok (.aload_n 0, 1) := by decide +kernel
theorem dX11_renew_1 : decode cX11_renew 1 = .ok (.iload_n 1, 1) := by decide +kernel
theorem dX11_renew_2 : decode cX11_renew 2 = .ok (.iload_n 2, 1) := by decide +kernel
theorem dX11_renew_3 : decode cX11_renew 3 = .ok (.iload_n 3, 1) := by decide +kernel
theorem dX11_renew_4 : decode cX11_renew 4 = .ok (.invokevirtual 182, 3) := by decide +kernel
theorem dX11_renew_7 : decode cX11_renew 7 = .ok (.istore 4, 2) := by decide +kernel
theorem dX11_renew_9 : decode cX11_renew 9 = .ok (.aload_n 0, 1) := by decide +kernel
theorem dX11_renew_10 : decode cX11_renew 10 = .ok (.iload_n 1, 1) := by decide +kernel
theorem dX11_renew_11 : decode cX11_renew 11 = .ok (.iload_n 3, 1) := by decide +kernel
theorem dX11_renew_12 : decode cX11_renew 12 = .ok (.invokevirtual 186, 3) := by decide +kernel
theorem dX11_renew_15 : decode cX11_renew 15 = .ok (.astore 5, 2) := by decide +kernel
theorem dX11_renew_17 : decode cX11_renew 17 = .ok (.iload 4, 2) := by decide +kernel
theorem dX11_renew_19 : decode cX11_renew 19 = .ok (.ifCond .ne 8, 3) := by decide +kernel
theorem dX11_renew_22 : decode cX11_renew 22 = .ok (.aload 5, 2) := by decide +kernel
theorem dX11_renew_24 : decode cX11_renew 24 = .ok (.ifnonnull 6, 3) := by decide +kernel
theorem dX11_renew_27 : decode cX11_renew 27 = .ok (.iload 4, 2) := by decide +kernel
theorem dX11_renew_29 : decode cX11_renew 29 = .ok (.ireturn, 1) := by decide +kernel
theorem dX11_renew_30 : decode cX11_renew 30 = .ok (.new 169, 3) := by decide +kernel
theorem dX11_renew_33 : decode cX11_renew 33 = .ok (.dup, 1) := by decide +kernel
theorem dX11_renew_34 : decode cX11_renew 34 = .ok (.iconst 1, 1) := by decide +kernel
theorem dX11_renew_35 : decode cX11_renew 35 = .ok (.iload_n 1, 1) := by decide +kernel
theorem dX11_renew_36 : decode cX11_renew 36 = .ok (.iload_n 2, 1) := by decide +kernel
theorem dX11_renew_37 : decode cX11_renew 37 = .ok (.iload_n 3, 1) := by decide +kernel
theorem dX11_renew_38 : decode cX11_renew 38 = .ok (.invokespecial 171, 3) := by decide +kernel
theorem dX11_renew_41 : decode cX11_renew 41 = .ok (.astore 6, 2) := by decide +kernel
theorem dX11_renew_43 : decode cX11_renew 43 = .ok (.aload 6, 2) := by decide +kernel
theorem dX11_renew_45 : decode cX11_renew 45 = .ok (.aload 5, 2) := by decide +kernel
theorem dX11_renew_47 : decode cX11_renew 47 = .ok (.getfield 190, 3) := by decide +kernel
theorem dX11_renew_50 : decode cX11_renew 50 = .ok (.aload 5, 2) := by decide +kernel
theorem dX11_renew_52 : decode cX11_renew 52 = .ok (.getfield 193, 3) := by decide +kernel
theorem dX11_renew_55 : decode cX11_renew 55 = .ok (.aload 5, 2) := by decide +kernel
theorem dX11_renew_57 : decode cX11_renew 57 = .ok (.getfield 196, 3) := by decide +kernel
theorem dX11_renew_60 : decode cX11_renew 60 = .ok (.invokevirtual 174, 3) := by decide +kernel
theorem dX11_renew_63 : decode cX11_renew 63 = .ok (.aload_n 0, 1) := by decide +kernel
theorem dX11_renew_64 : decode cX11_renew 64 = .ok (.aload 6, 2) := by decide +kernel
theorem dX11_renew_66 : decode cX11_renew 66 = .ok (.invokevirtual 178, 3) := by decide +kernel
theorem dX11_renew_69 : decode cX11_renew 69 = .ok (.ireturn, 1) := by decide +kernel
theorem dX11_end_0 : decode cX11_end 0 = .ok (.aload_n 0, 1) := by decide +kernel
theorem dX11_end_1 : decode cX11_end 1 = .ok (.iload_n 1, 1) := by decide +kernel
theorem dX11_end_2 : decode cX11_end 2 = .ok (.iload_n 2, 1) := by decide +kernel
theorem dX11_end_3 : decode cX11_end 3 = .ok (.iload_n 3, 1) := by decide +kernel
theorem dX11_end_4 : decode cX11_end 4 = .ok (.invokevirtual 182, 3) := by decide +kernel
theorem dX11_end_7 : decode cX11_end 7 = .ok (.istore 4, 2) := by decide +kernel
theorem dX11_end_9 : decode cX11_end 9 = .ok (.aload_n 0, 1) := by decide +kernel
theorem dX11_end_10 : decode cX11_end 10 = .ok (.iload_n 1, 1) := by decide +kernel
theorem dX11_end_11 : decode cX11_end 11 = .ok (.iload_n 3, 1) := by decide +kernel
theorem dX11_end_12 : decode cX11_end 12 = .ok (.invokevirtual 186, 3) := by decide +kernel
theorem dX11_end_15 : decode cX11_end 15 = .ok (.astore 5, 2) := by decide +kernel
theorem dX11_end_17 : decode cX11_end 17 = .ok (.iload 4, 2) := by decide +kernel
theorem dX11_end_19 : decode cX11_end 19 = .ok (.ifCond .ne 8, 3) := by decide +kernel
theorem dX11_end_22 : decode cX11_end 22 = .ok (.aload 5, 2) := by decide +kernel
theorem dX11_end_24 : decode cX11_end 24 = .ok (.ifnonnull 6, 3) := by decide +kernel
theorem dX11_end_27 : decode cX11_end 27 = .ok (.iload 4, 2) := by decide +kernel
theorem dX11_end_29 : decode cX11_end 29 = .ok (.ireturn, 1) := by decide +kernel
theorem dX11_end_30 : decode cX11_end 30 = .ok (.new 169, 3) := by decide +kernel
theorem dX11_end_33 : decode cX11_end 33 = .ok (.dup, 1) := by decide +kernel
theorem dX11_end_34 : decode cX11_end 34 = .ok (.iconst 2, 1) := by decide +kernel
theorem dX11_end_35 : decode cX11_end 35 = .ok (.iload_n 1, 1) := by decide +kernel
theorem dX11_end_36 : decode cX11_end 36 = .ok (.iload_n 2, 1) := by decide +kernel
theorem dX11_end_37 : decode cX11_end 37 = .ok (.iload_n 3, 1) := by decide +kernel
theorem dX11_end_38 : decode cX11_end 38 = .ok (.invokespecial 171, 3) := by decide +kernel
theorem dX11_end_41 : decode cX11_end 41 = .ok (.astore 6, 2) := by decide +kernel
theorem dX11_end_43 : decode cX11_end 43 = .ok (.aload 6, 2) := by decide +kernel
theorem dX11_end_45 : decode cX11_end 45 = .ok (.aload 5, 2) := by decide +kernel
theorem dX11_end_47 : decode cX11_end 47 = .ok (.getfield 190, 3) := by decide +kernel
theorem dX11_end_50 : decode cX11_end 50 = .ok (.aload 5, 2) := by decide +kernel
theorem dX11_end_52 : decode cX11_end 52 = .ok (.getfield 193, 3) := by decide +kernel
theorem dX11_end_55 : decode cX11_end 55 = .ok (.aload 5, 2) := by decide +kernel
theorem dX11_end_57 : decode cX11_end 57 = .ok (.getfield 196, 3) := by decide +kernel
theorem dX11_end_60 : decode cX11_end 60 = .ok (.invokevirtual 174, 3) := by decide +kernel
theorem dX11_end_63 : decode cX11_end 63 = .ok (.aload 5, 2) := by decide +kernel
theorem dX11_end_65 : decode cX11_end 65 = .ok (.invokevirtual 140, 3) := by decide +kernel
theorem dX11_end_68 : decode cX11_end 68 = .ok (.aload_n 0, 1) := by decide +kernel
theorem dX11_end_69 : decode cX11_end 69 = .ok (.aload 6, 2) := by decide +kernel
theorem dX11_end_71 : decode cX11_end 71 = .ok (.invokevirtual 200, 3) := by decide +kernel
theorem dX11_end_74 : decode cX11_end 74 = .ok (.ireturn, 1) := by decide +kernel
theorem dX11_rise_0 : decode cX11_rise 0 = .ok (.aload_n 0, 1) := by decide +kernel
theorem dX11_rise_1 : decode cX11_rise 1 = .ok (.iload_n 3, 1) := by decide +kernel
theorem dX11_rise_2 : decode cX11_rise 2 = .ok (.invokevirtual 156, 3) := by decide +kernel
theorem dX11_rise_5 : decode cX11_rise 5 = .ok (.instanceof 203, 3) := by decide +kernel
theorem dX11_rise_8 : decode cX11_rise 8 = .ok (.ifCond .ne 6, 3) := by decide +kernel
theorem dX11_rise_11 : decode cX11_rise 11 = .ok (.bipush (-2), 2) := by decide +kernel
theorem dX11_rise_13 : decode cX11_rise 13 = .ok (.ireturn, 1) := by decide +kernel
theorem dX11_rise_14 : decode cX11_rise 14 = .ok (.aload_n 0, 1) := by decide +kernel
theorem dX11_rise_15 : decode cX11_rise 15 = .ok (.iload_n 1, 1) := by decide +kernel
theorem dX11_rise_16 : decode cX11_rise 16 = .ok (.iload_n 2, 1) := by decide +kernel
theorem dX11_rise_17 : decode cX11_rise 17 = .ok (.iload_n 3, 1) := by decide +kernel
theorem dX11_rise_18 : decode cX11_rise 18 = .ok (.invokevirtual 182, 3) := by decide +kernel
theorem dX11_rise_21 : decode cX11_rise 21 = .ok (.istore 4, 2) := by decide +kernel
theorem dX11_rise_23 : decode cX11_rise 23 = .ok (.aload_n 0, 1) := by decide +kernel
theorem dX11_rise_24 : decode cX11_rise 24 = .ok (.iload_n 1, 1) := by decide +kernel
theorem dX11_rise_25 : decode cX11_rise 25 = .ok (.iload_n 3, 1) := by decide +kernel
theorem dX11_rise_26 : decode cX11_rise 26 = .ok (.invokevirtual 186, 3) := by decide +kernel
theorem dX11_rise_29 : decode cX11_rise 29 = .ok (.astore 5, 2) := by decide +kernel
theorem dX11_rise_31 : decode cX11_rise 31 = .ok (.iload 4, 2) := by decide +kernel
theorem dX11_rise_33 : decode cX11_rise 33 = .ok (.ifCond .ne 8, 3) := by decide +kernel
theorem dX11_rise_36 : decode cX11_rise 36 = .ok (.aload 5, 2) := by decide +kernel
theorem dX11_rise_38 : decode cX11_rise 38 = .ok (.ifnonnull 6, 3) := by decide +kernel
theorem dX11_rise_41 : decode cX11_rise 41 = .ok (.iload 4, 2) := by decide +kernel
theorem dX11_rise_43 : decode cX11_rise 43 = .ok (.ireturn, 1) := by decide +kernel
theorem dX11_rise_44 : decode cX11_rise 44 = .ok (.new 169, 3) := by decide +kernel
theorem dX11_rise_47 : decode cX11_rise 47 = .ok (.dup, 1) := by decide +kernel
theorem dX11_rise_48 : decode cX11_rise 48 = .ok (.iconst 3, 1) := by decide +kernel
theorem dX11_rise_49 : decode cX11_rise 49 = .ok (.iload_n 1, 1) := by decide +kernel
theorem dX11_rise_50 : decode cX11_rise 50 = .ok (.iload_n 2, 1) := by decide +kernel
theorem dX11_rise_51 : decode cX11_rise 51 = .ok (.iload_n 3, 1) := by decide +kernel
theorem dX11_rise_52 : decode cX11_rise 52 = .ok (.invokespecial 171, 3) := by decide +kernel
theorem dX11_rise_55 : decode cX11_rise 55 = .ok (.astore 6, 2) := by decide +kernel
theorem dX11_rise_57 : decode cX11_rise 57 = .ok (.aload 6, 2) := by decide +kernel
theorem dX11_rise_59 : decode cX11_rise 59 = .ok (.iconst 0, 1) := by decide +kernel
theorem dX11_rise_60 : decode cX11_rise 60 = .ok (.iconst 0, 1) := by decide +kernel
theorem dX11_rise_61 : decode cX11_rise 61 = .ok (.aload 5, 2) := by decide +kernel
theorem dX11_rise_63 : decode cX11_rise 63 = .ok (.getfield 196, 3) := by decide +kernel
theorem dX11_rise_66 : decode cX11_rise 66 = .ok (.invokevirtual 174, 3) := by decide +kernel
theorem dX11_rise_69 : decode cX11_rise 69 = .ok (.aload_n 0, 1) := by decide +kernel
theorem dX11_rise_70 : decode cX11_rise 70 = .ok (.aload 6, 2) := by decide +kernel
theorem dX11_rise_72 : decode cX11_rise 72 = .ok (.invokevirtual 178, 3) := by decide +kernel
theorem dX11_rise_75 : decode cX11_rise 75 = .ok (.ireturn, 1) := by decide +kernel
theorem dX11_deliver_0 : decode cX11_deliver 0 = .ok (.aload_n 0, 1) := by decide +kernel
theorem dX11_deliver_1 : decode cX11_deliver 1 = .ok (.iload_n 1, 1) := by decide +kernel
theorem dX11_deliver_2 : decode cX11_deliver 2 = .ok (.invokevirtual 205, 3) := by decide +kernel
theorem dX11_deliver_5 : decode cX11_deliver 5 = .ok (.astore_n 2, 1) := by decide +kernel
theorem dX11_deliver_6 : decode cX11_deliver 6 = .ok (.aload_n 2, 1) := by decide +kernel
theorem dX11_deliver_7 : decode cX11_deliver 7 = .ok (.ifnonnull 6, 3) := by decide +kernel
theorem dX11_deliver_10 : decode cX11_deliver 10 = .ok (.bipush (-2), 2) := by decide +kernel
theorem dX11_deliver_12 : decode cX11_deliver 12 = .ok (.ireturn, 1) := by decide +kernel
theorem dX11_deliver_13 : decode cX11_deliver 13 = .ok (.aload_n 2, 1) := by decide +kernel
theorem dX11_deliver_14 : decode cX11_deliver 14 = .ok (.getfield 209, 3) := by decide +kernel
theorem dX11_deliver_17 : decode cX11_deliver 17 = .ok (.ifCond .eq 6, 3) := by decide +kernel
theorem dX11_deliver_20 : decode cX11_deliver 20 = .ok (.bipush (-3), 2) := by decide +kernel
theorem dX11_deliver_22 : decode cX11_deliver 22 = .ok (.ireturn, 1) := by decide +kernel
theorem dX11_deliver_23 : decode cX11_deliver 23 = .ok (.aload_n 0, 1) := by decide +kernel
theorem dX11_deliver_24 : decode cX11_deliver 24 = .ok (.iconst 3, 1) := by decide +kernel
theorem dX11_deliver_25 : decode cX11_deliver 25 = .ok (.invokevirtual 165, 3) := by decide +kernel
theorem dX11_deliver_28 : decode cX11_deliver 28 = .ok (.ifCond .ne 6, 3) := by decide +kernel
theorem dX11_deliver_31 : decode cX11_deliver 31 = .ok (.bipush (-4), 2) := by decide +kernel
theorem dX11_deliver_33 : decode cX11_deliver 33 = .ok (.ireturn, 1) := by decide +kernel
theorem dX11_deliver_34 : decode cX11_deliver 34 = .ok (.aload_n 2, 1) := by decide +kernel
theorem dX11_deliver_35 : decode cX11_deliver 35 = .ok (.iconst 1, 1) := by decide +kernel
theorem dX11_deliver_36 : decode cX11_deliver 36 = .ok (.putfield 209, 3) := by decide +kernel
theorem dX11_deliver_39 : decode cX11_deliver 39 = .ok (.aload_n 2, 1) := by decide +kernel
theorem dX11_deliver_40 : decode cX11_deliver 40 = .ok (.invokevirtual 212, 3) := by decide +kernel
theorem dX11_deliver_43 : decode cX11_deliver 43 = .ok (.ifCond .eq 11, 3) := by decide +kernel
theorem dX11_deliver_46 : decode cX11_deliver 46 = .ok (.aload_n 0, 1) := by decide +kernel
theorem dX11_deliver_47 : decode cX11_deliver 47 = .ok (.aload_n 2, 1) := by decide +kernel
theorem dX11_deliver_48 : decode cX11_deliver 48 = .ok (.invokevirtual 215, 3) := by decide +kernel
theorem dX11_deliver_51 : decode cX11_deliver 51 = .ok (.goto 8, 3) := by decide +kernel
theorem dX11_deliver_54 : decode cX11_deliver 54 = .ok (.aload_n 0, 1) := by decide +kernel
theorem dX11_deliver_55 : decode cX11_deliver 55 = .ok (.aload_n 2, 1) := by decide +kernel
theorem dX11_deliver_56 : decode cX11_deliver 56 = .ok (.invokevirtual 218, 3) := by decide +kernel
theorem dX11_deliver_59 : decode cX11_deliver 59 = .ok (.ireturn, 1) := by decide +kernel
theorem dX11_lose_0 : decode cX11_lose 0 = .ok (.aload_n 0, 1) := by decide +kernel
theorem dX11_lose_1 : decode cX11_lose 1 = .ok (.iload_n 1, 1) := by decide +kernel
theorem dX11_lose_2 : decode cX11_lose 2 = .ok (.invokevirtual 205, 3) := by decide +kernel
theorem dX11_lose_5 : decode cX11_lose 5 = .ok (.astore_n 2, 1) := by decide +kernel
theorem dX11_lose_6 : decode cX11_lose 6 = .ok (.aload_n 2, 1) := by decide +kernel
theorem dX11_lose_7 : decode cX11_lose 7 = .ok (.ifnonnull 6, 3) := by decide +kernel
theorem dX11_lose_10 : decode cX11_lose 10 = .ok (.bipush (-2), 2) := by decide +kernel
theorem dX11_lose_12 : decode cX11_lose 12 = .ok (.ireturn, 1) := by decide +kernel
theorem dX11_lose_13 : decode cX11_lose 13 = .ok (.aload_n 2, 1) := by decide +kernel
theorem dX11_lose_14 : decode cX11_lose 14 = .ok (.getfield 209, 3) := by decide +kernel
theorem dX11_lose_17 : decode cX11_lose 17 = .ok (.ifCond .eq 6, 3) := by decide +kernel
theorem dX11_lose_20 : decode cX11_lose 20 = .ok (.bipush (-3), 2) := by decide +kernel
theorem dX11_lose_22 : decode cX11_lose 22 = .ok (.ireturn, 1) := by decide +kernel
theorem dX11_lose_23 : decode cX11_lose 23 = .ok (.aload_n 2, 1) := by decide +kernel
theorem dX11_lose_24 : decode cX11_lose 24 = .ok (.iconst 2, 1) := by decide +kernel
theorem dX11_lose_25 : decode cX11_lose 25 = .ok (.putfield 209, 3) := by decide +kernel
theorem dX11_lose_28 : decode cX11_lose 28 = .ok (.iconst 1, 1) := by decide +kernel
theorem dX11_lose_29 : decode cX11_lose 29 = .ok (.ireturn, 1) := by decide +kernel
theorem dX11_twice_0 : decode cX11_twice 0 = .ok (.aload_n 0, 1) := by decide +kernel
theorem dX11_twice_1 : decode cX11_twice 1 = .ok (.iload_n 1, 1) := by decide +kernel
theorem dX11_twice_2 : decode cX11_twice 2 = .ok (.invokevirtual 205, 3) := by decide +kernel
theorem dX11_twice_5 : decode cX11_twice 5 = .ok (.astore_n 2, 1) := by decide +kernel
theorem dX11_twice_6 : decode cX11_twice 6 = .ok (.aload_n 2, 1) := by decide +kernel
theorem dX11_twice_7 : decode cX11_twice 7 = .ok (.ifnonnull 6, 3) := by decide +kernel
theorem dX11_twice_10 : decode cX11_twice 10 = .ok (.bipush (-2), 2) := by decide +kernel
theorem dX11_twice_12 : decode cX11_twice 12 = .ok (.ireturn, 1) := by decide +kernel
theorem dX11_twice_13 : decode cX11_twice 13 = .ok (.aload_n 0, 1) := by decide +kernel
theorem dX11_twice_14 : decode cX11_twice 14 = .ok (.iconst 1, 1) := by decide +kernel
theorem dX11_twice_15 : decode cX11_twice 15 = .ok (.invokevirtual 165, 3) := by decide +kernel
theorem dX11_twice_18 : decode cX11_twice 18 = .ok (.ifCond .ne 6, 3) := by decide +kernel
theorem dX11_twice_21 : decode cX11_twice 21 = .ok (.bipush (-4), 2) := by decide +kernel
theorem dX11_twice_23 : decode cX11_twice 23 = .ok (.ireturn, 1) := by decide +kernel
theorem dX11_twice_24 : decode cX11_twice 24 = .ok (.new 169, 3) := by decide +kernel
theorem dX11_twice_27 : decode cX11_twice 27 = .ok (.dup, 1) := by decide +kernel
theorem dX11_twice_28 : decode cX11_twice 28 = .ok (.aload_n 2, 1) := by decide +kernel
theorem dX11_twice_29 : decode cX11_twice 29 = .ok (.getfield 221, 3) := by decide +kernel
theorem dX11_twice_32 : decode cX11_twice 32 = .ok (.aload_n 2, 1) := by decide +kernel
theorem dX11_twice_33 : decode cX11_twice 33 = .ok (.getfield 224, 3) := by decide +kernel
theorem dX11_twice_36 : decode cX11_twice 36 = .ok (.aload_n 2, 1) := by decide +kernel
theorem dX11_twice_37 : decode cX11_twice 37 = .ok (.getfield 227, 3) := by decide +kernel
theorem dX11_twice_40 : decode cX11_twice 40 = .ok (.aload_n 2, 1) := by decide +kernel
theorem dX11_twice_41 : decode cX11_twice 41 = .ok (.getfield 230, 3) := by decide +kernel
theorem dX11_twice_44 : decode cX11_twice 44 = .ok (.invokespecial 171, 3) := by decide +kernel
theorem dX11_twice_47 : decode cX11_twice 47 = .ok (.astore_n 3, 1) := by decide +kernel
theorem dX11_twice_48 : decode cX11_twice 48 = .ok (.aload_n 3, 1) := by decide +kernel
theorem dX11_twice_49 : decode cX11_twice 49 = .ok (.aload_n 2, 1) := by decide +kernel
theorem dX11_twice_50 : decode cX11_twice 50 = .ok (.getfield 233, 3) := by decide +kernel
theorem dX11_twice_53 : decode cX11_twice 53 = .ok (.aload_n 2, 1) := by decide +kernel
theorem dX11_twice_54 : decode cX11_twice 54 = .ok (.getfield 234, 3) := by decide +kernel
theorem dX11_twice_57 : decode cX11_twice 57 = .ok (.aload_n 2, 1) := by decide +kernel
theorem dX11_twice_58 : decode cX11_twice 58 = .ok (.getfield 235, 3) := by decide +kernel
theorem dX11_twice_61 : decode cX11_twice 61 = .ok (.invokevirtual 174, 3) := by decide +kernel
theorem dX11_twice_64 : decode cX11_twice 64 = .ok (.aload_n 3, 1) := by decide +kernel
theorem dX11_twice_65 : decode cX11_twice 65 = .ok (.aload_n 2, 1) := by decide +kernel
theorem dX11_twice_66 : decode cX11_twice 66 = .ok (.invokevirtual 236, 3) := by decide +kernel
theorem dX11_twice_69 : decode cX11_twice 69 = .ok (.aload_n 0, 1) := by decide +kernel
theorem dX11_twice_70 : decode cX11_twice 70 = .ok (.aload_n 3, 1) := by decide +kernel
theorem dX11_twice_71 : decode cX11_twice 71 = .ok (.invokevirtual 200, 3) := by decide +kernel
theorem dX11_twice_74 : decode cX11_twice 74 = .ok (.ireturn, 1) := by decide +kernel
theorem dX11_letter_0 : decode cX11_letter 0 = .ok (.aload_n 0, 1) := by decide +kernel
theorem dX11_letter_1 : decode cX11_letter 1 = .ok (.iload_n 1, 1) := by decide +kernel
theorem dX11_letter_2 : decode cX11_letter 2 = .ok (.invokevirtual 205, 3) := by decide +kernel
theorem dX11_letter_5 : decode cX11_letter 5 = .ok (.astore_n 3, 1) := by decide +kernel
theorem dX11_letter_6 : decode cX11_letter 6 = .ok (.aload_n 3, 1) := by decide +kernel
theorem dX11_letter_7 : decode cX11_letter 7 = .ok (.ifnonnull 6, 3) := by decide +kernel
theorem dX11_letter_10 : decode cX11_letter 10 = .ok (.bipush (-2), 2) := by decide +kernel
theorem dX11_letter_12 : decode cX11_letter 12 = .ok (.ireturn, 1) := by decide +kernel
theorem dX11_letter_13 : decode cX11_letter 13 = .ok (.iload_n 2, 1) := by decide +kernel
theorem dX11_letter_14 : decode cX11_letter 14 = .ok (.tableswitch 77 0 6 #[42, 47, 52, 57, 62, 67, 72], 42) := by decide +kernel
theorem dX11_letter_56 : decode cX11_letter 56 = .ok (.aload_n 3, 1) := by decide +kernel
theorem dX11_letter_57 : decode cX11_letter 57 = .ok (.getfield 221, 3) := by decide +kernel
theorem dX11_letter_60 : decode cX11_letter 60 = .ok (.ireturn, 1) := by decide +kernel
theorem dX11_letter_61 : decode cX11_letter 61 = .ok (.aload_n 3, 1) := by decide +kernel
theorem dX11_letter_62 : decode cX11_letter 62 = .ok (.getfield 224, 3) := by decide +kernel
theorem dX11_letter_65 : decode cX11_letter 65 = .ok (.ireturn, 1) := by decide +kernel
theorem dX11_letter_66 : decode cX11_letter 66 = .ok (.aload_n 3, 1) := by decide +kernel
theorem dX11_letter_67 : decode cX11_letter 67 = .ok (.getfield 227, 3) := by decide +kernel
theorem dX11_letter_70 : decode cX11_letter 70 = .ok (.ireturn, 1) := by decide +kernel
theorem dX11_letter_71 : decode cX11_letter 71 = .ok (.aload_n 3, 1) := by decide +kernel
theorem dX11_letter_72 : decode cX11_letter 72 = .ok (.getfield 230, 3) := by decide +kernel
theorem dX11_letter_75 : decode cX11_letter 75 = .ok (.ireturn, 1) := by decide +kernel
theorem dX11_letter_76 : decode cX11_letter 76 = .ok (.aload_n 3, 1) := by decide +kernel
theorem dX11_letter_77 : decode cX11_letter 77 = .ok (.getfield 233, 3) := by decide +kernel
theorem dX11_letter_80 : decode cX11_letter 80 = .ok (.ireturn, 1) := by decide +kernel
theorem dX11_letter_81 : decode cX11_letter 81 = .ok (.aload_n 3, 1) := by decide +kernel
theorem dX11_letter_82 : decode cX11_letter 82 = .ok (.getfield 234, 3) := by decide +kernel
theorem dX11_letter_85 : decode cX11_letter 85 = .ok (.ireturn, 1) := by decide +kernel
theorem dX11_letter_86 : decode cX11_letter 86 = .ok (.aload_n 3, 1) := by decide +kernel
theorem dX11_letter_87 : decode cX11_letter 87 = .ok (.getfield 209, 3) := by decide +kernel
theorem dX11_letter_90 : decode cX11_letter 90 = .ok (.ireturn, 1) := by decide +kernel
theorem dX11_letter_91 : decode cX11_letter 91 = .ok (.bipush (-2), 2) := by decide +kernel
theorem dX11_letter_93 : decode cX11_letter 93 = .ok (.ireturn, 1) := by decide +kernel
theorem dX11_wrote_0 : decode cX11_wrote 0 = .ok (.aload_n 0, 1) := by decide +kernel
theorem dX11_wrote_1 : decode cX11_wrote 1 = .ok (.iload_n 1, 1) := by decide +kernel
theorem dX11_wrote_2 : decode cX11_wrote 2 = .ok (.invokevirtual 205, 3) := by decide +kernel
theorem dX11_wrote_5 : decode cX11_wrote 5 = .ok (.astore_n 3, 1) := by decide +kernel
theorem dX11_wrote_6 : decode cX11_wrote 6 = .ok (.aload_n 3, 1) := by decide +kernel
theorem dX11_wrote_7 : decode cX11_wrote 7 = .ok (.ifnonnull 7, 3) := by decide +kernel
theorem dX11_wrote_10 : decode cX11_wrote 10 = .ok (.ldc2_w 117, 3) := by decide +kernel
theorem dX11_wrote_13 : decode cX11_wrote 13 = .ok (.lreturn, 1) := by decide +kernel
theorem dX11_wrote_14 : decode cX11_wrote 14 = .ok (.iload_n 2, 1) := by decide +kernel
theorem dX11_wrote_15 : decode cX11_wrote 15 = .ok (.tableswitch 41 0 2 #[25, 30, 35], 25) := by decide +kernel
theorem dX11_wrote_40 : decode cX11_wrote 40 = .ok (.aload_n 3, 1) := by decide +kernel
theorem dX11_wrote_41 : decode cX11_wrote 41 = .ok (.getfield 235, 3) := by decide +kernel
theorem dX11_wrote_44 : decode cX11_wrote 44 = .ok (.lreturn, 1) := by decide +kernel
theorem dX11_wrote_45 : decode cX11_wrote 45 = .ok (.aload_n 3, 1) := by decide +kernel
theorem dX11_wrote_46 : decode cX11_wrote 46 = .ok (.getfield 240, 3) := by decide +kernel
theorem dX11_wrote_49 : decode cX11_wrote 49 = .ok (.lreturn, 1) := by decide +kernel
theorem dX11_wrote_50 : decode cX11_wrote 50 = .ok (.aload_n 3, 1) := by decide +kernel
theorem dX11_wrote_51 : decode cX11_wrote 51 = .ok (.getfield 243, 3) := by decide +kernel
theorem dX11_wrote_54 : decode cX11_wrote 54 = .ok (.i2l, 1) := by decide +kernel
theorem dX11_wrote_55 : decode cX11_wrote 55 = .ok (.lreturn, 1) := by decide +kernel
theorem dX11_wrote_56 : decode cX11_wrote 56 = .ok (.ldc2_w 117, 3) := by decide +kernel
theorem dX11_wrote_59 : decode cX11_wrote 59 = .ok (.lreturn, 1) := by decide +kernel
theorem dX11_look_0 : decode cX11_look 0 = .ok (.aload_n 0, 1) := by decide +kernel
theorem dX11_look_1 : decode cX11_look 1 = .ok (.iload_n 1, 1) := by decide +kernel
theorem dX11_look_2 : decode cX11_look 2 = .ok (.invokevirtual 156, 3) := by decide +kernel
theorem dX11_look_5 : decode cX11_look 5 = .ok (.astore_n 2, 1) := by decide +kernel
theorem dX11_look_6 : decode cX11_look 6 = .ok (.aload_n 2, 1) := by decide +kernel
theorem dX11_look_7 : decode cX11_look 7 = .ok (.ifnonnull 6, 3) := by decide +kernel
theorem dX11_look_10 : decode cX11_look 10 = .ok (.bipush (-2), 2) := by decide +kernel
theorem dX11_look_12 : decode cX11_look 12 = .ok (.ireturn, 1) := by decide +kernel
theorem dX11_look_13 : decode cX11_look 13 = .ok (.aload_n 0, 1) := by decide +kernel
theorem dX11_look_14 : decode cX11_look 14 = .ok (.invokevirtual 246, 3) := by decide +kernel
theorem dX11_look_17 : decode cX11_look 17 = .ok (.astore_n 3, 1) := by decide +kernel
theorem dX11_look_18 : decode cX11_look 18 = .ok (.aload_n 3, 1) := by decide +kernel
theorem dX11_look_19 : decode cX11_look 19 = .ok (.ifnonnull 6, 3) := by decide +kernel
theorem dX11_look_22 : decode cX11_look 22 = .ok (.bipush (-3), 2) := by decide +kernel
theorem dX11_look_24 : decode cX11_look 24 = .ok (.ireturn, 1) := by decide +kernel
theorem dX11_look_25 : decode cX11_look 25 = .ok (.aload_n 0, 1) := by decide +kernel
theorem dX11_look_26 : decode cX11_look 26 = .ok (.iconst 1, 1) := by decide +kernel
theorem dX11_look_27 : decode cX11_look 27 = .ok (.invokevirtual 165, 3) := by decide +kernel
theorem dX11_look_30 : decode cX11_look 30 = .ok (.ifCond .ne 6, 3) := by decide +kernel
theorem dX11_look_33 : decode cX11_look 33 = .ok (.bipush (-4), 2) := by decide +kernel
theorem dX11_look_35 : decode cX11_look 35 = .ok (.ireturn, 1) := by decide +kernel
theorem dX11_look_36 : decode cX11_look 36 = .ok (.aload_n 0, 1) := by decide +kernel
theorem dX11_look_37 : decode cX11_look 37 = .ok (.aload_n 2, 1) := by decide +kernel
theorem dX11_look_38 : decode cX11_look 38 = .ok (.iload_n 1, 1) := by decide +kernel
theorem dX11_look_39 : decode cX11_look 39 = .ok (.aload_n 3, 1) := by decide +kernel
theorem dX11_look_40 : decode cX11_look 40 = .ok (.aload_n 0, 1) := by decide +kernel
theorem dX11_look_41 : decode cX11_look 41 = .ok (.getfield 43, 3) := by decide +kernel
theorem dX11_look_44 : decode cX11_look 44 = .ok (.invokevirtual 119, 3) := by decide +kernel
theorem dX11_look_47 : decode cX11_look 47 = .ok (.invokevirtual 250, 3) := by decide +kernel
theorem dX11_look_50 : decode cX11_look 50 = .ok (.aload_n 2, 1) := by decide +kernel
theorem dX11_look_51 : decode cX11_look 51 = .ok (.getfield 254, 3) := by decide +kernel
theorem dX11_look_54 : decode cX11_look 54 = .ok (.invokevirtual 87, 3) := by decide +kernel
theorem dX11_look_57 : decode cX11_look 57 = .ok (.ireturn, 1) := by decide +kernel
theorem dX11_grant_0 : decode cX11_grant 0 = .ok (.aload_n 0, 1) := by decide +kernel
theorem dX11_grant_1 : decode cX11_grant 1 = .ok (.iload_n 1, 1) := by decide +kernel
theorem dX11_grant_2 : decode cX11_grant 2 = .ok (.invokevirtual 156, 3) := by decide +kernel
theorem dX11_grant_5 : decode cX11_grant 5 = .ok (.ifnull 12, 3) := by decide +kernel
theorem dX11_grant_8 : decode cX11_grant 8 = .ok (.iload_n 3, 1) := by decide +kernel
theorem dX11_grant_9 : decode cX11_grant 9 = .ok (.iconst 0, 1) := by decide +kernel
theorem dX11_grant_10 : decode cX11_grant 10 = .ok (.iconst 2, 1) := by decide +kernel
theorem dX11_grant_11 : decode cX11_grant 11 = .ok (.invokestatic 103, 3) := by decide +kernel
theorem dX11_grant_14 : decode cX11_grant 14 = .ok (.ifCond .ne 6, 3) := by decide +kernel
theorem dX11_grant_17 : decode cX11_grant 17 = .ok (.bipush (-2), 2) := by decide +kernel
theorem dX11_grant_19 : decode cX11_grant 19 = .ok (.ireturn, 1) := by decide +kernel
theorem dX11_grant_20 : decode cX11_grant 20 = .ok (.aload_n 0, 1) := by decide +kernel
theorem dX11_grant_21 : decode cX11_grant 21 = .ok (.iload_n 1, 1) := by decide +kernel
theorem dX11_grant_22 : decode cX11_grant 22 = .ok (.iload_n 2, 1) := by decide +kernel
theorem dX11_grant_23 : decode cX11_grant 23 = .ok (.invokevirtual 257, 3) := by decide +kernel
theorem dX11_grant_26 : decode cX11_grant 26 = .ok (.astore 4, 2) := by decide +kernel
theorem dX11_grant_28 : decode cX11_grant 28 = .ok (.aload 4, 2) := by decide +kernel
theorem dX11_grant_30 : decode cX11_grant 30 = .ok (.ifnonnull 5, 3) := by decide +kernel
theorem dX11_grant_33 : decode cX11_grant 33 = .ok (.iconst (-1), 1) := by decide +kernel
theorem dX11_grant_34 : decode cX11_grant 34 = .ok (.ireturn, 1) := by decide +kernel
theorem dX11_grant_35 : decode cX11_grant 35 = .ok (.iload_n 3, 1) := by decide +kernel
theorem dX11_grant_36 : decode cX11_grant 36 = .ok (.lookupswitch 40 #[(0, 28), (1, 34)], 28) := by decide +kernel
theorem dX11_grant_64 : decode cX11_grant 64 = .ok (.aload 4, 2) := by decide +kernel
theorem dX11_grant_66 : decode cX11_grant 66 = .ok (.getfield 261, 3) := by decide +kernel
theorem dX11_grant_69 : decode cX11_grant 69 = .ok (.ireturn, 1) := by decide +kernel
theorem dX11_grant_70 : decode cX11_grant 70 = .ok (.aload 4, 2) := by decide +kernel
theorem dX11_grant_72 : decode cX11_grant 72 = .ok (.getfield 264, 3) := by decide +kernel
theorem dX11_grant_75 : decode cX11_grant 75 = .ok (.ireturn, 1) := by decide +kernel
theorem dX11_grant_76 : decode cX11_grant 76 = .ok (.aload 4, 2) := by decide +kernel
theorem dX11_grant_78 : decode cX11_grant 78 = .ok (.getfield 265, 3) := by decide +kernel
theorem dX11_grant_81 : decode cX11_grant 81 = .ok (.ireturn, 1) := by decide +kernel
theorem dX11_ends_0 : decode cX11_ends 0 = .ok (.aload_n 0, 1) := by decide +kernel
theorem dX11_ends_1 : decode cX11_ends 1 = .ok (.iload_n 1, 1) := by decide +kernel
theorem dX11_ends_2 : decode cX11_ends 2 = .ok (.iload_n 2, 1) := by decide +kernel
theorem dX11_ends_3 : decode cX11_ends 3 = .ok (.invokevirtual 257, 3) := by decide +kernel
theorem dX11_ends_6 : decode cX11_ends 6 = .ok (.astore 4, 2) := by decide +kernel
theorem dX11_ends_8 : decode cX11_ends 8 = .ok (.aload 4, 2) := by decide +kernel
theorem dX11_ends_10 : decode cX11_ends 10 = .ok (.ifnull 12, 3) := by decide +kernel
theorem dX11_ends_13 : decode cX11_ends 13 = .ok (.iload_n 3, 1) := by decide +kernel
theorem dX11_ends_14 : decode cX11_ends 14 = .ok (.iconst 0, 1) := by decide +kernel
theorem dX11_ends_15 : decode cX11_ends 15 = .ok (.iconst 1, 1) := by decide +kernel
theorem dX11_ends_16 : decode cX11_ends 16 = .ok (.invokestatic 103, 3) := by decide +kernel
theorem dX11_ends_19 : decode cX11_ends 19 = .ok (.ifCond .ne 7, 3) := by decide +kernel
theorem dX11_ends_22 : decode cX11_ends 22 = .ok (.ldc2_w 117, 3) := by decide +kernel
theorem dX11_ends_25 : decode cX11_ends 25 = .ok (.lreturn, 1) := by decide +kernel
theorem dX11_ends_26 : decode cX11_ends 26 = .ok (.iload_n 3, 1) := by decide +kernel
theorem dX11_ends_27 : decode cX11_ends 27 = .ok (.ifCond .ne 11, 3) := by decide +kernel
theorem dX11_ends_30 : decode cX11_ends 30 = .ok (.aload 4, 2) := by decide +kernel
theorem dX11_ends_32 : decode cX11_ends 32 = .ok (.getfield 266, 3) := by decide +kernel
theorem dX11_ends_35 : decode cX11_ends 35 = .ok (.goto 8, 3) := by decide +kernel
theorem dX11_ends_38 : decode cX11_ends 38 = .ok (.aload 4, 2) := by decide +kernel
theorem dX11_ends_40 : decode cX11_ends 40 = .ok (.getfield 267, 3) := by decide +kernel
theorem dX11_ends_43 : decode cX11_ends 43 = .ok (.lreturn, 1) := by decide +kernel
theorem dX11_told_0 : decode cX11_told 0 = .ok (.aload_n 0, 1) := by decide +kernel
theorem dX11_told_1 : decode cX11_told 1 = .ok (.iload_n 1, 1) := by decide +kernel
theorem dX11_told_2 : decode cX11_told 2 = .ok (.invokevirtual 156, 3) := by decide +kernel
theorem dX11_told_5 : decode cX11_told 5 = .ok (.astore_n 3, 1) := by decide +kernel
theorem dX11_told_6 : decode cX11_told 6 = .ok (.aload_n 3, 1) := by decide +kernel
theorem dX11_told_7 : decode cX11_told 7 = .ok (.ifnull 7, 3) := by decide +kernel
theorem dX11_told_10 : decode cX11_told 10 = .ok (.iload_n 2, 1) := by decide +kernel
theorem dX11_told_11 : decode cX11_told 11 = .ok (.ifCond .ge 6, 3) := by decide +kernel
theorem dX11_told_14 : decode cX11_told 14 = .ok (.bipush (-2), 2) := by decide +kernel
theorem dX11_told_16 : decode cX11_told 16 = .ok (.ireturn, 1) := by decide +kernel
theorem dX11_told_17 : decode cX11_told 17 = .ok (.iload_n 2, 1) := by decide +kernel
theorem dX11_told_18 : decode cX11_told 18 = .ok (.tableswitch 175 0 8 #[50, 55, 60, 65, 88, 96, 119, 142, 169], 50) := by decide +kernel
theorem dX11_told_68 : decode cX11_told 68 = .ok (.aload_n 3, 1) := by decide +kernel
theorem dX11_told_69 : decode cX11_told 69 = .ok (.getfield 270, 3) := by decide +kernel
theorem dX11_told_72 : decode cX11_told 72 = .ok (.ireturn, 1) := by decide +kernel
theorem dX11_told_73 : decode cX11_told 73 = .ok (.aload_n 3, 1) := by decide +kernel
theorem dX11_told_74 : decode cX11_told 74 = .ok (.getfield 271, 3) := by decide +kernel
theorem dX11_told_77 : decode cX11_told 77 = .ok (.ireturn, 1) := by decide +kernel
theorem dX11_told_78 : decode cX11_told 78 = .ok (.aload_n 3, 1) := by decide +kernel
theorem dX11_told_79 : decode cX11_told 79 = .ok (.getfield 274, 3) := by decide +kernel
theorem dX11_told_82 : decode cX11_told 82 = .ok (.ireturn, 1) := by decide +kernel
theorem dX11_told_83 : decode cX11_told 83 = .ok (.aload_n 3, 1) := by decide +kernel
theorem dX11_told_84 : decode cX11_told 84 = .ok (.instanceof 277, 3) := by decide +kernel
theorem dX11_told_87 : decode cX11_told 87 = .ok (.ifCond .eq 17, 3) := by decide +kernel
theorem dX11_told_90 : decode cX11_told 90 = .ok (.aload_n 3, 1) := by decide +kernel
theorem dX11_told_91 : decode cX11_told 91 = .ok (.checkcast 277, 3) := by decide +kernel
theorem dX11_told_94 : decode cX11_told 94 = .ok (.astore 4, 2) := by decide +kernel
theorem dX11_told_96 : decode cX11_told 96 = .ok (.aload 4, 2) := by decide +kernel
theorem dX11_told_98 : decode cX11_told 98 = .ok (.getfield 279, 3) := by decide +kernel
theorem dX11_told_101 : decode cX11_told 101 = .ok (.goto 4, 3) := by decide +kernel
theorem dX11_told_104 : decode cX11_told 104 = .ok (.iconst 0, 1) := by decide +kernel
theorem dX11_told_105 : decode cX11_told 105 = .ok (.ireturn, 1) := by decide +kernel
theorem dX11_told_106 : decode cX11_told 106 = .ok (.aload_n 3, 1) := by decide +kernel
theorem dX11_told_107 : decode cX11_told 107 = .ok (.getfield 254, 3) := by decide +kernel
theorem dX11_told_110 : decode cX11_told 110 = .ok (.invokevirtual 87, 3) := by decide +kernel
theorem dX11_told_113 : decode cX11_told 113 = .ok (.ireturn, 1) := by decide +kernel
theorem dX11_told_114 : decode cX11_told 114 = .ok (.aload_n 3, 1) := by decide +kernel
theorem dX11_told_115 : decode cX11_told 115 = .ok (.instanceof 203, 3) := by decide +kernel
theorem dX11_told_118 : decode cX11_told 118 = .ok (.ifCond .eq 17, 3) := by decide +kernel
theorem dX11_told_121 : decode cX11_told 121 = .ok (.aload_n 3, 1) := by decide +kernel
theorem dX11_told_122 : decode cX11_told 122 = .ok (.checkcast 203, 3) := by decide +kernel
theorem dX11_told_125 : decode cX11_told 125 = .ok (.astore 4, 2) := by decide +kernel
theorem dX11_told_127 : decode cX11_told 127 = .ok (.aload 4, 2) := by decide +kernel
theorem dX11_told_129 : decode cX11_told 129 = .ok (.getfield 282, 3) := by decide +kernel
theorem dX11_told_132 : decode cX11_told 132 = .ok (.goto 4, 3) := by decide +kernel
theorem dX11_told_135 : decode cX11_told 135 = .ok (.iconst (-1), 1) := by decide +kernel
theorem dX11_told_136 : decode cX11_told 136 = .ok (.ireturn, 1) := by decide +kernel
theorem dX11_told_137 : decode cX11_told 137 = .ok (.aload_n 3, 1) := by decide +kernel
theorem dX11_told_138 : decode cX11_told 138 = .ok (.instanceof 285, 3) := by decide +kernel
theorem dX11_told_141 : decode cX11_told 141 = .ok (.ifCond .eq 17, 3) := by decide +kernel
theorem dX11_told_144 : decode cX11_told 144 = .ok (.aload_n 3, 1) := by decide +kernel
theorem dX11_told_145 : decode cX11_told 145 = .ok (.checkcast 285, 3) := by decide +kernel
theorem dX11_told_148 : decode cX11_told 148 = .ok (.astore 4, 2) := by decide +kernel
theorem dX11_told_150 : decode cX11_told 150 = .ok (.aload 4, 2) := by decide +kernel
theorem dX11_told_152 : decode cX11_told 152 = .ok (.getfield 287, 3) := by decide +kernel
theorem dX11_told_155 : decode cX11_told 155 = .ok (.goto 4, 3) := by decide +kernel
theorem dX11_told_158 : decode cX11_told 158 = .ok (.iconst 0, 1) := by decide +kernel
theorem dX11_told_159 : decode cX11_told 159 = .ok (.ireturn, 1) := by decide +kernel
theorem dX11_told_160 : decode cX11_told 160 = .ok (.aload_n 3, 1) := by decide +kernel
theorem dX11_told_161 : decode cX11_told 161 = .ok (.instanceof 285, 3) := by decide +kernel
theorem dX11_told_164 : decode cX11_told 164 = .ok (.ifCond .eq 21, 3) := by decide +kernel
theorem dX11_told_167 : decode cX11_told 167 = .ok (.aload_n 3, 1) := by decide +kernel
theorem dX11_told_168 : decode cX11_told 168 = .ok (.checkcast 285, 3) := by decide +kernel
theorem dX11_told_171 : decode cX11_told 171 = .ok (.astore 4, 2) := by decide +kernel
theorem dX11_told_173 : decode cX11_told 173 = .ok (.aload 4, 2) := by decide +kernel
theorem dX11_told_175 : decode cX11_told 175 = .ok (.getfield 290, 3) := by decide +kernel
theorem dX11_told_178 : decode cX11_told 178 = .ok (.ifCond .eq 7, 3) := by decide +kernel
theorem dX11_told_181 : decode cX11_told 181 = .ok (.iconst 1, 1) := by decide +kernel
theorem dX11_told_182 : decode cX11_told 182 = .ok (.goto 4, 3) := by decide +kernel
theorem dX11_told_185 : decode cX11_told 185 = .ok (.iconst 0, 1) := by decide +kernel
theorem dX11_told_186 : decode cX11_told 186 = .ok (.ireturn, 1) := by decide +kernel
theorem dX11_told_187 : decode cX11_told 187 = .ok (.aload_n 0, 1) := by decide +kernel
theorem dX11_told_188 : decode cX11_told 188 = .ok (.iload_n 1, 1) := by decide +kernel
theorem dX11_told_189 : decode cX11_told 189 = .ok (.invokevirtual 293, 3) := by decide +kernel
theorem dX11_told_192 : decode cX11_told 192 = .ok (.ireturn, 1) := by decide +kernel
theorem dX11_told_193 : decode cX11_told 193 = .ok (.aload_n 3, 1) := by decide +kernel
theorem dX11_told_194 : decode cX11_told 194 = .ok (.instanceof 285, 3) := by decide +kernel
theorem dX11_told_197 : decode cX11_told 197 = .ok (.ifCond .eq 21, 3) := by decide +kernel
theorem dX11_told_200 : decode cX11_told 200 = .ok (.aload_n 3, 1) := by decide +kernel
theorem dX11_told_201 : decode cX11_told 201 = .ok (.checkcast 285, 3) := by decide +kernel
theorem dX11_told_204 : decode cX11_told 204 = .ok (.astore 4, 2) := by decide +kernel
theorem dX11_told_206 : decode cX11_told 206 = .ok (.aload 4, 2) := by decide +kernel
theorem dX11_told_208 : decode cX11_told 208 = .ok (.iload_n 2, 1) := by decide +kernel
theorem dX11_told_209 : decode cX11_told 209 = .ok (.bipush 9, 2) := by decide +kernel
theorem dX11_told_211 : decode cX11_told 211 = .ok (.isub, 1) := by decide +kernel
theorem dX11_told_212 : decode cX11_told 212 = .ok (.invokevirtual 297, 3) := by decide +kernel
theorem dX11_told_215 : decode cX11_told 215 = .ok (.goto 4, 3) := by decide +kernel
theorem dX11_told_218 : decode cX11_told 218 = .ok (.iconst (-1), 1) := by decide +kernel
theorem dX11_told_219 : decode cX11_told 219 = .ok (.ireturn, 1) := by decide +kernel
theorem dX11_holds_0 : decode cX11_holds 0 = .ok (.aload_n 0, 1) := by decide +kernel
theorem dX11_holds_1 : decode cX11_holds 1 = .ok (.iload_n 1, 1) := by decide +kernel
theorem dX11_holds_2 : decode cX11_holds 2 = .ok (.iload_n 2, 1) := by decide +kernel
theorem dX11_holds_3 : decode cX11_holds 3 = .ok (.invokevirtual 186, 3) := by decide +kernel
theorem dX11_holds_6 : decode cX11_holds 6 = .ok (.astore 4, 2) := by decide +kernel
theorem dX11_holds_8 : decode cX11_holds 8 = .ok (.aload 4, 2) := by decide +kernel
theorem dX11_holds_10 : decode cX11_holds 10 = .ok (.ifnonnull 6, 3) := by decide +kernel
theorem dX11_holds_13 : decode cX11_holds 13 = .ok (.bipush (-2), 2) := by decide +kernel
theorem dX11_holds_15 : decode cX11_holds 15 = .ok (.ireturn, 1) := by decide +kernel
theorem dX11_holds_16 : decode cX11_holds 16 = .ok (.iload_n 3, 1) := by decide +kernel
theorem dX11_holds_17 : decode cX11_holds 17 = .ok (.tableswitch 114 0 4 #[35, 50, 64, 82, 100], 35) := by decide +kernel
theorem dX11_holds_52 : decode cX11_holds 52 = .ok (.aload_n 0, 1) := by decide +kernel
theorem dX11_holds_53 : decode cX11_holds 53 = .ok (.iload_n 1, 1) := by decide +kernel
theorem dX11_holds_54 : decode cX11_holds 54 = .ok (.iload_n 2, 1) := by decide +kernel
theorem dX11_holds_55 : decode cX11_holds 55 = .ok (.invokevirtual 300, 3) := by decide +kernel
theorem dX11_holds_58 : decode cX11_holds 58 = .ok (.ifCond .eq 7, 3) := by decide +kernel
theorem dX11_holds_61 : decode cX11_holds 61 = .ok (.iconst 1, 1) := by decide +kernel
theorem dX11_holds_62 : decode cX11_holds 62 = .ok (.goto 4, 3) := by decide +kernel
theorem dX11_holds_65 : decode cX11_holds 65 = .ok (.iconst 0, 1) := by decide +kernel
theorem dX11_holds_66 : decode cX11_holds 66 = .ok (.ireturn, 1) := by decide +kernel
theorem dX11_holds_67 : decode cX11_holds 67 = .ok (.aload 4, 2) := by decide +kernel
theorem dX11_holds_69 : decode cX11_holds 69 = .ok (.getfield 135, 3) := by decide +kernel
theorem dX11_holds_72 : decode cX11_holds 72 = .ok (.ifCond .eq 7, 3) := by decide +kernel
theorem dX11_holds_75 : decode cX11_holds 75 = .ok (.iconst 1, 1) := by decide +kernel
theorem dX11_holds_76 : decode cX11_holds 76 = .ok (.goto 4, 3) := by decide +kernel
theorem dX11_holds_79 : decode cX11_holds 79 = .ok (.iconst 0, 1) := by decide +kernel
theorem dX11_holds_80 : decode cX11_holds 80 = .ok (.ireturn, 1) := by decide +kernel
theorem dX11_holds_81 : decode cX11_holds 81 = .ok (.aload 4, 2) := by decide +kernel
theorem dX11_holds_83 : decode cX11_holds 83 = .ok (.getfield 135, 3) := by decide +kernel
theorem dX11_holds_86 : decode cX11_holds 86 = .ok (.ifCond .eq 11, 3) := by decide +kernel
theorem dX11_holds_89 : decode cX11_holds 89 = .ok (.aload 4, 2) := by decide +kernel
theorem dX11_holds_91 : decode cX11_holds 91 = .ok (.getfield 190, 3) := by decide +kernel
theorem dX11_holds_94 : decode cX11_holds 94 = .ok (.goto 4, 3) := by decide +kernel
theorem dX11_holds_97 : decode cX11_holds 97 = .ok (.iconst (-1), 1) := by decide +kernel
theorem dX11_holds_98 : decode cX11_holds 98 = .ok (.ireturn, 1) := by decide +kernel
theorem dX11_holds_99 : decode cX11_holds 99 = .ok (.aload 4, 2) := by decide +kernel
theorem dX11_holds_101 : decode cX11_holds 101 = .ok (.getfield 135, 3) := by decide +kernel
theorem dX11_holds_104 : decode cX11_holds 104 = .ok (.ifCond .eq 11, 3) := by decide +kernel
theorem dX11_holds_107 : decode cX11_holds 107 = .ok (.aload 4, 2) := by decide +kernel
theorem dX11_holds_109 : decode cX11_holds 109 = .ok (.getfield 193, 3) := by decide +kernel
theorem dX11_holds_112 : decode cX11_holds 112 = .ok (.goto 4, 3) := by decide +kernel
theorem dX11_holds_115 : decode cX11_holds 115 = .ok (.iconst (-1), 1) := by decide +kernel
theorem dX11_holds_116 : decode cX11_holds 116 = .ok (.ireturn, 1) := by decide +kernel
theorem dX11_holds_117 : decode cX11_holds 117 = .ok (.aload 4, 2) := by decide +kernel
theorem dX11_holds_119 : decode cX11_holds 119 = .ok (.getfield 303, 3) := by decide +kernel
theorem dX11_holds_122 : decode cX11_holds 122 = .ok (.ifCond .eq 7, 3) := by decide +kernel
theorem dX11_holds_125 : decode cX11_holds 125 = .ok (.iconst 1, 1) := by decide +kernel
theorem dX11_holds_126 : decode cX11_holds 126 = .ok (.goto 4, 3) := by decide +kernel
theorem dX11_holds_129 : decode cX11_holds 129 = .ok (.iconst 0, 1) := by decide +kernel
theorem dX11_holds_130 : decode cX11_holds 130 = .ok (.ireturn, 1) := by decide +kernel
theorem dX11_holds_131 : decode cX11_holds 131 = .ok (.bipush (-2), 2) := by decide +kernel
theorem dX11_holds_133 : decode cX11_holds 133 = .ok (.ireturn, 1) := by decide +kernel
theorem dX11_held_0 : decode cX11_held 0 = .ok (.aload_n 0, 1) := by decide +kernel
theorem dX11_held_1 : decode cX11_held 1 = .ok (.iload_n 1, 1) := by decide +kernel
theorem dX11_held_2 : decode cX11_held 2 = .ok (.iload_n 2, 1) := by decide +kernel
theorem dX11_held_3 : decode cX11_held 3 = .ok (.invokevirtual 186, 3) := by decide +kernel
theorem dX11_held_6 : decode cX11_held 6 = .ok (.astore 4, 2) := by decide +kernel
theorem dX11_held_8 : decode cX11_held 8 = .ok (.aload 4, 2) := by decide +kernel
theorem dX11_held_10 : decode cX11_held 10 = .ok (.ifnull 20, 3) := by decide +kernel
theorem dX11_held_13 : decode cX11_held 13 = .ok (.aload 4, 2) := by decide +kernel
theorem dX11_held_15 : decode cX11_held 15 = .ok (.getfield 135, 3) := by decide +kernel
theorem dX11_held_18 : decode cX11_held 18 = .ok (.ifCond .eq 12, 3) := by decide +kernel
theorem dX11_held_21 : decode cX11_held 21 = .ok (.iload_n 3, 1) := by decide +kernel
theorem dX11_held_22 : decode cX11_held 22 = .ok (.iconst 0, 1) := by decide +kernel
theorem dX11_held_23 : decode cX11_held 23 = .ok (.iconst 1, 1) := by decide +kernel
theorem dX11_held_24 : decode cX11_held 24 = .ok (.invokestatic 103, 3) := by decide +kernel
theorem dX11_held_27 : decode cX11_held 27 = .ok (.ifCond .ne 7, 3) := by decide +kernel
theorem dX11_held_30 : decode cX11_held 30 = .ok (.ldc2_w 117, 3) := by decide +kernel
theorem dX11_held_33 : decode cX11_held 33 = .ok (.lreturn, 1) := by decide +kernel
theorem dX11_held_34 : decode cX11_held 34 = .ok (.iload_n 3, 1) := by decide +kernel
theorem dX11_held_35 : decode cX11_held 35 = .ok (.ifCond .ne 11, 3) := by decide +kernel
theorem dX11_held_38 : decode cX11_held 38 = .ok (.aload 4, 2) := by decide +kernel
theorem dX11_held_40 : decode cX11_held 40 = .ok (.getfield 196, 3) := by decide +kernel
theorem dX11_held_43 : decode cX11_held 43 = .ok (.goto 8, 3) := by decide +kernel
theorem dX11_held_46 : decode cX11_held 46 = .ok (.aload 4, 2) := by decide +kernel
theorem dX11_held_48 : decode cX11_held 48 = .ok (.getfield 306, 3) := by decide +kernel
theorem dX11_held_51 : decode cX11_held 51 = .ok (.lreturn, 1) := by decide +kernel
theorem dX11_write_0 : decode cX11_write 0 = .ok (.aload_n 0, 1) := by decide +kernel
theorem dX11_write_1 : decode cX11_write 1 = .ok (.iload_n 1, 1) := by decide +kernel
theorem dX11_write_2 : decode cX11_write 2 = .ok (.invokevirtual 127, 3) := by decide +kernel
theorem dX11_write_5 : decode cX11_write 5 = .ok (.astore 6, 2) := by decide +kernel
theorem dX11_write_7 : decode cX11_write 7 = .ok (.aload_n 0, 1) := by decide +kernel
theorem dX11_write_8 : decode cX11_write 8 = .ok (.iload_n 1, 1) := by decide +kernel
theorem dX11_write_9 : decode cX11_write 9 = .ok (.iload_n 2, 1) := by decide +kernel
theorem dX11_write_10 : decode cX11_write 10 = .ok (.invokevirtual 186, 3) := by decide +kernel
theorem dX11_write_13 : decode cX11_write 13 = .ok (.astore 7, 2) := by decide +kernel
theorem dX11_write_15 : decode cX11_write 15 = .ok (.aload 6, 2) := by decide +kernel
theorem dX11_write_17 : decode cX11_write 17 = .ok (.ifnull 17, 3) := by decide +kernel
theorem dX11_write_20 : decode cX11_write 20 = .ok (.aload 7, 2) := by decide +kernel
theorem dX11_write_22 : decode cX11_write 22 = .ok (.ifnull 12, 3) := by decide +kernel
theorem dX11_write_25 : decode cX11_write 25 = .ok (.aload_n 0, 1) := by decide +kernel
theorem dX11_write_26 : decode cX11_write 26 = .ok (.iload_n 3, 1) := by decide +kernel
theorem dX11_write_27 : decode cX11_write 27 = .ok (.iload_n 2, 1) := by decide +kernel
theorem dX11_write_28 : decode cX11_write 28 = .ok (.invokevirtual 309, 3) := by decide +kernel
theorem dX11_write_31 : decode cX11_write 31 = .ok (.ifCond .ne 6, 3) := by decide +kernel
theorem dX11_write_34 : decode cX11_write 34 = .ok (.bipush (-2), 2) := by decide +kernel
theorem dX11_write_36 : decode cX11_write 36 = .ok (.ireturn, 1) := by decide +kernel
theorem dX11_write_37 : decode cX11_write 37 = .ok (.aload 6, 2) := by decide +kernel
theorem dX11_write_39 : decode cX11_write 39 = .ok (.getfield 143, 3) := by decide +kernel
theorem dX11_write_42 : decode cX11_write 42 = .ok (.ifCond .eq 20, 3) := by decide +kernel
theorem dX11_write_45 : decode cX11_write 45 = .ok (.aload 7, 2) := by decide +kernel
theorem dX11_write_47 : decode cX11_write 47 = .ok (.getfield 135, 3) := by decide +kernel
theorem dX11_write_50 : decode cX11_write 50 = .ok (.ifCond .eq 12, 3) := by decide +kernel
theorem dX11_write_53 : decode cX11_write 53 = .ok (.aload 7, 2) := by decide +kernel
theorem dX11_write_55 : decode cX11_write 55 = .ok (.getfield 190, 3) := by decide +kernel
theorem dX11_write_58 : decode cX11_write 58 = .ok (.iconst 1, 1) := by decide +kernel
theorem dX11_write_59 : decode cX11_write 59 = .ok (.if_icmp .ne 6, 3) := by decide +kernel
theorem dX11_write_62 : decode cX11_write 62 = .ok (.bipush (-3), 2) := by decide +kernel
theorem dX11_write_64 : decode cX11_write 64 = .ok (.ireturn, 1) := by decide +kernel
theorem dX11_write_65 : decode cX11_write 65 = .ok (.aload 7, 2) := by decide +kernel
theorem dX11_write_67 : decode cX11_write 67 = .ok (.getfield 196, 3) := by decide +kernel
theorem dX11_write_70 : decode cX11_write 70 = .ok (.aload_n 0, 1) := by decide +kernel
theorem dX11_write_71 : decode cX11_write 71 = .ok (.getfield 27, 3) := by decide +kernel
theorem dX11_write_74 : decode cX11_write 74 = .ok (.iload_n 3, 1) := by decide +kernel
theorem dX11_write_75 : decode cX11_write 75 = .ok (.aaload, 1) := by decide +kernel
theorem dX11_write_76 : decode cX11_write 76 = .ok (.iload_n 2, 1) := by decide +kernel
theorem dX11_write_77 : decode cX11_write 77 = .ok (.laload, 1) := by decide +kernel
theorem dX11_write_78 : decode cX11_write 78 = .ok (.lcmp, 1) := by decide +kernel
theorem dX11_write_79 : decode cX11_write 79 = .ok (.ifCond .ge 15, 3) := by decide +kernel
theorem dX11_write_82 : decode cX11_write 82 = .ok (.aload_n 0, 1) := by decide +kernel
theorem dX11_write_83 : decode cX11_write 83 = .ok (.dup, 1) := by decide +kernel
theorem dX11_write_84 : decode cX11_write 84 = .ok (.getfield 64, 3) := by decide +kernel
theorem dX11_write_87 : decode cX11_write 87 = .ok (.iconst 1, 1) := by decide +kernel
theorem dX11_write_88 : decode cX11_write 88 = .ok (.iadd, 1) := by decide +kernel
theorem dX11_write_89 : decode cX11_write 89 = .ok (.putfield 64, 3) := by decide +kernel
theorem dX11_write_92 : decode cX11_write 92 = .ok (.iconst 0, 1) := by decide +kernel
theorem dX11_write_93 : decode cX11_write 93 = .ok (.ireturn, 1) := by decide +kernel
theorem dX11_write_94 : decode cX11_write 94 = .ok (.aload_n 0, 1) := by decide +kernel
theorem dX11_write_95 : decode cX11_write 95 = .ok (.getfield 27, 3) := by decide +kernel
theorem dX11_write_98 : decode cX11_write 98 = .ok (.iload_n 3, 1) := by decide +kernel
theorem dX11_write_99 : decode cX11_write 99 = .ok (.aaload, 1) := by decide +kernel
theorem dX11_write_100 : decode cX11_write 100 = .ok (.iload_n 2, 1) := by decide +kernel
theorem dX11_write_101 : decode cX11_write 101 = .ok (.aload 7, 2) := by decide +kernel
theorem dX11_write_103 : decode cX11_write 103 = .ok (.getfield 196, 3) := by decide +kernel
theorem dX11_write_106 : decode cX11_write 106 = .ok (.lastore, 1) := by decide +kernel
theorem dX11_write_107 : decode cX11_write 107 = .ok (.aload_n 0, 1) := by decide +kernel
theorem dX11_write_108 : decode cX11_write 108 = .ok (.getfield 30, 3) := by decide +kernel
theorem dX11_write_111 : decode cX11_write 111 = .ok (.iload_n 3, 1) := by decide +kernel
theorem dX11_write_112 : decode cX11_write 112 = .ok (.aaload, 1) := by decide +kernel
theorem dX11_write_113 : decode cX11_write 113 = .ok (.iload_n 2, 1) := by decide +kernel
theorem dX11_write_114 : decode cX11_write 114 = .ok (.lload 4, 2) := by decide +kernel
theorem dX11_write_116 : decode cX11_write 116 = .ok (.lastore, 1) := by decide +kernel
theorem dX11_write_117 : decode cX11_write 117 = .ok (.iconst 1, 1) := by decide +kernel
theorem dX11_write_118 : decode cX11_write 118 = .ok (.ireturn, 1) := by decide +kernel
theorem dX11_stored_0 : decode cX11_stored 0 = .ok (.aload_n 0, 1) := by decide +kernel
theorem dX11_stored_1 : decode cX11_stored 1 = .ok (.iload_n 1, 1) := by decide +kernel
theorem dX11_stored_2 : decode cX11_stored 2 = .ok (.iload_n 2, 1) := by decide +kernel
theorem dX11_stored_3 : decode cX11_stored 3 = .ok (.invokevirtual 309, 3) := by decide +kernel
theorem dX11_stored_6 : decode cX11_stored 6 = .ok (.ifCond .eq 12, 3) := by decide +kernel
theorem dX11_stored_9 : decode cX11_stored 9 = .ok (.iload_n 3, 1) := by decide +kernel
theorem dX11_stored_10 : decode cX11_stored 10 = .ok (.iconst 0, 1) := by decide +kernel
theorem dX11_stored_11 : decode cX11_stored 11 = .ok (.iconst 1, 1) := by decide +kernel
theorem dX11_stored_12 : decode cX11_stored 12 = .ok (.invokestatic 103, 3) := by decide +kernel
theorem dX11_stored_15 : decode cX11_stored 15 = .ok (.ifCond .ne 7, 3) := by decide +kernel
theorem dX11_stored_18 : decode cX11_stored 18 = .ok (.ldc2_w 117, 3) := by decide +kernel
theorem dX11_stored_21 : decode cX11_stored 21 = .ok (.lreturn, 1) := by decide +kernel
theorem dX11_stored_22 : decode cX11_stored 22 = .ok (.iload_n 3, 1) := by decide +kernel
theorem dX11_stored_23 : decode cX11_stored 23 = .ok (.ifCond .ne 14, 3) := by decide +kernel
theorem dX11_stored_26 : decode cX11_stored 26 = .ok (.aload_n 0, 1) := by decide +kernel
theorem dX11_stored_27 : decode cX11_stored 27 = .ok (.getfield 27, 3) := by decide +kernel
theorem dX11_stored_30 : decode cX11_stored 30 = .ok (.iload_n 1, 1) := by decide +kernel
theorem dX11_stored_31 : decode cX11_stored 31 = .ok (.aaload, 1) := by decide +kernel
theorem dX11_stored_32 : decode cX11_stored 32 = .ok (.iload_n 2, 1) := by decide +kernel
theorem dX11_stored_33 : decode cX11_stored 33 = .ok (.laload, 1) := by decide +kernel
theorem dX11_stored_34 : decode cX11_stored 34 = .ok (.goto 11, 3) := by decide +kernel
theorem dX11_stored_37 : decode cX11_stored 37 = .ok (.aload_n 0, 1) := by decide +kernel
theorem dX11_stored_38 : decode cX11_stored 38 = .ok (.getfield 30, 3) := by decide +kernel
theorem dX11_stored_41 : decode cX11_stored 41 = .ok (.iload_n 1, 1) := by decide +kernel
theorem dX11_stored_42 : decode cX11_stored 42 = .ok (.aaload, 1) := by decide +kernel
theorem dX11_stored_43 : decode cX11_stored 43 = .ok (.iload_n 2, 1) := by decide +kernel
theorem dX11_stored_44 : decode cX11_stored 44 = .ok (.laload, 1) := by decide +kernel
theorem dX11_stored_45 : decode cX11_stored 45 = .ok (.lreturn, 1) := by decide +kernel
theorem dX11_count_0 : decode cX11_count 0 = .ok (.iload_n 1, 1) := by decide +kernel
theorem dX11_count_1 : decode cX11_count 1 = .ok (.tableswitch 162 0 14 #[75, 83, 91, 99, 104, 112, 117, 122, 127, 132, 137, 142, 147, 152, 157], 75) := by decide +kernel
theorem dX11_count_76 : decode cX11_count 76 = .ok (.aload_n 0, 1) := by decide +kernel
theorem dX11_count_77 : decode cX11_count 77 = .ok (.getfield 10, 3) := by decide +kernel
theorem dX11_count_80 : decode cX11_count 80 = .ok (.invokevirtual 87, 3) := by decide +kernel
theorem dX11_count_83 : decode cX11_count 83 = .ok (.ireturn, 1) := by decide +kernel
theorem dX11_count_84 : decode cX11_count 84 = .ok (.aload_n 0, 1) := by decide +kernel
theorem dX11_count_85 : decode cX11_count 85 = .ok (.getfield 16, 3) := by decide +kernel
theorem dX11_count_88 : decode cX11_count 88 = .ok (.invokevirtual 87, 3) := by decide +kernel
theorem dX11_count_91 : decode cX11_count 91 = .ok (.ireturn, 1) := by decide +kernel
theorem dX11_count_92 : decode cX11_count 92 = .ok (.aload_n 0, 1) := by decide +kernel
theorem dX11_count_93 : decode cX11_count 93 = .ok (.getfield 19, 3) := by decide +kernel
theorem dX11_count_96 : decode cX11_count 96 = .ok (.invokevirtual 87, 3) := by decide +kernel
theorem dX11_count_99 : decode cX11_count 99 = .ok (.ireturn, 1) := by decide +kernel
theorem dX11_count_100 : decode cX11_count 100 = .ok (.aload_n 0, 1) := by decide +kernel
theorem dX11_count_101 : decode cX11_count 101 = .ok (.getfield 39, 3) := by decide +kernel
theorem dX11_count_104 : decode cX11_count 104 = .ok (.ireturn, 1) := by decide +kernel
theorem dX11_count_105 : decode cX11_count 105 = .ok (.aload_n 0, 1) := by decide +kernel
theorem dX11_count_106 : decode cX11_count 106 = .ok (.getfield 22, 3) := by decide +kernel
theorem dX11_count_109 : decode cX11_count 109 = .ok (.invokevirtual 87, 3) := by decide +kernel
theorem dX11_count_112 : decode cX11_count 112 = .ok (.ireturn, 1) := by decide +kernel
theorem dX11_count_113 : decode cX11_count 113 = .ok (.aload_n 0, 1) := by decide +kernel
theorem dX11_count_114 : decode cX11_count 114 = .ok (.invokevirtual 312, 3) := by decide +kernel
theorem dX11_count_117 : decode cX11_count 117 = .ok (.ireturn, 1) := by decide +kernel
theorem dX11_count_118 : decode cX11_count 118 = .ok (.aload_n 0, 1) := by decide +kernel
theorem dX11_count_119 : decode cX11_count 119 = .ok (.invokevirtual 315, 3) := by decide +kernel
theorem dX11_count_122 : decode cX11_count 122 = .ok (.ireturn, 1) := by decide +kernel
theorem dX11_count_123 : decode cX11_count 123 = .ok (.aload_n 0, 1) := by decide +kernel
theorem dX11_count_124 : decode cX11_count 124 = .ok (.getfield 46, 3) := by decide +kernel
theorem dX11_count_127 : decode cX11_count 127 = .ok (.ireturn, 1) := by decide +kernel
theorem dX11_count_128 : decode cX11_count 128 = .ok (.aload_n 0, 1) := by decide +kernel
theorem dX11_count_129 : decode cX11_count 129 = .ok (.getfield 49, 3) := by decide +kernel
theorem dX11_count_132 : decode cX11_count 132 = .ok (.ireturn, 1) := by decide +kernel
theorem dX11_count_133 : decode cX11_count 133 = .ok (.aload_n 0, 1) := by decide +kernel
theorem dX11_count_134 : decode cX11_count 134 = .ok (.getfield 52, 3) := by decide +kernel
theorem dX11_count_137 : decode cX11_count 137 = .ok (.ireturn, 1) := by decide +kernel
theorem dX11_count_138 : decode cX11_count 138 = .ok (.aload_n 0, 1) := by decide +kernel
theorem dX11_count_139 : decode cX11_count 139 = .ok (.getfield 55, 3) := by decide +kernel
theorem dX11_count_142 : decode cX11_count 142 = .ok (.ireturn, 1) := by decide +kernel
theorem dX11_count_143 : decode cX11_count 143 = .ok (.aload_n 0, 1) := by decide +kernel
theorem dX11_count_144 : decode cX11_count 144 = .ok (.getfield 58, 3) := by decide +kernel
theorem dX11_count_147 : decode cX11_count 147 = .ok (.ireturn, 1) := by decide +kernel
theorem dX11_count_148 : decode cX11_count 148 = .ok (.aload_n 0, 1) := by decide +kernel
theorem dX11_count_149 : decode cX11_count 149 = .ok (.getfield 61, 3) := by decide +kernel
theorem dX11_count_152 : decode cX11_count 152 = .ok (.ireturn, 1) := by decide +kernel
theorem dX11_count_153 : decode cX11_count 153 = .ok (.aload_n 0, 1) := by decide +kernel
theorem dX11_count_154 : decode cX11_count 154 = .ok (.getfield 64, 3) := by decide +kernel
theorem dX11_count_157 : decode cX11_count 157 = .ok (.ireturn, 1) := by decide +kernel
theorem dX11_count_158 : decode cX11_count 158 = .ok (.aload_n 0, 1) := by decide +kernel
theorem dX11_count_159 : decode cX11_count 159 = .ok (.invokevirtual 318, 3) := by decide +kernel
theorem dX11_count_162 : decode cX11_count 162 = .ok (.ireturn, 1) := by decide +kernel
theorem dX11_count_163 : decode cX11_count 163 = .ok (.bipush (-2), 2) := by decide +kernel
theorem dX11_count_165 : decode cX11_count 165 = .ok (.ireturn, 1) := by decide +kernel
theorem dX11_put_0 : decode cX11_put 0 = .ok (.aload_n 0, 1) := by decide +kernel
theorem dX11_put_1 : decode cX11_put 1 = .ok (.iload_n 1, 1) := by decide +kernel
theorem dX11_put_2 : decode cX11_put 2 = .ok (.invokevirtual 321, 3) := by decide +kernel
theorem dX11_put_5 : decode cX11_put 5 = .ok (.astore 4, 2) := by decide +kernel
theorem dX11_put_7 : decode cX11_put 7 = .ok (.aload 4, 2) := by decide +kernel
theorem dX11_put_9 : decode cX11_put 9 = .ok (.ifnull 12, 3) := by decide +kernel
theorem dX11_put_12 : decode cX11_put 12 = .ok (.aload_n 0, 1) := by decide +kernel
theorem dX11_put_13 : decode cX11_put 13 = .ok (.iload_n 2, 1) := by decide +kernel
theorem dX11_put_14 : decode cX11_put 14 = .ok (.iload_n 3, 1) := by decide +kernel
theorem dX11_put_15 : decode cX11_put 15 = .ok (.invokevirtual 325, 3) := by decide +kernel
theorem dX11_put_18 : decode cX11_put 18 = .ok (.ifCond .ne 9, 3) := by decide +kernel
theorem dX11_put_21 : decode cX11_put 21 = .ok (.aload_n 0, 1) := by decide +kernel
theorem dX11_put_22 : decode cX11_put 22 = .ok (.iconst 1, 1) := by decide +kernel
theorem dX11_put_23 : decode cX11_put 23 = .ok (.invokevirtual 328, 3) := by decide +kernel
theorem dX11_put_26 : decode cX11_put 26 = .ok (.ireturn, 1) := by decide +kernel
theorem dX11_put_27 : decode cX11_put 27 = .ok (.aload 4, 2) := by decide +kernel
theorem dX11_put_29 : decode cX11_put 29 = .ok (.invokevirtual 331, 3) := by decide +kernel
theorem dX11_put_32 : decode cX11_put 32 = .ok (.iload_n 2, 1) := by decide +kernel
theorem dX11_put_33 : decode cX11_put 33 = .ok (.tableswitch 83 1 4 #[31, 44, 57, 70], 31) := by decide +kernel
theorem dX11_put_64 : decode cX11_put 64 = .ok (.aload 4, 2) := by decide +kernel
theorem dX11_put_66 : decode cX11_put 66 = .ok (.aload_n 0, 1) := by decide +kernel
theorem dX11_put_67 : decode cX11_put 67 = .ok (.iload_n 3, 1) := by decide +kernel
theorem dX11_put_68 : decode cX11_put 68 = .ok (.invokevirtual 156, 3) := by decide +kernel
theorem dX11_put_71 : decode cX11_put 71 = .ok (.putfield 334, 3) := by decide +kernel
theorem dX11_put_74 : decode cX11_put 74 = .ok (.goto 42, 3) := by decide +kernel
theorem dX11_put_77 : decode cX11_put 77 = .ok (.aload 4, 2) := by decide +kernel
theorem dX11_put_79 : decode cX11_put 79 = .ok (.aload_n 0, 1) := by decide +kernel
theorem dX11_put_80 : decode cX11_put 80 = .ok (.iload_n 3, 1) := by decide +kernel
theorem dX11_put_81 : decode cX11_put 81 = .ok (.invokevirtual 205, 3) := by decide +kernel
theorem dX11_put_84 : decode cX11_put 84 = .ok (.putfield 337, 3) := by decide +kernel
theorem dX11_put_87 : decode cX11_put 87 = .ok (.goto 29, 3) := by decide +kernel
theorem dX11_put_90 : decode cX11_put 90 = .ok (.aload 4, 2) := by decide +kernel
theorem dX11_put_92 : decode cX11_put 92 = .ok (.aload_n 0, 1) := by decide +kernel
theorem dX11_put_93 : decode cX11_put 93 = .ok (.iload_n 3, 1) := by decide +kernel
theorem dX11_put_94 : decode cX11_put 94 = .ok (.invokevirtual 341, 3) := by decide +kernel
theorem dX11_put_97 : decode cX11_put 97 = .ok (.putfield 345, 3) := by decide +kernel
theorem dX11_put_100 : decode cX11_put 100 = .ok (.goto 16, 3) := by decide +kernel
theorem dX11_put_103 : decode cX11_put 103 = .ok (.aload 4, 2) := by decide +kernel
theorem dX11_put_105 : decode cX11_put 105 = .ok (.aload_n 0, 1) := by decide +kernel
theorem dX11_put_106 : decode cX11_put 106 = .ok (.iload_n 3, 1) := by decide +kernel
theorem dX11_put_107 : decode cX11_put 107 = .ok (.invokevirtual 349, 3) := by decide +kernel
theorem dX11_put_110 : decode cX11_put 110 = .ok (.putfield 353, 3) := by decide +kernel
theorem dX11_put_113 : decode cX11_put 113 = .ok (.goto 3, 3) := by decide +kernel
theorem dX11_put_116 : decode cX11_put 116 = .ok (.aload_n 0, 1) := by decide +kernel
theorem dX11_put_117 : decode cX11_put 117 = .ok (.iconst 0, 1) := by decide +kernel
theorem dX11_put_118 : decode cX11_put 118 = .ok (.putfield 67, 3) := by decide +kernel
theorem dX11_put_121 : decode cX11_put 121 = .ok (.iconst 1, 1) := by decide +kernel
theorem dX11_put_122 : decode cX11_put 122 = .ok (.ireturn, 1) := by decide +kernel
theorem dX11_forge_0 : decode cX11_forge 0 = .ok (.aload_n 0, 1) := by decide +kernel
theorem dX11_forge_1 : decode cX11_forge 1 = .ok (.iload_n 1, 1) := by decide +kernel
theorem dX11_forge_2 : decode cX11_forge 2 = .ok (.invokevirtual 321, 3) := by decide +kernel
theorem dX11_forge_5 : decode cX11_forge 5 = .ok (.astore 4, 2) := by decide +kernel
theorem dX11_forge_7 : decode cX11_forge 7 = .ok (.aload 4, 2) := by decide +kernel
theorem dX11_forge_9 : decode cX11_forge 9 = .ok (.ifnull 14, 3) := by decide +kernel
theorem dX11_forge_12 : decode cX11_forge 12 = .ok (.iload_n 3, 1) := by decide +kernel
theorem dX11_forge_13 : decode cX11_forge 13 = .ok (.bipush (-100), 2) := by decide +kernel
theorem dX11_forge_15 : decode cX11_forge 15 = .ok (.bipush 100, 2) := by decide +kernel
theorem dX11_forge_17 : decode cX11_forge 17 = .ok (.invokestatic 103, 3) := by decide +kernel
theorem dX11_forge_20 : decode cX11_forge 20 = .ok (.ifCond .ne 9, 3) := by decide +kernel
theorem dX11_forge_23 : decode cX11_forge 23 = .ok (.aload_n 0, 1) := by decide +kernel
theorem dX11_forge_24 : decode cX11_forge 24 = .ok (.iconst 1, 1) := by decide +kernel
theorem dX11_forge_25 : decode cX11_forge 25 = .ok (.invokevirtual 328, 3) := by decide +kernel
theorem dX11_forge_28 : decode cX11_forge 28 = .ok (.ireturn, 1) := by decide +kernel
theorem dX11_forge_29 : decode cX11_forge 29 = .ok (.aload_n 0, 1) := by decide +kernel
theorem dX11_forge_30 : decode cX11_forge 30 = .ok (.iconst 0, 1) := by decide +kernel
theorem dX11_forge_31 : decode cX11_forge 31 = .ok (.putfield 67, 3) := by decide +kernel
theorem dX11_forge_34 : decode cX11_forge 34 = .ok (.iload_n 2, 1) := by decide +kernel
theorem dX11_forge_35 : decode cX11_forge 35 = .ok (.tableswitch 151 0 8 #[49, 61, 79, 87, 95, 110, 118, 125, 144], 49) := by decide +kernel
theorem dX11_forge_84 : decode cX11_forge 84 = .ok (.aload_n 0, 1) := by decide +kernel
theorem dX11_forge_85 : decode cX11_forge 85 = .ok (.aload 4, 2) := by decide +kernel
theorem dX11_forge_87 : decode cX11_forge 87 = .ok (.iload_n 3, 1) := by decide +kernel
theorem dX11_forge_88 : decode cX11_forge 88 = .ok (.iconst 5, 1) := by decide +kernel
theorem dX11_forge_89 : decode cX11_forge 89 = .ok (.invokestatic 357, 3) := by decide +kernel
theorem dX11_forge_92 : decode cX11_forge 92 = .ok (.invokevirtual 360, 3) := by decide +kernel
theorem dX11_forge_95 : decode cX11_forge 95 = .ok (.ireturn, 1) := by decide +kernel
theorem dX11_forge_96 : decode cX11_forge 96 = .ok (.aload_n 0, 1) := by decide +kernel
theorem dX11_forge_97 : decode cX11_forge 97 = .ok (.aload 4, 2) := by decide +kernel
theorem dX11_forge_99 : decode cX11_forge 99 = .ok (.iload_n 3, 1) := by decide +kernel
theorem dX11_forge_100 : decode cX11_forge 100 = .ok (.iconst 1, 1) := by decide +kernel
theorem dX11_forge_101 : decode cX11_forge 101 = .ok (.iand, 1) := by decide +kernel
theorem dX11_forge_102 : decode cX11_forge 102 = .ok (.ifCond .ne 7, 3) := by decide +kernel
theorem dX11_forge_105 : decode cX11_forge 105 = .ok (.iconst 1, 1) := by decide +kernel
theorem dX11_forge_106 : decode cX11_forge 106 = .ok (.goto 4, 3) := by decide +kernel
theorem dX11_forge_109 : decode cX11_forge 109 = .ok (.iconst 0, 1) := by decide +kernel
theorem dX11_forge_110 : decode cX11_forge 110 = .ok (.invokevirtual 364, 3) := by decide +kernel
theorem dX11_forge_113 : decode cX11_forge 113 = .ok (.ireturn, 1) := by decide +kernel
theorem dX11_forge_114 : decode cX11_forge 114 = .ok (.aload_n 0, 1) := by decide +kernel
theorem dX11_forge_115 : decode cX11_forge 115 = .ok (.aload 4, 2) := by decide +kernel
theorem dX11_forge_117 : decode cX11_forge 117 = .ok (.iload_n 3, 1) := by decide +kernel
theorem dX11_forge_118 : decode cX11_forge 118 = .ok (.invokevirtual 368, 3) := by decide +kernel
theorem dX11_forge_121 : decode cX11_forge 121 = .ok (.ireturn, 1) := by decide +kernel
theorem dX11_forge_122 : decode cX11_forge 122 = .ok (.aload_n 0, 1) := by decide +kernel
theorem dX11_forge_123 : decode cX11_forge 123 = .ok (.aload 4, 2) := by decide +kernel
theorem dX11_forge_125 : decode cX11_forge 125 = .ok (.iload_n 3, 1) := by decide +kernel
theorem dX11_forge_126 : decode cX11_forge 126 = .ok (.invokevirtual 371, 3) := by decide +kernel
theorem dX11_forge_129 : decode cX11_forge 129 = .ok (.ireturn, 1) := by decide +kernel
theorem dX11_forge_130 : decode cX11_forge 130 = .ok (.iload_n 3, 1) := by decide +kernel
theorem dX11_forge_131 : decode cX11_forge 131 = .ok (.ifCond .ge 12, 3) := by decide +kernel
theorem dX11_forge_134 : decode cX11_forge 134 = .ok (.aload_n 0, 1) := by decide +kernel
theorem dX11_forge_135 : decode cX11_forge 135 = .ok (.bipush 13, 2) := by decide +kernel
theorem dX11_forge_137 : decode cX11_forge 137 = .ok (.invokevirtual 328, 3) := by decide +kernel
theorem dX11_forge_140 : decode cX11_forge 140 = .ok (.goto 4, 3) := by decide +kernel
theorem dX11_forge_143 : decode cX11_forge 143 = .ok (.iload_n 3, 1) := by decide +kernel
theorem dX11_forge_144 : decode cX11_forge 144 = .ok (.ireturn, 1) := by decide +kernel
theorem dX11_forge_145 : decode cX11_forge 145 = .ok (.aload_n 0, 1) := by decide +kernel
theorem dX11_forge_146 : decode cX11_forge 146 = .ok (.aload 4, 2) := by decide +kernel
theorem dX11_forge_148 : decode cX11_forge 148 = .ok (.iload_n 3, 1) := by decide +kernel
theorem dX11_forge_149 : decode cX11_forge 149 = .ok (.invokevirtual 374, 3) := by decide +kernel
theorem dX11_forge_152 : decode cX11_forge 152 = .ok (.ireturn, 1) := by decide +kernel
theorem dX11_forge_153 : decode cX11_forge 153 = .ok (.aload_n 0, 1) := by decide +kernel
theorem dX11_forge_154 : decode cX11_forge 154 = .ok (.aload 4, 2) := by decide +kernel
theorem dX11_forge_156 : decode cX11_forge 156 = .ok (.invokevirtual 377, 3) := by decide +kernel
theorem dX11_forge_159 : decode cX11_forge 159 = .ok (.ireturn, 1) := by decide +kernel
theorem dX11_forge_160 : decode cX11_forge 160 = .ok (.iload_n 3, 1) := by decide +kernel
theorem dX11_forge_161 : decode cX11_forge 161 = .ok (.ifCond .ne 12, 3) := by decide +kernel
theorem dX11_forge_164 : decode cX11_forge 164 = .ok (.aload_n 0, 1) := by decide +kernel
theorem dX11_forge_165 : decode cX11_forge 165 = .ok (.bipush 15, 2) := by decide +kernel
theorem dX11_forge_167 : decode cX11_forge 167 = .ok (.invokevirtual 328, 3) := by decide +kernel
theorem dX11_forge_170 : decode cX11_forge 170 = .ok (.goto 8, 3) := by decide +kernel
theorem dX11_forge_173 : decode cX11_forge 173 = .ok (.sipush 1000, 3) := by decide +kernel
theorem dX11_forge_176 : decode cX11_forge 176 = .ok (.iload_n 3, 1) := by decide +kernel
theorem dX11_forge_177 : decode cX11_forge 177 = .ok (.idiv, 1) := by decide +kernel
theorem dX11_forge_178 : decode cX11_forge 178 = .ok (.ireturn, 1) := by decide +kernel
theorem dX11_forge_179 : decode cX11_forge 179 = .ok (.aload_n 0, 1) := by decide +kernel
theorem dX11_forge_180 : decode cX11_forge 180 = .ok (.bipush 10, 2) := by decide +kernel
theorem dX11_forge_182 : decode cX11_forge 182 = .ok (.invokevirtual 328, 3) := by decide +kernel
theorem dX11_forge_185 : decode cX11_forge 185 = .ok (.ireturn, 1) := by decide +kernel
theorem dX11_forge_186 : decode cX11_forge 186 = .ok (.aload_n 0, 1) := by decide +kernel
theorem dX11_forge_187 : decode cX11_forge 187 = .ok (.iconst 1, 1) := by decide +kernel
theorem dX11_forge_188 : decode cX11_forge 188 = .ok (.invokevirtual 328, 3) := by decide +kernel
theorem dX11_forge_191 : decode cX11_forge 191 = .ok (.ireturn, 1) := by decide +kernel
theorem dX11_status_0 : decode cX11_status 0 = .ok (.aload_n 0, 1) := by decide +kernel
theorem dX11_status_1 : decode cX11_status 1 = .ok (.getfield 67, 3) := by decide +kernel
theorem dX11_status_4 : decode cX11_status 4 = .ok (.ireturn, 1) := by decide +kernel
theorem dX11_isWithin_0 : decode cX11_isWithin 0 = .ok (.iload_n 0, 1) := by decide +kernel
theorem dX11_isWithin_1 : decode cX11_isWithin 1 = .ok (.iload_n 1, 1) := by decide +kernel
theorem dX11_isWithin_2 : decode cX11_isWithin 2 = .ok (.if_icmp .lt 12, 3) := by decide +kernel
theorem dX11_isWithin_5 : decode cX11_isWithin 5 = .ok (.iload_n 0, 1) := by decide +kernel
theorem dX11_isWithin_6 : decode cX11_isWithin 6 = .ok (.iload_n 2, 1) := by decide +kernel
theorem dX11_isWithin_7 : decode cX11_isWithin 7 = .ok (.if_icmp .gt 7, 3) := by decide +kernel
theorem dX11_isWithin_10 : decode cX11_isWithin 10 = .ok (.iconst 1, 1) := by decide +kernel
theorem dX11_isWithin_11 : decode cX11_isWithin 11 = .ok (.goto 4, 3) := by decide +kernel
theorem dX11_isWithin_14 : decode cX11_isWithin 14 = .ok (.iconst 0, 1) := by decide +kernel
theorem dX11_isWithin_15 : decode cX11_isWithin 15 = .ok (.ireturn, 1) := by decide +kernel
theorem dX11_isClock_0 : decode cX11_isClock 0 = .ok (.iload_n 1, 1) := by decide +kernel
theorem dX11_isClock_1 : decode cX11_isClock 1 = .ok (.ldc_w 381, 3) := by decide +kernel
theorem dX11_isClock_4 : decode cX11_isClock 4 = .ok (.ldc_w 382, 3) := by decide +kernel
theorem dX11_isClock_7 : decode cX11_isClock 7 = .ok (.invokestatic 103, 3) := by decide +kernel
theorem dX11_isClock_10 : decode cX11_isClock 10 = .ok (.ifCond .eq 30, 3) := by decide +kernel
theorem dX11_isClock_13 : decode cX11_isClock 13 = .ok (.iload_n 2, 1) := by decide +kernel
theorem dX11_isClock_14 : decode cX11_isClock 14 = .ok (.sipush 1000, 3) := by decide +kernel
theorem dX11_isClock_17 : decode cX11_isClock 17 = .ok (.aload_n 0, 1) := by decide +kernel
theorem dX11_isClock_18 : decode cX11_isClock 18 = .ok (.getfield 79, 3) := by decide +kernel
theorem dX11_isClock_21 : decode cX11_isClock 21 = .ok (.isub, 1) := by decide +kernel
theorem dX11_isClock_22 : decode cX11_isClock 22 = .ok (.sipush 1000, 3) := by decide +kernel
theorem dX11_isClock_25 : decode cX11_isClock 25 = .ok (.aload_n 0, 1) := by decide +kernel
theorem dX11_isClock_26 : decode cX11_isClock 26 = .ok (.getfield 79, 3) := by decide +kernel
theorem dX11_isClock_29 : decode cX11_isClock 29 = .ok (.iadd, 1) := by decide +kernel
theorem dX11_isClock_30 : decode cX11_isClock 30 = .ok (.invokestatic 103, 3) := by decide +kernel
theorem dX11_isClock_33 : decode cX11_isClock 33 = .ok (.ifCond .eq 7, 3) := by decide +kernel
theorem dX11_isClock_36 : decode cX11_isClock 36 = .ok (.iconst 1, 1) := by decide +kernel
theorem dX11_isClock_37 : decode cX11_isClock 37 = .ok (.goto 4, 3) := by decide +kernel
theorem dX11_isClock_40 : decode cX11_isClock 40 = .ok (.iconst 0, 1) := by decide +kernel
theorem dX11_isClock_41 : decode cX11_isClock 41 = .ok (.ireturn, 1) := by decide +kernel
theorem dX11_isStored_0 : decode cX11_isStored 0 = .ok (.iload_n 1, 1) := by decide +kernel
theorem dX11_isStored_1 : decode cX11_isStored 1 = .ok (.iconst 0, 1) := by decide +kernel
theorem dX11_isStored_2 : decode cX11_isStored 2 = .ok (.aload_n 0, 1) := by decide +kernel
theorem dX11_isStored_3 : decode cX11_isStored 3 = .ok (.getfield 39, 3) := by decide +kernel
theorem dX11_isStored_6 : decode cX11_isStored 6 = .ok (.iconst 1, 1) := by decide +kernel
theorem dX11_isStored_7 : decode cX11_isStored 7 = .ok (.isub, 1) := by decide +kernel
theorem dX11_isStored_8 : decode cX11_isStored 8 = .ok (.invokestatic 103, 3) := by decide +kernel
theorem dX11_isStored_11 : decode cX11_isStored 11 = .ok (.ifCond .eq 24, 3) := by decide +kernel
theorem dX11_isStored_14 : decode cX11_isStored 14 = .ok (.iload_n 1, 1) := by decide +kernel
theorem dX11_isStored_15 : decode cX11_isStored 15 = .ok (.aload_n 0, 1) := by decide +kernel
theorem dX11_isStored_16 : decode cX11_isStored 16 = .ok (.getfield 27, 3) := by decide +kernel
theorem dX11_isStored_19 : decode cX11_isStored 19 = .ok (.arraylength, 1) := by decide +kernel
theorem dX11_isStored_20 : decode cX11_isStored 20 = .ok (.if_icmp .ge 15, 3) := by decide +kernel
theorem dX11_isStored_23 : decode cX11_isStored 23 = .ok (.aload_n 0, 1) := by decide +kernel
theorem dX11_isStored_24 : decode cX11_isStored 24 = .ok (.iload_n 2, 1) := by decide +kernel
theorem dX11_isStored_25 : decode cX11_isStored 25 = .ok (.invokevirtual 156, 3) := by decide +kernel
theorem dX11_isStored_28 : decode cX11_isStored 28 = .ok (.ifnull 7, 3) := by decide +kernel
theorem dX11_isStored_31 : decode cX11_isStored 31 = .ok (.iconst 1, 1) := by decide +kernel
theorem dX11_isStored_32 : decode cX11_isStored 32 = .ok (.goto 4, 3) := by decide +kernel
theorem dX11_isStored_35 : decode cX11_isStored 35 = .ok (.iconst 0, 1) := by decide +kernel
theorem dX11_isStored_36 : decode cX11_isStored 36 = .ok (.ireturn, 1) := by decide +kernel
theorem dX11_keeperAt_0 : decode cX11_keeperAt 0 = .ok (.iload_n 1, 1) := by decide +kernel
theorem dX11_keeperAt_1 : decode cX11_keeperAt 1 = .ok (.iconst 0, 1) := by decide +kernel
theorem dX11_keeperAt_2 : decode cX11_keeperAt 2 = .ok (.aload_n 0, 1) := by decide +kernel
theorem dX11_keeperAt_3 : decode cX11_keeperAt 3 = .ok (.getfield 10, 3) := by decide +kernel
theorem dX11_keeperAt_6 : decode cX11_keeperAt 6 = .ok (.invokevirtual 87, 3) := by decide +kernel
theorem dX11_keeperAt_9 : decode cX11_keeperAt 9 = .ok (.iconst 1, 1) := by decide +kernel
theorem dX11_keeperAt_10 : decode cX11_keeperAt 10 = .ok (.isub, 1) := by decide +kernel
theorem dX11_keeperAt_11 : decode cX11_keeperAt 11 = .ok (.invokestatic 103, 3) := by decide +kernel
theorem dX11_keeperAt_14 : decode cX11_keeperAt 14 = .ok (.ifCond .eq 17, 3) := by decide +kernel
theorem dX11_keeperAt_17 : decode cX11_keeperAt 17 = .ok (.aload_n 0, 1) := by decide +kernel
theorem dX11_keeperAt_18 : decode cX11_keeperAt 18 = .ok (.getfield 10, 3) := by decide +kernel
theorem dX11_keeperAt_21 : decode cX11_keeperAt 21 = .ok (.iload_n 1, 1) := by decide +kernel
theorem dX11_keeperAt_22 : decode cX11_keeperAt 22 = .ok (.invokevirtual 383, 3) := by decide +kernel
theorem dX11_keeperAt_25 : decode cX11_keeperAt 25 = .ok (.checkcast 91, 3) := by decide +kernel
theorem dX11_keeperAt_28 : decode cX11_keeperAt 28 = .ok (.goto 4, 3) := by decide +kernel
theorem dX11_keeperAt_31 : decode cX11_keeperAt 31 = .ok (.aconst_null, 1) := by decide +kernel
theorem dX11_keeperAt_32 : decode cX11_keeperAt 32 = .ok (.areturn, 1) := by decide +kernel
theorem dX11_workerAt_0 : decode cX11_workerAt 0 = .ok (.iload_n 1, 1) := by decide +kernel
theorem dX11_workerAt_1 : decode cX11_workerAt 1 = .ok (.iconst 0, 1) := by decide +kernel
theorem dX11_workerAt_2 : decode cX11_workerAt 2 = .ok (.aload_n 0, 1) := by decide +kernel
theorem dX11_workerAt_3 : decode cX11_workerAt 3 = .ok (.getfield 16, 3) := by decide +kernel
theorem dX11_workerAt_6 : decode cX11_workerAt 6 = .ok (.invokevirtual 87, 3) := by decide +kernel
theorem dX11_workerAt_9 : decode cX11_workerAt 9 = .ok (.iconst 1, 1) := by decide +kernel
theorem dX11_workerAt_10 : decode cX11_workerAt 10 = .ok (.isub, 1) := by decide +kernel
theorem dX11_workerAt_11 : decode cX11_workerAt 11 = .ok (.invokestatic 103, 3) := by decide +kernel
theorem dX11_workerAt_14 : decode cX11_workerAt 14 = .ok (.ifCond .eq 17, 3) := by decide +kernel
theorem dX11_workerAt_17 : decode cX11_workerAt 17 = .ok (.aload_n 0, 1) := by decide +kernel
theorem dX11_workerAt_18 : decode cX11_workerAt 18 = .ok (.getfield 16, 3) := by decide +kernel
theorem dX11_workerAt_21 : decode cX11_workerAt 21 = .ok (.iload_n 1, 1) := by decide +kernel
theorem dX11_workerAt_22 : decode cX11_workerAt 22 = .ok (.invokevirtual 383, 3) := by decide +kernel
theorem dX11_workerAt_25 : decode cX11_workerAt 25 = .ok (.checkcast 100, 3) := by decide +kernel
theorem dX11_workerAt_28 : decode cX11_workerAt 28 = .ok (.goto 4, 3) := by decide +kernel
theorem dX11_workerAt_31 : decode cX11_workerAt 31 = .ok (.aconst_null, 1) := by decide +kernel
theorem dX11_workerAt_32 : decode cX11_workerAt 32 = .ok (.areturn, 1) := by decide +kernel
theorem dX11_partyAt_0 : decode cX11_partyAt 0 = .ok (.iload_n 1, 1) := by decide +kernel
theorem dX11_partyAt_1 : decode cX11_partyAt 1 = .ok (.lookupswitch 39 #[(0, 27), (1, 33)], 27) := by decide +kernel
theorem dX11_partyAt_28 : decode cX11_partyAt 28 = .ok (.aload_n 0, 1) := by decide +kernel
theorem dX11_partyAt_29 : decode cX11_partyAt 29 = .ok (.iload_n 2, 1) := by decide +kernel
theorem dX11_partyAt_30 : decode cX11_partyAt 30 = .ok (.invokevirtual 144, 3) := by decide +kernel
theorem dX11_partyAt_33 : decode cX11_partyAt 33 = .ok (.areturn, 1) := by decide +kernel
theorem dX11_partyAt_34 : decode cX11_partyAt 34 = .ok (.aload_n 0, 1) := by decide +kernel
theorem dX11_partyAt_35 : decode cX11_partyAt 35 = .ok (.iload_n 2, 1) := by decide +kernel
theorem dX11_partyAt_36 : decode cX11_partyAt 36 = .ok (.invokevirtual 127, 3) := by decide +kernel
theorem dX11_partyAt_39 : decode cX11_partyAt 39 = .ok (.areturn, 1) := by decide +kernel
theorem dX11_partyAt_40 : decode cX11_partyAt 40 = .ok (.aconst_null, 1) := by decide +kernel
theorem dX11_partyAt_41 : decode cX11_partyAt 41 = .ok (.areturn, 1) := by decide +kernel
theorem dX11_thingAt_0 : decode cX11_thingAt 0 = .ok (.iload_n 1, 1) := by decide +kernel
theorem dX11_thingAt_1 : decode cX11_thingAt 1 = .ok (.iconst 0, 1) := by decide +kernel
theorem dX11_thingAt_2 : decode cX11_thingAt 2 = .ok (.aload_n 0, 1) := by decide +kernel
theorem dX11_thingAt_3 : decode cX11_thingAt 3 = .ok (.getfield 19, 3) := by decide +kernel
theorem dX11_thingAt_6 : decode cX11_thingAt 6 = .ok (.invokevirtual 87, 3) := by decide +kernel
theorem dX11_thingAt_9 : decode cX11_thingAt 9 = .ok (.iconst 1, 1) := by decide +kernel
theorem dX11_thingAt_10 : decode cX11_thingAt 10 = .ok (.isub, 1) := by decide +kernel
theorem dX11_thingAt_11 : decode cX11_thingAt 11 = .ok (.invokestatic 103, 3) := by decide +kernel
theorem dX11_thingAt_14 : decode cX11_thingAt 14 = .ok (.ifCond .eq 17, 3) := by decide +kernel
theorem dX11_thingAt_17 : decode cX11_thingAt 17 = .ok (.aload_n 0, 1) := by decide +kernel
theorem dX11_thingAt_18 : decode cX11_thingAt 18 = .ok (.getfield 19, 3) := by decide +kernel
theorem dX11_thingAt_21 : decode cX11_thingAt 21 = .ok (.iload_n 1, 1) := by decide +kernel
theorem dX11_thingAt_22 : decode cX11_thingAt 22 = .ok (.invokevirtual 383, 3) := by decide +kernel
theorem dX11_thingAt_25 : decode cX11_thingAt 25 = .ok (.checkcast 161, 3) := by decide +kernel
theorem dX11_thingAt_28 : decode cX11_thingAt 28 = .ok (.goto 4, 3) := by decide +kernel
theorem dX11_thingAt_31 : decode cX11_thingAt 31 = .ok (.aconst_null, 1) := by decide +kernel
theorem dX11_thingAt_32 : decode cX11_thingAt 32 = .ok (.areturn, 1) := by decide +kernel
theorem dX11_letterAt_0 : decode cX11_letterAt 0 = .ok (.iload_n 1, 1) := by decide +kernel
theorem dX11_letterAt_1 : decode cX11_letterAt 1 = .ok (.iconst 0, 1) := by decide +kernel
theorem dX11_letterAt_2 : decode cX11_letterAt 2 = .ok (.aload_n 0, 1) := by decide +kernel
theorem dX11_letterAt_3 : decode cX11_letterAt 3 = .ok (.getfield 22, 3) := by decide +kernel
theorem dX11_letterAt_6 : decode cX11_letterAt 6 = .ok (.invokevirtual 87, 3) := by decide +kernel
theorem dX11_letterAt_9 : decode cX11_letterAt 9 = .ok (.iconst 1, 1) := by decide +kernel
theorem dX11_letterAt_10 : decode cX11_letterAt 10 = .ok (.isub, 1) := by decide +kernel
theorem dX11_letterAt_11 : decode cX11_letterAt 11 = .ok (.invokestatic 103, 3) := by decide +kernel
theorem dX11_letterAt_14 : decode cX11_letterAt 14 = .ok (.ifCond .eq 17, 3) := by decide +kernel
theorem dX11_letterAt_17 : decode cX11_letterAt 17 = .ok (.aload_n 0, 1) := by decide +kernel
theorem dX11_letterAt_18 : decode cX11_letterAt 18 = .ok (.getfield 22, 3) := by decide +kernel
theorem dX11_letterAt_21 : decode cX11_letterAt 21 = .ok (.iload_n 1, 1) := by decide +kernel
theorem dX11_letterAt_22 : decode cX11_letterAt 22 = .ok (.invokevirtual 383, 3) := by decide +kernel
theorem dX11_letterAt_25 : decode cX11_letterAt 25 = .ok (.checkcast 169, 3) := by decide +kernel
theorem dX11_letterAt_28 : decode cX11_letterAt 28 = .ok (.goto 4, 3) := by decide +kernel
theorem dX11_letterAt_31 : decode cX11_letterAt 31 = .ok (.aconst_null, 1) := by decide +kernel
theorem dX11_letterAt_32 : decode cX11_letterAt 32 = .ok (.areturn, 1) := by decide +kernel
theorem dX11_grantAt_0 : decode cX11_grantAt 0 = .ok (.aload_n 0, 1) := by decide +kernel
theorem dX11_grantAt_1 : decode cX11_grantAt 1 = .ok (.iload_n 1, 1) := by decide +kernel
theorem dX11_grantAt_2 : decode cX11_grantAt 2 = .ok (.invokevirtual 156, 3) := by decide +kernel
theorem dX11_grantAt_5 : decode cX11_grantAt 5 = .ok (.astore_n 3, 1) := by decide +kernel
theorem dX11_grantAt_6 : decode cX11_grantAt 6 = .ok (.aload_n 3, 1) := by decide +kernel
theorem dX11_grantAt_7 : decode cX11_grantAt 7 = .ok (.ifnull 34, 3) := by decide +kernel
theorem dX11_grantAt_10 : decode cX11_grantAt 10 = .ok (.iload_n 2, 1) := by decide +kernel
theorem dX11_grantAt_11 : decode cX11_grantAt 11 = .ok (.iconst 0, 1) := by decide +kernel
theorem dX11_grantAt_12 : decode cX11_grantAt 12 = .ok (.aload_n 3, 1) := by decide +kernel
theorem dX11_grantAt_13 : decode cX11_grantAt 13 = .ok (.getfield 254, 3) := by decide +kernel
theorem dX11_grantAt_16 : decode cX11_grantAt 16 = .ok (.invokevirtual 87, 3) := by decide +kernel
theorem dX11_grantAt_19 : decode cX11_grantAt 19 = .ok (.iconst 1, 1) := by decide +kernel
theorem dX11_grantAt_20 : decode cX11_grantAt 20 = .ok (.isub, 1) := by decide +kernel
theorem dX11_grantAt_21 : decode cX11_grantAt 21 = .ok (.invokestatic 103, 3) := by decide +kernel
theorem dX11_grantAt_24 : decode cX11_grantAt 24 = .ok (.ifCond .eq 17, 3) := by decide +kernel
theorem dX11_grantAt_27 : decode cX11_grantAt 27 = .ok (.aload_n 3, 1) := by decide +kernel
theorem dX11_grantAt_28 : decode cX11_grantAt 28 = .ok (.getfield 254, 3) := by decide +kernel
theorem dX11_grantAt_31 : decode cX11_grantAt 31 = .ok (.iload_n 2, 1) := by decide +kernel
theorem dX11_grantAt_32 : decode cX11_grantAt 32 = .ok (.invokevirtual 383, 3) := by decide +kernel
theorem dX11_grantAt_35 : decode cX11_grantAt 35 = .ok (.checkcast 262, 3) := by decide +kernel
theorem dX11_grantAt_38 : decode cX11_grantAt 38 = .ok (.goto 4, 3) := by decide +kernel
theorem dX11_grantAt_41 : decode cX11_grantAt 41 = .ok (.aconst_null, 1) := by decide +kernel
theorem dX11_grantAt_42 : decode cX11_grantAt 42 = .ok (.areturn, 1) := by decide +kernel
theorem dX11_memoryAt_0 : decode cX11_memoryAt 0 = .ok (.aload_n 0, 1) := by decide +kernel
theorem dX11_memoryAt_1 : decode cX11_memoryAt 1 = .ok (.iload_n 1, 1) := by decide +kernel
theorem dX11_memoryAt_2 : decode cX11_memoryAt 2 = .ok (.invokevirtual 127, 3) := by decide +kernel
theorem dX11_memoryAt_5 : decode cX11_memoryAt 5 = .ok (.astore_n 3, 1) := by decide +kernel
theorem dX11_memoryAt_6 : decode cX11_memoryAt 6 = .ok (.aload_n 3, 1) := by decide +kernel
theorem dX11_memoryAt_7 : decode cX11_memoryAt 7 = .ok (.ifnull 11, 3) := by decide +kernel
theorem dX11_memoryAt_10 : decode cX11_memoryAt 10 = .ok (.aload_n 0, 1) := by decide +kernel
theorem dX11_memoryAt_11 : decode cX11_memoryAt 11 = .ok (.iload_n 2, 1) := by decide +kernel
theorem dX11_memoryAt_12 : decode cX11_memoryAt 12 = .ok (.invokevirtual 156, 3) := by decide +kernel
theorem dX11_memoryAt_15 : decode cX11_memoryAt 15 = .ok (.ifnonnull 7, 3) := by decide +kernel
theorem dX11_memoryAt_18 : decode cX11_memoryAt 18 = .ok (.aconst_null, 1) := by decide +kernel
theorem dX11_memoryAt_19 : decode cX11_memoryAt 19 = .ok (.goto 8, 3) := by decide +kernel
theorem dX11_memoryAt_22 : decode cX11_memoryAt 22 = .ok (.aload_n 3, 1) := by decide +kernel
theorem dX11_memoryAt_23 : decode cX11_memoryAt 23 = .ok (.iload_n 2, 1) := by decide +kernel
theorem dX11_memoryAt_24 : decode cX11_memoryAt 24 = .ok (.invokevirtual 131, 3) := by decide +kernel
theorem dX11_memoryAt_27 : decode cX11_memoryAt 27 = .ok (.areturn, 1) := by decide +kernel
theorem dX11_trayAt_0 : decode cX11_trayAt 0 = .ok (.iload_n 1, 1) := by decide +kernel
theorem dX11_trayAt_1 : decode cX11_trayAt 1 = .ok (.iconst 0, 1) := by decide +kernel
theorem dX11_trayAt_2 : decode cX11_trayAt 2 = .ok (.aload_n 0, 1) := by decide +kernel
theorem dX11_trayAt_3 : decode cX11_trayAt 3 = .ok (.getfield 35, 3) := by decide +kernel
theorem dX11_trayAt_6 : decode cX11_trayAt 6 = .ok (.arraylength, 1) := by decide +kernel
theorem dX11_trayAt_7 : decode cX11_trayAt 7 = .ok (.iconst 1, 1) := by decide +kernel
theorem dX11_trayAt_8 : decode cX11_trayAt 8 = .ok (.isub, 1) := by decide +kernel
theorem dX11_trayAt_9 : decode cX11_trayAt 9 = .ok (.invokestatic 103, 3) := by decide +kernel
theorem dX11_trayAt_12 : decode cX11_trayAt 12 = .ok (.ifCond .eq 12, 3) := by decide +kernel
theorem dX11_trayAt_15 : decode cX11_trayAt 15 = .ok (.aload_n 0, 1) := by decide +kernel
theorem dX11_trayAt_16 : decode cX11_trayAt 16 = .ok (.getfield 35, 3) := by decide +kernel
theorem dX11_trayAt_19 : decode cX11_trayAt 19 = .ok (.iload_n 1, 1) := by decide +kernel
theorem dX11_trayAt_20 : decode cX11_trayAt 20 = .ok (.aaload, 1) := by decide +kernel
theorem dX11_trayAt_21 : decode cX11_trayAt 21 = .ok (.goto 4, 3) := by decide +kernel
theorem dX11_trayAt_24 : decode cX11_trayAt 24 = .ok (.aconst_null, 1) := by decide +kernel
theorem dX11_trayAt_25 : decode cX11_trayAt 25 = .ok (.areturn, 1) := by decide +kernel
theorem dX11_newThing_0 : decode cX11_newThing 0 = .ok (.iload_n 2, 1) := by decide +kernel
theorem dX11_newThing_1 : decode cX11_newThing 1 = .ok (.sipush 1000, 3) := by decide +kernel
theorem dX11_newThing_4 : decode cX11_newThing 4 = .ok (.aload_n 0, 1) := by decide +kernel
theorem dX11_newThing_5 : decode cX11_newThing 5 = .ok (.getfield 79, 3) := by decide +kernel
theorem dX11_newThing_8 : decode cX11_newThing 8 = .ok (.iadd, 1) := by decide +kernel
theorem dX11_newThing_9 : decode cX11_newThing 9 = .ok (.imul, 1) := by decide +kernel
theorem dX11_newThing_10 : decode cX11_newThing 10 = .ok (.sipush 1000, 3) := by decide +kernel
theorem dX11_newThing_13 : decode cX11_newThing 13 = .ok (.aload_n 0, 1) := by decide +kernel
theorem dX11_newThing_14 : decode cX11_newThing 14 = .ok (.getfield 79, 3) := by decide +kernel
theorem dX11_newThing_17 : decode cX11_newThing 17 = .ok (.isub, 1) := by decide +kernel
theorem dX11_newThing_18 : decode cX11_newThing 18 = .ok (.invokestatic 387, 3) := by decide +kernel
theorem dX11_newThing_21 : decode cX11_newThing 21 = .ok (.iconst 2, 1) := by decide +kernel
theorem dX11_newThing_22 : decode cX11_newThing 22 = .ok (.iadd, 1) := by decide +kernel
theorem dX11_newThing_23 : decode cX11_newThing 23 = .ok (.istore 4, 2) := by decide +kernel
theorem dX11_newThing_25 : decode cX11_newThing 25 = .ok (.iload_n 1, 1) := by decide +kernel
theorem dX11_newThing_26 : decode cX11_newThing 26 = .ok (.tableswitch 76 1 4 #[30, 42, 54, 65], 30) := by decide +kernel
theorem dX11_newThing_56 : decode cX11_newThing 56 = .ok (.new 390, 3) := by decide +kernel
theorem dX11_newThing_59 : decode cX11_newThing 59 = .ok (.dup, 1) := by decide +kernel
theorem dX11_newThing_60 : decode cX11_newThing 60 = .ok (.iconst 1, 1) := by decide +kernel
theorem dX11_newThing_61 : decode cX11_newThing 61 = .ok (.iload_n 2, 1) := by decide +kernel
theorem dX11_newThing_62 : decode cX11_newThing 62 = .ok (.iload 4, 2) := by decide +kernel
theorem dX11_newThing_64 : decode cX11_newThing 64 = .ok (.invokespecial 392, 3) := by decide +kernel
theorem dX11_newThing_67 : decode cX11_newThing 67 = .ok (.areturn, 1) := by decide +kernel
theorem dX11_newThing_68 : decode cX11_newThing 68 = .ok (.new 277, 3) := by decide +kernel
theorem dX11_newThing_71 : decode cX11_newThing 71 = .ok (.dup, 1) := by decide +kernel
theorem dX11_newThing_72 : decode cX11_newThing 72 = .ok (.iload_n 2, 1) := by decide +kernel
theorem dX11_newThing_73 : decode cX11_newThing 73 = .ok (.iload 4, 2) := by decide +kernel
theorem dX11_newThing_75 : decode cX11_newThing 75 = .ok (.iload_n 3, 1) := by decide +kernel
theorem dX11_newThing_76 : decode cX11_newThing 76 = .ok (.invokespecial 395, 3) := by decide +kernel
theorem dX11_newThing_79 : decode cX11_newThing 79 = .ok (.areturn, 1) := by decide +kernel
theorem dX11_newThing_80 : decode cX11_newThing 80 = .ok (.new 203, 3) := by decide +kernel
theorem dX11_newThing_83 : decode cX11_newThing 83 = .ok (.dup, 1) := by decide +kernel
theorem dX11_newThing_84 : decode cX11_newThing 84 = .ok (.iload_n 2, 1) := by decide +kernel
theorem dX11_newThing_85 : decode cX11_newThing 85 = .ok (.iload 4, 2) := by decide +kernel
theorem dX11_newThing_87 : decode cX11_newThing 87 = .ok (.invokespecial 396, 3) := by decide +kernel
theorem dX11_newThing_90 : decode cX11_newThing 90 = .ok (.areturn, 1) := by decide +kernel
theorem dX11_newThing_91 : decode cX11_newThing 91 = .ok (.new 285, 3) := by decide +kernel
theorem dX11_newThing_94 : decode cX11_newThing 94 = .ok (.dup, 1) := by decide +kernel
theorem dX11_newThing_95 : decode cX11_newThing 95 = .ok (.iload_n 2, 1) := by decide +kernel
theorem dX11_newThing_96 : decode cX11_newThing 96 = .ok (.iload 4, 2) := by decide +kernel
theorem dX11_newThing_98 : decode cX11_newThing 98 = .ok (.invokespecial 397, 3) := by decide +kernel
theorem dX11_newThing_101 : decode cX11_newThing 101 = .ok (.areturn, 1) := by decide +kernel
theorem dX11_newThing_102 : decode cX11_newThing 102 = .ok (.new 161, 3) := by decide +kernel
theorem dX11_newThing_105 : decode cX11_newThing 105 = .ok (.dup, 1) := by decide +kernel
theorem dX11_newThing_106 : decode cX11_newThing 106 = .ok (.iconst 0, 1) := by decide +kernel
theorem dX11_newThing_107 : decode cX11_newThing 107 = .ok (.iload_n 2, 1) := by decide +kernel
theorem dX11_newThing_108 : decode cX11_newThing 108 = .ok (.iload 4, 2) := by decide +kernel
theorem dX11_newThing_110 : decode cX11_newThing 110 = .ok (.invokespecial 398, 3) := by decide +kernel
theorem dX11_newThing_113 : decode cX11_newThing 113 = .ok (.areturn, 1) := by decide +kernel
theorem dX11_divideUp_0 : decode cX11_divideUp 0 = .ok (.iload_n 1, 1) := by decide +kernel
theorem dX11_divideUp_1 : decode cX11_divideUp 1 = .ok (.ifCond .gt 7, 3) := by decide +kernel
theorem dX11_divideUp_4 : decode cX11_divideUp 4 = .ok (.iconst 0, 1) := by decide +kernel
theorem dX11_divideUp_5 : decode cX11_divideUp 5 = .ok (.goto 10, 3) := by decide +kernel
theorem dX11_divideUp_8 : decode cX11_divideUp 8 = .ok (.iload_n 0, 1) := by decide +kernel
theorem dX11_divideUp_9 : decode cX11_divideUp 9 = .ok (.iload_n 1, 1) := by decide +kernel
theorem dX11_divideUp_10 : decode cX11_divideUp 10 = .ok (.iadd, 1) := by decide +kernel
theorem dX11_divideUp_11 : decode cX11_divideUp 11 = .ok (.iconst 1, 1) := by decide +kernel
theorem dX11_divideUp_12 : decode cX11_divideUp 12 = .ok (.isub, 1) := by decide +kernel
theorem dX11_divideUp_13 : decode cX11_divideUp 13 = .ok (.iload_n 1, 1) := by decide +kernel
theorem dX11_divideUp_14 : decode cX11_divideUp 14 = .ok (.idiv, 1) := by decide +kernel
theorem dX11_divideUp_15 : decode cX11_divideUp 15 = .ok (.ireturn, 1) := by decide +kernel
theorem dX11_keepersAwake_0 : decode cX11_keepersAwake 0 = .ok (.iconst 0, 1) := by decide +kernel
theorem dX11_keepersAwake_1 : decode cX11_keepersAwake 1 = .ok (.istore_n 1, 1) := by decide +kernel
theorem dX11_keepersAwake_2 : decode cX11_keepersAwake 2 = .ok (.iconst 0, 1) := by decide +kernel
theorem dX11_keepersAwake_3 : decode cX11_keepersAwake 3 = .ok (.istore_n 2, 1) := by decide +kernel
theorem dX11_keepersAwake_4 : decode cX11_keepersAwake 4 = .ok (.iload_n 2, 1) := by decide +kernel
theorem dX11_keepersAwake_5 : decode cX11_keepersAwake 5 = .ok (.aload_n 0, 1) := by decide +kernel
theorem dX11_keepersAwake_6 : decode cX11_keepersAwake 6 = .ok (.getfield 10, 3) := by decide +kernel
theorem dX11_keepersAwake_9 : decode cX11_keepersAwake 9 = .ok (.invokevirtual 87, 3) := by decide +kernel
theorem dX11_keepersAwake_12 : decode cX11_keepersAwake 12 = .ok (.if_icmp .ge 34, 3) := by decide +kernel
theorem dX11_keepersAwake_15 : decode cX11_keepersAwake 15 = .ok (.iload_n 1, 1) := by decide +kernel
theorem dX11_keepersAwake_16 : decode cX11_keepersAwake 16 = .ok (.aload_n 0, 1) := by decide +kernel
theorem dX11_keepersAwake_17 : decode cX11_keepersAwake 17 = .ok (.getfield 10, 3) := by decide +kernel
theorem dX11_keepersAwake_20 : decode cX11_keepersAwake 20 = .ok (.iload_n 2, 1) := by decide +kernel
theorem dX11_keepersAwake_21 : decode cX11_keepersAwake 21 = .ok (.invokevirtual 383, 3) := by decide +kernel
theorem dX11_keepersAwake_24 : decode cX11_keepersAwake 24 = .ok (.checkcast 91, 3) := by decide +kernel
theorem dX11_keepersAwake_27 : decode cX11_keepersAwake 27 = .ok (.getfield 123, 3) := by decide +kernel
theorem dX11_keepersAwake_30 : decode cX11_keepersAwake 30 = .ok (.ifCond .eq 7, 3) := by decide +kernel
theorem dX11_keepersAwake_33 : decode cX11_keepersAwake 33 = .ok (.iconst 1, 1) := by decide +kernel
theorem dX11_keepersAwake_34 : decode cX11_keepersAwake 34 = .ok (.goto 4, 3) := by decide +kernel
theorem dX11_keepersAwake_37 : decode cX11_keepersAwake 37 = .ok (.iconst 0, 1) := by decide +kernel
theorem dX11_keepersAwake_38 : decode cX11_keepersAwake 38 = .ok (.iadd, 1) := by decide +kernel
theorem dX11_keepersAwake_39 : decode cX11_keepersAwake 39 = .ok (.istore_n 1, 1) := by decide +kernel
theorem dX11_keepersAwake_40 : decode cX11_keepersAwake 40 = .ok (.iinc 2 1, 3) := by decide +kernel
theorem dX11_keepersAwake_43 : decode cX11_keepersAwake 43 = .ok (.goto (-39), 3) := by decide +kernel
theorem dX11_keepersAwake_46 : decode cX11_keepersAwake 46 = .ok (.iload_n 1, 1) := by decide +kernel
theorem dX11_keepersAwake_47 : decode cX11_keepersAwake 47 = .ok (.ireturn, 1) := by decide +kernel
theorem dX11_areMostAwake_0 : decode cX11_areMostAwake 0 = .ok (.iconst 2, 1) := by decide +kernel
theorem dX11_areMostAwake_1 : decode cX11_areMostAwake 1 = .ok (.aload_n 0, 1) := by decide +kernel
theorem dX11_areMostAwake_2 : decode cX11_areMostAwake 2 = .ok (.invokevirtual 315, 3) := by decide +kernel
theorem dX11_areMostAwake_5 : decode cX11_areMostAwake 5 = .ok (.imul, 1) := by decide +kernel
theorem dX11_areMostAwake_6 : decode cX11_areMostAwake 6 = .ok (.aload_n 0, 1) := by decide +kernel
theorem dX11_areMostAwake_7 : decode cX11_areMostAwake 7 = .ok (.getfield 10, 3) := by decide +kernel
theorem dX11_areMostAwake_10 : decode cX11_areMostAwake 10 = .ok (.invokevirtual 87, 3) := by decide +kernel
theorem dX11_areMostAwake_13 : decode cX11_areMostAwake 13 = .ok (.if_icmp .le 7, 3) := by decide +kernel
theorem dX11_areMostAwake_16 : decode cX11_areMostAwake 16 = .ok (.iconst 1, 1) := by decide +kernel
theorem dX11_areMostAwake_17 : decode cX11_areMostAwake 17 = .ok (.goto 4, 3) := by decide +kernel
theorem dX11_areMostAwake_20 : decode cX11_areMostAwake 20 = .ok (.iconst 0, 1) := by decide +kernel
theorem dX11_areMostAwake_21 : decode cX11_areMostAwake 21 = .ok (.ireturn, 1) := by decide +kernel
theorem dX11_ableLeader_0 : decode cX11_ableLeader 0 = .ok (.aload_n 0, 1) := by decide +kernel
theorem dX11_ableLeader_1 : decode cX11_ableLeader 1 = .ok (.invokevirtual 148, 3) := by decide +kernel
theorem dX11_ableLeader_4 : decode cX11_ableLeader 4 = .ok (.ifCond .eq 14, 3) := by decide +kernel
theorem dX11_ableLeader_7 : decode cX11_ableLeader 7 = .ok (.aload_n 0, 1) := by decide +kernel
theorem dX11_ableLeader_8 : decode cX11_ableLeader 8 = .ok (.aload_n 0, 1) := by decide +kernel
theorem dX11_ableLeader_9 : decode cX11_ableLeader 9 = .ok (.getfield 46, 3) := by decide +kernel
theorem dX11_ableLeader_12 : decode cX11_ableLeader 12 = .ok (.invokevirtual 144, 3) := by decide +kernel
theorem dX11_ableLeader_15 : decode cX11_ableLeader 15 = .ok (.goto 4, 3) := by decide +kernel
theorem dX11_ableLeader_18 : decode cX11_ableLeader 18 = .ok (.aconst_null, 1) := by decide +kernel
theorem dX11_ableLeader_19 : decode cX11_ableLeader 19 = .ok (.areturn, 1) := by decide +kernel
theorem dX11_prolongBoard_0 : decode cX11_prolongBoard 0 = .ok (.iconst 0, 1) := by decide +kernel
theorem dX11_prolongBoard_1 : decode cX11_prolongBoard 1 = .ok (.istore_n 3, 1) := by decide +kernel
theorem dX11_prolongBoard_2 : decode cX11_prolongBoard 2 = .ok (.iload_n 3, 1) := by decide +kernel
theorem dX11_prolongBoard_3 : decode cX11_prolongBoard 3 = .ok (.aload_n 0, 1) := by decide +kernel
theorem dX11_prolongBoard_4 : decode cX11_prolongBoard 4 = .ok (.getfield 19, 3) := by decide +kernel
theorem dX11_prolongBoard_7 : decode cX11_prolongBoard 7 = .ok (.invokevirtual 87, 3) := by decide +kernel
theorem dX11_prolongBoard_10 : decode cX11_prolongBoard 10 = .ok (.if_icmp .ge 57, 3) := by decide +kernel
theorem dX11_prolongBoard_13 : decode cX11_prolongBoard 13 = .ok (.aload_n 0, 1) := by decide +kernel
theorem dX11_prolongBoard_14 : decode cX11_prolongBoard 14 = .ok (.getfield 19, 3) := by decide +kernel
theorem dX11_prolongBoard_17 : decode cX11_prolongBoard 17 = .ok (.iload_n 3, 1) := by decide +kernel
theorem dX11_prolongBoard_18 : decode cX11_prolongBoard 18 = .ok (.invokevirtual 383, 3) := by decide +kernel
theorem dX11_prolongBoard_21 : decode cX11_prolongBoard 21 = .ok (.checkcast 161, 3) := by decide +kernel
theorem dX11_prolongBoard_24 : decode cX11_prolongBoard 24 = .ok (.astore 4, 2) := by decide +kernel
theorem dX11_prolongBoard_26 : decode cX11_prolongBoard 26 = .ok (.aload 4, 2) := by decide +kernel
theorem dX11_prolongBoard_28 : decode cX11_prolongBoard 28 = .ok (.lload_n 1, 1) := by decide +kernel
theorem dX11_prolongBoard_29 : decode cX11_prolongBoard 29 = .ok (.invokevirtual 399, 3) := by decide +kernel
theorem dX11_prolongBoard_32 : decode cX11_prolongBoard 32 = .ok (.aload 4, 2) := by decide +kernel
theorem dX11_prolongBoard_34 : decode cX11_prolongBoard 34 = .ok (.instanceof 285, 3) := by decide +kernel
theorem dX11_prolongBoard_37 : decode cX11_prolongBoard 37 = .ok (.ifCond .eq 24, 3) := by decide +kernel
theorem dX11_prolongBoard_40 : decode cX11_prolongBoard 40 = .ok (.aload 4, 2) := by decide +kernel
theorem dX11_prolongBoard_42 : decode cX11_prolongBoard 42 = .ok (.checkcast 285, 3) := by decide +kernel
theorem dX11_prolongBoard_45 : decode cX11_prolongBoard 45 = .ok (.astore 5, 2) := by decide +kernel
theorem dX11_prolongBoard_47 : decode cX11_prolongBoard 47 = .ok (.aload 5, 2) := by decide +kernel
theorem dX11_prolongBoard_49 : decode cX11_prolongBoard 49 = .ok (.getfield 290, 3) := by decide +kernel
theorem dX11_prolongBoard_52 : decode cX11_prolongBoard 52 = .ok (.ifCond .eq 9, 3) := by decide +kernel
theorem dX11_prolongBoard_55 : decode cX11_prolongBoard 55 = .ok (.aload 5, 2) := by decide +kernel
theorem dX11_prolongBoard_57 : decode cX11_prolongBoard 57 = .ok (.lload_n 1, 1) := by decide +kernel
theorem dX11_prolongBoard_58 : decode cX11_prolongBoard 58 = .ok (.invokevirtual 402, 3) := by decide +kernel
theorem dX11_prolongBoard_61 : decode cX11_prolongBoard 61 = .ok (.iinc 3 1, 3) := by decide +kernel
theorem dX11_prolongBoard_64 : decode cX11_prolongBoard 64 = .ok (.goto (-62), 3) := by decide +kernel
theorem dX11_prolongBoard_67 : decode cX11_prolongBoard 67 = .ok (.return_, 1) := by decide +kernel
theorem dX11_hasRoomFor_0 : decode cX11_hasRoomFor 0 = .ok (.aload_n 0, 1) := by decide +kernel
theorem dX11_hasRoomFor_1 : decode cX11_hasRoomFor 1 = .ok (.getfield 22, 3) := by decide +kernel
theorem dX11_hasRoomFor_4 : decode cX11_hasRoomFor 4 = .ok (.invokevirtual 87, 3) := by decide +kernel
theorem dX11_hasRoomFor_7 : decode cX11_hasRoomFor 7 = .ok (.iload_n 1, 1) := by decide +kernel
theorem dX11_hasRoomFor_8 : decode cX11_hasRoomFor 8 = .ok (.iadd, 1) := by decide +kernel
theorem dX11_hasRoomFor_9 : decode cX11_hasRoomFor 9 = .ok (.sipush 400, 3) := by decide +kernel
theorem dX11_hasRoomFor_12 : decode cX11_hasRoomFor 12 = .ok (.if_icmp .gt 7, 3) := by decide +kernel
theorem dX11_hasRoomFor_15 : decode cX11_hasRoomFor 15 = .ok (.iconst 1, 1) := by decide +kernel
theorem dX11_hasRoomFor_16 : decode cX11_hasRoomFor 16 = .ok (.goto 4, 3) := by decide +kernel
theorem dX11_hasRoomFor_19 : decode cX11_hasRoomFor 19 = .ok (.iconst 0, 1) := by decide +kernel
theorem dX11_hasRoomFor_20 : decode cX11_hasRoomFor 20 = .ok (.ireturn, 1) := by decide +kernel
theorem dX11_send_0 : decode cX11_send 0 = .ok (.aload_n 0, 1) := by decide +kernel
theorem dX11_send_1 : decode cX11_send 1 = .ok (.getfield 22, 3) := by decide +kernel
theorem dX11_send_4 : decode cX11_send 4 = .ok (.invokevirtual 87, 3) := by decide +kernel
theorem dX11_send_7 : decode cX11_send 7 = .ok (.sipush 400, 3) := by decide +kernel
theorem dX11_send_10 : decode cX11_send 10 = .ok (.if_icmp .lt 6, 3) := by decide +kernel
theorem dX11_send_13 : decode cX11_send 13 = .ok (.bipush (-4), 2) := by decide +kernel
theorem dX11_send_15 : decode cX11_send 15 = .ok (.ireturn, 1) := by decide +kernel
theorem dX11_send_16 : decode cX11_send 16 = .ok (.aload_n 0, 1) := by decide +kernel
theorem dX11_send_17 : decode cX11_send 17 = .ok (.getfield 22, 3) := by decide +kernel
theorem dX11_send_20 : decode cX11_send 20 = .ok (.aload_n 1, 1) := by decide +kernel
theorem dX11_send_21 : decode cX11_send 21 = .ok (.invokevirtual 96, 3) := by decide +kernel
theorem dX11_send_24 : decode cX11_send 24 = .ok (.pop, 1) := by decide +kernel
theorem dX11_send_25 : decode cX11_send 25 = .ok (.aload_n 0, 1) := by decide +kernel
theorem dX11_send_26 : decode cX11_send 26 = .ok (.getfield 22, 3) := by decide +kernel
theorem dX11_send_29 : decode cX11_send 29 = .ok (.invokevirtual 87, 3) := by decide +kernel
theorem dX11_send_32 : decode cX11_send 32 = .ok (.iconst 1, 1) := by decide +kernel
theorem dX11_send_33 : decode cX11_send 33 = .ok (.isub, 1) := by decide +kernel
theorem dX11_send_34 : decode cX11_send 34 = .ok (.ireturn, 1) := by decide +kernel
theorem dX11_sendMarked_0 : decode cX11_sendMarked 0 = .ok (.aload_n 0, 1) := by decide +kernel
theorem dX11_sendMarked_1 : decode cX11_sendMarked 1 = .ok (.aload_n 1, 1) := by decide +kernel
theorem dX11_sendMarked_2 : decode cX11_sendMarked 2 = .ok (.getfield 224, 3) := by decide +kernel
theorem dX11_sendMarked_5 : decode cX11_sendMarked 5 = .ok (.invokevirtual 127, 3) := by decide +kernel
theorem dX11_sendMarked_8 : decode cX11_sendMarked 8 = .ok (.astore_n 2, 1) := by decide +kernel
theorem dX11_sendMarked_9 : decode cX11_sendMarked 9 = .ok (.aload_n 0, 1) := by decide +kernel
theorem dX11_sendMarked_10 : decode cX11_sendMarked 10 = .ok (.aload_n 1, 1) := by decide +kernel
theorem dX11_sendMarked_11 : decode cX11_sendMarked 11 = .ok (.getfield 224, 3) := by decide +kernel
theorem dX11_sendMarked_14 : decode cX11_sendMarked 14 = .ok (.aload_n 1, 1) := by decide +kernel
theorem dX11_sendMarked_15 : decode cX11_sendMarked 15 = .ok (.getfield 230, 3) := by decide +kernel
theorem dX11_sendMarked_18 : decode cX11_sendMarked 18 = .ok (.invokevirtual 186, 3) := by decide +kernel
theorem dX11_sendMarked_21 : decode cX11_sendMarked 21 = .ok (.astore_n 3, 1) := by decide +kernel
theorem dX11_sendMarked_22 : decode cX11_sendMarked 22 = .ok (.aload_n 2, 1) := by decide +kernel
theorem dX11_sendMarked_23 : decode cX11_sendMarked 23 = .ok (.ifnull 7, 3) := by decide +kernel
theorem dX11_sendMarked_26 : decode cX11_sendMarked 26 = .ok (.aload_n 3, 1) := by decide +kernel
theorem dX11_sendMarked_27 : decode cX11_sendMarked 27 = .ok (.ifnonnull 6, 3) := by decide +kernel
theorem dX11_sendMarked_30 : decode cX11_sendMarked 30 = .ok (.bipush (-2), 2) := by decide +kernel
theorem dX11_sendMarked_32 : decode cX11_sendMarked 32 = .ok (.ireturn, 1) := by decide +kernel
theorem dX11_sendMarked_33 : decode cX11_sendMarked 33 = .ok (.aload_n 2, 1) := by decide +kernel
theorem dX11_sendMarked_34 : decode cX11_sendMarked 34 = .ok (.dup, 1) := by decide +kernel
theorem dX11_sendMarked_35 : decode cX11_sendMarked 35 = .ok (.getfield 405, 3) := by decide +kernel
theorem dX11_sendMarked_38 : decode cX11_sendMarked 38 = .ok (.iconst 1, 1) := by decide +kernel
theorem dX11_sendMarked_39 : decode cX11_sendMarked 39 = .ok (.iadd, 1) := by decide +kernel
theorem dX11_sendMarked_40 : decode cX11_sendMarked 40 = .ok (.putfield 405, 3) := by decide +kernel
theorem dX11_sendMarked_43 : decode cX11_sendMarked 43 = .ok (.aload_n 1, 1) := by decide +kernel
theorem dX11_sendMarked_44 : decode cX11_sendMarked 44 = .ok (.aload_n 2, 1) := by decide +kernel
theorem dX11_sendMarked_45 : decode cX11_sendMarked 45 = .ok (.getfield 405, 3) := by decide +kernel
theorem dX11_sendMarked_48 : decode cX11_sendMarked 48 = .ok (.putfield 243, 3) := by decide +kernel
theorem dX11_sendMarked_51 : decode cX11_sendMarked 51 = .ok (.aload_n 1, 1) := by decide +kernel
theorem dX11_sendMarked_52 : decode cX11_sendMarked 52 = .ok (.aload_n 2, 1) := by decide +kernel
theorem dX11_sendMarked_53 : decode cX11_sendMarked 53 = .ok (.aload_n 0, 1) := by decide +kernel
theorem dX11_sendMarked_54 : decode cX11_sendMarked 54 = .ok (.getfield 43, 3) := by decide +kernel
theorem dX11_sendMarked_57 : decode cX11_sendMarked 57 = .ok (.invokevirtual 408, 3) := by decide +kernel
theorem dX11_sendMarked_60 : decode cX11_sendMarked 60 = .ok (.putfield 240, 3) := by decide +kernel
theorem dX11_sendMarked_63 : decode cX11_sendMarked 63 = .ok (.aload_n 3, 1) := by decide +kernel
theorem dX11_sendMarked_64 : decode cX11_sendMarked 64 = .ok (.aload_n 1, 1) := by decide +kernel
theorem dX11_sendMarked_65 : decode cX11_sendMarked 65 = .ok (.getfield 243, 3) := by decide +kernel
theorem dX11_sendMarked_68 : decode cX11_sendMarked 68 = .ok (.putfield 303, 3) := by decide +kernel
theorem dX11_sendMarked_71 : decode cX11_sendMarked 71 = .ok (.aload_n 0, 1) := by decide +kernel
theorem dX11_sendMarked_72 : decode cX11_sendMarked 72 = .ok (.aload_n 1, 1) := by decide +kernel
theorem dX11_sendMarked_73 : decode cX11_sendMarked 73 = .ok (.invokevirtual 200, 3) := by decide +kernel
theorem dX11_sendMarked_76 : decode cX11_sendMarked 76 = .ok (.ireturn, 1) := by decide +kernel
theorem dX11_refusalToHolder_0 : decode cX11_refusalToHolder 0 = .ok (.aload_n 0, 1) := by decide +kernel
theorem dX11_refusalToHolder_1 : decode cX11_refusalToHolder 1 = .ok (.iload_n 1, 1) := by decide +kernel
theorem dX11_refusalToHolder_2 : decode cX11_refusalToHolder 2 = .ok (.invokevirtual 127, 3) := by decide +kernel
theorem dX11_refusalToHolder_5 : decode cX11_refusalToHolder 5 = .ok (.astore 4, 2) := by decide +kernel
theorem dX11_refusalToHolder_7 : decode cX11_refusalToHolder 7 = .ok (.aload_n 0, 1) := by decide +kernel
theorem dX11_refusalToHolder_8 : decode cX11_refusalToHolder 8 = .ok (.iload_n 1, 1) := by decide +kernel
theorem dX11_refusalToHolder_9 : decode cX11_refusalToHolder 9 = .ok (.iload_n 3, 1) := by decide +kernel
theorem dX11_refusalToHolder_10 : decode cX11_refusalToHolder 10 = .ok (.invokevirtual 186, 3) := by decide +kernel
theorem dX11_refusalToHolder_13 : decode cX11_refusalToHolder 13 = .ok (.astore 5, 2) := by decide +kernel
theorem dX11_refusalToHolder_15 : decode cX11_refusalToHolder 15 = .ok (.aload 4, 2) := by decide +kernel
theorem dX11_refusalToHolder_17 : decode cX11_refusalToHolder 17 = .ok (.ifnull 16, 3) := by decide +kernel
theorem dX11_refusalToHolder_20 : decode cX11_refusalToHolder 20 = .ok (.aload 5, 2) := by decide +kernel
theorem dX11_refusalToHolder_22 : decode cX11_refusalToHolder 22 = .ok (.ifnull 11, 3) := by decide +kernel
theorem dX11_refusalToHolder_25 : decode cX11_refusalToHolder 25 = .ok (.aload_n 0, 1) := by decide +kernel
theorem dX11_refusalToHolder_26 : decode cX11_refusalToHolder 26 = .ok (.iload_n 2, 1) := by decide +kernel
theorem dX11_refusalToHolder_27 : decode cX11_refusalToHolder 27 = .ok (.invokevirtual 144, 3) := by decide +kernel
theorem dX11_refusalToHolder_30 : decode cX11_refusalToHolder 30 = .ok (.ifnonnull 6, 3) := by decide +kernel
theorem dX11_refusalToHolder_33 : decode cX11_refusalToHolder 33 = .ok (.bipush (-2), 2) := by decide +kernel
theorem dX11_refusalToHolder_35 : decode cX11_refusalToHolder 35 = .ok (.ireturn, 1) := by decide +kernel
theorem dX11_refusalToHolder_36 : decode cX11_refusalToHolder 36 = .ok (.aload 4, 2) := by decide +kernel
theorem dX11_refusalToHolder_38 : decode cX11_refusalToHolder 38 = .ok (.getfield 143, 3) := by decide +kernel
theorem dX11_refusalToHolder_41 : decode cX11_refusalToHolder 41 = .ok (.ifCond .eq 11, 3) := by decide +kernel
theorem dX11_refusalToHolder_44 : decode cX11_refusalToHolder 44 = .ok (.aload 5, 2) := by decide +kernel
theorem dX11_refusalToHolder_46 : decode cX11_refusalToHolder 46 = .ok (.getfield 135, 3) := by decide +kernel
theorem dX11_refusalToHolder_49 : decode cX11_refusalToHolder 49 = .ok (.ifCond .ne 6, 3) := by decide +kernel
theorem dX11_refusalToHolder_52 : decode cX11_refusalToHolder 52 = .ok (.bipush (-3), 2) := by decide +kernel
theorem dX11_refusalToHolder_54 : decode cX11_refusalToHolder 54 = .ok (.ireturn, 1) := by decide +kernel
theorem dX11_refusalToHolder_55 : decode cX11_refusalToHolder 55 = .ok (.aload_n 0, 1) := by decide +kernel
theorem dX11_refusalToHolder_56 : decode cX11_refusalToHolder 56 = .ok (.iconst 1, 1) := by decide +kernel
theorem dX11_refusalToHolder_57 : decode cX11_refusalToHolder 57 = .ok (.invokevirtual 165, 3) := by decide +kernel
theorem dX11_refusalToHolder_60 : decode cX11_refusalToHolder 60 = .ok (.ifCond .eq 7, 3) := by decide +kernel
theorem dX11_refusalToHolder_63 : decode cX11_refusalToHolder 63 = .ok (.iconst 0, 1) := by decide +kernel
theorem dX11_refusalToHolder_64 : decode cX11_refusalToHolder 64 = .ok (.goto 5, 3) := by decide +kernel
theorem dX11_refusalToHolder_67 : decode cX11_refusalToHolder 67 = .ok (.bipush (-4), 2) := by decide +kernel
theorem dX11_refusalToHolder_69 : decode cX11_refusalToHolder 69 = .ok (.ireturn, 1) := by decide +kernel
theorem dX11_answerGrant_0 : decode cX11_answerGrant 0 = .ok (.new 169, 3) := by decide +kernel
theorem dX11_answerGrant_3 : decode cX11_answerGrant 3 = .ok (.dup, 1) := by decide +kernel
theorem dX11_answerGrant_4 : decode cX11_answerGrant 4 = .ok (.iconst 4, 1) := by decide +kernel
theorem dX11_answerGrant_5 : decode cX11_answerGrant 5 = .ok (.aload_n 1, 1) := by decide +kernel
theorem dX11_answerGrant_6 : decode cX11_answerGrant 6 = .ok (.getfield 224, 3) := by decide +kernel
theorem dX11_answerGrant_9 : decode cX11_answerGrant 9 = .ok (.aload_n 1, 1) := by decide +kernel
theorem dX11_answerGrant_10 : decode cX11_answerGrant 10 = .ok (.getfield 227, 3) := by decide +kernel
theorem dX11_answerGrant_13 : decode cX11_answerGrant 13 = .ok (.aload_n 1, 1) := by decide +kernel
theorem dX11_answerGrant_14 : decode cX11_answerGrant 14 = .ok (.getfield 230, 3) := by decide +kernel
theorem dX11_answerGrant_17 : decode cX11_answerGrant 17 = .ok (.invokespecial 171, 3) := by decide +kernel
theorem dX11_answerGrant_20 : decode cX11_answerGrant 20 = .ok (.astore_n 3, 1) := by decide +kernel
theorem dX11_answerGrant_21 : decode cX11_answerGrant 21 = .ok (.aload_n 3, 1) := by decide +kernel
theorem dX11_answerGrant_22 : decode cX11_answerGrant 22 = .ok (.aload_n 2, 1) := by decide +kernel
theorem dX11_answerGrant_23 : decode cX11_answerGrant 23 = .ok (.getfield 264, 3) := by decide +kernel
theorem dX11_answerGrant_26 : decode cX11_answerGrant 26 = .ok (.aload_n 2, 1) := by decide +kernel
theorem dX11_answerGrant_27 : decode cX11_answerGrant 27 = .ok (.getfield 265, 3) := by decide +kernel
theorem dX11_answerGrant_30 : decode cX11_answerGrant 30 = .ok (.aload_n 2, 1) := by decide +kernel
theorem dX11_answerGrant_31 : decode cX11_answerGrant 31 = .ok (.getfield 266, 3) := by decide +kernel
theorem dX11_answerGrant_34 : decode cX11_answerGrant 34 = .ok (.invokevirtual 174, 3) := by decide +kernel
theorem dX11_answerGrant_37 : decode cX11_answerGrant 37 = .ok (.aload_n 3, 1) := by decide +kernel
theorem dX11_answerGrant_38 : decode cX11_answerGrant 38 = .ok (.aload_n 1, 1) := by decide +kernel
theorem dX11_answerGrant_39 : decode cX11_answerGrant 39 = .ok (.invokevirtual 236, 3) := by decide +kernel
theorem dX11_answerGrant_42 : decode cX11_answerGrant 42 = .ok (.aload_n 0, 1) := by decide +kernel
theorem dX11_answerGrant_43 : decode cX11_answerGrant 43 = .ok (.aload_n 3, 1) := by decide +kernel
theorem dX11_answerGrant_44 : decode cX11_answerGrant 44 = .ok (.invokevirtual 200, 3) := by decide +kernel
theorem dX11_answerGrant_47 : decode cX11_answerGrant 47 = .ok (.pop, 1) := by decide +kernel
theorem dX11_answerGrant_48 : decode cX11_answerGrant 48 = .ok (.return_, 1) := by decide +kernel
theorem dX11_answerRefusal_0 : decode cX11_answerRefusal 0 = .ok (.new 169, 3) := by decide +kernel
theorem dX11_answerRefusal_3 : decode cX11_answerRefusal 3 = .ok (.dup, 1) := by decide +kernel
theorem dX11_answerRefusal_4 : decode cX11_answerRefusal 4 = .ok (.iconst 5, 1) := by decide +kernel
theorem dX11_answerRefusal_5 : decode cX11_answerRefusal 5 = .ok (.aload_n 1, 1) := by decide +kernel
theorem dX11_answerRefusal_6 : decode cX11_answerRefusal 6 = .ok (.getfield 224, 3) := by decide +kernel
theorem dX11_answerRefusal_9 : decode cX11_answerRefusal 9 = .ok (.aload_n 1, 1) := by decide +kernel
theorem dX11_answerRefusal_10 : decode cX11_answerRefusal 10 = .ok (.getfield 227, 3) := by decide +kernel
theorem dX11_answerRefusal_13 : decode cX11_answerRefusal 13 = .ok (.aload_n 1, 1) := by decide +kernel
theorem dX11_answerRefusal_14 : decode cX11_answerRefusal 14 = .ok (.getfield 230, 3) := by decide +kernel
theorem dX11_answerRefusal_17 : decode cX11_answerRefusal 17 = .ok (.invokespecial 171, 3) := by decide +kernel
theorem dX11_answerRefusal_20 : decode cX11_answerRefusal 20 = .ok (.astore_n 2, 1) := by decide +kernel
theorem dX11_answerRefusal_21 : decode cX11_answerRefusal 21 = .ok (.aload_n 2, 1) := by decide +kernel
theorem dX11_answerRefusal_22 : decode cX11_answerRefusal 22 = .ok (.aload_n 1, 1) := by decide +kernel
theorem dX11_answerRefusal_23 : decode cX11_answerRefusal 23 = .ok (.invokevirtual 236, 3) := by decide +kernel
theorem dX11_answerRefusal_26 : decode cX11_answerRefusal 26 = .ok (.aload_n 0, 1) := by decide +kernel
theorem dX11_answerRefusal_27 : decode cX11_answerRefusal 27 = .ok (.aload_n 2, 1) := by decide +kernel
theorem dX11_answerRefusal_28 : decode cX11_answerRefusal 28 = .ok (.invokevirtual 200, 3) := by decide +kernel
theorem dX11_answerRefusal_31 : decode cX11_answerRefusal 31 = .ok (.pop, 1) := by decide +kernel
theorem dX11_answerRefusal_32 : decode cX11_answerRefusal 32 = .ok (.aload_n 0, 1) := by decide +kernel
theorem dX11_answerRefusal_33 : decode cX11_answerRefusal 33 = .ok (.dup, 1) := by decide +kernel
theorem dX11_answerRefusal_34 : decode cX11_answerRefusal 34 = .ok (.getfield 55, 3) := by decide +kernel
theorem dX11_answerRefusal_37 : decode cX11_answerRefusal 37 = .ok (.iconst 1, 1) := by decide +kernel
theorem dX11_answerRefusal_38 : decode cX11_answerRefusal 38 = .ok (.iadd, 1) := by decide +kernel
theorem dX11_answerRefusal_39 : decode cX11_answerRefusal 39 = .ok (.putfield 55, 3) := by decide +kernel
theorem dX11_answerRefusal_42 : decode cX11_answerRefusal 42 = .ok (.return_, 1) := by decide +kernel
theorem dX11_answerLate_0 : decode cX11_answerLate 0 = .ok (.new 169, 3) := by decide +kernel
theorem dX11_answerLate_3 : decode cX11_answerLate 3 = .ok (.dup, 1) := by decide +kernel
theorem dX11_answerLate_4 : decode cX11_answerLate 4 = .ok (.bipush 7, 2) := by decide +kernel
theorem dX11_answerLate_6 : decode cX11_answerLate 6 = .ok (.aload_n 1, 1) := by decide +kernel
theorem dX11_answerLate_7 : decode cX11_answerLate 7 = .ok (.getfield 224, 3) := by decide +kernel
theorem dX11_answerLate_10 : decode cX11_answerLate 10 = .ok (.aload_n 1, 1) := by decide +kernel
theorem dX11_answerLate_11 : decode cX11_answerLate 11 = .ok (.getfield 227, 3) := by decide +kernel
theorem dX11_answerLate_14 : decode cX11_answerLate 14 = .ok (.aload_n 1, 1) := by decide +kernel
theorem dX11_answerLate_15 : decode cX11_answerLate 15 = .ok (.getfield 230, 3) := by decide +kernel
theorem dX11_answerLate_18 : decode cX11_answerLate 18 = .ok (.invokespecial 171, 3) := by decide +kernel
theorem dX11_answerLate_21 : decode cX11_answerLate 21 = .ok (.astore_n 2, 1) := by decide +kernel
theorem dX11_answerLate_22 : decode cX11_answerLate 22 = .ok (.aload_n 2, 1) := by decide +kernel
theorem dX11_answerLate_23 : decode cX11_answerLate 23 = .ok (.iconst 0, 1) := by decide +kernel
theorem dX11_answerLate_24 : decode cX11_answerLate 24 = .ok (.iconst 0, 1) := by decide +kernel
theorem dX11_answerLate_25 : decode cX11_answerLate 25 = .ok (.aload_n 1, 1) := by decide +kernel
theorem dX11_answerLate_26 : decode cX11_answerLate 26 = .ok (.getfield 235, 3) := by decide +kernel
theorem dX11_answerLate_29 : decode cX11_answerLate 29 = .ok (.invokevirtual 174, 3) := by decide +kernel
theorem dX11_answerLate_32 : decode cX11_answerLate 32 = .ok (.aload_n 0, 1) := by decide +kernel
theorem dX11_answerLate_33 : decode cX11_answerLate 33 = .ok (.aload_n 2, 1) := by decide +kernel
theorem dX11_answerLate_34 : decode cX11_answerLate 34 = .ok (.invokevirtual 200, 3) := by decide +kernel
theorem dX11_answerLate_37 : decode cX11_answerLate 37 = .ok (.pop, 1) := by decide +kernel
theorem dX11_answerLate_38 : decode cX11_answerLate 38 = .ok (.aload_n 0, 1) := by decide +kernel
theorem dX11_answerLate_39 : decode cX11_answerLate 39 = .ok (.dup, 1) := by decide +kernel
theorem dX11_answerLate_40 : decode cX11_answerLate 40 = .ok (.getfield 58, 3) := by decide +kernel
theorem dX11_answerLate_43 : decode cX11_answerLate 43 = .ok (.iconst 1, 1) := by decide +kernel
theorem dX11_answerLate_44 : decode cX11_answerLate 44 = .ok (.iadd, 1) := by decide +kernel
theorem dX11_answerLate_45 : decode cX11_answerLate 45 = .ok (.putfield 58, 3) := by decide +kernel
theorem dX11_answerLate_48 : decode cX11_answerLate 48 = .ok (.return_, 1) := by decide +kernel
theorem dX11_reachKeeper_0 : decode cX11_reachKeeper 0 = .ok (.aload_n 0, 1) := by decide +kernel
theorem dX11_reachKeeper_1 : decode cX11_reachKeeper 1 = .ok (.invokevirtual 246, 3) := by decide +kernel
theorem dX11_reachKeeper_4 : decode cX11_reachKeeper 4 = .ok (.astore_n 2, 1) := by decide +kernel
theorem dX11_reachKeeper_5 : decode cX11_reachKeeper 5 = .ok (.aload_n 0, 1) := by decide +kernel
theorem dX11_reachKeeper_6 : decode cX11_reachKeeper 6 = .ok (.aload_n 1, 1) := by decide +kernel
theorem dX11_reachKeeper_7 : decode cX11_reachKeeper 7 = .ok (.getfield 230, 3) := by decide +kernel
theorem dX11_reachKeeper_10 : decode cX11_reachKeeper 10 = .ok (.invokevirtual 156, 3) := by decide +kernel
theorem dX11_reachKeeper_13 : decode cX11_reachKeeper 13 = .ok (.astore_n 3, 1) := by decide +kernel
theorem dX11_reachKeeper_14 : decode cX11_reachKeeper 14 = .ok (.aload_n 2, 1) := by decide +kernel
theorem dX11_reachKeeper_15 : decode cX11_reachKeeper 15 = .ok (.ifnull 18, 3) := by decide +kernel
theorem dX11_reachKeeper_18 : decode cX11_reachKeeper 18 = .ok (.aload_n 3, 1) := by decide +kernel
theorem dX11_reachKeeper_19 : decode cX11_reachKeeper 19 = .ok (.ifnull 14, 3) := by decide +kernel
theorem dX11_reachKeeper_22 : decode cX11_reachKeeper 22 = .ok (.aload_n 1, 1) := by decide +kernel
theorem dX11_reachKeeper_23 : decode cX11_reachKeeper 23 = .ok (.getfield 227, 3) := by decide +kernel
theorem dX11_reachKeeper_26 : decode cX11_reachKeeper 26 = .ok (.aload_n 0, 1) := by decide +kernel
theorem dX11_reachKeeper_27 : decode cX11_reachKeeper 27 = .ok (.getfield 46, 3) := by decide +kernel
theorem dX11_reachKeeper_30 : decode cX11_reachKeeper 30 = .ok (.if_icmp .eq 5, 3) := by decide +kernel
theorem dX11_reachKeeper_33 : decode cX11_reachKeeper 33 = .ok (.iconst 0, 1) := by decide +kernel
theorem dX11_reachKeeper_34 : decode cX11_reachKeeper 34 = .ok (.ireturn, 1) := by decide +kernel
theorem dX11_reachKeeper_35 : decode cX11_reachKeeper 35 = .ok (.aload_n 2, 1) := by decide +kernel
theorem dX11_reachKeeper_36 : decode cX11_reachKeeper 36 = .ok (.aload_n 0, 1) := by decide +kernel
theorem dX11_reachKeeper_37 : decode cX11_reachKeeper 37 = .ok (.getfield 43, 3) := by decide +kernel
theorem dX11_reachKeeper_40 : decode cX11_reachKeeper 40 = .ok (.invokevirtual 119, 3) := by decide +kernel
theorem dX11_reachKeeper_43 : decode cX11_reachKeeper 43 = .ok (.lstore 4, 2) := by decide +kernel
theorem dX11_reachKeeper_45 : decode cX11_reachKeeper 45 = .ok (.aload_n 0, 1) := by decide +kernel
theorem dX11_reachKeeper_46 : decode cX11_reachKeeper 46 = .ok (.aload_n 3, 1) := by decide +kernel
theorem dX11_reachKeeper_47 : decode cX11_reachKeeper 47 = .ok (.aload_n 1, 1) := by decide +kernel
theorem dX11_reachKeeper_48 : decode cX11_reachKeeper 48 = .ok (.getfield 230, 3) := by decide +kernel
theorem dX11_reachKeeper_51 : decode cX11_reachKeeper 51 = .ok (.lload 4, 2) := by decide +kernel
theorem dX11_reachKeeper_53 : decode cX11_reachKeeper 53 = .ok (.invokevirtual 250, 3) := by decide +kernel
theorem dX11_reachKeeper_56 : decode cX11_reachKeeper 56 = .ok (.aload_n 1, 1) := by decide +kernel
theorem dX11_reachKeeper_57 : decode cX11_reachKeeper 57 = .ok (.getfield 221, 3) := by decide +kernel
theorem dX11_reachKeeper_60 : decode cX11_reachKeeper 60 = .ok (.tableswitch 61 0 2 #[28, 39, 50], 28) := by decide +kernel
theorem dX11_reachKeeper_88 : decode cX11_reachKeeper 88 = .ok (.aload_n 0, 1) := by decide +kernel
theorem dX11_reachKeeper_89 : decode cX11_reachKeeper 89 = .ok (.aload_n 1, 1) := by decide +kernel
theorem dX11_reachKeeper_90 : decode cX11_reachKeeper 90 = .ok (.aload_n 3, 1) := by decide +kernel
theorem dX11_reachKeeper_91 : decode cX11_reachKeeper 91 = .ok (.lload 4, 2) := by decide +kernel
theorem dX11_reachKeeper_93 : decode cX11_reachKeeper 93 = .ok (.invokevirtual 409, 3) := by decide +kernel
theorem dX11_reachKeeper_96 : decode cX11_reachKeeper 96 = .ok (.goto 33, 3) := by decide +kernel
theorem dX11_reachKeeper_99 : decode cX11_reachKeeper 99 = .ok (.aload_n 0, 1) := by decide +kernel
theorem dX11_reachKeeper_100 : decode cX11_reachKeeper 100 = .ok (.aload_n 1, 1) := by decide +kernel
theorem dX11_reachKeeper_101 : decode cX11_reachKeeper 101 = .ok (.aload_n 3, 1) := by decide +kernel
theorem dX11_reachKeeper_102 : decode cX11_reachKeeper 102 = .ok (.lload 4, 2) := by decide +kernel
theorem dX11_reachKeeper_104 : decode cX11_reachKeeper 104 = .ok (.invokevirtual 413, 3) := by decide +kernel
theorem dX11_reachKeeper_107 : decode cX11_reachKeeper 107 = .ok (.goto 22, 3) := by decide +kernel
theorem dX11_reachKeeper_110 : decode cX11_reachKeeper 110 = .ok (.aload_n 0, 1) := by decide +kernel
theorem dX11_reachKeeper_111 : decode cX11_reachKeeper 111 = .ok (.aload_n 1, 1) := by decide +kernel
theorem dX11_reachKeeper_112 : decode cX11_reachKeeper 112 = .ok (.aload_n 3, 1) := by decide +kernel
theorem dX11_reachKeeper_113 : decode cX11_reachKeeper 113 = .ok (.lload 4, 2) := by decide +kernel
theorem dX11_reachKeeper_115 : decode cX11_reachKeeper 115 = .ok (.invokevirtual 416, 3) := by decide +kernel
theorem dX11_reachKeeper_118 : decode cX11_reachKeeper 118 = .ok (.goto 11, 3) := by decide +kernel
theorem dX11_reachKeeper_121 : decode cX11_reachKeeper 121 = .ok (.aload_n 0, 1) := by decide +kernel
theorem dX11_reachKeeper_122 : decode cX11_reachKeeper 122 = .ok (.aload_n 1, 1) := by decide +kernel
theorem dX11_reachKeeper_123 : decode cX11_reachKeeper 123 = .ok (.aload_n 3, 1) := by decide +kernel
theorem dX11_reachKeeper_124 : decode cX11_reachKeeper 124 = .ok (.lload 4, 2) := by decide +kernel
theorem dX11_reachKeeper_126 : decode cX11_reachKeeper 126 = .ok (.invokevirtual 419, 3) := by decide +kernel
theorem dX11_reachKeeper_129 : decode cX11_reachKeeper 129 = .ok (.iconst 1, 1) := by decide +kernel
theorem dX11_reachKeeper_130 : decode cX11_reachKeeper 130 = .ok (.ireturn, 1) := by decide +kernel
theorem dX11_lookAt_0 : decode cX11_lookAt 0 = .ok (.aload_n 1, 1) := by decide +kernel
theorem dX11_lookAt_1 : decode cX11_lookAt 1 = .ok (.lload_n 3, 1) := by decide +kernel
theorem dX11_lookAt_2 : decode cX11_lookAt 2 = .ok (.invokevirtual 422, 3) := by decide +kernel
theorem dX11_lookAt_5 : decode cX11_lookAt 5 = .ok (.aload_n 1, 1) := by decide +kernel
theorem dX11_lookAt_6 : decode cX11_lookAt 6 = .ok (.instanceof 203, 3) := by decide +kernel
theorem dX11_lookAt_9 : decode cX11_lookAt 9 = .ok (.ifCond .eq 14, 3) := by decide +kernel
theorem dX11_lookAt_12 : decode cX11_lookAt 12 = .ok (.aload_n 1, 1) := by decide +kernel
theorem dX11_lookAt_13 : decode cX11_lookAt 13 = .ok (.checkcast 203, 3) := by decide +kernel
theorem dX11_lookAt_16 : decode cX11_lookAt 16 = .ok (.astore 5, 2) := by decide +kernel
theorem dX11_lookAt_18 : decode cX11_lookAt 18 = .ok (.aload 5, 2) := by decide +kernel
theorem dX11_lookAt_20 : decode cX11_lookAt 20 = .ok (.invokevirtual 425, 3) := by decide +kernel
theorem dX11_lookAt_23 : decode cX11_lookAt 23 = .ok (.aload_n 1, 1) := by decide +kernel
theorem dX11_lookAt_24 : decode cX11_lookAt 24 = .ok (.instanceof 285, 3) := by decide +kernel
theorem dX11_lookAt_27 : decode cX11_lookAt 27 = .ok (.ifCond .eq 54, 3) := by decide +kernel
theorem dX11_lookAt_30 : decode cX11_lookAt 30 = .ok (.aload_n 1, 1) := by decide +kernel
theorem dX11_lookAt_31 : decode cX11_lookAt 31 = .ok (.checkcast 285, 3) := by decide +kernel
theorem dX11_lookAt_34 : decode cX11_lookAt 34 = .ok (.astore 5, 2) := by decide +kernel
theorem dX11_lookAt_36 : decode cX11_lookAt 36 = .ok (.aload 5, 2) := by decide +kernel
theorem dX11_lookAt_38 : decode cX11_lookAt 38 = .ok (.lload_n 3, 1) := by decide +kernel
theorem dX11_lookAt_39 : decode cX11_lookAt 39 = .ok (.invokevirtual 428, 3) := by decide +kernel
theorem dX11_lookAt_42 : decode cX11_lookAt 42 = .ok (.aload 5, 2) := by decide +kernel
theorem dX11_lookAt_44 : decode cX11_lookAt 44 = .ok (.invokevirtual 431, 3) := by decide +kernel
theorem dX11_lookAt_47 : decode cX11_lookAt 47 = .ok (.ifCond .eq 34, 3) := by decide +kernel
theorem dX11_lookAt_50 : decode cX11_lookAt 50 = .ok (.aload 5, 2) := by decide +kernel
theorem dX11_lookAt_52 : decode cX11_lookAt 52 = .ok (.lload_n 3, 1) := by decide +kernel
theorem dX11_lookAt_53 : decode cX11_lookAt 53 = .ok (.invokevirtual 402, 3) := by decide +kernel
theorem dX11_lookAt_56 : decode cX11_lookAt 56 = .ok (.aload_n 0, 1) := by decide +kernel
theorem dX11_lookAt_57 : decode cX11_lookAt 57 = .ok (.new 169, 3) := by decide +kernel
theorem dX11_lookAt_60 : decode cX11_lookAt 60 = .ok (.dup, 1) := by decide +kernel
theorem dX11_lookAt_61 : decode cX11_lookAt 61 = .ok (.bipush 6, 2) := by decide +kernel
theorem dX11_lookAt_63 : decode cX11_lookAt 63 = .ok (.aload 5, 2) := by decide +kernel
theorem dX11_lookAt_65 : decode cX11_lookAt 65 = .ok (.iconst 0, 1) := by decide +kernel
theorem dX11_lookAt_66 : decode cX11_lookAt 66 = .ok (.invokevirtual 297, 3) := by decide +kernel
theorem dX11_lookAt_69 : decode cX11_lookAt 69 = .ok (.aload_n 0, 1) := by decide +kernel
theorem dX11_lookAt_70 : decode cX11_lookAt 70 = .ok (.getfield 46, 3) := by decide +kernel
theorem dX11_lookAt_73 : decode cX11_lookAt 73 = .ok (.iload_n 2, 1) := by decide +kernel
theorem dX11_lookAt_74 : decode cX11_lookAt 74 = .ok (.invokespecial 171, 3) := by decide +kernel
theorem dX11_lookAt_77 : decode cX11_lookAt 77 = .ok (.invokevirtual 200, 3) := by decide +kernel
theorem dX11_lookAt_80 : decode cX11_lookAt 80 = .ok (.pop, 1) := by decide +kernel
theorem dX11_lookAt_81 : decode cX11_lookAt 81 = .ok (.return_, 1) := by decide +kernel
theorem dX11_hearAsk_0 : decode cX11_hearAsk 0 = .ok (.aload_n 2, 1) := by decide +kernel
theorem dX11_hearAsk_1 : decode cX11_hearAsk 1 = .ok (.aload_n 1, 1) := by decide +kernel
theorem dX11_hearAsk_2 : decode cX11_hearAsk 2 = .ok (.getfield 224, 3) := by decide +kernel
theorem dX11_hearAsk_5 : decode cX11_hearAsk 5 = .ok (.invokevirtual 434, 3) := by decide +kernel
theorem dX11_hearAsk_8 : decode cX11_hearAsk 8 = .ok (.ifnull 11, 3) := by decide +kernel
theorem dX11_hearAsk_11 : decode cX11_hearAsk 11 = .ok (.aload_n 0, 1) := by decide +kernel
theorem dX11_hearAsk_12 : decode cX11_hearAsk 12 = .ok (.aload_n 1, 1) := by decide +kernel
theorem dX11_hearAsk_13 : decode cX11_hearAsk 13 = .ok (.invokevirtual 438, 3) := by decide +kernel
theorem dX11_hearAsk_16 : decode cX11_hearAsk 16 = .ok (.goto 60, 3) := by decide +kernel
theorem dX11_hearAsk_19 : decode cX11_hearAsk 19 = .ok (.aload_n 2, 1) := by decide +kernel
theorem dX11_hearAsk_20 : decode cX11_hearAsk 20 = .ok (.aload_n 1, 1) := by decide +kernel
theorem dX11_hearAsk_21 : decode cX11_hearAsk 21 = .ok (.getfield 224, 3) := by decide +kernel
theorem dX11_hearAsk_24 : decode cX11_hearAsk 24 = .ok (.aload_n 1, 1) := by decide +kernel
theorem dX11_hearAsk_25 : decode cX11_hearAsk 25 = .ok (.getfield 233, 3) := by decide +kernel
theorem dX11_hearAsk_28 : decode cX11_hearAsk 28 = .ok (.aload_n 1, 1) := by decide +kernel
theorem dX11_hearAsk_29 : decode cX11_hearAsk 29 = .ok (.getfield 234, 3) := by decide +kernel
theorem dX11_hearAsk_32 : decode cX11_hearAsk 32 = .ok (.invokevirtual 441, 3) := by decide +kernel
theorem dX11_hearAsk_35 : decode cX11_hearAsk 35 = .ok (.ifCond .eq 13, 3) := by decide +kernel
theorem dX11_hearAsk_38 : decode cX11_hearAsk 38 = .ok (.aload_n 0, 1) := by decide +kernel
theorem dX11_hearAsk_39 : decode cX11_hearAsk 39 = .ok (.aload_n 1, 1) := by decide +kernel
theorem dX11_hearAsk_40 : decode cX11_hearAsk 40 = .ok (.aload_n 2, 1) := by decide +kernel
theorem dX11_hearAsk_41 : decode cX11_hearAsk 41 = .ok (.lload_n 3, 1) := by decide +kernel
theorem dX11_hearAsk_42 : decode cX11_hearAsk 42 = .ok (.invokevirtual 444, 3) := by decide +kernel
theorem dX11_hearAsk_45 : decode cX11_hearAsk 45 = .ok (.goto 31, 3) := by decide +kernel
theorem dX11_hearAsk_48 : decode cX11_hearAsk 48 = .ok (.aload_n 2, 1) := by decide +kernel
theorem dX11_hearAsk_49 : decode cX11_hearAsk 49 = .ok (.instanceof 285, 3) := by decide +kernel
theorem dX11_hearAsk_52 : decode cX11_hearAsk 52 = .ok (.ifCond .eq 19, 3) := by decide +kernel
theorem dX11_hearAsk_55 : decode cX11_hearAsk 55 = .ok (.aload_n 2, 1) := by decide +kernel
theorem dX11_hearAsk_56 : decode cX11_hearAsk 56 = .ok (.checkcast 285, 3) := by decide +kernel
theorem dX11_hearAsk_59 : decode cX11_hearAsk 59 = .ok (.astore 5, 2) := by decide +kernel
theorem dX11_hearAsk_61 : decode cX11_hearAsk 61 = .ok (.aload_n 0, 1) := by decide +kernel
theorem dX11_hearAsk_62 : decode cX11_hearAsk 62 = .ok (.aload_n 1, 1) := by decide +kernel
theorem dX11_hearAsk_63 : decode cX11_hearAsk 63 = .ok (.aload 5, 2) := by decide +kernel
theorem dX11_hearAsk_65 : decode cX11_hearAsk 65 = .ok (.invokevirtual 447, 3) := by decide +kernel
theorem dX11_hearAsk_68 : decode cX11_hearAsk 68 = .ok (.goto 8, 3) := by decide +kernel
theorem dX11_hearAsk_71 : decode cX11_hearAsk 71 = .ok (.aload_n 0, 1) := by decide +kernel
theorem dX11_hearAsk_72 : decode cX11_hearAsk 72 = .ok (.aload_n 1, 1) := by decide +kernel
theorem dX11_hearAsk_73 : decode cX11_hearAsk 73 = .ok (.invokevirtual 438, 3) := by decide +kernel
theorem dX11_hearAsk_76 : decode cX11_hearAsk 76 = .ok (.return_, 1) := by decide +kernel
theorem dX11_grantAsAsked_0 : decode cX11_grantAsAsked 0 = .ok (.new 262, 3) := by decide +kernel
theorem dX11_grantAsAsked_3 : decode cX11_grantAsAsked 3 = .ok (.dup, 1) := by decide +kernel
theorem dX11_grantAsAsked_4 : decode cX11_grantAsAsked 4 = .ok (.aload_n 1, 1) := by decide +kernel
theorem dX11_grantAsAsked_5 : decode cX11_grantAsAsked 5 = .ok (.getfield 224, 3) := by decide +kernel
theorem dX11_grantAsAsked_8 : decode cX11_grantAsAsked 8 = .ok (.aload_n 1, 1) := by decide +kernel
theorem dX11_grantAsAsked_9 : decode cX11_grantAsAsked 9 = .ok (.getfield 233, 3) := by decide +kernel
theorem dX11_grantAsAsked_12 : decode cX11_grantAsAsked 12 = .ok (.aload_n 1, 1) := by decide +kernel
theorem dX11_grantAsAsked_13 : decode cX11_grantAsAsked 13 = .ok (.getfield 234, 3) := by decide +kernel
theorem dX11_grantAsAsked_16 : decode cX11_grantAsAsked 16 = .ok (.invokespecial 451, 3) := by decide +kernel
theorem dX11_grantAsAsked_19 : decode cX11_grantAsAsked 19 = .ok (.astore 5, 2) := by decide +kernel
theorem dX11_grantAsAsked_21 : decode cX11_grantAsAsked 21 = .ok (.aload_n 2, 1) := by decide +kernel
theorem dX11_grantAsAsked_22 : decode cX11_grantAsAsked 22 = .ok (.getfield 254, 3) := by decide +kernel
theorem dX11_grantAsAsked_25 : decode cX11_grantAsAsked 25 = .ok (.aload 5, 2) := by decide +kernel
theorem dX11_grantAsAsked_27 : decode cX11_grantAsAsked 27 = .ok (.invokevirtual 96, 3) := by decide +kernel
theorem dX11_grantAsAsked_30 : decode cX11_grantAsAsked 30 = .ok (.pop, 1) := by decide +kernel
theorem dX11_grantAsAsked_31 : decode cX11_grantAsAsked 31 = .ok (.aload_n 0, 1) := by decide +kernel
theorem dX11_grantAsAsked_32 : decode cX11_grantAsAsked 32 = .ok (.aload_n 2, 1) := by decide +kernel
theorem dX11_grantAsAsked_33 : decode cX11_grantAsAsked 33 = .ok (.aload 5, 2) := by decide +kernel
theorem dX11_grantAsAsked_35 : decode cX11_grantAsAsked 35 = .ok (.lload_n 3, 1) := by decide +kernel
theorem dX11_grantAsAsked_36 : decode cX11_grantAsAsked 36 = .ok (.invokevirtual 452, 3) := by decide +kernel
theorem dX11_grantAsAsked_39 : decode cX11_grantAsAsked 39 = .ok (.aload_n 2, 1) := by decide +kernel
theorem dX11_grantAsAsked_40 : decode cX11_grantAsAsked 40 = .ok (.instanceof 285, 3) := by decide +kernel
theorem dX11_grantAsAsked_43 : decode cX11_grantAsAsked 43 = .ok (.ifCond .eq 27, 3) := by decide +kernel
theorem dX11_grantAsAsked_46 : decode cX11_grantAsAsked 46 = .ok (.aload_n 2, 1) := by decide +kernel
theorem dX11_grantAsAsked_47 : decode cX11_grantAsAsked 47 = .ok (.checkcast 285, 3) := by decide +kernel
theorem dX11_grantAsAsked_50 : decode cX11_grantAsAsked 50 = .ok (.astore 6, 2) := by decide +kernel
theorem dX11_grantAsAsked_52 : decode cX11_grantAsAsked 52 = .ok (.aload 6, 2) := by decide +kernel
theorem dX11_grantAsAsked_54 : decode cX11_grantAsAsked 54 = .ok (.iconst 0, 1) := by decide +kernel
theorem dX11_grantAsAsked_55 : decode cX11_grantAsAsked 55 = .ok (.invokevirtual 297, 3) := by decide +kernel
theorem dX11_grantAsAsked_58 : decode cX11_grantAsAsked 58 = .ok (.aload_n 1, 1) := by decide +kernel
theorem dX11_grantAsAsked_59 : decode cX11_grantAsAsked 59 = .ok (.getfield 224, 3) := by decide +kernel
theorem dX11_grantAsAsked_62 : decode cX11_grantAsAsked 62 = .ok (.if_icmp .ne 8, 3) := by decide +kernel
theorem dX11_grantAsAsked_65 : decode cX11_grantAsAsked 65 = .ok (.aload 6, 2) := by decide +kernel
theorem dX11_grantAsAsked_67 : decode cX11_grantAsAsked 67 = .ok (.invokevirtual 456, 3) := by decide +kernel
theorem dX11_grantAsAsked_70 : decode cX11_grantAsAsked 70 = .ok (.aload_n 0, 1) := by decide +kernel
theorem dX11_grantAsAsked_71 : decode cX11_grantAsAsked 71 = .ok (.aload_n 1, 1) := by decide +kernel
theorem dX11_grantAsAsked_72 : decode cX11_grantAsAsked 72 = .ok (.aload 5, 2) := by decide +kernel
theorem dX11_grantAsAsked_74 : decode cX11_grantAsAsked 74 = .ok (.invokevirtual 459, 3) := by decide +kernel
theorem dX11_grantAsAsked_77 : decode cX11_grantAsAsked 77 = .ok (.return_, 1) := by decide +kernel
theorem dX11_waitOrRefuse_0 : decode cX11_waitOrRefuse 0 = .ok (.aload_n 2, 1) := by decide +kernel
theorem dX11_waitOrRefuse_1 : decode cX11_waitOrRefuse 1 = .ok (.aload_n 1, 1) := by decide +kernel
theorem dX11_waitOrRefuse_2 : decode cX11_waitOrRefuse 2 = .ok (.getfield 224, 3) := by decide +kernel
theorem dX11_waitOrRefuse_5 : decode cX11_waitOrRefuse 5 = .ok (.invokevirtual 463, 3) := by decide +kernel
theorem dX11_waitOrRefuse_8 : decode cX11_waitOrRefuse 8 = .ok (.ifCond .eq 4, 3) := by decide +kernel
theorem dX11_waitOrRefuse_11 : decode cX11_waitOrRefuse 11 = .ok (.return_, 1) := by decide +kernel
theorem dX11_waitOrRefuse_12 : decode cX11_waitOrRefuse 12 = .ok (.aload_n 2, 1) := by decide +kernel
theorem dX11_waitOrRefuse_13 : decode cX11_waitOrRefuse 13 = .ok (.invokevirtual 466, 3) := by decide +kernel
theorem dX11_waitOrRefuse_16 : decode cX11_waitOrRefuse 16 = .ok (.ifCond .eq 11, 3) := by decide +kernel
theorem dX11_waitOrRefuse_19 : decode cX11_waitOrRefuse 19 = .ok (.aload_n 0, 1) := by decide +kernel
theorem dX11_waitOrRefuse_20 : decode cX11_waitOrRefuse 20 = .ok (.aload_n 1, 1) := by decide +kernel
theorem dX11_waitOrRefuse_21 : decode cX11_waitOrRefuse 21 = .ok (.invokevirtual 438, 3) := by decide +kernel
theorem dX11_waitOrRefuse_24 : decode cX11_waitOrRefuse 24 = .ok (.goto 11, 3) := by decide +kernel
theorem dX11_waitOrRefuse_27 : decode cX11_waitOrRefuse 27 = .ok (.aload_n 2, 1) := by decide +kernel
theorem dX11_waitOrRefuse_28 : decode cX11_waitOrRefuse 28 = .ok (.aload_n 1, 1) := by decide +kernel
theorem dX11_waitOrRefuse_29 : decode cX11_waitOrRefuse 29 = .ok (.getfield 224, 3) := by decide +kernel
theorem dX11_waitOrRefuse_32 : decode cX11_waitOrRefuse 32 = .ok (.invokevirtual 469, 3) := by decide +kernel
theorem dX11_waitOrRefuse_35 : decode cX11_waitOrRefuse 35 = .ok (.return_, 1) := by decide +kernel
theorem dX11_hearRenew_0 : decode cX11_hearRenew 0 = .ok (.aload_n 2, 1) := by decide +kernel
theorem dX11_hearRenew_1 : decode cX11_hearRenew 1 = .ok (.aload_n 1, 1) := by decide +kernel
theorem dX11_hearRenew_2 : decode cX11_hearRenew 2 = .ok (.invokevirtual 473, 3) := by decide +kernel
theorem dX11_hearRenew_5 : decode cX11_hearRenew 5 = .ok (.astore 5, 2) := by decide +kernel
theorem dX11_hearRenew_7 : decode cX11_hearRenew 7 = .ok (.aload 5, 2) := by decide +kernel
theorem dX11_hearRenew_9 : decode cX11_hearRenew 9 = .ok (.ifnonnull 11, 3) := by decide +kernel
theorem dX11_hearRenew_12 : decode cX11_hearRenew 12 = .ok (.aload_n 0, 1) := by decide +kernel
theorem dX11_hearRenew_13 : decode cX11_hearRenew 13 = .ok (.aload_n 1, 1) := by decide +kernel
theorem dX11_hearRenew_14 : decode cX11_hearRenew 14 = .ok (.invokevirtual 477, 3) := by decide +kernel
theorem dX11_hearRenew_17 : decode cX11_hearRenew 17 = .ok (.goto 22, 3) := by decide +kernel
theorem dX11_hearRenew_20 : decode cX11_hearRenew 20 = .ok (.aload 5, 2) := by decide +kernel
theorem dX11_hearRenew_22 : decode cX11_hearRenew 22 = .ok (.lload_n 3, 1) := by decide +kernel
theorem dX11_hearRenew_23 : decode cX11_hearRenew 23 = .ok (.aload_n 2, 1) := by decide +kernel
theorem dX11_hearRenew_24 : decode cX11_hearRenew 24 = .ok (.getfield 274, 3) := by decide +kernel
theorem dX11_hearRenew_27 : decode cX11_hearRenew 27 = .ok (.i2l, 1) := by decide +kernel
theorem dX11_hearRenew_28 : decode cX11_hearRenew 28 = .ok (.ladd, 1) := by decide +kernel
theorem dX11_hearRenew_29 : decode cX11_hearRenew 29 = .ok (.putfield 267, 3) := by decide +kernel
theorem dX11_hearRenew_32 : decode cX11_hearRenew 32 = .ok (.aload_n 0, 1) := by decide +kernel
theorem dX11_hearRenew_33 : decode cX11_hearRenew 33 = .ok (.aload_n 1, 1) := by decide +kernel
theorem dX11_hearRenew_34 : decode cX11_hearRenew 34 = .ok (.aload 5, 2) := by decide +kernel
theorem dX11_hearRenew_36 : decode cX11_hearRenew 36 = .ok (.invokevirtual 459, 3) := by decide +kernel
theorem dX11_hearRenew_39 : decode cX11_hearRenew 39 = .ok (.return_, 1) := by decide +kernel
theorem dX11_hearEnd_0 : decode cX11_hearEnd 0 = .ok (.aload_n 2, 1) := by decide +kernel
theorem dX11_hearEnd_1 : decode cX11_hearEnd 1 = .ok (.aload_n 1, 1) := by decide +kernel
theorem dX11_hearEnd_2 : decode cX11_hearEnd 2 = .ok (.invokevirtual 473, 3) := by decide +kernel
theorem dX11_hearEnd_5 : decode cX11_hearEnd 5 = .ok (.ifnull 21, 3) := by decide +kernel
theorem dX11_hearEnd_8 : decode cX11_hearEnd 8 = .ok (.aload_n 2, 1) := by decide +kernel
theorem dX11_hearEnd_9 : decode cX11_hearEnd 9 = .ok (.aload_n 1, 1) := by decide +kernel
theorem dX11_hearEnd_10 : decode cX11_hearEnd 10 = .ok (.getfield 224, 3) := by decide +kernel
theorem dX11_hearEnd_13 : decode cX11_hearEnd 13 = .ok (.invokevirtual 480, 3) := by decide +kernel
theorem dX11_hearEnd_16 : decode cX11_hearEnd 16 = .ok (.aload_n 0, 1) := by decide +kernel
theorem dX11_hearEnd_17 : decode cX11_hearEnd 17 = .ok (.aload_n 2, 1) := by decide +kernel
theorem dX11_hearEnd_18 : decode cX11_hearEnd 18 = .ok (.aload_n 1, 1) := by decide +kernel
theorem dX11_hearEnd_19 : decode cX11_hearEnd 19 = .ok (.getfield 230, 3) := by decide +kernel
theorem dX11_hearEnd_22 : decode cX11_hearEnd 22 = .ok (.lload_n 3, 1) := by decide +kernel
theorem dX11_hearEnd_23 : decode cX11_hearEnd 23 = .ok (.invokevirtual 250, 3) := by decide +kernel
theorem dX11_hearEnd_26 : decode cX11_hearEnd 26 = .ok (.return_, 1) := by decide +kernel
theorem dX11_hearRise_0 : decode cX11_hearRise 0 = .ok (.aload_n 2, 1) := by decide +kernel
theorem dX11_hearRise_1 : decode cX11_hearRise 1 = .ok (.aload_n 1, 1) := by decide +kernel
theorem dX11_hearRise_2 : decode cX11_hearRise 2 = .ok (.invokevirtual 473, 3) := by decide +kernel
theorem dX11_hearRise_5 : decode cX11_hearRise 5 = .ok (.astore 5, 2) := by decide +kernel
theorem dX11_hearRise_7 : decode cX11_hearRise 7 = .ok (.aload 5, 2) := by decide +kernel
theorem dX11_hearRise_9 : decode cX11_hearRise 9 = .ok (.ifnonnull 11, 3) := by decide +kernel
theorem dX11_hearRise_12 : decode cX11_hearRise 12 = .ok (.aload_n 0, 1) := by decide +kernel
theorem dX11_hearRise_13 : decode cX11_hearRise 13 = .ok (.aload_n 1, 1) := by decide +kernel
theorem dX11_hearRise_14 : decode cX11_hearRise 14 = .ok (.invokevirtual 477, 3) := by decide +kernel
theorem dX11_hearRise_17 : decode cX11_hearRise 17 = .ok (.goto 56, 3) := by decide +kernel
theorem dX11_hearRise_20 : decode cX11_hearRise 20 = .ok (.aload 5, 2) := by decide +kernel
theorem dX11_hearRise_22 : decode cX11_hearRise 22 = .ok (.getfield 264, 3) := by decide +kernel
theorem dX11_hearRise_25 : decode cX11_hearRise 25 = .ok (.ifCond .ne 25, 3) := by decide +kernel
theorem dX11_hearRise_28 : decode cX11_hearRise 28 = .ok (.aload 5, 2) := by decide +kernel
theorem dX11_hearRise_30 : decode cX11_hearRise 30 = .ok (.lload_n 3, 1) := by decide +kernel
theorem dX11_hearRise_31 : decode cX11_hearRise 31 = .ok (.aload_n 2, 1) := by decide +kernel
theorem dX11_hearRise_32 : decode cX11_hearRise 32 = .ok (.getfield 274, 3) := by decide +kernel
theorem dX11_hearRise_35 : decode cX11_hearRise 35 = .ok (.i2l, 1) := by decide +kernel
theorem dX11_hearRise_36 : decode cX11_hearRise 36 = .ok (.ladd, 1) := by decide +kernel
theorem dX11_hearRise_37 : decode cX11_hearRise 37 = .ok (.putfield 267, 3) := by decide +kernel
theorem dX11_hearRise_40 : decode cX11_hearRise 40 = .ok (.aload_n 0, 1) := by decide +kernel
theorem dX11_hearRise_41 : decode cX11_hearRise 41 = .ok (.aload_n 1, 1) := by decide +kernel
theorem dX11_hearRise_42 : decode cX11_hearRise 42 = .ok (.aload 5, 2) := by decide +kernel
theorem dX11_hearRise_44 : decode cX11_hearRise 44 = .ok (.invokevirtual 459, 3) := by decide +kernel
theorem dX11_hearRise_47 : decode cX11_hearRise 47 = .ok (.goto 26, 3) := by decide +kernel
theorem dX11_hearRise_50 : decode cX11_hearRise 50 = .ok (.aload_n 2, 1) := by decide +kernel
theorem dX11_hearRise_51 : decode cX11_hearRise 51 = .ok (.instanceof 203, 3) := by decide +kernel
theorem dX11_hearRise_54 : decode cX11_hearRise 54 = .ok (.ifCond .eq 19, 3) := by decide +kernel
theorem dX11_hearRise_57 : decode cX11_hearRise 57 = .ok (.aload_n 2, 1) := by decide +kernel
theorem dX11_hearRise_58 : decode cX11_hearRise 58 = .ok (.checkcast 203, 3) := by decide +kernel
theorem dX11_hearRise_61 : decode cX11_hearRise 61 = .ok (.astore 6, 2) := by decide +kernel
theorem dX11_hearRise_63 : decode cX11_hearRise 63 = .ok (.aload_n 0, 1) := by decide +kernel
theorem dX11_hearRise_64 : decode cX11_hearRise 64 = .ok (.aload_n 1, 1) := by decide +kernel
theorem dX11_hearRise_65 : decode cX11_hearRise 65 = .ok (.aload 6, 2) := by decide +kernel
theorem dX11_hearRise_67 : decode cX11_hearRise 67 = .ok (.aload 5, 2) := by decide +kernel
theorem dX11_hearRise_69 : decode cX11_hearRise 69 = .ok (.lload_n 3, 1) := by decide +kernel
theorem dX11_hearRise_70 : decode cX11_hearRise 70 = .ok (.invokevirtual 483, 3) := by decide +kernel
theorem dX11_hearRise_73 : decode cX11_hearRise 73 = .ok (.return_, 1) := by decide +kernel
theorem dX11_riseReader_0 : decode cX11_riseReader 0 = .ok (.aload_n 2, 1) := by decide +kernel
theorem dX11_riseReader_1 : decode cX11_riseReader 1 = .ok (.getfield 282, 3) := by decide +kernel
theorem dX11_riseReader_4 : decode cX11_riseReader 4 = .ok (.iconst (-1), 1) := by decide +kernel
theorem dX11_riseReader_5 : decode cX11_riseReader 5 = .ok (.if_icmp .eq 20, 3) := by decide +kernel
theorem dX11_riseReader_8 : decode cX11_riseReader 8 = .ok (.aload_n 2, 1) := by decide +kernel
theorem dX11_riseReader_9 : decode cX11_riseReader 9 = .ok (.getfield 282, 3) := by decide +kernel
theorem dX11_riseReader_12 : decode cX11_riseReader 12 = .ok (.aload_n 1, 1) := by decide +kernel
theorem dX11_riseReader_13 : decode cX11_riseReader 13 = .ok (.getfield 224, 3) := by decide +kernel
theorem dX11_riseReader_16 : decode cX11_riseReader 16 = .ok (.if_icmp .eq 9, 3) := by decide +kernel
theorem dX11_riseReader_19 : decode cX11_riseReader 19 = .ok (.aload_n 0, 1) := by decide +kernel
theorem dX11_riseReader_20 : decode cX11_riseReader 20 = .ok (.aload_n 1, 1) := by decide +kernel
theorem dX11_riseReader_21 : decode cX11_riseReader 21 = .ok (.invokevirtual 438, 3) := by decide +kernel
theorem dX11_riseReader_24 : decode cX11_riseReader 24 = .ok (.return_, 1) := by decide +kernel
theorem dX11_riseReader_25 : decode cX11_riseReader 25 = .ok (.aload_n 2, 1) := by decide +kernel
theorem dX11_riseReader_26 : decode cX11_riseReader 26 = .ok (.aload_n 1, 1) := by decide +kernel
theorem dX11_riseReader_27 : decode cX11_riseReader 27 = .ok (.getfield 224, 3) := by decide +kernel
theorem dX11_riseReader_30 : decode cX11_riseReader 30 = .ok (.putfield 282, 3) := by decide +kernel
theorem dX11_riseReader_33 : decode cX11_riseReader 33 = .ok (.aload_n 2, 1) := by decide +kernel
theorem dX11_riseReader_34 : decode cX11_riseReader 34 = .ok (.getfield 487, 3) := by decide +kernel
theorem dX11_riseReader_37 : decode cX11_riseReader 37 = .ok (.invokevirtual 87, 3) := by decide +kernel
theorem dX11_riseReader_40 : decode cX11_riseReader 40 = .ok (.iconst 1, 1) := by decide +kernel
theorem dX11_riseReader_41 : decode cX11_riseReader 41 = .ok (.if_icmp .ne 27, 3) := by decide +kernel
theorem dX11_riseReader_44 : decode cX11_riseReader 44 = .ok (.aload_n 3, 1) := by decide +kernel
theorem dX11_riseReader_45 : decode cX11_riseReader 45 = .ok (.iconst 0, 1) := by decide +kernel
theorem dX11_riseReader_46 : decode cX11_riseReader 46 = .ok (.putfield 264, 3) := by decide +kernel
theorem dX11_riseReader_49 : decode cX11_riseReader 49 = .ok (.aload_n 0, 1) := by decide +kernel
theorem dX11_riseReader_50 : decode cX11_riseReader 50 = .ok (.aload_n 2, 1) := by decide +kernel
theorem dX11_riseReader_51 : decode cX11_riseReader 51 = .ok (.aload_n 3, 1) := by decide +kernel
theorem dX11_riseReader_52 : decode cX11_riseReader 52 = .ok (.lload 4, 2) := by decide +kernel
theorem dX11_riseReader_54 : decode cX11_riseReader 54 = .ok (.invokevirtual 452, 3) := by decide +kernel
theorem dX11_riseReader_57 : decode cX11_riseReader 57 = .ok (.aload_n 2, 1) := by decide +kernel
theorem dX11_riseReader_58 : decode cX11_riseReader 58 = .ok (.iconst (-1), 1) := by decide +kernel
theorem dX11_riseReader_59 : decode cX11_riseReader 59 = .ok (.putfield 282, 3) := by decide +kernel
theorem dX11_riseReader_62 : decode cX11_riseReader 62 = .ok (.aload_n 0, 1) := by decide +kernel
theorem dX11_riseReader_63 : decode cX11_riseReader 63 = .ok (.aload_n 1, 1) := by decide +kernel
theorem dX11_riseReader_64 : decode cX11_riseReader 64 = .ok (.aload_n 3, 1) := by decide +kernel
theorem dX11_riseReader_65 : decode cX11_riseReader 65 = .ok (.invokevirtual 459, 3) := by decide +kernel
theorem dX11_riseReader_68 : decode cX11_riseReader 68 = .ok (.return_, 1) := by decide +kernel
theorem dX11_giveNumber_0 : decode cX11_giveNumber 0 = .ok (.aload_n 1, 1) := by decide +kernel
theorem dX11_giveNumber_1 : decode cX11_giveNumber 1 = .ok (.aload_n 2, 1) := by decide +kernel
theorem dX11_giveNumber_2 : decode cX11_giveNumber 2 = .ok (.lload_n 3, 1) := by decide +kernel
theorem dX11_giveNumber_3 : decode cX11_giveNumber 3 = .ok (.invokevirtual 488, 3) := by decide +kernel
theorem dX11_giveNumber_6 : decode cX11_giveNumber 6 = .ok (.aload_n 0, 1) := by decide +kernel
theorem dX11_giveNumber_7 : decode cX11_giveNumber 7 = .ok (.dup, 1) := by decide +kernel
theorem dX11_giveNumber_8 : decode cX11_giveNumber 8 = .ok (.getfield 52, 3) := by decide +kernel
theorem dX11_giveNumber_11 : decode cX11_giveNumber 11 = .ok (.iconst 1, 1) := by decide +kernel
theorem dX11_giveNumber_12 : decode cX11_giveNumber 12 = .ok (.iadd, 1) := by decide +kernel
theorem dX11_giveNumber_13 : decode cX11_giveNumber 13 = .ok (.putfield 52, 3) := by decide +kernel
theorem dX11_giveNumber_16 : decode cX11_giveNumber 16 = .ok (.return_, 1) := by decide +kernel
theorem dX11_reachWorker_0 : decode cX11_reachWorker 0 = .ok (.aload_n 0, 1) := by decide +kernel
theorem dX11_reachWorker_1 : decode cX11_reachWorker 1 = .ok (.aload_n 1, 1) := by decide +kernel
theorem dX11_reachWorker_2 : decode cX11_reachWorker 2 = .ok (.getfield 224, 3) := by decide +kernel
theorem dX11_reachWorker_5 : decode cX11_reachWorker 5 = .ok (.invokevirtual 127, 3) := by decide +kernel
theorem dX11_reachWorker_8 : decode cX11_reachWorker 8 = .ok (.astore_n 2, 1) := by decide +kernel
theorem dX11_reachWorker_9 : decode cX11_reachWorker 9 = .ok (.aload_n 0, 1) := by decide +kernel
theorem dX11_reachWorker_10 : decode cX11_reachWorker 10 = .ok (.aload_n 1, 1) := by decide +kernel
theorem dX11_reachWorker_11 : decode cX11_reachWorker 11 = .ok (.getfield 224, 3) := by decide +kernel
theorem dX11_reachWorker_14 : decode cX11_reachWorker 14 = .ok (.aload_n 1, 1) := by decide +kernel
theorem dX11_reachWorker_15 : decode cX11_reachWorker 15 = .ok (.getfield 230, 3) := by decide +kernel
theorem dX11_reachWorker_18 : decode cX11_reachWorker 18 = .ok (.invokevirtual 186, 3) := by decide +kernel
theorem dX11_reachWorker_21 : decode cX11_reachWorker 21 = .ok (.astore_n 3, 1) := by decide +kernel
theorem dX11_reachWorker_22 : decode cX11_reachWorker 22 = .ok (.aload_n 0, 1) := by decide +kernel
theorem dX11_reachWorker_23 : decode cX11_reachWorker 23 = .ok (.aload_n 1, 1) := by decide +kernel
theorem dX11_reachWorker_24 : decode cX11_reachWorker 24 = .ok (.getfield 230, 3) := by decide +kernel
theorem dX11_reachWorker_27 : decode cX11_reachWorker 27 = .ok (.invokevirtual 156, 3) := by decide +kernel
theorem dX11_reachWorker_30 : decode cX11_reachWorker 30 = .ok (.astore 4, 2) := by decide +kernel
theorem dX11_reachWorker_32 : decode cX11_reachWorker 32 = .ok (.aload_n 2, 1) := by decide +kernel
theorem dX11_reachWorker_33 : decode cX11_reachWorker 33 = .ok (.ifnull 19, 3) := by decide +kernel
theorem dX11_reachWorker_36 : decode cX11_reachWorker 36 = .ok (.aload_n 3, 1) := by decide +kernel
theorem dX11_reachWorker_37 : decode cX11_reachWorker 37 = .ok (.ifnull 15, 3) := by decide +kernel
theorem dX11_reachWorker_40 : decode cX11_reachWorker 40 = .ok (.aload 4, 2) := by decide +kernel
theorem dX11_reachWorker_42 : decode cX11_reachWorker 42 = .ok (.ifnull 10, 3) := by decide +kernel
theorem dX11_reachWorker_45 : decode cX11_reachWorker 45 = .ok (.aload_n 2, 1) := by decide +kernel
theorem dX11_reachWorker_46 : decode cX11_reachWorker 46 = .ok (.getfield 143, 3) := by decide +kernel
theorem dX11_reachWorker_49 : decode cX11_reachWorker 49 = .ok (.ifCond .ne 5, 3) := by decide +kernel
theorem dX11_reachWorker_52 : decode cX11_reachWorker 52 = .ok (.iconst 0, 1) := by decide +kernel
theorem dX11_reachWorker_53 : decode cX11_reachWorker 53 = .ok (.ireturn, 1) := by decide +kernel
theorem dX11_reachWorker_54 : decode cX11_reachWorker 54 = .ok (.aload_n 1, 1) := by decide +kernel
theorem dX11_reachWorker_55 : decode cX11_reachWorker 55 = .ok (.getfield 221, 3) := by decide +kernel
theorem dX11_reachWorker_58 : decode cX11_reachWorker 58 = .ok (.tableswitch 67 4 7 #[30, 51, 67, 59], 30) := by decide +kernel
theorem dX11_reachWorker_88 : decode cX11_reachWorker 88 = .ok (.aload_n 1, 1) := by decide +kernel
theorem dX11_reachWorker_89 : decode cX11_reachWorker 89 = .ok (.aload_n 3, 1) := by decide +kernel
theorem dX11_reachWorker_90 : decode cX11_reachWorker 90 = .ok (.aload_n 2, 1) := by decide +kernel
theorem dX11_reachWorker_91 : decode cX11_reachWorker 91 = .ok (.aload_n 0, 1) := by decide +kernel
theorem dX11_reachWorker_92 : decode cX11_reachWorker 92 = .ok (.getfield 43, 3) := by decide +kernel
theorem dX11_reachWorker_95 : decode cX11_reachWorker 95 = .ok (.invokevirtual 408, 3) := by decide +kernel
theorem dX11_reachWorker_98 : decode cX11_reachWorker 98 = .ok (.aload 4, 2) := by decide +kernel
theorem dX11_reachWorker_100 : decode cX11_reachWorker 100 = .ok (.getfield 271, 3) := by decide +kernel
theorem dX11_reachWorker_103 : decode cX11_reachWorker 103 = .ok (.invokestatic 492, 3) := by decide +kernel
theorem dX11_reachWorker_106 : decode cX11_reachWorker 106 = .ok (.goto 29, 3) := by decide +kernel
theorem dX11_reachWorker_109 : decode cX11_reachWorker 109 = .ok (.aload_n 1, 1) := by decide +kernel
theorem dX11_reachWorker_110 : decode cX11_reachWorker 110 = .ok (.aload_n 3, 1) := by decide +kernel
theorem dX11_reachWorker_111 : decode cX11_reachWorker 111 = .ok (.invokestatic 496, 3) := by decide +kernel
theorem dX11_reachWorker_114 : decode cX11_reachWorker 114 = .ok (.goto 21, 3) := by decide +kernel
theorem dX11_reachWorker_117 : decode cX11_reachWorker 117 = .ok (.aload_n 1, 1) := by decide +kernel
theorem dX11_reachWorker_118 : decode cX11_reachWorker 118 = .ok (.aload_n 3, 1) := by decide +kernel
theorem dX11_reachWorker_119 : decode cX11_reachWorker 119 = .ok (.invokestatic 500, 3) := by decide +kernel
theorem dX11_reachWorker_122 : decode cX11_reachWorker 122 = .ok (.goto 13, 3) := by decide +kernel
theorem dX11_reachWorker_125 : decode cX11_reachWorker 125 = .ok (.aload_n 0, 1) := by decide +kernel
theorem dX11_reachWorker_126 : decode cX11_reachWorker 126 = .ok (.dup, 1) := by decide +kernel
theorem dX11_reachWorker_127 : decode cX11_reachWorker 127 = .ok (.getfield 61, 3) := by decide +kernel
theorem dX11_reachWorker_130 : decode cX11_reachWorker 130 = .ok (.iconst 1, 1) := by decide +kernel
theorem dX11_reachWorker_131 : decode cX11_reachWorker 131 = .ok (.iadd, 1) := by decide +kernel
theorem dX11_reachWorker_132 : decode cX11_reachWorker 132 = .ok (.putfield 61, 3) := by decide +kernel
theorem dX11_reachWorker_135 : decode cX11_reachWorker 135 = .ok (.iconst 1, 1) := by decide +kernel
theorem dX11_reachWorker_136 : decode cX11_reachWorker 136 = .ok (.ireturn, 1) := by decide +kernel
theorem dX11_hearGrant_0 : decode cX11_hearGrant 0 = .ok (.aload_n 1, 1) := by decide +kernel
theorem dX11_hearGrant_1 : decode cX11_hearGrant 1 = .ok (.getfield 303, 3) := by decide +kernel
theorem dX11_hearGrant_4 : decode cX11_hearGrant 4 = .ok (.aload_n 0, 1) := by decide +kernel
theorem dX11_hearGrant_5 : decode cX11_hearGrant 5 = .ok (.getfield 243, 3) := by decide +kernel
theorem dX11_hearGrant_8 : decode cX11_hearGrant 8 = .ok (.if_icmp .eq 4, 3) := by decide +kernel
theorem dX11_hearGrant_11 : decode cX11_hearGrant 11 = .ok (.return_, 1) := by decide +kernel
theorem dX11_hearGrant_12 : decode cX11_hearGrant 12 = .ok (.aload_n 1, 1) := by decide +kernel
theorem dX11_hearGrant_13 : decode cX11_hearGrant 13 = .ok (.iconst 0, 1) := by decide +kernel
theorem dX11_hearGrant_14 : decode cX11_hearGrant 14 = .ok (.putfield 303, 3) := by decide +kernel
theorem dX11_hearGrant_17 : decode cX11_hearGrant 17 = .ok (.aload_n 0, 1) := by decide +kernel
theorem dX11_hearGrant_18 : decode cX11_hearGrant 18 = .ok (.getfield 240, 3) := by decide +kernel
theorem dX11_hearGrant_21 : decode cX11_hearGrant 21 = .ok (.iload 4, 2) := by decide +kernel
theorem dX11_hearGrant_23 : decode cX11_hearGrant 23 = .ok (.i2l, 1) := by decide +kernel
theorem dX11_hearGrant_24 : decode cX11_hearGrant 24 = .ok (.ladd, 1) := by decide +kernel
theorem dX11_hearGrant_25 : decode cX11_hearGrant 25 = .ok (.lstore 5, 2) := by decide +kernel
theorem dX11_hearGrant_27 : decode cX11_hearGrant 27 = .ok (.lload 5, 2) := by decide +kernel
theorem dX11_hearGrant_29 : decode cX11_hearGrant 29 = .ok (.lload_n 2, 1) := by decide +kernel
theorem dX11_hearGrant_30 : decode cX11_hearGrant 30 = .ok (.lcmp, 1) := by decide +kernel
theorem dX11_hearGrant_31 : decode cX11_hearGrant 31 = .ok (.ifCond .le 10, 3) := by decide +kernel
theorem dX11_hearGrant_34 : decode cX11_hearGrant 34 = .ok (.aload_n 1, 1) := by decide +kernel
theorem dX11_hearGrant_35 : decode cX11_hearGrant 35 = .ok (.aload_n 0, 1) := by decide +kernel
theorem dX11_hearGrant_36 : decode cX11_hearGrant 36 = .ok (.lload 5, 2) := by decide +kernel
theorem dX11_hearGrant_38 : decode cX11_hearGrant 38 = .ok (.invokevirtual 503, 3) := by decide +kernel
theorem dX11_hearGrant_41 : decode cX11_hearGrant 41 = .ok (.return_, 1) := by decide +kernel
theorem dX11_hearRefusal_0 : decode cX11_hearRefusal 0 = .ok (.aload_n 1, 1) := by decide +kernel
theorem dX11_hearRefusal_1 : decode cX11_hearRefusal 1 = .ok (.getfield 303, 3) := by decide +kernel
theorem dX11_hearRefusal_4 : decode cX11_hearRefusal 4 = .ok (.aload_n 0, 1) := by decide +kernel
theorem dX11_hearRefusal_5 : decode cX11_hearRefusal 5 = .ok (.getfield 243, 3) := by decide +kernel
theorem dX11_hearRefusal_8 : decode cX11_hearRefusal 8 = .ok (.if_icmp .ne 8, 3) := by decide +kernel
theorem dX11_hearRefusal_11 : decode cX11_hearRefusal 11 = .ok (.aload_n 1, 1) := by decide +kernel
theorem dX11_hearRefusal_12 : decode cX11_hearRefusal 12 = .ok (.iconst 0, 1) := by decide +kernel
theorem dX11_hearRefusal_13 : decode cX11_hearRefusal 13 = .ok (.putfield 303, 3) := by decide +kernel
theorem dX11_hearRefusal_16 : decode cX11_hearRefusal 16 = .ok (.return_, 1) := by decide +kernel
theorem dX11_hearLate_0 : decode cX11_hearLate 0 = .ok (.aload_n 1, 1) := by decide +kernel
theorem dX11_hearLate_1 : decode cX11_hearLate 1 = .ok (.getfield 196, 3) := by decide +kernel
theorem dX11_hearLate_4 : decode cX11_hearLate 4 = .ok (.aload_n 0, 1) := by decide +kernel
theorem dX11_hearLate_5 : decode cX11_hearLate 5 = .ok (.getfield 235, 3) := by decide +kernel
theorem dX11_hearLate_8 : decode cX11_hearLate 8 = .ok (.lcmp, 1) := by decide +kernel
theorem dX11_hearLate_9 : decode cX11_hearLate 9 = .ok (.ifCond .ne 8, 3) := by decide +kernel
theorem dX11_hearLate_12 : decode cX11_hearLate 12 = .ok (.aload_n 1, 1) := by decide +kernel
theorem dX11_hearLate_13 : decode cX11_hearLate 13 = .ok (.iconst 0, 1) := by decide +kernel
theorem dX11_hearLate_14 : decode cX11_hearLate 14 = .ok (.putfield 135, 3) := by decide +kernel
theorem dX11_hearLate_17 : decode cX11_hearLate 17 = .ok (.return_, 1) := by decide +kernel
theorem dX11_mayUse_0 : decode cX11_mayUse 0 = .ok (.aload_n 0, 1) := by decide +kernel
theorem dX11_mayUse_1 : decode cX11_mayUse 1 = .ok (.iload_n 1, 1) := by decide +kernel
theorem dX11_mayUse_2 : decode cX11_mayUse 2 = .ok (.invokevirtual 127, 3) := by decide +kernel
theorem dX11_mayUse_5 : decode cX11_mayUse 5 = .ok (.astore_n 3, 1) := by decide +kernel
theorem dX11_mayUse_6 : decode cX11_mayUse 6 = .ok (.aload_n 0, 1) := by decide +kernel
theorem dX11_mayUse_7 : decode cX11_mayUse 7 = .ok (.iload_n 1, 1) := by decide +kernel
theorem dX11_mayUse_8 : decode cX11_mayUse 8 = .ok (.iload_n 2, 1) := by decide +kernel
theorem dX11_mayUse_9 : decode cX11_mayUse 9 = .ok (.invokevirtual 186, 3) := by decide +kernel
theorem dX11_mayUse_12 : decode cX11_mayUse 12 = .ok (.astore 4, 2) := by decide +kernel
theorem dX11_mayUse_14 : decode cX11_mayUse 14 = .ok (.aload_n 3, 1) := by decide +kernel
theorem dX11_mayUse_15 : decode cX11_mayUse 15 = .ok (.ifnull 44, 3) := by decide +kernel
theorem dX11_mayUse_18 : decode cX11_mayUse 18 = .ok (.aload 4, 2) := by decide +kernel
theorem dX11_mayUse_20 : decode cX11_mayUse 20 = .ok (.ifnull 39, 3) := by decide +kernel
theorem dX11_mayUse_23 : decode cX11_mayUse 23 = .ok (.aload_n 3, 1) := by decide +kernel
theorem dX11_mayUse_24 : decode cX11_mayUse 24 = .ok (.getfield 143, 3) := by decide +kernel
theorem dX11_mayUse_27 : decode cX11_mayUse 27 = .ok (.ifCond .eq 32, 3) := by decide +kernel
theorem dX11_mayUse_30 : decode cX11_mayUse 30 = .ok (.aload 4, 2) := by decide +kernel
theorem dX11_mayUse_32 : decode cX11_mayUse 32 = .ok (.getfield 135, 3) := by decide +kernel
theorem dX11_mayUse_35 : decode cX11_mayUse 35 = .ok (.ifCond .eq 24, 3) := by decide +kernel
theorem dX11_mayUse_38 : decode cX11_mayUse 38 = .ok (.aload_n 3, 1) := by decide +kernel
theorem dX11_mayUse_39 : decode cX11_mayUse 39 = .ok (.aload_n 0, 1) := by decide +kernel
theorem dX11_mayUse_40 : decode cX11_mayUse 40 = .ok (.getfield 43, 3) := by decide +kernel
theorem dX11_mayUse_43 : decode cX11_mayUse 43 = .ok (.invokevirtual 408, 3) := by decide +kernel
theorem dX11_mayUse_46 : decode cX11_mayUse 46 = .ok (.aload 4, 2) := by decide +kernel
theorem dX11_mayUse_48 : decode cX11_mayUse 48 = .ok (.getfield 306, 3) := by decide +kernel
theorem dX11_mayUse_51 : decode cX11_mayUse 51 = .ok (.lcmp, 1) := by decide +kernel
theorem dX11_mayUse_52 : decode cX11_mayUse 52 = .ok (.ifCond .ge 7, 3) := by decide +kernel
theorem dX11_mayUse_55 : decode cX11_mayUse 55 = .ok (.iconst 1, 1) := by decide +kernel
theorem dX11_mayUse_56 : decode cX11_mayUse 56 = .ok (.goto 4, 3) := by decide +kernel
theorem dX11_mayUse_59 : decode cX11_mayUse 59 = .ok (.iconst 0, 1) := by decide +kernel
theorem dX11_mayUse_60 : decode cX11_mayUse 60 = .ok (.ireturn, 1) := by decide +kernel
theorem dX11_usersOf_0 : decode cX11_usersOf 0 = .ok (.iconst 0, 1) := by decide +kernel
theorem dX11_usersOf_1 : decode cX11_usersOf 1 = .ok (.istore_n 2, 1) := by decide +kernel
theorem dX11_usersOf_2 : decode cX11_usersOf 2 = .ok (.iconst 0, 1) := by decide +kernel
theorem dX11_usersOf_3 : decode cX11_usersOf 3 = .ok (.istore_n 3, 1) := by decide +kernel
theorem dX11_usersOf_4 : decode cX11_usersOf 4 = .ok (.iload_n 3, 1) := by decide +kernel
theorem dX11_usersOf_5 : decode cX11_usersOf 5 = .ok (.aload_n 0, 1) := by decide +kernel
theorem dX11_usersOf_6 : decode cX11_usersOf 6 = .ok (.getfield 16, 3) := by decide +kernel
theorem dX11_usersOf_9 : decode cX11_usersOf 9 = .ok (.invokevirtual 87, 3) := by decide +kernel
theorem dX11_usersOf_12 : decode cX11_usersOf 12 = .ok (.if_icmp .ge 26, 3) := by decide +kernel
theorem dX11_usersOf_15 : decode cX11_usersOf 15 = .ok (.iload_n 2, 1) := by decide +kernel
theorem dX11_usersOf_16 : decode cX11_usersOf 16 = .ok (.aload_n 0, 1) := by decide +kernel
theorem dX11_usersOf_17 : decode cX11_usersOf 17 = .ok (.iload_n 3, 1) := by decide +kernel
theorem dX11_usersOf_18 : decode cX11_usersOf 18 = .ok (.iload_n 1, 1) := by decide +kernel
theorem dX11_usersOf_19 : decode cX11_usersOf 19 = .ok (.invokevirtual 300, 3) := by decide +kernel
theorem dX11_usersOf_22 : decode cX11_usersOf 22 = .ok (.ifCond .eq 7, 3) := by decide +kernel
theorem dX11_usersOf_25 : decode cX11_usersOf 25 = .ok (.iconst 1, 1) := by decide +kernel
theorem dX11_usersOf_26 : decode cX11_usersOf 26 = .ok (.goto 4, 3) := by decide +kernel
theorem dX11_usersOf_29 : decode cX11_usersOf 29 = .ok (.iconst 0, 1) := by decide +kernel
theorem dX11_usersOf_30 : decode cX11_usersOf 30 = .ok (.iadd, 1) := by decide +kernel
theorem dX11_usersOf_31 : decode cX11_usersOf 31 = .ok (.istore_n 2, 1) := by decide +kernel
theorem dX11_usersOf_32 : decode cX11_usersOf 32 = .ok (.iinc 3 1, 3) := by decide +kernel
theorem dX11_usersOf_35 : decode cX11_usersOf 35 = .ok (.goto (-31), 3) := by decide +kernel
theorem dX11_usersOf_38 : decode cX11_usersOf 38 = .ok (.iload_n 2, 1) := by decide +kernel
theorem dX11_usersOf_39 : decode cX11_usersOf 39 = .ok (.ireturn, 1) := by decide +kernel
theorem dX11_thingsInClash_0 : decode cX11_thingsInClash 0 = .ok (.iconst 0, 1) := by decide +kernel
theorem dX11_thingsInClash_1 : decode cX11_thingsInClash 1 = .ok (.istore_n 1, 1) := by decide +kernel
theorem dX11_thingsInClash_2 : decode cX11_thingsInClash 2 = .ok (.iconst 0, 1) := by decide +kernel
theorem dX11_thingsInClash_3 : decode cX11_thingsInClash 3 = .ok (.istore_n 2, 1) := by decide +kernel
theorem dX11_thingsInClash_4 : decode cX11_thingsInClash 4 = .ok (.iload_n 2, 1) := by decide +kernel
theorem dX11_thingsInClash_5 : decode cX11_thingsInClash 5 = .ok (.aload_n 0, 1) := by decide +kernel
theorem dX11_thingsInClash_6 : decode cX11_thingsInClash 6 = .ok (.getfield 19, 3) := by decide +kernel
theorem dX11_thingsInClash_9 : decode cX11_thingsInClash 9 = .ok (.invokevirtual 87, 3) := by decide +kernel
theorem dX11_thingsInClash_12 : decode cX11_thingsInClash 12 = .ok (.if_icmp .ge 36, 3) := by decide +kernel
theorem dX11_thingsInClash_15 : decode cX11_thingsInClash 15 = .ok (.iload_n 1, 1) := by decide +kernel
theorem dX11_thingsInClash_16 : decode cX11_thingsInClash 16 = .ok (.aload_n 0, 1) := by decide +kernel
theorem dX11_thingsInClash_17 : decode cX11_thingsInClash 17 = .ok (.aload_n 0, 1) := by decide +kernel
theorem dX11_thingsInClash_18 : decode cX11_thingsInClash 18 = .ok (.getfield 19, 3) := by decide +kernel
theorem dX11_thingsInClash_21 : decode cX11_thingsInClash 21 = .ok (.iload_n 2, 1) := by decide +kernel
theorem dX11_thingsInClash_22 : decode cX11_thingsInClash 22 = .ok (.invokevirtual 383, 3) := by decide +kernel
theorem dX11_thingsInClash_25 : decode cX11_thingsInClash 25 = .ok (.checkcast 161, 3) := by decide +kernel
theorem dX11_thingsInClash_28 : decode cX11_thingsInClash 28 = .ok (.iload_n 2, 1) := by decide +kernel
theorem dX11_thingsInClash_29 : decode cX11_thingsInClash 29 = .ok (.invokevirtual 507, 3) := by decide +kernel
theorem dX11_thingsInClash_32 : decode cX11_thingsInClash 32 = .ok (.ifCond .eq 7, 3) := by decide +kernel
theorem dX11_thingsInClash_35 : decode cX11_thingsInClash 35 = .ok (.iconst 1, 1) := by decide +kernel
theorem dX11_thingsInClash_36 : decode cX11_thingsInClash 36 = .ok (.goto 4, 3) := by decide +kernel
theorem dX11_thingsInClash_39 : decode cX11_thingsInClash 39 = .ok (.iconst 0, 1) := by decide +kernel
theorem dX11_thingsInClash_40 : decode cX11_thingsInClash 40 = .ok (.iadd, 1) := by decide +kernel
theorem dX11_thingsInClash_41 : decode cX11_thingsInClash 41 = .ok (.istore_n 1, 1) := by decide +kernel
theorem dX11_thingsInClash_42 : decode cX11_thingsInClash 42 = .ok (.iinc 2 1, 3) := by decide +kernel
theorem dX11_thingsInClash_45 : decode cX11_thingsInClash 45 = .ok (.goto (-41), 3) := by decide +kernel
theorem dX11_thingsInClash_48 : decode cX11_thingsInClash 48 = .ok (.iload_n 1, 1) := by decide +kernel
theorem dX11_thingsInClash_49 : decode cX11_thingsInClash 49 = .ok (.ireturn, 1) := by decide +kernel
theorem dX11_isInClash_0 : decode cX11_isInClash 0 = .ok (.iconst 0, 1) := by decide +kernel
theorem dX11_isInClash_1 : decode cX11_isInClash 1 = .ok (.istore_n 3, 1) := by decide +kernel
theorem dX11_isInClash_2 : decode cX11_isInClash 2 = .ok (.iconst 0, 1) := by decide +kernel
theorem dX11_isInClash_3 : decode cX11_isInClash 3 = .ok (.istore 4, 2) := by decide +kernel
theorem dX11_isInClash_5 : decode cX11_isInClash 5 = .ok (.iconst 0, 1) := by decide +kernel
theorem dX11_isInClash_6 : decode cX11_isInClash 6 = .ok (.istore 5, 2) := by decide +kernel
theorem dX11_isInClash_8 : decode cX11_isInClash 8 = .ok (.iconst 0, 1) := by decide +kernel
theorem dX11_isInClash_9 : decode cX11_isInClash 9 = .ok (.istore 6, 2) := by decide +kernel
theorem dX11_isInClash_11 : decode cX11_isInClash 11 = .ok (.iload 6, 2) := by decide +kernel
theorem dX11_isInClash_13 : decode cX11_isInClash 13 = .ok (.aload_n 0, 1) := by decide +kernel
theorem dX11_isInClash_14 : decode cX11_isInClash 14 = .ok (.getfield 16, 3) := by decide +kernel
theorem dX11_isInClash_17 : decode cX11_isInClash 17 = .ok (.invokevirtual 87, 3) := by decide +kernel
theorem dX11_isInClash_20 : decode cX11_isInClash 20 = .ok (.if_icmp .ge 64, 3) := by decide +kernel
theorem dX11_isInClash_23 : decode cX11_isInClash 23 = .ok (.aload_n 0, 1) := by decide +kernel
theorem dX11_isInClash_24 : decode cX11_isInClash 24 = .ok (.iload 6, 2) := by decide +kernel
theorem dX11_isInClash_26 : decode cX11_isInClash 26 = .ok (.iload_n 2, 1) := by decide +kernel
theorem dX11_isInClash_27 : decode cX11_isInClash 27 = .ok (.invokevirtual 186, 3) := by decide +kernel
theorem dX11_isInClash_30 : decode cX11_isInClash 30 = .ok (.astore 7, 2) := by decide +kernel
theorem dX11_isInClash_32 : decode cX11_isInClash 32 = .ok (.aload 7, 2) := by decide +kernel
theorem dX11_isInClash_34 : decode cX11_isInClash 34 = .ok (.ifnull 44, 3) := by decide +kernel
theorem dX11_isInClash_37 : decode cX11_isInClash 37 = .ok (.aload_n 0, 1) := by decide +kernel
theorem dX11_isInClash_38 : decode cX11_isInClash 38 = .ok (.iload 6, 2) := by decide +kernel
theorem dX11_isInClash_40 : decode cX11_isInClash 40 = .ok (.iload_n 2, 1) := by decide +kernel
theorem dX11_isInClash_41 : decode cX11_isInClash 41 = .ok (.invokevirtual 300, 3) := by decide +kernel
theorem dX11_isInClash_44 : decode cX11_isInClash 44 = .ok (.ifCond .eq 34, 3) := by decide +kernel
theorem dX11_isInClash_47 : decode cX11_isInClash 47 = .ok (.iinc 3 1, 3) := by decide +kernel
theorem dX11_isInClash_50 : decode cX11_isInClash 50 = .ok (.iload 4, 2) := by decide +kernel
theorem dX11_isInClash_52 : decode cX11_isInClash 52 = .ok (.aload 7, 2) := by decide +kernel
theorem dX11_isInClash_54 : decode cX11_isInClash 54 = .ok (.getfield 190, 3) := by decide +kernel
theorem dX11_isInClash_57 : decode cX11_isInClash 57 = .ok (.ifCond .ne 7, 3) := by decide +kernel
theorem dX11_isInClash_60 : decode cX11_isInClash 60 = .ok (.iconst 1, 1) := by decide +kernel
theorem dX11_isInClash_61 : decode cX11_isInClash 61 = .ok (.goto 4, 3) := by decide +kernel
theorem dX11_isInClash_64 : decode cX11_isInClash 64 = .ok (.iconst 0, 1) := by decide +kernel
theorem dX11_isInClash_65 : decode cX11_isInClash 65 = .ok (.iadd, 1) := by decide +kernel
theorem dX11_isInClash_66 : decode cX11_isInClash 66 = .ok (.istore 4, 2) := by decide +kernel
theorem dX11_isInClash_68 : decode cX11_isInClash 68 = .ok (.iload 5, 2) := by decide +kernel
theorem dX11_isInClash_70 : decode cX11_isInClash 70 = .ok (.aload 7, 2) := by decide +kernel
theorem dX11_isInClash_72 : decode cX11_isInClash 72 = .ok (.getfield 193, 3) := by decide +kernel
theorem dX11_isInClash_75 : decode cX11_isInClash 75 = .ok (.iadd, 1) := by decide +kernel
theorem dX11_isInClash_76 : decode cX11_isInClash 76 = .ok (.istore 5, 2) := by decide +kernel
theorem dX11_isInClash_78 : decode cX11_isInClash 78 = .ok (.iinc 6 1, 3) := by decide +kernel
theorem dX11_isInClash_81 : decode cX11_isInClash 81 = .ok (.goto (-70), 3) := by decide +kernel
theorem dX11_isInClash_84 : decode cX11_isInClash 84 = .ok (.aload_n 1, 1) := by decide +kernel
theorem dX11_isInClash_85 : decode cX11_isInClash 85 = .ok (.instanceof 277, 3) := by decide +kernel
theorem dX11_isInClash_88 : decode cX11_isInClash 88 = .ok (.ifCond .eq 27, 3) := by decide +kernel
theorem dX11_isInClash_91 : decode cX11_isInClash 91 = .ok (.aload_n 1, 1) := by decide +kernel
theorem dX11_isInClash_92 : decode cX11_isInClash 92 = .ok (.checkcast 277, 3) := by decide +kernel
theorem dX11_isInClash_95 : decode cX11_isInClash 95 = .ok (.astore 6, 2) := by decide +kernel
theorem dX11_isInClash_97 : decode cX11_isInClash 97 = .ok (.iload 5, 2) := by decide +kernel
theorem dX11_isInClash_99 : decode cX11_isInClash 99 = .ok (.aload 6, 2) := by decide +kernel
theorem dX11_isInClash_101 : decode cX11_isInClash 101 = .ok (.getfield 279, 3) := by decide +kernel
theorem dX11_isInClash_104 : decode cX11_isInClash 104 = .ok (.if_icmp .le 7, 3) := by decide +kernel
theorem dX11_isInClash_107 : decode cX11_isInClash 107 = .ok (.iconst 1, 1) := by decide +kernel
theorem dX11_isInClash_108 : decode cX11_isInClash 108 = .ok (.goto 22, 3) := by decide +kernel
theorem dX11_isInClash_111 : decode cX11_isInClash 111 = .ok (.iconst 0, 1) := by decide +kernel
theorem dX11_isInClash_112 : decode cX11_isInClash 112 = .ok (.goto 18, 3) := by decide +kernel
theorem dX11_isInClash_115 : decode cX11_isInClash 115 = .ok (.iload 4, 2) := by decide +kernel
theorem dX11_isInClash_117 : decode cX11_isInClash 117 = .ok (.ifCond .le 12, 3) := by decide +kernel
theorem dX11_isInClash_120 : decode cX11_isInClash 120 = .ok (.iload_n 3, 1) := by decide +kernel
theorem dX11_isInClash_121 : decode cX11_isInClash 121 = .ok (.iconst 1, 1) := by decide +kernel
theorem dX11_isInClash_122 : decode cX11_isInClash 122 = .ok (.if_icmp .le 7, 3) := by decide +kernel
theorem dX11_isInClash_125 : decode cX11_isInClash 125 = .ok (.iconst 1, 1) := by decide +kernel
theorem dX11_isInClash_126 : decode cX11_isInClash 126 = .ok (.goto 4, 3) := by decide +kernel
theorem dX11_isInClash_129 : decode cX11_isInClash 129 = .ok (.iconst 0, 1) := by decide +kernel
theorem dX11_isInClash_130 : decode cX11_isInClash 130 = .ok (.ireturn, 1) := by decide +kernel
theorem dX11_lettersUnderWay_0 : decode cX11_lettersUnderWay 0 = .ok (.iconst 0, 1) := by decide +kernel
theorem dX11_lettersUnderWay_1 : decode cX11_lettersUnderWay 1 = .ok (.istore_n 1, 1) := by decide +kernel
theorem dX11_lettersUnderWay_2 : decode cX11_lettersUnderWay 2 = .ok (.iconst 0, 1) := by decide +kernel
theorem dX11_lettersUnderWay_3 : decode cX11_lettersUnderWay 3 = .ok (.istore_n 2, 1) := by decide +kernel
theorem dX11_lettersUnderWay_4 : decode cX11_lettersUnderWay 4 = .ok (.iload_n 2, 1) := by decide +kernel
theorem dX11_lettersUnderWay_5 : decode cX11_lettersUnderWay 5 = .ok (.aload_n 0, 1) := by decide +kernel
theorem dX11_lettersUnderWay_6 : decode cX11_lettersUnderWay 6 = .ok (.getfield 22, 3) := by decide +kernel
theorem dX11_lettersUnderWay_9 : decode cX11_lettersUnderWay 9 = .ok (.invokevirtual 87, 3) := by decide +kernel
theorem dX11_lettersUnderWay_12 : decode cX11_lettersUnderWay 12 = .ok (.if_icmp .ge 34, 3) := by decide +kernel
theorem dX11_lettersUnderWay_15 : decode cX11_lettersUnderWay 15 = .ok (.iload_n 1, 1) := by decide +kernel
theorem dX11_lettersUnderWay_16 : decode cX11_lettersUnderWay 16 = .ok (.aload_n 0, 1) := by decide +kernel
theorem dX11_lettersUnderWay_17 : decode cX11_lettersUnderWay 17 = .ok (.getfield 22, 3) := by decide +kernel
theorem dX11_lettersUnderWay_20 : decode cX11_lettersUnderWay 20 = .ok (.iload_n 2, 1) := by decide +kernel
theorem dX11_lettersUnderWay_21 : decode cX11_lettersUnderWay 21 = .ok (.invokevirtual 383, 3) := by decide +kernel
theorem dX11_lettersUnderWay_24 : decode cX11_lettersUnderWay 24 = .ok (.checkcast 169, 3) := by decide +kernel
theorem dX11_lettersUnderWay_27 : decode cX11_lettersUnderWay 27 = .ok (.getfield 209, 3) := by decide +kernel
theorem dX11_lettersUnderWay_30 : decode cX11_lettersUnderWay 30 = .ok (.ifCond .ne 7, 3) := by decide +kernel
theorem dX11_lettersUnderWay_33 : decode cX11_lettersUnderWay 33 = .ok (.iconst 1, 1) := by decide +kernel
theorem dX11_lettersUnderWay_34 : decode cX11_lettersUnderWay 34 = .ok (.goto 4, 3) := by decide +kernel
theorem dX11_lettersUnderWay_37 : decode cX11_lettersUnderWay 37 = .ok (.iconst 0, 1) := by decide +kernel
theorem dX11_lettersUnderWay_38 : decode cX11_lettersUnderWay 38 = .ok (.iadd, 1) := by decide +kernel
theorem dX11_lettersUnderWay_39 : decode cX11_lettersUnderWay 39 = .ok (.istore_n 1, 1) := by decide +kernel
theorem dX11_lettersUnderWay_40 : decode cX11_lettersUnderWay 40 = .ok (.iinc 2 1, 3) := by decide +kernel
theorem dX11_lettersUnderWay_43 : decode cX11_lettersUnderWay 43 = .ok (.goto (-39), 3) := by decide +kernel
theorem dX11_lettersUnderWay_46 : decode cX11_lettersUnderWay 46 = .ok (.iload_n 1, 1) := by decide +kernel
theorem dX11_lettersUnderWay_47 : decode cX11_lettersUnderWay 47 = .ok (.ireturn, 1) := by decide +kernel
theorem dX11_refuse_0 : decode cX11_refuse 0 = .ok (.aload_n 0, 1) := by decide +kernel
theorem dX11_refuse_1 : decode cX11_refuse 1 = .ok (.iload_n 1, 1) := by decide +kernel
theorem dX11_refuse_2 : decode cX11_refuse 2 = .ok (.putfield 67, 3) := by decide +kernel
theorem dX11_refuse_5 : decode cX11_refuse 5 = .ok (.iconst (-1), 1) := by decide +kernel
theorem dX11_refuse_6 : decode cX11_refuse 6 = .ok (.ireturn, 1) := by decide +kernel
theorem dX11_canBePut_0 : decode cX11_canBePut 0 = .ok (.iload_n 1, 1) := by decide +kernel
theorem dX11_canBePut_1 : decode cX11_canBePut 1 = .ok (.tableswitch 65 0 4 #[35, 51, 37, 51, 51], 35) := by decide +kernel
theorem dX11_canBePut_36 : decode cX11_canBePut 36 = .ok (.iconst 1, 1) := by decide +kernel
theorem dX11_canBePut_37 : decode cX11_canBePut 37 = .ok (.ireturn, 1) := by decide +kernel
theorem dX11_canBePut_38 : decode cX11_canBePut 38 = .ok (.aload_n 0, 1) := by decide +kernel
theorem dX11_canBePut_39 : decode cX11_canBePut 39 = .ok (.iload_n 2, 1) := by decide +kernel
theorem dX11_canBePut_40 : decode cX11_canBePut 40 = .ok (.invokevirtual 205, 3) := by decide +kernel
theorem dX11_canBePut_43 : decode cX11_canBePut 43 = .ok (.ifnull 7, 3) := by decide +kernel
theorem dX11_canBePut_46 : decode cX11_canBePut 46 = .ok (.iconst 1, 1) := by decide +kernel
theorem dX11_canBePut_47 : decode cX11_canBePut 47 = .ok (.goto 4, 3) := by decide +kernel
theorem dX11_canBePut_50 : decode cX11_canBePut 50 = .ok (.iconst 0, 1) := by decide +kernel
theorem dX11_canBePut_51 : decode cX11_canBePut 51 = .ok (.ireturn, 1) := by decide +kernel
theorem dX11_canBePut_52 : decode cX11_canBePut 52 = .ok (.aload_n 0, 1) := by decide +kernel
theorem dX11_canBePut_53 : decode cX11_canBePut 53 = .ok (.iload_n 2, 1) := by decide +kernel
theorem dX11_canBePut_54 : decode cX11_canBePut 54 = .ok (.invokevirtual 156, 3) := by decide +kernel
theorem dX11_canBePut_57 : decode cX11_canBePut 57 = .ok (.ifnull 7, 3) := by decide +kernel
theorem dX11_canBePut_60 : decode cX11_canBePut 60 = .ok (.iconst 1, 1) := by decide +kernel
theorem dX11_canBePut_61 : decode cX11_canBePut 61 = .ok (.goto 4, 3) := by decide +kernel
theorem dX11_canBePut_64 : decode cX11_canBePut 64 = .ok (.iconst 0, 1) := by decide +kernel
theorem dX11_canBePut_65 : decode cX11_canBePut 65 = .ok (.ireturn, 1) := by decide +kernel
theorem dX11_canBePut_66 : decode cX11_canBePut 66 = .ok (.iconst 0, 1) := by decide +kernel
theorem dX11_canBePut_67 : decode cX11_canBePut 67 = .ok (.ireturn, 1) := by decide +kernel
theorem dX11_numbersOf_0 : decode cX11_numbersOf 0 = .ok (.aload_n 0, 1) := by decide +kernel
theorem dX11_numbersOf_1 : decode cX11_numbersOf 1 = .ok (.iload_n 1, 1) := by decide +kernel
theorem dX11_numbersOf_2 : decode cX11_numbersOf 2 = .ok (.invokevirtual 156, 3) := by decide +kernel
theorem dX11_numbersOf_5 : decode cX11_numbersOf 5 = .ok (.astore_n 2, 1) := by decide +kernel
theorem dX11_numbersOf_6 : decode cX11_numbersOf 6 = .ok (.aload_n 2, 1) := by decide +kernel
theorem dX11_numbersOf_7 : decode cX11_numbersOf 7 = .ok (.ifnonnull 5, 3) := by decide +kernel
theorem dX11_numbersOf_10 : decode cX11_numbersOf 10 = .ok (.aconst_null, 1) := by decide +kernel
theorem dX11_numbersOf_11 : decode cX11_numbersOf 11 = .ok (.areturn, 1) := by decide +kernel
theorem dX11_numbersOf_12 : decode cX11_numbersOf 12 = .ok (.aload_n 2, 1) := by decide +kernel
theorem dX11_numbersOf_13 : decode cX11_numbersOf 13 = .ok (.getfield 254, 3) := by decide +kernel
theorem dX11_numbersOf_16 : decode cX11_numbersOf 16 = .ok (.invokevirtual 87, 3) := by decide +kernel
theorem dX11_numbersOf_19 : decode cX11_numbersOf 19 = .ok (.newarray .long, 2) := by decide +kernel
theorem dX11_numbersOf_21 : decode cX11_numbersOf 21 = .ok (.astore_n 3, 1) := by decide +kernel
theorem dX11_numbersOf_22 : decode cX11_numbersOf 22 = .ok (.iconst 0, 1) := by decide +kernel
theorem dX11_numbersOf_23 : decode cX11_numbersOf 23 = .ok (.istore 4, 2) := by decide +kernel
theorem dX11_numbersOf_25 : decode cX11_numbersOf 25 = .ok (.iload 4, 2) := by decide +kernel
theorem dX11_numbersOf_27 : decode cX11_numbersOf 27 = .ok (.aload_n 3, 1) := by decide +kernel
theorem dX11_numbersOf_28 : decode cX11_numbersOf 28 = .ok (.arraylength, 1) := by decide +kernel
theorem dX11_numbersOf_29 : decode cX11_numbersOf 29 = .ok (.if_icmp .ge 40, 3) := by decide +kernel
theorem dX11_numbersOf_32 : decode cX11_numbersOf 32 = .ok (.iload 4, 2) := by decide +kernel
theorem dX11_numbersOf_34 : decode cX11_numbersOf 34 = .ok (.aload_n 2, 1) := by decide +kernel
theorem dX11_numbersOf_35 : decode cX11_numbersOf 35 = .ok (.getfield 254, 3) := by decide +kernel
theorem dX11_numbersOf_38 : decode cX11_numbersOf 38 = .ok (.invokevirtual 87, 3) := by decide +kernel
theorem dX11_numbersOf_41 : decode cX11_numbersOf 41 = .ok (.if_icmp .ge 28, 3) := by decide +kernel
theorem dX11_numbersOf_44 : decode cX11_numbersOf 44 = .ok (.aload_n 3, 1) := by decide +kernel
theorem dX11_numbersOf_45 : decode cX11_numbersOf 45 = .ok (.iload 4, 2) := by decide +kernel
theorem dX11_numbersOf_47 : decode cX11_numbersOf 47 = .ok (.aload_n 2, 1) := by decide +kernel
theorem dX11_numbersOf_48 : decode cX11_numbersOf 48 = .ok (.getfield 254, 3) := by decide +kernel
theorem dX11_numbersOf_51 : decode cX11_numbersOf 51 = .ok (.iload 4, 2) := by decide +kernel
theorem dX11_numbersOf_53 : decode cX11_numbersOf 53 = .ok (.invokevirtual 383, 3) := by decide +kernel
theorem dX11_numbersOf_56 : decode cX11_numbersOf 56 = .ok (.checkcast 262, 3) := by decide +kernel
theorem dX11_numbersOf_59 : decode cX11_numbersOf 59 = .ok (.getfield 266, 3) := by decide +kernel
theorem dX11_numbersOf_62 : decode cX11_numbersOf 62 = .ok (.lastore, 1) := by decide +kernel
theorem dX11_numbersOf_63 : decode cX11_numbersOf 63 = .ok (.iinc 4 1, 3) := by decide +kernel
theorem dX11_numbersOf_66 : decode cX11_numbersOf 66 = .ok (.goto (-41), 3) := by decide +kernel
theorem dX11_numbersOf_69 : decode cX11_numbersOf 69 = .ok (.aload_n 3, 1) := by decide +kernel
theorem dX11_numbersOf_70 : decode cX11_numbersOf 70 = .ok (.areturn, 1) := by decide +kernel
theorem dX11_truthsOf_0 : decode cX11_truthsOf 0 = .ok (.aload_n 0, 1) := by decide +kernel
theorem dX11_truthsOf_1 : decode cX11_truthsOf 1 = .ok (.getfield 16, 3) := by decide +kernel
theorem dX11_truthsOf_4 : decode cX11_truthsOf 4 = .ok (.invokevirtual 87, 3) := by decide +kernel
theorem dX11_truthsOf_7 : decode cX11_truthsOf 7 = .ok (.newarray .boolean, 2) := by decide +kernel
theorem dX11_truthsOf_9 : decode cX11_truthsOf 9 = .ok (.astore_n 2, 1) := by decide +kernel
theorem dX11_truthsOf_10 : decode cX11_truthsOf 10 = .ok (.iconst 0, 1) := by decide +kernel
theorem dX11_truthsOf_11 : decode cX11_truthsOf 11 = .ok (.istore_n 3, 1) := by decide +kernel
theorem dX11_truthsOf_12 : decode cX11_truthsOf 12 = .ok (.iload_n 3, 1) := by decide +kernel
theorem dX11_truthsOf_13 : decode cX11_truthsOf 13 = .ok (.aload_n 2, 1) := by decide +kernel
theorem dX11_truthsOf_14 : decode cX11_truthsOf 14 = .ok (.arraylength, 1) := by decide +kernel
theorem dX11_truthsOf_15 : decode cX11_truthsOf 15 = .ok (.if_icmp .ge 18, 3) := by decide +kernel
theorem dX11_truthsOf_18 : decode cX11_truthsOf 18 = .ok (.aload_n 2, 1) := by decide +kernel
theorem dX11_truthsOf_19 : decode cX11_truthsOf 19 = .ok (.iload_n 3, 1) := by decide +kernel
theorem dX11_truthsOf_20 : decode cX11_truthsOf 20 = .ok (.aload_n 0, 1) := by decide +kernel
theorem dX11_truthsOf_21 : decode cX11_truthsOf 21 = .ok (.iload_n 3, 1) := by decide +kernel
theorem dX11_truthsOf_22 : decode cX11_truthsOf 22 = .ok (.iload_n 1, 1) := by decide +kernel
theorem dX11_truthsOf_23 : decode cX11_truthsOf 23 = .ok (.invokevirtual 300, 3) := by decide +kernel
theorem dX11_truthsOf_26 : decode cX11_truthsOf 26 = .ok (.bastore, 1) := by decide +kernel
theorem dX11_truthsOf_27 : decode cX11_truthsOf 27 = .ok (.iinc 3 1, 3) := by decide +kernel
theorem dX11_truthsOf_30 : decode cX11_truthsOf 30 = .ok (.goto (-18), 3) := by decide +kernel
theorem dX11_truthsOf_33 : decode cX11_truthsOf 33 = .ok (.aload_n 2, 1) := by decide +kernel
theorem dX11_truthsOf_34 : decode cX11_truthsOf 34 = .ok (.areturn, 1) := by decide +kernel
theorem dX11_isOfKind_0 : decode cX11_isOfKind 0 = .ok (.iload_n 1, 1) := by decide +kernel
theorem dX11_isOfKind_1 : decode cX11_isOfKind 1 = .ok (.tableswitch 51 1 4 #[31, 36, 41, 46], 31) := by decide +kernel
theorem dX11_isOfKind_32 : decode cX11_isOfKind 32 = .ok (.aload_n 0, 1) := by decide +kernel
theorem dX11_isOfKind_33 : decode cX11_isOfKind 33 = .ok (.instanceof 390, 3) := by decide +kernel
theorem dX11_isOfKind_36 : decode cX11_isOfKind 36 = .ok (.ireturn, 1) := by decide +kernel
theorem dX11_isOfKind_37 : decode cX11_isOfKind 37 = .ok (.aload_n 0, 1) := by decide +kernel
theorem dX11_isOfKind_38 : decode cX11_isOfKind 38 = .ok (.instanceof 277, 3) := by decide +kernel
theorem dX11_isOfKind_41 : decode cX11_isOfKind 41 = .ok (.ireturn, 1) := by decide +kernel
theorem dX11_isOfKind_42 : decode cX11_isOfKind 42 = .ok (.aload_n 0, 1) := by decide +kernel
theorem dX11_isOfKind_43 : decode cX11_isOfKind 43 = .ok (.instanceof 203, 3) := by decide +kernel
theorem dX11_isOfKind_46 : decode cX11_isOfKind 46 = .ok (.ireturn, 1) := by decide +kernel
theorem dX11_isOfKind_47 : decode cX11_isOfKind 47 = .ok (.aload_n 0, 1) := by decide +kernel
theorem dX11_isOfKind_48 : decode cX11_isOfKind 48 = .ok (.instanceof 285, 3) := by decide +kernel
theorem dX11_isOfKind_51 : decode cX11_isOfKind 51 = .ok (.ireturn, 1) := by decide +kernel
theorem dX11_isOfKind_52 : decode cX11_isOfKind 52 = .ok (.aload_n 0, 1) := by decide +kernel
theorem dX11_isOfKind_53 : decode cX11_isOfKind 53 = .ok (.ifnull 7, 3) := by decide +kernel
theorem dX11_isOfKind_56 : decode cX11_isOfKind 56 = .ok (.iconst 1, 1) := by decide +kernel
theorem dX11_isOfKind_57 : decode cX11_isOfKind 57 = .ok (.goto 4, 3) := by decide +kernel
theorem dX11_isOfKind_60 : decode cX11_isOfKind 60 = .ok (.iconst 0, 1) := by decide +kernel
theorem dX11_isOfKind_61 : decode cX11_isOfKind 61 = .ok (.ireturn, 1) := by decide +kernel
theorem dX11_refuseSort_0 : decode cX11_refuseSort 0 = .ok (.aload_n 0, 1) := by decide +kernel
theorem dX11_refuseSort_1 : decode cX11_refuseSort 1 = .ok (.aload_n 1, 1) := by decide +kernel
theorem dX11_refuseSort_2 : decode cX11_refuseSort 2 = .ok (.invokevirtual 511, 3) := by decide +kernel
theorem dX11_refuseSort_5 : decode cX11_refuseSort 5 = .ok (.ifCond .eq 8, 3) := by decide +kernel
theorem dX11_refuseSort_8 : decode cX11_refuseSort 8 = .ok (.bipush 10, 2) := by decide +kernel
theorem dX11_refuseSort_10 : decode cX11_refuseSort 10 = .ok (.goto 5, 3) := by decide +kernel
theorem dX11_refuseSort_13 : decode cX11_refuseSort 13 = .ok (.bipush 11, 2) := by decide +kernel
theorem dX11_refuseSort_15 : decode cX11_refuseSort 15 = .ok (.invokevirtual 328, 3) := by decide +kernel
theorem dX11_refuseSort_18 : decode cX11_refuseSort 18 = .ok (.ireturn, 1) := by decide +kernel
theorem dX11_lengthAsKind_0 : decode cX11_lengthAsKind 0 = .ok (.aload_n 1, 1) := by decide +kernel
theorem dX11_lengthAsKind_1 : decode cX11_lengthAsKind 1 = .ok (.getfield 334, 3) := by decide +kernel
theorem dX11_lengthAsKind_4 : decode cX11_lengthAsKind 4 = .ok (.astore_n 3, 1) := by decide +kernel
theorem dX11_lengthAsKind_5 : decode cX11_lengthAsKind 5 = .ok (.aload_n 3, 1) := by decide +kernel
theorem dX11_lengthAsKind_6 : decode cX11_lengthAsKind 6 = .ok (.ifnull 11, 3) := by decide +kernel
theorem dX11_lengthAsKind_9 : decode cX11_lengthAsKind 9 = .ok (.aload_n 3, 1) := by decide +kernel
theorem dX11_lengthAsKind_10 : decode cX11_lengthAsKind 10 = .ok (.iload_n 2, 1) := by decide +kernel
theorem dX11_lengthAsKind_11 : decode cX11_lengthAsKind 11 = .ok (.invokestatic 514, 3) := by decide +kernel
theorem dX11_lengthAsKind_14 : decode cX11_lengthAsKind 14 = .ok (.ifCond .ne 11, 3) := by decide +kernel
theorem dX11_lengthAsKind_17 : decode cX11_lengthAsKind 17 = .ok (.aload_n 0, 1) := by decide +kernel
theorem dX11_lengthAsKind_18 : decode cX11_lengthAsKind 18 = .ok (.aload_n 1, 1) := by decide +kernel
theorem dX11_lengthAsKind_19 : decode cX11_lengthAsKind 19 = .ok (.invokevirtual 517, 3) := by decide +kernel
theorem dX11_lengthAsKind_22 : decode cX11_lengthAsKind 22 = .ok (.goto 7, 3) := by decide +kernel
theorem dX11_lengthAsKind_25 : decode cX11_lengthAsKind 25 = .ok (.aload_n 3, 1) := by decide +kernel
theorem dX11_lengthAsKind_26 : decode cX11_lengthAsKind 26 = .ok (.getfield 271, 3) := by decide +kernel
theorem dX11_lengthAsKind_29 : decode cX11_lengthAsKind 29 = .ok (.ireturn, 1) := by decide +kernel
theorem dX11_thingOfLetter_0 : decode cX11_thingOfLetter 0 = .ok (.aload_n 1, 1) := by decide +kernel
theorem dX11_thingOfLetter_1 : decode cX11_thingOfLetter 1 = .ok (.getfield 337, 3) := by decide +kernel
theorem dX11_thingOfLetter_4 : decode cX11_thingOfLetter 4 = .ok (.astore_n 3, 1) := by decide +kernel
theorem dX11_thingOfLetter_5 : decode cX11_thingOfLetter 5 = .ok (.aload_n 3, 1) := by decide +kernel
theorem dX11_thingOfLetter_6 : decode cX11_thingOfLetter 6 = .ok (.ifnull 11, 3) := by decide +kernel
theorem dX11_thingOfLetter_9 : decode cX11_thingOfLetter 9 = .ok (.aload_n 3, 1) := by decide +kernel
theorem dX11_thingOfLetter_10 : decode cX11_thingOfLetter 10 = .ok (.invokevirtual 212, 3) := by decide +kernel
theorem dX11_thingOfLetter_13 : decode cX11_thingOfLetter 13 = .ok (.iload_n 2, 1) := by decide +kernel
theorem dX11_thingOfLetter_14 : decode cX11_thingOfLetter 14 = .ok (.if_icmp .eq 11, 3) := by decide +kernel
theorem dX11_thingOfLetter_17 : decode cX11_thingOfLetter 17 = .ok (.aload_n 0, 1) := by decide +kernel
theorem dX11_thingOfLetter_18 : decode cX11_thingOfLetter 18 = .ok (.aload_n 1, 1) := by decide +kernel
theorem dX11_thingOfLetter_19 : decode cX11_thingOfLetter 19 = .ok (.invokevirtual 517, 3) := by decide +kernel
theorem dX11_thingOfLetter_22 : decode cX11_thingOfLetter 22 = .ok (.goto 7, 3) := by decide +kernel
theorem dX11_thingOfLetter_25 : decode cX11_thingOfLetter 25 = .ok (.aload_n 3, 1) := by decide +kernel
theorem dX11_thingOfLetter_26 : decode cX11_thingOfLetter 26 = .ok (.getfield 230, 3) := by decide +kernel
theorem dX11_thingOfLetter_29 : decode cX11_thingOfLetter 29 = .ok (.ireturn, 1) := by decide +kernel
theorem dX11_numberAt_0 : decode cX11_numberAt 0 = .ok (.aload_n 1, 1) := by decide +kernel
theorem dX11_numberAt_1 : decode cX11_numberAt 1 = .ok (.getfield 345, 3) := by decide +kernel
theorem dX11_numberAt_4 : decode cX11_numberAt 4 = .ok (.astore_n 3, 1) := by decide +kernel
theorem dX11_numberAt_5 : decode cX11_numberAt 5 = .ok (.aload_n 3, 1) := by decide +kernel
theorem dX11_numberAt_6 : decode cX11_numberAt 6 = .ok (.ifnonnull 9, 3) := by decide +kernel
theorem dX11_numberAt_9 : decode cX11_numberAt 9 = .ok (.aload_n 0, 1) := by decide +kernel
theorem dX11_numberAt_10 : decode cX11_numberAt 10 = .ok (.aload_n 1, 1) := by decide +kernel
theorem dX11_numberAt_11 : decode cX11_numberAt 11 = .ok (.invokevirtual 517, 3) := by decide +kernel
theorem dX11_numberAt_14 : decode cX11_numberAt 14 = .ok (.ireturn, 1) := by decide +kernel
theorem dX11_numberAt_15 : decode cX11_numberAt 15 = .ok (.iload_n 2, 1) := by decide +kernel
theorem dX11_numberAt_16 : decode cX11_numberAt 16 = .ok (.iconst 0, 1) := by decide +kernel
theorem dX11_numberAt_17 : decode cX11_numberAt 17 = .ok (.aload_n 3, 1) := by decide +kernel
theorem dX11_numberAt_18 : decode cX11_numberAt 18 = .ok (.arraylength, 1) := by decide +kernel
theorem dX11_numberAt_19 : decode cX11_numberAt 19 = .ok (.iconst 1, 1) := by decide +kernel
theorem dX11_numberAt_20 : decode cX11_numberAt 20 = .ok (.isub, 1) := by decide +kernel
theorem dX11_numberAt_21 : decode cX11_numberAt 21 = .ok (.invokestatic 103, 3) := by decide +kernel
theorem dX11_numberAt_24 : decode cX11_numberAt 24 = .ok (.ifCond .eq 10, 3) := by decide +kernel
theorem dX11_numberAt_27 : decode cX11_numberAt 27 = .ok (.aload_n 3, 1) := by decide +kernel
theorem dX11_numberAt_28 : decode cX11_numberAt 28 = .ok (.iload_n 2, 1) := by decide +kernel
theorem dX11_numberAt_29 : decode cX11_numberAt 29 = .ok (.laload, 1) := by decide +kernel
theorem dX11_numberAt_30 : decode cX11_numberAt 30 = .ok (.l2i, 1) := by decide +kernel
theorem dX11_numberAt_31 : decode cX11_numberAt 31 = .ok (.goto 9, 3) := by decide +kernel
theorem dX11_numberAt_34 : decode cX11_numberAt 34 = .ok (.aload_n 0, 1) := by decide +kernel
theorem dX11_numberAt_35 : decode cX11_numberAt 35 = .ok (.bipush 12, 2) := by decide +kernel
theorem dX11_numberAt_37 : decode cX11_numberAt 37 = .ok (.invokevirtual 328, 3) := by decide +kernel
theorem dX11_numberAt_40 : decode cX11_numberAt 40 = .ok (.ireturn, 1) := by decide +kernel
theorem dX11_truthAt_0 : decode cX11_truthAt 0 = .ok (.aload_n 1, 1) := by decide +kernel
theorem dX11_truthAt_1 : decode cX11_truthAt 1 = .ok (.getfield 353, 3) := by decide +kernel
theorem dX11_truthAt_4 : decode cX11_truthAt 4 = .ok (.astore_n 3, 1) := by decide +kernel
theorem dX11_truthAt_5 : decode cX11_truthAt 5 = .ok (.aload_n 3, 1) := by decide +kernel
theorem dX11_truthAt_6 : decode cX11_truthAt 6 = .ok (.ifnonnull 9, 3) := by decide +kernel
theorem dX11_truthAt_9 : decode cX11_truthAt 9 = .ok (.aload_n 0, 1) := by decide +kernel
theorem dX11_truthAt_10 : decode cX11_truthAt 10 = .ok (.aload_n 1, 1) := by decide +kernel
theorem dX11_truthAt_11 : decode cX11_truthAt 11 = .ok (.invokevirtual 517, 3) := by decide +kernel
theorem dX11_truthAt_14 : decode cX11_truthAt 14 = .ok (.ireturn, 1) := by decide +kernel
theorem dX11_truthAt_15 : decode cX11_truthAt 15 = .ok (.iload_n 2, 1) := by decide +kernel
theorem dX11_truthAt_16 : decode cX11_truthAt 16 = .ok (.iconst 0, 1) := by decide +kernel
theorem dX11_truthAt_17 : decode cX11_truthAt 17 = .ok (.aload_n 3, 1) := by decide +kernel
theorem dX11_truthAt_18 : decode cX11_truthAt 18 = .ok (.arraylength, 1) := by decide +kernel
theorem dX11_truthAt_19 : decode cX11_truthAt 19 = .ok (.iconst 1, 1) := by decide +kernel
theorem dX11_truthAt_20 : decode cX11_truthAt 20 = .ok (.isub, 1) := by decide +kernel
theorem dX11_truthAt_21 : decode cX11_truthAt 21 = .ok (.invokestatic 103, 3) := by decide +kernel
theorem dX11_truthAt_24 : decode cX11_truthAt 24 = .ok (.ifCond .ne 10, 3) := by decide +kernel
theorem dX11_truthAt_27 : decode cX11_truthAt 27 = .ok (.aload_n 0, 1) := by decide +kernel
theorem dX11_truthAt_28 : decode cX11_truthAt 28 = .ok (.bipush 12, 2) := by decide +kernel
theorem dX11_truthAt_30 : decode cX11_truthAt 30 = .ok (.invokevirtual 328, 3) := by decide +kernel
theorem dX11_truthAt_33 : decode cX11_truthAt 33 = .ok (.ireturn, 1) := by decide +kernel
theorem dX11_truthAt_34 : decode cX11_truthAt 34 = .ok (.aload_n 3, 1) := by decide +kernel
theorem dX11_truthAt_35 : decode cX11_truthAt 35 = .ok (.iload_n 2, 1) := by decide +kernel
theorem dX11_truthAt_36 : decode cX11_truthAt 36 = .ok (.baload, 1) := by decide +kernel
theorem dX11_truthAt_37 : decode cX11_truthAt 37 = .ok (.ifCond .eq 7, 3) := by decide +kernel
theorem dX11_truthAt_40 : decode cX11_truthAt 40 = .ok (.iconst 1, 1) := by decide +kernel
theorem dX11_truthAt_41 : decode cX11_truthAt 41 = .ok (.goto 4, 3) := by decide +kernel
theorem dX11_truthAt_44 : decode cX11_truthAt 44 = .ok (.iconst 0, 1) := by decide +kernel
theorem dX11_truthAt_45 : decode cX11_truthAt 45 = .ok (.ireturn, 1) := by decide +kernel
theorem dX11_sumOfCopied_0 : decode cX11_sumOfCopied 0 = .ok (.aload_n 1, 1) := by decide +kernel
theorem dX11_sumOfCopied_1 : decode cX11_sumOfCopied 1 = .ok (.getfield 345, 3) := by decide +kernel
theorem dX11_sumOfCopied_4 : decode cX11_sumOfCopied 4 = .ok (.astore_n 3, 1) := by decide +kernel
theorem dX11_sumOfCopied_5 : decode cX11_sumOfCopied 5 = .ok (.aload_n 3, 1) := by decide +kernel
theorem dX11_sumOfCopied_6 : decode cX11_sumOfCopied 6 = .ok (.ifnonnull 9, 3) := by decide +kernel
theorem dX11_sumOfCopied_9 : decode cX11_sumOfCopied 9 = .ok (.aload_n 0, 1) := by decide +kernel
theorem dX11_sumOfCopied_10 : decode cX11_sumOfCopied 10 = .ok (.aload_n 1, 1) := by decide +kernel
theorem dX11_sumOfCopied_11 : decode cX11_sumOfCopied 11 = .ok (.invokevirtual 517, 3) := by decide +kernel
theorem dX11_sumOfCopied_14 : decode cX11_sumOfCopied 14 = .ok (.ireturn, 1) := by decide +kernel
theorem dX11_sumOfCopied_15 : decode cX11_sumOfCopied 15 = .ok (.iload_n 2, 1) := by decide +kernel
theorem dX11_sumOfCopied_16 : decode cX11_sumOfCopied 16 = .ok (.ifCond .lt 18, 3) := by decide +kernel
theorem dX11_sumOfCopied_19 : decode cX11_sumOfCopied 19 = .ok (.iconst 1, 1) := by decide +kernel
theorem dX11_sumOfCopied_20 : decode cX11_sumOfCopied 20 = .ok (.iload_n 2, 1) := by decide +kernel
theorem dX11_sumOfCopied_21 : decode cX11_sumOfCopied 21 = .ok (.iadd, 1) := by decide +kernel
theorem dX11_sumOfCopied_22 : decode cX11_sumOfCopied 22 = .ok (.aload_n 3, 1) := by decide +kernel
theorem dX11_sumOfCopied_23 : decode cX11_sumOfCopied 23 = .ok (.arraylength, 1) := by decide +kernel
theorem dX11_sumOfCopied_24 : decode cX11_sumOfCopied 24 = .ok (.if_icmp .gt 10, 3) := by decide +kernel
theorem dX11_sumOfCopied_27 : decode cX11_sumOfCopied 27 = .ok (.iload_n 2, 1) := by decide +kernel
theorem dX11_sumOfCopied_28 : decode cX11_sumOfCopied 28 = .ok (.iload_n 2, 1) := by decide +kernel
theorem dX11_sumOfCopied_29 : decode cX11_sumOfCopied 29 = .ok (.iadd, 1) := by decide +kernel
theorem dX11_sumOfCopied_30 : decode cX11_sumOfCopied 30 = .ok (.iconst 5, 1) := by decide +kernel
theorem dX11_sumOfCopied_31 : decode cX11_sumOfCopied 31 = .ok (.if_icmp .le 10, 3) := by decide +kernel
theorem dX11_sumOfCopied_34 : decode cX11_sumOfCopied 34 = .ok (.aload_n 0, 1) := by decide +kernel
theorem dX11_sumOfCopied_35 : decode cX11_sumOfCopied 35 = .ok (.bipush 12, 2) := by decide +kernel
theorem dX11_sumOfCopied_37 : decode cX11_sumOfCopied 37 = .ok (.invokevirtual 328, 3) := by decide +kernel
theorem dX11_sumOfCopied_40 : decode cX11_sumOfCopied 40 = .ok (.ireturn, 1) := by decide +kernel
theorem dX11_sumOfCopied_41 : decode cX11_sumOfCopied 41 = .ok (.lconst 0, 1) := by decide +kernel
theorem dX11_sumOfCopied_42 : decode cX11_sumOfCopied 42 = .ok (.lstore 4, 2) := by decide +kernel
theorem dX11_sumOfCopied_44 : decode cX11_sumOfCopied 44 = .ok (.iconst 1, 1) := by decide +kernel
theorem dX11_sumOfCopied_45 : decode cX11_sumOfCopied 45 = .ok (.istore 6, 2) := by decide +kernel
theorem dX11_sumOfCopied_47 : decode cX11_sumOfCopied 47 = .ok (.iload 6, 2) := by decide +kernel
theorem dX11_sumOfCopied_49 : decode cX11_sumOfCopied 49 = .ok (.iload_n 2, 1) := by decide +kernel
theorem dX11_sumOfCopied_50 : decode cX11_sumOfCopied 50 = .ok (.if_icmp .gt 25, 3) := by decide +kernel
theorem dX11_sumOfCopied_53 : decode cX11_sumOfCopied 53 = .ok (.iload 6, 2) := by decide +kernel
theorem dX11_sumOfCopied_55 : decode cX11_sumOfCopied 55 = .ok (.aload_n 3, 1) := by decide +kernel
theorem dX11_sumOfCopied_56 : decode cX11_sumOfCopied 56 = .ok (.arraylength, 1) := by decide +kernel
theorem dX11_sumOfCopied_57 : decode cX11_sumOfCopied 57 = .ok (.if_icmp .ge 18, 3) := by decide +kernel
theorem dX11_sumOfCopied_60 : decode cX11_sumOfCopied 60 = .ok (.lload 4, 2) := by decide +kernel
theorem dX11_sumOfCopied_62 : decode cX11_sumOfCopied 62 = .ok (.aload_n 3, 1) := by decide +kernel
theorem dX11_sumOfCopied_63 : decode cX11_sumOfCopied 63 = .ok (.iload 6, 2) := by decide +kernel
theorem dX11_sumOfCopied_65 : decode cX11_sumOfCopied 65 = .ok (.laload, 1) := by decide +kernel
theorem dX11_sumOfCopied_66 : decode cX11_sumOfCopied 66 = .ok (.ladd, 1) := by decide +kernel
theorem dX11_sumOfCopied_67 : decode cX11_sumOfCopied 67 = .ok (.lstore 4, 2) := by decide +kernel
theorem dX11_sumOfCopied_69 : decode cX11_sumOfCopied 69 = .ok (.iinc 6 1, 3) := by decide +kernel
theorem dX11_sumOfCopied_72 : decode cX11_sumOfCopied 72 = .ok (.goto (-25), 3) := by decide +kernel
theorem dX11_sumOfCopied_75 : decode cX11_sumOfCopied 75 = .ok (.lload 4, 2) := by decide +kernel
theorem dX11_sumOfCopied_77 : decode cX11_sumOfCopied 77 = .ok (.l2i, 1) := by decide +kernel
theorem dX11_sumOfCopied_78 : decode cX11_sumOfCopied 78 = .ok (.ireturn, 1) := by decide +kernel
theorem dX11_lengthLaidAmongShared_0 : decode cX11_lengthLaidAmongShared 0 = .ok (.aload_n 1, 1) := by decide +kernel
theorem dX11_lengthLaidAmongShared_1 : decode cX11_lengthLaidAmongShared 1 = .ok (.invokevirtual 511, 3) := by decide +kernel
theorem dX11_lengthLaidAmongShared_4 : decode cX11_lengthLaidAmongShared 4 = .ok (.ifCond .eq 5, 3) := by decide +kernel
theorem dX11_lengthLaidAmongShared_7 : decode cX11_lengthLaidAmongShared 7 = .ok (.iconst 0, 1) := by decide +kernel
theorem dX11_lengthLaidAmongShared_8 : decode cX11_lengthLaidAmongShared 8 = .ok (.ireturn, 1) := by decide +kernel
theorem dX11_lengthLaidAmongShared_9 : decode cX11_lengthLaidAmongShared 9 = .ok (.aload_n 1, 1) := by decide +kernel
theorem dX11_lengthLaidAmongShared_10 : decode cX11_lengthLaidAmongShared 10 = .ok (.getfield 334, 3) := by decide +kernel
theorem dX11_lengthLaidAmongShared_13 : decode cX11_lengthLaidAmongShared 13 = .ok (.astore_n 2, 1) := by decide +kernel
theorem dX11_lengthLaidAmongShared_14 : decode cX11_lengthLaidAmongShared 14 = .ok (.aload_n 2, 1) := by decide +kernel
theorem dX11_lengthLaidAmongShared_15 : decode cX11_lengthLaidAmongShared 15 = .ok (.instanceof 390, 3) := by decide +kernel
theorem dX11_lengthLaidAmongShared_18 : decode cX11_lengthLaidAmongShared 18 = .ok (.ifCond .eq 10, 3) := by decide +kernel
theorem dX11_lengthLaidAmongShared_21 : decode cX11_lengthLaidAmongShared 21 = .ok (.aload_n 2, 1) := by decide +kernel
theorem dX11_lengthLaidAmongShared_22 : decode cX11_lengthLaidAmongShared 22 = .ok (.getfield 271, 3) := by decide +kernel
theorem dX11_lengthLaidAmongShared_25 : decode cX11_lengthLaidAmongShared 25 = .ok (.goto 9, 3) := by decide +kernel
theorem dX11_lengthLaidAmongShared_28 : decode cX11_lengthLaidAmongShared 28 = .ok (.aload_n 0, 1) := by decide +kernel
theorem dX11_lengthLaidAmongShared_29 : decode cX11_lengthLaidAmongShared 29 = .ok (.bipush 14, 2) := by decide +kernel
theorem dX11_lengthLaidAmongShared_31 : decode cX11_lengthLaidAmongShared 31 = .ok (.invokevirtual 328, 3) := by decide +kernel
theorem dX11_lengthLaidAmongShared_34 : decode cX11_lengthLaidAmongShared 34 = .ok (.ireturn, 1) := by decide +kernel
end
section
theorem dL_cell_0 : decode cL_cell 0 = .ok (.iload_n 1, 1) := by decide +kernel
theorem dL_cell_1 : decode cL_cell 1 = .ok (.aload_n 0, 1) := by decide +kernel
theorem dL_cell_2 : decode cL_cell 2 = .ok (.arraylength, 1) := by decide +kernel
theorem dL_cell_3 : decode cL_cell 3 = .ok (.if_icmp .ge 9, 3) := by decide +kernel
theorem dL_cell_6 : decode cL_cell 6 = .ok (.aload_n 0, 1) := by decide +kernel
theorem dL_cell_7 : decode cL_cell 7 = .ok (.iload_n 1, 1) := by decide +kernel
theorem dL_cell_8 : decode cL_cell 8 = .ok (.iaload, 1) := by decide +kernel
theorem dL_cell_9 : decode cL_cell 9 = .ok (.goto 4, 3) := by decide +kernel
theorem dL_cell_12 : decode cL_cell 12 = .ok (.iconst 0, 1) := by decide +kernel
theorem dL_cell_13 : decode cL_cell 13 = .ok (.ireturn, 1) := by decide +kernel
theorem dL_law_0 : decode cL_law 0 = .ok (.new 7, 3) := by decide +kernel
theorem dL_law_3 : decode cL_law 3 = .ok (.dup, 1) := by decide +kernel
theorem dL_law_4 : decode cL_law 4 = .ok (.aload_n 0, 1) := by decide +kernel
theorem dL_law_5 : decode cL_law 5 = .ok (.iconst 0, 1) := by decide +kernel
theorem dL_law_6 : decode cL_law 6 = .ok (.invokestatic 9, 3) := by decide +kernel
theorem dL_law_9 : decode cL_law 9 = .ok (.invokespecial 15, 3) := by decide +kernel
theorem dL_law_12 : decode cL_law 12 = .ok (.astore_n 1, 1) := by decide +kernel
theorem dL_law_13 : decode cL_law 13 = .ok (.new 18, 3) := by decide +kernel
theorem dL_law_16 : decode cL_law 16 = .ok (.dup, 1) := by decide +kernel
theorem dL_law_17 : decode cL_law 17 = .ok (.aload_n 0, 1) := by decide +kernel
theorem dL_law_18 : decode cL_law 18 = .ok (.iconst 0, 1) := by decide +kernel
theorem dL_law_19 : decode cL_law 19 = .ok (.invokestatic 9, 3) := by decide +kernel
theorem dL_law_22 : decode cL_law 22 = .ok (.invokespecial 20, 3) := by decide +kernel
theorem dL_law_25 : decode cL_law 25 = .ok (.astore_n 2, 1) := by decide +kernel
theorem dL_law_26 : decode cL_law 26 = .ok (.iconst 1, 1) := by decide +kernel
theorem dL_law_27 : decode cL_law 27 = .ok (.istore_n 3, 1) := by decide +kernel
theorem dL_law_28 : decode cL_law 28 = .ok (.iload_n 3, 1) := by decide +kernel
theorem dL_law_29 : decode cL_law 29 = .ok (.aload_n 0, 1) := by decide +kernel
theorem dL_law_30 : decode cL_law 30 = .ok (.arraylength, 1) := by decide +kernel
theorem dL_law_31 : decode cL_law 31 = .ok (.bipush 6, 2) := by decide +kernel
theorem dL_law_33 : decode cL_law 33 = .ok (.isub, 1) := by decide +kernel
theorem dL_law_34 : decode cL_law 34 = .ok (.if_icmp .gt 1239, 3) := by decide +kernel
theorem dL_law_37 : decode cL_law 37 = .ok (.aload_n 0, 1) := by decide +kernel
theorem dL_law_38 : decode cL_law 38 = .ok (.iload_n 3, 1) := by decide +kernel
theorem dL_law_39 : decode cL_law 39 = .ok (.iaload, 1) := by decide +kernel
theorem dL_law_40 : decode cL_law 40 = .ok (.bipush 31, 2) := by decide +kernel
theorem dL_law_42 : decode cL_law 42 = .ok (.iand, 1) := by decide +kernel
theorem dL_law_43 : decode cL_law 43 = .ok (.tableswitch 1224 0 29 #[133, 166, 199, 242, 255, 278, 312, 371, 394, 417, 480, 523, 566, 609, 632, 655, 678, 711, 745, 768, 811, 855, 888, 931, 975, 1058, 1102, 1125, 1168, 1211], 133) := by decide +kernel
theorem dL_law_176 : decode cL_law 176 = .ok (.aload_n 1, 1) := by decide +kernel
theorem dL_law_177 : decode cL_law 177 = .ok (.aload_n 0, 1) := by decide +kernel
theorem dL_law_178 : decode cL_law 178 = .ok (.iload_n 3, 1) := by decide +kernel
theorem dL_law_179 : decode cL_law 179 = .ok (.iconst 1, 1) := by decide +kernel
theorem dL_law_180 : decode cL_law 180 = .ok (.iadd, 1) := by decide +kernel
theorem dL_law_181 : decode cL_law 181 = .ok (.iaload, 1) := by decide +kernel
theorem dL_law_182 : decode cL_law 182 = .ok (.aload_n 0, 1) := by decide +kernel
theorem dL_law_183 : decode cL_law 183 = .ok (.iload_n 3, 1) := by decide +kernel
theorem dL_law_184 : decode cL_law 184 = .ok (.iconst 2, 1) := by decide +kernel
theorem dL_law_185 : decode cL_law 185 = .ok (.iadd, 1) := by decide +kernel
theorem dL_law_186 : decode cL_law 186 = .ok (.iaload, 1) := by decide +kernel
theorem dL_law_187 : decode cL_law 187 = .ok (.invokevirtual 21, 3) := by decide +kernel
theorem dL_law_190 : decode cL_law 190 = .ok (.aload_n 2, 1) := by decide +kernel
theorem dL_law_191 : decode cL_law 191 = .ok (.aload_n 0, 1) := by decide +kernel
theorem dL_law_192 : decode cL_law 192 = .ok (.iload_n 3, 1) := by decide +kernel
theorem dL_law_193 : decode cL_law 193 = .ok (.iconst 1, 1) := by decide +kernel
theorem dL_law_194 : decode cL_law 194 = .ok (.iadd, 1) := by decide +kernel
theorem dL_law_195 : decode cL_law 195 = .ok (.iaload, 1) := by decide +kernel
theorem dL_law_196 : decode cL_law 196 = .ok (.aload_n 0, 1) := by decide +kernel
theorem dL_law_197 : decode cL_law 197 = .ok (.iload_n 3, 1) := by decide +kernel
theorem dL_law_198 : decode cL_law 198 = .ok (.iconst 2, 1) := by decide +kernel
theorem dL_law_199 : decode cL_law 199 = .ok (.iadd, 1) := by decide +kernel
theorem dL_law_200 : decode cL_law 200 = .ok (.iaload, 1) := by decide +kernel
theorem dL_law_201 : decode cL_law 201 = .ok (.invokevirtual 25, 3) := by decide +kernel
theorem dL_law_204 : decode cL_law 204 = .ok (.if_icmp .eq 1063, 3) := by decide +kernel
theorem dL_law_207 : decode cL_law 207 = .ok (.iconst 0, 1) := by decide +kernel
theorem dL_law_208 : decode cL_law 208 = .ok (.ireturn, 1) := by decide +kernel
theorem dL_law_209 : decode cL_law 209 = .ok (.aload_n 1, 1) := by decide +kernel
theorem dL_law_210 : decode cL_law 210 = .ok (.aload_n 0, 1) := by decide +kernel
theorem dL_law_211 : decode cL_law 211 = .ok (.iload_n 3, 1) := by decide +kernel
theorem dL_law_212 : decode cL_law 212 = .ok (.iconst 1, 1) := by decide +kernel
theorem dL_law_213 : decode cL_law 213 = .ok (.iadd, 1) := by decide +kernel
theorem dL_law_214 : decode cL_law 214 = .ok (.iaload, 1) := by decide +kernel
theorem dL_law_215 : decode cL_law 215 = .ok (.aload_n 0, 1) := by decide +kernel
theorem dL_law_216 : decode cL_law 216 = .ok (.iload_n 3, 1) := by decide +kernel
theorem dL_law_217 : decode cL_law 217 = .ok (.iconst 2, 1) := by decide +kernel
theorem dL_law_218 : decode cL_law 218 = .ok (.iadd, 1) := by decide +kernel
theorem dL_law_219 : decode cL_law 219 = .ok (.iaload, 1) := by decide +kernel
theorem dL_law_220 : decode cL_law 220 = .ok (.invokevirtual 26, 3) := by decide +kernel
theorem dL_law_223 : decode cL_law 223 = .ok (.aload_n 2, 1) := by decide +kernel
theorem dL_law_224 : decode cL_law 224 = .ok (.aload_n 0, 1) := by decide +kernel
theorem dL_law_225 : decode cL_law 225 = .ok (.iload_n 3, 1) := by decide +kernel
theorem dL_law_226 : decode cL_law 226 = .ok (.iconst 1, 1) := by decide +kernel
theorem dL_law_227 : decode cL_law 227 = .ok (.iadd, 1) := by decide +kernel
theorem dL_law_228 : decode cL_law 228 = .ok (.iaload, 1) := by decide +kernel
theorem dL_law_229 : decode cL_law 229 = .ok (.aload_n 0, 1) := by decide +kernel
theorem dL_law_230 : decode cL_law 230 = .ok (.iload_n 3, 1) := by decide +kernel
theorem dL_law_231 : decode cL_law 231 = .ok (.iconst 2, 1) := by decide +kernel
theorem dL_law_232 : decode cL_law 232 = .ok (.iadd, 1) := by decide +kernel
theorem dL_law_233 : decode cL_law 233 = .ok (.iaload, 1) := by decide +kernel
theorem dL_law_234 : decode cL_law 234 = .ok (.invokevirtual 29, 3) := by decide +kernel
theorem dL_law_237 : decode cL_law 237 = .ok (.if_icmp .eq 1030, 3) := by decide +kernel
theorem dL_law_240 : decode cL_law 240 = .ok (.iconst 0, 1) := by decide +kernel
theorem dL_law_241 : decode cL_law 241 = .ok (.ireturn, 1) := by decide +kernel
theorem dL_law_242 : decode cL_law 242 = .ok (.aload_n 1, 1) := by decide +kernel
theorem dL_law_243 : decode cL_law 243 = .ok (.aload_n 0, 1) := by decide +kernel
theorem dL_law_244 : decode cL_law 244 = .ok (.iload_n 3, 1) := by decide +kernel
theorem dL_law_245 : decode cL_law 245 = .ok (.iconst 1, 1) := by decide +kernel
theorem dL_law_246 : decode cL_law 246 = .ok (.iadd, 1) := by decide +kernel
theorem dL_law_247 : decode cL_law 247 = .ok (.iaload, 1) := by decide +kernel
theorem dL_law_248 : decode cL_law 248 = .ok (.aload_n 0, 1) := by decide +kernel
theorem dL_law_249 : decode cL_law 249 = .ok (.iload_n 3, 1) := by decide +kernel
theorem dL_law_250 : decode cL_law 250 = .ok (.iconst 2, 1) := by decide +kernel
theorem dL_law_251 : decode cL_law 251 = .ok (.iadd, 1) := by decide +kernel
theorem dL_law_252 : decode cL_law 252 = .ok (.iaload, 1) := by decide +kernel
theorem dL_law_253 : decode cL_law 253 = .ok (.aload_n 0, 1) := by decide +kernel
theorem dL_law_254 : decode cL_law 254 = .ok (.iload_n 3, 1) := by decide +kernel
theorem dL_law_255 : decode cL_law 255 = .ok (.iconst 3, 1) := by decide +kernel
theorem dL_law_256 : decode cL_law 256 = .ok (.iadd, 1) := by decide +kernel
theorem dL_law_257 : decode cL_law 257 = .ok (.iaload, 1) := by decide +kernel
theorem dL_law_258 : decode cL_law 258 = .ok (.invokevirtual 30, 3) := by decide +kernel
theorem dL_law_261 : decode cL_law 261 = .ok (.aload_n 2, 1) := by decide +kernel
theorem dL_law_262 : decode cL_law 262 = .ok (.aload_n 0, 1) := by decide +kernel
theorem dL_law_263 : decode cL_law 263 = .ok (.iload_n 3, 1) := by decide +kernel
theorem dL_law_264 : decode cL_law 264 = .ok (.iconst 1, 1) := by decide +kernel
theorem dL_law_265 : decode cL_law 265 = .ok (.iadd, 1) := by decide +kernel
theorem dL_law_266 : decode cL_law 266 = .ok (.iaload, 1) := by decide +kernel
theorem dL_law_267 : decode cL_law 267 = .ok (.aload_n 0, 1) := by decide +kernel
theorem dL_law_268 : decode cL_law 268 = .ok (.iload_n 3, 1) := by decide +kernel
theorem dL_law_269 : decode cL_law 269 = .ok (.iconst 2, 1) := by decide +kernel
theorem dL_law_270 : decode cL_law 270 = .ok (.iadd, 1) := by decide +kernel
theorem dL_law_271 : decode cL_law 271 = .ok (.iaload, 1) := by decide +kernel
theorem dL_law_272 : decode cL_law 272 = .ok (.aload_n 0, 1) := by decide +kernel
theorem dL_law_273 : decode cL_law 273 = .ok (.iload_n 3, 1) := by decide +kernel
theorem dL_law_274 : decode cL_law 274 = .ok (.iconst 3, 1) := by decide +kernel
theorem dL_law_275 : decode cL_law 275 = .ok (.iadd, 1) := by decide +kernel
theorem dL_law_276 : decode cL_law 276 = .ok (.iaload, 1) := by decide +kernel
theorem dL_law_277 : decode cL_law 277 = .ok (.invokevirtual 34, 3) := by decide +kernel
theorem dL_law_280 : decode cL_law 280 = .ok (.if_icmp .eq 987, 3) := by decide +kernel
theorem dL_law_283 : decode cL_law 283 = .ok (.iconst 0, 1) := by decide +kernel
theorem dL_law_284 : decode cL_law 284 = .ok (.ireturn, 1) := by decide +kernel
theorem dL_law_285 : decode cL_law 285 = .ok (.aload_n 1, 1) := by decide +kernel
theorem dL_law_286 : decode cL_law 286 = .ok (.invokevirtual 35, 3) := by decide +kernel
theorem dL_law_289 : decode cL_law 289 = .ok (.aload_n 2, 1) := by decide +kernel
theorem dL_law_290 : decode cL_law 290 = .ok (.invokevirtual 39, 3) := by decide +kernel
theorem dL_law_293 : decode cL_law 293 = .ok (.if_icmp .eq 974, 3) := by decide +kernel
theorem dL_law_296 : decode cL_law 296 = .ok (.iconst 0, 1) := by decide +kernel
theorem dL_law_297 : decode cL_law 297 = .ok (.ireturn, 1) := by decide +kernel
theorem dL_law_298 : decode cL_law 298 = .ok (.aload_n 1, 1) := by decide +kernel
theorem dL_law_299 : decode cL_law 299 = .ok (.aload_n 0, 1) := by decide +kernel
theorem dL_law_300 : decode cL_law 300 = .ok (.iload_n 3, 1) := by decide +kernel
theorem dL_law_301 : decode cL_law 301 = .ok (.iconst 1, 1) := by decide +kernel
theorem dL_law_302 : decode cL_law 302 = .ok (.iadd, 1) := by decide +kernel
theorem dL_law_303 : decode cL_law 303 = .ok (.iaload, 1) := by decide +kernel
theorem dL_law_304 : decode cL_law 304 = .ok (.invokevirtual 40, 3) := by decide +kernel
theorem dL_law_307 : decode cL_law 307 = .ok (.aload_n 2, 1) := by decide +kernel
theorem dL_law_308 : decode cL_law 308 = .ok (.aload_n 0, 1) := by decide +kernel
theorem dL_law_309 : decode cL_law 309 = .ok (.iload_n 3, 1) := by decide +kernel
theorem dL_law_310 : decode cL_law 310 = .ok (.iconst 1, 1) := by decide +kernel
theorem dL_law_311 : decode cL_law 311 = .ok (.iadd, 1) := by decide +kernel
theorem dL_law_312 : decode cL_law 312 = .ok (.iaload, 1) := by decide +kernel
theorem dL_law_313 : decode cL_law 313 = .ok (.invokevirtual 44, 3) := by decide +kernel
theorem dL_law_316 : decode cL_law 316 = .ok (.if_icmp .eq 951, 3) := by decide +kernel
theorem dL_law_319 : decode cL_law 319 = .ok (.iconst 0, 1) := by decide +kernel
theorem dL_law_320 : decode cL_law 320 = .ok (.ireturn, 1) := by decide +kernel
theorem dL_law_321 : decode cL_law 321 = .ok (.aload_n 1, 1) := by decide +kernel
theorem dL_law_322 : decode cL_law 322 = .ok (.aload_n 0, 1) := by decide +kernel
theorem dL_law_323 : decode cL_law 323 = .ok (.iload_n 3, 1) := by decide +kernel
theorem dL_law_324 : decode cL_law 324 = .ok (.iconst 1, 1) := by decide +kernel
theorem dL_law_325 : decode cL_law 325 = .ok (.iadd, 1) := by decide +kernel
theorem dL_law_326 : decode cL_law 326 = .ok (.iaload, 1) := by decide +kernel
theorem dL_law_327 : decode cL_law 327 = .ok (.aload_n 0, 1) := by decide +kernel
theorem dL_law_328 : decode cL_law 328 = .ok (.iload_n 3, 1) := by decide +kernel
theorem dL_law_329 : decode cL_law 329 = .ok (.iconst 2, 1) := by decide +kernel
theorem dL_law_330 : decode cL_law 330 = .ok (.iadd, 1) := by decide +kernel
theorem dL_law_331 : decode cL_law 331 = .ok (.iaload, 1) := by decide +kernel
theorem dL_law_332 : decode cL_law 332 = .ok (.invokevirtual 45, 3) := by decide +kernel
theorem dL_law_335 : decode cL_law 335 = .ok (.aload_n 2, 1) := by decide +kernel
theorem dL_law_336 : decode cL_law 336 = .ok (.aload_n 0, 1) := by decide +kernel
theorem dL_law_337 : decode cL_law 337 = .ok (.iload_n 3, 1) := by decide +kernel
theorem dL_law_338 : decode cL_law 338 = .ok (.iconst 1, 1) := by decide +kernel
theorem dL_law_339 : decode cL_law 339 = .ok (.iadd, 1) := by decide +kernel
theorem dL_law_340 : decode cL_law 340 = .ok (.iaload, 1) := by decide +kernel
theorem dL_law_341 : decode cL_law 341 = .ok (.aload_n 0, 1) := by decide +kernel
theorem dL_law_342 : decode cL_law 342 = .ok (.iload_n 3, 1) := by decide +kernel
theorem dL_law_343 : decode cL_law 343 = .ok (.iconst 2, 1) := by decide +kernel
theorem dL_law_344 : decode cL_law 344 = .ok (.iadd, 1) := by decide +kernel
theorem dL_law_345 : decode cL_law 345 = .ok (.iaload, 1) := by decide +kernel
theorem dL_law_346 : decode cL_law 346 = .ok (.invokevirtual 49, 3) := by decide +kernel
theorem dL_law_349 : decode cL_law 349 = .ok (.lcmp, 1) := by decide +kernel
theorem dL_law_350 : decode cL_law 350 = .ok (.ifCond .eq 917, 3) := by decide +kernel
theorem dL_law_353 : decode cL_law 353 = .ok (.iconst 0, 1) := by decide +kernel
theorem dL_law_354 : decode cL_law 354 = .ok (.ireturn, 1) := by decide +kernel
theorem dL_law_355 : decode cL_law 355 = .ok (.aload_n 1, 1) := by decide +kernel
theorem dL_law_356 : decode cL_law 356 = .ok (.aload_n 0, 1) := by decide +kernel
theorem dL_law_357 : decode cL_law 357 = .ok (.iload_n 3, 1) := by decide +kernel
theorem dL_law_358 : decode cL_law 358 = .ok (.iconst 1, 1) := by decide +kernel
theorem dL_law_359 : decode cL_law 359 = .ok (.iadd, 1) := by decide +kernel
theorem dL_law_360 : decode cL_law 360 = .ok (.iaload, 1) := by decide +kernel
theorem dL_law_361 : decode cL_law 361 = .ok (.aload_n 0, 1) := by decide +kernel
theorem dL_law_362 : decode cL_law 362 = .ok (.iload_n 3, 1) := by decide +kernel
theorem dL_law_363 : decode cL_law 363 = .ok (.iconst 2, 1) := by decide +kernel
theorem dL_law_364 : decode cL_law 364 = .ok (.iadd, 1) := by decide +kernel
theorem dL_law_365 : decode cL_law 365 = .ok (.iaload, 1) := by decide +kernel
theorem dL_law_366 : decode cL_law 366 = .ok (.aload_n 0, 1) := by decide +kernel
theorem dL_law_367 : decode cL_law 367 = .ok (.iload_n 3, 1) := by decide +kernel
theorem dL_law_368 : decode cL_law 368 = .ok (.iconst 3, 1) := by decide +kernel
theorem dL_law_369 : decode cL_law 369 = .ok (.iadd, 1) := by decide +kernel
theorem dL_law_370 : decode cL_law 370 = .ok (.iaload, 1) := by decide +kernel
theorem dL_law_371 : decode cL_law 371 = .ok (.ifCond .eq 7, 3) := by decide +kernel
theorem dL_law_374 : decode cL_law 374 = .ok (.iconst 1, 1) := by decide +kernel
theorem dL_law_375 : decode cL_law 375 = .ok (.goto 4, 3) := by decide +kernel
theorem dL_law_378 : decode cL_law 378 = .ok (.iconst 0, 1) := by decide +kernel
theorem dL_law_379 : decode cL_law 379 = .ok (.invokevirtual 50, 3) := by decide +kernel
theorem dL_law_382 : decode cL_law 382 = .ok (.aload_n 2, 1) := by decide +kernel
theorem dL_law_383 : decode cL_law 383 = .ok (.aload_n 0, 1) := by decide +kernel
theorem dL_law_384 : decode cL_law 384 = .ok (.iload_n 3, 1) := by decide +kernel
theorem dL_law_385 : decode cL_law 385 = .ok (.iconst 1, 1) := by decide +kernel
theorem dL_law_386 : decode cL_law 386 = .ok (.iadd, 1) := by decide +kernel
theorem dL_law_387 : decode cL_law 387 = .ok (.iaload, 1) := by decide +kernel
theorem dL_law_388 : decode cL_law 388 = .ok (.aload_n 0, 1) := by decide +kernel
theorem dL_law_389 : decode cL_law 389 = .ok (.iload_n 3, 1) := by decide +kernel
theorem dL_law_390 : decode cL_law 390 = .ok (.iconst 2, 1) := by decide +kernel
theorem dL_law_391 : decode cL_law 391 = .ok (.iadd, 1) := by decide +kernel
theorem dL_law_392 : decode cL_law 392 = .ok (.iaload, 1) := by decide +kernel
theorem dL_law_393 : decode cL_law 393 = .ok (.aload_n 0, 1) := by decide +kernel
theorem dL_law_394 : decode cL_law 394 = .ok (.iload_n 3, 1) := by decide +kernel
theorem dL_law_395 : decode cL_law 395 = .ok (.iconst 3, 1) := by decide +kernel
theorem dL_law_396 : decode cL_law 396 = .ok (.iadd, 1) := by decide +kernel
theorem dL_law_397 : decode cL_law 397 = .ok (.iaload, 1) := by decide +kernel
theorem dL_law_398 : decode cL_law 398 = .ok (.ifCond .eq 7, 3) := by decide +kernel
theorem dL_law_401 : decode cL_law 401 = .ok (.iconst 1, 1) := by decide +kernel
theorem dL_law_402 : decode cL_law 402 = .ok (.goto 4, 3) := by decide +kernel
theorem dL_law_405 : decode cL_law 405 = .ok (.iconst 0, 1) := by decide +kernel
theorem dL_law_406 : decode cL_law 406 = .ok (.invokevirtual 54, 3) := by decide +kernel
theorem dL_law_409 : decode cL_law 409 = .ok (.if_icmp .eq 858, 3) := by decide +kernel
theorem dL_law_412 : decode cL_law 412 = .ok (.iconst 0, 1) := by decide +kernel
theorem dL_law_413 : decode cL_law 413 = .ok (.ireturn, 1) := by decide +kernel
theorem dL_law_414 : decode cL_law 414 = .ok (.aload_n 1, 1) := by decide +kernel
theorem dL_law_415 : decode cL_law 415 = .ok (.aload_n 0, 1) := by decide +kernel
theorem dL_law_416 : decode cL_law 416 = .ok (.iload_n 3, 1) := by decide +kernel
theorem dL_law_417 : decode cL_law 417 = .ok (.iconst 1, 1) := by decide +kernel
theorem dL_law_418 : decode cL_law 418 = .ok (.iadd, 1) := by decide +kernel
theorem dL_law_419 : decode cL_law 419 = .ok (.iaload, 1) := by decide +kernel
theorem dL_law_420 : decode cL_law 420 = .ok (.invokevirtual 55, 3) := by decide +kernel
theorem dL_law_423 : decode cL_law 423 = .ok (.aload_n 2, 1) := by decide +kernel
theorem dL_law_424 : decode cL_law 424 = .ok (.aload_n 0, 1) := by decide +kernel
theorem dL_law_425 : decode cL_law 425 = .ok (.iload_n 3, 1) := by decide +kernel
theorem dL_law_426 : decode cL_law 426 = .ok (.iconst 1, 1) := by decide +kernel
theorem dL_law_427 : decode cL_law 427 = .ok (.iadd, 1) := by decide +kernel
theorem dL_law_428 : decode cL_law 428 = .ok (.iaload, 1) := by decide +kernel
theorem dL_law_429 : decode cL_law 429 = .ok (.invokevirtual 58, 3) := by decide +kernel
theorem dL_law_432 : decode cL_law 432 = .ok (.if_icmp .eq 835, 3) := by decide +kernel
theorem dL_law_435 : decode cL_law 435 = .ok (.iconst 0, 1) := by decide +kernel
theorem dL_law_436 : decode cL_law 436 = .ok (.ireturn, 1) := by decide +kernel
theorem dL_law_437 : decode cL_law 437 = .ok (.aload_n 1, 1) := by decide +kernel
theorem dL_law_438 : decode cL_law 438 = .ok (.aload_n 0, 1) := by decide +kernel
theorem dL_law_439 : decode cL_law 439 = .ok (.iload_n 3, 1) := by decide +kernel
theorem dL_law_440 : decode cL_law 440 = .ok (.iconst 1, 1) := by decide +kernel
theorem dL_law_441 : decode cL_law 441 = .ok (.iadd, 1) := by decide +kernel
theorem dL_law_442 : decode cL_law 442 = .ok (.iaload, 1) := by decide +kernel
theorem dL_law_443 : decode cL_law 443 = .ok (.invokevirtual 59, 3) := by decide +kernel
theorem dL_law_446 : decode cL_law 446 = .ok (.aload_n 2, 1) := by decide +kernel
theorem dL_law_447 : decode cL_law 447 = .ok (.aload_n 0, 1) := by decide +kernel
theorem dL_law_448 : decode cL_law 448 = .ok (.iload_n 3, 1) := by decide +kernel
theorem dL_law_449 : decode cL_law 449 = .ok (.iconst 1, 1) := by decide +kernel
theorem dL_law_450 : decode cL_law 450 = .ok (.iadd, 1) := by decide +kernel
theorem dL_law_451 : decode cL_law 451 = .ok (.iaload, 1) := by decide +kernel
theorem dL_law_452 : decode cL_law 452 = .ok (.invokevirtual 62, 3) := by decide +kernel
theorem dL_law_455 : decode cL_law 455 = .ok (.if_icmp .eq 812, 3) := by decide +kernel
theorem dL_law_458 : decode cL_law 458 = .ok (.iconst 0, 1) := by decide +kernel
theorem dL_law_459 : decode cL_law 459 = .ok (.ireturn, 1) := by decide +kernel
theorem dL_law_460 : decode cL_law 460 = .ok (.aload_n 1, 1) := by decide +kernel
theorem dL_law_461 : decode cL_law 461 = .ok (.aload_n 0, 1) := by decide +kernel
theorem dL_law_462 : decode cL_law 462 = .ok (.iload_n 3, 1) := by decide +kernel
theorem dL_law_463 : decode cL_law 463 = .ok (.iconst 1, 1) := by decide +kernel
theorem dL_law_464 : decode cL_law 464 = .ok (.iadd, 1) := by decide +kernel
theorem dL_law_465 : decode cL_law 465 = .ok (.iaload, 1) := by decide +kernel
theorem dL_law_466 : decode cL_law 466 = .ok (.aload_n 0, 1) := by decide +kernel
theorem dL_law_467 : decode cL_law 467 = .ok (.iload_n 3, 1) := by decide +kernel
theorem dL_law_468 : decode cL_law 468 = .ok (.iconst 2, 1) := by decide +kernel
theorem dL_law_469 : decode cL_law 469 = .ok (.iadd, 1) := by decide +kernel
theorem dL_law_470 : decode cL_law 470 = .ok (.iaload, 1) := by decide +kernel
theorem dL_law_471 : decode cL_law 471 = .ok (.aload_n 0, 1) := by decide +kernel
theorem dL_law_472 : decode cL_law 472 = .ok (.iload_n 3, 1) := by decide +kernel
theorem dL_law_473 : decode cL_law 473 = .ok (.iconst 3, 1) := by decide +kernel
theorem dL_law_474 : decode cL_law 474 = .ok (.iadd, 1) := by decide +kernel
theorem dL_law_475 : decode cL_law 475 = .ok (.iaload, 1) := by decide +kernel
theorem dL_law_476 : decode cL_law 476 = .ok (.aload_n 0, 1) := by decide +kernel
theorem dL_law_477 : decode cL_law 477 = .ok (.iload_n 3, 1) := by decide +kernel
theorem dL_law_478 : decode cL_law 478 = .ok (.iconst 4, 1) := by decide +kernel
theorem dL_law_479 : decode cL_law 479 = .ok (.iadd, 1) := by decide +kernel
theorem dL_law_480 : decode cL_law 480 = .ok (.iaload, 1) := by decide +kernel
theorem dL_law_481 : decode cL_law 481 = .ok (.aload_n 0, 1) := by decide +kernel
theorem dL_law_482 : decode cL_law 482 = .ok (.iload_n 3, 1) := by decide +kernel
theorem dL_law_483 : decode cL_law 483 = .ok (.iconst 5, 1) := by decide +kernel
theorem dL_law_484 : decode cL_law 484 = .ok (.iadd, 1) := by decide +kernel
theorem dL_law_485 : decode cL_law 485 = .ok (.iaload, 1) := by decide +kernel
theorem dL_law_486 : decode cL_law 486 = .ok (.invokevirtual 63, 3) := by decide +kernel
theorem dL_law_489 : decode cL_law 489 = .ok (.aload_n 2, 1) := by decide +kernel
theorem dL_law_490 : decode cL_law 490 = .ok (.aload_n 0, 1) := by decide +kernel
theorem dL_law_491 : decode cL_law 491 = .ok (.iload_n 3, 1) := by decide +kernel
theorem dL_law_492 : decode cL_law 492 = .ok (.iconst 1, 1) := by decide +kernel
theorem dL_law_493 : decode cL_law 493 = .ok (.iadd, 1) := by decide +kernel
theorem dL_law_494 : decode cL_law 494 = .ok (.iaload, 1) := by decide +kernel
theorem dL_law_495 : decode cL_law 495 = .ok (.aload_n 0, 1) := by decide +kernel
theorem dL_law_496 : decode cL_law 496 = .ok (.iload_n 3, 1) := by decide +kernel
theorem dL_law_497 : decode cL_law 497 = .ok (.iconst 2, 1) := by decide +kernel
theorem dL_law_498 : decode cL_law 498 = .ok (.iadd, 1) := by decide +kernel
theorem dL_law_499 : decode cL_law 499 = .ok (.iaload, 1) := by decide +kernel
theorem dL_law_500 : decode cL_law 500 = .ok (.aload_n 0, 1) := by decide +kernel
theorem dL_law_501 : decode cL_law 501 = .ok (.iload_n 3, 1) := by decide +kernel
theorem dL_law_502 : decode cL_law 502 = .ok (.iconst 3, 1) := by decide +kernel
theorem dL_law_503 : decode cL_law 503 = .ok (.iadd, 1) := by decide +kernel
theorem dL_law_504 : decode cL_law 504 = .ok (.iaload, 1) := by decide +kernel
theorem dL_law_505 : decode cL_law 505 = .ok (.aload_n 0, 1) := by decide +kernel
theorem dL_law_506 : decode cL_law 506 = .ok (.iload_n 3, 1) := by decide +kernel
theorem dL_law_507 : decode cL_law 507 = .ok (.iconst 4, 1) := by decide +kernel
theorem dL_law_508 : decode cL_law 508 = .ok (.iadd, 1) := by decide +kernel
theorem dL_law_509 : decode cL_law 509 = .ok (.iaload, 1) := by decide +kernel
theorem dL_law_510 : decode cL_law 510 = .ok (.aload_n 0, 1) := by decide +kernel
theorem dL_law_511 : decode cL_law 511 = .ok (.iload_n 3, 1) := by decide +kernel
theorem dL_law_512 : decode cL_law 512 = .ok (.iconst 5, 1) := by decide +kernel
theorem dL_law_513 : decode cL_law 513 = .ok (.iadd, 1) := by decide +kernel
theorem dL_law_514 : decode cL_law 514 = .ok (.iaload, 1) := by decide +kernel
theorem dL_law_515 : decode cL_law 515 = .ok (.invokevirtual 67, 3) := by decide +kernel
theorem dL_law_518 : decode cL_law 518 = .ok (.if_icmp .eq 749, 3) := by decide +kernel
theorem dL_law_521 : decode cL_law 521 = .ok (.iconst 0, 1) := by decide +kernel
theorem dL_law_522 : decode cL_law 522 = .ok (.ireturn, 1) := by decide +kernel
theorem dL_law_523 : decode cL_law 523 = .ok (.aload_n 1, 1) := by decide +kernel
theorem dL_law_524 : decode cL_law 524 = .ok (.aload_n 0, 1) := by decide +kernel
theorem dL_law_525 : decode cL_law 525 = .ok (.iload_n 3, 1) := by decide +kernel
theorem dL_law_526 : decode cL_law 526 = .ok (.iconst 1, 1) := by decide +kernel
theorem dL_law_527 : decode cL_law 527 = .ok (.iadd, 1) := by decide +kernel
theorem dL_law_528 : decode cL_law 528 = .ok (.iaload, 1) := by decide +kernel
theorem dL_law_529 : decode cL_law 529 = .ok (.aload_n 0, 1) := by decide +kernel
theorem dL_law_530 : decode cL_law 530 = .ok (.iload_n 3, 1) := by decide +kernel
theorem dL_law_531 : decode cL_law 531 = .ok (.iconst 2, 1) := by decide +kernel
theorem dL_law_532 : decode cL_law 532 = .ok (.iadd, 1) := by decide +kernel
theorem dL_law_533 : decode cL_law 533 = .ok (.iaload, 1) := by decide +kernel
theorem dL_law_534 : decode cL_law 534 = .ok (.aload_n 0, 1) := by decide +kernel
theorem dL_law_535 : decode cL_law 535 = .ok (.iload_n 3, 1) := by decide +kernel
theorem dL_law_536 : decode cL_law 536 = .ok (.iconst 3, 1) := by decide +kernel
theorem dL_law_537 : decode cL_law 537 = .ok (.iadd, 1) := by decide +kernel
theorem dL_law_538 : decode cL_law 538 = .ok (.iaload, 1) := by decide +kernel
theorem dL_law_539 : decode cL_law 539 = .ok (.invokevirtual 68, 3) := by decide +kernel
theorem dL_law_542 : decode cL_law 542 = .ok (.aload_n 2, 1) := by decide +kernel
theorem dL_law_543 : decode cL_law 543 = .ok (.aload_n 0, 1) := by decide +kernel
theorem dL_law_544 : decode cL_law 544 = .ok (.iload_n 3, 1) := by decide +kernel
theorem dL_law_545 : decode cL_law 545 = .ok (.iconst 1, 1) := by decide +kernel
theorem dL_law_546 : decode cL_law 546 = .ok (.iadd, 1) := by decide +kernel
theorem dL_law_547 : decode cL_law 547 = .ok (.iaload, 1) := by decide +kernel
theorem dL_law_548 : decode cL_law 548 = .ok (.aload_n 0, 1) := by decide +kernel
theorem dL_law_549 : decode cL_law 549 = .ok (.iload_n 3, 1) := by decide +kernel
theorem dL_law_550 : decode cL_law 550 = .ok (.iconst 2, 1) := by decide +kernel
theorem dL_law_551 : decode cL_law 551 = .ok (.iadd, 1) := by decide +kernel
theorem dL_law_552 : decode cL_law 552 = .ok (.iaload, 1) := by decide +kernel
theorem dL_law_553 : decode cL_law 553 = .ok (.aload_n 0, 1) := by decide +kernel
theorem dL_law_554 : decode cL_law 554 = .ok (.iload_n 3, 1) := by decide +kernel
theorem dL_law_555 : decode cL_law 555 = .ok (.iconst 3, 1) := by decide +kernel
theorem dL_law_556 : decode cL_law 556 = .ok (.iadd, 1) := by decide +kernel
theorem dL_law_557 : decode cL_law 557 = .ok (.iaload, 1) := by decide +kernel
theorem dL_law_558 : decode cL_law 558 = .ok (.invokevirtual 71, 3) := by decide +kernel
theorem dL_law_561 : decode cL_law 561 = .ok (.if_icmp .eq 706, 3) := by decide +kernel
theorem dL_law_564 : decode cL_law 564 = .ok (.iconst 0, 1) := by decide +kernel
theorem dL_law_565 : decode cL_law 565 = .ok (.ireturn, 1) := by decide +kernel
theorem dL_law_566 : decode cL_law 566 = .ok (.aload_n 1, 1) := by decide +kernel
theorem dL_law_567 : decode cL_law 567 = .ok (.aload_n 0, 1) := by decide +kernel
theorem dL_law_568 : decode cL_law 568 = .ok (.iload_n 3, 1) := by decide +kernel
theorem dL_law_569 : decode cL_law 569 = .ok (.iconst 1, 1) := by decide +kernel
theorem dL_law_570 : decode cL_law 570 = .ok (.iadd, 1) := by decide +kernel
theorem dL_law_571 : decode cL_law 571 = .ok (.iaload, 1) := by decide +kernel
theorem dL_law_572 : decode cL_law 572 = .ok (.aload_n 0, 1) := by decide +kernel
theorem dL_law_573 : decode cL_law 573 = .ok (.iload_n 3, 1) := by decide +kernel
theorem dL_law_574 : decode cL_law 574 = .ok (.iconst 2, 1) := by decide +kernel
theorem dL_law_575 : decode cL_law 575 = .ok (.iadd, 1) := by decide +kernel
theorem dL_law_576 : decode cL_law 576 = .ok (.iaload, 1) := by decide +kernel
theorem dL_law_577 : decode cL_law 577 = .ok (.aload_n 0, 1) := by decide +kernel
theorem dL_law_578 : decode cL_law 578 = .ok (.iload_n 3, 1) := by decide +kernel
theorem dL_law_579 : decode cL_law 579 = .ok (.iconst 3, 1) := by decide +kernel
theorem dL_law_580 : decode cL_law 580 = .ok (.iadd, 1) := by decide +kernel
theorem dL_law_581 : decode cL_law 581 = .ok (.iaload, 1) := by decide +kernel
theorem dL_law_582 : decode cL_law 582 = .ok (.invokevirtual 72, 3) := by decide +kernel
theorem dL_law_585 : decode cL_law 585 = .ok (.aload_n 2, 1) := by decide +kernel
theorem dL_law_586 : decode cL_law 586 = .ok (.aload_n 0, 1) := by decide +kernel
theorem dL_law_587 : decode cL_law 587 = .ok (.iload_n 3, 1) := by decide +kernel
theorem dL_law_588 : decode cL_law 588 = .ok (.iconst 1, 1) := by decide +kernel
theorem dL_law_589 : decode cL_law 589 = .ok (.iadd, 1) := by decide +kernel
theorem dL_law_590 : decode cL_law 590 = .ok (.iaload, 1) := by decide +kernel
theorem dL_law_591 : decode cL_law 591 = .ok (.aload_n 0, 1) := by decide +kernel
theorem dL_law_592 : decode cL_law 592 = .ok (.iload_n 3, 1) := by decide +kernel
theorem dL_law_593 : decode cL_law 593 = .ok (.iconst 2, 1) := by decide +kernel
theorem dL_law_594 : decode cL_law 594 = .ok (.iadd, 1) := by decide +kernel
theorem dL_law_595 : decode cL_law 595 = .ok (.iaload, 1) := by decide +kernel
theorem dL_law_596 : decode cL_law 596 = .ok (.aload_n 0, 1) := by decide +kernel
theorem dL_law_597 : decode cL_law 597 = .ok (.iload_n 3, 1) := by decide +kernel
theorem dL_law_598 : decode cL_law 598 = .ok (.iconst 3, 1) := by decide +kernel
theorem dL_law_599 : decode cL_law 599 = .ok (.iadd, 1) := by decide +kernel
theorem dL_law_600 : decode cL_law 600 = .ok (.iaload, 1) := by decide +kernel
theorem dL_law_601 : decode cL_law 601 = .ok (.invokevirtual 75, 3) := by decide +kernel
theorem dL_law_604 : decode cL_law 604 = .ok (.if_icmp .eq 663, 3) := by decide +kernel
theorem dL_law_607 : decode cL_law 607 = .ok (.iconst 0, 1) := by decide +kernel
theorem dL_law_608 : decode cL_law 608 = .ok (.ireturn, 1) := by decide +kernel
theorem dL_law_609 : decode cL_law 609 = .ok (.aload_n 1, 1) := by decide +kernel
theorem dL_law_610 : decode cL_law 610 = .ok (.aload_n 0, 1) := by decide +kernel
theorem dL_law_611 : decode cL_law 611 = .ok (.iload_n 3, 1) := by decide +kernel
theorem dL_law_612 : decode cL_law 612 = .ok (.iconst 1, 1) := by decide +kernel
theorem dL_law_613 : decode cL_law 613 = .ok (.iadd, 1) := by decide +kernel
theorem dL_law_614 : decode cL_law 614 = .ok (.iaload, 1) := by decide +kernel
theorem dL_law_615 : decode cL_law 615 = .ok (.aload_n 0, 1) := by decide +kernel
theorem dL_law_616 : decode cL_law 616 = .ok (.iload_n 3, 1) := by decide +kernel
theorem dL_law_617 : decode cL_law 617 = .ok (.iconst 2, 1) := by decide +kernel
theorem dL_law_618 : decode cL_law 618 = .ok (.iadd, 1) := by decide +kernel
theorem dL_law_619 : decode cL_law 619 = .ok (.iaload, 1) := by decide +kernel
theorem dL_law_620 : decode cL_law 620 = .ok (.aload_n 0, 1) := by decide +kernel
theorem dL_law_621 : decode cL_law 621 = .ok (.iload_n 3, 1) := by decide +kernel
theorem dL_law_622 : decode cL_law 622 = .ok (.iconst 3, 1) := by decide +kernel
theorem dL_law_623 : decode cL_law 623 = .ok (.iadd, 1) := by decide +kernel
theorem dL_law_624 : decode cL_law 624 = .ok (.iaload, 1) := by decide +kernel
theorem dL_law_625 : decode cL_law 625 = .ok (.invokevirtual 76, 3) := by decide +kernel
theorem dL_law_628 : decode cL_law 628 = .ok (.aload_n 2, 1) := by decide +kernel
theorem dL_law_629 : decode cL_law 629 = .ok (.aload_n 0, 1) := by decide +kernel
theorem dL_law_630 : decode cL_law 630 = .ok (.iload_n 3, 1) := by decide +kernel
theorem dL_law_631 : decode cL_law 631 = .ok (.iconst 1, 1) := by decide +kernel
theorem dL_law_632 : decode cL_law 632 = .ok (.iadd, 1) := by decide +kernel
theorem dL_law_633 : decode cL_law 633 = .ok (.iaload, 1) := by decide +kernel
theorem dL_law_634 : decode cL_law 634 = .ok (.aload_n 0, 1) := by decide +kernel
theorem dL_law_635 : decode cL_law 635 = .ok (.iload_n 3, 1) := by decide +kernel
theorem dL_law_636 : decode cL_law 636 = .ok (.iconst 2, 1) := by decide +kernel
theorem dL_law_637 : decode cL_law 637 = .ok (.iadd, 1) := by decide +kernel
theorem dL_law_638 : decode cL_law 638 = .ok (.iaload, 1) := by decide +kernel
theorem dL_law_639 : decode cL_law 639 = .ok (.aload_n 0, 1) := by decide +kernel
theorem dL_law_640 : decode cL_law 640 = .ok (.iload_n 3, 1) := by decide +kernel
theorem dL_law_641 : decode cL_law 641 = .ok (.iconst 3, 1) := by decide +kernel
theorem dL_law_642 : decode cL_law 642 = .ok (.iadd, 1) := by decide +kernel
theorem dL_law_643 : decode cL_law 643 = .ok (.iaload, 1) := by decide +kernel
theorem dL_law_644 : decode cL_law 644 = .ok (.invokevirtual 79, 3) := by decide +kernel
theorem dL_law_647 : decode cL_law 647 = .ok (.if_icmp .eq 620, 3) := by decide +kernel
theorem dL_law_650 : decode cL_law 650 = .ok (.iconst 0, 1) := by decide +kernel
theorem dL_law_651 : decode cL_law 651 = .ok (.ireturn, 1) := by decide +kernel
theorem dL_law_652 : decode cL_law 652 = .ok (.aload_n 1, 1) := by decide +kernel
theorem dL_law_653 : decode cL_law 653 = .ok (.aload_n 0, 1) := by decide +kernel
theorem dL_law_654 : decode cL_law 654 = .ok (.iload_n 3, 1) := by decide +kernel
theorem dL_law_655 : decode cL_law 655 = .ok (.iconst 1, 1) := by decide +kernel
theorem dL_law_656 : decode cL_law 656 = .ok (.iadd, 1) := by decide +kernel
theorem dL_law_657 : decode cL_law 657 = .ok (.iaload, 1) := by decide +kernel
theorem dL_law_658 : decode cL_law 658 = .ok (.invokevirtual 80, 3) := by decide +kernel
theorem dL_law_661 : decode cL_law 661 = .ok (.aload_n 2, 1) := by decide +kernel
theorem dL_law_662 : decode cL_law 662 = .ok (.aload_n 0, 1) := by decide +kernel
theorem dL_law_663 : decode cL_law 663 = .ok (.iload_n 3, 1) := by decide +kernel
theorem dL_law_664 : decode cL_law 664 = .ok (.iconst 1, 1) := by decide +kernel
theorem dL_law_665 : decode cL_law 665 = .ok (.iadd, 1) := by decide +kernel
theorem dL_law_666 : decode cL_law 666 = .ok (.iaload, 1) := by decide +kernel
theorem dL_law_667 : decode cL_law 667 = .ok (.invokevirtual 83, 3) := by decide +kernel
theorem dL_law_670 : decode cL_law 670 = .ok (.if_icmp .eq 597, 3) := by decide +kernel
theorem dL_law_673 : decode cL_law 673 = .ok (.iconst 0, 1) := by decide +kernel
theorem dL_law_674 : decode cL_law 674 = .ok (.ireturn, 1) := by decide +kernel
theorem dL_law_675 : decode cL_law 675 = .ok (.aload_n 1, 1) := by decide +kernel
theorem dL_law_676 : decode cL_law 676 = .ok (.aload_n 0, 1) := by decide +kernel
theorem dL_law_677 : decode cL_law 677 = .ok (.iload_n 3, 1) := by decide +kernel
theorem dL_law_678 : decode cL_law 678 = .ok (.iconst 1, 1) := by decide +kernel
theorem dL_law_679 : decode cL_law 679 = .ok (.iadd, 1) := by decide +kernel
theorem dL_law_680 : decode cL_law 680 = .ok (.iaload, 1) := by decide +kernel
theorem dL_law_681 : decode cL_law 681 = .ok (.invokevirtual 84, 3) := by decide +kernel
theorem dL_law_684 : decode cL_law 684 = .ok (.aload_n 2, 1) := by decide +kernel
theorem dL_law_685 : decode cL_law 685 = .ok (.aload_n 0, 1) := by decide +kernel
theorem dL_law_686 : decode cL_law 686 = .ok (.iload_n 3, 1) := by decide +kernel
theorem dL_law_687 : decode cL_law 687 = .ok (.iconst 1, 1) := by decide +kernel
theorem dL_law_688 : decode cL_law 688 = .ok (.iadd, 1) := by decide +kernel
theorem dL_law_689 : decode cL_law 689 = .ok (.iaload, 1) := by decide +kernel
theorem dL_law_690 : decode cL_law 690 = .ok (.invokevirtual 87, 3) := by decide +kernel
theorem dL_law_693 : decode cL_law 693 = .ok (.if_icmp .eq 574, 3) := by decide +kernel
theorem dL_law_696 : decode cL_law 696 = .ok (.iconst 0, 1) := by decide +kernel
theorem dL_law_697 : decode cL_law 697 = .ok (.ireturn, 1) := by decide +kernel
theorem dL_law_698 : decode cL_law 698 = .ok (.aload_n 1, 1) := by decide +kernel
theorem dL_law_699 : decode cL_law 699 = .ok (.aload_n 0, 1) := by decide +kernel
theorem dL_law_700 : decode cL_law 700 = .ok (.iload_n 3, 1) := by decide +kernel
theorem dL_law_701 : decode cL_law 701 = .ok (.iconst 1, 1) := by decide +kernel
theorem dL_law_702 : decode cL_law 702 = .ok (.iadd, 1) := by decide +kernel
theorem dL_law_703 : decode cL_law 703 = .ok (.iaload, 1) := by decide +kernel
theorem dL_law_704 : decode cL_law 704 = .ok (.invokevirtual 88, 3) := by decide +kernel
theorem dL_law_707 : decode cL_law 707 = .ok (.aload_n 2, 1) := by decide +kernel
theorem dL_law_708 : decode cL_law 708 = .ok (.aload_n 0, 1) := by decide +kernel
theorem dL_law_709 : decode cL_law 709 = .ok (.iload_n 3, 1) := by decide +kernel
theorem dL_law_710 : decode cL_law 710 = .ok (.iconst 1, 1) := by decide +kernel
theorem dL_law_711 : decode cL_law 711 = .ok (.iadd, 1) := by decide +kernel
theorem dL_law_712 : decode cL_law 712 = .ok (.iaload, 1) := by decide +kernel
theorem dL_law_713 : decode cL_law 713 = .ok (.invokevirtual 91, 3) := by decide +kernel
theorem dL_law_716 : decode cL_law 716 = .ok (.if_icmp .eq 551, 3) := by decide +kernel
theorem dL_law_719 : decode cL_law 719 = .ok (.iconst 0, 1) := by decide +kernel
theorem dL_law_720 : decode cL_law 720 = .ok (.ireturn, 1) := by decide +kernel
theorem dL_law_721 : decode cL_law 721 = .ok (.aload_n 1, 1) := by decide +kernel
theorem dL_law_722 : decode cL_law 722 = .ok (.aload_n 0, 1) := by decide +kernel
theorem dL_law_723 : decode cL_law 723 = .ok (.iload_n 3, 1) := by decide +kernel
theorem dL_law_724 : decode cL_law 724 = .ok (.iconst 1, 1) := by decide +kernel
theorem dL_law_725 : decode cL_law 725 = .ok (.iadd, 1) := by decide +kernel
theorem dL_law_726 : decode cL_law 726 = .ok (.iaload, 1) := by decide +kernel
theorem dL_law_727 : decode cL_law 727 = .ok (.aload_n 0, 1) := by decide +kernel
theorem dL_law_728 : decode cL_law 728 = .ok (.iload_n 3, 1) := by decide +kernel
theorem dL_law_729 : decode cL_law 729 = .ok (.iconst 2, 1) := by decide +kernel
theorem dL_law_730 : decode cL_law 730 = .ok (.iadd, 1) := by decide +kernel
theorem dL_law_731 : decode cL_law 731 = .ok (.iaload, 1) := by decide +kernel
theorem dL_law_732 : decode cL_law 732 = .ok (.invokevirtual 92, 3) := by decide +kernel
theorem dL_law_735 : decode cL_law 735 = .ok (.aload_n 2, 1) := by decide +kernel
theorem dL_law_736 : decode cL_law 736 = .ok (.aload_n 0, 1) := by decide +kernel
theorem dL_law_737 : decode cL_law 737 = .ok (.iload_n 3, 1) := by decide +kernel
theorem dL_law_738 : decode cL_law 738 = .ok (.iconst 1, 1) := by decide +kernel
theorem dL_law_739 : decode cL_law 739 = .ok (.iadd, 1) := by decide +kernel
theorem dL_law_740 : decode cL_law 740 = .ok (.iaload, 1) := by decide +kernel
theorem dL_law_741 : decode cL_law 741 = .ok (.aload_n 0, 1) := by decide +kernel
theorem dL_law_742 : decode cL_law 742 = .ok (.iload_n 3, 1) := by decide +kernel
theorem dL_law_743 : decode cL_law 743 = .ok (.iconst 2, 1) := by decide +kernel
theorem dL_law_744 : decode cL_law 744 = .ok (.iadd, 1) := by decide +kernel
theorem dL_law_745 : decode cL_law 745 = .ok (.iaload, 1) := by decide +kernel
theorem dL_law_746 : decode cL_law 746 = .ok (.invokevirtual 95, 3) := by decide +kernel
theorem dL_law_749 : decode cL_law 749 = .ok (.if_icmp .eq 518, 3) := by decide +kernel
theorem dL_law_752 : decode cL_law 752 = .ok (.iconst 0, 1) := by decide +kernel
theorem dL_law_753 : decode cL_law 753 = .ok (.ireturn, 1) := by decide +kernel
theorem dL_law_754 : decode cL_law 754 = .ok (.aload_n 1, 1) := by decide +kernel
theorem dL_law_755 : decode cL_law 755 = .ok (.aload_n 0, 1) := by decide +kernel
theorem dL_law_756 : decode cL_law 756 = .ok (.iload_n 3, 1) := by decide +kernel
theorem dL_law_757 : decode cL_law 757 = .ok (.iconst 1, 1) := by decide +kernel
theorem dL_law_758 : decode cL_law 758 = .ok (.iadd, 1) := by decide +kernel
theorem dL_law_759 : decode cL_law 759 = .ok (.iaload, 1) := by decide +kernel
theorem dL_law_760 : decode cL_law 760 = .ok (.aload_n 0, 1) := by decide +kernel
theorem dL_law_761 : decode cL_law 761 = .ok (.iload_n 3, 1) := by decide +kernel
theorem dL_law_762 : decode cL_law 762 = .ok (.iconst 2, 1) := by decide +kernel
theorem dL_law_763 : decode cL_law 763 = .ok (.iadd, 1) := by decide +kernel
theorem dL_law_764 : decode cL_law 764 = .ok (.iaload, 1) := by decide +kernel
theorem dL_law_765 : decode cL_law 765 = .ok (.invokevirtual 96, 3) := by decide +kernel
theorem dL_law_768 : decode cL_law 768 = .ok (.aload_n 2, 1) := by decide +kernel
theorem dL_law_769 : decode cL_law 769 = .ok (.aload_n 0, 1) := by decide +kernel
theorem dL_law_770 : decode cL_law 770 = .ok (.iload_n 3, 1) := by decide +kernel
theorem dL_law_771 : decode cL_law 771 = .ok (.iconst 1, 1) := by decide +kernel
theorem dL_law_772 : decode cL_law 772 = .ok (.iadd, 1) := by decide +kernel
theorem dL_law_773 : decode cL_law 773 = .ok (.iaload, 1) := by decide +kernel
theorem dL_law_774 : decode cL_law 774 = .ok (.aload_n 0, 1) := by decide +kernel
theorem dL_law_775 : decode cL_law 775 = .ok (.iload_n 3, 1) := by decide +kernel
theorem dL_law_776 : decode cL_law 776 = .ok (.iconst 2, 1) := by decide +kernel
theorem dL_law_777 : decode cL_law 777 = .ok (.iadd, 1) := by decide +kernel
theorem dL_law_778 : decode cL_law 778 = .ok (.iaload, 1) := by decide +kernel
theorem dL_law_779 : decode cL_law 779 = .ok (.invokevirtual 99, 3) := by decide +kernel
theorem dL_law_782 : decode cL_law 782 = .ok (.lcmp, 1) := by decide +kernel
theorem dL_law_783 : decode cL_law 783 = .ok (.ifCond .eq 484, 3) := by decide +kernel
theorem dL_law_786 : decode cL_law 786 = .ok (.iconst 0, 1) := by decide +kernel
theorem dL_law_787 : decode cL_law 787 = .ok (.ireturn, 1) := by decide +kernel
theorem dL_law_788 : decode cL_law 788 = .ok (.aload_n 1, 1) := by decide +kernel
theorem dL_law_789 : decode cL_law 789 = .ok (.aload_n 0, 1) := by decide +kernel
theorem dL_law_790 : decode cL_law 790 = .ok (.iload_n 3, 1) := by decide +kernel
theorem dL_law_791 : decode cL_law 791 = .ok (.iconst 1, 1) := by decide +kernel
theorem dL_law_792 : decode cL_law 792 = .ok (.iadd, 1) := by decide +kernel
theorem dL_law_793 : decode cL_law 793 = .ok (.iaload, 1) := by decide +kernel
theorem dL_law_794 : decode cL_law 794 = .ok (.invokevirtual 100, 3) := by decide +kernel
theorem dL_law_797 : decode cL_law 797 = .ok (.aload_n 2, 1) := by decide +kernel
theorem dL_law_798 : decode cL_law 798 = .ok (.aload_n 0, 1) := by decide +kernel
theorem dL_law_799 : decode cL_law 799 = .ok (.iload_n 3, 1) := by decide +kernel
theorem dL_law_800 : decode cL_law 800 = .ok (.iconst 1, 1) := by decide +kernel
theorem dL_law_801 : decode cL_law 801 = .ok (.iadd, 1) := by decide +kernel
theorem dL_law_802 : decode cL_law 802 = .ok (.iaload, 1) := by decide +kernel
theorem dL_law_803 : decode cL_law 803 = .ok (.invokevirtual 103, 3) := by decide +kernel
theorem dL_law_806 : decode cL_law 806 = .ok (.if_icmp .eq 461, 3) := by decide +kernel
theorem dL_law_809 : decode cL_law 809 = .ok (.iconst 0, 1) := by decide +kernel
theorem dL_law_810 : decode cL_law 810 = .ok (.ireturn, 1) := by decide +kernel
theorem dL_law_811 : decode cL_law 811 = .ok (.aload_n 1, 1) := by decide +kernel
theorem dL_law_812 : decode cL_law 812 = .ok (.aload_n 0, 1) := by decide +kernel
theorem dL_law_813 : decode cL_law 813 = .ok (.iload_n 3, 1) := by decide +kernel
theorem dL_law_814 : decode cL_law 814 = .ok (.iconst 1, 1) := by decide +kernel
theorem dL_law_815 : decode cL_law 815 = .ok (.iadd, 1) := by decide +kernel
theorem dL_law_816 : decode cL_law 816 = .ok (.iaload, 1) := by decide +kernel
theorem dL_law_817 : decode cL_law 817 = .ok (.aload_n 0, 1) := by decide +kernel
theorem dL_law_818 : decode cL_law 818 = .ok (.iload_n 3, 1) := by decide +kernel
theorem dL_law_819 : decode cL_law 819 = .ok (.iconst 2, 1) := by decide +kernel
theorem dL_law_820 : decode cL_law 820 = .ok (.iadd, 1) := by decide +kernel
theorem dL_law_821 : decode cL_law 821 = .ok (.iaload, 1) := by decide +kernel
theorem dL_law_822 : decode cL_law 822 = .ok (.aload_n 0, 1) := by decide +kernel
theorem dL_law_823 : decode cL_law 823 = .ok (.iload_n 3, 1) := by decide +kernel
theorem dL_law_824 : decode cL_law 824 = .ok (.iconst 3, 1) := by decide +kernel
theorem dL_law_825 : decode cL_law 825 = .ok (.iadd, 1) := by decide +kernel
theorem dL_law_826 : decode cL_law 826 = .ok (.iaload, 1) := by decide +kernel
theorem dL_law_827 : decode cL_law 827 = .ok (.invokevirtual 104, 3) := by decide +kernel
theorem dL_law_830 : decode cL_law 830 = .ok (.aload_n 2, 1) := by decide +kernel
theorem dL_law_831 : decode cL_law 831 = .ok (.aload_n 0, 1) := by decide +kernel
theorem dL_law_832 : decode cL_law 832 = .ok (.iload_n 3, 1) := by decide +kernel
theorem dL_law_833 : decode cL_law 833 = .ok (.iconst 1, 1) := by decide +kernel
theorem dL_law_834 : decode cL_law 834 = .ok (.iadd, 1) := by decide +kernel
theorem dL_law_835 : decode cL_law 835 = .ok (.iaload, 1) := by decide +kernel
theorem dL_law_836 : decode cL_law 836 = .ok (.aload_n 0, 1) := by decide +kernel
theorem dL_law_837 : decode cL_law 837 = .ok (.iload_n 3, 1) := by decide +kernel
theorem dL_law_838 : decode cL_law 838 = .ok (.iconst 2, 1) := by decide +kernel
theorem dL_law_839 : decode cL_law 839 = .ok (.iadd, 1) := by decide +kernel
theorem dL_law_840 : decode cL_law 840 = .ok (.iaload, 1) := by decide +kernel
theorem dL_law_841 : decode cL_law 841 = .ok (.aload_n 0, 1) := by decide +kernel
theorem dL_law_842 : decode cL_law 842 = .ok (.iload_n 3, 1) := by decide +kernel
theorem dL_law_843 : decode cL_law 843 = .ok (.iconst 3, 1) := by decide +kernel
theorem dL_law_844 : decode cL_law 844 = .ok (.iadd, 1) := by decide +kernel
theorem dL_law_845 : decode cL_law 845 = .ok (.iaload, 1) := by decide +kernel
theorem dL_law_846 : decode cL_law 846 = .ok (.invokevirtual 107, 3) := by decide +kernel
theorem dL_law_849 : decode cL_law 849 = .ok (.if_icmp .eq 418, 3) := by decide +kernel
theorem dL_law_852 : decode cL_law 852 = .ok (.iconst 0, 1) := by decide +kernel
theorem dL_law_853 : decode cL_law 853 = .ok (.ireturn, 1) := by decide +kernel
theorem dL_law_854 : decode cL_law 854 = .ok (.aload_n 1, 1) := by decide +kernel
theorem dL_law_855 : decode cL_law 855 = .ok (.aload_n 0, 1) := by decide +kernel
theorem dL_law_856 : decode cL_law 856 = .ok (.iload_n 3, 1) := by decide +kernel
theorem dL_law_857 : decode cL_law 857 = .ok (.iconst 1, 1) := by decide +kernel
theorem dL_law_858 : decode cL_law 858 = .ok (.iadd, 1) := by decide +kernel
theorem dL_law_859 : decode cL_law 859 = .ok (.iaload, 1) := by decide +kernel
theorem dL_law_860 : decode cL_law 860 = .ok (.aload_n 0, 1) := by decide +kernel
theorem dL_law_861 : decode cL_law 861 = .ok (.iload_n 3, 1) := by decide +kernel
theorem dL_law_862 : decode cL_law 862 = .ok (.iconst 2, 1) := by decide +kernel
theorem dL_law_863 : decode cL_law 863 = .ok (.iadd, 1) := by decide +kernel
theorem dL_law_864 : decode cL_law 864 = .ok (.iaload, 1) := by decide +kernel
theorem dL_law_865 : decode cL_law 865 = .ok (.aload_n 0, 1) := by decide +kernel
theorem dL_law_866 : decode cL_law 866 = .ok (.iload_n 3, 1) := by decide +kernel
theorem dL_law_867 : decode cL_law 867 = .ok (.iconst 3, 1) := by decide +kernel
theorem dL_law_868 : decode cL_law 868 = .ok (.iadd, 1) := by decide +kernel
theorem dL_law_869 : decode cL_law 869 = .ok (.iaload, 1) := by decide +kernel
theorem dL_law_870 : decode cL_law 870 = .ok (.invokevirtual 108, 3) := by decide +kernel
theorem dL_law_873 : decode cL_law 873 = .ok (.aload_n 2, 1) := by decide +kernel
theorem dL_law_874 : decode cL_law 874 = .ok (.aload_n 0, 1) := by decide +kernel
theorem dL_law_875 : decode cL_law 875 = .ok (.iload_n 3, 1) := by decide +kernel
theorem dL_law_876 : decode cL_law 876 = .ok (.iconst 1, 1) := by decide +kernel
theorem dL_law_877 : decode cL_law 877 = .ok (.iadd, 1) := by decide +kernel
theorem dL_law_878 : decode cL_law 878 = .ok (.iaload, 1) := by decide +kernel
theorem dL_law_879 : decode cL_law 879 = .ok (.aload_n 0, 1) := by decide +kernel
theorem dL_law_880 : decode cL_law 880 = .ok (.iload_n 3, 1) := by decide +kernel
theorem dL_law_881 : decode cL_law 881 = .ok (.iconst 2, 1) := by decide +kernel
theorem dL_law_882 : decode cL_law 882 = .ok (.iadd, 1) := by decide +kernel
theorem dL_law_883 : decode cL_law 883 = .ok (.iaload, 1) := by decide +kernel
theorem dL_law_884 : decode cL_law 884 = .ok (.aload_n 0, 1) := by decide +kernel
theorem dL_law_885 : decode cL_law 885 = .ok (.iload_n 3, 1) := by decide +kernel
theorem dL_law_886 : decode cL_law 886 = .ok (.iconst 3, 1) := by decide +kernel
theorem dL_law_887 : decode cL_law 887 = .ok (.iadd, 1) := by decide +kernel
theorem dL_law_888 : decode cL_law 888 = .ok (.iaload, 1) := by decide +kernel
theorem dL_law_889 : decode cL_law 889 = .ok (.invokevirtual 112, 3) := by decide +kernel
theorem dL_law_892 : decode cL_law 892 = .ok (.lcmp, 1) := by decide +kernel
theorem dL_law_893 : decode cL_law 893 = .ok (.ifCond .eq 374, 3) := by decide +kernel
theorem dL_law_896 : decode cL_law 896 = .ok (.iconst 0, 1) := by decide +kernel
theorem dL_law_897 : decode cL_law 897 = .ok (.ireturn, 1) := by decide +kernel
theorem dL_law_898 : decode cL_law 898 = .ok (.aload_n 1, 1) := by decide +kernel
theorem dL_law_899 : decode cL_law 899 = .ok (.aload_n 0, 1) := by decide +kernel
theorem dL_law_900 : decode cL_law 900 = .ok (.iload_n 3, 1) := by decide +kernel
theorem dL_law_901 : decode cL_law 901 = .ok (.iconst 1, 1) := by decide +kernel
theorem dL_law_902 : decode cL_law 902 = .ok (.iadd, 1) := by decide +kernel
theorem dL_law_903 : decode cL_law 903 = .ok (.iaload, 1) := by decide +kernel
theorem dL_law_904 : decode cL_law 904 = .ok (.aload_n 0, 1) := by decide +kernel
theorem dL_law_905 : decode cL_law 905 = .ok (.iload_n 3, 1) := by decide +kernel
theorem dL_law_906 : decode cL_law 906 = .ok (.iconst 2, 1) := by decide +kernel
theorem dL_law_907 : decode cL_law 907 = .ok (.iadd, 1) := by decide +kernel
theorem dL_law_908 : decode cL_law 908 = .ok (.iaload, 1) := by decide +kernel
theorem dL_law_909 : decode cL_law 909 = .ok (.invokevirtual 113, 3) := by decide +kernel
theorem dL_law_912 : decode cL_law 912 = .ok (.aload_n 2, 1) := by decide +kernel
theorem dL_law_913 : decode cL_law 913 = .ok (.aload_n 0, 1) := by decide +kernel
theorem dL_law_914 : decode cL_law 914 = .ok (.iload_n 3, 1) := by decide +kernel
theorem dL_law_915 : decode cL_law 915 = .ok (.iconst 1, 1) := by decide +kernel
theorem dL_law_916 : decode cL_law 916 = .ok (.iadd, 1) := by decide +kernel
theorem dL_law_917 : decode cL_law 917 = .ok (.iaload, 1) := by decide +kernel
theorem dL_law_918 : decode cL_law 918 = .ok (.aload_n 0, 1) := by decide +kernel
theorem dL_law_919 : decode cL_law 919 = .ok (.iload_n 3, 1) := by decide +kernel
theorem dL_law_920 : decode cL_law 920 = .ok (.iconst 2, 1) := by decide +kernel
theorem dL_law_921 : decode cL_law 921 = .ok (.iadd, 1) := by decide +kernel
theorem dL_law_922 : decode cL_law 922 = .ok (.iaload, 1) := by decide +kernel
theorem dL_law_923 : decode cL_law 923 = .ok (.invokevirtual 116, 3) := by decide +kernel
theorem dL_law_926 : decode cL_law 926 = .ok (.if_icmp .eq 341, 3) := by decide +kernel
theorem dL_law_929 : decode cL_law 929 = .ok (.iconst 0, 1) := by decide +kernel
theorem dL_law_930 : decode cL_law 930 = .ok (.ireturn, 1) := by decide +kernel
theorem dL_law_931 : decode cL_law 931 = .ok (.aload_n 1, 1) := by decide +kernel
theorem dL_law_932 : decode cL_law 932 = .ok (.aload_n 0, 1) := by decide +kernel
theorem dL_law_933 : decode cL_law 933 = .ok (.iload_n 3, 1) := by decide +kernel
theorem dL_law_934 : decode cL_law 934 = .ok (.iconst 1, 1) := by decide +kernel
theorem dL_law_935 : decode cL_law 935 = .ok (.iadd, 1) := by decide +kernel
theorem dL_law_936 : decode cL_law 936 = .ok (.iaload, 1) := by decide +kernel
theorem dL_law_937 : decode cL_law 937 = .ok (.aload_n 0, 1) := by decide +kernel
theorem dL_law_938 : decode cL_law 938 = .ok (.iload_n 3, 1) := by decide +kernel
theorem dL_law_939 : decode cL_law 939 = .ok (.iconst 2, 1) := by decide +kernel
theorem dL_law_940 : decode cL_law 940 = .ok (.iadd, 1) := by decide +kernel
theorem dL_law_941 : decode cL_law 941 = .ok (.iaload, 1) := by decide +kernel
theorem dL_law_942 : decode cL_law 942 = .ok (.aload_n 0, 1) := by decide +kernel
theorem dL_law_943 : decode cL_law 943 = .ok (.iload_n 3, 1) := by decide +kernel
theorem dL_law_944 : decode cL_law 944 = .ok (.iconst 3, 1) := by decide +kernel
theorem dL_law_945 : decode cL_law 945 = .ok (.iadd, 1) := by decide +kernel
theorem dL_law_946 : decode cL_law 946 = .ok (.iaload, 1) := by decide +kernel
theorem dL_law_947 : decode cL_law 947 = .ok (.invokevirtual 117, 3) := by decide +kernel
theorem dL_law_950 : decode cL_law 950 = .ok (.aload_n 2, 1) := by decide +kernel
theorem dL_law_951 : decode cL_law 951 = .ok (.aload_n 0, 1) := by decide +kernel
theorem dL_law_952 : decode cL_law 952 = .ok (.iload_n 3, 1) := by decide +kernel
theorem dL_law_953 : decode cL_law 953 = .ok (.iconst 1, 1) := by decide +kernel
theorem dL_law_954 : decode cL_law 954 = .ok (.iadd, 1) := by decide +kernel
theorem dL_law_955 : decode cL_law 955 = .ok (.iaload, 1) := by decide +kernel
theorem dL_law_956 : decode cL_law 956 = .ok (.aload_n 0, 1) := by decide +kernel
theorem dL_law_957 : decode cL_law 957 = .ok (.iload_n 3, 1) := by decide +kernel
theorem dL_law_958 : decode cL_law 958 = .ok (.iconst 2, 1) := by decide +kernel
theorem dL_law_959 : decode cL_law 959 = .ok (.iadd, 1) := by decide +kernel
theorem dL_law_960 : decode cL_law 960 = .ok (.iaload, 1) := by decide +kernel
theorem dL_law_961 : decode cL_law 961 = .ok (.aload_n 0, 1) := by decide +kernel
theorem dL_law_962 : decode cL_law 962 = .ok (.iload_n 3, 1) := by decide +kernel
theorem dL_law_963 : decode cL_law 963 = .ok (.iconst 3, 1) := by decide +kernel
theorem dL_law_964 : decode cL_law 964 = .ok (.iadd, 1) := by decide +kernel
theorem dL_law_965 : decode cL_law 965 = .ok (.iaload, 1) := by decide +kernel
theorem dL_law_966 : decode cL_law 966 = .ok (.invokevirtual 120, 3) := by decide +kernel
theorem dL_law_969 : decode cL_law 969 = .ok (.if_icmp .eq 298, 3) := by decide +kernel
theorem dL_law_972 : decode cL_law 972 = .ok (.iconst 0, 1) := by decide +kernel
theorem dL_law_973 : decode cL_law 973 = .ok (.ireturn, 1) := by decide +kernel
theorem dL_law_974 : decode cL_law 974 = .ok (.aload_n 1, 1) := by decide +kernel
theorem dL_law_975 : decode cL_law 975 = .ok (.aload_n 0, 1) := by decide +kernel
theorem dL_law_976 : decode cL_law 976 = .ok (.iload_n 3, 1) := by decide +kernel
theorem dL_law_977 : decode cL_law 977 = .ok (.iconst 1, 1) := by decide +kernel
theorem dL_law_978 : decode cL_law 978 = .ok (.iadd, 1) := by decide +kernel
theorem dL_law_979 : decode cL_law 979 = .ok (.iaload, 1) := by decide +kernel
theorem dL_law_980 : decode cL_law 980 = .ok (.aload_n 0, 1) := by decide +kernel
theorem dL_law_981 : decode cL_law 981 = .ok (.iload_n 3, 1) := by decide +kernel
theorem dL_law_982 : decode cL_law 982 = .ok (.iconst 2, 1) := by decide +kernel
theorem dL_law_983 : decode cL_law 983 = .ok (.iadd, 1) := by decide +kernel
theorem dL_law_984 : decode cL_law 984 = .ok (.iaload, 1) := by decide +kernel
theorem dL_law_985 : decode cL_law 985 = .ok (.aload_n 0, 1) := by decide +kernel
theorem dL_law_986 : decode cL_law 986 = .ok (.iload_n 3, 1) := by decide +kernel
theorem dL_law_987 : decode cL_law 987 = .ok (.iconst 3, 1) := by decide +kernel
theorem dL_law_988 : decode cL_law 988 = .ok (.iadd, 1) := by decide +kernel
theorem dL_law_989 : decode cL_law 989 = .ok (.iaload, 1) := by decide +kernel
theorem dL_law_990 : decode cL_law 990 = .ok (.invokevirtual 121, 3) := by decide +kernel
theorem dL_law_993 : decode cL_law 993 = .ok (.aload_n 2, 1) := by decide +kernel
theorem dL_law_994 : decode cL_law 994 = .ok (.aload_n 0, 1) := by decide +kernel
theorem dL_law_995 : decode cL_law 995 = .ok (.iload_n 3, 1) := by decide +kernel
theorem dL_law_996 : decode cL_law 996 = .ok (.iconst 1, 1) := by decide +kernel
theorem dL_law_997 : decode cL_law 997 = .ok (.iadd, 1) := by decide +kernel
theorem dL_law_998 : decode cL_law 998 = .ok (.iaload, 1) := by decide +kernel
theorem dL_law_999 : decode cL_law 999 = .ok (.aload_n 0, 1) := by decide +kernel
theorem dL_law_1000 : decode cL_law 1000 = .ok (.iload_n 3, 1) := by decide +kernel
theorem dL_law_1001 : decode cL_law 1001 = .ok (.iconst 2, 1) := by decide +kernel
theorem dL_law_1002 : decode cL_law 1002 = .ok (.iadd, 1) := by decide +kernel
theorem dL_law_1003 : decode cL_law 1003 = .ok (.iaload, 1) := by decide +kernel
theorem dL_law_1004 : decode cL_law 1004 = .ok (.aload_n 0, 1) := by decide +kernel
theorem dL_law_1005 : decode cL_law 1005 = .ok (.iload_n 3, 1) := by decide +kernel
theorem dL_law_1006 : decode cL_law 1006 = .ok (.iconst 3, 1) := by decide +kernel
theorem dL_law_1007 : decode cL_law 1007 = .ok (.iadd, 1) := by decide +kernel
theorem dL_law_1008 : decode cL_law 1008 = .ok (.iaload, 1) := by decide +kernel
theorem dL_law_1009 : decode cL_law 1009 = .ok (.invokevirtual 124, 3) := by decide +kernel
theorem dL_law_1012 : decode cL_law 1012 = .ok (.lcmp, 1) := by decide +kernel
theorem dL_law_1013 : decode cL_law 1013 = .ok (.ifCond .eq 254, 3) := by decide +kernel
theorem dL_law_1016 : decode cL_law 1016 = .ok (.iconst 0, 1) := by decide +kernel
theorem dL_law_1017 : decode cL_law 1017 = .ok (.ireturn, 1) := by decide +kernel
theorem dL_law_1018 : decode cL_law 1018 = .ok (.aload_n 1, 1) := by decide +kernel
theorem dL_law_1019 : decode cL_law 1019 = .ok (.aload_n 0, 1) := by decide +kernel
theorem dL_law_1020 : decode cL_law 1020 = .ok (.iload_n 3, 1) := by decide +kernel
theorem dL_law_1021 : decode cL_law 1021 = .ok (.iconst 1, 1) := by decide +kernel
theorem dL_law_1022 : decode cL_law 1022 = .ok (.iadd, 1) := by decide +kernel
theorem dL_law_1023 : decode cL_law 1023 = .ok (.iaload, 1) := by decide +kernel
theorem dL_law_1024 : decode cL_law 1024 = .ok (.aload_n 0, 1) := by decide +kernel
theorem dL_law_1025 : decode cL_law 1025 = .ok (.iload_n 3, 1) := by decide +kernel
theorem dL_law_1026 : decode cL_law 1026 = .ok (.iconst 2, 1) := by decide +kernel
theorem dL_law_1027 : decode cL_law 1027 = .ok (.iadd, 1) := by decide +kernel
theorem dL_law_1028 : decode cL_law 1028 = .ok (.iaload, 1) := by decide +kernel
theorem dL_law_1029 : decode cL_law 1029 = .ok (.aload_n 0, 1) := by decide +kernel
theorem dL_law_1030 : decode cL_law 1030 = .ok (.iload_n 3, 1) := by decide +kernel
theorem dL_law_1031 : decode cL_law 1031 = .ok (.iconst 3, 1) := by decide +kernel
theorem dL_law_1032 : decode cL_law 1032 = .ok (.iadd, 1) := by decide +kernel
theorem dL_law_1033 : decode cL_law 1033 = .ok (.iaload, 1) := by decide +kernel
theorem dL_law_1034 : decode cL_law 1034 = .ok (.aload_n 0, 1) := by decide +kernel
theorem dL_law_1035 : decode cL_law 1035 = .ok (.iload_n 3, 1) := by decide +kernel
theorem dL_law_1036 : decode cL_law 1036 = .ok (.iconst 4, 1) := by decide +kernel
theorem dL_law_1037 : decode cL_law 1037 = .ok (.iadd, 1) := by decide +kernel
theorem dL_law_1038 : decode cL_law 1038 = .ok (.iaload, 1) := by decide +kernel
theorem dL_law_1039 : decode cL_law 1039 = .ok (.i2l, 1) := by decide +kernel
theorem dL_law_1040 : decode cL_law 1040 = .ok (.bipush 32, 2) := by decide +kernel
theorem dL_law_1042 : decode cL_law 1042 = .ok (.lshl, 1) := by decide +kernel
theorem dL_law_1043 : decode cL_law 1043 = .ok (.aload_n 0, 1) := by decide +kernel
theorem dL_law_1044 : decode cL_law 1044 = .ok (.iload_n 3, 1) := by decide +kernel
theorem dL_law_1045 : decode cL_law 1045 = .ok (.iconst 5, 1) := by decide +kernel
theorem dL_law_1046 : decode cL_law 1046 = .ok (.iadd, 1) := by decide +kernel
theorem dL_law_1047 : decode cL_law 1047 = .ok (.iaload, 1) := by decide +kernel
theorem dL_law_1048 : decode cL_law 1048 = .ok (.i2l, 1) := by decide +kernel
theorem dL_law_1049 : decode cL_law 1049 = .ok (.ldc2_w 125, 3) := by decide +kernel
theorem dL_law_1052 : decode cL_law 1052 = .ok (.land, 1) := by decide +kernel
theorem dL_law_1053 : decode cL_law 1053 = .ok (.lor, 1) := by decide +kernel
theorem dL_law_1054 : decode cL_law 1054 = .ok (.invokevirtual 127, 3) := by decide +kernel
theorem dL_law_1057 : decode cL_law 1057 = .ok (.aload_n 2, 1) := by decide +kernel
theorem dL_law_1058 : decode cL_law 1058 = .ok (.aload_n 0, 1) := by decide +kernel
theorem dL_law_1059 : decode cL_law 1059 = .ok (.iload_n 3, 1) := by decide +kernel
theorem dL_law_1060 : decode cL_law 1060 = .ok (.iconst 1, 1) := by decide +kernel
theorem dL_law_1061 : decode cL_law 1061 = .ok (.iadd, 1) := by decide +kernel
theorem dL_law_1062 : decode cL_law 1062 = .ok (.iaload, 1) := by decide +kernel
theorem dL_law_1063 : decode cL_law 1063 = .ok (.aload_n 0, 1) := by decide +kernel
theorem dL_law_1064 : decode cL_law 1064 = .ok (.iload_n 3, 1) := by decide +kernel
theorem dL_law_1065 : decode cL_law 1065 = .ok (.iconst 2, 1) := by decide +kernel
theorem dL_law_1066 : decode cL_law 1066 = .ok (.iadd, 1) := by decide +kernel
theorem dL_law_1067 : decode cL_law 1067 = .ok (.iaload, 1) := by decide +kernel
theorem dL_law_1068 : decode cL_law 1068 = .ok (.aload_n 0, 1) := by decide +kernel
theorem dL_law_1069 : decode cL_law 1069 = .ok (.iload_n 3, 1) := by decide +kernel
theorem dL_law_1070 : decode cL_law 1070 = .ok (.iconst 3, 1) := by decide +kernel
theorem dL_law_1071 : decode cL_law 1071 = .ok (.iadd, 1) := by decide +kernel
theorem dL_law_1072 : decode cL_law 1072 = .ok (.iaload, 1) := by decide +kernel
theorem dL_law_1073 : decode cL_law 1073 = .ok (.aload_n 0, 1) := by decide +kernel
theorem dL_law_1074 : decode cL_law 1074 = .ok (.iload_n 3, 1) := by decide +kernel
theorem dL_law_1075 : decode cL_law 1075 = .ok (.iconst 4, 1) := by decide +kernel
theorem dL_law_1076 : decode cL_law 1076 = .ok (.iadd, 1) := by decide +kernel
theorem dL_law_1077 : decode cL_law 1077 = .ok (.iaload, 1) := by decide +kernel
theorem dL_law_1078 : decode cL_law 1078 = .ok (.i2l, 1) := by decide +kernel
theorem dL_law_1079 : decode cL_law 1079 = .ok (.bipush 32, 2) := by decide +kernel
theorem dL_law_1081 : decode cL_law 1081 = .ok (.lshl, 1) := by decide +kernel
theorem dL_law_1082 : decode cL_law 1082 = .ok (.aload_n 0, 1) := by decide +kernel
theorem dL_law_1083 : decode cL_law 1083 = .ok (.iload_n 3, 1) := by decide +kernel
theorem dL_law_1084 : decode cL_law 1084 = .ok (.iconst 5, 1) := by decide +kernel
theorem dL_law_1085 : decode cL_law 1085 = .ok (.iadd, 1) := by decide +kernel
theorem dL_law_1086 : decode cL_law 1086 = .ok (.iaload, 1) := by decide +kernel
theorem dL_law_1087 : decode cL_law 1087 = .ok (.i2l, 1) := by decide +kernel
theorem dL_law_1088 : decode cL_law 1088 = .ok (.ldc2_w 125, 3) := by decide +kernel
theorem dL_law_1091 : decode cL_law 1091 = .ok (.land, 1) := by decide +kernel
theorem dL_law_1092 : decode cL_law 1092 = .ok (.lor, 1) := by decide +kernel
theorem dL_law_1093 : decode cL_law 1093 = .ok (.invokevirtual 131, 3) := by decide +kernel
theorem dL_law_1096 : decode cL_law 1096 = .ok (.if_icmp .eq 171, 3) := by decide +kernel
theorem dL_law_1099 : decode cL_law 1099 = .ok (.iconst 0, 1) := by decide +kernel
theorem dL_law_1100 : decode cL_law 1100 = .ok (.ireturn, 1) := by decide +kernel
theorem dL_law_1101 : decode cL_law 1101 = .ok (.aload_n 1, 1) := by decide +kernel
theorem dL_law_1102 : decode cL_law 1102 = .ok (.aload_n 0, 1) := by decide +kernel
theorem dL_law_1103 : decode cL_law 1103 = .ok (.iload_n 3, 1) := by decide +kernel
theorem dL_law_1104 : decode cL_law 1104 = .ok (.iconst 1, 1) := by decide +kernel
theorem dL_law_1105 : decode cL_law 1105 = .ok (.iadd, 1) := by decide +kernel
theorem dL_law_1106 : decode cL_law 1106 = .ok (.iaload, 1) := by decide +kernel
theorem dL_law_1107 : decode cL_law 1107 = .ok (.aload_n 0, 1) := by decide +kernel
theorem dL_law_1108 : decode cL_law 1108 = .ok (.iload_n 3, 1) := by decide +kernel
theorem dL_law_1109 : decode cL_law 1109 = .ok (.iconst 2, 1) := by decide +kernel
theorem dL_law_1110 : decode cL_law 1110 = .ok (.iadd, 1) := by decide +kernel
theorem dL_law_1111 : decode cL_law 1111 = .ok (.iaload, 1) := by decide +kernel
theorem dL_law_1112 : decode cL_law 1112 = .ok (.aload_n 0, 1) := by decide +kernel
theorem dL_law_1113 : decode cL_law 1113 = .ok (.iload_n 3, 1) := by decide +kernel
theorem dL_law_1114 : decode cL_law 1114 = .ok (.iconst 3, 1) := by decide +kernel
theorem dL_law_1115 : decode cL_law 1115 = .ok (.iadd, 1) := by decide +kernel
theorem dL_law_1116 : decode cL_law 1116 = .ok (.iaload, 1) := by decide +kernel
theorem dL_law_1117 : decode cL_law 1117 = .ok (.invokevirtual 132, 3) := by decide +kernel
theorem dL_law_1120 : decode cL_law 1120 = .ok (.aload_n 2, 1) := by decide +kernel
theorem dL_law_1121 : decode cL_law 1121 = .ok (.aload_n 0, 1) := by decide +kernel
theorem dL_law_1122 : decode cL_law 1122 = .ok (.iload_n 3, 1) := by decide +kernel
theorem dL_law_1123 : decode cL_law 1123 = .ok (.iconst 1, 1) := by decide +kernel
theorem dL_law_1124 : decode cL_law 1124 = .ok (.iadd, 1) := by decide +kernel
theorem dL_law_1125 : decode cL_law 1125 = .ok (.iaload, 1) := by decide +kernel
theorem dL_law_1126 : decode cL_law 1126 = .ok (.aload_n 0, 1) := by decide +kernel
theorem dL_law_1127 : decode cL_law 1127 = .ok (.iload_n 3, 1) := by decide +kernel
theorem dL_law_1128 : decode cL_law 1128 = .ok (.iconst 2, 1) := by decide +kernel
theorem dL_law_1129 : decode cL_law 1129 = .ok (.iadd, 1) := by decide +kernel
theorem dL_law_1130 : decode cL_law 1130 = .ok (.iaload, 1) := by decide +kernel
theorem dL_law_1131 : decode cL_law 1131 = .ok (.aload_n 0, 1) := by decide +kernel
theorem dL_law_1132 : decode cL_law 1132 = .ok (.iload_n 3, 1) := by decide +kernel
theorem dL_law_1133 : decode cL_law 1133 = .ok (.iconst 3, 1) := by decide +kernel
theorem dL_law_1134 : decode cL_law 1134 = .ok (.iadd, 1) := by decide +kernel
theorem dL_law_1135 : decode cL_law 1135 = .ok (.iaload, 1) := by decide +kernel
theorem dL_law_1136 : decode cL_law 1136 = .ok (.invokevirtual 135, 3) := by decide +kernel
theorem dL_law_1139 : decode cL_law 1139 = .ok (.lcmp, 1) := by decide +kernel
theorem dL_law_1140 : decode cL_law 1140 = .ok (.ifCond .eq 127, 3) := by decide +kernel
theorem dL_law_1143 : decode cL_law 1143 = .ok (.iconst 0, 1) := by decide +kernel
theorem dL_law_1144 : decode cL_law 1144 = .ok (.ireturn, 1) := by decide +kernel
theorem dL_law_1145 : decode cL_law 1145 = .ok (.aload_n 1, 1) := by decide +kernel
theorem dL_law_1146 : decode cL_law 1146 = .ok (.aload_n 0, 1) := by decide +kernel
theorem dL_law_1147 : decode cL_law 1147 = .ok (.iload_n 3, 1) := by decide +kernel
theorem dL_law_1148 : decode cL_law 1148 = .ok (.iconst 1, 1) := by decide +kernel
theorem dL_law_1149 : decode cL_law 1149 = .ok (.iadd, 1) := by decide +kernel
theorem dL_law_1150 : decode cL_law 1150 = .ok (.iaload, 1) := by decide +kernel
theorem dL_law_1151 : decode cL_law 1151 = .ok (.invokevirtual 136, 3) := by decide +kernel
theorem dL_law_1154 : decode cL_law 1154 = .ok (.aload_n 2, 1) := by decide +kernel
theorem dL_law_1155 : decode cL_law 1155 = .ok (.aload_n 0, 1) := by decide +kernel
theorem dL_law_1156 : decode cL_law 1156 = .ok (.iload_n 3, 1) := by decide +kernel
theorem dL_law_1157 : decode cL_law 1157 = .ok (.iconst 1, 1) := by decide +kernel
theorem dL_law_1158 : decode cL_law 1158 = .ok (.iadd, 1) := by decide +kernel
theorem dL_law_1159 : decode cL_law 1159 = .ok (.iaload, 1) := by decide +kernel
theorem dL_law_1160 : decode cL_law 1160 = .ok (.invokevirtual 139, 3) := by decide +kernel
theorem dL_law_1163 : decode cL_law 1163 = .ok (.if_icmp .eq 104, 3) := by decide +kernel
theorem dL_law_1166 : decode cL_law 1166 = .ok (.iconst 0, 1) := by decide +kernel
theorem dL_law_1167 : decode cL_law 1167 = .ok (.ireturn, 1) := by decide +kernel
theorem dL_law_1168 : decode cL_law 1168 = .ok (.aload_n 1, 1) := by decide +kernel
theorem dL_law_1169 : decode cL_law 1169 = .ok (.aload_n 0, 1) := by decide +kernel
theorem dL_law_1170 : decode cL_law 1170 = .ok (.iload_n 3, 1) := by decide +kernel
theorem dL_law_1171 : decode cL_law 1171 = .ok (.iconst 1, 1) := by decide +kernel
theorem dL_law_1172 : decode cL_law 1172 = .ok (.iadd, 1) := by decide +kernel
theorem dL_law_1173 : decode cL_law 1173 = .ok (.iaload, 1) := by decide +kernel
theorem dL_law_1174 : decode cL_law 1174 = .ok (.aload_n 0, 1) := by decide +kernel
theorem dL_law_1175 : decode cL_law 1175 = .ok (.iload_n 3, 1) := by decide +kernel
theorem dL_law_1176 : decode cL_law 1176 = .ok (.iconst 2, 1) := by decide +kernel
theorem dL_law_1177 : decode cL_law 1177 = .ok (.iadd, 1) := by decide +kernel
theorem dL_law_1178 : decode cL_law 1178 = .ok (.iaload, 1) := by decide +kernel
theorem dL_law_1179 : decode cL_law 1179 = .ok (.aload_n 0, 1) := by decide +kernel
theorem dL_law_1180 : decode cL_law 1180 = .ok (.iload_n 3, 1) := by decide +kernel
theorem dL_law_1181 : decode cL_law 1181 = .ok (.iconst 3, 1) := by decide +kernel
theorem dL_law_1182 : decode cL_law 1182 = .ok (.iadd, 1) := by decide +kernel
theorem dL_law_1183 : decode cL_law 1183 = .ok (.iaload, 1) := by decide +kernel
theorem dL_law_1184 : decode cL_law 1184 = .ok (.invokevirtual 140, 3) := by decide +kernel
theorem dL_law_1187 : decode cL_law 1187 = .ok (.aload_n 2, 1) := by decide +kernel
theorem dL_law_1188 : decode cL_law 1188 = .ok (.aload_n 0, 1) := by decide +kernel
theorem dL_law_1189 : decode cL_law 1189 = .ok (.iload_n 3, 1) := by decide +kernel
theorem dL_law_1190 : decode cL_law 1190 = .ok (.iconst 1, 1) := by decide +kernel
theorem dL_law_1191 : decode cL_law 1191 = .ok (.iadd, 1) := by decide +kernel
theorem dL_law_1192 : decode cL_law 1192 = .ok (.iaload, 1) := by decide +kernel
theorem dL_law_1193 : decode cL_law 1193 = .ok (.aload_n 0, 1) := by decide +kernel
theorem dL_law_1194 : decode cL_law 1194 = .ok (.iload_n 3, 1) := by decide +kernel
theorem dL_law_1195 : decode cL_law 1195 = .ok (.iconst 2, 1) := by decide +kernel
theorem dL_law_1196 : decode cL_law 1196 = .ok (.iadd, 1) := by decide +kernel
theorem dL_law_1197 : decode cL_law 1197 = .ok (.iaload, 1) := by decide +kernel
theorem dL_law_1198 : decode cL_law 1198 = .ok (.aload_n 0, 1) := by decide +kernel
theorem dL_law_1199 : decode cL_law 1199 = .ok (.iload_n 3, 1) := by decide +kernel
theorem dL_law_1200 : decode cL_law 1200 = .ok (.iconst 3, 1) := by decide +kernel
theorem dL_law_1201 : decode cL_law 1201 = .ok (.iadd, 1) := by decide +kernel
theorem dL_law_1202 : decode cL_law 1202 = .ok (.iaload, 1) := by decide +kernel
theorem dL_law_1203 : decode cL_law 1203 = .ok (.invokevirtual 143, 3) := by decide +kernel
theorem dL_law_1206 : decode cL_law 1206 = .ok (.if_icmp .eq 61, 3) := by decide +kernel
theorem dL_law_1209 : decode cL_law 1209 = .ok (.iconst 0, 1) := by decide +kernel
theorem dL_law_1210 : decode cL_law 1210 = .ok (.ireturn, 1) := by decide +kernel
theorem dL_law_1211 : decode cL_law 1211 = .ok (.aload_n 1, 1) := by decide +kernel
theorem dL_law_1212 : decode cL_law 1212 = .ok (.aload_n 0, 1) := by decide +kernel
theorem dL_law_1213 : decode cL_law 1213 = .ok (.iload_n 3, 1) := by decide +kernel
theorem dL_law_1214 : decode cL_law 1214 = .ok (.iconst 1, 1) := by decide +kernel
theorem dL_law_1215 : decode cL_law 1215 = .ok (.iadd, 1) := by decide +kernel
theorem dL_law_1216 : decode cL_law 1216 = .ok (.iaload, 1) := by decide +kernel
theorem dL_law_1217 : decode cL_law 1217 = .ok (.aload_n 0, 1) := by decide +kernel
theorem dL_law_1218 : decode cL_law 1218 = .ok (.iload_n 3, 1) := by decide +kernel
theorem dL_law_1219 : decode cL_law 1219 = .ok (.iconst 2, 1) := by decide +kernel
theorem dL_law_1220 : decode cL_law 1220 = .ok (.iadd, 1) := by decide +kernel
theorem dL_law_1221 : decode cL_law 1221 = .ok (.iaload, 1) := by decide +kernel
theorem dL_law_1222 : decode cL_law 1222 = .ok (.aload_n 0, 1) := by decide +kernel
theorem dL_law_1223 : decode cL_law 1223 = .ok (.iload_n 3, 1) := by decide +kernel
theorem dL_law_1224 : decode cL_law 1224 = .ok (.iconst 3, 1) := by decide +kernel
theorem dL_law_1225 : decode cL_law 1225 = .ok (.iadd, 1) := by decide +kernel
theorem dL_law_1226 : decode cL_law 1226 = .ok (.iaload, 1) := by decide +kernel
theorem dL_law_1227 : decode cL_law 1227 = .ok (.invokevirtual 144, 3) := by decide +kernel
theorem dL_law_1230 : decode cL_law 1230 = .ok (.aload_n 2, 1) := by decide +kernel
theorem dL_law_1231 : decode cL_law 1231 = .ok (.aload_n 0, 1) := by decide +kernel
theorem dL_law_1232 : decode cL_law 1232 = .ok (.iload_n 3, 1) := by decide +kernel
theorem dL_law_1233 : decode cL_law 1233 = .ok (.iconst 1, 1) := by decide +kernel
theorem dL_law_1234 : decode cL_law 1234 = .ok (.iadd, 1) := by decide +kernel
theorem dL_law_1235 : decode cL_law 1235 = .ok (.iaload, 1) := by decide +kernel
theorem dL_law_1236 : decode cL_law 1236 = .ok (.aload_n 0, 1) := by decide +kernel
theorem dL_law_1237 : decode cL_law 1237 = .ok (.iload_n 3, 1) := by decide +kernel
theorem dL_law_1238 : decode cL_law 1238 = .ok (.iconst 2, 1) := by decide +kernel
theorem dL_law_1239 : decode cL_law 1239 = .ok (.iadd, 1) := by decide +kernel
theorem dL_law_1240 : decode cL_law 1240 = .ok (.iaload, 1) := by decide +kernel
theorem dL_law_1241 : decode cL_law 1241 = .ok (.aload_n 0, 1) := by decide +kernel
theorem dL_law_1242 : decode cL_law 1242 = .ok (.iload_n 3, 1) := by decide +kernel
theorem dL_law_1243 : decode cL_law 1243 = .ok (.iconst 3, 1) := by decide +kernel
theorem dL_law_1244 : decode cL_law 1244 = .ok (.iadd, 1) := by decide +kernel
theorem dL_law_1245 : decode cL_law 1245 = .ok (.iaload, 1) := by decide +kernel
theorem dL_law_1246 : decode cL_law 1246 = .ok (.invokevirtual 147, 3) := by decide +kernel
theorem dL_law_1249 : decode cL_law 1249 = .ok (.if_icmp .eq 18, 3) := by decide +kernel
theorem dL_law_1252 : decode cL_law 1252 = .ok (.iconst 0, 1) := by decide +kernel
theorem dL_law_1253 : decode cL_law 1253 = .ok (.ireturn, 1) := by decide +kernel
theorem dL_law_1254 : decode cL_law 1254 = .ok (.aload_n 1, 1) := by decide +kernel
theorem dL_law_1255 : decode cL_law 1255 = .ok (.invokevirtual 148, 3) := by decide +kernel
theorem dL_law_1258 : decode cL_law 1258 = .ok (.aload_n 2, 1) := by decide +kernel
theorem dL_law_1259 : decode cL_law 1259 = .ok (.invokevirtual 151, 3) := by decide +kernel
theorem dL_law_1262 : decode cL_law 1262 = .ok (.if_icmp .eq 5, 3) := by decide +kernel
theorem dL_law_1265 : decode cL_law 1265 = .ok (.iconst 0, 1) := by decide +kernel
theorem dL_law_1266 : decode cL_law 1266 = .ok (.ireturn, 1) := by decide +kernel
theorem dL_law_1267 : decode cL_law 1267 = .ok (.iinc 3 6, 3) := by decide +kernel
theorem dL_law_1270 : decode cL_law 1270 = .ok (.goto (-1242), 3) := by decide +kernel
theorem dL_law_1273 : decode cL_law 1273 = .ok (.iconst 1, 1) := by decide +kernel
theorem dL_law_1274 : decode cL_law 1274 = .ok (.ireturn, 1) := by decide +kernel
end
section
/-! ===== THE WALK'S JUDGEMENT: cells by address, locals by place, over the kit's W ===== -/
/-- the words of the tables that every call may take along -/
def wt : List Cond := lw_tbl.filter goodWord
theorem wt_mem {w : Cond} (h : w ∈ lw_tbl) (g : goodWord w = true) : w ∈ wt := List.mem_filter.mpr ⟨h, g⟩
theorem wt_tbl {w : Cond} (h : w ∈ wt) : w ∈ lw_tbl := (List.mem_filter.mp h).1
theorem wt_good : GoodIn wt wt := fun w h => ⟨h, good_of_word (List.mem_filter.mp h).2⟩
/-- what an array's kind holds -/
def w_ty : Nat → FieldType
  | 0 => .int
  | 1 => .long
  | 2 => .boolean
  | 3 => .object "java/lang/Object"
  | 4 => .object "LeaseBoard$Memory"
  | 5 => .object "LeaseBoard$Tray"
  | _ => .array .long
/-- a cell: an array of a kind, or an object of a class of vwCl -/
abbrev EC : Type := (Nat × vp_A) ⊕ (Nat × List Value)
abbrev Hp : Type := Nat → Option EC
/-- the world's fixed part: classes and slots, the arrays' classes, the heap at the law's start, ArrayList's empty array, Object[]'s mirror, the script -/
abbrev WG : Type := va_G × (Nat → ClassId) × Heap × Nat × Nat × Nat × Nat × (Nat → Int32)
abbrev gD (G : WG) : va_G := G.1
abbrev gY (G : WG) : Nat → ClassId := G.2.1
abbrev gH (G : WG) : Heap := G.2.2.1
abbrev gE (G : WG) : Nat := G.2.2.2.1
abbrev gM (G : WG) : Nat := G.2.2.2.2.1
abbrev gB (G : WG) : Nat := G.2.2.2.2.2.1
abbrev gL (G : WG) : Nat := G.2.2.2.2.2.2.1
abbrev gX (G : WG) : Nat → Int32 := G.2.2.2.2.2.2.2
def toE (G : WG) : EC → va_E
  | .inl q => .inl (gY G q.1, q.2)
  | .inr o => .inr o
def e_nil : EC := .inl (3, 0, .inr (.inr (.inr (.inr (fun _ => none)))))
def w_tys (G : WG) : List (ClassId × FieldType) := [(gY G 0, .int), (gY G 1, .long), (gY G 2, .boolean), (gY G 3, .object "java/lang/Object"), (gY G 4, .object "LeaseBoard$Memory"), (gY G 5, .object "LeaseBoard$Tray"), (gY G 6, .array .long)]
def w_nocast : List (String × String) := [("LeaseBoard$Only", "LeaseBoard$Waiting"), ("LeaseBoard$Shared", "LeaseBoard$Waiting"), ("LeaseBoard$Counted", "LeaseBoard$Waiting"), ("LeaseBoard$Rising", "LeaseBoard$Waiting"), ("LeaseBoard$Only", "LeaseBoard$Rising"), ("LeaseBoard$Shared", "LeaseBoard$Rising"), ("LeaseBoard$Counted", "LeaseBoard$Rising"), ("LeaseBoard$Waiting", "LeaseBoard$Rising"), ("LeaseBoard$Only", "LeaseBoard$Counted"), ("LeaseBoard$Shared", "LeaseBoard$Counted"), ("LeaseBoard$Rising", "LeaseBoard$Counted"), ("LeaseBoard$Waiting", "LeaseBoard$Counted"), ("LeaseBoard$Only", "LeaseBoard$Shared"), ("LeaseBoard$Rising", "LeaseBoard$Shared"), ("LeaseBoard$Waiting", "LeaseBoard$Shared")]
/-- words that hold in every later state too, though not by the tables' own rule -/
def wn : List Cond := lw_tbl.filter (fun w => match w with | .castable .. => true | .methodLinkNest .. => true | .declares .. => true | _ => false)
/-- the class of long[][] -/
def wAOA (G : WG) (U : State) : Prop := ∃ k : Class, U.vm.classes[gY G 6]? = some k ∧ k.kind = .array (gY G 1) (.array .long)
theorem wAOA.moved {G : WG} {u U : State} (hvm : u.vm.Alike U.vm) (h : wAOA G u) : wAOA G U := by
  obtain ⟨k, h3, h4⟩ := h
  obtain ⟨k', hk', he⟩ := hvm.2.2 _ _ h3
  exact ⟨k', hk', by rw [he]; exact h4⟩
/-- what the tables say, in a state of the run -/
def wK (G : WG) (U : State) : Prop :=
  va_K (gD G) vwCl (w_tys G) U ∧ va_X (gB G) (gL G) (gX G) U (gH G) ∧
  va_Z "java/util/ArrayList" "DEFAULTCAPACITY_EMPTY_ELEMENTDATA" "[Ljava/lang/Object;" (.ref (gE G)) (fun q => (gH G).size ≤ q) U (gH G) ∧
  va_Mi "[Ljava/lang/Object;" (gM G) U ∧ (∀ q ∈ w_nocast, va_Nc q.1 q.2 U) ∧ (∀ w ∈ wn, va_Nw w U) ∧ va_AO "java/lang/Object" U ∧ va_AO "LeaseBoard$Memory" U ∧ va_AO "LeaseBoard$Tray" U ∧ wAOA G U
theorem wK.warm {G : WG} {s U : State} (hW : s.WarmedH U.vm) (h : wK G s) : wK G U := by
  obtain ⟨h1, h2, h3, h4, h5, h6, h7, h8, h9, h10⟩ := h
  refine ⟨va_K.moved hW.alike h1, va_X.moved hW.alike h2, va_Z.moved hW.alike h3, va_Mi.moved hW.alike h4, fun q hq => (h5 q hq).moved hW.alike, fun w hw => ?_, h7.moved hW.alike, h8.moved hW.alike, h9.moved hW.alike, h10.moved hW.alike⟩
  have hz := h6 w hw
  have hf := (List.mem_filter.mp hw).2
  cases w <;> first | (simp at hf; done) | exact va_Nw.warmC hW hz | exact va_Nw.warmM hW hz | exact va_Nw.warmD hW hz
/-- the machine's heap holds the cells h; what was there before the law is as it was -/
def wR (G : WG) (h : Hp) (H : Heap) : Prop :=
  (gH G).size ≤ H.size ∧ (∀ q : Nat, q < (gH G).size → H[q]? = (gH G)[q]?) ∧ ∀ (a : Nat) (e : EC), h a = some e → va_at (gD G) vwCl (a, toE G e) H ∧ ((gH G).size ≤ a ∨ e = e_nil)
def up (h : Hp) (a : Nat) (e : EC) : Hp := fun q => if q = a then some e else h q
theorem up_s (h : Hp) (a : Nat) (e : EC) : up h a e a = some e := by simp [up]
theorem up_n {h : Hp} {a b : Nat} (e : EC) (hb : b ≠ a) : up h a e b = h b := by simp [up, hb]
theorem wR.lt {G : WG} {h : Hp} {H : Heap} (hR : wR G h H) {a : Nat} {e : EC} (ha : h a = some e) : a < H.size := va_at.lt (hR.2.2 a e ha).1
theorem wR.set {G : WG} {h : Hp} {H H1 : Heap} (hR : wR G h H) {a : Nat} {e : EC} (hz : H1.size = H.size) (hq : ∀ q : Nat, q ≠ a → H1[q]? = H[q]?) (hb : (gH G).size ≤ a) (he : va_at (gD G) vwCl (a, toE G e) H1) : wR G (up h a e) H1 := by
  refine ⟨by rw [hz]; exact hR.1, fun q h1 => ?_, fun b e1 hb1 => ?_⟩
  · rw [hq q (fun h => by omega)]; exact hR.2.1 q h1
  · by_cases hba : b = a
    · subst hba
      rw [up_s] at hb1
      cases hb1
      exact ⟨he, Or.inl hb⟩
    · rw [up_n _ hba] at hb1
      exact ⟨va_at.kept (hR.2.2 b e1 hb1).1 (hq b hba), (hR.2.2 b e1 hb1).2⟩
theorem wR.new {G : WG} {h : Hp} {H H1 : Heap} (hR : wR G h H) {e : EC} (hz : H1.size = H.size + 1) (hq : ∀ q : Nat, q < H.size → H1[q]? = H[q]?) (he : va_at (gD G) vwCl (H.size, toE G e) H1) : wR G (up h H.size e) H1 := by
  refine ⟨by rw [hz]; exact Nat.le_succ_of_le hR.1, fun q h1 => ?_, fun b e1 hb1 => ?_⟩
  · rw [hq q (Nat.lt_of_lt_of_le h1 hR.1)]; exact hR.2.1 q h1
  · by_cases hba : b = H.size
    · subst hba
      rw [up_s] at hb1
      cases hb1
      exact ⟨he, Or.inl hR.1⟩
    · rw [up_n _ hba] at hb1
      exact ⟨va_at.kept (hR.2.2 b e1 hb1).1 (hq b (hR.lt hb1)), (hR.2.2 b e1 hb1).2⟩
theorem wR.fresh {G : WG} {h : Hp} {H : Heap} (hR : wR G h H) : h H.size = none := by
  cases hc : h H.size with
  | none => rfl
  | some e => exact absurd (hR.lt hc) (Nat.lt_irrefl _)
/-- a method: its name, code, locals, answer, room -/
abbrev MI : Type := MethodName × ByteArray × Nat × Option FieldType × Room
abbrev mY (μ : MI) : MethodName := μ.1
abbrev mC (μ : MI) : ByteArray := μ.2.1
abbrev mL (μ : MI) : Nat := μ.2.2.1
abbrev mT (μ : MI) : Option FieldType := μ.2.2.2.1
abbrev mR (μ : MI) : Room := μ.2.2.2.2
/-- the locals, by place -/
def lvOK (ls : Array Slot) (lv : List (Option Value)) : Prop := ls.size = lv.length ∧ lv_wf ls ∧ ∀ (i : Nat) (v : Value), lv[i]? = some (some v) → ls[i]? = some (.val v)
def lvp (lv : List (Option Value)) : List (Nat × Value) := (List.range lv.length).filterMap fun i => match lv[i]? with | some (some v) => some (i, v) | _ => none
theorem lvp_mem {lv : List (Option Value)} {q : Nat × Value} : q ∈ lvp lv ↔ lv[q.1]? = some (some q.2) := by
  obtain ⟨i, v⟩ := q
  unfold lvp
  rw [List.mem_filterMap]
  constructor
  · rintro ⟨j, hj, h⟩
    split at h
    · rename_i w hw
      simp only [Option.some.injEq, Prod.mk.injEq] at h
      obtain ⟨rfl, rfl⟩ := h
      exact hw
    · cases h
  · intro h
    have hl : i < lv.length := (List.getElem?_eq_some_iff.mp h).1
    exact ⟨i, List.mem_range.mpr hl, by simp [h]⟩
theorem lvOK.has {ls : Array Slot} {lv : List (Option Value)} (h : lvOK ls lv) : lv_has ls lv.length (lvp lv) := ⟨h.1, h.2.1, fun q hq => h.2.2 q.1 q.2 (lvp_mem.mp hq)⟩
def cat2 : Option Value → Bool
  | some (.long _) => true
  | some (.double _) => true
  | _ => false
/-- a store: a wide value takes the place behind it too; a wide value ahead of it is gone -/
def lset : List (Option Value) → Nat → Value → List (Option Value)
  | [], _, _ => []
  | _ :: r, 0, v => some v :: r
  | a :: r, 1, v => (if cat2 a then none else a) :: lset r 0 v
  | a :: r, k + 2, v => a :: lset r (k + 1) v
def lsetW : List (Option Value) → Nat → Value → List (Option Value)
  | [], _, _ => []
  | _ :: _ :: r, 0, v => some v :: none :: r
  | a :: r, 0, _ => a :: r
  | a :: r, 1, v => (if cat2 a then none else a) :: lsetW r 0 v
  | a :: r, k + 2, v => a :: lsetW r (k + 1) v
theorem lset_length : ∀ (lv : List (Option Value)) (i : Nat) (v : Value), (lset lv i v).length = lv.length
  | [], _, _ => by simp [lset]
  | _ :: r, 0, v => by simp [lset]
  | a :: r, 1, v => by simp [lset, lset_length r 0 v]
  | a :: r, k + 2, v => by simp [lset, lset_length r (k + 1) v]
theorem lsetW_length : ∀ (lv : List (Option Value)) (i : Nat) (v : Value), (lsetW lv i v).length = lv.length
  | [], _, _ => by simp [lsetW]
  | [a], 0, v => by simp [lsetW]
  | a :: b :: r, 0, v => by simp [lsetW]
  | a :: r, 1, v => by simp [lsetW, lsetW_length r 0 v]
  | a :: r, k + 2, v => by simp [lsetW, lsetW_length r (k + 1) v]
theorem lset_get : ∀ (lv : List (Option Value)) (i : Nat) (v : Value) (j : Nat) (w : Value), (lset lv i v)[j]? = some (some w) → (j = i ∧ w = v) ∨ (j ≠ i ∧ lv[j]? = some (some w) ∧ ¬ (j + 1 = i ∧ w.category = 2))
  | [], _, _, j, w, h => by simp [lset] at h
  | a :: r, 0, v, j, w, h => by
    cases j with
    | zero => simp [lset] at h; exact Or.inl ⟨rfl, h.symm⟩
    | succ j => simp [lset] at h; exact Or.inr ⟨by omega, by simpa using h, by omega⟩
  | a :: r, 1, v, j, w, h => by
    cases j with
    | zero =>
      simp only [lset, List.getElem?_cons_zero, Option.some.injEq] at h
      right
      refine ⟨by omega, ?_, ?_⟩
      · by_cases hc : cat2 a <;> simp [hc] at h; simp [h]
      · rintro ⟨-, hw⟩
        by_cases hc : cat2 a
        · simp [hc] at h
        · simp only [hc, Bool.false_eq_true, if_false] at h
          subst h
          cases w <;> simp [cat2, Value.category] at hc hw
    | succ j =>
      simp only [lset, List.getElem?_cons_succ] at h
      rcases lset_get r 0 v j w h with ⟨h1, h2⟩ | ⟨h1, h2, h3⟩
      · exact Or.inl ⟨by omega, h2⟩
      · exact Or.inr ⟨by omega, by simpa using h2, by omega⟩
  | a :: r, k + 2, v, j, w, h => by
    cases j with
    | zero => simp only [lset, List.getElem?_cons_zero, Option.some.injEq] at h; exact Or.inr ⟨by omega, by simp [h], by omega⟩
    | succ j =>
      simp only [lset, List.getElem?_cons_succ] at h
      rcases lset_get r (k + 1) v j w h with ⟨h1, h2⟩ | ⟨h1, h2, h3⟩
      · exact Or.inl ⟨by omega, h2⟩
      · exact Or.inr ⟨by omega, by simpa using h2, by omega⟩
theorem lsetW_get : ∀ (lv : List (Option Value)) (i : Nat) (v : Value) (j : Nat) (w : Value), i + 1 < lv.length → (lsetW lv i v)[j]? = some (some w) → (j = i ∧ w = v) ∨ (j ≠ i ∧ j ≠ i + 1 ∧ lv[j]? = some (some w) ∧ ¬ (j + 1 = i ∧ w.category = 2))
  | [], _, _, j, w, hl, h => by simp at hl
  | [a], 0, v, j, w, hl, h => by simp at hl
  | a :: b :: r, 0, v, j, w, hl, h => by
    cases j with
    | zero => simp [lsetW] at h; exact Or.inl ⟨rfl, h.symm⟩
    | succ j =>
      cases j with
      | zero => simp [lsetW] at h
      | succ j => simp [lsetW] at h; exact Or.inr ⟨by omega, by omega, by simpa using h, by omega⟩
  | a :: r, 1, v, j, w, hl, h => by
    cases j with
    | zero =>
      simp only [lsetW, List.getElem?_cons_zero, Option.some.injEq] at h
      right
      refine ⟨by omega, by omega, ?_, ?_⟩
      · by_cases hc : cat2 a <;> simp [hc] at h; simp [h]
      · rintro ⟨-, hw⟩
        by_cases hc : cat2 a
        · simp [hc] at h
        · simp only [hc, Bool.false_eq_true, if_false] at h
          subst h
          cases w <;> simp [cat2, Value.category] at hc hw
    | succ j =>
      simp only [lsetW, List.getElem?_cons_succ] at h
      rcases lsetW_get r 0 v j w (by simp at hl ⊢; omega) h with ⟨h1, h2⟩ | ⟨h1, h1', h2, h3⟩
      · exact Or.inl ⟨by omega, h2⟩
      · exact Or.inr ⟨by omega, by omega, by simpa using h2, by omega⟩
  | a :: r, k + 2, v, j, w, hl, h => by
    cases j with
    | zero => simp only [lsetW, List.getElem?_cons_zero, Option.some.injEq] at h; exact Or.inr ⟨by omega, by omega, by simp [h], by omega⟩
    | succ j =>
      simp only [lsetW, List.getElem?_cons_succ] at h
      rcases lsetW_get r (k + 1) v j w (by simp at hl ⊢; omega) h with ⟨h1, h2⟩ | ⟨h1, h1', h2, h3⟩
      · exact Or.inl ⟨by omega, h2⟩
      · exact Or.inr ⟨by omega, by omega, by simpa using h2, by omega⟩
theorem lvOK.set2 {ls : Array Slot} {lv : List (Option Value)} {i : Nat} {v : Value} (h : lvOK ls lv) (hi : i + 1 < lv.length) (hc : v.category = 2) : ∃ ls', storeLocals ls i v = some ls' ∧ lvOK ls' (lsetW lv i v) := by
  obtain ⟨ls', e', h'⟩ := lv_store2 (v := v) h.has hi hc
  refine ⟨ls', e', by rw [lsetW_length]; exact h'.1, h'.2.1, fun j w hj => ?_⟩
  rcases lsetW_get lv i v j w hi hj with ⟨rfl, rfl⟩ | ⟨h1, h1', h2, h3⟩
  · exact h'.2.2 (j, w) List.mem_cons_self
  · refine h'.2.2 (j, w) (List.mem_cons_of_mem _ (List.mem_filter.mpr ⟨lvp_mem.mpr h2, ?_⟩))
    simp only [Bool.and_eq_true, Bool.not_eq_true', beq_eq_false_iff_ne, ne_eq, Bool.and_eq_false_iff]
    exact ⟨h1, h1', by rcases Decidable.em (j + 1 = i) with e | e; exact Or.inr (fun z => h3 ⟨e, z⟩); exact Or.inl e⟩
theorem lvOK.set1 {ls : Array Slot} {lv : List (Option Value)} {i : Nat} {v : Value} (h : lvOK ls lv) (hi : i < lv.length) (hc : v.category = 1) : ∃ ls', storeLocals ls i v = some ls' ∧ lvOK ls' (lset lv i v) := by
  obtain ⟨ls', e', h'⟩ := lv_store1 (v := v) h.has hi hc
  refine ⟨ls', e', by rw [lset_length]; exact h'.1, h'.2.1, fun j w hj => ?_⟩
  rcases lset_get lv i v j w hj with ⟨rfl, rfl⟩ | ⟨h1, h2, h3⟩
  · exact h'.2.2 (j, w) List.mem_cons_self
  · refine h'.2.2 (j, w) (List.mem_cons_of_mem _ (List.mem_filter.mpr ⟨lvp_mem.mpr h2, ?_⟩))
    simp only [Bool.and_eq_true, Bool.not_eq_true', beq_eq_false_iff_ne, ne_eq, Bool.and_eq_false_iff]
    exact ⟨h1, by rcases Decidable.em (j + 1 = i) with e | e; exact Or.inr (fun z => h3 ⟨e, z⟩); exact Or.inl e⟩

/-- what a walk's method stands on -/
def wCtx (G : WG) (μ : MI) (p : Program) (s : State) (m : MethodId) (args : Array Value) (meth : Method) (c : Code) : Prop :=
  p.tables.exec = Jvm.exec ∧ c.code = mC μ ∧ meth.sig.returnType = mT μ ∧ c.maxLocals = mL μ ∧ s.vm.findClass (mY μ).cls = some m.cls ∧ (∀ w ∈ wt, w.before args s = true) ∧ wK G s ∧ meth.locks = false ∧ meth.name = (mY μ).name
/-- what a walk comes to -/
abbrev WZ : Type := List Frame → Array Value → State → State → Prop
/-- from this frame, over these cells, with this room left, the machine comes to Z -/
def wp (l : Launch) (G : WG) (μ : MI) (Z : WZ) (pc : Nat) (lv : List (Option Value)) (st : List Value) (h : Hp) (rc rs : Nat) : Prop :=
  ∀ (p : Program) (e : Env) (s : State) (m : MethodId) (args : Array Value) (below : List Frame) (meth : Method) (c : Code), wCtx G μ p s m args meth c →
  ∀ (H : Heap) (locs : List Loc) (cells slots : Nat) (ls : Array Slot), wR G h H → (∀ q ∈ locs, (gH G).size ≤ q.base) → cells + rc ≤ (mR μ).cells → slots + rs ≤ (mR μ).slots → lvOK ls lv → lv.length = mL μ →
  W p l e (mR μ) s m args below meth c H locs cells slots (Z below args s) (F0 m pc ls st)
/-- a method's contract: from the cells h, with these arguments, it answers v and leaves h', and Q v h' -/
def Sp (l : Launch) (G : WG) (μ : MI) (av : List Value) (h : Hp) (Q : Option Value → Hp → Prop) : Prop :=
  Met l (mY μ) (Cond.code (mY μ) (mC μ) (mL μ) (mT μ) :: wt) (mR μ) (va_Pc av (fun U => wK G U ∧ wR G h U.heap)) (fun _ _ o t => ∃ (v : Option Value) (h' : Hp), o = .returned v ∧ wR G h' t.heap ∧ Q v h') (mR μ).cells (mR μ).slots (fun q => (gH G).size ≤ q)
/-- a method's end, as its contract has it -/
def zM (G : WG) (μ : MI) (Q : Option Value → Hp → Prop) : WZ := fun below args s => MQ below (fun _ _ o t => ∃ (v : Option Value) (h' : Hp), o = .returned v ∧ wR G h' t.heap ∧ Q v h') args s (mR μ).cells (mR μ).slots (fun q => (gH G).size ≤ q)
/-- the locals at a method's entry -/
def lvE (av : List Value) (n : Nat) : List (Option Value) := let l := av.flatMap (fun v => if v.category = 2 then [some v, none] else [some v]); l ++ List.replicate (n - l.length) none
theorem lvE_get : ∀ (av : List Value) (i : Nat) (v : Value), (av.flatMap (fun v => if v.category = 2 then [some v, none] else [some v]))[i]? = some (some v) → (lg_sl av)[i]? = some (.val v)
  | [], i, v, h => by simp at h
  | a :: r, i, v, h => by
    simp only [List.flatMap_cons] at h
    simp only [lg_sl, List.flatMap_cons]
    by_cases hc : a.category = 2
    · simp only [hc, if_true] at h ⊢
      match i, h with
      | 0, h => simp at h; subst h; rfl
      | 1, h => simp at h
      | i + 2, h => simp only [List.cons_append, List.nil_append, List.getElem?_cons_succ] at h ⊢; exact lvE_get r i v h
    · simp only [hc, if_false] at h ⊢
      match i, h with
      | 0, h => simp at h; subst h; rfl
      | i + 1, h => simp only [List.cons_append, List.nil_append, List.getElem?_cons_succ] at h ⊢; exact lvE_get r i v h
theorem lvE_len (av : List Value) : (av.flatMap (fun v => if v.category = 2 then [some v, none] else [some v])).length = (lg_sl av).length := by
  induction av with
  | nil => rfl
  | cons a r ih =>
    simp only [lg_sl, List.flatMap_cons, List.length_append] at ih ⊢
    rw [ih]
    by_cases hc : a.category = 2 <;> simp [hc]
theorem lvE_ok (av : List Value) {n : Nat} (hn : (lg_sl av).length ≤ n) : lvOK ((lg_sl av ++ List.replicate (n - (lg_sl av).length) Slot.unset).toArray) (lvE av n) := by
  have h0 := lv_entry av hn
  refine ⟨?_, h0.2.1, fun i v h => ?_⟩
  · unfold lvE
    simp only [List.size_toArray, List.length_append, List.length_replicate]
    rw [lvE_len]
  · unfold lvE at h
    simp only at h
    rw [List.getElem?_append] at h
    split at h
    · have h2 := lvE_get av i v h
      have hl : i < (lg_sl av).length := (List.getElem?_eq_some_iff.mp h2).1
      rw [List.getElem?_toArray, List.getElem?_append_left hl]
      exact h2
    · rw [List.getElem?_replicate] at h
      split at h <;> simp at h
/-- a contract out of a walk from the entry -/
theorem Sp.intro {l : Launch} {G : WG} {μ : MI} {av : List Value} {h : Hp} {Q : Option Value → Hp → Prop} {lv : List (Option Value)} (hy : plainName (mY μ).cls = true) (hl : lvE av (mL μ) = lv) (hn : (lg_sl av).length ≤ mL μ)
    (k : wp l G μ (zM G μ Q) 0 lv [] h (mR μ).cells (mR μ).slots) : Sp l G μ av h Q := by
  refine Met.ofW (cc := mC μ) (maxL := mL μ) (ret := mT μ) hy rfl ?_
  intro p e s m args below meth c s₁ B hml hv
  obtain ⟨rfl, hK, hR⟩ := hv
  have hts := atoms_spec (ws := Cond.code (mY μ) (mC μ) (mL μ) (mT μ) :: wt) B.pre
  have C : wCtx G μ p s m av.toArray meth c := ⟨B.exec, B.bytes, B.returns, hml, findClass_of_methodNamed B.named, fun w hw => hts w (List.mem_cons_of_mem _ hw), hK, B.notSynchronized, (name_of_methodNamed B.named B.method).1⟩
  rw [lg_entry_eq]
  subst hl
  refine k p e s m av.toArray below meth c C s.heap [] 0 0 _ hR (fun q hq => by cases hq) (by simp) (by simp) (lvE_ok av hn) ?_
  unfold lvE
  simp only [List.length_append, List.length_replicate]
  rw [lvE_len]
  omega
theorem Sp.mono {l : Launch} {G : WG} {μ : MI} {av : List Value} {h : Hp} {Q Q' : Option Value → Hp → Prop} (hS : Sp l G μ av h Q) (hQ : ∀ v h', Q v h' → Q' v h') : Sp l G μ av h Q' := by
  intro p e ha hc hk s m args below hf hap hP hK
  obtain ⟨k, o, h1, h2, h3, ⟨v, h', a1, a2, a3⟩, h4⟩ := hS p e ha hc hk s m args below hf hap hP hK
  exact ⟨k, o, h1, h2, h3, ⟨v, h', a1, a2, hQ v h' a3⟩, h4⟩
end
section
theorem wp_iconst {l : Launch} {G : WG} {μ : MI} {Z : WZ} {pc : Nat} {lv : List (Option Value)} {st : List Value} {h : Hp} {rc rs : Nat} {n : Int} {v : Int32} (hd : decode (mC μ) pc = .ok (.iconst n, 1)) (hv : Int32.ofInt n = v) (k : wp l G μ Z (pc + 1) lv (.int v :: st) h rc rs) : wp l G μ Z pc lv (st) h rc rs := by
  intro p e s m args below meth c C H locs cells slots ls hR hlo hc hs hl hn
  exact lv_iconst C.1 C.2.1 hd hv (k p e s m args below meth c C H locs cells slots ls hR hlo hc hs hl hn)
theorem wp_bipush {l : Launch} {G : WG} {μ : MI} {Z : WZ} {pc : Nat} {lv : List (Option Value)} {st : List Value} {h : Hp} {rc rs : Nat} {n : Int} {v : Int32} (hd : decode (mC μ) pc = .ok (.bipush n, 2)) (hv : (Int8.ofInt n).toInt32 = v) (k : wp l G μ Z (pc + 2) lv (.int v :: st) h rc rs) : wp l G μ Z pc lv (st) h rc rs := by
  intro p e s m args below meth c C H locs cells slots ls hR hlo hc hs hl hn
  exact lv_bipush C.1 C.2.1 hd hv (k p e s m args below meth c C H locs cells slots ls hR hlo hc hs hl hn)
theorem wp_sipush {l : Launch} {G : WG} {μ : MI} {Z : WZ} {pc : Nat} {lv : List (Option Value)} {st : List Value} {h : Hp} {rc rs : Nat} {n : Int} {v : Int32} (hd : decode (mC μ) pc = .ok (.sipush n, 3)) (hv : (Int16.ofInt n).toInt32 = v) (k : wp l G μ Z (pc + 3) lv (.int v :: st) h rc rs) : wp l G μ Z pc lv (st) h rc rs := by
  intro p e s m args below meth c C H locs cells slots ls hR hlo hc hs hl hn
  exact lv_sipush C.1 C.2.1 hd hv (k p e s m args below meth c C H locs cells slots ls hR hlo hc hs hl hn)
theorem wp_lconst {l : Launch} {G : WG} {μ : MI} {Z : WZ} {pc : Nat} {lv : List (Option Value)} {st : List Value} {h : Hp} {rc rs : Nat} {n : Fin 2} {v : Int64} (hd : decode (mC μ) pc = .ok (.lconst n, 1)) (hv : Int64.ofInt n = v) (k : wp l G μ Z (pc + 1) lv (.long v :: st) h rc rs) : wp l G μ Z pc lv (st) h rc rs := by
  intro p e s m args below meth c C H locs cells slots ls hR hlo hc hs hl hn
  exact lv_lconst C.1 C.2.1 hd (by rw [← hv]; rfl) (k p e s m args below meth c C H locs cells slots ls hR hlo hc hs hl hn)
theorem wp_null {l : Launch} {G : WG} {μ : MI} {Z : WZ} {pc : Nat} {lv : List (Option Value)} {st : List Value} {h : Hp} {rc rs : Nat}  (hd : decode (mC μ) pc = .ok (.aconst_null, 1)) (k : wp l G μ Z (pc + 1) lv (.null :: st) h rc rs) : wp l G μ Z pc lv (st) h rc rs := by
  intro p e s m args below meth c C H locs cells slots ls hR hlo hc hs hl hn
  exact lv_null C.1 C.2.1 hd (k p e s m args below meth c C H locs cells slots ls hR hlo hc hs hl hn)
theorem wp_iload_n {l : Launch} {G : WG} {μ : MI} {Z : WZ} {pc : Nat} {lv : List (Option Value)} {st : List Value} {h : Hp} {rc rs : Nat} {k : Fin 4} {i : Nat} {x : Int32} (hd : decode (mC μ) pc = .ok (.iload_n k, 1)) (hi : (k : Nat) = i) (hx : lv[i]? = some (some (.int x))) (k : wp l G μ Z (pc + 1) lv (.int x :: st) h rc rs) : wp l G μ Z pc lv (st) h rc rs := by
  intro p e s m args below meth c C H locs cells slots ls hR hlo hc hs hl hn
  exact lv_iload_n C.1 C.2.1 hd hi (hl.2.2 i _ hx) (k p e s m args below meth c C H locs cells slots ls hR hlo hc hs hl hn)
theorem wp_iload {l : Launch} {G : WG} {μ : MI} {Z : WZ} {pc : Nat} {lv : List (Option Value)} {st : List Value} {h : Hp} {rc rs : Nat} {i : Nat} {x : Int32} (hd : decode (mC μ) pc = .ok (.iload i, 2)) (hx : lv[i]? = some (some (.int x))) (k : wp l G μ Z (pc + 2) lv (.int x :: st) h rc rs) : wp l G μ Z pc lv (st) h rc rs := by
  intro p e s m args below meth c C H locs cells slots ls hR hlo hc hs hl hn
  exact lv_iload C.1 C.2.1 hd (hl.2.2 i _ hx) (k p e s m args below meth c C H locs cells slots ls hR hlo hc hs hl hn)
theorem wp_lload_n {l : Launch} {G : WG} {μ : MI} {Z : WZ} {pc : Nat} {lv : List (Option Value)} {st : List Value} {h : Hp} {rc rs : Nat} {k : Fin 4} {i : Nat} {x : Int64} (hd : decode (mC μ) pc = .ok (.lload_n k, 1)) (hi : (k : Nat) = i) (hx : lv[i]? = some (some (.long x))) (k : wp l G μ Z (pc + 1) lv (.long x :: st) h rc rs) : wp l G μ Z pc lv (st) h rc rs := by
  intro p e s m args below meth c C H locs cells slots ls hR hlo hc hs hl hn
  exact lv_lload_n C.1 C.2.1 hd hi (hl.2.2 i _ hx) (k p e s m args below meth c C H locs cells slots ls hR hlo hc hs hl hn)
theorem wp_lload {l : Launch} {G : WG} {μ : MI} {Z : WZ} {pc : Nat} {lv : List (Option Value)} {st : List Value} {h : Hp} {rc rs : Nat} {i : Nat} {x : Int64} (hd : decode (mC μ) pc = .ok (.lload i, 2)) (hx : lv[i]? = some (some (.long x))) (k : wp l G μ Z (pc + 2) lv (.long x :: st) h rc rs) : wp l G μ Z pc lv (st) h rc rs := by
  intro p e s m args below meth c C H locs cells slots ls hR hlo hc hs hl hn
  exact lv_lload C.1 C.2.1 hd (hl.2.2 i _ hx) (k p e s m args below meth c C H locs cells slots ls hR hlo hc hs hl hn)
theorem wp_aload_n {l : Launch} {G : WG} {μ : MI} {Z : WZ} {pc : Nat} {lv : List (Option Value)} {st : List Value} {h : Hp} {rc rs : Nat} {k : Fin 4} {i : Nat} {x : Nat} (hd : decode (mC μ) pc = .ok (.aload_n k, 1)) (hi : (k : Nat) = i) (hx : lv[i]? = some (some (.ref x))) (k : wp l G μ Z (pc + 1) lv (.ref x :: st) h rc rs) : wp l G μ Z pc lv (st) h rc rs := by
  intro p e s m args below meth c C H locs cells slots ls hR hlo hc hs hl hn
  exact lv_aload_n C.1 C.2.1 hd hi (hl.2.2 i _ hx) (k p e s m args below meth c C H locs cells slots ls hR hlo hc hs hl hn)
theorem wp_aload {l : Launch} {G : WG} {μ : MI} {Z : WZ} {pc : Nat} {lv : List (Option Value)} {st : List Value} {h : Hp} {rc rs : Nat} {i : Nat} {x : Nat} (hd : decode (mC μ) pc = .ok (.aload i, 2)) (hx : lv[i]? = some (some (.ref x))) (k : wp l G μ Z (pc + 2) lv (.ref x :: st) h rc rs) : wp l G μ Z pc lv (st) h rc rs := by
  intro p e s m args below meth c C H locs cells slots ls hR hlo hc hs hl hn
  exact lv_aload C.1 C.2.1 hd (hl.2.2 i _ hx) (k p e s m args below meth c C H locs cells slots ls hR hlo hc hs hl hn)
theorem wp_aload_nN {l : Launch} {G : WG} {μ : MI} {Z : WZ} {pc : Nat} {lv : List (Option Value)} {st : List Value} {h : Hp} {rc rs : Nat} {k : Fin 4} {i : Nat} (hd : decode (mC μ) pc = .ok (.aload_n k, 1)) (hi : (k : Nat) = i) (hx : lv[i]? = some (some .null)) (k : wp l G μ Z (pc + 1) lv (.null :: st) h rc rs) : wp l G μ Z pc lv (st) h rc rs := by
  intro p e s m args below meth c C H locs cells slots ls hR hlo hc hs hl hn
  exact lv_aload_nN C.1 C.2.1 hd hi (hl.2.2 i _ hx) (k p e s m args below meth c C H locs cells slots ls hR hlo hc hs hl hn)
theorem wp_aloadN {l : Launch} {G : WG} {μ : MI} {Z : WZ} {pc : Nat} {lv : List (Option Value)} {st : List Value} {h : Hp} {rc rs : Nat} {i : Nat} (hd : decode (mC μ) pc = .ok (.aload i, 2)) (hx : lv[i]? = some (some .null)) (k : wp l G μ Z (pc + 2) lv (.null :: st) h rc rs) : wp l G μ Z pc lv (st) h rc rs := by
  intro p e s m args below meth c C H locs cells slots ls hR hlo hc hs hl hn
  exact lv_aloadN C.1 C.2.1 hd (hl.2.2 i _ hx) (k p e s m args below meth c C H locs cells slots ls hR hlo hc hs hl hn)
theorem wp_aload_nQ {l : Launch} {G : WG} {μ : MI} {Z : WZ} {pc : Nat} {lv : List (Option Value)} {st : List Value} {h : Hp} {rc rs : Nat} {k : Fin 4} {i : Nat} {r : Option Nat} (hd : decode (mC μ) pc = .ok (.aload_n k, 1)) (hi : (k : Nat) = i) (hx : lv[i]? = some (some (va_rf r))) (k : wp l G μ Z (pc + 1) lv (va_rf r :: st) h rc rs) : wp l G μ Z pc lv st h rc rs := by
  cases r with
  | none => exact wp_aload_nN hd hi hx k
  | some a => exact wp_aload_n hd hi hx k
theorem wp_aloadQ {l : Launch} {G : WG} {μ : MI} {Z : WZ} {pc : Nat} {lv : List (Option Value)} {st : List Value} {h : Hp} {rc rs : Nat} {i : Nat} {r : Option Nat} (hd : decode (mC μ) pc = .ok (.aload i, 2)) (hx : lv[i]? = some (some (va_rf r))) (k : wp l G μ Z (pc + 2) lv (va_rf r :: st) h rc rs) : wp l G μ Z pc lv st h rc rs := by
  cases r with
  | none => exact wp_aloadN hd hx k
  | some a => exact wp_aload hd hx k
theorem wp_istore_n {l : Launch} {G : WG} {μ : MI} {Z : WZ} {pc : Nat} {lv : List (Option Value)} {st : List Value} {h : Hp} {rc rs : Nat} {k : Fin 4} {i : Nat} {x : Int32} {lv' : List (Option Value)} (hd : decode (mC μ) pc = .ok (.istore_n k, 1)) (hi : (k : Nat) = i) (hz : i < lv.length) (he : lset lv i (.int x) = lv') (k : wp l G μ Z (pc + 1) lv' st h rc rs) : wp l G μ Z pc lv (.int x :: st) h rc rs := by
  intro p e s m args below meth c C H locs cells slots ls hR hlo hc hs hl hn
  obtain ⟨ls', e', h'⟩ := hl.set1 (v := .int x) hz rfl
  subst hi
  subst he
  intro T hT X
  have hx := C.1
  have hb := C.2.1
  obtain ⟨t, a, b⟩ := k p e s m args below meth c C H locs cells slots ls' hR hlo hc hs h' (by rw [lset_length]; exact hn) T hT X
  refine ⟨t, ?_, b⟩
  jvm_step X.here [X.here.top, ↓top_set X.here.top, hx, hb, hd, e']
  exact a
theorem wp_istore {l : Launch} {G : WG} {μ : MI} {Z : WZ} {pc : Nat} {lv : List (Option Value)} {st : List Value} {h : Hp} {rc rs : Nat} {i : Nat} {x : Int32} {lv' : List (Option Value)} (hd : decode (mC μ) pc = .ok (.istore i, 2)) (hz : i < lv.length) (he : lset lv i (.int x) = lv') (k : wp l G μ Z (pc + 2) lv' st h rc rs) : wp l G μ Z pc lv (.int x :: st) h rc rs := by
  intro p e s m args below meth c C H locs cells slots ls hR hlo hc hs hl hn
  obtain ⟨ls', e', h'⟩ := hl.set1 (v := .int x) hz rfl
  subst he
  intro T hT X
  have hx := C.1
  have hb := C.2.1
  obtain ⟨t, a, b⟩ := k p e s m args below meth c C H locs cells slots ls' hR hlo hc hs h' (by rw [lset_length]; exact hn) T hT X
  refine ⟨t, ?_, b⟩
  jvm_step X.here [X.here.top, ↓top_set X.here.top, hx, hb, hd, e']
  exact a
theorem wp_lstore_n {l : Launch} {G : WG} {μ : MI} {Z : WZ} {pc : Nat} {lv : List (Option Value)} {st : List Value} {h : Hp} {rc rs : Nat} {k : Fin 4} {i : Nat} {x : Int64} {lv' : List (Option Value)} (hd : decode (mC μ) pc = .ok (.lstore_n k, 1)) (hi : (k : Nat) = i) (hz : i + 1 < lv.length) (he : lsetW lv i (.long x) = lv') (k : wp l G μ Z (pc + 1) lv' st h rc rs) : wp l G μ Z pc lv (.long x :: st) h rc rs := by
  intro p e s m args below meth c C H locs cells slots ls hR hlo hc hs hl hn
  obtain ⟨ls', e', h'⟩ := hl.set2 (v := .long x) hz rfl
  subst hi
  subst he
  intro T hT X
  have hx := C.1
  have hb := C.2.1
  obtain ⟨t, a, b⟩ := k p e s m args below meth c C H locs cells slots ls' hR hlo hc hs h' (by rw [lsetW_length]; exact hn) T hT X
  refine ⟨t, ?_, b⟩
  jvm_step X.here [X.here.top, ↓top_set X.here.top, hx, hb, hd, e']
  exact a
theorem wp_lstore {l : Launch} {G : WG} {μ : MI} {Z : WZ} {pc : Nat} {lv : List (Option Value)} {st : List Value} {h : Hp} {rc rs : Nat} {i : Nat} {x : Int64} {lv' : List (Option Value)} (hd : decode (mC μ) pc = .ok (.lstore i, 2)) (hz : i + 1 < lv.length) (he : lsetW lv i (.long x) = lv') (k : wp l G μ Z (pc + 2) lv' st h rc rs) : wp l G μ Z pc lv (.long x :: st) h rc rs := by
  intro p e s m args below meth c C H locs cells slots ls hR hlo hc hs hl hn
  obtain ⟨ls', e', h'⟩ := hl.set2 (v := .long x) hz rfl
  subst he
  intro T hT X
  have hx := C.1
  have hb := C.2.1
  obtain ⟨t, a, b⟩ := k p e s m args below meth c C H locs cells slots ls' hR hlo hc hs h' (by rw [lsetW_length]; exact hn) T hT X
  refine ⟨t, ?_, b⟩
  jvm_step X.here [X.here.top, ↓top_set X.here.top, hx, hb, hd, e']
  exact a
theorem wp_astore_n {l : Launch} {G : WG} {μ : MI} {Z : WZ} {pc : Nat} {lv : List (Option Value)} {st : List Value} {h : Hp} {rc rs : Nat} {k : Fin 4} {i : Nat} {x : Nat} {lv' : List (Option Value)} (hd : decode (mC μ) pc = .ok (.astore_n k, 1)) (hi : (k : Nat) = i) (hz : i < lv.length) (he : lset lv i (.ref x) = lv') (k : wp l G μ Z (pc + 1) lv' st h rc rs) : wp l G μ Z pc lv (.ref x :: st) h rc rs := by
  intro p e s m args below meth c C H locs cells slots ls hR hlo hc hs hl hn
  obtain ⟨ls', e', h'⟩ := hl.set1 (v := .ref x) hz rfl
  subst hi
  subst he
  intro T hT X
  have hx := C.1
  have hb := C.2.1
  obtain ⟨t, a, b⟩ := k p e s m args below meth c C H locs cells slots ls' hR hlo hc hs h' (by rw [lset_length]; exact hn) T hT X
  refine ⟨t, ?_, b⟩
  jvm_step X.here [X.here.top, ↓top_set X.here.top, hx, hb, hd, e']
  exact ⟨rfl, a⟩
theorem wp_astore {l : Launch} {G : WG} {μ : MI} {Z : WZ} {pc : Nat} {lv : List (Option Value)} {st : List Value} {h : Hp} {rc rs : Nat} {i : Nat} {x : Nat} {lv' : List (Option Value)} (hd : decode (mC μ) pc = .ok (.astore i, 2)) (hz : i < lv.length) (he : lset lv i (.ref x) = lv') (k : wp l G μ Z (pc + 2) lv' st h rc rs) : wp l G μ Z pc lv (.ref x :: st) h rc rs := by
  intro p e s m args below meth c C H locs cells slots ls hR hlo hc hs hl hn
  obtain ⟨ls', e', h'⟩ := hl.set1 (v := .ref x) hz rfl
  subst he
  intro T hT X
  have hx := C.1
  have hb := C.2.1
  obtain ⟨t, a, b⟩ := k p e s m args below meth c C H locs cells slots ls' hR hlo hc hs h' (by rw [lset_length]; exact hn) T hT X
  refine ⟨t, ?_, b⟩
  jvm_step X.here [X.here.top, ↓top_set X.here.top, hx, hb, hd, e']
  exact ⟨rfl, a⟩
theorem wp_astore_nN {l : Launch} {G : WG} {μ : MI} {Z : WZ} {pc : Nat} {lv : List (Option Value)} {st : List Value} {h : Hp} {rc rs : Nat} {k : Fin 4} {i : Nat} {lv' : List (Option Value)} (hd : decode (mC μ) pc = .ok (.astore_n k, 1)) (hi : (k : Nat) = i) (hz : i < lv.length) (he : lset lv i (.null) = lv') (k : wp l G μ Z (pc + 1) lv' st h rc rs) : wp l G μ Z pc lv (.null :: st) h rc rs := by
  intro p e s m args below meth c C H locs cells slots ls hR hlo hc hs hl hn
  obtain ⟨ls', e', h'⟩ := hl.set1 (v := .null) hz rfl
  subst hi
  subst he
  intro T hT X
  have hx := C.1
  have hb := C.2.1
  obtain ⟨t, a, b⟩ := k p e s m args below meth c C H locs cells slots ls' hR hlo hc hs h' (by rw [lset_length]; exact hn) T hT X
  refine ⟨t, ?_, b⟩
  jvm_step X.here [X.here.top, ↓top_set X.here.top, hx, hb, hd, e']
  exact ⟨rfl, a⟩
theorem wp_astoreN {l : Launch} {G : WG} {μ : MI} {Z : WZ} {pc : Nat} {lv : List (Option Value)} {st : List Value} {h : Hp} {rc rs : Nat} {i : Nat} {lv' : List (Option Value)} (hd : decode (mC μ) pc = .ok (.astore i, 2)) (hz : i < lv.length) (he : lset lv i (.null) = lv') (k : wp l G μ Z (pc + 2) lv' st h rc rs) : wp l G μ Z pc lv (.null :: st) h rc rs := by
  intro p e s m args below meth c C H locs cells slots ls hR hlo hc hs hl hn
  obtain ⟨ls', e', h'⟩ := hl.set1 (v := .null) hz rfl
  subst he
  intro T hT X
  have hx := C.1
  have hb := C.2.1
  obtain ⟨t, a, b⟩ := k p e s m args below meth c C H locs cells slots ls' hR hlo hc hs h' (by rw [lset_length]; exact hn) T hT X
  refine ⟨t, ?_, b⟩
  jvm_step X.here [X.here.top, ↓top_set X.here.top, hx, hb, hd, e']
  exact ⟨rfl, a⟩
theorem wp_astore_nQ {l : Launch} {G : WG} {μ : MI} {Z : WZ} {pc : Nat} {lv : List (Option Value)} {st : List Value} {h : Hp} {rc rs : Nat} {k : Fin 4} {i : Nat} {r : Option Nat} {lv' : List (Option Value)} (hd : decode (mC μ) pc = .ok (.astore_n k, 1)) (hi : (k : Nat) = i) (hz : i < lv.length) (he : lset lv i (va_rf r) = lv') (k : wp l G μ Z (pc + 1) lv' st h rc rs) : wp l G μ Z pc lv (va_rf r :: st) h rc rs := by
  cases r with
  | none => exact wp_astore_nN hd hi hz he k
  | some a => exact wp_astore_n hd hi hz he k
theorem wp_astoreQ {l : Launch} {G : WG} {μ : MI} {Z : WZ} {pc : Nat} {lv : List (Option Value)} {st : List Value} {h : Hp} {rc rs : Nat} {i : Nat} {r : Option Nat} {lv' : List (Option Value)} (hd : decode (mC μ) pc = .ok (.astore i, 2)) (hz : i < lv.length) (he : lset lv i (va_rf r) = lv') (k : wp l G μ Z (pc + 2) lv' st h rc rs) : wp l G μ Z pc lv (va_rf r :: st) h rc rs := by
  cases r with
  | none => exact wp_astoreN hd hz he k
  | some a => exact wp_astore hd hz he k
theorem wp_iinc {l : Launch} {G : WG} {μ : MI} {Z : WZ} {pc : Nat} {lv : List (Option Value)} {st : List Value} {h : Hp} {rc rs : Nat} {i : Nat} {n : Int} {x v : Int32} {lv' : List (Option Value)} (hd : decode (mC μ) pc = .ok (.iinc i n, 3)) (hx : lv[i]? = some (some (.int x))) (hv : x + Int32.ofInt n = v) (he : lset lv i (.int v) = lv') (k : wp l G μ Z (pc + 3) lv' st h rc rs) : wp l G μ Z pc lv st h rc rs := by
  intro p e s m args below meth c C H locs cells slots ls hR hlo hc hs hl hn
  have hz : i < lv.length := (List.getElem?_eq_some_iff.mp hx).1
  subst hv
  have hg := hl.2.2 i _ hx
  obtain ⟨ls', e', h'⟩ := hl.set1 (v := .int (x + Int32.ofInt n)) hz rfl
  subst he
  intro T hT X
  have hx := C.1
  have hb := C.2.1
  obtain ⟨t, a, b⟩ := k p e s m args below meth c C H locs cells slots ls' hR hlo hc hs h' (by rw [lset_length]; exact hn) T hT X
  refine ⟨t, ?_, b⟩
  jvm_step X.here [X.here.top, ↓top_set X.here.top, hx, hb, hd, hg, e']
  exact a
theorem wp_iadd {l : Launch} {G : WG} {μ : MI} {Z : WZ} {pc : Nat} {lv : List (Option Value)} {st : List Value} {h : Hp} {rc rs : Nat} {x y : Int32} (hd : decode (mC μ) pc = .ok (.iadd, 1)) (k : wp l G μ Z (pc + 1) lv (.int (x + y) :: st) h rc rs) : wp l G μ Z pc lv (.int y :: .int x :: st) h rc rs := by
  intro p e s m args below meth c C H locs cells slots ls hR hlo hc hs hl hn
  exact lv_iadd C.1 C.2.1 hd (k p e s m args below meth c C H locs cells slots ls hR hlo hc hs hl hn)
theorem wp_isub {l : Launch} {G : WG} {μ : MI} {Z : WZ} {pc : Nat} {lv : List (Option Value)} {st : List Value} {h : Hp} {rc rs : Nat} {x y : Int32} (hd : decode (mC μ) pc = .ok (.isub, 1)) (k : wp l G μ Z (pc + 1) lv (.int (x - y) :: st) h rc rs) : wp l G μ Z pc lv (.int y :: .int x :: st) h rc rs := by
  intro p e s m args below meth c C H locs cells slots ls hR hlo hc hs hl hn
  exact lv_isub C.1 C.2.1 hd (k p e s m args below meth c C H locs cells slots ls hR hlo hc hs hl hn)
theorem wp_imul {l : Launch} {G : WG} {μ : MI} {Z : WZ} {pc : Nat} {lv : List (Option Value)} {st : List Value} {h : Hp} {rc rs : Nat} {x y : Int32} (hd : decode (mC μ) pc = .ok (.imul, 1)) (k : wp l G μ Z (pc + 1) lv (.int (x * y) :: st) h rc rs) : wp l G μ Z pc lv (.int y :: .int x :: st) h rc rs := by
  intro p e s m args below meth c C H locs cells slots ls hR hlo hc hs hl hn
  exact lv_imul C.1 C.2.1 hd (k p e s m args below meth c C H locs cells slots ls hR hlo hc hs hl hn)
theorem wp_iand {l : Launch} {G : WG} {μ : MI} {Z : WZ} {pc : Nat} {lv : List (Option Value)} {st : List Value} {h : Hp} {rc rs : Nat} {x y : Int32} (hd : decode (mC μ) pc = .ok (.iand, 1)) (k : wp l G μ Z (pc + 1) lv (.int (x &&& y) :: st) h rc rs) : wp l G μ Z pc lv (.int y :: .int x :: st) h rc rs := by
  intro p e s m args below meth c C H locs cells slots ls hR hlo hc hs hl hn
  exact lv_iand C.1 C.2.1 hd (k p e s m args below meth c C H locs cells slots ls hR hlo hc hs hl hn)
theorem wp_ior {l : Launch} {G : WG} {μ : MI} {Z : WZ} {pc : Nat} {lv : List (Option Value)} {st : List Value} {h : Hp} {rc rs : Nat} {x y : Int32} (hd : decode (mC μ) pc = .ok (.ior, 1)) (k : wp l G μ Z (pc + 1) lv (.int (x ||| y) :: st) h rc rs) : wp l G μ Z pc lv (.int y :: .int x :: st) h rc rs := by
  intro p e s m args below meth c C H locs cells slots ls hR hlo hc hs hl hn
  exact lv_ior C.1 C.2.1 hd (k p e s m args below meth c C H locs cells slots ls hR hlo hc hs hl hn)
theorem wp_ixor {l : Launch} {G : WG} {μ : MI} {Z : WZ} {pc : Nat} {lv : List (Option Value)} {st : List Value} {h : Hp} {rc rs : Nat} {x y : Int32} (hd : decode (mC μ) pc = .ok (.ixor, 1)) (k : wp l G μ Z (pc + 1) lv (.int (x ^^^ y) :: st) h rc rs) : wp l G μ Z pc lv (.int y :: .int x :: st) h rc rs := by
  intro p e s m args below meth c C H locs cells slots ls hR hlo hc hs hl hn
  exact lv_ixor C.1 C.2.1 hd (k p e s m args below meth c C H locs cells slots ls hR hlo hc hs hl hn)
theorem wp_ladd {l : Launch} {G : WG} {μ : MI} {Z : WZ} {pc : Nat} {lv : List (Option Value)} {st : List Value} {h : Hp} {rc rs : Nat} {x y : Int64} (hd : decode (mC μ) pc = .ok (.ladd, 1)) (k : wp l G μ Z (pc + 1) lv (.long (x + y) :: st) h rc rs) : wp l G μ Z pc lv (.long y :: .long x :: st) h rc rs := by
  intro p e s m args below meth c C H locs cells slots ls hR hlo hc hs hl hn
  exact lv_ladd C.1 C.2.1 hd (k p e s m args below meth c C H locs cells slots ls hR hlo hc hs hl hn)
theorem wp_lsub {l : Launch} {G : WG} {μ : MI} {Z : WZ} {pc : Nat} {lv : List (Option Value)} {st : List Value} {h : Hp} {rc rs : Nat} {x y : Int64} (hd : decode (mC μ) pc = .ok (.lsub, 1)) (k : wp l G μ Z (pc + 1) lv (.long (x - y) :: st) h rc rs) : wp l G μ Z pc lv (.long y :: .long x :: st) h rc rs := by
  intro p e s m args below meth c C H locs cells slots ls hR hlo hc hs hl hn
  exact lv_lsub C.1 C.2.1 hd (k p e s m args below meth c C H locs cells slots ls hR hlo hc hs hl hn)
theorem wp_lmul {l : Launch} {G : WG} {μ : MI} {Z : WZ} {pc : Nat} {lv : List (Option Value)} {st : List Value} {h : Hp} {rc rs : Nat} {x y : Int64} (hd : decode (mC μ) pc = .ok (.lmul, 1)) (k : wp l G μ Z (pc + 1) lv (.long (x * y) :: st) h rc rs) : wp l G μ Z pc lv (.long y :: .long x :: st) h rc rs := by
  intro p e s m args below meth c C H locs cells slots ls hR hlo hc hs hl hn
  exact lv_lmul C.1 C.2.1 hd (k p e s m args below meth c C H locs cells slots ls hR hlo hc hs hl hn)
theorem wp_land {l : Launch} {G : WG} {μ : MI} {Z : WZ} {pc : Nat} {lv : List (Option Value)} {st : List Value} {h : Hp} {rc rs : Nat} {x y : Int64} (hd : decode (mC μ) pc = .ok (.land, 1)) (k : wp l G μ Z (pc + 1) lv (.long (x &&& y) :: st) h rc rs) : wp l G μ Z pc lv (.long y :: .long x :: st) h rc rs := by
  intro p e s m args below meth c C H locs cells slots ls hR hlo hc hs hl hn
  exact lv_land C.1 C.2.1 hd (k p e s m args below meth c C H locs cells slots ls hR hlo hc hs hl hn)
theorem wp_lor {l : Launch} {G : WG} {μ : MI} {Z : WZ} {pc : Nat} {lv : List (Option Value)} {st : List Value} {h : Hp} {rc rs : Nat} {x y : Int64} (hd : decode (mC μ) pc = .ok (.lor, 1)) (k : wp l G μ Z (pc + 1) lv (.long (x ||| y) :: st) h rc rs) : wp l G μ Z pc lv (.long y :: .long x :: st) h rc rs := by
  intro p e s m args below meth c C H locs cells slots ls hR hlo hc hs hl hn
  exact lv_lor C.1 C.2.1 hd (k p e s m args below meth c C H locs cells slots ls hR hlo hc hs hl hn)
theorem wp_idiv {l : Launch} {G : WG} {μ : MI} {Z : WZ} {pc : Nat} {lv : List (Option Value)} {st : List Value} {h : Hp} {rc rs : Nat} {x y : Int32} (hd : decode (mC μ) pc = .ok (.idiv, 1)) (hne : ¬ y = 0) (k : wp l G μ Z (pc + 1) lv (.int (x / y) :: st) h rc rs) : wp l G μ Z pc lv (.int y :: .int x :: st) h rc rs := by
  intro p e s m args below meth c C H locs cells slots ls hR hlo hc hs hl hn
  exact lv_idiv C.1 C.2.1 hd hne (k p e s m args below meth c C H locs cells slots ls hR hlo hc hs hl hn)
theorem wp_irem {l : Launch} {G : WG} {μ : MI} {Z : WZ} {pc : Nat} {lv : List (Option Value)} {st : List Value} {h : Hp} {rc rs : Nat} {x y : Int32} (hd : decode (mC μ) pc = .ok (.irem, 1)) (hne : ¬ y = 0) (k : wp l G μ Z (pc + 1) lv (.int (x - x / y * y) :: st) h rc rs) : wp l G μ Z pc lv (.int y :: .int x :: st) h rc rs := by
  intro p e s m args below meth c C H locs cells slots ls hR hlo hc hs hl hn
  exact lv_irem C.1 C.2.1 hd hne (k p e s m args below meth c C H locs cells slots ls hR hlo hc hs hl hn)
theorem wp_ldiv {l : Launch} {G : WG} {μ : MI} {Z : WZ} {pc : Nat} {lv : List (Option Value)} {st : List Value} {h : Hp} {rc rs : Nat} {x y : Int64} (hd : decode (mC μ) pc = .ok (.ldiv, 1)) (hne : ¬ y = 0) (k : wp l G μ Z (pc + 1) lv (.long (x / y) :: st) h rc rs) : wp l G μ Z pc lv (.long y :: .long x :: st) h rc rs := by
  intro p e s m args below meth c C H locs cells slots ls hR hlo hc hs hl hn
  exact lv_ldiv C.1 C.2.1 hd hne (k p e s m args below meth c C H locs cells slots ls hR hlo hc hs hl hn)
theorem wp_ishr {l : Launch} {G : WG} {μ : MI} {Z : WZ} {pc : Nat} {lv : List (Option Value)} {st : List Value} {h : Hp} {rc rs : Nat} {x y : Int32} (hd : decode (mC μ) pc = .ok (.ishr, 1)) (k : wp l G μ Z (pc + 1) lv (.int (x >>> (y &&& 31)) :: st) h rc rs) : wp l G μ Z pc lv (.int y :: .int x :: st) h rc rs := by
  intro p e s m args below meth c C H locs cells slots ls hR hlo hc hs hl hn
  exact lv_ishr C.1 C.2.1 hd (k p e s m args below meth c C H locs cells slots ls hR hlo hc hs hl hn)
theorem wp_i2l {l : Launch} {G : WG} {μ : MI} {Z : WZ} {pc : Nat} {lv : List (Option Value)} {st : List Value} {h : Hp} {rc rs : Nat} {x : Int32} (hd : decode (mC μ) pc = .ok (.i2l, 1)) (k : wp l G μ Z (pc + 1) lv (.long x.toInt64 :: st) h rc rs) : wp l G μ Z pc lv (.int x :: st) h rc rs := by
  intro p e s m args below meth c C H locs cells slots ls hR hlo hc hs hl hn
  exact lv_i2l C.1 C.2.1 hd rfl (k p e s m args below meth c C H locs cells slots ls hR hlo hc hs hl hn)
theorem wp_l2i {l : Launch} {G : WG} {μ : MI} {Z : WZ} {pc : Nat} {lv : List (Option Value)} {st : List Value} {h : Hp} {rc rs : Nat} {x : Int64} (hd : decode (mC μ) pc = .ok (.l2i, 1)) (k : wp l G μ Z (pc + 1) lv (.int x.toInt32 :: st) h rc rs) : wp l G μ Z pc lv (.long x :: st) h rc rs := by
  intro p e s m args below meth c C H locs cells slots ls hR hlo hc hs hl hn
  exact lv_l2i C.1 C.2.1 hd rfl (k p e s m args below meth c C H locs cells slots ls hR hlo hc hs hl hn)
theorem wp_lshl {l : Launch} {G : WG} {μ : MI} {Z : WZ} {pc : Nat} {lv : List (Option Value)} {st : List Value} {h : Hp} {rc rs : Nat} {x : Int64} {y : Int32} {v : Int64} (hd : decode (mC μ) pc = .ok (.lshl, 1)) (hv : x <<< (y.toInt64 &&& 63) = v) (k : wp l G μ Z (pc + 1) lv (.long v :: st) h rc rs) : wp l G μ Z pc lv (.int y :: .long x :: st) h rc rs := by
  intro p e s m args below meth c C H locs cells slots ls hR hlo hc hs hl hn
  exact lv_lshl C.1 C.2.1 hd hv (k p e s m args below meth c C H locs cells slots ls hR hlo hc hs hl hn)
theorem wp_lcmp {l : Launch} {G : WG} {μ : MI} {Z : WZ} {pc : Nat} {lv : List (Option Value)} {st : List Value} {h : Hp} {rc rs : Nat} {x y : Int64} (hd : decode (mC μ) pc = .ok (.lcmp, 1)) (k : wp l G μ Z (pc + 1) lv (.int (lg_cmp x y) :: st) h rc rs) : wp l G μ Z pc lv (.long y :: .long x :: st) h rc rs := by
  intro p e s m args below meth c C H locs cells slots ls hR hlo hc hs hl hn
  exact W.lcmp C.1 C.2.1 hd (k p e s m args below meth c C H locs cells slots ls hR hlo hc hs hl hn)
theorem wp_dup {l : Launch} {G : WG} {μ : MI} {Z : WZ} {pc : Nat} {lv : List (Option Value)} {st : List Value} {h : Hp} {rc rs : Nat} {va : Value} (hd : decode (mC μ) pc = .ok (.dup, 1)) (hva : va.category = 1) (k : wp l G μ Z (pc + 1) lv (va :: va :: st) h rc rs) : wp l G μ Z pc lv (va :: st) h rc rs := by
  intro p e s m args below meth c C H locs cells slots ls hR hlo hc hs hl hn
  exact lv_dup C.1 C.2.1 hd hva (k p e s m args below meth c C H locs cells slots ls hR hlo hc hs hl hn)
theorem wp_pop {l : Launch} {G : WG} {μ : MI} {Z : WZ} {pc : Nat} {lv : List (Option Value)} {st : List Value} {h : Hp} {rc rs : Nat} {va : Value} (hd : decode (mC μ) pc = .ok (.pop, 1)) (hva : va.category = 1) (k : wp l G μ Z (pc + 1) lv (st) h rc rs) : wp l G μ Z pc lv (va :: st) h rc rs := by
  intro p e s m args below meth c C H locs cells slots ls hR hlo hc hs hl hn
  exact lv_pop C.1 C.2.1 hd hva (k p e s m args below meth c C H locs cells slots ls hR hlo hc hs hl hn)
theorem wp_dup_x1 {l : Launch} {G : WG} {μ : MI} {Z : WZ} {pc : Nat} {lv : List (Option Value)} {st : List Value} {h : Hp} {rc rs : Nat} {va vb : Value} (hd : decode (mC μ) pc = .ok (.dup_x1, 1)) (hva : va.category = 1) (hvb : vb.category = 1) (k : wp l G μ Z (pc + 1) lv (va :: vb :: va :: st) h rc rs) : wp l G μ Z pc lv (va :: vb :: st) h rc rs := by
  intro p e s m args below meth c C H locs cells slots ls hR hlo hc hs hl hn
  exact lv_dup_x1 C.1 C.2.1 hd hva hvb (k p e s m args below meth c C H locs cells slots ls hR hlo hc hs hl hn)
theorem wp_dup2 {l : Launch} {G : WG} {μ : MI} {Z : WZ} {pc : Nat} {lv : List (Option Value)} {st : List Value} {h : Hp} {rc rs : Nat} {va vb : Value} (hd : decode (mC μ) pc = .ok (.dup2, 1)) (hva : va.category = 1) (hvb : vb.category = 1) (k : wp l G μ Z (pc + 1) lv (va :: vb :: va :: vb :: st) h rc rs) : wp l G μ Z pc lv (va :: vb :: st) h rc rs := by
  intro p e s m args below meth c C H locs cells slots ls hR hlo hc hs hl hn
  exact lv_dup2_11 C.1 C.2.1 hd hva hvb (k p e s m args below meth c C H locs cells slots ls hR hlo hc hs hl hn)
theorem wp_if_eq {l : Launch} {G : WG} {μ : MI} {Z : WZ} {pc : Nat} {lv : List (Option Value)} {st : List Value} {h : Hp} {rc rs : Nat} {x : Int32} {off : Int} {tgt : Nat} (hd : decode (mC μ) pc = .ok (.ifCond .eq off, 3)) (ht : (pc : Int) + off = (tgt : Int)) (kt : x = 0 → wp l G μ Z tgt lv (st) h rc rs) (kf : ¬ (x = 0) → wp l G μ Z (pc + 3) lv (st) h rc rs) : wp l G μ Z pc lv (.int x :: st) h rc rs := by
  intro p e s m args below meth c C H locs cells slots ls hR hlo hc hs hl hn
  exact lv_if_eq C.1 C.2.1 hd ht (fun z => kt z p e s m args below meth c C H locs cells slots ls hR hlo hc hs hl hn) (fun z => kf z p e s m args below meth c C H locs cells slots ls hR hlo hc hs hl hn)
theorem wp_icmp_eq {l : Launch} {G : WG} {μ : MI} {Z : WZ} {pc : Nat} {lv : List (Option Value)} {st : List Value} {h : Hp} {rc rs : Nat} {x y : Int32} {off : Int} {tgt : Nat} (hd : decode (mC μ) pc = .ok (.if_icmp .eq off, 3)) (ht : (pc : Int) + off = (tgt : Int)) (kt : x = y → wp l G μ Z tgt lv (st) h rc rs) (kf : ¬ (x = y) → wp l G μ Z (pc + 3) lv (st) h rc rs) : wp l G μ Z pc lv (.int y :: .int x :: st) h rc rs := by
  intro p e s m args below meth c C H locs cells slots ls hR hlo hc hs hl hn
  exact lv_icmp_eq C.1 C.2.1 hd ht (fun z => kt z p e s m args below meth c C H locs cells slots ls hR hlo hc hs hl hn) (fun z => kf z p e s m args below meth c C H locs cells slots ls hR hlo hc hs hl hn)
theorem wp_if_ne {l : Launch} {G : WG} {μ : MI} {Z : WZ} {pc : Nat} {lv : List (Option Value)} {st : List Value} {h : Hp} {rc rs : Nat} {x : Int32} {off : Int} {tgt : Nat} (hd : decode (mC μ) pc = .ok (.ifCond .ne off, 3)) (ht : (pc : Int) + off = (tgt : Int)) (kt : ¬ x = 0 → wp l G μ Z tgt lv (st) h rc rs) (kf : x = 0 → wp l G μ Z (pc + 3) lv (st) h rc rs) : wp l G μ Z pc lv (.int x :: st) h rc rs := by
  intro p e s m args below meth c C H locs cells slots ls hR hlo hc hs hl hn
  exact lv_if_ne C.1 C.2.1 hd ht (fun z => kt z p e s m args below meth c C H locs cells slots ls hR hlo hc hs hl hn) (fun z => kf z p e s m args below meth c C H locs cells slots ls hR hlo hc hs hl hn)
theorem wp_icmp_ne {l : Launch} {G : WG} {μ : MI} {Z : WZ} {pc : Nat} {lv : List (Option Value)} {st : List Value} {h : Hp} {rc rs : Nat} {x y : Int32} {off : Int} {tgt : Nat} (hd : decode (mC μ) pc = .ok (.if_icmp .ne off, 3)) (ht : (pc : Int) + off = (tgt : Int)) (kt : ¬ x = y → wp l G μ Z tgt lv (st) h rc rs) (kf : x = y → wp l G μ Z (pc + 3) lv (st) h rc rs) : wp l G μ Z pc lv (.int y :: .int x :: st) h rc rs := by
  intro p e s m args below meth c C H locs cells slots ls hR hlo hc hs hl hn
  exact lv_icmp_ne C.1 C.2.1 hd ht (fun z => kt z p e s m args below meth c C H locs cells slots ls hR hlo hc hs hl hn) (fun z => kf z p e s m args below meth c C H locs cells slots ls hR hlo hc hs hl hn)
theorem wp_if_lt {l : Launch} {G : WG} {μ : MI} {Z : WZ} {pc : Nat} {lv : List (Option Value)} {st : List Value} {h : Hp} {rc rs : Nat} {x : Int32} {off : Int} {tgt : Nat} (hd : decode (mC μ) pc = .ok (.ifCond .lt off, 3)) (ht : (pc : Int) + off = (tgt : Int)) (kt : x < 0 → wp l G μ Z tgt lv (st) h rc rs) (kf : ¬ (x < 0) → wp l G μ Z (pc + 3) lv (st) h rc rs) : wp l G μ Z pc lv (.int x :: st) h rc rs := by
  intro p e s m args below meth c C H locs cells slots ls hR hlo hc hs hl hn
  exact lv_if_lt C.1 C.2.1 hd ht (fun z => kt z p e s m args below meth c C H locs cells slots ls hR hlo hc hs hl hn) (fun z => kf z p e s m args below meth c C H locs cells slots ls hR hlo hc hs hl hn)
theorem wp_icmp_lt {l : Launch} {G : WG} {μ : MI} {Z : WZ} {pc : Nat} {lv : List (Option Value)} {st : List Value} {h : Hp} {rc rs : Nat} {x y : Int32} {off : Int} {tgt : Nat} (hd : decode (mC μ) pc = .ok (.if_icmp .lt off, 3)) (ht : (pc : Int) + off = (tgt : Int)) (kt : x < y → wp l G μ Z tgt lv (st) h rc rs) (kf : ¬ (x < y) → wp l G μ Z (pc + 3) lv (st) h rc rs) : wp l G μ Z pc lv (.int y :: .int x :: st) h rc rs := by
  intro p e s m args below meth c C H locs cells slots ls hR hlo hc hs hl hn
  exact lv_icmp_lt C.1 C.2.1 hd ht (fun z => kt z p e s m args below meth c C H locs cells slots ls hR hlo hc hs hl hn) (fun z => kf z p e s m args below meth c C H locs cells slots ls hR hlo hc hs hl hn)
theorem wp_if_ge {l : Launch} {G : WG} {μ : MI} {Z : WZ} {pc : Nat} {lv : List (Option Value)} {st : List Value} {h : Hp} {rc rs : Nat} {x : Int32} {off : Int} {tgt : Nat} (hd : decode (mC μ) pc = .ok (.ifCond .ge off, 3)) (ht : (pc : Int) + off = (tgt : Int)) (kt : 0 ≤ x → wp l G μ Z tgt lv (st) h rc rs) (kf : ¬ (0 ≤ x) → wp l G μ Z (pc + 3) lv (st) h rc rs) : wp l G μ Z pc lv (.int x :: st) h rc rs := by
  intro p e s m args below meth c C H locs cells slots ls hR hlo hc hs hl hn
  exact lv_if_ge C.1 C.2.1 hd ht (fun z => kt z p e s m args below meth c C H locs cells slots ls hR hlo hc hs hl hn) (fun z => kf z p e s m args below meth c C H locs cells slots ls hR hlo hc hs hl hn)
theorem wp_icmp_ge {l : Launch} {G : WG} {μ : MI} {Z : WZ} {pc : Nat} {lv : List (Option Value)} {st : List Value} {h : Hp} {rc rs : Nat} {x y : Int32} {off : Int} {tgt : Nat} (hd : decode (mC μ) pc = .ok (.if_icmp .ge off, 3)) (ht : (pc : Int) + off = (tgt : Int)) (kt : y ≤ x → wp l G μ Z tgt lv (st) h rc rs) (kf : ¬ (y ≤ x) → wp l G μ Z (pc + 3) lv (st) h rc rs) : wp l G μ Z pc lv (.int y :: .int x :: st) h rc rs := by
  intro p e s m args below meth c C H locs cells slots ls hR hlo hc hs hl hn
  exact lv_icmp_ge C.1 C.2.1 hd ht (fun z => kt z p e s m args below meth c C H locs cells slots ls hR hlo hc hs hl hn) (fun z => kf z p e s m args below meth c C H locs cells slots ls hR hlo hc hs hl hn)
theorem wp_if_gt {l : Launch} {G : WG} {μ : MI} {Z : WZ} {pc : Nat} {lv : List (Option Value)} {st : List Value} {h : Hp} {rc rs : Nat} {x : Int32} {off : Int} {tgt : Nat} (hd : decode (mC μ) pc = .ok (.ifCond .gt off, 3)) (ht : (pc : Int) + off = (tgt : Int)) (kt : 0 < x → wp l G μ Z tgt lv (st) h rc rs) (kf : ¬ (0 < x) → wp l G μ Z (pc + 3) lv (st) h rc rs) : wp l G μ Z pc lv (.int x :: st) h rc rs := by
  intro p e s m args below meth c C H locs cells slots ls hR hlo hc hs hl hn
  exact lv_if_gt C.1 C.2.1 hd ht (fun z => kt z p e s m args below meth c C H locs cells slots ls hR hlo hc hs hl hn) (fun z => kf z p e s m args below meth c C H locs cells slots ls hR hlo hc hs hl hn)
theorem wp_icmp_gt {l : Launch} {G : WG} {μ : MI} {Z : WZ} {pc : Nat} {lv : List (Option Value)} {st : List Value} {h : Hp} {rc rs : Nat} {x y : Int32} {off : Int} {tgt : Nat} (hd : decode (mC μ) pc = .ok (.if_icmp .gt off, 3)) (ht : (pc : Int) + off = (tgt : Int)) (kt : y < x → wp l G μ Z tgt lv (st) h rc rs) (kf : ¬ (y < x) → wp l G μ Z (pc + 3) lv (st) h rc rs) : wp l G μ Z pc lv (.int y :: .int x :: st) h rc rs := by
  intro p e s m args below meth c C H locs cells slots ls hR hlo hc hs hl hn
  exact lv_icmp_gt C.1 C.2.1 hd ht (fun z => kt z p e s m args below meth c C H locs cells slots ls hR hlo hc hs hl hn) (fun z => kf z p e s m args below meth c C H locs cells slots ls hR hlo hc hs hl hn)
theorem wp_if_le {l : Launch} {G : WG} {μ : MI} {Z : WZ} {pc : Nat} {lv : List (Option Value)} {st : List Value} {h : Hp} {rc rs : Nat} {x : Int32} {off : Int} {tgt : Nat} (hd : decode (mC μ) pc = .ok (.ifCond .le off, 3)) (ht : (pc : Int) + off = (tgt : Int)) (kt : x ≤ 0 → wp l G μ Z tgt lv (st) h rc rs) (kf : ¬ (x ≤ 0) → wp l G μ Z (pc + 3) lv (st) h rc rs) : wp l G μ Z pc lv (.int x :: st) h rc rs := by
  intro p e s m args below meth c C H locs cells slots ls hR hlo hc hs hl hn
  exact lv_if_le C.1 C.2.1 hd ht (fun z => kt z p e s m args below meth c C H locs cells slots ls hR hlo hc hs hl hn) (fun z => kf z p e s m args below meth c C H locs cells slots ls hR hlo hc hs hl hn)
theorem wp_icmp_le {l : Launch} {G : WG} {μ : MI} {Z : WZ} {pc : Nat} {lv : List (Option Value)} {st : List Value} {h : Hp} {rc rs : Nat} {x y : Int32} {off : Int} {tgt : Nat} (hd : decode (mC μ) pc = .ok (.if_icmp .le off, 3)) (ht : (pc : Int) + off = (tgt : Int)) (kt : x ≤ y → wp l G μ Z tgt lv (st) h rc rs) (kf : ¬ (x ≤ y) → wp l G μ Z (pc + 3) lv (st) h rc rs) : wp l G μ Z pc lv (.int y :: .int x :: st) h rc rs := by
  intro p e s m args below meth c C H locs cells slots ls hR hlo hc hs hl hn
  exact lv_icmp_le C.1 C.2.1 hd ht (fun z => kt z p e s m args below meth c C H locs cells slots ls hR hlo hc hs hl hn) (fun z => kf z p e s m args below meth c C H locs cells slots ls hR hlo hc hs hl hn)
theorem wp_acmp_eq {l : Launch} {G : WG} {μ : MI} {Z : WZ} {pc : Nat} {lv : List (Option Value)} {st : List Value} {h : Hp} {rc rs : Nat} {rx ry : Option Nat} {off : Int} {tgt : Nat} (hd : decode (mC μ) pc = .ok (.if_acmp .eq off, 3)) (ht : (pc : Int) + off = (tgt : Int)) (kt : rx = ry → wp l G μ Z tgt lv (st) h rc rs) (kf : ¬ (rx = ry) → wp l G μ Z (pc + 3) lv (st) h rc rs) : wp l G μ Z pc lv (va_rf ry :: va_rf rx :: st) h rc rs := by
  intro p e s m args below meth c C H locs cells slots ls hR hlo hc hs hl hn
  exact lv_acmp_eq C.1 C.2.1 hd ht (fun z => kt z p e s m args below meth c C H locs cells slots ls hR hlo hc hs hl hn) (fun z => kf z p e s m args below meth c C H locs cells slots ls hR hlo hc hs hl hn)
theorem wp_acmp_ne {l : Launch} {G : WG} {μ : MI} {Z : WZ} {pc : Nat} {lv : List (Option Value)} {st : List Value} {h : Hp} {rc rs : Nat} {rx ry : Option Nat} {off : Int} {tgt : Nat} (hd : decode (mC μ) pc = .ok (.if_acmp .ne off, 3)) (ht : (pc : Int) + off = (tgt : Int)) (kt : ¬ rx = ry → wp l G μ Z tgt lv (st) h rc rs) (kf : rx = ry → wp l G μ Z (pc + 3) lv (st) h rc rs) : wp l G μ Z pc lv (va_rf ry :: va_rf rx :: st) h rc rs := by
  intro p e s m args below meth c C H locs cells slots ls hR hlo hc hs hl hn
  exact lv_acmp_ne C.1 C.2.1 hd ht (fun z => kt z p e s m args below meth c C H locs cells slots ls hR hlo hc hs hl hn) (fun z => kf z p e s m args below meth c C H locs cells slots ls hR hlo hc hs hl hn)
theorem wp_goto {l : Launch} {G : WG} {μ : MI} {Z : WZ} {pc : Nat} {lv : List (Option Value)} {st : List Value} {h : Hp} {rc rs : Nat} {off : Int} {tgt : Nat} (hd : decode (mC μ) pc = .ok (.goto off, 3)) (ht : (pc : Int) + off = (tgt : Int)) (k : wp l G μ Z tgt lv st h rc rs) : wp l G μ Z pc lv st h rc rs := by
  intro p e s m args below meth c C H locs cells slots ls hR hlo hc hs hl hn
  exact lv_goto C.1 C.2.1 hd ht (k p e s m args below meth c C H locs cells slots ls hR hlo hc hs hl hn)
theorem wp_ifnull {l : Launch} {G : WG} {μ : MI} {Z : WZ} {pc : Nat} {lv : List (Option Value)} {st : List Value} {h : Hp} {rc rs : Nat} {r : Option Nat} {off : Int} {tgt : Nat} (hd : decode (mC μ) pc = .ok (.ifnull off, 3)) (ht : (pc : Int) + off = (tgt : Int)) (kt : r = none → wp l G μ Z tgt lv st h rc rs) (kf : ∀ a, r = some a → wp l G μ Z (pc + 3) lv st h rc rs) : wp l G μ Z pc lv (va_rf r :: st) h rc rs := by
  intro p e s m args below meth c C H locs cells slots ls hR hlo hc hs hl hn
  cases r with
  | none => exact lv_ifnullN C.1 C.2.1 hd ht (kt rfl p e s m args below meth c C H locs cells slots ls hR hlo hc hs hl hn)
  | some a => exact lv_ifnull C.1 C.2.1 hd (kf a rfl p e s m args below meth c C H locs cells slots ls hR hlo hc hs hl hn)
theorem wp_ifnonnull {l : Launch} {G : WG} {μ : MI} {Z : WZ} {pc : Nat} {lv : List (Option Value)} {st : List Value} {h : Hp} {rc rs : Nat} {r : Option Nat} {off : Int} {tgt : Nat} (hd : decode (mC μ) pc = .ok (.ifnonnull off, 3)) (ht : (pc : Int) + off = (tgt : Int)) (kt : ∀ a, r = some a → wp l G μ Z tgt lv st h rc rs) (kf : r = none → wp l G μ Z (pc + 3) lv st h rc rs) : wp l G μ Z pc lv (va_rf r :: st) h rc rs := by
  intro p e s m args below meth c C H locs cells slots ls hR hlo hc hs hl hn
  cases r with
  | none => exact lv_ifnonnullN C.1 C.2.1 hd (kf rfl p e s m args below meth c C H locs cells slots ls hR hlo hc hs hl hn)
  | some a => exact lv_ifnonnull C.1 C.2.1 hd ht (kt a rfl p e s m args below meth c C H locs cells slots ls hR hlo hc hs hl hn)
theorem wp_ifnullR {l : Launch} {G : WG} {μ : MI} {Z : WZ} {pc : Nat} {lv : List (Option Value)} {st : List Value} {h : Hp} {rc rs : Nat} {a : Nat} {off : Int} (hd : decode (mC μ) pc = .ok (.ifnull off, 3)) (k : wp l G μ Z (pc + 3) lv st h rc rs) : wp l G μ Z pc lv (.ref a :: st) h rc rs := by
  intro p e s m args below meth c C H locs cells slots ls hR hlo hc hs hl hn
  exact lv_ifnull C.1 C.2.1 hd (k p e s m args below meth c C H locs cells slots ls hR hlo hc hs hl hn)
theorem wp_ifnullN {l : Launch} {G : WG} {μ : MI} {Z : WZ} {pc : Nat} {lv : List (Option Value)} {st : List Value} {h : Hp} {rc rs : Nat} {off : Int} {tgt : Nat} (hd : decode (mC μ) pc = .ok (.ifnull off, 3)) (ht : (pc : Int) + off = (tgt : Int)) (k : wp l G μ Z tgt lv st h rc rs) : wp l G μ Z pc lv (.null :: st) h rc rs := by
  intro p e s m args below meth c C H locs cells slots ls hR hlo hc hs hl hn
  exact lv_ifnullN C.1 C.2.1 hd ht (k p e s m args below meth c C H locs cells slots ls hR hlo hc hs hl hn)
theorem wp_ifnonnullR {l : Launch} {G : WG} {μ : MI} {Z : WZ} {pc : Nat} {lv : List (Option Value)} {st : List Value} {h : Hp} {rc rs : Nat} {a : Nat} {off : Int} {tgt : Nat} (hd : decode (mC μ) pc = .ok (.ifnonnull off, 3)) (ht : (pc : Int) + off = (tgt : Int)) (k : wp l G μ Z tgt lv st h rc rs) : wp l G μ Z pc lv (.ref a :: st) h rc rs := by
  intro p e s m args below meth c C H locs cells slots ls hR hlo hc hs hl hn
  exact lv_ifnonnull C.1 C.2.1 hd ht (k p e s m args below meth c C H locs cells slots ls hR hlo hc hs hl hn)
theorem wp_ifnonnullN {l : Launch} {G : WG} {μ : MI} {Z : WZ} {pc : Nat} {lv : List (Option Value)} {st : List Value} {h : Hp} {rc rs : Nat} {off : Int} (hd : decode (mC μ) pc = .ok (.ifnonnull off, 3)) (k : wp l G μ Z (pc + 3) lv st h rc rs) : wp l G μ Z pc lv (.null :: st) h rc rs := by
  intro p e s m args below meth c C H locs cells slots ls hR hlo hc hs hl hn
  exact lv_ifnonnullN C.1 C.2.1 hd (k p e s m args below meth c C H locs cells slots ls hR hlo hc hs hl hn)
theorem wp_tableIn {l : Launch} {G : WG} {μ : MI} {Z : WZ} {pc : Nat} {lv : List (Option Value)} {st : List Value} {h : Hp} {rc rs : Nat} {dflt lo hi : Int} {offs : Array Int} {len : Nat} {x : Int32} {off : Int} {tgt : Nat} (hd : decode (mC μ) pc = .ok (.tableswitch dflt lo hi offs, len)) (h1 : ¬ x.toInt < lo) (h2 : ¬ hi < x.toInt) (ho : offs[(x.toInt - lo).toNat]? = some off) (ht : (pc : Int) + off = (tgt : Int)) (k : wp l G μ Z tgt lv st h rc rs) : wp l G μ Z pc lv (.int x :: st) h rc rs := by
  intro p e s m args below meth c C H locs cells slots ls hR hlo hc hs hl hn
  exact lv_tableIn C.1 C.2.1 hd h1 h2 ho ht (k p e s m args below meth c C H locs cells slots ls hR hlo hc hs hl hn)
theorem wp_tableOut {l : Launch} {G : WG} {μ : MI} {Z : WZ} {pc : Nat} {lv : List (Option Value)} {st : List Value} {h : Hp} {rc rs : Nat} {dflt lo hi : Int} {offs : Array Int} {len : Nat} {x : Int32} {tgt : Nat} (hd : decode (mC μ) pc = .ok (.tableswitch dflt lo hi offs, len)) (ho : x.toInt < lo ∨ hi < x.toInt) (ht : (pc : Int) + dflt = (tgt : Int)) (k : wp l G μ Z tgt lv st h rc rs) : wp l G μ Z pc lv (.int x :: st) h rc rs := by
  intro p e s m args below meth c C H locs cells slots ls hR hlo hc hs hl hn
  exact lv_tableOut C.1 C.2.1 hd ho ht (k p e s m args below meth c C H locs cells slots ls hR hlo hc hs hl hn)
theorem wp_lookup {l : Launch} {G : WG} {μ : MI} {Z : WZ} {pc : Nat} {lv : List (Option Value)} {st : List Value} {h : Hp} {rc rs : Nat} {dflt : Int} {ps : Array (Int × Int)} {len : Nat} {x : Int32} {off : Int} {tgt : Nat} (hd : decode (mC μ) pc = .ok (.lookupswitch dflt ps, len)) (hp : (ps.toList.zip (ps.toList.drop 1)).all (fun (a, next) => a.1 < next.1) = true) (ho : Op.lookupswitch.offset ps.toList dflt x.toInt = off) (ht : (pc : Int) + off = (tgt : Int)) (k : wp l G μ Z tgt lv st h rc rs) : wp l G μ Z pc lv (.int x :: st) h rc rs := by
  intro p e s m args below meth c C H locs cells slots ls hR hlo hc hs hl hn
  exact lv_lookup C.1 C.2.1 hd hp ho ht (k p e s m args below meth c C H locs cells slots ls hR hlo hc hs hl hn)
theorem wp_ldc {l : Launch} {G : WG} {μ : MI} {Z : WZ} {pc : Nat} {lv : List (Option Value)} {st : List Value} {h : Hp} {rc rs : Nat} {index : Nat} {v : Int32} (hd : decode (mC μ) pc = .ok (.ldc index, 2)) (hw : Cond.constant (mY μ).cls index v ∈ lw_tbl) (k : wp l G μ Z (pc + 2) lv (.int v :: st) h rc rs) : wp l G μ Z pc lv (st) h rc rs := by
  intro p e s m args below meth c C H locs cells slots ls hR hlo hc hs hl hn
  exact lv_ldc C.1 C.2.1 C.2.2.2.2.1 (C.2.2.2.2.2.1 _ (wt_mem hw rfl)) hd (k p e s m args below meth c C H locs cells slots ls hR hlo hc hs hl hn)
theorem wp_ldc_w {l : Launch} {G : WG} {μ : MI} {Z : WZ} {pc : Nat} {lv : List (Option Value)} {st : List Value} {h : Hp} {rc rs : Nat} {index : Nat} {v : Int32} (hd : decode (mC μ) pc = .ok (.ldc_w index, 3)) (hw : Cond.constant (mY μ).cls index v ∈ lw_tbl) (k : wp l G μ Z (pc + 3) lv (.int v :: st) h rc rs) : wp l G μ Z pc lv (st) h rc rs := by
  intro p e s m args below meth c C H locs cells slots ls hR hlo hc hs hl hn
  exact lv_ldcw C.1 C.2.1 C.2.2.2.2.1 (C.2.2.2.2.2.1 _ (wt_mem hw rfl)) hd (k p e s m args below meth c C H locs cells slots ls hR hlo hc hs hl hn)
theorem wp_ldc2_w {l : Launch} {G : WG} {μ : MI} {Z : WZ} {pc : Nat} {lv : List (Option Value)} {st : List Value} {h : Hp} {rc rs : Nat} {index : Nat} {v : Int64} (hd : decode (mC μ) pc = .ok (.ldc2_w index, 3)) (hw : Cond.constantLong (mY μ).cls index v ∈ lw_tbl) (k : wp l G μ Z (pc + 3) lv (.long v :: st) h rc rs) : wp l G μ Z pc lv (st) h rc rs := by
  intro p e s m args below meth c C H locs cells slots ls hR hlo hc hs hl hn
  exact lv_ldc2 C.1 C.2.1 C.2.2.2.2.1 (C.2.2.2.2.2.1 _ (wt_mem hw rfl)) hd (k p e s m args below meth c C H locs cells slots ls hR hlo hc hs hl hn)
end
section
/-! ===== fields, arrays, new cells ===== -/
def cl_ty : Nat → Nat → FieldType
  | 0 => tyJx4a65c
  | 1 => tyX0
  | 2 => tyX1
  | 3 => tyX2
  | 4 => tyX3
  | 5 => tyX4
  | 6 => tyX5
  | 7 => tyX6
  | 8 => tyX7
  | 9 => tyX8
  | 10 => tyX9
  | 11 => tyX10
  | 12 => tyX11
  | _ => tyX12
def cl_fact (ci : Nat) (q : vw_C) : Prop := (∀ w ∈ u_ws q.1 q.2.1 q.2.2, w ∈ wt) ∧ (∀ a, a < q.2.2 → ∀ b, b < q.2.2 → a ≠ b → (q.2.1 a).2.1 ≠ (q.2.1 b).2.1) ∧ ∀ k, k < q.2.2 → parseFieldDescriptor (q.2.1 k).2.2.1 = some (cl_ty ci k)
theorem u_wt {C : String} {T : u_T} {N : Nat} (h : ∀ w ∈ u_ws C T N, w ∈ lw_tbl) : ∀ w ∈ u_ws C T N, w ∈ wt := fun w hw => wt_mem (h w hw) (by
  obtain ⟨k, -, rfl⟩ := List.mem_map.mp hw
  unfold u_lay
  split <;> rfl)
theorem in_0 : ∀ w ∈ u_ws RJx4a65c TJx4a65c 3, w ∈ lw_tbl := by decide +kernel
theorem in_1 : ∀ w ∈ u_ws RX0 TX0 6, w ∈ lw_tbl := by decide +kernel
theorem in_2 : ∀ w ∈ u_ws RX1 TX1 5, w ∈ lw_tbl := by decide +kernel
theorem in_3 : ∀ w ∈ u_ws RX2 TX2 10, w ∈ lw_tbl := by decide +kernel
theorem in_4 : ∀ w ∈ u_ws RX3 TX3 6, w ∈ lw_tbl := by decide +kernel
theorem in_5 : ∀ w ∈ u_ws RX4 TX4 5, w ∈ lw_tbl := by decide +kernel
theorem in_6 : ∀ w ∈ u_ws RX5 TX5 3, w ∈ lw_tbl := by decide +kernel
theorem in_7 : ∀ w ∈ u_ws RX6 TX6 6, w ∈ lw_tbl := by decide +kernel
theorem in_8 : ∀ w ∈ u_ws RX7 TX7 5, w ∈ lw_tbl := by decide +kernel
theorem in_9 : ∀ w ∈ u_ws RX8 TX8 4, w ∈ lw_tbl := by decide +kernel
theorem in_10 : ∀ w ∈ u_ws RX9 TX9 9, w ∈ lw_tbl := by decide +kernel
theorem in_11 : ∀ w ∈ u_ws RX10 TX10 5, w ∈ lw_tbl := by decide +kernel
theorem in_12 : ∀ w ∈ u_ws RX11 TX11 18, w ∈ lw_tbl := by decide +kernel
theorem in_13 : ∀ w ∈ u_ws RX12 TX12 59, w ∈ lw_tbl := by decide +kernel
theorem cl_ok : ∀ (ci : Nat) (q : vw_C), vwCl[ci]? = some q → cl_fact ci q
  | 0, _, h => by cases h; exact ⟨u_wt in_0, nmJx4a65c, tyJx4a65c_ok⟩
  | 1, _, h => by cases h; exact ⟨u_wt in_1, nmX0, tyX0_ok⟩
  | 2, _, h => by cases h; exact ⟨u_wt in_2, nmX1, tyX1_ok⟩
  | 3, _, h => by cases h; exact ⟨u_wt in_3, nmX2, tyX2_ok⟩
  | 4, _, h => by cases h; exact ⟨u_wt in_4, nmX3, tyX3_ok⟩
  | 5, _, h => by cases h; exact ⟨u_wt in_5, nmX4, tyX4_ok⟩
  | 6, _, h => by cases h; exact ⟨u_wt in_6, nmX5, tyX5_ok⟩
  | 7, _, h => by cases h; exact ⟨u_wt in_7, nmX6, tyX6_ok⟩
  | 8, _, h => by cases h; exact ⟨u_wt in_8, nmX7, tyX7_ok⟩
  | 9, _, h => by cases h; exact ⟨u_wt in_9, nmX8, tyX8_ok⟩
  | 10, _, h => by cases h; exact ⟨u_wt in_10, nmX9, tyX9_ok⟩
  | 11, _, h => by cases h; exact ⟨u_wt in_11, nmX10, tyX10_ok⟩
  | 12, _, h => by cases h; exact ⟨u_wt in_12, nmX11, tyX11_ok⟩
  | 13, _, h => by cases h; exact ⟨u_wt in_13, nmX12, tyX12_ok⟩
  | k + 14, _, h => by simp [vwCl] at h
/-- the field that an entry of own's pool names is field k of class ci -/
def FL (own : String) (idx k ci : Nat) : Prop := ∃ (q : vw_C) (ref : String), vwCl[ci]? = some q ∧ k < q.2.2 ∧ Cond.fieldLink own idx ref (q.2.1 k).2.1 (q.2.1 k).2.2.1 ∈ lw_tbl ∧ (ref = (q.2.1 k).1 ∨ Cond.sameField ref (q.2.1 k).1 (q.2.1 k).2.1 (q.2.1 k).2.2.1 ∈ lw_tbl)
def isFin (k ci : Nat) : Bool := match vwCl[ci]? with | some q => (q.2.1 k).2.2.2 | none => false
def declOf (k ci : Nat) : String := match vwCl[ci]? with | some q => (q.2.1 k).1 | none => ""
section WPH
variable {l : Launch} {G : WG} {μ : MI} {Z : WZ} {pc : Nat} {lv : List (Option Value)} {st : List Value} {h : Hp} {rc rs : Nat}
theorem wp_get {a ci k idx : Nat} {fs : List Value} {v : Value} (hd : decode (mC μ) pc = .ok (.getfield idx, 3)) (fl : FL (mY μ).cls idx k ci) (hc : h a = some (.inr (ci, fs))) (hv : fs[k]? = some v) (kk : wp l G μ Z (pc + 3) lv (v :: st) h rc rs) : wp l G μ Z pc lv (.ref a :: st) h rc rs := by
  intro p e s m args below meth c C H locs cells slots ls hR hlo hcc hs hl hn
  obtain ⟨⟨Cn, T, N⟩, ref, hq, hk, hw, hsm⟩ := fl
  have hts := C.2.2.2.2.2.1
  have hat := (hR.2.2 a _ hc).1
  refine va_get (D := gD G) (cl := vwCl) (tys := w_tys G) (ws := [(a, .inr (ci, fs))]) (ci := ci) (v := v) (C := Cn) (T := T) (N := N) C.1 C.2.1 hts (cl_ok ci _ hq).1 C.2.2.2.2.1 C.2.2.2.2.2.2.1.1 ?_ 0 rfl hq k hk (hts _ (wt_mem hw rfl)) ?_ hv hd (kk p e s m args below meth c C H locs cells slots ls hR hlo hcc hs hl hn)
  · intro j x hx
    have hj : j = 0 := by
      have := (List.getElem?_eq_some_iff.mp hx).1
      simp at this
      exact this
    subst hj
    cases hx
    exact hat
  · intro x hx
    rcases hsm with rfl | hsm
    · exact hx
    · exact u_same (hts _ (wt_mem hsm rfl)) x hx
theorem wp_put {a ci k idx : Nat} {fs : List Value} {v : Value} (hd : decode (mC μ) pc = .ok (.putfield idx, 3)) (fl : FL (mY μ).cls idx k ci) (hc : h a = some (.inr (ci, fs))) (hf : isFin k ci = false ∨ (isFin k ci = true ∧ declOf k ci = (mY μ).cls ∧ (mY μ).name = "<init>")) (hl9 : k < fs.length) (hn9 : narrow (cl_ty ci k) v = v) (hfit : fits (cl_ty ci k) v = true) (kk : wp l G μ Z (pc + 3) lv st (up h a (.inr (ci, fs.set k v))) rc rs) : wp l G μ Z pc lv (v :: .ref a :: st) h rc rs := by
  intro p e s m args below meth c C H locs cells slots ls hR hlo hcc hs hl hn
  obtain ⟨⟨Cn, T, N⟩, ref, hq, hk, hw, hsm⟩ := fl
  have hts := C.2.2.2.2.2.1
  have hown := C.2.2.2.2.1
  have hK := C.2.2.2.2.2.2.1.1
  obtain ⟨hin, hnm, hty⟩ := cl_ok ci _ hq
  obtain ⟨hat, hlo9⟩ := hR.2.2 a _ hc
  have hbase : (gH G).size ≤ a := by
    rcases hlo9 with z | z
    · exact z
    · cases z
  have hap := va_apart (own := (mY μ).cls) hts hin (cl_ty ci) hty hnm hK hq
  obtain ⟨r, h1, cell, q1, q2, q3, q4⟩ := hat
  have hr : r = (Cn, T, N) := Option.some.inj (h1.symm.trans hq)
  subst hr
  obtain ⟨hS, hfc, kC, hkC, hkind⟩ := hK.1 ci _ hq
  obtain ⟨cf, kf, fi, f, hi, hsl⟩ := hS k hk
  have hlay := hts _ (hin _ (u_in_lay hk))
  unfold u_lay at hlay
  have hst := (u_facts hfc hkC (u_lays hts hin hk) hi).1
  have hsame : s.fieldFound? ref (T k).2.1 (T k).2.2.1 = some (cf, kf, fi, f) := by
    rcases hsm with rfl | hsm
    · exact hi
    · exact u_same (hts _ (wt_mem hsm rfl)) _ hi
  have hfin : isFin k ci = (T k).2.2.2 := by unfold isFin; rw [hq]
  have hdec : declOf k ci = (T k).1 := by unfold declOf; rw [hq]
  have fin : ∀ H' : Heap, H'[a]? = some (cell.setSlot f.slot v) → H'.size = H.size → (∀ q : Nat, q ≠ a → H'[q]? = H[q]?) → W p l e (mR μ) s m args below meth c H' (locs ++ [⟨a, f.slot⟩]) cells slots (Z below args s) (F0 m (pc + 3) ls st) := by
    intro H' e1 e2 e3
    rw [hsl] at e1
    refine kk p e s m args below meth c C H' _ cells slots ls (hR.set e2 e3 hbase ?_) ?_ hcc hs hl hn
    · exact ⟨_, hq, t_OB.to (V := updV (vp_V fs) k v) ⟨_, e1, q2, q3, t_set q4 hap hk v⟩ (fun j _ => vp_updV_set hl9 v j)⟩
    · intro q hq9
      rcases List.mem_append.mp hq9 with z | z
      · exact hlo q z
      · rw [List.mem_singleton.mp z]; exact hbase
  rcases hf with hf | ⟨hf, hdc, hini⟩
  · rw [if_neg (by rw [← hfin, hf]; decide)] at hlay
    have h6 := u_store hfc hkC hkind hlay hi (hty k hk) hn9 hfit
    exact W.putK C.1 C.2.1 (f := f) ⟨hown, hts _ (wt_mem hw rfl), ⟨_, _, _, hsame⟩, hst⟩ (by rw [q2]; exact h6) q1 q3 (by rw [hsl]; exact k2_hasslot (q4 k hk)) rfl rfl hd fin
  · rw [if_pos (by rw [← hfin, hf])] at hlay
    have hcf : m.cls = cf := by
      obtain ⟨_, _, c', _, _, _, -, -, hf', -, -, -, hown2, -⟩ := Cond.laysFinal_spec hlay
      have e1 : c' = cf := by have := hi.symm.trans hf'; simp at this; exact this.1.symm
      rw [← hdec, hdc] at hown2
      rw [← e1]; exact Option.some.inj (hown.symm.trans hown2)
    have h6 := u_fits hfc hkC hkind (Or.inr hlay) hi (hty k hk) hn9 hfit
    exact W.putFinK C.1 C.2.1 hown (hts _ (wt_mem hw rfl)) hsame hst hcf (by rw [C.2.2.2.2.2.2.2.2]; exact hini) (by rw [q2]; exact h6) q1 q3 (by rw [hsl]; exact k2_hasslot (q4 k hk)) rfl rfl hd fin
theorem wp_widen {rc' rs' : Nat} (h1 : rc' ≤ rc) (h2 : rs' ≤ rs) (k : wp l G μ Z pc lv st h rc' rs') : wp l G μ Z pc lv st h rc rs := by
  intro p e s m args below meth c C H locs cells slots ls hR hlo hc hs hl hn
  exact k p e s m args below meth c C H locs cells slots ls hR hlo (by omega) (by omega) hl hn
theorem wp_new {idx ci N : Nat} {Cn : String} {T : u_T} {fs : List Value} {rc rs : Nat} (hd : decode (mC μ) pc = .ok (.new idx, 3)) (hw : Cond.classLink (mY μ).cls idx Cn ∈ lw_tbl ∧ Cond.instantiable Cn N ∈ lw_tbl ∧ Cond.initialized Cn ∈ lw_tbl) (hq : vwCl[ci]? = some (Cn, T, N)) (hfs : ∀ j, j < N → defaultValue (cl_ty ci j) = vp_V fs j)
    (kk : ∀ a : Nat, h a = none → (gH G).size ≤ a → wp l G μ Z (pc + 3) lv (.ref a :: st) (up h a (.inr (ci, fs))) rc rs) : wp l G μ Z pc lv st h (rc + 1) (rs + N) := by
  intro p e s m args below meth c C H locs cells slots ls hR hlo hcc hs hl hn
  have hts := C.2.2.2.2.2.1
  have hown := C.2.2.2.2.1
  have hK := C.2.2.2.2.2.2.1.1
  have hKn := hK.1 ci _ hq
  obtain ⟨hin, hnm, hty⟩ := cl_ok ci _ hq
  refine W.newcK C.1 C.2.1 hown (hts _ (wt_mem hw.1 rfl)) (hts _ (wt_mem hw.2.1 rfl)) (hts _ (wt_mem hw.2.2 rfl)) rfl hd (by omega) (by omega) hKn.2.1 rfl fun H1 kC hkC e1 z1 o1 => ?_
  refine kk H.size hR.fresh hR.1 p e s m args below meth c C H1 locs (cells + 1) (slots + N) ls (hR.new z1 o1 ?_) hlo (by omega) (by omega) hl hn
  exact ⟨_, hq, (u_born (cl_ty ci) hts hin hKn hkC e1 hty).to hfs⟩
end WPH
end
