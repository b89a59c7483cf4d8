-- ===== PART A: goes FIRST, ahead of the names: the tables' words, and 'selects' of methods out of them =====
/-- a method that the tables say can be made, by its rows of tables_1 -/
def lw_okq (q : MethodName × Nat) : Prop := (q.1.cls ≠ "java/lang/invoke/MethodHandle" ∧ q.1.cls ≠ "java/lang/invoke/VarHandle") ∧ Cond.instantiable q.1.cls q.2 ∈ tables_1 ∧ Cond.privateMethod q.1 ∈ tables_1 ∧ Cond.instanceMethod q.1 ∈ tables_1
theorem lw_p0 : lw_okq (⟨"ChatThreads", "beginChange", "()V"⟩, 7) := ⟨⟨by decide +kernel, by decide +kernel⟩, List.mem_of_getElem? (i := 11) (by decide +kernel), List.mem_of_getElem? (i := 265) (by decide +kernel), List.mem_of_getElem? (i := 266) (by decide +kernel)⟩
theorem lw_p1 : lw_okq (⟨"ChatThreads$History", "dropOldest", "()V"⟩, 2) := ⟨⟨by decide +kernel, by decide +kernel⟩, List.mem_of_getElem? (i := 164) (by decide +kernel), List.mem_of_getElem? (i := 273) (by decide +kernel), List.mem_of_getElem? (i := 274) (by decide +kernel)⟩
theorem lw_p2 : lw_okq (⟨"ChatThreads", "currentThreads", "()LChatThreads$Threads;"⟩, 7) := ⟨⟨by decide +kernel, by decide +kernel⟩, List.mem_of_getElem? (i := 11) (by decide +kernel), List.mem_of_getElem? (i := 332) (by decide +kernel), List.mem_of_getElem? (i := 333) (by decide +kernel)⟩
theorem lw_p3 : lw_okq (⟨"ChatThreads$Threads", "putInOrder", "()V"⟩, 17) := ⟨⟨by decide +kernel, by decide +kernel⟩, List.mem_of_getElem? (i := 19) (by decide +kernel), List.mem_of_getElem? (i := 340) (by decide +kernel), List.mem_of_getElem? (i := 341) (by decide +kernel)⟩
theorem lw_p4 : lw_okq (⟨"ChatThreads$Threads", "rate", "(II)V"⟩, 17) := ⟨⟨by decide +kernel, by decide +kernel⟩, List.mem_of_getElem? (i := 19) (by decide +kernel), List.mem_of_getElem? (i := 351) (by decide +kernel), List.mem_of_getElem? (i := 352) (by decide +kernel)⟩
theorem lw_p5 : lw_okq (⟨"ChatThreads$Threads", "speaksTo", "(II)Z"⟩, 17) := ⟨⟨by decide +kernel, by decide +kernel⟩, List.mem_of_getElem? (i := 19) (by decide +kernel), List.mem_of_getElem? (i := 355) (by decide +kernel), List.mem_of_getElem? (i := 356) (by decide +kernel)⟩
theorem lw_p6 : lw_okq (⟨"ChatThreads$Threads", "choicesFor", "(I)I"⟩, 17) := ⟨⟨by decide +kernel, by decide +kernel⟩, List.mem_of_getElem? (i := 19) (by decide +kernel), List.mem_of_getElem? (i := 374) (by decide +kernel), List.mem_of_getElem? (i := 375) (by decide +kernel)⟩
theorem lw_p7 : lw_okq (⟨"ChatThreads$Threads", "isInWindow", "(II)Z"⟩, 17) := ⟨⟨by decide +kernel, by decide +kernel⟩, List.mem_of_getElem? (i := 19) (by decide +kernel), List.mem_of_getElem? (i := 378) (by decide +kernel), List.mem_of_getElem? (i := 379) (by decide +kernel)⟩
theorem lw_p8 : lw_okq (⟨"ChatThreads$Threads", "bestOf", "(II)I"⟩, 17) := ⟨⟨by decide +kernel, by decide +kernel⟩, List.mem_of_getElem? (i := 19) (by decide +kernel), List.mem_of_getElem? (i := 382) (by decide +kernel), List.mem_of_getElem? (i := 383) (by decide +kernel)⟩
theorem lw_p9 : lw_okq (⟨"ChatThreads$Threads", "rivalsFor", "(I)I"⟩, 17) := ⟨⟨by decide +kernel, by decide +kernel⟩, List.mem_of_getElem? (i := 19) (by decide +kernel), List.mem_of_getElem? (i := 390) (by decide +kernel), List.mem_of_getElem? (i := 391) (by decide +kernel)⟩
theorem lw_p10 : lw_okq (⟨"ChatThreads$Threads", "addToThread", "(I)V"⟩, 17) := ⟨⟨by decide +kernel, by decide +kernel⟩, List.mem_of_getElem? (i := 19) (by decide +kernel), List.mem_of_getElem? (i := 398) (by decide +kernel), List.mem_of_getElem? (i := 399) (by decide +kernel)⟩
theorem lw_p11 : lw_okq (⟨"ChatThreads$Threads", "answerOf", "(I)I"⟩, 17) := ⟨⟨by decide +kernel, by decide +kernel⟩, List.mem_of_getElem? (i := 19) (by decide +kernel), List.mem_of_getElem? (i := 402) (by decide +kernel), List.mem_of_getElem? (i := 403) (by decide +kernel)⟩
theorem lw_p12 : lw_okq (⟨"ChatThreads$Threads", "isPassed", "(II)Z"⟩, 17) := ⟨⟨by decide +kernel, by decide +kernel⟩, List.mem_of_getElem? (i := 19) (by decide +kernel), List.mem_of_getElem? (i := 406) (by decide +kernel), List.mem_of_getElem? (i := 407) (by decide +kernel)⟩
theorem lw_p13 : lw_okq (⟨"ChatThreads$Threads", "joinRivals", "(I)V"⟩, 17) := ⟨⟨by decide +kernel, by decide +kernel⟩, List.mem_of_getElem? (i := 19) (by decide +kernel), List.mem_of_getElem? (i := 410) (by decide +kernel), List.mem_of_getElem? (i := 411) (by decide +kernel)⟩
theorem lw_p14 : lw_okq (⟨"ChatThreads$Threads", "join", "(III)V"⟩, 17) := ⟨⟨by decide +kernel, by decide +kernel⟩, List.mem_of_getElem? (i := 19) (by decide +kernel), List.mem_of_getElem? (i := 414) (by decide +kernel), List.mem_of_getElem? (i := 415) (by decide +kernel)⟩
theorem lw_p15 : lw_okq (⟨"ChatThreads$Threads", "numberThreadAt", "(I)V"⟩, 17) := ⟨⟨by decide +kernel, by decide +kernel⟩, List.mem_of_getElem? (i := 19) (by decide +kernel), List.mem_of_getElem? (i := 424) (by decide +kernel), List.mem_of_getElem? (i := 425) (by decide +kernel)⟩
def lw_privs_1 : List (MethodName × Nat) := [(⟨"ChatThreads", "beginChange", "()V"⟩, 7), (⟨"ChatThreads$History", "dropOldest", "()V"⟩, 2), (⟨"ChatThreads", "currentThreads", "()LChatThreads$Threads;"⟩, 7), (⟨"ChatThreads$Threads", "putInOrder", "()V"⟩, 17), (⟨"ChatThreads$Threads", "rate", "(II)V"⟩, 17), (⟨"ChatThreads$Threads", "speaksTo", "(II)Z"⟩, 17), (⟨"ChatThreads$Threads", "choicesFor", "(I)I"⟩, 17), (⟨"ChatThreads$Threads", "isInWindow", "(II)Z"⟩, 17), (⟨"ChatThreads$Threads", "bestOf", "(II)I"⟩, 17), (⟨"ChatThreads$Threads", "rivalsFor", "(I)I"⟩, 17), (⟨"ChatThreads$Threads", "addToThread", "(I)V"⟩, 17), (⟨"ChatThreads$Threads", "answerOf", "(I)I"⟩, 17), (⟨"ChatThreads$Threads", "isPassed", "(II)Z"⟩, 17), (⟨"ChatThreads$Threads", "joinRivals", "(I)V"⟩, 17), (⟨"ChatThreads$Threads", "join", "(III)V"⟩, 17), (⟨"ChatThreads$Threads", "numberThreadAt", "(I)V"⟩, 17)]
theorem lw_r1 : ∀ q ∈ lw_privs_1, lw_okq q := List.forall_mem_cons.mpr ⟨lw_p0, List.forall_mem_cons.mpr ⟨lw_p1, List.forall_mem_cons.mpr ⟨lw_p2, List.forall_mem_cons.mpr ⟨lw_p3, List.forall_mem_cons.mpr ⟨lw_p4, List.forall_mem_cons.mpr ⟨lw_p5, List.forall_mem_cons.mpr ⟨lw_p6, List.forall_mem_cons.mpr ⟨lw_p7, List.forall_mem_cons.mpr ⟨lw_p8, List.forall_mem_cons.mpr ⟨lw_p9, List.forall_mem_cons.mpr ⟨lw_p10, List.forall_mem_cons.mpr ⟨lw_p11, List.forall_mem_cons.mpr ⟨lw_p12, List.forall_mem_cons.mpr ⟨lw_p13, List.forall_mem_cons.mpr ⟨lw_p14, List.forall_mem_cons.mpr ⟨lw_p15, fun _ h => absurd h List.not_mem_nil⟩⟩⟩⟩⟩⟩⟩⟩⟩⟩⟩⟩⟩⟩⟩⟩
theorem lw_p16 : lw_okq (⟨"ChatThreads$Threads", "isBusier", "(II)Z"⟩, 17) := ⟨⟨by decide +kernel, by decide +kernel⟩, List.mem_of_getElem? (i := 19) (by decide +kernel), List.mem_of_getElem? (i := 567) (by decide +kernel), List.mem_of_getElem? (i := 568) (by decide +kernel)⟩
theorem lw_p17 : lw_okq (⟨"ChatThreads", "otherThreadCount", "()I"⟩, 7) := ⟨⟨by decide +kernel, by decide +kernel⟩, List.mem_of_getElem? (i := 11) (by decide +kernel), List.mem_of_getElem? (i := 596) (by decide +kernel), List.mem_of_getElem? (i := 597) (by decide +kernel)⟩
theorem lw_p18 : lw_okq (⟨"ChatThreads$Text", "readEntry", "()Z"⟩, 8) := ⟨⟨by decide +kernel, by decide +kernel⟩, List.mem_of_getElem? (i := 181) (by decide +kernel), List.mem_of_getElem? (i := 632) (by decide +kernel), List.mem_of_getElem? (i := 633) (by decide +kernel)⟩
theorem lw_p19 : lw_okq (⟨"ChatThreads$Text", "numbersDue", "()I"⟩, 8) := ⟨⟨by decide +kernel, by decide +kernel⟩, List.mem_of_getElem? (i := 181) (by decide +kernel), List.mem_of_getElem? (i := 636) (by decide +kernel), List.mem_of_getElem? (i := 637) (by decide +kernel)⟩
theorem lw_p20 : lw_okq (⟨"ChatThreads$Text", "readNumber", "()I"⟩, 8) := ⟨⟨by decide +kernel, by decide +kernel⟩, List.mem_of_getElem? (i := 181) (by decide +kernel), List.mem_of_getElem? (i := 640) (by decide +kernel), List.mem_of_getElem? (i := 641) (by decide +kernel)⟩
theorem lw_p21 : lw_okq (⟨"ChatThreads$Text", "entryFault", "(LChatThreads$Log;)I"⟩, 8) := ⟨⟨by decide +kernel, by decide +kernel⟩, List.mem_of_getElem? (i := 181) (by decide +kernel), List.mem_of_getElem? (i := 644) (by decide +kernel), List.mem_of_getElem? (i := 645) (by decide +kernel)⟩
theorem lw_p22 : lw_okq (⟨"ChatThreads$Text", "lineFault", "(LChatThreads$Log;)I"⟩, 8) := ⟨⟨by decide +kernel, by decide +kernel⟩, List.mem_of_getElem? (i := 181) (by decide +kernel), List.mem_of_getElem? (i := 648) (by decide +kernel), List.mem_of_getElem? (i := 649) (by decide +kernel)⟩
theorem lw_p23 : lw_okq (⟨"ChatThreads$Text", "kindOfFix", "()I"⟩, 8) := ⟨⟨by decide +kernel, by decide +kernel⟩, List.mem_of_getElem? (i := 181) (by decide +kernel), List.mem_of_getElem? (i := 655) (by decide +kernel), List.mem_of_getElem? (i := 656) (by decide +kernel)⟩
theorem lw_p24 : lw_okq (⟨"ChatThreads$Text", "earlierOfFix", "()I"⟩, 8) := ⟨⟨by decide +kernel, by decide +kernel⟩, List.mem_of_getElem? (i := 181) (by decide +kernel), List.mem_of_getElem? (i := 659) (by decide +kernel), List.mem_of_getElem? (i := 660) (by decide +kernel)⟩
theorem lw_p25 : lw_okq (⟨"ChatThreads$Text", "doEntry", "(LChatThreads$Log;)V"⟩, 8) := ⟨⟨by decide +kernel, by decide +kernel⟩, List.mem_of_getElem? (i := 181) (by decide +kernel), List.mem_of_getElem? (i := 665) (by decide +kernel), List.mem_of_getElem? (i := 666) (by decide +kernel)⟩
theorem lw_p26 : lw_okq (⟨"ChatThreadsModel", "changes", "()V"⟩, 21) := ⟨⟨by decide +kernel, by decide +kernel⟩, List.mem_of_getElem? (i := 675) (by decide +kernel), List.mem_of_getElem? (i := 759) (by decide +kernel), List.mem_of_getElem? (i := 760) (by decide +kernel)⟩
theorem lw_p27 : lw_okq (⟨"ChatThreadsModel", "adds", "(IIII)V"⟩, 21) := ⟨⟨by decide +kernel, by decide +kernel⟩, List.mem_of_getElem? (i := 675) (by decide +kernel), List.mem_of_getElem? (i := 779) (by decide +kernel), List.mem_of_getElem? (i := 780) (by decide +kernel)⟩
theorem lw_p28 : lw_okq (⟨"ChatThreadsModel", "isLine", "(I)Z"⟩, 21) := ⟨⟨by decide +kernel, by decide +kernel⟩, List.mem_of_getElem? (i := 675) (by decide +kernel), List.mem_of_getElem? (i := 787) (by decide +kernel), List.mem_of_getElem? (i := 788) (by decide +kernel)⟩
theorem lw_p29 : lw_okq (⟨"ChatThreadsModel", "lays", "([I)V"⟩, 21) := ⟨⟨by decide +kernel, by decide +kernel⟩, List.mem_of_getElem? (i := 675) (by decide +kernel), List.mem_of_getElem? (i := 804) (by decide +kernel), List.mem_of_getElem? (i := 805) (by decide +kernel)⟩
theorem lw_p30 : lw_okq (⟨"ChatThreadsModel", "laysScores", "([I)V"⟩, 21) := ⟨⟨by decide +kernel, by decide +kernel⟩, List.mem_of_getElem? (i := 675) (by decide +kernel), List.mem_of_getElem? (i := 808) (by decide +kernel), List.mem_of_getElem? (i := 809) (by decide +kernel)⟩
theorem lw_p31 : lw_okq (⟨"ChatThreadsModel", "laysOrder", "([I)V"⟩, 21) := ⟨⟨by decide +kernel, by decide +kernel⟩, List.mem_of_getElem? (i := 675) (by decide +kernel), List.mem_of_getElem? (i := 812) (by decide +kernel), List.mem_of_getElem? (i := 813) (by decide +kernel)⟩
def lw_privs_2 : List (MethodName × Nat) := [(⟨"ChatThreads$Threads", "isBusier", "(II)Z"⟩, 17), (⟨"ChatThreads", "otherThreadCount", "()I"⟩, 7), (⟨"ChatThreads$Text", "readEntry", "()Z"⟩, 8), (⟨"ChatThreads$Text", "numbersDue", "()I"⟩, 8), (⟨"ChatThreads$Text", "readNumber", "()I"⟩, 8), (⟨"ChatThreads$Text", "entryFault", "(LChatThreads$Log;)I"⟩, 8), (⟨"ChatThreads$Text", "lineFault", "(LChatThreads$Log;)I"⟩, 8), (⟨"ChatThreads$Text", "kindOfFix", "()I"⟩, 8), (⟨"ChatThreads$Text", "earlierOfFix", "()I"⟩, 8), (⟨"ChatThreads$Text", "doEntry", "(LChatThreads$Log;)V"⟩, 8), (⟨"ChatThreadsModel", "changes", "()V"⟩, 21), (⟨"ChatThreadsModel", "adds", "(IIII)V"⟩, 21), (⟨"ChatThreadsModel", "isLine", "(I)Z"⟩, 21), (⟨"ChatThreadsModel", "lays", "([I)V"⟩, 21), (⟨"ChatThreadsModel", "laysScores", "([I)V"⟩, 21), (⟨"ChatThreadsModel", "laysOrder", "([I)V"⟩, 21)]
theorem lw_r2 : ∀ q ∈ lw_privs_2, lw_okq q := List.forall_mem_cons.mpr ⟨lw_p16, List.forall_mem_cons.mpr ⟨lw_p17, List.forall_mem_cons.mpr ⟨lw_p18, List.forall_mem_cons.mpr ⟨lw_p19, List.forall_mem_cons.mpr ⟨lw_p20, List.forall_mem_cons.mpr ⟨lw_p21, List.forall_mem_cons.mpr ⟨lw_p22, List.forall_mem_cons.mpr ⟨lw_p23, List.forall_mem_cons.mpr ⟨lw_p24, List.forall_mem_cons.mpr ⟨lw_p25, List.forall_mem_cons.mpr ⟨lw_p26, List.forall_mem_cons.mpr ⟨lw_p27, List.forall_mem_cons.mpr ⟨lw_p28, List.forall_mem_cons.mpr ⟨lw_p29, List.forall_mem_cons.mpr ⟨lw_p30, List.forall_mem_cons.mpr ⟨lw_p31, fun _ h => absurd h List.not_mem_nil⟩⟩⟩⟩⟩⟩⟩⟩⟩⟩⟩⟩⟩⟩⟩⟩
theorem lw_p32 : lw_okq (⟨"ChatThreadsModel", "scoreOf", "([III)I"⟩, 21) := ⟨⟨by decide +kernel, by decide +kernel⟩, List.mem_of_getElem? (i := 675) (by decide +kernel), List.mem_of_getElem? (i := 822) (by decide +kernel), List.mem_of_getElem? (i := 823) (by decide +kernel)⟩
theorem lw_p33 : lw_okq (⟨"ChatThreadsModel", "laysThreads", "([I)V"⟩, 21) := ⟨⟨by decide +kernel, by decide +kernel⟩, List.mem_of_getElem? (i := 675) (by decide +kernel), List.mem_of_getElem? (i := 829) (by decide +kernel), List.mem_of_getElem? (i := 830) (by decide +kernel)⟩
theorem lw_p34 : lw_okq (⟨"ChatThreadsModel", "answerOf", "([III)I"⟩, 21) := ⟨⟨by decide +kernel, by decide +kernel⟩, List.mem_of_getElem? (i := 675) (by decide +kernel), List.mem_of_getElem? (i := 833) (by decide +kernel), List.mem_of_getElem? (i := 834) (by decide +kernel)⟩
theorem lw_p35 : lw_okq (⟨"ChatThreadsModel", "might", "([IIII)Z"⟩, 21) := ⟨⟨by decide +kernel, by decide +kernel⟩, List.mem_of_getElem? (i := 675) (by decide +kernel), List.mem_of_getElem? (i := 840) (by decide +kernel), List.mem_of_getElem? (i := 841) (by decide +kernel)⟩
theorem lw_p36 : lw_okq (⟨"ChatThreadsModel", "joins", "([II)V"⟩, 21) := ⟨⟨by decide +kernel, by decide +kernel⟩, List.mem_of_getElem? (i := 675) (by decide +kernel), List.mem_of_getElem? (i := 847) (by decide +kernel), List.mem_of_getElem? (i := 848) (by decide +kernel)⟩
theorem lw_p37 : lw_okq (⟨"ChatThreadsModel", "speaksToBoth", "([IIII)Z"⟩, 21) := ⟨⟨by decide +kernel, by decide +kernel⟩, List.mem_of_getElem? (i := 675) (by decide +kernel), List.mem_of_getElem? (i := 851) (by decide +kernel), List.mem_of_getElem? (i := 852) (by decide +kernel)⟩
theorem lw_p38 : lw_okq (⟨"ChatThreadsModel", "unites", "([III)V"⟩, 21) := ⟨⟨by decide +kernel, by decide +kernel⟩, List.mem_of_getElem? (i := 675) (by decide +kernel), List.mem_of_getElem? (i := 855) (by decide +kernel), List.mem_of_getElem? (i := 856) (by decide +kernel)⟩
theorem lw_p39 : lw_okq (⟨"ChatThreadsModel", "answeredBy", "(I)I"⟩, 21) := ⟨⟨by decide +kernel, by decide +kernel⟩, List.mem_of_getElem? (i := 675) (by decide +kernel), List.mem_of_getElem? (i := 859) (by decide +kernel), List.mem_of_getElem? (i := 860) (by decide +kernel)⟩
theorem lw_p40 : lw_okq (⟨"ChatThreadsModel", "reasonOf", "(II)I"⟩, 21) := ⟨⟨by decide +kernel, by decide +kernel⟩, List.mem_of_getElem? (i := 675) (by decide +kernel), List.mem_of_getElem? (i := 875) (by decide +kernel), List.mem_of_getElem? (i := 876) (by decide +kernel)⟩
theorem lw_p41 : lw_okq (⟨"ChatThreadsModel", "sumOf", "(I)I"⟩, 21) := ⟨⟨by decide +kernel, by decide +kernel⟩, List.mem_of_getElem? (i := 675) (by decide +kernel), List.mem_of_getElem? (i := 893) (by decide +kernel), List.mem_of_getElem? (i := 894) (by decide +kernel)⟩
theorem lw_p42 : lw_okq (⟨"ChatThreadsModel", "canTell", "(III)Z"⟩, 21) := ⟨⟨by decide +kernel, by decide +kernel⟩, List.mem_of_getElem? (i := 675) (by decide +kernel), List.mem_of_getElem? (i := 905) (by decide +kernel), List.mem_of_getElem? (i := 906) (by decide +kernel)⟩
theorem lw_p43 : lw_okq (⟨"ChatThreadsModel", "isEarlier", "(II)Z"⟩, 21) := ⟨⟨by decide +kernel, by decide +kernel⟩, List.mem_of_getElem? (i := 675) (by decide +kernel), List.mem_of_getElem? (i := 909) (by decide +kernel), List.mem_of_getElem? (i := 910) (by decide +kernel)⟩
theorem lw_p44 : lw_okq (⟨"ChatThreadsModel", "tells", "(III)V"⟩, 21) := ⟨⟨by decide +kernel, by decide +kernel⟩, List.mem_of_getElem? (i := 675) (by decide +kernel), List.mem_of_getElem? (i := 913) (by decide +kernel), List.mem_of_getElem? (i := 914) (by decide +kernel)⟩
theorem lw_p45 : lw_okq (⟨"ChatThreadsModel", "doesCount", "(I)I"⟩, 21) := ⟨⟨by decide +kernel, by decide +kernel⟩, List.mem_of_getElem? (i := 675) (by decide +kernel), List.mem_of_getElem? (i := 925) (by decide +kernel), List.mem_of_getElem? (i := 926) (by decide +kernel)⟩
theorem lw_p46 : lw_okq (⟨"ChatThreadsModel", "laysRow", "(I)I"⟩, 21) := ⟨⟨by decide +kernel, by decide +kernel⟩, List.mem_of_getElem? (i := 675) (by decide +kernel), List.mem_of_getElem? (i := 933) (by decide +kernel), List.mem_of_getElem? (i := 934) (by decide +kernel)⟩
theorem lw_p47 : lw_okq (⟨"ChatThreadsModel", "writers", "(I)I"⟩, 21) := ⟨⟨by decide +kernel, by decide +kernel⟩, List.mem_of_getElem? (i := 675) (by decide +kernel), List.mem_of_getElem? (i := 937) (by decide +kernel), List.mem_of_getElem? (i := 938) (by decide +kernel)⟩
def lw_privs_3 : List (MethodName × Nat) := [(⟨"ChatThreadsModel", "scoreOf", "([III)I"⟩, 21), (⟨"ChatThreadsModel", "laysThreads", "([I)V"⟩, 21), (⟨"ChatThreadsModel", "answerOf", "([III)I"⟩, 21), (⟨"ChatThreadsModel", "might", "([IIII)Z"⟩, 21), (⟨"ChatThreadsModel", "joins", "([II)V"⟩, 21), (⟨"ChatThreadsModel", "speaksToBoth", "([IIII)Z"⟩, 21), (⟨"ChatThreadsModel", "unites", "([III)V"⟩, 21), (⟨"ChatThreadsModel", "answeredBy", "(I)I"⟩, 21), (⟨"ChatThreadsModel", "reasonOf", "(II)I"⟩, 21), (⟨"ChatThreadsModel", "sumOf", "(I)I"⟩, 21), (⟨"ChatThreadsModel", "canTell", "(III)Z"⟩, 21), (⟨"ChatThreadsModel", "isEarlier", "(II)Z"⟩, 21), (⟨"ChatThreadsModel", "tells", "(III)V"⟩, 21), (⟨"ChatThreadsModel", "doesCount", "(I)I"⟩, 21), (⟨"ChatThreadsModel", "laysRow", "(I)I"⟩, 21), (⟨"ChatThreadsModel", "writers", "(I)I"⟩, 21)]
theorem lw_r3 : ∀ q ∈ lw_privs_3, lw_okq q := List.forall_mem_cons.mpr ⟨lw_p32, List.forall_mem_cons.mpr ⟨lw_p33, List.forall_mem_cons.mpr ⟨lw_p34, List.forall_mem_cons.mpr ⟨lw_p35, List.forall_mem_cons.mpr ⟨lw_p36, List.forall_mem_cons.mpr ⟨lw_p37, List.forall_mem_cons.mpr ⟨lw_p38, List.forall_mem_cons.mpr ⟨lw_p39, List.forall_mem_cons.mpr ⟨lw_p40, List.forall_mem_cons.mpr ⟨lw_p41, List.forall_mem_cons.mpr ⟨lw_p42, List.forall_mem_cons.mpr ⟨lw_p43, List.forall_mem_cons.mpr ⟨lw_p44, List.forall_mem_cons.mpr ⟨lw_p45, List.forall_mem_cons.mpr ⟨lw_p46, List.forall_mem_cons.mpr ⟨lw_p47, fun _ h => absurd h List.not_mem_nil⟩⟩⟩⟩⟩⟩⟩⟩⟩⟩⟩⟩⟩⟩⟩⟩
theorem lw_p48 : lw_okq (⟨"ChatThreadsModel", "widest", "(I)I"⟩, 21) := ⟨⟨by decide +kernel, by decide +kernel⟩, List.mem_of_getElem? (i := 675) (by decide +kernel), List.mem_of_getElem? (i := 941) (by decide +kernel), List.mem_of_getElem? (i := 942) (by decide +kernel)⟩
theorem lw_p49 : lw_okq (⟨"ChatThreadsModel", "longest", "(I)I"⟩, 21) := ⟨⟨by decide +kernel, by decide +kernel⟩, List.mem_of_getElem? (i := 675) (by decide +kernel), List.mem_of_getElem? (i := 945) (by decide +kernel), List.mem_of_getElem? (i := 946) (by decide +kernel)⟩
theorem lw_p50 : lw_okq (⟨"ChatThreadsModel", "weightOf", "(I)I"⟩, 21) := ⟨⟨by decide +kernel, by decide +kernel⟩, List.mem_of_getElem? (i := 675) (by decide +kernel), List.mem_of_getElem? (i := 957) (by decide +kernel), List.mem_of_getElem? (i := 958) (by decide +kernel)⟩
theorem lw_p51 : lw_okq (⟨"ChatThreadsModel", "answersOf", "(II)I"⟩, 21) := ⟨⟨by decide +kernel, by decide +kernel⟩, List.mem_of_getElem? (i := 675) (by decide +kernel), List.mem_of_getElem? (i := 965) (by decide +kernel), List.mem_of_getElem? (i := 966) (by decide +kernel)⟩
theorem lw_p52 : lw_okq (⟨"ChatThreadsModel", "begins", "()V"⟩, 21) := ⟨⟨by decide +kernel, by decide +kernel⟩, List.mem_of_getElem? (i := 675) (by decide +kernel), List.mem_of_getElem? (i := 981) (by decide +kernel), List.mem_of_getElem? (i := 982) (by decide +kernel)⟩
theorem lw_p53 : lw_okq (⟨"ChatThreadsModel", "doesAll", "()I"⟩, 21) := ⟨⟨by decide +kernel, by decide +kernel⟩, List.mem_of_getElem? (i := 675) (by decide +kernel), List.mem_of_getElem? (i := 1005) (by decide +kernel), List.mem_of_getElem? (i := 1006) (by decide +kernel)⟩
theorem lw_p54 : lw_okq (⟨"ChatThreadsModel", "does", "()I"⟩, 21) := ⟨⟨by decide +kernel, by decide +kernel⟩, List.mem_of_getElem? (i := 675) (by decide +kernel), List.mem_of_getElem? (i := 1009) (by decide +kernel), List.mem_of_getElem? (i := 1010) (by decide +kernel)⟩
theorem lw_p55 : lw_okq (⟨"ChatThreadsModel", "isEntry", "()Z"⟩, 21) := ⟨⟨by decide +kernel, by decide +kernel⟩, List.mem_of_getElem? (i := 675) (by decide +kernel), List.mem_of_getElem? (i := 1013) (by decide +kernel), List.mem_of_getElem? (i := 1014) (by decide +kernel)⟩
theorem lw_p56 : lw_okq (⟨"ChatThreadsModel", "isNumber", "(II)Z"⟩, 21) := ⟨⟨by decide +kernel, by decide +kernel⟩, List.mem_of_getElem? (i := 675) (by decide +kernel), List.mem_of_getElem? (i := 1017) (by decide +kernel), List.mem_of_getElem? (i := 1018) (by decide +kernel)⟩
theorem lw_p57 : lw_okq (⟨"ChatThreadsModel", "letsBack", "()V"⟩, 21) := ⟨⟨by decide +kernel, by decide +kernel⟩, List.mem_of_getElem? (i := 675) (by decide +kernel), List.mem_of_getElem? (i := 1021) (by decide +kernel), List.mem_of_getElem? (i := 1022) (by decide +kernel)⟩
def lw_privs_4 : List (MethodName × Nat) := [(⟨"ChatThreadsModel", "widest", "(I)I"⟩, 21), (⟨"ChatThreadsModel", "longest", "(I)I"⟩, 21), (⟨"ChatThreadsModel", "weightOf", "(I)I"⟩, 21), (⟨"ChatThreadsModel", "answersOf", "(II)I"⟩, 21), (⟨"ChatThreadsModel", "begins", "()V"⟩, 21), (⟨"ChatThreadsModel", "doesAll", "()I"⟩, 21), (⟨"ChatThreadsModel", "does", "()I"⟩, 21), (⟨"ChatThreadsModel", "isEntry", "()Z"⟩, 21), (⟨"ChatThreadsModel", "isNumber", "(II)Z"⟩, 21), (⟨"ChatThreadsModel", "letsBack", "()V"⟩, 21)]
theorem lw_r4 : ∀ q ∈ lw_privs_4, lw_okq q := List.forall_mem_cons.mpr ⟨lw_p48, List.forall_mem_cons.mpr ⟨lw_p49, List.forall_mem_cons.mpr ⟨lw_p50, List.forall_mem_cons.mpr ⟨lw_p51, List.forall_mem_cons.mpr ⟨lw_p52, List.forall_mem_cons.mpr ⟨lw_p53, List.forall_mem_cons.mpr ⟨lw_p54, List.forall_mem_cons.mpr ⟨lw_p55, List.forall_mem_cons.mpr ⟨lw_p56, List.forall_mem_cons.mpr ⟨lw_p57, fun _ h => absurd h List.not_mem_nil⟩⟩⟩⟩⟩⟩⟩⟩⟩⟩
def lw_privs : List (MethodName × Nat) := lw_privs_1 ++ (lw_privs_2 ++ (lw_privs_3 ++ (lw_privs_4)))
def lw_tbl : List Cond := k2_sels lw_privs ++ tables_1
theorem lw_privs_ok : ∀ q ∈ lw_privs, lw_okq q := by
  show ∀ q ∈ lw_privs_1 ++ (lw_privs_2 ++ (lw_privs_3 ++ (lw_privs_4))), lw_okq q
  exact List.forall_mem_append.mpr ⟨lw_r1, List.forall_mem_append.mpr ⟨lw_r2, List.forall_mem_append.mpr ⟨lw_r3, lw_r4⟩⟩⟩
/-! ===== BEGIN words of one list among another's, by their places ===== -/
theorem goodIn_r {big : List Cond} (ws : List Cond) (ps : List Nat) (hp : ws = ps.filterMap (fun i => big[i]?)) (h : ws.all goodWord = true) : GoodIn big ws := by
  intro w hw
  have h1 := List.all_eq_true.mp h w hw
  rw [hp] at hw
  obtain ⟨i, -, hi⟩ := List.mem_filterMap.mp hw
  have hm : w ∈ big := by first | exact List.mem_of_getElem? hi | exact List.getElem?_mem hi
  exact ⟨hm, good_of_word h1⟩
theorem goodIn_app {big a b : List Cond} (ha : GoodIn big a) (hb : GoodIn big b) : GoodIn big (a ++ b) := fun w h => (List.mem_append.mp h).elim (ha w) (hb w)
theorem goodIn_ca {big a b : List Cond} {c : Cond} (ha : GoodIn big (c :: a)) (hb : GoodIn big b) : GoodIn big (c :: (a ++ b)) := fun w h => (List.mem_cons.mp h).elim (fun e => ha w (List.mem_cons.mpr (Or.inl e))) (fun h => (List.mem_append.mp h).elim (fun h => ha w (List.mem_cons.mpr (Or.inr h))) (hb w))
theorem goodIn_sub {big ws : List Cond} (hm : ∀ w ∈ ws, w ∈ big) (h : ws.all goodWord = true) : GoodIn big ws := fun w hw => ⟨hm w hw, good_of_word (List.all_eq_true.mp h w hw)⟩
/-! ===== END ===== -/

/-! ===== BEGIN printed: names, fields, word lists, decode rows ===== -/
def RX0 : String := "ChatThreads$History"
def TX0 : u_T := fun k => match k with
  | 0 => ("ChatThreads$History", "stateCount", "I", false)
  | _ => ("ChatThreads$History", "states", "[LChatThreads$Log;", true)
def tyX0 : Nat → FieldType := fun k => match k with
  | 0 => .int
  | _ => .array (.object "ChatThreads$Log")
abbrev wsX00 : List Cond := u_ws RX0 TX0 2
theorem nmX0 : ∀ a, a < 2 → ∀ b, b < 2 → a ≠ b → (TX0 a).2.1 ≠ (TX0 b).2.1 := by decide +kernel
theorem tyX0_ok : ∀ k, k < 2 → parseFieldDescriptor (TX0 k).2.2.1 = some (tyX0 k) := by decide +kernel
abbrev cX0_init : ByteArray := prog_2_method_1_code
def yX0_init : MethodName := ⟨RX0, "<init>", "()V"⟩
abbrev cX0_keep : ByteArray := prog_2_method_2_code
def yX0_keep : MethodName := ⟨RX0, "keep", "(LChatThreads$Log;)V"⟩
abbrev cX0_takeBack : ByteArray := prog_2_method_3_code
def yX0_takeBack : MethodName := ⟨RX0, "takeBack", "(LChatThreads$Log;)V"⟩
abbrev cX0_dropOldest : ByteArray := prog_2_method_4_code
def yX0_dropOldest : MethodName := ⟨RX0, "dropOldest", "()V"⟩
def RX1 : String := "ChatThreads$Log"
def TX1 : u_T := fun k => match k with
  | 0 => ("ChatThreads$Log", "takeCount", "I", false)
  | 1 => ("ChatThreads$Log", "takers", "[I", true)
  | 2 => ("ChatThreads$Log", "takenNames", "[I", true)
  | 3 => ("ChatThreads$Log", "takeTimes", "[I", true)
  | 4 => ("ChatThreads$Log", "lineCount", "I", false)
  | 5 => ("ChatThreads$Log", "times", "[I", true)
  | 6 => ("ChatThreads$Log", "writers", "[I", true)
  | 7 => ("ChatThreads$Log", "names", "[I", true)
  | 8 => ("ChatThreads$Log", "words", "[I", true)
  | 9 => ("ChatThreads$Log", "fixCount", "I", false)
  | 10 => ("ChatThreads$Log", "fixKinds", "[I", true)
  | 11 => ("ChatThreads$Log", "fixLines", "[I", true)
  | 12 => ("ChatThreads$Log", "fixEarlier", "[I", true)
  | _ => ("ChatThreads$Log", "settings", "[I", true)
def tyX1 : Nat → FieldType := fun k => match k with
  | 0 => .int
  | 1 => .array .int
  | 2 => .array .int
  | 3 => .array .int
  | 4 => .int
  | 5 => .array .int
  | 6 => .array .int
  | 7 => .array .int
  | 8 => .array .int
  | 9 => .int
  | 10 => .array .int
  | 11 => .array .int
  | 12 => .array .int
  | _ => .array .int
abbrev wsX10 : List Cond := u_ws RX1 TX1 14
theorem nmX1 : ∀ a, a < 14 → ∀ b, b < 14 → a ≠ b → (TX1 a).2.1 ≠ (TX1 b).2.1 := by decide +kernel
theorem tyX1_ok : ∀ k, k < 14 → parseFieldDescriptor (TX1 k).2.2.1 = some (tyX1 k) := by decide +kernel
abbrev cX1_init : ByteArray := prog_3_method_1_code
def yX1_init : MethodName := ⟨RX1, "<init>", "()V"⟩
abbrev cX1_copyFrom : ByteArray := prog_3_method_2_code
def yX1_copyFrom : MethodName := ⟨RX1, "copyFrom", "(LChatThreads$Log;)V"⟩
abbrev cX1_addTake : ByteArray := prog_3_method_3_code
def yX1_addTake : MethodName := ⟨RX1, "addTake", "(III)V"⟩
abbrev cX1_lastTakeTime : ByteArray := prog_3_method_4_code
def yX1_lastTakeTime : MethodName := ⟨RX1, "lastTakeTime", "()I"⟩
abbrev cX1_nameAt : ByteArray := prog_3_method_5_code
def yX1_nameAt : MethodName := ⟨RX1, "nameAt", "(II)I"⟩
abbrev cX1_holderAt : ByteArray := prog_3_method_6_code
def yX1_holderAt : MethodName := ⟨RX1, "holderAt", "(II)I"⟩
abbrev cX1_personsNamedIn : ByteArray := prog_3_method_7_code
def yX1_personsNamedIn : MethodName := ⟨RX1, "personsNamedIn", "(I)I"⟩
abbrev cX1_isLine : ByteArray := prog_3_method_8_code
def yX1_isLine : MethodName := ⟨RX1, "isLine", "(I)Z"⟩
abbrev cX1_isEarlier : ByteArray := prog_3_method_9_code
def yX1_isEarlier : MethodName := ⟨RX1, "isEarlier", "(II)Z"⟩
abbrev cX1_addLine : ByteArray := prog_3_method_10_code
def yX1_addLine : MethodName := ⟨RX1, "addLine", "(IIII)V"⟩
abbrev cX1_removeLine : ByteArray := prog_3_method_11_code
def yX1_removeLine : MethodName := ⟨RX1, "removeLine", "(I)V"⟩
abbrev cX1_numberWithout : ByteArray := prog_3_method_12_code
def yX1_numberWithout : MethodName := ⟨RX1, "numberWithout", "(II)I"⟩
abbrev cX1_isFix : ByteArray := prog_3_method_13_code
def yX1_isFix : MethodName := ⟨RX1, "isFix", "(I)Z"⟩
abbrev cX1_canBeFixed : ByteArray := prog_3_method_14_code
def yX1_canBeFixed : MethodName := ⟨RX1, "canBeFixed", "(III)Z"⟩
abbrev cX1_fixLike : ByteArray := prog_3_method_15_code
def yX1_fixLike : MethodName := ⟨RX1, "fixLike", "(III)I"⟩
abbrev cX1_addFix : ByteArray := prog_3_method_16_code
def yX1_addFix : MethodName := ⟨RX1, "addFix", "(III)V"⟩
abbrev cX1_removeFix : ByteArray := prog_3_method_17_code
def yX1_removeFix : MethodName := ⟨RX1, "removeFix", "(I)V"⟩
abbrev cX1_countingFix : ByteArray := prog_3_method_18_code
def yX1_countingFix : MethodName := ⟨RX1, "countingFix", "(I)I"⟩
abbrev cX1_fixedLines : ByteArray := prog_3_method_19_code
def yX1_fixedLines : MethodName := ⟨RX1, "fixedLines", "()I"⟩
def RX2 : String := "ChatThreads$Text"
def TX2 : u_T := fun k => match k with
  | 0 => ("ChatThreads$Text", "length", "I", false)
  | 1 => ("ChatThreads$Text", "signs", "[C", true)
  | 2 => ("ChatThreads$Text", "entryCount", "I", false)
  | 3 => ("ChatThreads$Text", "faultPosition", "I", false)
  | 4 => ("ChatThreads$Text", "faultReason", "I", false)
  | 5 => ("ChatThreads$Text", "letter", "C", false)
  | 6 => ("ChatThreads$Text", "position", "I", false)
  | _ => ("ChatThreads$Text", "numbers", "[I", true)
def tyX2 : Nat → FieldType := fun k => match k with
  | 0 => .int
  | 1 => .array .char
  | 2 => .int
  | 3 => .int
  | 4 => .int
  | 5 => .char
  | 6 => .int
  | _ => .array .int
abbrev wsX20 : List Cond := u_ws RX2 TX2 8
theorem nmX2 : ∀ a, a < 8 → ∀ b, b < 8 → a ≠ b → (TX2 a).2.1 ≠ (TX2 b).2.1 := by decide +kernel
theorem tyX2_ok : ∀ k, k < 8 → parseFieldDescriptor (TX2 k).2.2.1 = some (tyX2 k) := by decide +kernel
abbrev cX2_init : ByteArray := prog_4_method_1_code
def yX2_init : MethodName := ⟨RX2, "<init>", "()V"⟩
abbrev cX2_add : ByteArray := prog_4_method_2_code
def yX2_add : MethodName := ⟨RX2, "add", "(C)V"⟩
abbrev cX2_doneOn : ByteArray := prog_4_method_3_code
def yX2_doneOn : MethodName := ⟨RX2, "doneOn", "(LChatThreads$Log;)Z"⟩
abbrev cX2_readEntry : ByteArray := prog_4_method_4_code
def yX2_readEntry : MethodName := ⟨RX2, "readEntry", "()Z"⟩
abbrev cX2_numbersDue : ByteArray := prog_4_method_5_code
def yX2_numbersDue : MethodName := ⟨RX2, "numbersDue", "()I"⟩
abbrev cX2_readNumber : ByteArray := prog_4_method_6_code
def yX2_readNumber : MethodName := ⟨RX2, "readNumber", "()I"⟩
abbrev cX2_entryFault : ByteArray := prog_4_method_7_code
def yX2_entryFault : MethodName := ⟨RX2, "entryFault", "(LChatThreads$Log;)I"⟩
abbrev cX2_lineFault : ByteArray := prog_4_method_8_code
def yX2_lineFault : MethodName := ⟨RX2, "lineFault", "(LChatThreads$Log;)I"⟩
abbrev cX2_kindOfFix : ByteArray := prog_4_method_9_code
def yX2_kindOfFix : MethodName := ⟨RX2, "kindOfFix", "()I"⟩
abbrev cX2_earlierOfFix : ByteArray := prog_4_method_10_code
def yX2_earlierOfFix : MethodName := ⟨RX2, "earlierOfFix", "()I"⟩
abbrev cX2_doEntry : ByteArray := prog_4_method_11_code
def yX2_doEntry : MethodName := ⟨RX2, "doEntry", "(LChatThreads$Log;)V"⟩
def RX3 : String := "ChatThreads$Threads"
def TX3 : u_T := fun k => match k with
  | 0 => ("ChatThreads$Threads", "log", "LChatThreads$Log;", true)
  | 1 => ("ChatThreads$Threads", "order", "[I", true)
  | 2 => ("ChatThreads$Threads", "places", "[I", true)
  | 3 => ("ChatThreads$Threads", "spokenTo", "[I", true)
  | 4 => ("ChatThreads$Threads", "scores", "[I", true)
  | 5 => ("ChatThreads$Threads", "fixes", "[I", true)
  | 6 => ("ChatThreads$Threads", "choices", "[I", true)
  | 7 => ("ChatThreads$Threads", "bests", "[I", true)
  | 8 => ("ChatThreads$Threads", "rivals", "[I", true)
  | 9 => ("ChatThreads$Threads", "answered", "[I", true)
  | 10 => ("ChatThreads$Threads", "joins", "[I", true)
  | 11 => ("ChatThreads$Threads", "rows", "[I", true)
  | 12 => ("ChatThreads$Threads", "firstPlaces", "[I", true)
  | 13 => ("ChatThreads$Threads", "numbers", "[I", true)
  | 14 => ("ChatThreads$Threads", "threadCount", "I", false)
  | 15 => ("ChatThreads$Threads", "lengths", "[I", true)
  | _ => ("ChatThreads$Threads", "lastLines", "[I", true)
def tyX3 : Nat → FieldType := fun k => match k with
  | 0 => .object "ChatThreads$Log"
  | 1 => .array .int
  | 2 => .array .int
  | 3 => .array .int
  | 4 => .array .int
  | 5 => .array .int
  | 6 => .array .int
  | 7 => .array .int
  | 8 => .array .int
  | 9 => .array .int
  | 10 => .array .int
  | 11 => .array .int
  | 12 => .array .int
  | 13 => .array .int
  | 14 => .int
  | 15 => .array .int
  | _ => .array .int
abbrev wsX30 : List Cond := u_ws RX3 TX3 17
theorem nmX3 : ∀ a, a < 17 → ∀ b, b < 17 → a ≠ b → (TX3 a).2.1 ≠ (TX3 b).2.1 := by decide +kernel
theorem tyX3_ok : ∀ k, k < 17 → parseFieldDescriptor (TX3 k).2.2.1 = some (tyX3 k) := by decide +kernel
abbrev cX3_init : ByteArray := prog_5_method_1_code
def yX3_init : MethodName := ⟨RX3, "<init>", "()V"⟩
abbrev cX3_rateAll : ByteArray := prog_5_method_2_code
def yX3_rateAll : MethodName := ⟨RX3, "rateAll", "()V"⟩
abbrev cX3_putInOrder : ByteArray := prog_5_method_3_code
def yX3_putInOrder : MethodName := ⟨RX3, "putInOrder", "()V"⟩
abbrev cX3_rate : ByteArray := prog_5_method_4_code
def yX3_rate : MethodName := ⟨RX3, "rate", "(II)V"⟩
abbrev cX3_speaksTo : ByteArray := prog_5_method_5_code
def yX3_speaksTo : MethodName := ⟨RX3, "speaksTo", "(II)Z"⟩
abbrev cX3_scoreFor : ByteArray := prog_5_method_6_code
def yX3_scoreFor : MethodName := ⟨RX3, "scoreFor", "(II)I"⟩
abbrev cX3_gapOf : ByteArray := prog_5_method_7_code
def yX3_gapOf : MethodName := ⟨RX3, "gapOf", "(II)I"⟩
abbrev cX3_choicesFor : ByteArray := prog_5_method_8_code
def yX3_choicesFor : MethodName := ⟨RX3, "choicesFor", "(I)I"⟩
abbrev cX3_isInWindow : ByteArray := prog_5_method_9_code
def yX3_isInWindow : MethodName := ⟨RX3, "isInWindow", "(II)Z"⟩
abbrev cX3_bestOf : ByteArray := prog_5_method_10_code
def yX3_bestOf : MethodName := ⟨RX3, "bestOf", "(II)I"⟩
abbrev cX3_rivalsFor : ByteArray := prog_5_method_11_code
def yX3_rivalsFor : MethodName := ⟨RX3, "rivalsFor", "(I)I"⟩
abbrev cX3_scoreMatters : ByteArray := prog_5_method_12_code
def yX3_scoreMatters : MethodName := ⟨RX3, "scoreMatters", "(I)Z"⟩
abbrev cX3_follow : ByteArray := prog_5_method_13_code
def yX3_follow : MethodName := ⟨RX3, "follow", "()V"⟩
abbrev cX3_numberThreadAt : ByteArray := prog_5_method_14_code
def yX3_numberThreadAt : MethodName := ⟨RX3, "numberThreadAt", "(I)V"⟩
abbrev cX3_addToThread : ByteArray := prog_5_method_15_code
def yX3_addToThread : MethodName := ⟨RX3, "addToThread", "(I)V"⟩
abbrev cX3_answerOf : ByteArray := prog_5_method_16_code
def yX3_answerOf : MethodName := ⟨RX3, "answerOf", "(I)I"⟩
abbrev cX3_isPassed : ByteArray := prog_5_method_17_code
def yX3_isPassed : MethodName := ⟨RX3, "isPassed", "(II)Z"⟩
abbrev cX3_joinRivals : ByteArray := prog_5_method_18_code
def yX3_joinRivals : MethodName := ⟨RX3, "joinRivals", "(I)V"⟩
abbrev cX3_join : ByteArray := prog_5_method_19_code
def yX3_join : MethodName := ⟨RX3, "join", "(III)V"⟩
abbrev cX3_reasonAgainst : ByteArray := prog_5_method_20_code
def yX3_reasonAgainst : MethodName := ⟨RX3, "reasonAgainst", "(II)I"⟩
abbrev cX3_fixMatters : ByteArray := prog_5_method_21_code
def yX3_fixMatters : MethodName := ⟨RX3, "fixMatters", "(I)Z"⟩
abbrev cX3_answersTo : ByteArray := prog_5_method_22_code
def yX3_answersTo : MethodName := ⟨RX3, "answersTo", "(I)I"⟩
abbrev cX3_answersBetween : ByteArray := prog_5_method_23_code
def yX3_answersBetween : MethodName := ⟨RX3, "answersBetween", "(II)I"⟩
abbrev cX3_beginnings : ByteArray := prog_5_method_24_code
def yX3_beginnings : MethodName := ⟨RX3, "beginnings", "()I"⟩
abbrev cX3_allJoins : ByteArray := prog_5_method_25_code
def yX3_allJoins : MethodName := ⟨RX3, "allJoins", "()I"⟩
abbrev cX3_isThread : ByteArray := prog_5_method_26_code
def yX3_isThread : MethodName := ⟨RX3, "isThread", "(I)Z"⟩
abbrev cX3_memberOf : ByteArray := prog_5_method_27_code
def yX3_memberOf : MethodName := ⟨RX3, "memberOf", "(II)I"⟩
abbrev cX3_writersOf : ByteArray := prog_5_method_28_code
def yX3_writersOf : MethodName := ⟨RX3, "writersOf", "(I)I"⟩
abbrev cX3_spanOf : ByteArray := prog_5_method_29_code
def yX3_spanOf : MethodName := ⟨RX3, "spanOf", "(I)I"⟩
abbrev cX3_greatestGapOf : ByteArray := prog_5_method_30_code
def yX3_greatestGapOf : MethodName := ⟨RX3, "greatestGapOf", "(I)I"⟩
abbrev cX3_longestRowOf : ByteArray := prog_5_method_31_code
def yX3_longestRowOf : MethodName := ⟨RX3, "longestRowOf", "(I)I"⟩
abbrev cX3_ranked : ByteArray := prog_5_method_32_code
def yX3_ranked : MethodName := ⟨RX3, "ranked", "(I)I"⟩
abbrev cX3_isBusier : ByteArray := prog_5_method_33_code
def yX3_isBusier : MethodName := ⟨RX3, "isBusier", "(II)Z"⟩
abbrev cX3_isAwake : ByteArray := prog_5_method_34_code
def yX3_isAwake : MethodName := ⟨RX3, "isAwake", "(II)Z"⟩
def RX4 : String := "ChatThreads"
def TX4 : u_T := fun k => match k with
  | 0 => ("ChatThreads", "threads", "LChatThreads$Threads;", true)
  | 1 => ("ChatThreads", "log", "LChatThreads$Log;", true)
  | 2 => ("ChatThreads", "threadsAreOld", "Z", false)
  | 3 => ("ChatThreads", "history", "LChatThreads$History;", true)
  | 4 => ("ChatThreads", "text", "LChatThreads$Text;", true)
  | 5 => ("ChatThreads", "otherThreads", "LChatThreads$Threads;", true)
  | _ => ("ChatThreads", "otherLog", "LChatThreads$Log;", true)
def tyX4 : Nat → FieldType := fun k => match k with
  | 0 => .object "ChatThreads$Threads"
  | 1 => .object "ChatThreads$Log"
  | 2 => .boolean
  | 3 => .object "ChatThreads$History"
  | 4 => .object "ChatThreads$Text"
  | 5 => .object "ChatThreads$Threads"
  | _ => .object "ChatThreads$Log"
abbrev wsX40 : List Cond := u_ws RX4 TX4 7
theorem nmX4 : ∀ a, a < 7 → ∀ b, b < 7 → a ≠ b → (TX4 a).2.1 ≠ (TX4 b).2.1 := by decide +kernel
theorem tyX4_ok : ∀ k, k < 7 → parseFieldDescriptor (TX4 k).2.2.1 = some (tyX4 k) := by decide +kernel
abbrev cX4_init : ByteArray := prog_1_method_1_code
def yX4_init : MethodName := ⟨RX4, "<init>", "()V"⟩
abbrev cX4_takes : ByteArray := prog_1_method_2_code
def yX4_takes : MethodName := ⟨RX4, "takes", "(III)I"⟩
abbrev cX4_nameOf : ByteArray := prog_1_method_3_code
def yX4_nameOf : MethodName := ⟨RX4, "nameOf", "(II)I"⟩
abbrev cX4_whoHas : ByteArray := prog_1_method_4_code
def yX4_whoHas : MethodName := ⟨RX4, "whoHas", "(II)I"⟩
abbrev cX4_line : ByteArray := prog_1_method_5_code
def yX4_line : MethodName := ⟨RX4, "line", "(IIII)I"⟩
abbrev cX4_drop : ByteArray := prog_1_method_6_code
def yX4_drop : MethodName := ⟨RX4, "drop", "(I)I"⟩
abbrev cX4_lineOf : ByteArray := prog_1_method_7_code
def yX4_lineOf : MethodName := ⟨RX4, "lineOf", "(II)I"⟩
abbrev cX4_inOrder : ByteArray := prog_1_method_8_code
def yX4_inOrder : MethodName := ⟨RX4, "inOrder", "(I)I"⟩
abbrev cX4_score : ByteArray := prog_1_method_9_code
def yX4_score : MethodName := ⟨RX4, "score", "(II)I"⟩
abbrev cX4_reason : ByteArray := prog_1_method_10_code
def yX4_reason : MethodName := ⟨RX4, "reason", "(II)I"⟩
abbrev cX4_set : ByteArray := prog_1_method_11_code
def yX4_set : MethodName := ⟨RX4, "set", "(II)I"⟩
abbrev cX4_count : ByteArray := prog_1_method_12_code
def yX4_count : MethodName := ⟨RX4, "count", "(I)I"⟩
abbrev cX4_undo : ByteArray := prog_1_method_13_code
def yX4_undo : MethodName := ⟨RX4, "undo", "()I"⟩
abbrev cX4_correct : ByteArray := prog_1_method_14_code
def yX4_correct : MethodName := ⟨RX4, "correct", "(III)I"⟩
abbrev cX4_withdraw : ByteArray := prog_1_method_15_code
def yX4_withdraw : MethodName := ⟨RX4, "withdraw", "(I)I"⟩
abbrev cX4_correction : ByteArray := prog_1_method_16_code
def yX4_correction : MethodName := ⟨RX4, "correction", "(II)I"⟩
abbrev cX4_threadOf : ByteArray := prog_1_method_17_code
def yX4_threadOf : MethodName := ⟨RX4, "threadOf", "(II)I"⟩
abbrev cX4_lineIn : ByteArray := prog_1_method_18_code
def yX4_lineIn : MethodName := ⟨RX4, "lineIn", "(II)I"⟩
abbrev cX4_busiest : ByteArray := prog_1_method_19_code
def yX4_busiest : MethodName := ⟨RX4, "busiest", "(I)I"⟩
abbrev cX4_answers : ByteArray := prog_1_method_20_code
def yX4_answers : MethodName := ⟨RX4, "answers", "(II)I"⟩
abbrev cX4_partner : ByteArray := prog_1_method_21_code
def yX4_partner : MethodName := ⟨RX4, "partner", "(I)I"⟩
abbrev cX4_awake : ByteArray := prog_1_method_22_code
def yX4_awake : MethodName := ⟨RX4, "awake", "(I)I"⟩
abbrev cX4_threadsWith : ByteArray := prog_1_method_23_code
def yX4_threadsWith : MethodName := ⟨RX4, "threadsWith", "(II)I"⟩
abbrev cX4_threadsWithout : ByteArray := prog_1_method_24_code
def yX4_threadsWithout : MethodName := ⟨RX4, "threadsWithout", "(I)I"⟩
abbrev cX4_parting : ByteArray := prog_1_method_25_code
def yX4_parting : MethodName := ⟨RX4, "parting", "(II)I"⟩
abbrev cX4_type : ByteArray := prog_1_method_26_code
def yX4_type : MethodName := ⟨RX4, "type", "(I)I"⟩
abbrev cX4_clearText : ByteArray := prog_1_method_27_code
def yX4_clearText : MethodName := ⟨RX4, "clearText", "()I"⟩
abbrev cX4_fault : ByteArray := prog_1_method_28_code
def yX4_fault : MethodName := ⟨RX4, "fault", "(I)I"⟩
abbrev cX4_load : ByteArray := prog_1_method_29_code
def yX4_load : MethodName := ⟨RX4, "load", "()I"⟩
abbrev cX4_isPerson : ByteArray := prog_1_method_30_code
def yX4_isPerson : MethodName := ⟨RX4, "isPerson", "(I)Z"⟩
abbrev cX4_isName : ByteArray := prog_1_method_31_code
def yX4_isName : MethodName := ⟨RX4, "isName", "(I)Z"⟩
abbrev cX4_isTime : ByteArray := prog_1_method_32_code
def yX4_isTime : MethodName := ⟨RX4, "isTime", "(I)Z"⟩
abbrev cX4_isSet : ByteArray := prog_1_method_33_code
def yX4_isSet : MethodName := ⟨RX4, "isSet", "(I)Z"⟩
abbrev cX4_isIn : ByteArray := prog_1_method_34_code
def yX4_isIn : MethodName := ⟨RX4, "isIn", "(II)Z"⟩
abbrev cX4_isSettingValue : ByteArray := prog_1_method_35_code
def yX4_isSettingValue : MethodName := ⟨RX4, "isSettingValue", "(II)Z"⟩
abbrev cX4_orNotFound : ByteArray := prog_1_method_36_code
def yX4_orNotFound : MethodName := ⟨RX4, "orNotFound", "(I)I"⟩
abbrev cX4_beginChange : ByteArray := prog_1_method_37_code
def yX4_beginChange : MethodName := ⟨RX4, "beginChange", "()V"⟩
abbrev cX4_currentThreads : ByteArray := prog_1_method_38_code
def yX4_currentThreads : MethodName := ⟨RX4, "currentThreads", "()LChatThreads$Threads;"⟩
abbrev cX4_otherThreadCount : ByteArray := prog_1_method_39_code
def yX4_otherThreadCount : MethodName := ⟨RX4, "otherThreadCount", "()I"⟩
def RX5 : String := "ChatThreadsModel"
def TX5 : u_T := fun k => match k with
  | 0 => ("ChatThreadsModel", "s", "[I", true)
  | 1 => ("ChatThreadsModel", "w", "[I", true)
  | 2 => ("ChatThreadsModel", "past", "[I", true)
  | 3 => ("ChatThreadsModel", "pasts", "I", false)
  | 4 => ("ChatThreadsModel", "text", "[I", true)
  | 5 => ("ChatThreadsModel", "typed", "I", false)
  | 6 => ("ChatThreadsModel", "order", "[I", true)
  | 7 => ("ChatThreadsModel", "place", "[I", true)
  | 8 => ("ChatThreadsModel", "spoken", "[I", true)
  | 9 => ("ChatThreadsModel", "scores", "[I", true)
  | 10 => ("ChatThreadsModel", "answer", "[I", true)
  | 11 => ("ChatThreadsModel", "thread", "[I", true)
  | 12 => ("ChatThreadsModel", "joined", "[I", true)
  | 13 => ("ChatThreadsModel", "number", "[I", true)
  | 14 => ("ChatThreadsModel", "threads", "I", false)
  | 15 => ("ChatThreadsModel", "row", "[I", true)
  | 16 => ("ChatThreadsModel", "spot", "I", false)
  | 17 => ("ChatThreadsModel", "letter", "I", false)
  | 18 => ("ChatThreadsModel", "read", "[I", true)
  | 19 => ("ChatThreadsModel", "faultAt", "I", false)
  | _ => ("ChatThreadsModel", "entries", "I", false)
def tyX5 : Nat → FieldType := fun k => match k with
  | 0 => .array .int
  | 1 => .array .int
  | 2 => .array .int
  | 3 => .int
  | 4 => .array .int
  | 5 => .int
  | 6 => .array .int
  | 7 => .array .int
  | 8 => .array .int
  | 9 => .array .int
  | 10 => .array .int
  | 11 => .array .int
  | 12 => .array .int
  | 13 => .array .int
  | 14 => .int
  | 15 => .array .int
  | 16 => .int
  | 17 => .int
  | 18 => .array .int
  | 19 => .int
  | _ => .int
abbrev wsX50 : List Cond := u_ws RX5 TX5 21
theorem nmX5 : ∀ a, a < 21 → ∀ b, b < 21 → a ≠ b → (TX5 a).2.1 ≠ (TX5 b).2.1 := by decide +kernel
theorem tyX5_ok : ∀ k, k < 21 → parseFieldDescriptor (TX5 k).2.2.1 = some (tyX5 k) := by decide +kernel
abbrev cX5_init : ByteArray := prog_7_method_1_code
def yX5_init : MethodName := ⟨RX5, "<init>", "()V"⟩
abbrev cX5_in : ByteArray := prog_7_method_3_code
def yX5_in : MethodName := ⟨RX5, "in", "(III)Z"⟩
abbrev cX5_changes : ByteArray := prog_7_method_4_code
def yX5_changes : MethodName := ⟨RX5, "changes", "()V"⟩
abbrev cX5_isLine : ByteArray := prog_7_method_5_code
def yX5_isLine : MethodName := ⟨RX5, "isLine", "(I)Z"⟩
abbrev cX5_of : ByteArray := prog_7_method_6_code
def yX5_of : MethodName := ⟨RX5, "of", "([III)I"⟩
abbrev cX5_told : ByteArray := prog_7_method_7_code
def yX5_told : MethodName := ⟨RX5, "told", "([III)I"⟩
abbrev cX5_nameAt : ByteArray := prog_7_method_8_code
def yX5_nameAt : MethodName := ⟨RX5, "nameAt", "([III)I"⟩
abbrev cX5_holder : ByteArray := prog_7_method_9_code
def yX5_holder : MethodName := ⟨RX5, "holder", "([III)I"⟩
abbrev cX5_takes : ByteArray := prog_7_method_10_code
def yX5_takes : MethodName := ⟨RX5, "takes", "(III)I"⟩
abbrev cX5_nameOf : ByteArray := prog_7_method_11_code
def yX5_nameOf : MethodName := ⟨RX5, "nameOf", "(II)I"⟩
abbrev cX5_whoHas : ByteArray := prog_7_method_12_code
def yX5_whoHas : MethodName := ⟨RX5, "whoHas", "(II)I"⟩
abbrev cX5_speaksTo : ByteArray := prog_7_method_13_code
def yX5_speaksTo : MethodName := ⟨RX5, "speaksTo", "([II)I"⟩
abbrev cX5_laysOrder : ByteArray := prog_7_method_14_code
def yX5_laysOrder : MethodName := ⟨RX5, "laysOrder", "([I)V"⟩
abbrev cX5_ones : ByteArray := prog_7_method_15_code
def yX5_ones : MethodName := ⟨RX5, "ones", "(I)I"⟩
abbrev cX5_scoreOf : ByteArray := prog_7_method_16_code
def yX5_scoreOf : MethodName := ⟨RX5, "scoreOf", "([III)I"⟩
abbrev cX5_laysScores : ByteArray := prog_7_method_17_code
def yX5_laysScores : MethodName := ⟨RX5, "laysScores", "([I)V"⟩
abbrev cX5_counting : ByteArray := prog_7_method_18_code
def yX5_counting : MethodName := ⟨RX5, "counting", "([II)I"⟩
abbrev cX5_find : ByteArray := prog_7_method_19_code
def yX5_find : MethodName := ⟨RX5, "find", "([IIII)I"⟩
abbrev cX5_might : ByteArray := prog_7_method_20_code
def yX5_might : MethodName := ⟨RX5, "might", "([IIII)Z"⟩
abbrev cX5_answerOf : ByteArray := prog_7_method_21_code
def yX5_answerOf : MethodName := ⟨RX5, "answerOf", "([III)I"⟩
abbrev cX5_unites : ByteArray := prog_7_method_22_code
def yX5_unites : MethodName := ⟨RX5, "unites", "([III)V"⟩
abbrev cX5_speaksToBoth : ByteArray := prog_7_method_23_code
def yX5_speaksToBoth : MethodName := ⟨RX5, "speaksToBoth", "([IIII)Z"⟩
abbrev cX5_joins : ByteArray := prog_7_method_24_code
def yX5_joins : MethodName := ⟨RX5, "joins", "([II)V"⟩
abbrev cX5_laysThreads : ByteArray := prog_7_method_25_code
def yX5_laysThreads : MethodName := ⟨RX5, "laysThreads", "([I)V"⟩
abbrev cX5_lays : ByteArray := prog_7_method_26_code
def yX5_lays : MethodName := ⟨RX5, "lays", "([I)V"⟩
abbrev cX5_adds : ByteArray := prog_7_method_27_code
def yX5_adds : MethodName := ⟨RX5, "adds", "(IIII)V"⟩
abbrev cX5_isTold : ByteArray := prog_7_method_28_code
def yX5_isTold : MethodName := ⟨RX5, "isTold", "(IIII)Z"⟩
abbrev cX5_line : ByteArray := prog_7_method_29_code
def yX5_line : MethodName := ⟨RX5, "line", "(IIII)I"⟩
abbrev cX5_goes : ByteArray := prog_7_method_30_code
def yX5_goes : MethodName := ⟨RX5, "goes", "([II)V"⟩
abbrev cX5_drops : ByteArray := prog_7_method_31_code
def yX5_drops : MethodName := ⟨RX5, "drops", "([II)V"⟩
abbrev cX5_drop : ByteArray := prog_7_method_32_code
def yX5_drop : MethodName := ⟨RX5, "drop", "(I)I"⟩
abbrev cX5_answeredBy : ByteArray := prog_7_method_33_code
def yX5_answeredBy : MethodName := ⟨RX5, "answeredBy", "(I)I"⟩
abbrev cX5_lineOf : ByteArray := prog_7_method_34_code
def yX5_lineOf : MethodName := ⟨RX5, "lineOf", "(II)I"⟩
abbrev cX5_inOrder : ByteArray := prog_7_method_35_code
def yX5_inOrder : MethodName := ⟨RX5, "inOrder", "(I)I"⟩
abbrev cX5_score : ByteArray := prog_7_method_36_code
def yX5_score : MethodName := ⟨RX5, "score", "(II)I"⟩
abbrev cX5_reasonOf : ByteArray := prog_7_method_37_code
def yX5_reasonOf : MethodName := ⟨RX5, "reasonOf", "(II)I"⟩
abbrev cX5_reason : ByteArray := prog_7_method_38_code
def yX5_reason : MethodName := ⟨RX5, "reason", "(II)I"⟩
abbrev cX5_most : ByteArray := prog_7_method_39_code
def yX5_most : MethodName := ⟨RX5, "most", "(I)I"⟩
abbrev cX5_isSetting : ByteArray := prog_7_method_40_code
def yX5_isSetting : MethodName := ⟨RX5, "isSetting", "(II)Z"⟩
abbrev cX5_set : ByteArray := prog_7_method_41_code
def yX5_set : MethodName := ⟨RX5, "set", "(II)I"⟩
abbrev cX5_sumOf : ByteArray := prog_7_method_42_code
def yX5_sumOf : MethodName := ⟨RX5, "sumOf", "(I)I"⟩
abbrev cX5_count : ByteArray := prog_7_method_43_code
def yX5_count : MethodName := ⟨RX5, "count", "(I)I"⟩
abbrev cX5_undo : ByteArray := prog_7_method_44_code
def yX5_undo : MethodName := ⟨RX5, "undo", "()I"⟩
abbrev cX5_isEarlier : ByteArray := prog_7_method_45_code
def yX5_isEarlier : MethodName := ⟨RX5, "isEarlier", "(II)Z"⟩
abbrev cX5_canTell : ByteArray := prog_7_method_46_code
def yX5_canTell : MethodName := ⟨RX5, "canTell", "(III)Z"⟩
abbrev cX5_tells : ByteArray := prog_7_method_47_code
def yX5_tells : MethodName := ⟨RX5, "tells", "(III)V"⟩
abbrev cX5_correct : ByteArray := prog_7_method_48_code
def yX5_correct : MethodName := ⟨RX5, "correct", "(III)I"⟩
abbrev cX5_withdraw : ByteArray := prog_7_method_49_code
def yX5_withdraw : MethodName := ⟨RX5, "withdraw", "(I)I"⟩
abbrev cX5_doesCount : ByteArray := prog_7_method_50_code
def yX5_doesCount : MethodName := ⟨RX5, "doesCount", "(I)I"⟩
abbrev cX5_correction : ByteArray := prog_7_method_51_code
def yX5_correction : MethodName := ⟨RX5, "correction", "(II)I"⟩
abbrev cX5_laysRow : ByteArray := prog_7_method_52_code
def yX5_laysRow : MethodName := ⟨RX5, "laysRow", "(I)I"⟩
abbrev cX5_longest : ByteArray := prog_7_method_53_code
def yX5_longest : MethodName := ⟨RX5, "longest", "(I)I"⟩
abbrev cX5_widest : ByteArray := prog_7_method_54_code
def yX5_widest : MethodName := ⟨RX5, "widest", "(I)I"⟩
abbrev cX5_writers : ByteArray := prog_7_method_55_code
def yX5_writers : MethodName := ⟨RX5, "writers", "(I)I"⟩
abbrev cX5_threadOf : ByteArray := prog_7_method_56_code
def yX5_threadOf : MethodName := ⟨RX5, "threadOf", "(II)I"⟩
abbrev cX5_lineIn : ByteArray := prog_7_method_57_code
def yX5_lineIn : MethodName := ⟨RX5, "lineIn", "(II)I"⟩
abbrev cX5_weightOf : ByteArray := prog_7_method_58_code
def yX5_weightOf : MethodName := ⟨RX5, "weightOf", "(I)I"⟩
abbrev cX5_busiest : ByteArray := prog_7_method_59_code
def yX5_busiest : MethodName := ⟨RX5, "busiest", "(I)I"⟩
abbrev cX5_answersOf : ByteArray := prog_7_method_60_code
def yX5_answersOf : MethodName := ⟨RX5, "answersOf", "(II)I"⟩
abbrev cX5_answers : ByteArray := prog_7_method_61_code
def yX5_answers : MethodName := ⟨RX5, "answers", "(II)I"⟩
abbrev cX5_partner : ByteArray := prog_7_method_62_code
def yX5_partner : MethodName := ⟨RX5, "partner", "(I)I"⟩
abbrev cX5_awake : ByteArray := prog_7_method_63_code
def yX5_awake : MethodName := ⟨RX5, "awake", "(I)I"⟩
abbrev cX5_begins : ByteArray := prog_7_method_64_code
def yX5_begins : MethodName := ⟨RX5, "begins", "()V"⟩
abbrev cX5_threadsWith : ByteArray := prog_7_method_65_code
def yX5_threadsWith : MethodName := ⟨RX5, "threadsWith", "(II)I"⟩
abbrev cX5_threadsWithout : ByteArray := prog_7_method_66_code
def yX5_threadsWithout : MethodName := ⟨RX5, "threadsWithout", "(I)I"⟩
abbrev cX5_parting : ByteArray := prog_7_method_67_code
def yX5_parting : MethodName := ⟨RX5, "parting", "(II)I"⟩
abbrev cX5_type : ByteArray := prog_7_method_68_code
def yX5_type : MethodName := ⟨RX5, "type", "(I)I"⟩
abbrev cX5_clearText : ByteArray := prog_7_method_69_code
def yX5_clearText : MethodName := ⟨RX5, "clearText", "()I"⟩
abbrev cX5_isNumber : ByteArray := prog_7_method_70_code
def yX5_isNumber : MethodName := ⟨RX5, "isNumber", "(II)Z"⟩
abbrev cX5_isEntry : ByteArray := prog_7_method_71_code
def yX5_isEntry : MethodName := ⟨RX5, "isEntry", "()Z"⟩
abbrev cX5_does : ByteArray := prog_7_method_72_code
def yX5_does : MethodName := ⟨RX5, "does", "()I"⟩
abbrev cX5_doesAll : ByteArray := prog_7_method_73_code
def yX5_doesAll : MethodName := ⟨RX5, "doesAll", "()I"⟩
abbrev cX5_letsBack : ByteArray := prog_7_method_74_code
def yX5_letsBack : MethodName := ⟨RX5, "letsBack", "()V"⟩
abbrev cX5_fault : ByteArray := prog_7_method_75_code
def yX5_fault : MethodName := ⟨RX5, "fault", "(I)I"⟩
abbrev cX5_load : ByteArray := prog_7_method_76_code
def yX5_load : MethodName := ⟨RX5, "load", "()I"⟩
def RJ6 : String := "java/lang/Integer"
def TJ6 : u_T := fun k => match k with
  | _ => ("", "", "", false)
def tyJ6 : Nat → FieldType := fun k => match k with
  | _ => .int
abbrev wsJ60 : List Cond := u_ws RJ6 TJ6 0
theorem nmJ6 : ∀ a, a < 0 → ∀ b, b < 0 → a ≠ b → (TJ6 a).2.1 ≠ (TJ6 b).2.1 := by decide +kernel
theorem tyJ6_ok : ∀ k, k < 0 → parseFieldDescriptor (TJ6 k).2.2.1 = some (tyJ6 k) := by decide +kernel
abbrev cJ6_bitCount_0f7a4 : ByteArray := prog_8_method_49_code
def yJ6_bitCount_0f7a4 : MethodName := ⟨RJ6, "bitCount", "(I)I"⟩
def RJ9 : String := "java/lang/Math"
def TJ9 : u_T := fun k => match k with
  | _ => ("", "", "", false)
def tyJ9 : Nat → FieldType := fun k => match k with
  | _ => .int
abbrev wsJ90 : List Cond := u_ws RJ9 TJ9 0
theorem nmJ9 : ∀ a, a < 0 → ∀ b, b < 0 → a ≠ b → (TJ9 a).2.1 ≠ (TJ9 b).2.1 := by decide +kernel
theorem tyJ9_ok : ∀ k, k < 0 → parseFieldDescriptor (TJ9 k).2.2.1 = some (tyJ9 k) := by decide +kernel
abbrev cJ9_max_7cf53 : ByteArray := prog_9_method_65_code
def yJ9_max_7cf53 : MethodName := ⟨RJ9, "max", "(II)I"⟩
abbrev cJ9_min_7cf53 : ByteArray := prog_9_method_69_code
def yJ9_min_7cf53 : MethodName := ⟨RJ9, "min", "(II)I"⟩
def RJ10 : String := "java/lang/System"
def TJ10 : u_T := fun k => match k with
  | _ => ("", "", "", false)
def tyJ10 : Nat → FieldType := fun k => match k with
  | _ => .int
abbrev wsJ100 : List Cond := u_ws RJ10 TJ10 0
theorem nmJ10 : ∀ a, a < 0 → ∀ b, b < 0 → a ≠ b → (TJ10 a).2.1 ≠ (TJ10 b).2.1 := by decide +kernel
theorem tyJ10_ok : ∀ k, k < 0 → parseFieldDescriptor (TJ10 k).2.2.1 = some (tyJ10 k) := by decide +kernel
def RL : String := "ChatThreadsLaw"
abbrev cL_law : ByteArray := code
def yL_law : MethodName := ⟨RL, "law", "([I)Z"⟩
abbrev vwCl : List vw_C := [(RX0, TX0, 2), (RX1, TX1, 14), (RX2, TX2, 8), (RX3, TX3, 17), (RX4, TX4, 7), (RX5, TX5, 21)]
