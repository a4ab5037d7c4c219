section
-- ===== PART A: goes FIRST, ahead of the names: the tables' words, and 'selects' of the private methods out of them =====
/-- a private method of a class that the tables say can be made, by its rows of tables_1 -/
def lw_okq (q : MethodName × Nat) : Prop := (q.1.cls ≠ "java/lang/invoke/MethodHandle" ∧ q.1.cls ≠ "java/lang/invoke/VarHandle") ∧ Cond.instantiable q.1.cls q.2 ∈ tables_1 ∧ Cond.privateMethod q.1 ∈ tables_1 ∧ Cond.instanceMethod q.1 ∈ tables_1
theorem lw_p0 : lw_okq (⟨"GrantNet$Cutoffs", "sort", "()V"⟩, 6) := ⟨⟨by decide +kernel, by decide +kernel⟩, List.mem_of_getElem? (i := 88) (by decide +kernel), List.mem_of_getElem? (i := 291) (by decide +kernel), List.mem_of_getElem? (i := 292) (by decide +kernel)⟩
theorem lw_p1 : lw_okq (⟨"GrantNet", "find", "(I)LGrantNet$Message;"⟩, 5) := ⟨⟨by decide +kernel, by decide +kernel⟩, List.mem_of_getElem? (i := 20) (by decide +kernel), List.mem_of_getElem? (i := 322) (by decide +kernel), List.mem_of_getElem? (i := 323) (by decide +kernel)⟩
theorem lw_p2 : lw_okq (⟨"GrantNet$Receiving", "missing", "()I"⟩, 10) := ⟨⟨by decide +kernel, by decide +kernel⟩, List.mem_of_getElem? (i := 215) (by decide +kernel), List.mem_of_getElem? (i := 352) (by decide +kernel), List.mem_of_getElem? (i := 353) (by decide +kernel)⟩
theorem lw_p3 : lw_okq (⟨"GrantNet$Host", "grantedAndNotIn", "()I"⟩, 11) := ⟨⟨by decide +kernel, by decide +kernel⟩, List.mem_of_getElem? (i := 81) (by decide +kernel), List.mem_of_getElem? (i := 395) (by decide +kernel), List.mem_of_getElem? (i := 396) (by decide +kernel)⟩
theorem lw_p4 : lw_okq (⟨"GrantNet$Fabric", "queueOf", "(II)LGrantNet$Row;"⟩, 7) := ⟨⟨by decide +kernel, by decide +kernel⟩, List.mem_of_getElem? (i := 28) (by decide +kernel), List.mem_of_getElem? (i := 427) (by decide +kernel), List.mem_of_getElem? (i := 428) (by decide +kernel)⟩
theorem lw_p5 : lw_okq (⟨"GrantNet$Fabric", "underWay", "()I"⟩, 7) := ⟨⟨by decide +kernel, by decide +kernel⟩, List.mem_of_getElem? (i := 28) (by decide +kernel), List.mem_of_getElem? (i := 463) (by decide +kernel), List.mem_of_getElem? (i := 464) (by decide +kernel)⟩
theorem lw_p6 : lw_okq (⟨"java/lang/Throwable", "fillInStackTrace", "(I)Ljava/lang/Throwable;"⟩, 6) := ⟨⟨by decide +kernel, by decide +kernel⟩, List.mem_of_getElem? (i := 511) (by decide +kernel), List.mem_of_getElem? (i := 509) (by decide +kernel), List.mem_of_getElem? (i := 510) (by decide +kernel)⟩
theorem lw_p7 : lw_okq (⟨"GrantNet", "runSlot", "()V"⟩, 5) := ⟨⟨by decide +kernel, by decide +kernel⟩, List.mem_of_getElem? (i := 20) (by decide +kernel), List.mem_of_getElem? (i := 541) (by decide +kernel), List.mem_of_getElem? (i := 542) (by decide +kernel)⟩
theorem lw_p8 : lw_okq (⟨"GrantNet", "arriveAll", "()V"⟩, 5) := ⟨⟨by decide +kernel, by decide +kernel⟩, List.mem_of_getElem? (i := 20) (by decide +kernel), List.mem_of_getElem? (i := 545) (by decide +kernel), List.mem_of_getElem? (i := 546) (by decide +kernel)⟩
theorem lw_p9 : lw_okq (⟨"GrantNet", "takeIn", "(I)V"⟩, 5) := ⟨⟨by decide +kernel, by decide +kernel⟩, List.mem_of_getElem? (i := 20) (by decide +kernel), List.mem_of_getElem? (i := 562) (by decide +kernel), List.mem_of_getElem? (i := 563) (by decide +kernel)⟩
theorem lw_p10 : lw_okq (⟨"GrantNet$Host", "noteFinished", "(LGrantNet$Message;)V"⟩, 11) := ⟨⟨by decide +kernel, by decide +kernel⟩, List.mem_of_getElem? (i := 81) (by decide +kernel), List.mem_of_getElem? (i := 594) (by decide +kernel), List.mem_of_getElem? (i := 595) (by decide +kernel)⟩
theorem lw_p11 : lw_okq (⟨"GrantNet$Host", "putDue", "(ILGrantNet$Message;I)V"⟩, 11) := ⟨⟨by decide +kernel, by decide +kernel⟩, List.mem_of_getElem? (i := 81) (by decide +kernel), List.mem_of_getElem? (i := 598) (by decide +kernel), List.mem_of_getElem? (i := 599) (by decide +kernel)⟩
theorem lw_p12 : lw_okq (⟨"GrantNet$Sending", "want", "(I)V"⟩, 9) := ⟨⟨by decide +kernel, by decide +kernel⟩, List.mem_of_getElem? (i := 178) (by decide +kernel), List.mem_of_getElem? (i := 626) (by decide +kernel), List.mem_of_getElem? (i := 627) (by decide +kernel)⟩
theorem lw_p13 : lw_okq (⟨"GrantNet$Sending", "end", "(II)V"⟩, 9) := ⟨⟨by decide +kernel, by decide +kernel⟩, List.mem_of_getElem? (i := 178) (by decide +kernel), List.mem_of_getElem? (i := 631) (by decide +kernel), List.mem_of_getElem? (i := 632) (by decide +kernel)⟩
theorem lw_p14 : lw_okq (⟨"GrantNet$Fabric", "passSpine", "(II)V"⟩, 7) := ⟨⟨by decide +kernel, by decide +kernel⟩, List.mem_of_getElem? (i := 28) (by decide +kernel), List.mem_of_getElem? (i := 642) (by decide +kernel), List.mem_of_getElem? (i := 643) (by decide +kernel)⟩
theorem lw_p15 : lw_okq (⟨"GrantNet$Fabric", "enqueue", "(II)V"⟩, 7) := ⟨⟨by decide +kernel, by decide +kernel⟩, List.mem_of_getElem? (i := 28) (by decide +kernel), List.mem_of_getElem? (i := 655) (by decide +kernel), List.mem_of_getElem? (i := 656) (by decide +kernel)⟩
def lw_privs_1 : List (MethodName × Nat) := [(⟨"GrantNet$Cutoffs", "sort", "()V"⟩, 6), (⟨"GrantNet", "find", "(I)LGrantNet$Message;"⟩, 5), (⟨"GrantNet$Receiving", "missing", "()I"⟩, 10), (⟨"GrantNet$Host", "grantedAndNotIn", "()I"⟩, 11), (⟨"GrantNet$Fabric", "queueOf", "(II)LGrantNet$Row;"⟩, 7), (⟨"GrantNet$Fabric", "underWay", "()I"⟩, 7), (⟨"java/lang/Throwable", "fillInStackTrace", "(I)Ljava/lang/Throwable;"⟩, 6), (⟨"GrantNet", "runSlot", "()V"⟩, 5), (⟨"GrantNet", "arriveAll", "()V"⟩, 5), (⟨"GrantNet", "takeIn", "(I)V"⟩, 5), (⟨"GrantNet$Host", "noteFinished", "(LGrantNet$Message;)V"⟩, 11), (⟨"GrantNet$Host", "putDue", "(ILGrantNet$Message;I)V"⟩, 11), (⟨"GrantNet$Sending", "want", "(I)V"⟩, 9), (⟨"GrantNet$Sending", "end", "(II)V"⟩, 9), (⟨"GrantNet$Fabric", "passSpine", "(II)V"⟩, 7), (⟨"GrantNet$Fabric", "enqueue", "(II)V"⟩, 7)]
theorem lw_r1 : ∀ q ∈ lw_privs_1, lw_okq q := List.forall_mem_cons.mpr ⟨lw_p0, List.forall_mem_cons.mpr ⟨lw_p1, List.forall_mem_cons.mpr ⟨lw_p2, List.forall_mem_cons.mpr ⟨lw_p3, List.forall_mem_cons.mpr ⟨lw_p4, List.forall_mem_cons.mpr ⟨lw_p5, List.forall_mem_cons.mpr ⟨lw_p6, List.forall_mem_cons.mpr ⟨lw_p7, List.forall_mem_cons.mpr ⟨lw_p8, List.forall_mem_cons.mpr ⟨lw_p9, List.forall_mem_cons.mpr ⟨lw_p10, List.forall_mem_cons.mpr ⟨lw_p11, List.forall_mem_cons.mpr ⟨lw_p12, List.forall_mem_cons.mpr ⟨lw_p13, List.forall_mem_cons.mpr ⟨lw_p14, List.forall_mem_cons.mpr ⟨lw_p15, fun _ h => absurd h List.not_mem_nil⟩⟩⟩⟩⟩⟩⟩⟩⟩⟩⟩⟩⟩⟩⟩⟩
theorem lw_p16 : lw_okq (⟨"GrantNet$Fabric", "passLeaf", "(II)V"⟩, 7) := ⟨⟨by decide +kernel, by decide +kernel⟩, List.mem_of_getElem? (i := 28) (by decide +kernel), List.mem_of_getElem? (i := 661) (by decide +kernel), List.mem_of_getElem? (i := 662) (by decide +kernel)⟩
theorem lw_p17 : lw_okq (⟨"GrantNet$Fabric", "chooseSpine", "(I)I"⟩, 7) := ⟨⟨by decide +kernel, by decide +kernel⟩, List.mem_of_getElem? (i := 28) (by decide +kernel), List.mem_of_getElem? (i := 671) (by decide +kernel), List.mem_of_getElem? (i := 672) (by decide +kernel)⟩
theorem lw_p18 : lw_okq (⟨"GrantNet$Fabric", "isServed", "(I)Z"⟩, 7) := ⟨⟨by decide +kernel, by decide +kernel⟩, List.mem_of_getElem? (i := 28) (by decide +kernel), List.mem_of_getElem? (i := 679) (by decide +kernel), List.mem_of_getElem? (i := 680) (by decide +kernel)⟩
theorem lw_p19 : lw_okq (⟨"GrantNet$Fabric", "fill", "(I)V"⟩, 7) := ⟨⟨by decide +kernel, by decide +kernel⟩, List.mem_of_getElem? (i := 28) (by decide +kernel), List.mem_of_getElem? (i := 683) (by decide +kernel), List.mem_of_getElem? (i := 684) (by decide +kernel)⟩
theorem lw_p20 : lw_okq (⟨"GrantNet$Host", "listen", "(LGrantNet$Message;)V"⟩, 11) := ⟨⟨by decide +kernel, by decide +kernel⟩, List.mem_of_getElem? (i := 81) (by decide +kernel), List.mem_of_getElem? (i := 699) (by decide +kernel), List.mem_of_getElem? (i := 700) (by decide +kernel)⟩
theorem lw_p21 : lw_okq (⟨"GrantNet$Receiving", "forget", "()V"⟩, 10) := ⟨⟨by decide +kernel, by decide +kernel⟩, List.mem_of_getElem? (i := 215) (by decide +kernel), List.mem_of_getElem? (i := 707) (by decide +kernel), List.mem_of_getElem? (i := 708) (by decide +kernel)⟩
theorem lw_p22 : lw_okq (⟨"GrantNet$Host", "choose", "()V"⟩, 11) := ⟨⟨by decide +kernel, by decide +kernel⟩, List.mem_of_getElem? (i := 81) (by decide +kernel), List.mem_of_getElem? (i := 725) (by decide +kernel), List.mem_of_getElem? (i := 726) (by decide +kernel)⟩
theorem lw_p23 : lw_okq (⟨"GrantNet$Host", "bestBehind", "(LGrantNet$Message;)LGrantNet$Message;"⟩, 11) := ⟨⟨by decide +kernel, by decide +kernel⟩, List.mem_of_getElem? (i := 81) (by decide +kernel), List.mem_of_getElem? (i := 729) (by decide +kernel), List.mem_of_getElem? (i := 730) (by decide +kernel)⟩
theorem lw_p24 : lw_okq (⟨"GrantNet$Host", "nextData", "()I"⟩, 11) := ⟨⟨by decide +kernel, by decide +kernel⟩, List.mem_of_getElem? (i := 81) (by decide +kernel), List.mem_of_getElem? (i := 758) (by decide +kernel), List.mem_of_getElem? (i := 759) (by decide +kernel)⟩
theorem lw_p25 : lw_okq (⟨"GrantNet$Host", "shortestToSend", "()LGrantNet$Message;"⟩, 11) := ⟨⟨by decide +kernel, by decide +kernel⟩, List.mem_of_getElem? (i := 81) (by decide +kernel), List.mem_of_getElem? (i := 762) (by decide +kernel), List.mem_of_getElem? (i := 763) (by decide +kernel)⟩
theorem lw_p26 : lw_okq (⟨"GrantNetModel", "arrive", "(I)V"⟩, 46) := ⟨⟨by decide +kernel, by decide +kernel⟩, List.mem_of_getElem? (i := 789) (by decide +kernel), List.mem_of_getElem? (i := 946) (by decide +kernel), List.mem_of_getElem? (i := 947) (by decide +kernel)⟩
theorem lw_p27 : lw_okq (⟨"GrantNetModel", "atLeaf", "(IIIII)V"⟩, 46) := ⟨⟨by decide +kernel, by decide +kernel⟩, List.mem_of_getElem? (i := 789) (by decide +kernel), List.mem_of_getElem? (i := 950) (by decide +kernel), List.mem_of_getElem? (i := 951) (by decide +kernel)⟩
theorem lw_p28 : lw_okq (⟨"GrantNetModel", "goal", "(II)I"⟩, 46) := ⟨⟨by decide +kernel, by decide +kernel⟩, List.mem_of_getElem? (i := 789) (by decide +kernel), List.mem_of_getElem? (i := 954) (by decide +kernel), List.mem_of_getElem? (i := 955) (by decide +kernel)⟩
theorem lw_p29 : lw_okq (⟨"GrantNetModel", "line", "(IIIII)V"⟩, 46) := ⟨⟨by decide +kernel, by decide +kernel⟩, List.mem_of_getElem? (i := 789) (by decide +kernel), List.mem_of_getElem? (i := 958) (by decide +kernel), List.mem_of_getElem? (i := 959) (by decide +kernel)⟩
theorem lw_p30 : lw_okq (⟨"GrantNetModel", "data", "(II)V"⟩, 46) := ⟨⟨by decide +kernel, by decide +kernel⟩, List.mem_of_getElem? (i := 789) (by decide +kernel), List.mem_of_getElem? (i := 962) (by decide +kernel), List.mem_of_getElem? (i := 963) (by decide +kernel)⟩
theorem lw_p31 : lw_okq (⟨"GrantNetModel", "becomeDue", "(IIII)V"⟩, 46) := ⟨⟨by decide +kernel, by decide +kernel⟩, List.mem_of_getElem? (i := 789) (by decide +kernel), List.mem_of_getElem? (i := 966) (by decide +kernel), List.mem_of_getElem? (i := 967) (by decide +kernel)⟩
def lw_privs_2 : List (MethodName × Nat) := [(⟨"GrantNet$Fabric", "passLeaf", "(II)V"⟩, 7), (⟨"GrantNet$Fabric", "chooseSpine", "(I)I"⟩, 7), (⟨"GrantNet$Fabric", "isServed", "(I)Z"⟩, 7), (⟨"GrantNet$Fabric", "fill", "(I)V"⟩, 7), (⟨"GrantNet$Host", "listen", "(LGrantNet$Message;)V"⟩, 11), (⟨"GrantNet$Receiving", "forget", "()V"⟩, 10), (⟨"GrantNet$Host", "choose", "()V"⟩, 11), (⟨"GrantNet$Host", "bestBehind", "(LGrantNet$Message;)LGrantNet$Message;"⟩, 11), (⟨"GrantNet$Host", "nextData", "()I"⟩, 11), (⟨"GrantNet$Host", "shortestToSend", "()LGrantNet$Message;"⟩, 11), (⟨"GrantNetModel", "arrive", "(I)V"⟩, 46), (⟨"GrantNetModel", "atLeaf", "(IIIII)V"⟩, 46), (⟨"GrantNetModel", "goal", "(II)I"⟩, 46), (⟨"GrantNetModel", "line", "(IIIII)V"⟩, 46), (⟨"GrantNetModel", "data", "(II)V"⟩, 46), (⟨"GrantNetModel", "becomeDue", "(IIII)V"⟩, 46)]
theorem lw_r2 : ∀ q ∈ lw_privs_2, lw_okq q := List.forall_mem_cons.mpr ⟨lw_p16, List.forall_mem_cons.mpr ⟨lw_p17, List.forall_mem_cons.mpr ⟨lw_p18, List.forall_mem_cons.mpr ⟨lw_p19, List.forall_mem_cons.mpr ⟨lw_p20, List.forall_mem_cons.mpr ⟨lw_p21, List.forall_mem_cons.mpr ⟨lw_p22, List.forall_mem_cons.mpr ⟨lw_p23, List.forall_mem_cons.mpr ⟨lw_p24, List.forall_mem_cons.mpr ⟨lw_p25, List.forall_mem_cons.mpr ⟨lw_p26, List.forall_mem_cons.mpr ⟨lw_p27, List.forall_mem_cons.mpr ⟨lw_p28, List.forall_mem_cons.mpr ⟨lw_p29, List.forall_mem_cons.mpr ⟨lw_p30, List.forall_mem_cons.mpr ⟨lw_p31, fun _ h => absurd h List.not_mem_nil⟩⟩⟩⟩⟩⟩⟩⟩⟩⟩⟩⟩⟩⟩⟩⟩
theorem lw_p32 : lw_okq (⟨"GrantNetModel", "missing", "(I)I"⟩, 46) := ⟨⟨by decide +kernel, by decide +kernel⟩, List.mem_of_getElem? (i := 789) (by decide +kernel), List.mem_of_getElem? (i := 970) (by decide +kernel), List.mem_of_getElem? (i := 971) (by decide +kernel)⟩
theorem lw_p33 : lw_okq (⟨"GrantNetModel", "answer", "(III)V"⟩, 46) := ⟨⟨by decide +kernel, by decide +kernel⟩, List.mem_of_getElem? (i := 789) (by decide +kernel), List.mem_of_getElem? (i := 974) (by decide +kernel), List.mem_of_getElem? (i := 975) (by decide +kernel)⟩
theorem lw_p34 : lw_okq (⟨"GrantNetModel", "want", "(II)V"⟩, 46) := ⟨⟨by decide +kernel, by decide +kernel⟩, List.mem_of_getElem? (i := 789) (by decide +kernel), List.mem_of_getElem? (i := 978) (by decide +kernel), List.mem_of_getElem? (i := 979) (by decide +kernel)⟩
theorem lw_p35 : lw_okq (⟨"GrantNetModel", "serve", "(I)V"⟩, 46) := ⟨⟨by decide +kernel, by decide +kernel⟩, List.mem_of_getElem? (i := 789) (by decide +kernel), List.mem_of_getElem? (i := 982) (by decide +kernel), List.mem_of_getElem? (i := 983) (by decide +kernel)⟩
theorem lw_p36 : lw_okq (⟨"GrantNetModel", "enter", "(IIIII)V"⟩, 46) := ⟨⟨by decide +kernel, by decide +kernel⟩, List.mem_of_getElem? (i := 789) (by decide +kernel), List.mem_of_getElem? (i := 986) (by decide +kernel), List.mem_of_getElem? (i := 987) (by decide +kernel)⟩
theorem lw_p37 : lw_okq (⟨"GrantNetModel", "receive", "(I)V"⟩, 46) := ⟨⟨by decide +kernel, by decide +kernel⟩, List.mem_of_getElem? (i := 789) (by decide +kernel), List.mem_of_getElem? (i := 990) (by decide +kernel), List.mem_of_getElem? (i := 991) (by decide +kernel)⟩
theorem lw_p38 : lw_okq (⟨"GrantNetModel", "listen", "(II)V"⟩, 46) := ⟨⟨by decide +kernel, by decide +kernel⟩, List.mem_of_getElem? (i := 789) (by decide +kernel), List.mem_of_getElem? (i := 994) (by decide +kernel), List.mem_of_getElem? (i := 995) (by decide +kernel)⟩
theorem lw_p39 : lw_okq (⟨"GrantNetModel", "forget", "(I)V"⟩, 46) := ⟨⟨by decide +kernel, by decide +kernel⟩, List.mem_of_getElem? (i := 789) (by decide +kernel), List.mem_of_getElem? (i := 998) (by decide +kernel), List.mem_of_getElem? (i := 999) (by decide +kernel)⟩
theorem lw_p40 : lw_okq (⟨"GrantNetModel", "isChosen", "(II)Z"⟩, 46) := ⟨⟨by decide +kernel, by decide +kernel⟩, List.mem_of_getElem? (i := 789) (by decide +kernel), List.mem_of_getElem? (i := 1002) (by decide +kernel), List.mem_of_getElem? (i := 1003) (by decide +kernel)⟩
theorem lw_p41 : lw_okq (⟨"GrantNetModel", "isAhead", "(II)Z"⟩, 46) := ⟨⟨by decide +kernel, by decide +kernel⟩, List.mem_of_getElem? (i := 789) (by decide +kernel), List.mem_of_getElem? (i := 1006) (by decide +kernel), List.mem_of_getElem? (i := 1007) (by decide +kernel)⟩
theorem lw_p42 : lw_okq (⟨"GrantNetModel", "watch", "(I)V"⟩, 46) := ⟨⟨by decide +kernel, by decide +kernel⟩, List.mem_of_getElem? (i := 789) (by decide +kernel), List.mem_of_getElem? (i := 1010) (by decide +kernel), List.mem_of_getElem? (i := 1011) (by decide +kernel)⟩
theorem lw_p43 : lw_okq (⟨"GrantNetModel", "send", "(I)V"⟩, 46) := ⟨⟨by decide +kernel, by decide +kernel⟩, List.mem_of_getElem? (i := 789) (by decide +kernel), List.mem_of_getElem? (i := 1014) (by decide +kernel), List.mem_of_getElem? (i := 1015) (by decide +kernel)⟩
theorem lw_p44 : lw_okq (⟨"GrantNetModel", "least", "(I)I"⟩, 46) := ⟨⟨by decide +kernel, by decide +kernel⟩, List.mem_of_getElem? (i := 789) (by decide +kernel), List.mem_of_getElem? (i := 1018) (by decide +kernel), List.mem_of_getElem? (i := 1019) (by decide +kernel)⟩
theorem lw_p45 : lw_okq (⟨"GrantNetModel", "left", "(I)I"⟩, 46) := ⟨⟨by decide +kernel, by decide +kernel⟩, List.mem_of_getElem? (i := 789) (by decide +kernel), List.mem_of_getElem? (i := 1022) (by decide +kernel), List.mem_of_getElem? (i := 1023) (by decide +kernel)⟩
theorem lw_p46 : lw_okq (⟨"GrantNetModel", "cutoff", "(II)I"⟩, 46) := ⟨⟨by decide +kernel, by decide +kernel⟩, List.mem_of_getElem? (i := 789) (by decide +kernel), List.mem_of_getElem? (i := 1026) (by decide +kernel), List.mem_of_getElem? (i := 1027) (by decide +kernel)⟩
theorem lw_p47 : lw_okq (⟨"GrantNetModel", "rankOf", "(III)I"⟩, 46) := ⟨⟨by decide +kernel, by decide +kernel⟩, List.mem_of_getElem? (i := 789) (by decide +kernel), List.mem_of_getElem? (i := 1030) (by decide +kernel), List.mem_of_getElem? (i := 1031) (by decide +kernel)⟩
def lw_privs_3 : List (MethodName × Nat) := [(⟨"GrantNetModel", "missing", "(I)I"⟩, 46), (⟨"GrantNetModel", "answer", "(III)V"⟩, 46), (⟨"GrantNetModel", "want", "(II)V"⟩, 46), (⟨"GrantNetModel", "serve", "(I)V"⟩, 46), (⟨"GrantNetModel", "enter", "(IIIII)V"⟩, 46), (⟨"GrantNetModel", "receive", "(I)V"⟩, 46), (⟨"GrantNetModel", "listen", "(II)V"⟩, 46), (⟨"GrantNetModel", "forget", "(I)V"⟩, 46), (⟨"GrantNetModel", "isChosen", "(II)Z"⟩, 46), (⟨"GrantNetModel", "isAhead", "(II)Z"⟩, 46), (⟨"GrantNetModel", "watch", "(I)V"⟩, 46), (⟨"GrantNetModel", "send", "(I)V"⟩, 46), (⟨"GrantNetModel", "least", "(I)I"⟩, 46), (⟨"GrantNetModel", "left", "(I)I"⟩, 46), (⟨"GrantNetModel", "cutoff", "(II)I"⟩, 46), (⟨"GrantNetModel", "rankOf", "(III)I"⟩, 46)]
theorem lw_r3 : ∀ q ∈ lw_privs_3, lw_okq q := List.forall_mem_cons.mpr ⟨lw_p32, List.forall_mem_cons.mpr ⟨lw_p33, List.forall_mem_cons.mpr ⟨lw_p34, List.forall_mem_cons.mpr ⟨lw_p35, List.forall_mem_cons.mpr ⟨lw_p36, List.forall_mem_cons.mpr ⟨lw_p37, List.forall_mem_cons.mpr ⟨lw_p38, List.forall_mem_cons.mpr ⟨lw_p39, List.forall_mem_cons.mpr ⟨lw_p40, List.forall_mem_cons.mpr ⟨lw_p41, List.forall_mem_cons.mpr ⟨lw_p42, List.forall_mem_cons.mpr ⟨lw_p43, List.forall_mem_cons.mpr ⟨lw_p44, List.forall_mem_cons.mpr ⟨lw_p45, List.forall_mem_cons.mpr ⟨lw_p46, List.forall_mem_cons.mpr ⟨lw_p47, fun _ h => absurd h List.not_mem_nil⟩⟩⟩⟩⟩⟩⟩⟩⟩⟩⟩⟩⟩⟩⟩⟩
theorem lw_p48 : lw_okq (⟨"GrantNetModel", "isMessage", "(I)Z"⟩, 46) := ⟨⟨by decide +kernel, by decide +kernel⟩, List.mem_of_getElem? (i := 789) (by decide +kernel), List.mem_of_getElem? (i := 1046) (by decide +kernel), List.mem_of_getElem? (i := 1047) (by decide +kernel)⟩
def lw_privs_4 : List (MethodName × Nat) := [(⟨"GrantNetModel", "isMessage", "(I)Z"⟩, 46)]
theorem lw_r4 : ∀ q ∈ lw_privs_4, lw_okq q := List.forall_mem_cons.mpr ⟨lw_p48, fun _ h => absurd h List.not_mem_nil⟩
def lw_privs : List (MethodName × Nat) := lw_privs_1 ++ (lw_privs_2 ++ (lw_privs_3 ++ (lw_privs_4)))
def lw_tbl : List Cond := k2_sels lw_privs ++ tables_1
theorem lw_privs_ok : ∀ q ∈ lw_privs, lw_okq q := by
  show ∀ q ∈ lw_privs_1 ++ (lw_privs_2 ++ (lw_privs_3 ++ (lw_privs_4))), lw_okq q
  exact List.forall_mem_append.mpr ⟨lw_r1, List.forall_mem_append.mpr ⟨lw_r2, List.forall_mem_append.mpr ⟨lw_r3, lw_r4⟩⟩⟩
end
section
theorem goodIn_r {big : List Cond} (ws : List Cond) (ps : List Nat) (hp : ws = ps.filterMap (fun i => big[i]?)) (h : ws.all goodWord = true) : GoodIn big ws := by
  intro w hw
  have h1 := List.all_eq_true.mp h w hw
  rw [hp] at hw
  obtain ⟨i, -, hi⟩ := List.mem_filterMap.mp hw
  have hm : w ∈ big := by first | exact List.mem_of_getElem? hi | exact List.getElem?_mem hi
  exact ⟨hm, good_of_word h1⟩
theorem goodIn_app {big a b : List Cond} (ha : GoodIn big a) (hb : GoodIn big b) : GoodIn big (a ++ b) := fun w h => (List.mem_append.mp h).elim (ha w) (hb w)
theorem goodIn_ca {big a b : List Cond} {c : Cond} (ha : GoodIn big (c :: a)) (hb : GoodIn big b) : GoodIn big (c :: (a ++ b)) := fun w h => (List.mem_cons.mp h).elim (fun e => ha w (List.mem_cons.mpr (Or.inl e))) (fun h => (List.mem_append.mp h).elim (fun h => ha w (List.mem_cons.mpr (Or.inr h))) (hb w))
theorem goodIn_sub {big ws : List Cond} (hm : ∀ w ∈ ws, w ∈ big) (h : ws.all goodWord = true) : GoodIn big ws := fun w hw => ⟨hm w hw, good_of_word (List.all_eq_true.mp h w hw)⟩
def RX0 : String := "GrantNet$Bits"
def TX0 : u_T := fun k => match k with
  | _ => ("", "", "", false)
def tyX0 : Nat → FieldType := fun k => match k with
  | _ => .int
abbrev wsX00 : List Cond := u_ws RX0 TX0 0
theorem nmX0 : ∀ a, a < 0 → ∀ b, b < 0 → a ≠ b → (TX0 a).2.1 ≠ (TX0 b).2.1 := by decide +kernel
theorem tyX0_ok : ∀ k, k < 0 → parseFieldDescriptor (TX0 k).2.2.1 = some (tyX0 k) := by decide +kernel
abbrev cX0_with : ByteArray := prog_2_method_2_code
def yX0_with : MethodName := ⟨RX0, "with", "(JI)J"⟩
abbrev cX0_without : ByteArray := prog_2_method_3_code
def yX0_without : MethodName := ⟨RX0, "without", "(JI)J"⟩
abbrev cX0_has : ByteArray := prog_2_method_4_code
def yX0_has : MethodName := ⟨RX0, "has", "(JI)Z"⟩
abbrev cX0_least : ByteArray := prog_2_method_5_code
def yX0_least : MethodName := ⟨RX0, "least", "(J)I"⟩
def RX1 : String := "GrantNet$Cutoffs"
def TX1 : u_T := fun k => match k with
  | 0 => ("GrantNet$Cutoffs", "latest", "[I", true)
  | 1 => ("GrantNet$Cutoffs", "sorted", "[I", true)
  | 2 => ("GrantNet$Cutoffs", "oldest", "I", false)
  | 3 => ("GrantNet$Cutoffs", "size", "I", false)
  | 4 => ("GrantNet$Cutoffs", "first", "I", false)
  | _ => ("GrantNet$Cutoffs", "second", "I", false)
def tyX1 : Nat → FieldType := fun k => match k with
  | 0 => .array .int
  | 1 => .array .int
  | 2 => .int
  | 3 => .int
  | 4 => .int
  | _ => .int
abbrev wsX10 : List Cond := u_ws RX1 TX1 6
theorem nmX1 : ∀ a, a < 6 → ∀ b, b < 6 → a ≠ b → (TX1 a).2.1 ≠ (TX1 b).2.1 := by decide +kernel
theorem tyX1_ok : ∀ k, k < 6 → parseFieldDescriptor (TX1 k).2.2.1 = some (tyX1 k) := by decide +kernel
abbrev cX1_init : ByteArray := prog_3_method_1_code
def yX1_init : MethodName := ⟨RX1, "<init>", "()V"⟩
abbrev cX1_add : ByteArray := prog_3_method_2_code
def yX1_add : MethodName := ⟨RX1, "add", "(I)V"⟩
abbrev cX1_sort : ByteArray := prog_3_method_3_code
def yX1_sort : MethodName := ⟨RX1, "sort", "()V"⟩
abbrev cX1_first : ByteArray := prog_3_method_4_code
def yX1_first : MethodName := ⟨RX1, "first", "()I"⟩
abbrev cX1_second : ByteArray := prog_3_method_5_code
def yX1_second : MethodName := ⟨RX1, "second", "()I"⟩
abbrev cX1_priorityFor : ByteArray := prog_3_method_6_code
def yX1_priorityFor : MethodName := ⟨RX1, "priorityFor", "(I)I"⟩
def RX2 : String := "GrantNet$Fabric"
def TX2 : u_T := fun k => match k with
  | 0 => ("GrantNet$Fabric", "onLink", "[I", true)
  | 1 => ("GrantNet$Fabric", "toLose", "[I", true)
  | 2 => ("GrantNet$Fabric", "queues", "[LGrantNet$Row;", true)
  | 3 => ("GrantNet$Fabric", "spineIsOn", "[Z", true)
  | 4 => ("GrantNet$Fabric", "lastSpineOfLeaf", "[I", true)
  | 5 => ("GrantNet$Fabric", "dropped", "I", false)
  | _ => ("GrantNet$Fabric", "lost", "I", false)
def tyX2 : Nat → FieldType := fun k => match k with
  | 0 => .array .int
  | 1 => .array .int
  | 2 => .array (.object "GrantNet$Row")
  | 3 => .array .boolean
  | 4 => .array .int
  | 5 => .int
  | _ => .int
abbrev wsX20 : List Cond := u_ws RX2 TX2 7
theorem nmX2 : ∀ a, a < 7 → ∀ b, b < 7 → a ≠ b → (TX2 a).2.1 ≠ (TX2 b).2.1 := by decide +kernel
theorem tyX2_ok : ∀ k, k < 7 → parseFieldDescriptor (TX2 k).2.2.1 = some (tyX2 k) := by decide +kernel
abbrev cX2_init : ByteArray := prog_4_method_1_code
def yX2_init : MethodName := ⟨RX2, "<init>", "()V"⟩
abbrev cX2_isLink : ByteArray := prog_4_method_2_code
def yX2_isLink : MethodName := ⟨RX2, "isLink", "(I)Z"⟩
abbrev cX2_endsAtHost : ByteArray := prog_4_method_3_code
def yX2_endsAtHost : MethodName := ⟨RX2, "endsAtHost", "(I)Z"⟩
abbrev cX2_endsAtSpine : ByteArray := prog_4_method_4_code
def yX2_endsAtSpine : MethodName := ⟨RX2, "endsAtSpine", "(I)Z"⟩
abbrev cX2_isFromLeaf : ByteArray := prog_4_method_5_code
def yX2_isFromLeaf : MethodName := ⟨RX2, "isFromLeaf", "(I)Z"⟩
abbrev cX2_portOfLeaf : ByteArray := prog_4_method_6_code
def yX2_portOfLeaf : MethodName := ⟨RX2, "portOfLeaf", "(I)I"⟩
abbrev cX2_linkFromLeaf : ByteArray := prog_4_method_7_code
def yX2_linkFromLeaf : MethodName := ⟨RX2, "linkFromLeaf", "(II)I"⟩
abbrev cX2_linkFromSpine : ByteArray := prog_4_method_8_code
def yX2_linkFromSpine : MethodName := ⟨RX2, "linkFromSpine", "(II)I"⟩
abbrev cX2_leafOfHost : ByteArray := prog_4_method_9_code
def yX2_leafOfHost : MethodName := ⟨RX2, "leafOfHost", "(I)I"⟩
abbrev cX2_leafAtEnd : ByteArray := prog_4_method_10_code
def yX2_leafAtEnd : MethodName := ⟨RX2, "leafAtEnd", "(I)I"⟩
abbrev cX2_setToLose : ByteArray := prog_4_method_11_code
def yX2_setToLose : MethodName := ⟨RX2, "setToLose", "(II)V"⟩
abbrev cX2_setSpine : ByteArray := prog_4_method_12_code
def yX2_setSpine : MethodName := ⟨RX2, "setSpine", "(IZ)V"⟩
abbrev cX2_look : ByteArray := prog_4_method_13_code
def yX2_look : MethodName := ⟨RX2, "look", "(I)I"⟩
abbrev cX2_takeOff : ByteArray := prog_4_method_14_code
def yX2_takeOff : MethodName := ⟨RX2, "takeOff", "(I)I"⟩
abbrev cX2_putOn : ByteArray := prog_4_method_15_code
def yX2_putOn : MethodName := ⟨RX2, "putOn", "(II)V"⟩
abbrev cX2_passOn : ByteArray := prog_4_method_16_code
def yX2_passOn : MethodName := ⟨RX2, "passOn", "(II)V"⟩
abbrev cX2_passLeaf : ByteArray := prog_4_method_17_code
def yX2_passLeaf : MethodName := ⟨RX2, "passLeaf", "(II)V"⟩
abbrev cX2_chooseSpine : ByteArray := prog_4_method_18_code
def yX2_chooseSpine : MethodName := ⟨RX2, "chooseSpine", "(I)I"⟩
abbrev cX2_passSpine : ByteArray := prog_4_method_19_code
def yX2_passSpine : MethodName := ⟨RX2, "passSpine", "(II)V"⟩
abbrev cX2_enqueue : ByteArray := prog_4_method_20_code
def yX2_enqueue : MethodName := ⟨RX2, "enqueue", "(II)V"⟩
abbrev cX2_queueOf : ByteArray := prog_4_method_21_code
def yX2_queueOf : MethodName := ⟨RX2, "queueOf", "(II)LGrantNet$Row;"⟩
abbrev cX2_fillLinks : ByteArray := prog_4_method_22_code
def yX2_fillLinks : MethodName := ⟨RX2, "fillLinks", "()V"⟩
abbrev cX2_isServed : ByteArray := prog_4_method_23_code
def yX2_isServed : MethodName := ⟨RX2, "isServed", "(I)Z"⟩
abbrev cX2_fill : ByteArray := prog_4_method_24_code
def yX2_fill : MethodName := ⟨RX2, "fill", "(I)V"⟩
abbrev cX2_waiting : ByteArray := prog_4_method_25_code
def yX2_waiting : MethodName := ⟨RX2, "waiting", "(II)I"⟩
abbrev cX2_tell : ByteArray := prog_4_method_26_code
def yX2_tell : MethodName := ⟨RX2, "tell", "(I)I"⟩
abbrev cX2_underWay : ByteArray := prog_4_method_27_code
def yX2_underWay : MethodName := ⟨RX2, "underWay", "()I"⟩
def RX3 : String := "GrantNet$Host"
def TX3 : u_T := fun k => match k with
  | 0 => ("GrantNet$Host", "outgoing", "[LGrantNet$Message;", true)
  | 1 => ("GrantNet$Host", "incoming", "[LGrantNet$Message;", true)
  | 2 => ("GrantNet$Host", "cutoffs", "LGrantNet$Cutoffs;", true)
  | 3 => ("GrantNet$Host", "due", "LGrantNet$Row;", true)
  | 4 => ("GrantNet$Host", "choices", "[I", true)
  | 5 => ("GrantNet$Host", "ended", "[I", true)
  | 6 => ("GrantNet$Host", "outgoingCount", "I", false)
  | 7 => ("GrantNet$Host", "incomingCount", "I", false)
  | 8 => ("GrantNet$Host", "arrivals", "I", false)
  | 9 => ("GrantNet$Host", "endedCount", "I", false)
  | _ => ("GrantNet$Host", "sentCount", "I", false)
def tyX3 : Nat → FieldType := fun k => match k with
  | 0 => .array (.object "GrantNet$Message")
  | 1 => .array (.object "GrantNet$Message")
  | 2 => .object "GrantNet$Cutoffs"
  | 3 => .object "GrantNet$Row"
  | 4 => .array .int
  | 5 => .array .int
  | 6 => .int
  | 7 => .int
  | 8 => .int
  | 9 => .int
  | _ => .int
abbrev wsX30 : List Cond := u_ws RX3 TX3 11
theorem nmX3 : ∀ a, a < 11 → ∀ b, b < 11 → a ≠ b → (TX3 a).2.1 ≠ (TX3 b).2.1 := by decide +kernel
theorem tyX3_ok : ∀ k, k < 11 → parseFieldDescriptor (TX3 k).2.2.1 = some (tyX3 k) := by decide +kernel
abbrev cX3_init : ByteArray := prog_5_method_1_code
def yX3_init : MethodName := ⟨RX3, "<init>", "()V"⟩
abbrev cX3_addOutgoing : ByteArray := prog_5_method_2_code
def yX3_addOutgoing : MethodName := ⟨RX3, "addOutgoing", "(LGrantNet$Message;)V"⟩
abbrev cX3_addIncoming : ByteArray := prog_5_method_3_code
def yX3_addIncoming : MethodName := ⟨RX3, "addIncoming", "(LGrantNet$Message;)V"⟩
abbrev cX3_takeData : ByteArray := prog_5_method_4_code
def yX3_takeData : MethodName := ⟨RX3, "takeData", "(LGrantNet$Message;II)V"⟩
abbrev cX3_noteFinished : ByteArray := prog_5_method_5_code
def yX3_noteFinished : MethodName := ⟨RX3, "noteFinished", "(LGrantNet$Message;)V"⟩
abbrev cX3_putDue : ByteArray := prog_5_method_6_code
def yX3_putDue : MethodName := ⟨RX3, "putDue", "(ILGrantNet$Message;I)V"⟩
abbrev cX3_workAsReceiver : ByteArray := prog_5_method_7_code
def yX3_workAsReceiver : MethodName := ⟨RX3, "workAsReceiver", "(I)V"⟩
abbrev cX3_listen : ByteArray := prog_5_method_8_code
def yX3_listen : MethodName := ⟨RX3, "listen", "(LGrantNet$Message;)V"⟩
abbrev cX3_choose : ByteArray := prog_5_method_9_code
def yX3_choose : MethodName := ⟨RX3, "choose", "()V"⟩
abbrev cX3_bestBehind : ByteArray := prog_5_method_10_code
def yX3_bestBehind : MethodName := ⟨RX3, "bestBehind", "(LGrantNet$Message;)LGrantNet$Message;"⟩
abbrev cX3_workAsSender : ByteArray := prog_5_method_11_code
def yX3_workAsSender : MethodName := ⟨RX3, "workAsSender", "(I)V"⟩
abbrev cX3_nextPacket : ByteArray := prog_5_method_12_code
def yX3_nextPacket : MethodName := ⟨RX3, "nextPacket", "()I"⟩
abbrev cX3_nextData : ByteArray := prog_5_method_13_code
def yX3_nextData : MethodName := ⟨RX3, "nextData", "()I"⟩
abbrev cX3_shortestToSend : ByteArray := prog_5_method_14_code
def yX3_shortestToSend : MethodName := ⟨RX3, "shortestToSend", "()LGrantNet$Message;"⟩
abbrev cX3_latestFinished : ByteArray := prog_5_method_15_code
def yX3_latestFinished : MethodName := ⟨RX3, "latestFinished", "(I)I"⟩
abbrev cX3_choice : ByteArray := prog_5_method_16_code
def yX3_choice : MethodName := ⟨RX3, "choice", "(I)I"⟩
abbrev cX3_tell : ByteArray := prog_5_method_17_code
def yX3_tell : MethodName := ⟨RX3, "tell", "(I)I"⟩
abbrev cX3_grantedAndNotIn : ByteArray := prog_5_method_18_code
def yX3_grantedAndNotIn : MethodName := ⟨RX3, "grantedAndNotIn", "()I"⟩
def RX4 : String := "GrantNet$Message"
def TX4 : u_T := fun k => match k with
  | 0 => ("GrantNet$Message", "number", "I", true)
  | 1 => ("GrantNet$Message", "from", "I", true)
  | 2 => ("GrantNet$Message", "to", "I", true)
  | 3 => ("GrantNet$Message", "length", "I", true)
  | 4 => ("GrantNet$Message", "sending", "LGrantNet$Sending;", true)
  | _ => ("GrantNet$Message", "receiving", "LGrantNet$Receiving;", true)
def tyX4 : Nat → FieldType := fun k => match k with
  | 0 => .int
  | 1 => .int
  | 2 => .int
  | 3 => .int
  | 4 => .object "GrantNet$Sending"
  | _ => .object "GrantNet$Receiving"
abbrev wsX40 : List Cond := u_ws RX4 TX4 6
theorem nmX4 : ∀ a, a < 6 → ∀ b, b < 6 → a ≠ b → (TX4 a).2.1 ≠ (TX4 b).2.1 := by decide +kernel
theorem tyX4_ok : ∀ k, k < 6 → parseFieldDescriptor (TX4 k).2.2.1 = some (tyX4 k) := by decide +kernel
abbrev cX4_init : ByteArray := prog_6_method_1_code
def yX4_init : MethodName := ⟨RX4, "<init>", "(IIIII)V"⟩
def RX5 : String := "GrantNet$Packet"
def TX5 : u_T := fun k => match k with
  | _ => ("", "", "", false)
def tyX5 : Nat → FieldType := fun k => match k with
  | _ => .int
abbrev wsX50 : List Cond := u_ws RX5 TX5 0
theorem nmX5 : ∀ a, a < 0 → ∀ b, b < 0 → a ≠ b → (TX5 a).2.1 ≠ (TX5 b).2.1 := by decide +kernel
theorem tyX5_ok : ∀ k, k < 0 → parseFieldDescriptor (TX5 k).2.2.1 = some (tyX5 k) := by decide +kernel
abbrev cX5_pack : ByteArray := prog_7_method_2_code
def yX5_pack : MethodName := ⟨RX5, "pack", "(ILGrantNet$Message;III)I"⟩
abbrev cX5_countOf : ByteArray := prog_7_method_3_code
def yX5_countOf : MethodName := ⟨RX5, "countOf", "(I)I"⟩
abbrev cX5_messageOf : ByteArray := prog_7_method_4_code
def yX5_messageOf : MethodName := ⟨RX5, "messageOf", "(I)I"⟩
abbrev cX5_goalOf : ByteArray := prog_7_method_5_code
def yX5_goalOf : MethodName := ⟨RX5, "goalOf", "(I)I"⟩
abbrev cX5_priorityOf : ByteArray := prog_7_method_6_code
def yX5_priorityOf : MethodName := ⟨RX5, "priorityOf", "(I)I"⟩
abbrev cX5_kindOf : ByteArray := prog_7_method_7_code
def yX5_kindOf : MethodName := ⟨RX5, "kindOf", "(I)I"⟩
abbrev cX5_tell : ByteArray := prog_7_method_8_code
def yX5_tell : MethodName := ⟨RX5, "tell", "(II)I"⟩
def RX6 : String := "GrantNet$Receiving"
def TX6 : u_T := fun k => match k with
  | 0 => ("GrantNet$Receiving", "length", "I", true)
  | 1 => ("GrantNet$Receiving", "isForgettable", "Z", true)
  | 2 => ("GrantNet$Receiving", "state", "I", false)
  | 3 => ("GrantNet$Receiving", "executed", "I", false)
  | 4 => ("GrantNet$Receiving", "held", "J", false)
  | 5 => ("GrantNet$Receiving", "granted", "I", false)
  | 6 => ("GrantNet$Receiving", "silence", "I", false)
  | 7 => ("GrantNet$Receiving", "asks", "I", false)
  | 8 => ("GrantNet$Receiving", "arrival", "I", false)
  | _ => ("GrantNet$Receiving", "finishedAt", "I", false)
def tyX6 : Nat → FieldType := fun k => match k with
  | 0 => .int
  | 1 => .boolean
  | 2 => .int
  | 3 => .int
  | 4 => .long
  | 5 => .int
  | 6 => .int
  | 7 => .int
  | 8 => .int
  | _ => .int
abbrev wsX60 : List Cond := u_ws RX6 TX6 10
theorem nmX6 : ∀ a, a < 10 → ∀ b, b < 10 → a ≠ b → (TX6 a).2.1 ≠ (TX6 b).2.1 := by decide +kernel
theorem tyX6_ok : ∀ k, k < 10 → parseFieldDescriptor (TX6 k).2.2.1 = some (tyX6 k) := by decide +kernel
abbrev cX6_init : ByteArray := prog_8_method_1_code
def yX6_init : MethodName := ⟨RX6, "<init>", "(IZ)V"⟩
abbrev cX6_targetOfGrant : ByteArray := prog_8_method_2_code
def yX6_targetOfGrant : MethodName := ⟨RX6, "targetOfGrant", "(I)I"⟩
abbrev cX6_levelOfGrant : ByteArray := prog_8_method_3_code
def yX6_levelOfGrant : MethodName := ⟨RX6, "levelOfGrant", "(I)I"⟩
abbrev cX6_grantedOfAsk : ByteArray := prog_8_method_4_code
def yX6_grantedOfAsk : MethodName := ⟨RX6, "grantedOfAsk", "(I)I"⟩
abbrev cX6_placeOfAsk : ByteArray := prog_8_method_5_code
def yX6_placeOfAsk : MethodName := ⟨RX6, "placeOfAsk", "(I)I"⟩
abbrev cX6_isUnknown : ByteArray := prog_8_method_6_code
def yX6_isUnknown : MethodName := ⟨RX6, "isUnknown", "()Z"⟩
abbrev cX6_isKnown : ByteArray := prog_8_method_7_code
def yX6_isKnown : MethodName := ⟨RX6, "isKnown", "()Z"⟩
abbrev cX6_isFinished : ByteArray := prog_8_method_8_code
def yX6_isFinished : MethodName := ⟨RX6, "isFinished", "()Z"⟩
abbrev cX6_holds : ByteArray := prog_8_method_9_code
def yX6_holds : MethodName := ⟨RX6, "holds", "(I)Z"⟩
abbrev cX6_missing : ByteArray := prog_8_method_10_code
def yX6_missing : MethodName := ⟨RX6, "missing", "()I"⟩
abbrev cX6_grantedAndNotIn : ByteArray := prog_8_method_11_code
def yX6_grantedAndNotIn : MethodName := ⟨RX6, "grantedAndNotIn", "()I"⟩
abbrev cX6_begin : ByteArray := prog_8_method_12_code
def yX6_begin : MethodName := ⟨RX6, "begin", "(I)V"⟩
abbrev cX6_take : ByteArray := prog_8_method_13_code
def yX6_take : MethodName := ⟨RX6, "take", "(II)V"⟩
abbrev cX6_growSilence : ByteArray := prog_8_method_14_code
def yX6_growSilence : MethodName := ⟨RX6, "growSilence", "()Z"⟩
abbrev cX6_countOfAsk : ByteArray := prog_8_method_15_code
def yX6_countOfAsk : MethodName := ⟨RX6, "countOfAsk", "()I"⟩
abbrev cX6_forgetIfOld : ByteArray := prog_8_method_16_code
def yX6_forgetIfOld : MethodName := ⟨RX6, "forgetIfOld", "(I)V"⟩
abbrev cX6_forget : ByteArray := prog_8_method_17_code
def yX6_forget : MethodName := ⟨RX6, "forget", "()V"⟩
abbrev cX6_isAheadOf : ByteArray := prog_8_method_18_code
def yX6_isAheadOf : MethodName := ⟨RX6, "isAheadOf", "(LGrantNet$Receiving;)Z"⟩
abbrev cX6_growGranted : ByteArray := prog_8_method_19_code
def yX6_growGranted : MethodName := ⟨RX6, "growGranted", "()Z"⟩
abbrev cX6_countOfGrant : ByteArray := prog_8_method_20_code
def yX6_countOfGrant : MethodName := ⟨RX6, "countOfGrant", "(I)I"⟩
abbrev cX6_tell : ByteArray := prog_8_method_21_code
def yX6_tell : MethodName := ⟨RX6, "tell", "(I)I"⟩
def RX7 : String := "GrantNet$Row"
def TX7 : u_T := fun k => match k with
  | 0 => ("GrantNet$Row", "places", "[I", true)
  | 1 => ("GrantNet$Row", "first", "I", false)
  | _ => ("GrantNet$Row", "size", "I", false)
def tyX7 : Nat → FieldType := fun k => match k with
  | 0 => .array .int
  | 1 => .int
  | _ => .int
abbrev wsX70 : List Cond := u_ws RX7 TX7 3
theorem nmX7 : ∀ a, a < 3 → ∀ b, b < 3 → a ≠ b → (TX7 a).2.1 ≠ (TX7 b).2.1 := by decide +kernel
theorem tyX7_ok : ∀ k, k < 3 → parseFieldDescriptor (TX7 k).2.2.1 = some (tyX7 k) := by decide +kernel
abbrev cX7_init : ByteArray := prog_9_method_1_code
def yX7_init : MethodName := ⟨RX7, "<init>", "(I)V"⟩
abbrev cX7_size : ByteArray := prog_9_method_2_code
def yX7_size : MethodName := ⟨RX7, "size", "()I"⟩
abbrev cX7_put : ByteArray := prog_9_method_3_code
def yX7_put : MethodName := ⟨RX7, "put", "(I)Z"⟩
abbrev cX7_take : ByteArray := prog_9_method_4_code
def yX7_take : MethodName := ⟨RX7, "take", "()I"⟩
def RX8 : String := "GrantNet$Sending"
def TX8 : u_T := fun k => match k with
  | 0 => ("GrantNet$Sending", "length", "I", true)
  | 1 => ("GrantNet$Sending", "status", "I", false)
  | 2 => ("GrantNet$Sending", "next", "I", false)
  | 3 => ("GrantNet$Sending", "permitted", "I", false)
  | 4 => ("GrantNet$Sending", "level", "I", false)
  | 5 => ("GrantNet$Sending", "wanted", "J", false)
  | 6 => ("GrantNet$Sending", "quiet", "I", false)
  | 7 => ("GrantNet$Sending", "tries", "I", false)
  | _ => ("GrantNet$Sending", "endedAt", "I", false)
def tyX8 : Nat → FieldType := fun k => match k with
  | 0 => .int
  | 1 => .int
  | 2 => .int
  | 3 => .int
  | 4 => .int
  | 5 => .long
  | 6 => .int
  | 7 => .int
  | _ => .int
abbrev wsX80 : List Cond := u_ws RX8 TX8 9
theorem nmX8 : ∀ a, a < 9 → ∀ b, b < 9 → a ≠ b → (TX8 a).2.1 ≠ (TX8 b).2.1 := by decide +kernel
theorem tyX8_ok : ∀ k, k < 9 → parseFieldDescriptor (TX8 k).2.2.1 = some (tyX8 k) := by decide +kernel
abbrev cX8_init : ByteArray := prog_10_method_1_code
def yX8_init : MethodName := ⟨RX8, "<init>", "(I)V"⟩
abbrev cX8_left : ByteArray := prog_10_method_2_code
def yX8_left : MethodName := ⟨RX8, "left", "()I"⟩
abbrev cX8_level : ByteArray := prog_10_method_3_code
def yX8_level : MethodName := ⟨RX8, "level", "()I"⟩
abbrev cX8_canSend : ByteArray := prog_10_method_4_code
def yX8_canSend : MethodName := ⟨RX8, "canSend", "()Z"⟩
abbrev cX8_takePlace : ByteArray := prog_10_method_5_code
def yX8_takePlace : MethodName := ⟨RX8, "takePlace", "()I"⟩
abbrev cX8_takeAnswer : ByteArray := prog_10_method_6_code
def yX8_takeAnswer : MethodName := ⟨RX8, "takeAnswer", "(III)V"⟩
abbrev cX8_growQuiet : ByteArray := prog_10_method_7_code
def yX8_growQuiet : MethodName := ⟨RX8, "growQuiet", "(I)V"⟩
abbrev cX8_want : ByteArray := prog_10_method_8_code
def yX8_want : MethodName := ⟨RX8, "want", "(I)V"⟩
abbrev cX8_end : ByteArray := prog_10_method_9_code
def yX8_end : MethodName := ⟨RX8, "end", "(II)V"⟩
abbrev cX8_tell : ByteArray := prog_10_method_10_code
def yX8_tell : MethodName := ⟨RX8, "tell", "(I)I"⟩
def RX9 : String := "GrantNet"
def TX9 : u_T := fun k => match k with
  | 0 => ("GrantNet", "fabric", "LGrantNet$Fabric;", true)
  | 1 => ("GrantNet", "hosts", "[LGrantNet$Host;", true)
  | 2 => ("GrantNet", "messages", "[LGrantNet$Message;", true)
  | 3 => ("GrantNet", "begun", "I", false)
  | _ => ("GrantNet", "clock", "I", false)
def tyX9 : Nat → FieldType := fun k => match k with
  | 0 => .object "GrantNet$Fabric"
  | 1 => .array (.object "GrantNet$Host")
  | 2 => .array (.object "GrantNet$Message")
  | 3 => .int
  | _ => .int
abbrev wsX90 : List Cond := u_ws RX9 TX9 5
theorem nmX9 : ∀ a, a < 5 → ∀ b, b < 5 → a ≠ b → (TX9 a).2.1 ≠ (TX9 b).2.1 := by decide +kernel
theorem tyX9_ok : ∀ k, k < 5 → parseFieldDescriptor (TX9 k).2.2.1 = some (tyX9 k) := by decide +kernel
abbrev cX9_init : ByteArray := prog_1_method_1_code
def yX9_init : MethodName := ⟨RX9, "<init>", "()V"⟩
abbrev cX9_message : ByteArray := prog_1_method_2_code
def yX9_message : MethodName := ⟨RX9, "message", "(IIII)I"⟩
abbrev cX9_slot : ByteArray := prog_1_method_3_code
def yX9_slot : MethodName := ⟨RX9, "slot", "(I)I"⟩
abbrev cX9_lose : ByteArray := prog_1_method_4_code
def yX9_lose : MethodName := ⟨RX9, "lose", "(II)Z"⟩
abbrev cX9_spine : ByteArray := prog_1_method_5_code
def yX9_spine : MethodName := ⟨RX9, "spine", "(IZ)Z"⟩
abbrev cX9_sent : ByteArray := prog_1_method_6_code
def yX9_sent : MethodName := ⟨RX9, "sent", "(II)I"⟩
abbrev cX9_received : ByteArray := prog_1_method_7_code
def yX9_received : MethodName := ⟨RX9, "received", "(II)I"⟩
abbrev cX9_in : ByteArray := prog_1_method_8_code
def yX9_in : MethodName := ⟨RX9, "in", "(II)Z"⟩
abbrev cX9_finished : ByteArray := prog_1_method_9_code
def yX9_finished : MethodName := ⟨RX9, "finished", "(II)I"⟩
abbrev cX9_chosen : ByteArray := prog_1_method_10_code
def yX9_chosen : MethodName := ⟨RX9, "chosen", "(II)I"⟩
abbrev cX9_host : ByteArray := prog_1_method_11_code
def yX9_host : MethodName := ⟨RX9, "host", "(II)I"⟩
abbrev cX9_queue : ByteArray := prog_1_method_12_code
def yX9_queue : MethodName := ⟨RX9, "queue", "(II)I"⟩
abbrev cX9_packet : ByteArray := prog_1_method_13_code
def yX9_packet : MethodName := ⟨RX9, "packet", "(II)I"⟩
abbrev cX9_total : ByteArray := prog_1_method_14_code
def yX9_total : MethodName := ⟨RX9, "total", "(I)I"⟩
abbrev cX9_isHost : ByteArray := prog_1_method_15_code
def yX9_isHost : MethodName := ⟨RX9, "isHost", "(I)Z"⟩
abbrev cX9_find : ByteArray := prog_1_method_16_code
def yX9_find : MethodName := ⟨RX9, "find", "(I)LGrantNet$Message;"⟩
abbrev cX9_runSlot : ByteArray := prog_1_method_17_code
def yX9_runSlot : MethodName := ⟨RX9, "runSlot", "()V"⟩
abbrev cX9_arriveAll : ByteArray := prog_1_method_18_code
def yX9_arriveAll : MethodName := ⟨RX9, "arriveAll", "()V"⟩
abbrev cX9_takeIn : ByteArray := prog_1_method_19_code
def yX9_takeIn : MethodName := ⟨RX9, "takeIn", "(I)V"⟩
def RX10 : String := "GrantNetModel"
def TX10 : u_T := fun k => match k with
  | 0 => ("GrantNetModel", "code", "I", false)
  | 1 => ("GrantNetModel", "clock", "I", false)
  | 2 => ("GrantNetModel", "many", "I", false)
  | 3 => ("GrantNetModel", "kind", "[I", true)
  | 4 => ("GrantNetModel", "about", "[I", true)
  | 5 => ("GrantNetModel", "count", "[I", true)
  | 6 => ("GrantNetModel", "priority", "[I", true)
  | 7 => ("GrantNetModel", "losing", "[I", true)
  | 8 => ("GrantNetModel", "waiting", "[I", true)
  | 9 => ("GrantNetModel", "queueKind", "[I", true)
  | 10 => ("GrantNetModel", "queueAbout", "[I", true)
  | 11 => ("GrantNetModel", "queueCount", "[I", true)
  | 12 => ("GrantNetModel", "off", "[Z", true)
  | 13 => ("GrantNetModel", "choice", "[I", true)
  | 14 => ("GrantNetModel", "dropped", "I", false)
  | 15 => ("GrantNetModel", "lost", "I", false)
  | 16 => ("GrantNetModel", "from", "[I", true)
  | 17 => ("GrantNetModel", "to", "[I", true)
  | 18 => ("GrantNetModel", "length", "[I", true)
  | 19 => ("GrantNetModel", "mode", "[I", true)
  | 20 => ("GrantNetModel", "state", "[I", true)
  | 21 => ("GrantNetModel", "next", "[I", true)
  | 22 => ("GrantNetModel", "permitted", "[I", true)
  | 23 => ("GrantNetModel", "level", "[I", true)
  | 24 => ("GrantNetModel", "quiet", "[I", true)
  | 25 => ("GrantNetModel", "tries", "[I", true)
  | 26 => ("GrantNetModel", "ended", "[I", true)
  | 27 => ("GrantNetModel", "wanted", "[Z", true)
  | 28 => ("GrantNetModel", "known", "[I", true)
  | 29 => ("GrantNetModel", "executed", "[I", true)
  | 30 => ("GrantNetModel", "granted", "[I", true)
  | 31 => ("GrantNetModel", "silence", "[I", true)
  | 32 => ("GrantNetModel", "asks", "[I", true)
  | 33 => ("GrantNetModel", "arrival", "[I", true)
  | 34 => ("GrantNetModel", "since", "[I", true)
  | 35 => ("GrantNetModel", "isIn", "[Z", true)
  | 36 => ("GrantNetModel", "arrivals", "[I", true)
  | 37 => ("GrantNetModel", "due", "[I", true)
  | 38 => ("GrantNetModel", "dueKind", "[I", true)
  | 39 => ("GrantNetModel", "dueAbout", "[I", true)
  | 40 => ("GrantNetModel", "dueCount", "[I", true)
  | 41 => ("GrantNetModel", "sent", "[I", true)
  | 42 => ("GrantNetModel", "chosen", "[I", true)
  | 43 => ("GrantNetModel", "chosenMany", "[I", true)
  | 44 => ("GrantNetModel", "finishes", "[I", true)
  | _ => ("GrantNetModel", "finishAbout", "[I", true)
def tyX10 : Nat → FieldType := fun k => match k with
  | 0 => .int
  | 1 => .int
  | 2 => .int
  | 3 => .array .int
  | 4 => .array .int
  | 5 => .array .int
  | 6 => .array .int
  | 7 => .array .int
  | 8 => .array .int
  | 9 => .array .int
  | 10 => .array .int
  | 11 => .array .int
  | 12 => .array .boolean
  | 13 => .array .int
  | 14 => .int
  | 15 => .int
  | 16 => .array .int
  | 17 => .array .int
  | 18 => .array .int
  | 19 => .array .int
  | 20 => .array .int
  | 21 => .array .int
  | 22 => .array .int
  | 23 => .array .int
  | 24 => .array .int
  | 25 => .array .int
  | 26 => .array .int
  | 27 => .array .boolean
  | 28 => .array .int
  | 29 => .array .int
  | 30 => .array .int
  | 31 => .array .int
  | 32 => .array .int
  | 33 => .array .int
  | 34 => .array .int
  | 35 => .array .boolean
  | 36 => .array .int
  | 37 => .array .int
  | 38 => .array .int
  | 39 => .array .int
  | 40 => .array .int
  | 41 => .array .int
  | 42 => .array .int
  | 43 => .array .int
  | 44 => .array .int
  | _ => .array .int
abbrev wsX100 : List Cond := u_ws RX10 TX10 46
theorem nmX10 : ∀ a, a < 46 → ∀ b, b < 46 → a ≠ b → (TX10 a).2.1 ≠ (TX10 b).2.1 := by decide +kernel
theorem tyX10_ok : ∀ k, k < 46 → parseFieldDescriptor (TX10 k).2.2.1 = some (tyX10 k) := by decide +kernel
abbrev cX10_init : ByteArray := prog_12_method_1_code
def yX10_init : MethodName := ⟨RX10, "<init>", "()V"⟩
abbrev cX10_thrown : ByteArray := prog_12_method_2_code
def yX10_thrown : MethodName := ⟨RX10, "thrown", "()I"⟩
abbrev cX10_message : ByteArray := prog_12_method_3_code
def yX10_message : MethodName := ⟨RX10, "message", "(IIII)I"⟩
abbrev cX10_goal : ByteArray := prog_12_method_4_code
def yX10_goal : MethodName := ⟨RX10, "goal", "(II)I"⟩
abbrev cX10_enter : ByteArray := prog_12_method_5_code
def yX10_enter : MethodName := ⟨RX10, "enter", "(IIIII)V"⟩
abbrev cX10_line : ByteArray := prog_12_method_6_code
def yX10_line : MethodName := ⟨RX10, "line", "(IIIII)V"⟩
abbrev cX10_atLeaf : ByteArray := prog_12_method_7_code
def yX10_atLeaf : MethodName := ⟨RX10, "atLeaf", "(IIIII)V"⟩
abbrev cX10_arrive : ByteArray := prog_12_method_8_code
def yX10_arrive : MethodName := ⟨RX10, "arrive", "(I)V"⟩
abbrev cX10_serve : ByteArray := prog_12_method_9_code
def yX10_serve : MethodName := ⟨RX10, "serve", "(I)V"⟩
abbrev cX10_becomeDue : ByteArray := prog_12_method_10_code
def yX10_becomeDue : MethodName := ⟨RX10, "becomeDue", "(IIII)V"⟩
abbrev cX10_missing : ByteArray := prog_12_method_11_code
def yX10_missing : MethodName := ⟨RX10, "missing", "(I)I"⟩
abbrev cX10_forget : ByteArray := prog_12_method_12_code
def yX10_forget : MethodName := ⟨RX10, "forget", "(I)V"⟩
abbrev cX10_data : ByteArray := prog_12_method_13_code
def yX10_data : MethodName := ⟨RX10, "data", "(II)V"⟩
abbrev cX10_receive : ByteArray := prog_12_method_14_code
def yX10_receive : MethodName := ⟨RX10, "receive", "(I)V"⟩
abbrev cX10_listen : ByteArray := prog_12_method_15_code
def yX10_listen : MethodName := ⟨RX10, "listen", "(II)V"⟩
abbrev cX10_isChosen : ByteArray := prog_12_method_16_code
def yX10_isChosen : MethodName := ⟨RX10, "isChosen", "(II)Z"⟩
abbrev cX10_isAhead : ByteArray := prog_12_method_17_code
def yX10_isAhead : MethodName := ⟨RX10, "isAhead", "(II)Z"⟩
abbrev cX10_answer : ByteArray := prog_12_method_18_code
def yX10_answer : MethodName := ⟨RX10, "answer", "(III)V"⟩
abbrev cX10_want : ByteArray := prog_12_method_19_code
def yX10_want : MethodName := ⟨RX10, "want", "(II)V"⟩
abbrev cX10_least : ByteArray := prog_12_method_20_code
def yX10_least : MethodName := ⟨RX10, "least", "(I)I"⟩
abbrev cX10_left : ByteArray := prog_12_method_21_code
def yX10_left : MethodName := ⟨RX10, "left", "(I)I"⟩
abbrev cX10_watch : ByteArray := prog_12_method_22_code
def yX10_watch : MethodName := ⟨RX10, "watch", "(I)V"⟩
abbrev cX10_send : ByteArray := prog_12_method_23_code
def yX10_send : MethodName := ⟨RX10, "send", "(I)V"⟩
abbrev cX10_rankOf : ByteArray := prog_12_method_24_code
def yX10_rankOf : MethodName := ⟨RX10, "rankOf", "(III)I"⟩
abbrev cX10_cutoff : ByteArray := prog_12_method_25_code
def yX10_cutoff : MethodName := ⟨RX10, "cutoff", "(II)I"⟩
abbrev cX10_slot : ByteArray := prog_12_method_26_code
def yX10_slot : MethodName := ⟨RX10, "slot", "(I)I"⟩
abbrev cX10_lose : ByteArray := prog_12_method_27_code
def yX10_lose : MethodName := ⟨RX10, "lose", "(II)Z"⟩
abbrev cX10_spine : ByteArray := prog_12_method_28_code
def yX10_spine : MethodName := ⟨RX10, "spine", "(IZ)Z"⟩
abbrev cX10_isMessage : ByteArray := prog_12_method_29_code
def yX10_isMessage : MethodName := ⟨RX10, "isMessage", "(I)Z"⟩
abbrev cX10_sent : ByteArray := prog_12_method_30_code
def yX10_sent : MethodName := ⟨RX10, "sent", "(II)I"⟩
abbrev cX10_received : ByteArray := prog_12_method_31_code
def yX10_received : MethodName := ⟨RX10, "received", "(II)I"⟩
abbrev cX10_in : ByteArray := prog_12_method_32_code
def yX10_in : MethodName := ⟨RX10, "in", "(II)Z"⟩
abbrev cX10_finished : ByteArray := prog_12_method_33_code
def yX10_finished : MethodName := ⟨RX10, "finished", "(II)I"⟩
abbrev cX10_chosen : ByteArray := prog_12_method_34_code
def yX10_chosen : MethodName := ⟨RX10, "chosen", "(II)I"⟩
abbrev cX10_host : ByteArray := prog_12_method_35_code
def yX10_host : MethodName := ⟨RX10, "host", "(II)I"⟩
abbrev cX10_queue : ByteArray := prog_12_method_36_code
def yX10_queue : MethodName := ⟨RX10, "queue", "(II)I"⟩
abbrev cX10_packet : ByteArray := prog_12_method_37_code
def yX10_packet : MethodName := ⟨RX10, "packet", "(II)I"⟩
abbrev cX10_total : ByteArray := prog_12_method_38_code
def yX10_total : MethodName := ⟨RX10, "total", "(I)I"⟩
def RJ13 : String := "java/lang/Long"
def TJ13 : u_T := fun k => match k with
  | _ => ("", "", "", false)
def tyJ13 : Nat → FieldType := fun k => match k with
  | _ => .int
abbrev wsJ130 : List Cond := u_ws RJ13 TJ13 0
theorem nmJ13 : ∀ a, a < 0 → ∀ b, b < 0 → a ≠ b → (TJ13 a).2.1 ≠ (TJ13 b).2.1 := by decide +kernel
theorem tyJ13_ok : ∀ k, k < 0 → parseFieldDescriptor (TJ13 k).2.2.1 = some (tyJ13 k) := by decide +kernel
abbrev cJ13_bitCount_95d88 : ByteArray := prog_15_method_50_code
def yJ13_bitCount_95d88 : MethodName := ⟨RJ13, "bitCount", "(J)I"⟩
def RJ9 : String := "java/lang/Math"
def TJ9 : u_T := fun k => match k with
  | _ => ("", "", "", false)
def tyJ9 : Nat → FieldType := fun k => match k with
  | _ => .int
abbrev wsJ90 : List Cond := u_ws RJ9 TJ9 0
theorem nmJ9 : ∀ a, a < 0 → ∀ b, b < 0 → a ≠ b → (TJ9 a).2.1 ≠ (TJ9 b).2.1 := by decide +kernel
theorem tyJ9_ok : ∀ k, k < 0 → parseFieldDescriptor (TJ9 k).2.2.1 = some (tyJ9 k) := by decide +kernel
abbrev cJ9_floorMod_7cf53 : ByteArray := prog_16_method_50_code
def yJ9_floorMod_7cf53 : MethodName := ⟨RJ9, "floorMod", "(II)I"⟩
abbrev cJ9_max_7cf53 : ByteArray := prog_16_method_65_code
def yJ9_max_7cf53 : MethodName := ⟨RJ9, "max", "(II)I"⟩
abbrev cJ9_min_7cf53 : ByteArray := prog_16_method_69_code
def yJ9_min_7cf53 : MethodName := ⟨RJ9, "min", "(II)I"⟩
def RJ0 : String := "java/lang/String"
def TJ0 : u_T := fun k => match k with
  | _ => ("", "", "", false)
def tyJ0 : Nat → FieldType := fun k => match k with
  | _ => .int
abbrev wsJ00 : List Cond := u_ws RJ0 TJ0 0
theorem nmJ0 : ∀ a, a < 0 → ∀ b, b < 0 → a ≠ b → (TJ0 a).2.1 ≠ (TJ0 b).2.1 := by decide +kernel
theorem tyJ0_ok : ∀ k, k < 0 → parseFieldDescriptor (TJ0 k).2.2.1 = some (tyJ0 k) := by decide +kernel
def RJ7 : String := "java/util/Arrays"
def TJ7 : u_T := fun k => match k with
  | _ => ("", "", "", false)
def tyJ7 : Nat → FieldType := fun k => match k with
  | _ => .int
abbrev wsJ70 : List Cond := u_ws RJ7 TJ7 0
theorem nmJ7 : ∀ a, a < 0 → ∀ b, b < 0 → a ≠ b → (TJ7 a).2.1 ≠ (TJ7 b).2.1 := by decide +kernel
theorem tyJ7_ok : ∀ k, k < 0 → parseFieldDescriptor (TJ7 k).2.2.1 = some (tyJ7 k) := by decide +kernel
abbrev cJ7_fill_53178 : ByteArray := prog_20_method_103_code
def yJ7_fill_53178 : MethodName := ⟨RJ7, "fill", "([II)V"⟩
def RL : String := "GrantNetLaw"
abbrev cL_slot : ByteArray := method_3_code
def yL_slot : MethodName := ⟨RL, "slot", "(LGrantNet;I[J)I"⟩
abbrev cL_law : ByteArray := code
def yL_law : MethodName := ⟨RL, "law", "([I)Z"⟩
abbrev vwCl : List vw_C := [(RX1, TX1, 6), (RX2, TX2, 7), (RX3, TX3, 11), (RX4, TX4, 6), (RX6, TX6, 10), (RX7, TX7, 3), (RX8, TX8, 9), (RX9, TX9, 5), (RX10, TX10, 46)]
end
section
theorem dX0_with_0 : decode cX0_with 0 = .ok (.lload_n 0, 1) := by decide +kernel
theorem dX0_with_1 : decode cX0_with 1 = .ok (.lconst 1, 1) := by decide +kernel
theorem dX0_with_2 : decode cX0_with 2 = .ok (.iload_n 2, 1) := by decide +kernel
theorem dX0_with_3 : decode cX0_with 3 = .ok (.lshl, 1) := by decide +kernel
theorem dX0_with_4 : decode cX0_with 4 = .ok (.lor, 1) := by decide +kernel
theorem dX0_with_5 : decode cX0_with 5 = .ok (.lreturn, 1) := by decide +kernel
theorem dX0_without_0 : decode cX0_without 0 = .ok (.lload_n 0, 1) := by decide +kernel
theorem dX0_without_1 : decode cX0_without 1 = .ok (.lconst 1, 1) := by decide +kernel
theorem dX0_without_2 : decode cX0_without 2 = .ok (.iload_n 2, 1) := by decide +kernel
theorem dX0_without_3 : decode cX0_without 3 = .ok (.lshl, 1) := by decide +kernel
theorem dX0_without_4 : decode cX0_without 4 = .ok (.ldc2_w 7, 3) := by decide +kernel
theorem dX0_without_7 : decode cX0_without 7 = .ok (.lxor, 1) := by decide +kernel
theorem dX0_without_8 : decode cX0_without 8 = .ok (.land, 1) := by decide +kernel
theorem dX0_without_9 : decode cX0_without 9 = .ok (.lreturn, 1) := by decide +kernel
theorem dX0_has_0 : decode cX0_has 0 = .ok (.lload_n 0, 1) := by decide +kernel
theorem dX0_has_1 : decode cX0_has 1 = .ok (.lconst 1, 1) := by decide +kernel
theorem dX0_has_2 : decode cX0_has 2 = .ok (.iload_n 2, 1) := by decide +kernel
theorem dX0_has_3 : decode cX0_has 3 = .ok (.lshl, 1) := by decide +kernel
theorem dX0_has_4 : decode cX0_has 4 = .ok (.land, 1) := by decide +kernel
theorem dX0_has_5 : decode cX0_has 5 = .ok (.lconst 0, 1) := by decide +kernel
theorem dX0_has_6 : decode cX0_has 6 = .ok (.lcmp, 1) := by decide +kernel
theorem dX0_has_7 : decode cX0_has 7 = .ok (.ifCond .eq 7, 3) := by decide +kernel
theorem dX0_has_10 : decode cX0_has 10 = .ok (.iconst 1, 1) := by decide +kernel
theorem dX0_has_11 : decode cX0_has 11 = .ok (.goto 4, 3) := by decide +kernel
theorem dX0_has_14 : decode cX0_has 14 = .ok (.iconst 0, 1) := by decide +kernel
theorem dX0_has_15 : decode cX0_has 15 = .ok (.ireturn, 1) := by decide +kernel
theorem dX0_least_0 : decode cX0_least 0 = .ok (.lload_n 0, 1) := by decide +kernel
theorem dX0_least_1 : decode cX0_least 1 = .ok (.lload_n 0, 1) := by decide +kernel
theorem dX0_least_2 : decode cX0_least 2 = .ok (.lneg, 1) := by decide +kernel
theorem dX0_least_3 : decode cX0_least 3 = .ok (.land, 1) := by decide +kernel
theorem dX0_least_4 : decode cX0_least 4 = .ok (.lconst 1, 1) := by decide +kernel
theorem dX0_least_5 : decode cX0_least 5 = .ok (.lsub, 1) := by decide +kernel
theorem dX0_least_6 : decode cX0_least 6 = .ok (.invokestatic 9, 3) := by decide +kernel
theorem dX0_least_9 : decode cX0_least 9 = .ok (.ireturn, 1) := by decide +kernel
theorem dX1_init_0 : decode cX1_init 0 = .ok (.aload_n 0, 1) := by decide +kernel
theorem dX1_init_1 : decode cX1_init 1 = .ok (.invokespecial 1, 3) := by decide +kernel
theorem dX1_init_4 : decode cX1_init 4 = .ok (.aload_n 0, 1) := by decide +kernel
theorem dX1_init_5 : decode cX1_init 5 = .ok (.bipush 16, 2) := by decide +kernel
theorem dX1_init_7 : decode cX1_init 7 = .ok (.newarray .int, 2) := by decide +kernel
theorem dX1_init_9 : decode cX1_init 9 = .ok (.putfield 9, 3) := by decide +kernel
theorem dX1_init_12 : decode cX1_init 12 = .ok (.aload_n 0, 1) := by decide +kernel
theorem dX1_init_13 : decode cX1_init 13 = .ok (.bipush 16, 2) := by decide +kernel
theorem dX1_init_15 : decode cX1_init 15 = .ok (.newarray .int, 2) := by decide +kernel
theorem dX1_init_17 : decode cX1_init 17 = .ok (.putfield 13, 3) := by decide +kernel
theorem dX1_init_20 : decode cX1_init 20 = .ok (.aload_n 0, 1) := by decide +kernel
theorem dX1_init_21 : decode cX1_init 21 = .ok (.iconst 0, 1) := by decide +kernel
theorem dX1_init_22 : decode cX1_init 22 = .ok (.putfield 16, 3) := by decide +kernel
theorem dX1_init_25 : decode cX1_init 25 = .ok (.aload_n 0, 1) := by decide +kernel
theorem dX1_init_26 : decode cX1_init 26 = .ok (.iconst 0, 1) := by decide +kernel
theorem dX1_init_27 : decode cX1_init 27 = .ok (.putfield 20, 3) := by decide +kernel
theorem dX1_init_30 : decode cX1_init 30 = .ok (.aload_n 0, 1) := by decide +kernel
theorem dX1_init_31 : decode cX1_init 31 = .ok (.iconst 0, 1) := by decide +kernel
theorem dX1_init_32 : decode cX1_init 32 = .ok (.putfield 23, 3) := by decide +kernel
theorem dX1_init_35 : decode cX1_init 35 = .ok (.aload_n 0, 1) := by decide +kernel
theorem dX1_init_36 : decode cX1_init 36 = .ok (.iconst 0, 1) := by decide +kernel
theorem dX1_init_37 : decode cX1_init 37 = .ok (.putfield 26, 3) := by decide +kernel
theorem dX1_init_40 : decode cX1_init 40 = .ok (.return_, 1) := by decide +kernel
theorem dX1_add_0 : decode cX1_add 0 = .ok (.aload_n 0, 1) := by decide +kernel
theorem dX1_add_1 : decode cX1_add 1 = .ok (.getfield 9, 3) := by decide +kernel
theorem dX1_add_4 : decode cX1_add 4 = .ok (.aload_n 0, 1) := by decide +kernel
theorem dX1_add_5 : decode cX1_add 5 = .ok (.getfield 16, 3) := by decide +kernel
theorem dX1_add_8 : decode cX1_add 8 = .ok (.iload_n 1, 1) := by decide +kernel
theorem dX1_add_9 : decode cX1_add 9 = .ok (.iastore, 1) := by decide +kernel
theorem dX1_add_10 : decode cX1_add 10 = .ok (.aload_n 0, 1) := by decide +kernel
theorem dX1_add_11 : decode cX1_add 11 = .ok (.aload_n 0, 1) := by decide +kernel
theorem dX1_add_12 : decode cX1_add 12 = .ok (.getfield 16, 3) := by decide +kernel
theorem dX1_add_15 : decode cX1_add 15 = .ok (.iconst 1, 1) := by decide +kernel
theorem dX1_add_16 : decode cX1_add 16 = .ok (.iadd, 1) := by decide +kernel
theorem dX1_add_17 : decode cX1_add 17 = .ok (.bipush 16, 2) := by decide +kernel
theorem dX1_add_19 : decode cX1_add 19 = .ok (.if_icmp .ge 12, 3) := by decide +kernel
theorem dX1_add_22 : decode cX1_add 22 = .ok (.aload_n 0, 1) := by decide +kernel
theorem dX1_add_23 : decode cX1_add 23 = .ok (.getfield 16, 3) := by decide +kernel
theorem dX1_add_26 : decode cX1_add 26 = .ok (.iconst 1, 1) := by decide +kernel
theorem dX1_add_27 : decode cX1_add 27 = .ok (.iadd, 1) := by decide +kernel
theorem dX1_add_28 : decode cX1_add 28 = .ok (.goto 4, 3) := by decide +kernel
theorem dX1_add_31 : decode cX1_add 31 = .ok (.iconst 0, 1) := by decide +kernel
theorem dX1_add_32 : decode cX1_add 32 = .ok (.putfield 16, 3) := by decide +kernel
theorem dX1_add_35 : decode cX1_add 35 = .ok (.aload_n 0, 1) := by decide +kernel
theorem dX1_add_36 : decode cX1_add 36 = .ok (.aload_n 0, 1) := by decide +kernel
theorem dX1_add_37 : decode cX1_add 37 = .ok (.getfield 20, 3) := by decide +kernel
theorem dX1_add_40 : decode cX1_add 40 = .ok (.iconst 1, 1) := by decide +kernel
theorem dX1_add_41 : decode cX1_add 41 = .ok (.iadd, 1) := by decide +kernel
theorem dX1_add_42 : decode cX1_add 42 = .ok (.bipush 16, 2) := by decide +kernel
theorem dX1_add_44 : decode cX1_add 44 = .ok (.invokestatic 29, 3) := by decide +kernel
theorem dX1_add_47 : decode cX1_add 47 = .ok (.putfield 20, 3) := by decide +kernel
theorem dX1_add_50 : decode cX1_add 50 = .ok (.aload_n 0, 1) := by decide +kernel
theorem dX1_add_51 : decode cX1_add 51 = .ok (.invokevirtual 35, 3) := by decide +kernel
theorem dX1_add_54 : decode cX1_add 54 = .ok (.aload_n 0, 1) := by decide +kernel
theorem dX1_add_55 : decode cX1_add 55 = .ok (.aload_n 0, 1) := by decide +kernel
theorem dX1_add_56 : decode cX1_add 56 = .ok (.getfield 13, 3) := by decide +kernel
theorem dX1_add_59 : decode cX1_add 59 = .ok (.aload_n 0, 1) := by decide +kernel
theorem dX1_add_60 : decode cX1_add 60 = .ok (.getfield 20, 3) := by decide +kernel
theorem dX1_add_63 : decode cX1_add 63 = .ok (.iconst 3, 1) := by decide +kernel
theorem dX1_add_64 : decode cX1_add 64 = .ok (.idiv, 1) := by decide +kernel
theorem dX1_add_65 : decode cX1_add 65 = .ok (.iaload, 1) := by decide +kernel
theorem dX1_add_66 : decode cX1_add 66 = .ok (.putfield 23, 3) := by decide +kernel
theorem dX1_add_69 : decode cX1_add 69 = .ok (.aload_n 0, 1) := by decide +kernel
theorem dX1_add_70 : decode cX1_add 70 = .ok (.aload_n 0, 1) := by decide +kernel
theorem dX1_add_71 : decode cX1_add 71 = .ok (.getfield 13, 3) := by decide +kernel
theorem dX1_add_74 : decode cX1_add 74 = .ok (.iconst 2, 1) := by decide +kernel
theorem dX1_add_75 : decode cX1_add 75 = .ok (.aload_n 0, 1) := by decide +kernel
theorem dX1_add_76 : decode cX1_add 76 = .ok (.getfield 20, 3) := by decide +kernel
theorem dX1_add_79 : decode cX1_add 79 = .ok (.imul, 1) := by decide +kernel
theorem dX1_add_80 : decode cX1_add 80 = .ok (.iconst 3, 1) := by decide +kernel
theorem dX1_add_81 : decode cX1_add 81 = .ok (.idiv, 1) := by decide +kernel
theorem dX1_add_82 : decode cX1_add 82 = .ok (.iaload, 1) := by decide +kernel
theorem dX1_add_83 : decode cX1_add 83 = .ok (.putfield 26, 3) := by decide +kernel
theorem dX1_add_86 : decode cX1_add 86 = .ok (.return_, 1) := by decide +kernel
theorem dX1_sort_0 : decode cX1_sort 0 = .ok (.iconst 0, 1) := by decide +kernel
theorem dX1_sort_1 : decode cX1_sort 1 = .ok (.istore_n 1, 1) := by decide +kernel
theorem dX1_sort_2 : decode cX1_sort 2 = .ok (.iload_n 1, 1) := by decide +kernel
theorem dX1_sort_3 : decode cX1_sort 3 = .ok (.aload_n 0, 1) := by decide +kernel
theorem dX1_sort_4 : decode cX1_sort 4 = .ok (.getfield 20, 3) := by decide +kernel
theorem dX1_sort_7 : decode cX1_sort 7 = .ok (.if_icmp .ge 64, 3) := by decide +kernel
theorem dX1_sort_10 : decode cX1_sort 10 = .ok (.iload_n 1, 1) := by decide +kernel
theorem dX1_sort_11 : decode cX1_sort 11 = .ok (.istore_n 2, 1) := by decide +kernel
theorem dX1_sort_12 : decode cX1_sort 12 = .ok (.iload_n 2, 1) := by decide +kernel
theorem dX1_sort_13 : decode cX1_sort 13 = .ok (.ifCond .le 40, 3) := by decide +kernel
theorem dX1_sort_16 : decode cX1_sort 16 = .ok (.aload_n 0, 1) := by decide +kernel
theorem dX1_sort_17 : decode cX1_sort 17 = .ok (.getfield 13, 3) := by decide +kernel
theorem dX1_sort_20 : decode cX1_sort 20 = .ok (.iload_n 2, 1) := by decide +kernel
theorem dX1_sort_21 : decode cX1_sort 21 = .ok (.iconst 1, 1) := by decide +kernel
theorem dX1_sort_22 : decode cX1_sort 22 = .ok (.isub, 1) := by decide +kernel
theorem dX1_sort_23 : decode cX1_sort 23 = .ok (.iaload, 1) := by decide +kernel
theorem dX1_sort_24 : decode cX1_sort 24 = .ok (.aload_n 0, 1) := by decide +kernel
theorem dX1_sort_25 : decode cX1_sort 25 = .ok (.getfield 9, 3) := by decide +kernel
theorem dX1_sort_28 : decode cX1_sort 28 = .ok (.iload_n 1, 1) := by decide +kernel
theorem dX1_sort_29 : decode cX1_sort 29 = .ok (.iaload, 1) := by decide +kernel
theorem dX1_sort_30 : decode cX1_sort 30 = .ok (.if_icmp .le 23, 3) := by decide +kernel
theorem dX1_sort_33 : decode cX1_sort 33 = .ok (.aload_n 0, 1) := by decide +kernel
theorem dX1_sort_34 : decode cX1_sort 34 = .ok (.getfield 13, 3) := by decide +kernel
theorem dX1_sort_37 : decode cX1_sort 37 = .ok (.iload_n 2, 1) := by decide +kernel
theorem dX1_sort_38 : decode cX1_sort 38 = .ok (.aload_n 0, 1) := by decide +kernel
theorem dX1_sort_39 : decode cX1_sort 39 = .ok (.getfield 13, 3) := by decide +kernel
theorem dX1_sort_42 : decode cX1_sort 42 = .ok (.iload_n 2, 1) := by decide +kernel
theorem dX1_sort_43 : decode cX1_sort 43 = .ok (.iconst 1, 1) := by decide +kernel
theorem dX1_sort_44 : decode cX1_sort 44 = .ok (.isub, 1) := by decide +kernel
theorem dX1_sort_45 : decode cX1_sort 45 = .ok (.iaload, 1) := by decide +kernel
theorem dX1_sort_46 : decode cX1_sort 46 = .ok (.iastore, 1) := by decide +kernel
theorem dX1_sort_47 : decode cX1_sort 47 = .ok (.iinc 2 (-1), 3) := by decide +kernel
theorem dX1_sort_50 : decode cX1_sort 50 = .ok (.goto (-38), 3) := by decide +kernel
theorem dX1_sort_53 : decode cX1_sort 53 = .ok (.aload_n 0, 1) := by decide +kernel
theorem dX1_sort_54 : decode cX1_sort 54 = .ok (.getfield 13, 3) := by decide +kernel
theorem dX1_sort_57 : decode cX1_sort 57 = .ok (.iload_n 2, 1) := by decide +kernel
theorem dX1_sort_58 : decode cX1_sort 58 = .ok (.aload_n 0, 1) := by decide +kernel
theorem dX1_sort_59 : decode cX1_sort 59 = .ok (.getfield 9, 3) := by decide +kernel
theorem dX1_sort_62 : decode cX1_sort 62 = .ok (.iload_n 1, 1) := by decide +kernel
theorem dX1_sort_63 : decode cX1_sort 63 = .ok (.iaload, 1) := by decide +kernel
theorem dX1_sort_64 : decode cX1_sort 64 = .ok (.iastore, 1) := by decide +kernel
theorem dX1_sort_65 : decode cX1_sort 65 = .ok (.iinc 1 1, 3) := by decide +kernel
theorem dX1_sort_68 : decode cX1_sort 68 = .ok (.goto (-66), 3) := by decide +kernel
theorem dX1_sort_71 : decode cX1_sort 71 = .ok (.return_, 1) := by decide +kernel
theorem dX1_first_0 : decode cX1_first 0 = .ok (.aload_n 0, 1) := by decide +kernel
theorem dX1_first_1 : decode cX1_first 1 = .ok (.getfield 23, 3) := by decide +kernel
theorem dX1_first_4 : decode cX1_first 4 = .ok (.ireturn, 1) := by decide +kernel
theorem dX1_second_0 : decode cX1_second 0 = .ok (.aload_n 0, 1) := by decide +kernel
theorem dX1_second_1 : decode cX1_second 1 = .ok (.getfield 26, 3) := by decide +kernel
theorem dX1_second_4 : decode cX1_second 4 = .ok (.ireturn, 1) := by decide +kernel
theorem dX1_priorityFor_0 : decode cX1_priorityFor 0 = .ok (.iload_n 1, 1) := by decide +kernel
theorem dX1_priorityFor_1 : decode cX1_priorityFor 1 = .ok (.aload_n 0, 1) := by decide +kernel
theorem dX1_priorityFor_2 : decode cX1_priorityFor 2 = .ok (.getfield 23, 3) := by decide +kernel
theorem dX1_priorityFor_5 : decode cX1_priorityFor 5 = .ok (.if_icmp .gt 5, 3) := by decide +kernel
theorem dX1_priorityFor_8 : decode cX1_priorityFor 8 = .ok (.iconst 1, 1) := by decide +kernel
theorem dX1_priorityFor_9 : decode cX1_priorityFor 9 = .ok (.ireturn, 1) := by decide +kernel
theorem dX1_priorityFor_10 : decode cX1_priorityFor 10 = .ok (.iload_n 1, 1) := by decide +kernel
theorem dX1_priorityFor_11 : decode cX1_priorityFor 11 = .ok (.aload_n 0, 1) := by decide +kernel
theorem dX1_priorityFor_12 : decode cX1_priorityFor 12 = .ok (.getfield 26, 3) := by decide +kernel
theorem dX1_priorityFor_15 : decode cX1_priorityFor 15 = .ok (.if_icmp .gt 7, 3) := by decide +kernel
theorem dX1_priorityFor_18 : decode cX1_priorityFor 18 = .ok (.iconst 2, 1) := by decide +kernel
theorem dX1_priorityFor_19 : decode cX1_priorityFor 19 = .ok (.goto 4, 3) := by decide +kernel
theorem dX1_priorityFor_22 : decode cX1_priorityFor 22 = .ok (.iconst 3, 1) := by decide +kernel
theorem dX1_priorityFor_23 : decode cX1_priorityFor 23 = .ok (.ireturn, 1) := by decide +kernel
theorem dX2_init_0 : decode cX2_init 0 = .ok (.aload_n 0, 1) := by decide +kernel
theorem dX2_init_1 : decode cX2_init 1 = .ok (.invokespecial 3, 3) := by decide +kernel
theorem dX2_init_4 : decode cX2_init 4 = .ok (.aload_n 0, 1) := by decide +kernel
theorem dX2_init_5 : decode cX2_init 5 = .ok (.bipush 24, 2) := by decide +kernel
theorem dX2_init_7 : decode cX2_init 7 = .ok (.newarray .int, 2) := by decide +kernel
theorem dX2_init_9 : decode cX2_init 9 = .ok (.putfield 11, 3) := by decide +kernel
theorem dX2_init_12 : decode cX2_init 12 = .ok (.aload_n 0, 1) := by decide +kernel
theorem dX2_init_13 : decode cX2_init 13 = .ok (.bipush 24, 2) := by decide +kernel
theorem dX2_init_15 : decode cX2_init 15 = .ok (.newarray .int, 2) := by decide +kernel
theorem dX2_init_17 : decode cX2_init 17 = .ok (.putfield 15, 3) := by decide +kernel
theorem dX2_init_20 : decode cX2_init 20 = .ok (.aload_n 0, 1) := by decide +kernel
theorem dX2_init_21 : decode cX2_init 21 = .ok (.bipush 64, 2) := by decide +kernel
theorem dX2_init_23 : decode cX2_init 23 = .ok (.anewarray 18, 3) := by decide +kernel
theorem dX2_init_26 : decode cX2_init 26 = .ok (.putfield 20, 3) := by decide +kernel
theorem dX2_init_29 : decode cX2_init 29 = .ok (.aload_n 0, 1) := by decide +kernel
theorem dX2_init_30 : decode cX2_init 30 = .ok (.iconst 2, 1) := by decide +kernel
theorem dX2_init_31 : decode cX2_init 31 = .ok (.newarray .boolean, 2) := by decide +kernel
theorem dX2_init_33 : decode cX2_init 33 = .ok (.putfield 24, 3) := by decide +kernel
theorem dX2_init_36 : decode cX2_init 36 = .ok (.aload_n 0, 1) := by decide +kernel
theorem dX2_init_37 : decode cX2_init 37 = .ok (.iconst 2, 1) := by decide +kernel
theorem dX2_init_38 : decode cX2_init 38 = .ok (.newarray .int, 2) := by decide +kernel
theorem dX2_init_40 : decode cX2_init 40 = .ok (.putfield 28, 3) := by decide +kernel
theorem dX2_init_43 : decode cX2_init 43 = .ok (.aload_n 0, 1) := by decide +kernel
theorem dX2_init_44 : decode cX2_init 44 = .ok (.iconst 0, 1) := by decide +kernel
theorem dX2_init_45 : decode cX2_init 45 = .ok (.putfield 31, 3) := by decide +kernel
theorem dX2_init_48 : decode cX2_init 48 = .ok (.aload_n 0, 1) := by decide +kernel
theorem dX2_init_49 : decode cX2_init 49 = .ok (.iconst 0, 1) := by decide +kernel
theorem dX2_init_50 : decode cX2_init 50 = .ok (.putfield 35, 3) := by decide +kernel
theorem dX2_init_53 : decode cX2_init 53 = .ok (.aload_n 0, 1) := by decide +kernel
theorem dX2_init_54 : decode cX2_init 54 = .ok (.getfield 11, 3) := by decide +kernel
theorem dX2_init_57 : decode cX2_init 57 = .ok (.iconst (-1), 1) := by decide +kernel
theorem dX2_init_58 : decode cX2_init 58 = .ok (.invokestatic 40, 3) := by decide +kernel
theorem dX2_init_61 : decode cX2_init 61 = .ok (.iconst 0, 1) := by decide +kernel
theorem dX2_init_62 : decode cX2_init 62 = .ok (.istore_n 1, 1) := by decide +kernel
theorem dX2_init_63 : decode cX2_init 63 = .ok (.iload_n 1, 1) := by decide +kernel
theorem dX2_init_64 : decode cX2_init 64 = .ok (.aload_n 0, 1) := by decide +kernel
theorem dX2_init_65 : decode cX2_init 65 = .ok (.getfield 20, 3) := by decide +kernel
theorem dX2_init_68 : decode cX2_init 68 = .ok (.arraylength, 1) := by decide +kernel
theorem dX2_init_69 : decode cX2_init 69 = .ok (.if_icmp .ge 24, 3) := by decide +kernel
theorem dX2_init_72 : decode cX2_init 72 = .ok (.aload_n 0, 1) := by decide +kernel
theorem dX2_init_73 : decode cX2_init 73 = .ok (.getfield 20, 3) := by decide +kernel
theorem dX2_init_76 : decode cX2_init 76 = .ok (.iload_n 1, 1) := by decide +kernel
theorem dX2_init_77 : decode cX2_init 77 = .ok (.new 18, 3) := by decide +kernel
theorem dX2_init_80 : decode cX2_init 80 = .ok (.dup, 1) := by decide +kernel
theorem dX2_init_81 : decode cX2_init 81 = .ok (.bipush 8, 2) := by decide +kernel
theorem dX2_init_83 : decode cX2_init 83 = .ok (.invokespecial 46, 3) := by decide +kernel
theorem dX2_init_86 : decode cX2_init 86 = .ok (.aastore, 1) := by decide +kernel
theorem dX2_init_87 : decode cX2_init 87 = .ok (.iinc 1 1, 3) := by decide +kernel
theorem dX2_init_90 : decode cX2_init 90 = .ok (.goto (-27), 3) := by decide +kernel
theorem dX2_init_93 : decode cX2_init 93 = .ok (.iconst 0, 1) := by decide +kernel
theorem dX2_init_94 : decode cX2_init 94 = .ok (.istore_n 1, 1) := by decide +kernel
theorem dX2_init_95 : decode cX2_init 95 = .ok (.iload_n 1, 1) := by decide +kernel
theorem dX2_init_96 : decode cX2_init 96 = .ok (.iconst 2, 1) := by decide +kernel
theorem dX2_init_97 : decode cX2_init 97 = .ok (.if_icmp .ge 16, 3) := by decide +kernel
theorem dX2_init_100 : decode cX2_init 100 = .ok (.aload_n 0, 1) := by decide +kernel
theorem dX2_init_101 : decode cX2_init 101 = .ok (.getfield 24, 3) := by decide +kernel
theorem dX2_init_104 : decode cX2_init 104 = .ok (.iload_n 1, 1) := by decide +kernel
theorem dX2_init_105 : decode cX2_init 105 = .ok (.iconst 1, 1) := by decide +kernel
theorem dX2_init_106 : decode cX2_init 106 = .ok (.bastore, 1) := by decide +kernel
theorem dX2_init_107 : decode cX2_init 107 = .ok (.iinc 1 1, 3) := by decide +kernel
theorem dX2_init_110 : decode cX2_init 110 = .ok (.goto (-15), 3) := by decide +kernel
theorem dX2_init_113 : decode cX2_init 113 = .ok (.aload_n 0, 1) := by decide +kernel
theorem dX2_init_114 : decode cX2_init 114 = .ok (.getfield 28, 3) := by decide +kernel
theorem dX2_init_117 : decode cX2_init 117 = .ok (.iconst 1, 1) := by decide +kernel
theorem dX2_init_118 : decode cX2_init 118 = .ok (.invokestatic 40, 3) := by decide +kernel
theorem dX2_init_121 : decode cX2_init 121 = .ok (.return_, 1) := by decide +kernel
theorem dX2_isLink_0 : decode cX2_isLink 0 = .ok (.iload_n 0, 1) := by decide +kernel
theorem dX2_isLink_1 : decode cX2_isLink 1 = .ok (.ifCond .lt 13, 3) := by decide +kernel
theorem dX2_isLink_4 : decode cX2_isLink 4 = .ok (.iload_n 0, 1) := by decide +kernel
theorem dX2_isLink_5 : decode cX2_isLink 5 = .ok (.bipush 24, 2) := by decide +kernel
theorem dX2_isLink_7 : decode cX2_isLink 7 = .ok (.if_icmp .ge 7, 3) := by decide +kernel
theorem dX2_isLink_10 : decode cX2_isLink 10 = .ok (.iconst 1, 1) := by decide +kernel
theorem dX2_isLink_11 : decode cX2_isLink 11 = .ok (.goto 4, 3) := by decide +kernel
theorem dX2_isLink_14 : decode cX2_isLink 14 = .ok (.iconst 0, 1) := by decide +kernel
theorem dX2_isLink_15 : decode cX2_isLink 15 = .ok (.ireturn, 1) := by decide +kernel
theorem dX2_endsAtHost_0 : decode cX2_endsAtHost 0 = .ok (.iload_n 0, 1) := by decide +kernel
theorem dX2_endsAtHost_1 : decode cX2_endsAtHost 1 = .ok (.invokestatic 49, 3) := by decide +kernel
theorem dX2_endsAtHost_4 : decode cX2_endsAtHost 4 = .ok (.ifCond .eq 15, 3) := by decide +kernel
theorem dX2_endsAtHost_7 : decode cX2_endsAtHost 7 = .ok (.iload_n 0, 1) := by decide +kernel
theorem dX2_endsAtHost_8 : decode cX2_endsAtHost 8 = .ok (.invokestatic 53, 3) := by decide +kernel
theorem dX2_endsAtHost_11 : decode cX2_endsAtHost 11 = .ok (.iconst 4, 1) := by decide +kernel
theorem dX2_endsAtHost_12 : decode cX2_endsAtHost 12 = .ok (.if_icmp .ge 7, 3) := by decide +kernel
theorem dX2_endsAtHost_15 : decode cX2_endsAtHost 15 = .ok (.iconst 1, 1) := by decide +kernel
theorem dX2_endsAtHost_16 : decode cX2_endsAtHost 16 = .ok (.goto 4, 3) := by decide +kernel
theorem dX2_endsAtHost_19 : decode cX2_endsAtHost 19 = .ok (.iconst 0, 1) := by decide +kernel
theorem dX2_endsAtHost_20 : decode cX2_endsAtHost 20 = .ok (.ireturn, 1) := by decide +kernel
theorem dX2_endsAtSpine_0 : decode cX2_endsAtSpine 0 = .ok (.iload_n 0, 1) := by decide +kernel
theorem dX2_endsAtSpine_1 : decode cX2_endsAtSpine 1 = .ok (.invokestatic 49, 3) := by decide +kernel
theorem dX2_endsAtSpine_4 : decode cX2_endsAtSpine 4 = .ok (.ifCond .eq 15, 3) := by decide +kernel
theorem dX2_endsAtSpine_7 : decode cX2_endsAtSpine 7 = .ok (.iload_n 0, 1) := by decide +kernel
theorem dX2_endsAtSpine_8 : decode cX2_endsAtSpine 8 = .ok (.invokestatic 53, 3) := by decide +kernel
theorem dX2_endsAtSpine_11 : decode cX2_endsAtSpine 11 = .ok (.iconst 4, 1) := by decide +kernel
theorem dX2_endsAtSpine_12 : decode cX2_endsAtSpine 12 = .ok (.if_icmp .lt 7, 3) := by decide +kernel
theorem dX2_endsAtSpine_15 : decode cX2_endsAtSpine 15 = .ok (.iconst 1, 1) := by decide +kernel
theorem dX2_endsAtSpine_16 : decode cX2_endsAtSpine 16 = .ok (.goto 4, 3) := by decide +kernel
theorem dX2_endsAtSpine_19 : decode cX2_endsAtSpine 19 = .ok (.iconst 0, 1) := by decide +kernel
theorem dX2_endsAtSpine_20 : decode cX2_endsAtSpine 20 = .ok (.ireturn, 1) := by decide +kernel
theorem dX2_isFromLeaf_0 : decode cX2_isFromLeaf 0 = .ok (.iload_n 0, 1) := by decide +kernel
theorem dX2_isFromLeaf_1 : decode cX2_isFromLeaf 1 = .ok (.bipush 8, 2) := by decide +kernel
theorem dX2_isFromLeaf_3 : decode cX2_isFromLeaf 3 = .ok (.if_icmp .lt 13, 3) := by decide +kernel
theorem dX2_isFromLeaf_6 : decode cX2_isFromLeaf 6 = .ok (.iload_n 0, 1) := by decide +kernel
theorem dX2_isFromLeaf_7 : decode cX2_isFromLeaf 7 = .ok (.bipush 20, 2) := by decide +kernel
theorem dX2_isFromLeaf_9 : decode cX2_isFromLeaf 9 = .ok (.if_icmp .ge 7, 3) := by decide +kernel
theorem dX2_isFromLeaf_12 : decode cX2_isFromLeaf 12 = .ok (.iconst 1, 1) := by decide +kernel
theorem dX2_isFromLeaf_13 : decode cX2_isFromLeaf 13 = .ok (.goto 4, 3) := by decide +kernel
theorem dX2_isFromLeaf_16 : decode cX2_isFromLeaf 16 = .ok (.iconst 0, 1) := by decide +kernel
theorem dX2_isFromLeaf_17 : decode cX2_isFromLeaf 17 = .ok (.ireturn, 1) := by decide +kernel
theorem dX2_portOfLeaf_0 : decode cX2_portOfLeaf 0 = .ok (.iload_n 0, 1) := by decide +kernel
theorem dX2_portOfLeaf_1 : decode cX2_portOfLeaf 1 = .ok (.bipush 8, 2) := by decide +kernel
theorem dX2_portOfLeaf_3 : decode cX2_portOfLeaf 3 = .ok (.isub, 1) := by decide +kernel
theorem dX2_portOfLeaf_4 : decode cX2_portOfLeaf 4 = .ok (.bipush 6, 2) := by decide +kernel
theorem dX2_portOfLeaf_6 : decode cX2_portOfLeaf 6 = .ok (.irem, 1) := by decide +kernel
theorem dX2_portOfLeaf_7 : decode cX2_portOfLeaf 7 = .ok (.ireturn, 1) := by decide +kernel
theorem dX2_linkFromLeaf_0 : decode cX2_linkFromLeaf 0 = .ok (.bipush 8, 2) := by decide +kernel
theorem dX2_linkFromLeaf_2 : decode cX2_linkFromLeaf 2 = .ok (.bipush 6, 2) := by decide +kernel
theorem dX2_linkFromLeaf_4 : decode cX2_linkFromLeaf 4 = .ok (.iload_n 0, 1) := by decide +kernel
theorem dX2_linkFromLeaf_5 : decode cX2_linkFromLeaf 5 = .ok (.imul, 1) := by decide +kernel
theorem dX2_linkFromLeaf_6 : decode cX2_linkFromLeaf 6 = .ok (.iadd, 1) := by decide +kernel
theorem dX2_linkFromLeaf_7 : decode cX2_linkFromLeaf 7 = .ok (.iload_n 1, 1) := by decide +kernel
theorem dX2_linkFromLeaf_8 : decode cX2_linkFromLeaf 8 = .ok (.iadd, 1) := by decide +kernel
theorem dX2_linkFromLeaf_9 : decode cX2_linkFromLeaf 9 = .ok (.ireturn, 1) := by decide +kernel
theorem dX2_linkFromSpine_0 : decode cX2_linkFromSpine 0 = .ok (.bipush 20, 2) := by decide +kernel
theorem dX2_linkFromSpine_2 : decode cX2_linkFromSpine 2 = .ok (.iconst 2, 1) := by decide +kernel
theorem dX2_linkFromSpine_3 : decode cX2_linkFromSpine 3 = .ok (.iload_n 0, 1) := by decide +kernel
theorem dX2_linkFromSpine_4 : decode cX2_linkFromSpine 4 = .ok (.imul, 1) := by decide +kernel
theorem dX2_linkFromSpine_5 : decode cX2_linkFromSpine 5 = .ok (.iadd, 1) := by decide +kernel
theorem dX2_linkFromSpine_6 : decode cX2_linkFromSpine 6 = .ok (.iload_n 1, 1) := by decide +kernel
theorem dX2_linkFromSpine_7 : decode cX2_linkFromSpine 7 = .ok (.iadd, 1) := by decide +kernel
theorem dX2_linkFromSpine_8 : decode cX2_linkFromSpine 8 = .ok (.ireturn, 1) := by decide +kernel
theorem dX2_leafOfHost_0 : decode cX2_leafOfHost 0 = .ok (.iload_n 0, 1) := by decide +kernel
theorem dX2_leafOfHost_1 : decode cX2_leafOfHost 1 = .ok (.iconst 4, 1) := by decide +kernel
theorem dX2_leafOfHost_2 : decode cX2_leafOfHost 2 = .ok (.idiv, 1) := by decide +kernel
theorem dX2_leafOfHost_3 : decode cX2_leafOfHost 3 = .ok (.ireturn, 1) := by decide +kernel
theorem dX2_leafAtEnd_0 : decode cX2_leafAtEnd 0 = .ok (.iload_n 0, 1) := by decide +kernel
theorem dX2_leafAtEnd_1 : decode cX2_leafAtEnd 1 = .ok (.bipush 8, 2) := by decide +kernel
theorem dX2_leafAtEnd_3 : decode cX2_leafAtEnd 3 = .ok (.if_icmp .ge 10, 3) := by decide +kernel
theorem dX2_leafAtEnd_6 : decode cX2_leafAtEnd 6 = .ok (.iload_n 0, 1) := by decide +kernel
theorem dX2_leafAtEnd_7 : decode cX2_leafAtEnd 7 = .ok (.invokestatic 57, 3) := by decide +kernel
theorem dX2_leafAtEnd_10 : decode cX2_leafAtEnd 10 = .ok (.goto 9, 3) := by decide +kernel
theorem dX2_leafAtEnd_13 : decode cX2_leafAtEnd 13 = .ok (.iload_n 0, 1) := by decide +kernel
theorem dX2_leafAtEnd_14 : decode cX2_leafAtEnd 14 = .ok (.bipush 20, 2) := by decide +kernel
theorem dX2_leafAtEnd_16 : decode cX2_leafAtEnd 16 = .ok (.isub, 1) := by decide +kernel
theorem dX2_leafAtEnd_17 : decode cX2_leafAtEnd 17 = .ok (.iconst 2, 1) := by decide +kernel
theorem dX2_leafAtEnd_18 : decode cX2_leafAtEnd 18 = .ok (.irem, 1) := by decide +kernel
theorem dX2_leafAtEnd_19 : decode cX2_leafAtEnd 19 = .ok (.ireturn, 1) := by decide +kernel
theorem dX2_setToLose_0 : decode cX2_setToLose 0 = .ok (.aload_n 0, 1) := by decide +kernel
theorem dX2_setToLose_1 : decode cX2_setToLose 1 = .ok (.getfield 15, 3) := by decide +kernel
theorem dX2_setToLose_4 : decode cX2_setToLose 4 = .ok (.iload_n 1, 1) := by decide +kernel
theorem dX2_setToLose_5 : decode cX2_setToLose 5 = .ok (.iload_n 2, 1) := by decide +kernel
theorem dX2_setToLose_6 : decode cX2_setToLose 6 = .ok (.iastore, 1) := by decide +kernel
theorem dX2_setToLose_7 : decode cX2_setToLose 7 = .ok (.return_, 1) := by decide +kernel
theorem dX2_setSpine_0 : decode cX2_setSpine 0 = .ok (.aload_n 0, 1) := by decide +kernel
theorem dX2_setSpine_1 : decode cX2_setSpine 1 = .ok (.getfield 24, 3) := by decide +kernel
theorem dX2_setSpine_4 : decode cX2_setSpine 4 = .ok (.iload_n 1, 1) := by decide +kernel
theorem dX2_setSpine_5 : decode cX2_setSpine 5 = .ok (.iload_n 2, 1) := by decide +kernel
theorem dX2_setSpine_6 : decode cX2_setSpine 6 = .ok (.bastore, 1) := by decide +kernel
theorem dX2_setSpine_7 : decode cX2_setSpine 7 = .ok (.return_, 1) := by decide +kernel
theorem dX2_look_0 : decode cX2_look 0 = .ok (.iload_n 1, 1) := by decide +kernel
theorem dX2_look_1 : decode cX2_look 1 = .ok (.invokestatic 60, 3) := by decide +kernel
theorem dX2_look_4 : decode cX2_look 4 = .ok (.ifCond .eq 12, 3) := by decide +kernel
theorem dX2_look_7 : decode cX2_look 7 = .ok (.aload_n 0, 1) := by decide +kernel
theorem dX2_look_8 : decode cX2_look 8 = .ok (.getfield 11, 3) := by decide +kernel
theorem dX2_look_11 : decode cX2_look 11 = .ok (.iload_n 1, 1) := by decide +kernel
theorem dX2_look_12 : decode cX2_look 12 = .ok (.iaload, 1) := by decide +kernel
theorem dX2_look_13 : decode cX2_look 13 = .ok (.goto 4, 3) := by decide +kernel
theorem dX2_look_16 : decode cX2_look 16 = .ok (.iconst (-1), 1) := by decide +kernel
theorem dX2_look_17 : decode cX2_look 17 = .ok (.ireturn, 1) := by decide +kernel
theorem dX2_takeOff_0 : decode cX2_takeOff 0 = .ok (.aload_n 0, 1) := by decide +kernel
theorem dX2_takeOff_1 : decode cX2_takeOff 1 = .ok (.getfield 11, 3) := by decide +kernel
theorem dX2_takeOff_4 : decode cX2_takeOff 4 = .ok (.iload_n 1, 1) := by decide +kernel
theorem dX2_takeOff_5 : decode cX2_takeOff 5 = .ok (.iaload, 1) := by decide +kernel
theorem dX2_takeOff_6 : decode cX2_takeOff 6 = .ok (.istore_n 2, 1) := by decide +kernel
theorem dX2_takeOff_7 : decode cX2_takeOff 7 = .ok (.aload_n 0, 1) := by decide +kernel
theorem dX2_takeOff_8 : decode cX2_takeOff 8 = .ok (.getfield 11, 3) := by decide +kernel
theorem dX2_takeOff_11 : decode cX2_takeOff 11 = .ok (.iload_n 1, 1) := by decide +kernel
theorem dX2_takeOff_12 : decode cX2_takeOff 12 = .ok (.iconst (-1), 1) := by decide +kernel
theorem dX2_takeOff_13 : decode cX2_takeOff 13 = .ok (.iastore, 1) := by decide +kernel
theorem dX2_takeOff_14 : decode cX2_takeOff 14 = .ok (.iload_n 2, 1) := by decide +kernel
theorem dX2_takeOff_15 : decode cX2_takeOff 15 = .ok (.ireturn, 1) := by decide +kernel
theorem dX2_putOn_0 : decode cX2_putOn 0 = .ok (.aload_n 0, 1) := by decide +kernel
theorem dX2_putOn_1 : decode cX2_putOn 1 = .ok (.getfield 15, 3) := by decide +kernel
theorem dX2_putOn_4 : decode cX2_putOn 4 = .ok (.iload_n 1, 1) := by decide +kernel
theorem dX2_putOn_5 : decode cX2_putOn 5 = .ok (.iaload, 1) := by decide +kernel
theorem dX2_putOn_6 : decode cX2_putOn 6 = .ok (.ifCond .le 26, 3) := by decide +kernel
theorem dX2_putOn_9 : decode cX2_putOn 9 = .ok (.aload_n 0, 1) := by decide +kernel
theorem dX2_putOn_10 : decode cX2_putOn 10 = .ok (.getfield 15, 3) := by decide +kernel
theorem dX2_putOn_13 : decode cX2_putOn 13 = .ok (.iload_n 1, 1) := by decide +kernel
theorem dX2_putOn_14 : decode cX2_putOn 14 = .ok (.dup2, 1) := by decide +kernel
theorem dX2_putOn_15 : decode cX2_putOn 15 = .ok (.iaload, 1) := by decide +kernel
theorem dX2_putOn_16 : decode cX2_putOn 16 = .ok (.iconst 1, 1) := by decide +kernel
theorem dX2_putOn_17 : decode cX2_putOn 17 = .ok (.isub, 1) := by decide +kernel
theorem dX2_putOn_18 : decode cX2_putOn 18 = .ok (.iastore, 1) := by decide +kernel
theorem dX2_putOn_19 : decode cX2_putOn 19 = .ok (.aload_n 0, 1) := by decide +kernel
theorem dX2_putOn_20 : decode cX2_putOn 20 = .ok (.dup, 1) := by decide +kernel
theorem dX2_putOn_21 : decode cX2_putOn 21 = .ok (.getfield 35, 3) := by decide +kernel
theorem dX2_putOn_24 : decode cX2_putOn 24 = .ok (.iconst 1, 1) := by decide +kernel
theorem dX2_putOn_25 : decode cX2_putOn 25 = .ok (.iadd, 1) := by decide +kernel
theorem dX2_putOn_26 : decode cX2_putOn 26 = .ok (.putfield 35, 3) := by decide +kernel
theorem dX2_putOn_29 : decode cX2_putOn 29 = .ok (.goto 10, 3) := by decide +kernel
theorem dX2_putOn_32 : decode cX2_putOn 32 = .ok (.aload_n 0, 1) := by decide +kernel
theorem dX2_putOn_33 : decode cX2_putOn 33 = .ok (.getfield 11, 3) := by decide +kernel
theorem dX2_putOn_36 : decode cX2_putOn 36 = .ok (.iload_n 1, 1) := by decide +kernel
theorem dX2_putOn_37 : decode cX2_putOn 37 = .ok (.iload_n 2, 1) := by decide +kernel
theorem dX2_putOn_38 : decode cX2_putOn 38 = .ok (.iastore, 1) := by decide +kernel
theorem dX2_putOn_39 : decode cX2_putOn 39 = .ok (.return_, 1) := by decide +kernel
theorem dX2_passOn_0 : decode cX2_passOn 0 = .ok (.iload_n 1, 1) := by decide +kernel
theorem dX2_passOn_1 : decode cX2_passOn 1 = .ok (.invokestatic 63, 3) := by decide +kernel
theorem dX2_passOn_4 : decode cX2_passOn 4 = .ok (.ifCond .eq 12, 3) := by decide +kernel
theorem dX2_passOn_7 : decode cX2_passOn 7 = .ok (.aload_n 0, 1) := by decide +kernel
theorem dX2_passOn_8 : decode cX2_passOn 8 = .ok (.iload_n 1, 1) := by decide +kernel
theorem dX2_passOn_9 : decode cX2_passOn 9 = .ok (.iload_n 2, 1) := by decide +kernel
theorem dX2_passOn_10 : decode cX2_passOn 10 = .ok (.invokevirtual 66, 3) := by decide +kernel
theorem dX2_passOn_13 : decode cX2_passOn 13 = .ok (.goto 9, 3) := by decide +kernel
theorem dX2_passOn_16 : decode cX2_passOn 16 = .ok (.aload_n 0, 1) := by decide +kernel
theorem dX2_passOn_17 : decode cX2_passOn 17 = .ok (.iload_n 1, 1) := by decide +kernel
theorem dX2_passOn_18 : decode cX2_passOn 18 = .ok (.iload_n 2, 1) := by decide +kernel
theorem dX2_passOn_19 : decode cX2_passOn 19 = .ok (.invokevirtual 70, 3) := by decide +kernel
theorem dX2_passOn_22 : decode cX2_passOn 22 = .ok (.return_, 1) := by decide +kernel
theorem dX2_passLeaf_0 : decode cX2_passLeaf 0 = .ok (.iload_n 1, 1) := by decide +kernel
theorem dX2_passLeaf_1 : decode cX2_passLeaf 1 = .ok (.invokestatic 73, 3) := by decide +kernel
theorem dX2_passLeaf_4 : decode cX2_passLeaf 4 = .ok (.istore_n 3, 1) := by decide +kernel
theorem dX2_passLeaf_5 : decode cX2_passLeaf 5 = .ok (.iload_n 2, 1) := by decide +kernel
theorem dX2_passLeaf_6 : decode cX2_passLeaf 6 = .ok (.invokestatic 76, 3) := by decide +kernel
theorem dX2_passLeaf_9 : decode cX2_passLeaf 9 = .ok (.istore 4, 2) := by decide +kernel
theorem dX2_passLeaf_11 : decode cX2_passLeaf 11 = .ok (.iload 4, 2) := by decide +kernel
theorem dX2_passLeaf_13 : decode cX2_passLeaf 13 = .ok (.invokestatic 57, 3) := by decide +kernel
theorem dX2_passLeaf_16 : decode cX2_passLeaf 16 = .ok (.iload_n 3, 1) := by decide +kernel
theorem dX2_passLeaf_17 : decode cX2_passLeaf 17 = .ok (.if_icmp .ne 17, 3) := by decide +kernel
theorem dX2_passLeaf_20 : decode cX2_passLeaf 20 = .ok (.aload_n 0, 1) := by decide +kernel
theorem dX2_passLeaf_21 : decode cX2_passLeaf 21 = .ok (.iload_n 3, 1) := by decide +kernel
theorem dX2_passLeaf_22 : decode cX2_passLeaf 22 = .ok (.iload 4, 2) := by decide +kernel
theorem dX2_passLeaf_24 : decode cX2_passLeaf 24 = .ok (.iconst 4, 1) := by decide +kernel
theorem dX2_passLeaf_25 : decode cX2_passLeaf 25 = .ok (.irem, 1) := by decide +kernel
theorem dX2_passLeaf_26 : decode cX2_passLeaf 26 = .ok (.invokestatic 79, 3) := by decide +kernel
theorem dX2_passLeaf_29 : decode cX2_passLeaf 29 = .ok (.iload_n 2, 1) := by decide +kernel
theorem dX2_passLeaf_30 : decode cX2_passLeaf 30 = .ok (.invokevirtual 83, 3) := by decide +kernel
theorem dX2_passLeaf_33 : decode cX2_passLeaf 33 = .ok (.return_, 1) := by decide +kernel
theorem dX2_passLeaf_34 : decode cX2_passLeaf 34 = .ok (.aload_n 0, 1) := by decide +kernel
theorem dX2_passLeaf_35 : decode cX2_passLeaf 35 = .ok (.iload_n 3, 1) := by decide +kernel
theorem dX2_passLeaf_36 : decode cX2_passLeaf 36 = .ok (.invokevirtual 86, 3) := by decide +kernel
theorem dX2_passLeaf_39 : decode cX2_passLeaf 39 = .ok (.istore 5, 2) := by decide +kernel
theorem dX2_passLeaf_41 : decode cX2_passLeaf 41 = .ok (.iload 5, 2) := by decide +kernel
theorem dX2_passLeaf_43 : decode cX2_passLeaf 43 = .ok (.iconst (-1), 1) := by decide +kernel
theorem dX2_passLeaf_44 : decode cX2_passLeaf 44 = .ok (.if_icmp .ne 16, 3) := by decide +kernel
theorem dX2_passLeaf_47 : decode cX2_passLeaf 47 = .ok (.aload_n 0, 1) := by decide +kernel
theorem dX2_passLeaf_48 : decode cX2_passLeaf 48 = .ok (.dup, 1) := by decide +kernel
theorem dX2_passLeaf_49 : decode cX2_passLeaf 49 = .ok (.getfield 31, 3) := by decide +kernel
theorem dX2_passLeaf_52 : decode cX2_passLeaf 52 = .ok (.iconst 1, 1) := by decide +kernel
theorem dX2_passLeaf_53 : decode cX2_passLeaf 53 = .ok (.iadd, 1) := by decide +kernel
theorem dX2_passLeaf_54 : decode cX2_passLeaf 54 = .ok (.putfield 31, 3) := by decide +kernel
theorem dX2_passLeaf_57 : decode cX2_passLeaf 57 = .ok (.goto 16, 3) := by decide +kernel
theorem dX2_passLeaf_60 : decode cX2_passLeaf 60 = .ok (.aload_n 0, 1) := by decide +kernel
theorem dX2_passLeaf_61 : decode cX2_passLeaf 61 = .ok (.iload_n 3, 1) := by decide +kernel
theorem dX2_passLeaf_62 : decode cX2_passLeaf 62 = .ok (.iconst 4, 1) := by decide +kernel
theorem dX2_passLeaf_63 : decode cX2_passLeaf 63 = .ok (.iload 5, 2) := by decide +kernel
theorem dX2_passLeaf_65 : decode cX2_passLeaf 65 = .ok (.iadd, 1) := by decide +kernel
theorem dX2_passLeaf_66 : decode cX2_passLeaf 66 = .ok (.invokestatic 79, 3) := by decide +kernel
theorem dX2_passLeaf_69 : decode cX2_passLeaf 69 = .ok (.iload_n 2, 1) := by decide +kernel
theorem dX2_passLeaf_70 : decode cX2_passLeaf 70 = .ok (.invokevirtual 83, 3) := by decide +kernel
theorem dX2_passLeaf_73 : decode cX2_passLeaf 73 = .ok (.return_, 1) := by decide +kernel
theorem dX2_chooseSpine_0 : decode cX2_chooseSpine 0 = .ok (.iconst 1, 1) := by decide +kernel
theorem dX2_chooseSpine_1 : decode cX2_chooseSpine 1 = .ok (.aload_n 0, 1) := by decide +kernel
theorem dX2_chooseSpine_2 : decode cX2_chooseSpine 2 = .ok (.getfield 28, 3) := by decide +kernel
theorem dX2_chooseSpine_5 : decode cX2_chooseSpine 5 = .ok (.iload_n 1, 1) := by decide +kernel
theorem dX2_chooseSpine_6 : decode cX2_chooseSpine 6 = .ok (.iaload, 1) := by decide +kernel
theorem dX2_chooseSpine_7 : decode cX2_chooseSpine 7 = .ok (.isub, 1) := by decide +kernel
theorem dX2_chooseSpine_8 : decode cX2_chooseSpine 8 = .ok (.istore_n 2, 1) := by decide +kernel
theorem dX2_chooseSpine_9 : decode cX2_chooseSpine 9 = .ok (.aload_n 0, 1) := by decide +kernel
theorem dX2_chooseSpine_10 : decode cX2_chooseSpine 10 = .ok (.getfield 24, 3) := by decide +kernel
theorem dX2_chooseSpine_13 : decode cX2_chooseSpine 13 = .ok (.iload_n 2, 1) := by decide +kernel
theorem dX2_chooseSpine_14 : decode cX2_chooseSpine 14 = .ok (.baload, 1) := by decide +kernel
theorem dX2_chooseSpine_15 : decode cX2_chooseSpine 15 = .ok (.ifCond .eq 7, 3) := by decide +kernel
theorem dX2_chooseSpine_18 : decode cX2_chooseSpine 18 = .ok (.iload_n 2, 1) := by decide +kernel
theorem dX2_chooseSpine_19 : decode cX2_chooseSpine 19 = .ok (.goto 6, 3) := by decide +kernel
theorem dX2_chooseSpine_22 : decode cX2_chooseSpine 22 = .ok (.iconst 1, 1) := by decide +kernel
theorem dX2_chooseSpine_23 : decode cX2_chooseSpine 23 = .ok (.iload_n 2, 1) := by decide +kernel
theorem dX2_chooseSpine_24 : decode cX2_chooseSpine 24 = .ok (.isub, 1) := by decide +kernel
theorem dX2_chooseSpine_25 : decode cX2_chooseSpine 25 = .ok (.istore_n 3, 1) := by decide +kernel
theorem dX2_chooseSpine_26 : decode cX2_chooseSpine 26 = .ok (.aload_n 0, 1) := by decide +kernel
theorem dX2_chooseSpine_27 : decode cX2_chooseSpine 27 = .ok (.getfield 24, 3) := by decide +kernel
theorem dX2_chooseSpine_30 : decode cX2_chooseSpine 30 = .ok (.iload_n 3, 1) := by decide +kernel
theorem dX2_chooseSpine_31 : decode cX2_chooseSpine 31 = .ok (.baload, 1) := by decide +kernel
theorem dX2_chooseSpine_32 : decode cX2_chooseSpine 32 = .ok (.ifCond .ne 5, 3) := by decide +kernel
theorem dX2_chooseSpine_35 : decode cX2_chooseSpine 35 = .ok (.iconst (-1), 1) := by decide +kernel
theorem dX2_chooseSpine_36 : decode cX2_chooseSpine 36 = .ok (.ireturn, 1) := by decide +kernel
theorem dX2_chooseSpine_37 : decode cX2_chooseSpine 37 = .ok (.aload_n 0, 1) := by decide +kernel
theorem dX2_chooseSpine_38 : decode cX2_chooseSpine 38 = .ok (.getfield 28, 3) := by decide +kernel
theorem dX2_chooseSpine_41 : decode cX2_chooseSpine 41 = .ok (.iload_n 1, 1) := by decide +kernel
theorem dX2_chooseSpine_42 : decode cX2_chooseSpine 42 = .ok (.iload_n 3, 1) := by decide +kernel
theorem dX2_chooseSpine_43 : decode cX2_chooseSpine 43 = .ok (.iastore, 1) := by decide +kernel
theorem dX2_chooseSpine_44 : decode cX2_chooseSpine 44 = .ok (.iload_n 3, 1) := by decide +kernel
theorem dX2_chooseSpine_45 : decode cX2_chooseSpine 45 = .ok (.ireturn, 1) := by decide +kernel
theorem dX2_passSpine_0 : decode cX2_passSpine 0 = .ok (.iload_n 1, 1) := by decide +kernel
theorem dX2_passSpine_1 : decode cX2_passSpine 1 = .ok (.invokestatic 53, 3) := by decide +kernel
theorem dX2_passSpine_4 : decode cX2_passSpine 4 = .ok (.iconst 4, 1) := by decide +kernel
theorem dX2_passSpine_5 : decode cX2_passSpine 5 = .ok (.isub, 1) := by decide +kernel
theorem dX2_passSpine_6 : decode cX2_passSpine 6 = .ok (.istore_n 3, 1) := by decide +kernel
theorem dX2_passSpine_7 : decode cX2_passSpine 7 = .ok (.aload_n 0, 1) := by decide +kernel
theorem dX2_passSpine_8 : decode cX2_passSpine 8 = .ok (.getfield 24, 3) := by decide +kernel
theorem dX2_passSpine_11 : decode cX2_passSpine 11 = .ok (.iload_n 3, 1) := by decide +kernel
theorem dX2_passSpine_12 : decode cX2_passSpine 12 = .ok (.baload, 1) := by decide +kernel
theorem dX2_passSpine_13 : decode cX2_passSpine 13 = .ok (.ifCond .eq 22, 3) := by decide +kernel
theorem dX2_passSpine_16 : decode cX2_passSpine 16 = .ok (.aload_n 0, 1) := by decide +kernel
theorem dX2_passSpine_17 : decode cX2_passSpine 17 = .ok (.iload_n 3, 1) := by decide +kernel
theorem dX2_passSpine_18 : decode cX2_passSpine 18 = .ok (.iload_n 2, 1) := by decide +kernel
theorem dX2_passSpine_19 : decode cX2_passSpine 19 = .ok (.invokestatic 76, 3) := by decide +kernel
theorem dX2_passSpine_22 : decode cX2_passSpine 22 = .ok (.invokestatic 57, 3) := by decide +kernel
theorem dX2_passSpine_25 : decode cX2_passSpine 25 = .ok (.invokestatic 89, 3) := by decide +kernel
theorem dX2_passSpine_28 : decode cX2_passSpine 28 = .ok (.iload_n 2, 1) := by decide +kernel
theorem dX2_passSpine_29 : decode cX2_passSpine 29 = .ok (.invokevirtual 83, 3) := by decide +kernel
theorem dX2_passSpine_32 : decode cX2_passSpine 32 = .ok (.goto 13, 3) := by decide +kernel
theorem dX2_passSpine_35 : decode cX2_passSpine 35 = .ok (.aload_n 0, 1) := by decide +kernel
theorem dX2_passSpine_36 : decode cX2_passSpine 36 = .ok (.dup, 1) := by decide +kernel
theorem dX2_passSpine_37 : decode cX2_passSpine 37 = .ok (.getfield 31, 3) := by decide +kernel
theorem dX2_passSpine_40 : decode cX2_passSpine 40 = .ok (.iconst 1, 1) := by decide +kernel
theorem dX2_passSpine_41 : decode cX2_passSpine 41 = .ok (.iadd, 1) := by decide +kernel
theorem dX2_passSpine_42 : decode cX2_passSpine 42 = .ok (.putfield 31, 3) := by decide +kernel
theorem dX2_passSpine_45 : decode cX2_passSpine 45 = .ok (.return_, 1) := by decide +kernel
theorem dX2_enqueue_0 : decode cX2_enqueue 0 = .ok (.aload_n 0, 1) := by decide +kernel
theorem dX2_enqueue_1 : decode cX2_enqueue 1 = .ok (.iload_n 1, 1) := by decide +kernel
theorem dX2_enqueue_2 : decode cX2_enqueue 2 = .ok (.iload_n 2, 1) := by decide +kernel
theorem dX2_enqueue_3 : decode cX2_enqueue 3 = .ok (.invokestatic 92, 3) := by decide +kernel
theorem dX2_enqueue_6 : decode cX2_enqueue 6 = .ok (.invokevirtual 95, 3) := by decide +kernel
theorem dX2_enqueue_9 : decode cX2_enqueue 9 = .ok (.iload_n 2, 1) := by decide +kernel
theorem dX2_enqueue_10 : decode cX2_enqueue 10 = .ok (.invokevirtual 99, 3) := by decide +kernel
theorem dX2_enqueue_13 : decode cX2_enqueue 13 = .ok (.ifCond .ne 13, 3) := by decide +kernel
theorem dX2_enqueue_16 : decode cX2_enqueue 16 = .ok (.aload_n 0, 1) := by decide +kernel
theorem dX2_enqueue_17 : decode cX2_enqueue 17 = .ok (.dup, 1) := by decide +kernel
theorem dX2_enqueue_18 : decode cX2_enqueue 18 = .ok (.getfield 31, 3) := by decide +kernel
theorem dX2_enqueue_21 : decode cX2_enqueue 21 = .ok (.iconst 1, 1) := by decide +kernel
theorem dX2_enqueue_22 : decode cX2_enqueue 22 = .ok (.iadd, 1) := by decide +kernel
theorem dX2_enqueue_23 : decode cX2_enqueue 23 = .ok (.putfield 31, 3) := by decide +kernel
theorem dX2_enqueue_26 : decode cX2_enqueue 26 = .ok (.return_, 1) := by decide +kernel
theorem dX2_queueOf_0 : decode cX2_queueOf 0 = .ok (.aload_n 0, 1) := by decide +kernel
theorem dX2_queueOf_1 : decode cX2_queueOf 1 = .ok (.getfield 20, 3) := by decide +kernel
theorem dX2_queueOf_4 : decode cX2_queueOf 4 = .ok (.iload_n 1, 1) := by decide +kernel
theorem dX2_queueOf_5 : decode cX2_queueOf 5 = .ok (.bipush 8, 2) := by decide +kernel
theorem dX2_queueOf_7 : decode cX2_queueOf 7 = .ok (.isub, 1) := by decide +kernel
theorem dX2_queueOf_8 : decode cX2_queueOf 8 = .ok (.iconst 4, 1) := by decide +kernel
theorem dX2_queueOf_9 : decode cX2_queueOf 9 = .ok (.imul, 1) := by decide +kernel
theorem dX2_queueOf_10 : decode cX2_queueOf 10 = .ok (.iload_n 2, 1) := by decide +kernel
theorem dX2_queueOf_11 : decode cX2_queueOf 11 = .ok (.iadd, 1) := by decide +kernel
theorem dX2_queueOf_12 : decode cX2_queueOf 12 = .ok (.aaload, 1) := by decide +kernel
theorem dX2_queueOf_13 : decode cX2_queueOf 13 = .ok (.areturn, 1) := by decide +kernel
theorem dX2_fillLinks_0 : decode cX2_fillLinks 0 = .ok (.bipush 8, 2) := by decide +kernel
theorem dX2_fillLinks_2 : decode cX2_fillLinks 2 = .ok (.istore_n 1, 1) := by decide +kernel
theorem dX2_fillLinks_3 : decode cX2_fillLinks 3 = .ok (.iload_n 1, 1) := by decide +kernel
theorem dX2_fillLinks_4 : decode cX2_fillLinks 4 = .ok (.bipush 24, 2) := by decide +kernel
theorem dX2_fillLinks_6 : decode cX2_fillLinks 6 = .ok (.if_icmp .ge 22, 3) := by decide +kernel
theorem dX2_fillLinks_9 : decode cX2_fillLinks 9 = .ok (.aload_n 0, 1) := by decide +kernel
theorem dX2_fillLinks_10 : decode cX2_fillLinks 10 = .ok (.iload_n 1, 1) := by decide +kernel
theorem dX2_fillLinks_11 : decode cX2_fillLinks 11 = .ok (.invokevirtual 102, 3) := by decide +kernel
theorem dX2_fillLinks_14 : decode cX2_fillLinks 14 = .ok (.ifCond .eq 8, 3) := by decide +kernel
theorem dX2_fillLinks_17 : decode cX2_fillLinks 17 = .ok (.aload_n 0, 1) := by decide +kernel
theorem dX2_fillLinks_18 : decode cX2_fillLinks 18 = .ok (.iload_n 1, 1) := by decide +kernel
theorem dX2_fillLinks_19 : decode cX2_fillLinks 19 = .ok (.invokevirtual 105, 3) := by decide +kernel
theorem dX2_fillLinks_22 : decode cX2_fillLinks 22 = .ok (.iinc 1 1, 3) := by decide +kernel
theorem dX2_fillLinks_25 : decode cX2_fillLinks 25 = .ok (.goto (-22), 3) := by decide +kernel
theorem dX2_fillLinks_28 : decode cX2_fillLinks 28 = .ok (.return_, 1) := by decide +kernel
theorem dX2_isServed_0 : decode cX2_isServed 0 = .ok (.iload_n 1, 1) := by decide +kernel
theorem dX2_isServed_1 : decode cX2_isServed 1 = .ok (.bipush 20, 2) := by decide +kernel
theorem dX2_isServed_3 : decode cX2_isServed 3 = .ok (.if_icmp .lt 17, 3) := by decide +kernel
theorem dX2_isServed_6 : decode cX2_isServed 6 = .ok (.aload_n 0, 1) := by decide +kernel
theorem dX2_isServed_7 : decode cX2_isServed 7 = .ok (.getfield 24, 3) := by decide +kernel
theorem dX2_isServed_10 : decode cX2_isServed 10 = .ok (.iload_n 1, 1) := by decide +kernel
theorem dX2_isServed_11 : decode cX2_isServed 11 = .ok (.bipush 20, 2) := by decide +kernel
theorem dX2_isServed_13 : decode cX2_isServed 13 = .ok (.isub, 1) := by decide +kernel
theorem dX2_isServed_14 : decode cX2_isServed 14 = .ok (.iconst 2, 1) := by decide +kernel
theorem dX2_isServed_15 : decode cX2_isServed 15 = .ok (.idiv, 1) := by decide +kernel
theorem dX2_isServed_16 : decode cX2_isServed 16 = .ok (.baload, 1) := by decide +kernel
theorem dX2_isServed_17 : decode cX2_isServed 17 = .ok (.ifCond .eq 7, 3) := by decide +kernel
theorem dX2_isServed_20 : decode cX2_isServed 20 = .ok (.iconst 1, 1) := by decide +kernel
theorem dX2_isServed_21 : decode cX2_isServed 21 = .ok (.goto 4, 3) := by decide +kernel
theorem dX2_isServed_24 : decode cX2_isServed 24 = .ok (.iconst 0, 1) := by decide +kernel
theorem dX2_isServed_25 : decode cX2_isServed 25 = .ok (.ireturn, 1) := by decide +kernel
theorem dX2_fill_0 : decode cX2_fill 0 = .ok (.iconst 0, 1) := by decide +kernel
theorem dX2_fill_1 : decode cX2_fill 1 = .ok (.istore_n 2, 1) := by decide +kernel
theorem dX2_fill_2 : decode cX2_fill 2 = .ok (.iload_n 2, 1) := by decide +kernel
theorem dX2_fill_3 : decode cX2_fill 3 = .ok (.iconst 4, 1) := by decide +kernel
theorem dX2_fill_4 : decode cX2_fill 4 = .ok (.if_icmp .ge 31, 3) := by decide +kernel
theorem dX2_fill_7 : decode cX2_fill 7 = .ok (.aload_n 0, 1) := by decide +kernel
theorem dX2_fill_8 : decode cX2_fill 8 = .ok (.iload_n 1, 1) := by decide +kernel
theorem dX2_fill_9 : decode cX2_fill 9 = .ok (.iload_n 2, 1) := by decide +kernel
theorem dX2_fill_10 : decode cX2_fill 10 = .ok (.invokevirtual 95, 3) := by decide +kernel
theorem dX2_fill_13 : decode cX2_fill 13 = .ok (.invokevirtual 107, 3) := by decide +kernel
theorem dX2_fill_16 : decode cX2_fill 16 = .ok (.istore_n 3, 1) := by decide +kernel
theorem dX2_fill_17 : decode cX2_fill 17 = .ok (.iload_n 3, 1) := by decide +kernel
theorem dX2_fill_18 : decode cX2_fill 18 = .ok (.iconst (-1), 1) := by decide +kernel
theorem dX2_fill_19 : decode cX2_fill 19 = .ok (.if_icmp .eq 10, 3) := by decide +kernel
theorem dX2_fill_22 : decode cX2_fill 22 = .ok (.aload_n 0, 1) := by decide +kernel
theorem dX2_fill_23 : decode cX2_fill 23 = .ok (.iload_n 1, 1) := by decide +kernel
theorem dX2_fill_24 : decode cX2_fill 24 = .ok (.iload_n 3, 1) := by decide +kernel
theorem dX2_fill_25 : decode cX2_fill 25 = .ok (.invokevirtual 111, 3) := by decide +kernel
theorem dX2_fill_28 : decode cX2_fill 28 = .ok (.return_, 1) := by decide +kernel
theorem dX2_fill_29 : decode cX2_fill 29 = .ok (.iinc 2 1, 3) := by decide +kernel
theorem dX2_fill_32 : decode cX2_fill 32 = .ok (.goto (-30), 3) := by decide +kernel
theorem dX2_fill_35 : decode cX2_fill 35 = .ok (.return_, 1) := by decide +kernel
theorem dX2_waiting_0 : decode cX2_waiting 0 = .ok (.iload_n 1, 1) := by decide +kernel
theorem dX2_waiting_1 : decode cX2_waiting 1 = .ok (.invokestatic 60, 3) := by decide +kernel
theorem dX2_waiting_4 : decode cX2_waiting 4 = .ok (.ifCond .eq 22, 3) := by decide +kernel
theorem dX2_waiting_7 : decode cX2_waiting 7 = .ok (.iload_n 1, 1) := by decide +kernel
theorem dX2_waiting_8 : decode cX2_waiting 8 = .ok (.bipush 8, 2) := by decide +kernel
theorem dX2_waiting_10 : decode cX2_waiting 10 = .ok (.if_icmp .lt 16, 3) := by decide +kernel
theorem dX2_waiting_13 : decode cX2_waiting 13 = .ok (.iload_n 2, 1) := by decide +kernel
theorem dX2_waiting_14 : decode cX2_waiting 14 = .ok (.ifCond .lt 12, 3) := by decide +kernel
theorem dX2_waiting_17 : decode cX2_waiting 17 = .ok (.iload_n 2, 1) := by decide +kernel
theorem dX2_waiting_18 : decode cX2_waiting 18 = .ok (.iconst 4, 1) := by decide +kernel
theorem dX2_waiting_19 : decode cX2_waiting 19 = .ok (.if_icmp .ge 7, 3) := by decide +kernel
theorem dX2_waiting_22 : decode cX2_waiting 22 = .ok (.iconst 1, 1) := by decide +kernel
theorem dX2_waiting_23 : decode cX2_waiting 23 = .ok (.goto 4, 3) := by decide +kernel
theorem dX2_waiting_26 : decode cX2_waiting 26 = .ok (.iconst 0, 1) := by decide +kernel
theorem dX2_waiting_27 : decode cX2_waiting 27 = .ok (.istore_n 3, 1) := by decide +kernel
theorem dX2_waiting_28 : decode cX2_waiting 28 = .ok (.iload_n 3, 1) := by decide +kernel
theorem dX2_waiting_29 : decode cX2_waiting 29 = .ok (.ifCond .eq 15, 3) := by decide +kernel
theorem dX2_waiting_32 : decode cX2_waiting 32 = .ok (.aload_n 0, 1) := by decide +kernel
theorem dX2_waiting_33 : decode cX2_waiting 33 = .ok (.iload_n 1, 1) := by decide +kernel
theorem dX2_waiting_34 : decode cX2_waiting 34 = .ok (.iload_n 2, 1) := by decide +kernel
theorem dX2_waiting_35 : decode cX2_waiting 35 = .ok (.invokevirtual 95, 3) := by decide +kernel
theorem dX2_waiting_38 : decode cX2_waiting 38 = .ok (.invokevirtual 114, 3) := by decide +kernel
theorem dX2_waiting_41 : decode cX2_waiting 41 = .ok (.goto 4, 3) := by decide +kernel
theorem dX2_waiting_44 : decode cX2_waiting 44 = .ok (.iconst (-1), 1) := by decide +kernel
theorem dX2_waiting_45 : decode cX2_waiting 45 = .ok (.ireturn, 1) := by decide +kernel
theorem dX2_tell_0 : decode cX2_tell 0 = .ok (.iload_n 1, 1) := by decide +kernel
theorem dX2_tell_1 : decode cX2_tell 1 = .ok (.tableswitch 42 0 2 #[27, 32, 37], 27) := by decide +kernel
theorem dX2_tell_28 : decode cX2_tell 28 = .ok (.aload_n 0, 1) := by decide +kernel
theorem dX2_tell_29 : decode cX2_tell 29 = .ok (.getfield 31, 3) := by decide +kernel
theorem dX2_tell_32 : decode cX2_tell 32 = .ok (.ireturn, 1) := by decide +kernel
theorem dX2_tell_33 : decode cX2_tell 33 = .ok (.aload_n 0, 1) := by decide +kernel
theorem dX2_tell_34 : decode cX2_tell 34 = .ok (.getfield 35, 3) := by decide +kernel
theorem dX2_tell_37 : decode cX2_tell 37 = .ok (.ireturn, 1) := by decide +kernel
theorem dX2_tell_38 : decode cX2_tell 38 = .ok (.aload_n 0, 1) := by decide +kernel
theorem dX2_tell_39 : decode cX2_tell 39 = .ok (.invokevirtual 117, 3) := by decide +kernel
theorem dX2_tell_42 : decode cX2_tell 42 = .ok (.ireturn, 1) := by decide +kernel
theorem dX2_tell_43 : decode cX2_tell 43 = .ok (.iconst (-1), 1) := by decide +kernel
theorem dX2_tell_44 : decode cX2_tell 44 = .ok (.ireturn, 1) := by decide +kernel
theorem dX2_underWay_0 : decode cX2_underWay 0 = .ok (.iconst 0, 1) := by decide +kernel
theorem dX2_underWay_1 : decode cX2_underWay 1 = .ok (.istore_n 1, 1) := by decide +kernel
theorem dX2_underWay_2 : decode cX2_underWay 2 = .ok (.iconst 0, 1) := by decide +kernel
theorem dX2_underWay_3 : decode cX2_underWay 3 = .ok (.istore_n 2, 1) := by decide +kernel
theorem dX2_underWay_4 : decode cX2_underWay 4 = .ok (.iload_n 2, 1) := by decide +kernel
theorem dX2_underWay_5 : decode cX2_underWay 5 = .ok (.bipush 24, 2) := by decide +kernel
theorem dX2_underWay_7 : decode cX2_underWay 7 = .ok (.if_icmp .ge 27, 3) := by decide +kernel
theorem dX2_underWay_10 : decode cX2_underWay 10 = .ok (.iload_n 1, 1) := by decide +kernel
theorem dX2_underWay_11 : decode cX2_underWay 11 = .ok (.aload_n 0, 1) := by decide +kernel
theorem dX2_underWay_12 : decode cX2_underWay 12 = .ok (.getfield 11, 3) := by decide +kernel
theorem dX2_underWay_15 : decode cX2_underWay 15 = .ok (.iload_n 2, 1) := by decide +kernel
theorem dX2_underWay_16 : decode cX2_underWay 16 = .ok (.iaload, 1) := by decide +kernel
theorem dX2_underWay_17 : decode cX2_underWay 17 = .ok (.iconst (-1), 1) := by decide +kernel
theorem dX2_underWay_18 : decode cX2_underWay 18 = .ok (.if_icmp .ne 7, 3) := by decide +kernel
theorem dX2_underWay_21 : decode cX2_underWay 21 = .ok (.iconst 0, 1) := by decide +kernel
theorem dX2_underWay_22 : decode cX2_underWay 22 = .ok (.goto 4, 3) := by decide +kernel
theorem dX2_underWay_25 : decode cX2_underWay 25 = .ok (.iconst 1, 1) := by decide +kernel
theorem dX2_underWay_26 : decode cX2_underWay 26 = .ok (.iadd, 1) := by decide +kernel
theorem dX2_underWay_27 : decode cX2_underWay 27 = .ok (.istore_n 1, 1) := by decide +kernel
theorem dX2_underWay_28 : decode cX2_underWay 28 = .ok (.iinc 2 1, 3) := by decide +kernel
theorem dX2_underWay_31 : decode cX2_underWay 31 = .ok (.goto (-27), 3) := by decide +kernel
theorem dX2_underWay_34 : decode cX2_underWay 34 = .ok (.iconst 0, 1) := by decide +kernel
theorem dX2_underWay_35 : decode cX2_underWay 35 = .ok (.istore_n 2, 1) := by decide +kernel
theorem dX2_underWay_36 : decode cX2_underWay 36 = .ok (.iload_n 2, 1) := by decide +kernel
theorem dX2_underWay_37 : decode cX2_underWay 37 = .ok (.aload_n 0, 1) := by decide +kernel
theorem dX2_underWay_38 : decode cX2_underWay 38 = .ok (.getfield 20, 3) := by decide +kernel
theorem dX2_underWay_41 : decode cX2_underWay 41 = .ok (.arraylength, 1) := by decide +kernel
theorem dX2_underWay_42 : decode cX2_underWay 42 = .ok (.if_icmp .ge 21, 3) := by decide +kernel
theorem dX2_underWay_45 : decode cX2_underWay 45 = .ok (.iload_n 1, 1) := by decide +kernel
theorem dX2_underWay_46 : decode cX2_underWay 46 = .ok (.aload_n 0, 1) := by decide +kernel
theorem dX2_underWay_47 : decode cX2_underWay 47 = .ok (.getfield 20, 3) := by decide +kernel
theorem dX2_underWay_50 : decode cX2_underWay 50 = .ok (.iload_n 2, 1) := by decide +kernel
theorem dX2_underWay_51 : decode cX2_underWay 51 = .ok (.aaload, 1) := by decide +kernel
theorem dX2_underWay_52 : decode cX2_underWay 52 = .ok (.invokevirtual 114, 3) := by decide +kernel
theorem dX2_underWay_55 : decode cX2_underWay 55 = .ok (.iadd, 1) := by decide +kernel
theorem dX2_underWay_56 : decode cX2_underWay 56 = .ok (.istore_n 1, 1) := by decide +kernel
theorem dX2_underWay_57 : decode cX2_underWay 57 = .ok (.iinc 2 1, 3) := by decide +kernel
theorem dX2_underWay_60 : decode cX2_underWay 60 = .ok (.goto (-24), 3) := by decide +kernel
theorem dX2_underWay_63 : decode cX2_underWay 63 = .ok (.iload_n 1, 1) := by decide +kernel
theorem dX2_underWay_64 : decode cX2_underWay 64 = .ok (.ireturn, 1) := by decide +kernel
theorem dX3_init_0 : decode cX3_init 0 = .ok (.aload_n 0, 1) := by decide +kernel
theorem dX3_init_1 : decode cX3_init 1 = .ok (.invokespecial 3, 3) := by decide +kernel
theorem dX3_init_4 : decode cX3_init 4 = .ok (.aload_n 0, 1) := by decide +kernel
theorem dX3_init_5 : decode cX3_init 5 = .ok (.bipush 48, 2) := by decide +kernel
theorem dX3_init_7 : decode cX3_init 7 = .ok (.anewarray 9, 3) := by decide +kernel
theorem dX3_init_10 : decode cX3_init 10 = .ok (.putfield 11, 3) := by decide +kernel
theorem dX3_init_13 : decode cX3_init 13 = .ok (.aload_n 0, 1) := by decide +kernel
theorem dX3_init_14 : decode cX3_init 14 = .ok (.bipush 48, 2) := by decide +kernel
theorem dX3_init_16 : decode cX3_init 16 = .ok (.anewarray 9, 3) := by decide +kernel
theorem dX3_init_19 : decode cX3_init 19 = .ok (.putfield 17, 3) := by decide +kernel
theorem dX3_init_22 : decode cX3_init 22 = .ok (.aload_n 0, 1) := by decide +kernel
theorem dX3_init_23 : decode cX3_init 23 = .ok (.new 20, 3) := by decide +kernel
theorem dX3_init_26 : decode cX3_init 26 = .ok (.dup, 1) := by decide +kernel
theorem dX3_init_27 : decode cX3_init 27 = .ok (.invokespecial 22, 3) := by decide +kernel
theorem dX3_init_30 : decode cX3_init 30 = .ok (.putfield 23, 3) := by decide +kernel
theorem dX3_init_33 : decode cX3_init 33 = .ok (.aload_n 0, 1) := by decide +kernel
theorem dX3_init_34 : decode cX3_init 34 = .ok (.new 27, 3) := by decide +kernel
theorem dX3_init_37 : decode cX3_init 37 = .ok (.dup, 1) := by decide +kernel
theorem dX3_init_38 : decode cX3_init 38 = .ok (.bipush 24, 2) := by decide +kernel
theorem dX3_init_40 : decode cX3_init 40 = .ok (.invokespecial 29, 3) := by decide +kernel
theorem dX3_init_43 : decode cX3_init 43 = .ok (.putfield 32, 3) := by decide +kernel
theorem dX3_init_46 : decode cX3_init 46 = .ok (.aload_n 0, 1) := by decide +kernel
theorem dX3_init_47 : decode cX3_init 47 = .ok (.iconst 3, 1) := by decide +kernel
theorem dX3_init_48 : decode cX3_init 48 = .ok (.newarray .int, 2) := by decide +kernel
theorem dX3_init_50 : decode cX3_init 50 = .ok (.putfield 36, 3) := by decide +kernel
theorem dX3_init_53 : decode cX3_init 53 = .ok (.aload_n 0, 1) := by decide +kernel
theorem dX3_init_54 : decode cX3_init 54 = .ok (.bipush 64, 2) := by decide +kernel
theorem dX3_init_56 : decode cX3_init 56 = .ok (.newarray .int, 2) := by decide +kernel
theorem dX3_init_58 : decode cX3_init 58 = .ok (.putfield 40, 3) := by decide +kernel
theorem dX3_init_61 : decode cX3_init 61 = .ok (.aload_n 0, 1) := by decide +kernel
theorem dX3_init_62 : decode cX3_init 62 = .ok (.iconst 0, 1) := by decide +kernel
theorem dX3_init_63 : decode cX3_init 63 = .ok (.putfield 43, 3) := by decide +kernel
theorem dX3_init_66 : decode cX3_init 66 = .ok (.aload_n 0, 1) := by decide +kernel
theorem dX3_init_67 : decode cX3_init 67 = .ok (.iconst 0, 1) := by decide +kernel
theorem dX3_init_68 : decode cX3_init 68 = .ok (.putfield 47, 3) := by decide +kernel
theorem dX3_init_71 : decode cX3_init 71 = .ok (.aload_n 0, 1) := by decide +kernel
theorem dX3_init_72 : decode cX3_init 72 = .ok (.iconst 0, 1) := by decide +kernel
theorem dX3_init_73 : decode cX3_init 73 = .ok (.putfield 50, 3) := by decide +kernel
theorem dX3_init_76 : decode cX3_init 76 = .ok (.aload_n 0, 1) := by decide +kernel
theorem dX3_init_77 : decode cX3_init 77 = .ok (.iconst 0, 1) := by decide +kernel
theorem dX3_init_78 : decode cX3_init 78 = .ok (.putfield 53, 3) := by decide +kernel
theorem dX3_init_81 : decode cX3_init 81 = .ok (.aload_n 0, 1) := by decide +kernel
theorem dX3_init_82 : decode cX3_init 82 = .ok (.iconst 0, 1) := by decide +kernel
theorem dX3_init_83 : decode cX3_init 83 = .ok (.putfield 56, 3) := by decide +kernel
theorem dX3_init_86 : decode cX3_init 86 = .ok (.aload_n 0, 1) := by decide +kernel
theorem dX3_init_87 : decode cX3_init 87 = .ok (.getfield 36, 3) := by decide +kernel
theorem dX3_init_90 : decode cX3_init 90 = .ok (.iconst (-1), 1) := by decide +kernel
theorem dX3_init_91 : decode cX3_init 91 = .ok (.invokestatic 59, 3) := by decide +kernel
theorem dX3_init_94 : decode cX3_init 94 = .ok (.return_, 1) := by decide +kernel
theorem dX3_addOutgoing_0 : decode cX3_addOutgoing 0 = .ok (.aload_n 0, 1) := by decide +kernel
theorem dX3_addOutgoing_1 : decode cX3_addOutgoing 1 = .ok (.getfield 11, 3) := by decide +kernel
theorem dX3_addOutgoing_4 : decode cX3_addOutgoing 4 = .ok (.aload_n 0, 1) := by decide +kernel
theorem dX3_addOutgoing_5 : decode cX3_addOutgoing 5 = .ok (.getfield 43, 3) := by decide +kernel
theorem dX3_addOutgoing_8 : decode cX3_addOutgoing 8 = .ok (.aload_n 1, 1) := by decide +kernel
theorem dX3_addOutgoing_9 : decode cX3_addOutgoing 9 = .ok (.aastore, 1) := by decide +kernel
theorem dX3_addOutgoing_10 : decode cX3_addOutgoing 10 = .ok (.aload_n 0, 1) := by decide +kernel
theorem dX3_addOutgoing_11 : decode cX3_addOutgoing 11 = .ok (.dup, 1) := by decide +kernel
theorem dX3_addOutgoing_12 : decode cX3_addOutgoing 12 = .ok (.getfield 43, 3) := by decide +kernel
theorem dX3_addOutgoing_15 : decode cX3_addOutgoing 15 = .ok (.iconst 1, 1) := by decide +kernel
theorem dX3_addOutgoing_16 : decode cX3_addOutgoing 16 = .ok (.iadd, 1) := by decide +kernel
theorem dX3_addOutgoing_17 : decode cX3_addOutgoing 17 = .ok (.putfield 43, 3) := by decide +kernel
theorem dX3_addOutgoing_20 : decode cX3_addOutgoing 20 = .ok (.aload_n 0, 1) := by decide +kernel
theorem dX3_addOutgoing_21 : decode cX3_addOutgoing 21 = .ok (.getfield 23, 3) := by decide +kernel
theorem dX3_addOutgoing_24 : decode cX3_addOutgoing 24 = .ok (.aload_n 1, 1) := by decide +kernel
theorem dX3_addOutgoing_25 : decode cX3_addOutgoing 25 = .ok (.getfield 65, 3) := by decide +kernel
theorem dX3_addOutgoing_28 : decode cX3_addOutgoing 28 = .ok (.invokevirtual 68, 3) := by decide +kernel
theorem dX3_addOutgoing_31 : decode cX3_addOutgoing 31 = .ok (.return_, 1) := by decide +kernel
theorem dX3_addIncoming_0 : decode cX3_addIncoming 0 = .ok (.aload_n 0, 1) := by decide +kernel
theorem dX3_addIncoming_1 : decode cX3_addIncoming 1 = .ok (.getfield 17, 3) := by decide +kernel
theorem dX3_addIncoming_4 : decode cX3_addIncoming 4 = .ok (.aload_n 0, 1) := by decide +kernel
theorem dX3_addIncoming_5 : decode cX3_addIncoming 5 = .ok (.getfield 47, 3) := by decide +kernel
theorem dX3_addIncoming_8 : decode cX3_addIncoming 8 = .ok (.aload_n 1, 1) := by decide +kernel
theorem dX3_addIncoming_9 : decode cX3_addIncoming 9 = .ok (.aastore, 1) := by decide +kernel
theorem dX3_addIncoming_10 : decode cX3_addIncoming 10 = .ok (.aload_n 0, 1) := by decide +kernel
theorem dX3_addIncoming_11 : decode cX3_addIncoming 11 = .ok (.dup, 1) := by decide +kernel
theorem dX3_addIncoming_12 : decode cX3_addIncoming 12 = .ok (.getfield 47, 3) := by decide +kernel
theorem dX3_addIncoming_15 : decode cX3_addIncoming 15 = .ok (.iconst 1, 1) := by decide +kernel
theorem dX3_addIncoming_16 : decode cX3_addIncoming 16 = .ok (.iadd, 1) := by decide +kernel
theorem dX3_addIncoming_17 : decode cX3_addIncoming 17 = .ok (.putfield 47, 3) := by decide +kernel
theorem dX3_addIncoming_20 : decode cX3_addIncoming 20 = .ok (.return_, 1) := by decide +kernel
theorem dX3_takeData_0 : decode cX3_takeData 0 = .ok (.aload_n 1, 1) := by decide +kernel
theorem dX3_takeData_1 : decode cX3_takeData 1 = .ok (.getfield 71, 3) := by decide +kernel
theorem dX3_takeData_4 : decode cX3_takeData 4 = .ok (.astore 4, 2) := by decide +kernel
theorem dX3_takeData_6 : decode cX3_takeData 6 = .ok (.aload 4, 2) := by decide +kernel
theorem dX3_takeData_8 : decode cX3_takeData 8 = .ok (.invokevirtual 75, 3) := by decide +kernel
theorem dX3_takeData_11 : decode cX3_takeData 11 = .ok (.ifCond .eq 22, 3) := by decide +kernel
theorem dX3_takeData_14 : decode cX3_takeData 14 = .ok (.aload_n 0, 1) := by decide +kernel
theorem dX3_takeData_15 : decode cX3_takeData 15 = .ok (.dup, 1) := by decide +kernel
theorem dX3_takeData_16 : decode cX3_takeData 16 = .ok (.getfield 50, 3) := by decide +kernel
theorem dX3_takeData_19 : decode cX3_takeData 19 = .ok (.iconst 1, 1) := by decide +kernel
theorem dX3_takeData_20 : decode cX3_takeData 20 = .ok (.iadd, 1) := by decide +kernel
theorem dX3_takeData_21 : decode cX3_takeData 21 = .ok (.putfield 50, 3) := by decide +kernel
theorem dX3_takeData_24 : decode cX3_takeData 24 = .ok (.aload 4, 2) := by decide +kernel
theorem dX3_takeData_26 : decode cX3_takeData 26 = .ok (.aload_n 0, 1) := by decide +kernel
theorem dX3_takeData_27 : decode cX3_takeData 27 = .ok (.getfield 50, 3) := by decide +kernel
theorem dX3_takeData_30 : decode cX3_takeData 30 = .ok (.invokevirtual 81, 3) := by decide +kernel
theorem dX3_takeData_33 : decode cX3_takeData 33 = .ok (.aload 4, 2) := by decide +kernel
theorem dX3_takeData_35 : decode cX3_takeData 35 = .ok (.invokevirtual 84, 3) := by decide +kernel
theorem dX3_takeData_38 : decode cX3_takeData 38 = .ok (.ifCond .eq 23, 3) := by decide +kernel
theorem dX3_takeData_41 : decode cX3_takeData 41 = .ok (.aload 4, 2) := by decide +kernel
theorem dX3_takeData_43 : decode cX3_takeData 43 = .ok (.iload_n 2, 1) := by decide +kernel
theorem dX3_takeData_44 : decode cX3_takeData 44 = .ok (.iload_n 3, 1) := by decide +kernel
theorem dX3_takeData_45 : decode cX3_takeData 45 = .ok (.invokevirtual 87, 3) := by decide +kernel
theorem dX3_takeData_48 : decode cX3_takeData 48 = .ok (.aload 4, 2) := by decide +kernel
theorem dX3_takeData_50 : decode cX3_takeData 50 = .ok (.invokevirtual 91, 3) := by decide +kernel
theorem dX3_takeData_53 : decode cX3_takeData 53 = .ok (.ifCond .eq 8, 3) := by decide +kernel
theorem dX3_takeData_56 : decode cX3_takeData 56 = .ok (.aload_n 0, 1) := by decide +kernel
theorem dX3_takeData_57 : decode cX3_takeData 57 = .ok (.aload_n 1, 1) := by decide +kernel
theorem dX3_takeData_58 : decode cX3_takeData 58 = .ok (.invokevirtual 94, 3) := by decide +kernel
theorem dX3_takeData_61 : decode cX3_takeData 61 = .ok (.aload 4, 2) := by decide +kernel
theorem dX3_takeData_63 : decode cX3_takeData 63 = .ok (.invokevirtual 91, 3) := by decide +kernel
theorem dX3_takeData_66 : decode cX3_takeData 66 = .ok (.ifCond .eq 10, 3) := by decide +kernel
theorem dX3_takeData_69 : decode cX3_takeData 69 = .ok (.aload_n 0, 1) := by decide +kernel
theorem dX3_takeData_70 : decode cX3_takeData 70 = .ok (.iconst 3, 1) := by decide +kernel
theorem dX3_takeData_71 : decode cX3_takeData 71 = .ok (.aload_n 1, 1) := by decide +kernel
theorem dX3_takeData_72 : decode cX3_takeData 72 = .ok (.iconst 0, 1) := by decide +kernel
theorem dX3_takeData_73 : decode cX3_takeData 73 = .ok (.invokevirtual 100, 3) := by decide +kernel
theorem dX3_takeData_76 : decode cX3_takeData 76 = .ok (.return_, 1) := by decide +kernel
theorem dX3_noteFinished_0 : decode cX3_noteFinished 0 = .ok (.aload_n 0, 1) := by decide +kernel
theorem dX3_noteFinished_1 : decode cX3_noteFinished 1 = .ok (.getfield 40, 3) := by decide +kernel
theorem dX3_noteFinished_4 : decode cX3_noteFinished 4 = .ok (.aload_n 0, 1) := by decide +kernel
theorem dX3_noteFinished_5 : decode cX3_noteFinished 5 = .ok (.getfield 53, 3) := by decide +kernel
theorem dX3_noteFinished_8 : decode cX3_noteFinished 8 = .ok (.bipush 64, 2) := by decide +kernel
theorem dX3_noteFinished_10 : decode cX3_noteFinished 10 = .ok (.invokestatic 104, 3) := by decide +kernel
theorem dX3_noteFinished_13 : decode cX3_noteFinished 13 = .ok (.aload_n 1, 1) := by decide +kernel
theorem dX3_noteFinished_14 : decode cX3_noteFinished 14 = .ok (.getfield 110, 3) := by decide +kernel
theorem dX3_noteFinished_17 : decode cX3_noteFinished 17 = .ok (.iastore, 1) := by decide +kernel
theorem dX3_noteFinished_18 : decode cX3_noteFinished 18 = .ok (.aload_n 0, 1) := by decide +kernel
theorem dX3_noteFinished_19 : decode cX3_noteFinished 19 = .ok (.dup, 1) := by decide +kernel
theorem dX3_noteFinished_20 : decode cX3_noteFinished 20 = .ok (.getfield 53, 3) := by decide +kernel
theorem dX3_noteFinished_23 : decode cX3_noteFinished 23 = .ok (.iconst 1, 1) := by decide +kernel
theorem dX3_noteFinished_24 : decode cX3_noteFinished 24 = .ok (.iadd, 1) := by decide +kernel
theorem dX3_noteFinished_25 : decode cX3_noteFinished 25 = .ok (.putfield 53, 3) := by decide +kernel
theorem dX3_noteFinished_28 : decode cX3_noteFinished 28 = .ok (.return_, 1) := by decide +kernel
theorem dX3_putDue_0 : decode cX3_putDue 0 = .ok (.aload_n 0, 1) := by decide +kernel
theorem dX3_putDue_1 : decode cX3_putDue 1 = .ok (.getfield 32, 3) := by decide +kernel
theorem dX3_putDue_4 : decode cX3_putDue 4 = .ok (.iload_n 1, 1) := by decide +kernel
theorem dX3_putDue_5 : decode cX3_putDue 5 = .ok (.aload_n 2, 1) := by decide +kernel
theorem dX3_putDue_6 : decode cX3_putDue 6 = .ok (.iload_n 3, 1) := by decide +kernel
theorem dX3_putDue_7 : decode cX3_putDue 7 = .ok (.iconst 0, 1) := by decide +kernel
theorem dX3_putDue_8 : decode cX3_putDue 8 = .ok (.aload_n 2, 1) := by decide +kernel
theorem dX3_putDue_9 : decode cX3_putDue 9 = .ok (.getfield 113, 3) := by decide +kernel
theorem dX3_putDue_12 : decode cX3_putDue 12 = .ok (.invokestatic 116, 3) := by decide +kernel
theorem dX3_putDue_15 : decode cX3_putDue 15 = .ok (.invokevirtual 120, 3) := by decide +kernel
theorem dX3_putDue_18 : decode cX3_putDue 18 = .ok (.pop, 1) := by decide +kernel
theorem dX3_putDue_19 : decode cX3_putDue 19 = .ok (.return_, 1) := by decide +kernel
theorem dX3_workAsReceiver_0 : decode cX3_workAsReceiver 0 = .ok (.iconst 0, 1) := by decide +kernel
theorem dX3_workAsReceiver_1 : decode cX3_workAsReceiver 1 = .ok (.istore_n 2, 1) := by decide +kernel
theorem dX3_workAsReceiver_2 : decode cX3_workAsReceiver 2 = .ok (.iload_n 2, 1) := by decide +kernel
theorem dX3_workAsReceiver_3 : decode cX3_workAsReceiver 3 = .ok (.aload_n 0, 1) := by decide +kernel
theorem dX3_workAsReceiver_4 : decode cX3_workAsReceiver 4 = .ok (.getfield 47, 3) := by decide +kernel
theorem dX3_workAsReceiver_7 : decode cX3_workAsReceiver 7 = .ok (.if_icmp .ge 19, 3) := by decide +kernel
theorem dX3_workAsReceiver_10 : decode cX3_workAsReceiver 10 = .ok (.aload_n 0, 1) := by decide +kernel
theorem dX3_workAsReceiver_11 : decode cX3_workAsReceiver 11 = .ok (.aload_n 0, 1) := by decide +kernel
theorem dX3_workAsReceiver_12 : decode cX3_workAsReceiver 12 = .ok (.getfield 17, 3) := by decide +kernel
theorem dX3_workAsReceiver_15 : decode cX3_workAsReceiver 15 = .ok (.iload_n 2, 1) := by decide +kernel
theorem dX3_workAsReceiver_16 : decode cX3_workAsReceiver 16 = .ok (.aaload, 1) := by decide +kernel
theorem dX3_workAsReceiver_17 : decode cX3_workAsReceiver 17 = .ok (.invokevirtual 124, 3) := by decide +kernel
theorem dX3_workAsReceiver_20 : decode cX3_workAsReceiver 20 = .ok (.iinc 2 1, 3) := by decide +kernel
theorem dX3_workAsReceiver_23 : decode cX3_workAsReceiver 23 = .ok (.goto (-21), 3) := by decide +kernel
theorem dX3_workAsReceiver_26 : decode cX3_workAsReceiver 26 = .ok (.iconst 0, 1) := by decide +kernel
theorem dX3_workAsReceiver_27 : decode cX3_workAsReceiver 27 = .ok (.istore_n 2, 1) := by decide +kernel
theorem dX3_workAsReceiver_28 : decode cX3_workAsReceiver 28 = .ok (.iload_n 2, 1) := by decide +kernel
theorem dX3_workAsReceiver_29 : decode cX3_workAsReceiver 29 = .ok (.aload_n 0, 1) := by decide +kernel
theorem dX3_workAsReceiver_30 : decode cX3_workAsReceiver 30 = .ok (.getfield 47, 3) := by decide +kernel
theorem dX3_workAsReceiver_33 : decode cX3_workAsReceiver 33 = .ok (.if_icmp .ge 22, 3) := by decide +kernel
theorem dX3_workAsReceiver_36 : decode cX3_workAsReceiver 36 = .ok (.aload_n 0, 1) := by decide +kernel
theorem dX3_workAsReceiver_37 : decode cX3_workAsReceiver 37 = .ok (.getfield 17, 3) := by decide +kernel
theorem dX3_workAsReceiver_40 : decode cX3_workAsReceiver 40 = .ok (.iload_n 2, 1) := by decide +kernel
theorem dX3_workAsReceiver_41 : decode cX3_workAsReceiver 41 = .ok (.aaload, 1) := by decide +kernel
theorem dX3_workAsReceiver_42 : decode cX3_workAsReceiver 42 = .ok (.getfield 71, 3) := by decide +kernel
theorem dX3_workAsReceiver_45 : decode cX3_workAsReceiver 45 = .ok (.iload_n 1, 1) := by decide +kernel
theorem dX3_workAsReceiver_46 : decode cX3_workAsReceiver 46 = .ok (.invokevirtual 127, 3) := by decide +kernel
theorem dX3_workAsReceiver_49 : decode cX3_workAsReceiver 49 = .ok (.iinc 2 1, 3) := by decide +kernel
theorem dX3_workAsReceiver_52 : decode cX3_workAsReceiver 52 = .ok (.goto (-24), 3) := by decide +kernel
theorem dX3_workAsReceiver_55 : decode cX3_workAsReceiver 55 = .ok (.aload_n 0, 1) := by decide +kernel
theorem dX3_workAsReceiver_56 : decode cX3_workAsReceiver 56 = .ok (.invokevirtual 130, 3) := by decide +kernel
theorem dX3_workAsReceiver_59 : decode cX3_workAsReceiver 59 = .ok (.return_, 1) := by decide +kernel
theorem dX3_listen_0 : decode cX3_listen 0 = .ok (.aload_n 1, 1) := by decide +kernel
theorem dX3_listen_1 : decode cX3_listen 1 = .ok (.getfield 71, 3) := by decide +kernel
theorem dX3_listen_4 : decode cX3_listen 4 = .ok (.invokevirtual 84, 3) := by decide +kernel
theorem dX3_listen_7 : decode cX3_listen 7 = .ok (.ifCond .eq 26, 3) := by decide +kernel
theorem dX3_listen_10 : decode cX3_listen 10 = .ok (.aload_n 1, 1) := by decide +kernel
theorem dX3_listen_11 : decode cX3_listen 11 = .ok (.getfield 71, 3) := by decide +kernel
theorem dX3_listen_14 : decode cX3_listen 14 = .ok (.invokevirtual 133, 3) := by decide +kernel
theorem dX3_listen_17 : decode cX3_listen 17 = .ok (.ifCond .eq 16, 3) := by decide +kernel
theorem dX3_listen_20 : decode cX3_listen 20 = .ok (.aload_n 0, 1) := by decide +kernel
theorem dX3_listen_21 : decode cX3_listen 21 = .ok (.iconst 2, 1) := by decide +kernel
theorem dX3_listen_22 : decode cX3_listen 22 = .ok (.aload_n 1, 1) := by decide +kernel
theorem dX3_listen_23 : decode cX3_listen 23 = .ok (.aload_n 1, 1) := by decide +kernel
theorem dX3_listen_24 : decode cX3_listen 24 = .ok (.getfield 71, 3) := by decide +kernel
theorem dX3_listen_27 : decode cX3_listen 27 = .ok (.invokevirtual 136, 3) := by decide +kernel
theorem dX3_listen_30 : decode cX3_listen 30 = .ok (.invokevirtual 100, 3) := by decide +kernel
theorem dX3_listen_33 : decode cX3_listen 33 = .ok (.return_, 1) := by decide +kernel
theorem dX3_choose_0 : decode cX3_choose 0 = .ok (.aconst_null, 1) := by decide +kernel
theorem dX3_choose_1 : decode cX3_choose 1 = .ok (.astore_n 1, 1) := by decide +kernel
theorem dX3_choose_2 : decode cX3_choose 2 = .ok (.iconst 0, 1) := by decide +kernel
theorem dX3_choose_3 : decode cX3_choose 3 = .ok (.istore_n 2, 1) := by decide +kernel
theorem dX3_choose_4 : decode cX3_choose 4 = .ok (.iload_n 2, 1) := by decide +kernel
theorem dX3_choose_5 : decode cX3_choose 5 = .ok (.iconst 3, 1) := by decide +kernel
theorem dX3_choose_6 : decode cX3_choose 6 = .ok (.if_icmp .ge 75, 3) := by decide +kernel
theorem dX3_choose_9 : decode cX3_choose 9 = .ok (.iload_n 2, 1) := by decide +kernel
theorem dX3_choose_10 : decode cX3_choose 10 = .ok (.ifCond .le 11, 3) := by decide +kernel
theorem dX3_choose_13 : decode cX3_choose 13 = .ok (.aload_n 1, 1) := by decide +kernel
theorem dX3_choose_14 : decode cX3_choose 14 = .ok (.ifnonnull 7, 3) := by decide +kernel
theorem dX3_choose_17 : decode cX3_choose 17 = .ok (.aconst_null, 1) := by decide +kernel
theorem dX3_choose_18 : decode cX3_choose 18 = .ok (.goto 8, 3) := by decide +kernel
theorem dX3_choose_21 : decode cX3_choose 21 = .ok (.aload_n 0, 1) := by decide +kernel
theorem dX3_choose_22 : decode cX3_choose 22 = .ok (.aload_n 1, 1) := by decide +kernel
theorem dX3_choose_23 : decode cX3_choose 23 = .ok (.invokevirtual 140, 3) := by decide +kernel
theorem dX3_choose_26 : decode cX3_choose 26 = .ok (.astore_n 3, 1) := by decide +kernel
theorem dX3_choose_27 : decode cX3_choose 27 = .ok (.aload_n 0, 1) := by decide +kernel
theorem dX3_choose_28 : decode cX3_choose 28 = .ok (.getfield 36, 3) := by decide +kernel
theorem dX3_choose_31 : decode cX3_choose 31 = .ok (.iload_n 2, 1) := by decide +kernel
theorem dX3_choose_32 : decode cX3_choose 32 = .ok (.aload_n 3, 1) := by decide +kernel
theorem dX3_choose_33 : decode cX3_choose 33 = .ok (.ifnonnull 7, 3) := by decide +kernel
theorem dX3_choose_36 : decode cX3_choose 36 = .ok (.iconst (-1), 1) := by decide +kernel
theorem dX3_choose_37 : decode cX3_choose 37 = .ok (.goto 7, 3) := by decide +kernel
theorem dX3_choose_40 : decode cX3_choose 40 = .ok (.aload_n 3, 1) := by decide +kernel
theorem dX3_choose_41 : decode cX3_choose 41 = .ok (.getfield 110, 3) := by decide +kernel
theorem dX3_choose_44 : decode cX3_choose 44 = .ok (.iastore, 1) := by decide +kernel
theorem dX3_choose_45 : decode cX3_choose 45 = .ok (.aload_n 3, 1) := by decide +kernel
theorem dX3_choose_46 : decode cX3_choose 46 = .ok (.ifnull 27, 3) := by decide +kernel
theorem dX3_choose_49 : decode cX3_choose 49 = .ok (.aload_n 3, 1) := by decide +kernel
theorem dX3_choose_50 : decode cX3_choose 50 = .ok (.getfield 71, 3) := by decide +kernel
theorem dX3_choose_53 : decode cX3_choose 53 = .ok (.invokevirtual 144, 3) := by decide +kernel
theorem dX3_choose_56 : decode cX3_choose 56 = .ok (.ifCond .eq 17, 3) := by decide +kernel
theorem dX3_choose_59 : decode cX3_choose 59 = .ok (.aload_n 0, 1) := by decide +kernel
theorem dX3_choose_60 : decode cX3_choose 60 = .ok (.iconst 1, 1) := by decide +kernel
theorem dX3_choose_61 : decode cX3_choose 61 = .ok (.aload_n 3, 1) := by decide +kernel
theorem dX3_choose_62 : decode cX3_choose 62 = .ok (.aload_n 3, 1) := by decide +kernel
theorem dX3_choose_63 : decode cX3_choose 63 = .ok (.getfield 71, 3) := by decide +kernel
theorem dX3_choose_66 : decode cX3_choose 66 = .ok (.iload_n 2, 1) := by decide +kernel
theorem dX3_choose_67 : decode cX3_choose 67 = .ok (.invokevirtual 147, 3) := by decide +kernel
theorem dX3_choose_70 : decode cX3_choose 70 = .ok (.invokevirtual 100, 3) := by decide +kernel
theorem dX3_choose_73 : decode cX3_choose 73 = .ok (.aload_n 3, 1) := by decide +kernel
theorem dX3_choose_74 : decode cX3_choose 74 = .ok (.astore_n 1, 1) := by decide +kernel
theorem dX3_choose_75 : decode cX3_choose 75 = .ok (.iinc 2 1, 3) := by decide +kernel
theorem dX3_choose_78 : decode cX3_choose 78 = .ok (.goto (-74), 3) := by decide +kernel
theorem dX3_choose_81 : decode cX3_choose 81 = .ok (.return_, 1) := by decide +kernel
theorem dX3_bestBehind_0 : decode cX3_bestBehind 0 = .ok (.aconst_null, 1) := by decide +kernel
theorem dX3_bestBehind_1 : decode cX3_bestBehind 1 = .ok (.astore_n 2, 1) := by decide +kernel
theorem dX3_bestBehind_2 : decode cX3_bestBehind 2 = .ok (.iconst 0, 1) := by decide +kernel
theorem dX3_bestBehind_3 : decode cX3_bestBehind 3 = .ok (.istore_n 3, 1) := by decide +kernel
theorem dX3_bestBehind_4 : decode cX3_bestBehind 4 = .ok (.iload_n 3, 1) := by decide +kernel
theorem dX3_bestBehind_5 : decode cX3_bestBehind 5 = .ok (.aload_n 0, 1) := by decide +kernel
theorem dX3_bestBehind_6 : decode cX3_bestBehind 6 = .ok (.getfield 47, 3) := by decide +kernel
theorem dX3_bestBehind_9 : decode cX3_bestBehind 9 = .ok (.if_icmp .ge 79, 3) := by decide +kernel
theorem dX3_bestBehind_12 : decode cX3_bestBehind 12 = .ok (.aload_n 0, 1) := by decide +kernel
theorem dX3_bestBehind_13 : decode cX3_bestBehind 13 = .ok (.getfield 17, 3) := by decide +kernel
theorem dX3_bestBehind_16 : decode cX3_bestBehind 16 = .ok (.iload_n 3, 1) := by decide +kernel
theorem dX3_bestBehind_17 : decode cX3_bestBehind 17 = .ok (.aaload, 1) := by decide +kernel
theorem dX3_bestBehind_18 : decode cX3_bestBehind 18 = .ok (.getfield 71, 3) := by decide +kernel
theorem dX3_bestBehind_21 : decode cX3_bestBehind 21 = .ok (.astore 4, 2) := by decide +kernel
theorem dX3_bestBehind_23 : decode cX3_bestBehind 23 = .ok (.aload 4, 2) := by decide +kernel
theorem dX3_bestBehind_25 : decode cX3_bestBehind 25 = .ok (.invokevirtual 84, 3) := by decide +kernel
theorem dX3_bestBehind_28 : decode cX3_bestBehind 28 = .ok (.ifCond .eq 23, 3) := by decide +kernel
theorem dX3_bestBehind_31 : decode cX3_bestBehind 31 = .ok (.aload_n 1, 1) := by decide +kernel
theorem dX3_bestBehind_32 : decode cX3_bestBehind 32 = .ok (.ifnull 15, 3) := by decide +kernel
theorem dX3_bestBehind_35 : decode cX3_bestBehind 35 = .ok (.aload_n 1, 1) := by decide +kernel
theorem dX3_bestBehind_36 : decode cX3_bestBehind 36 = .ok (.getfield 71, 3) := by decide +kernel
theorem dX3_bestBehind_39 : decode cX3_bestBehind 39 = .ok (.aload 4, 2) := by decide +kernel
theorem dX3_bestBehind_41 : decode cX3_bestBehind 41 = .ok (.invokevirtual 151, 3) := by decide +kernel
theorem dX3_bestBehind_44 : decode cX3_bestBehind 44 = .ok (.ifCond .eq 7, 3) := by decide +kernel
theorem dX3_bestBehind_47 : decode cX3_bestBehind 47 = .ok (.iconst 1, 1) := by decide +kernel
theorem dX3_bestBehind_48 : decode cX3_bestBehind 48 = .ok (.goto 4, 3) := by decide +kernel
theorem dX3_bestBehind_51 : decode cX3_bestBehind 51 = .ok (.iconst 0, 1) := by decide +kernel
theorem dX3_bestBehind_52 : decode cX3_bestBehind 52 = .ok (.istore 5, 2) := by decide +kernel
theorem dX3_bestBehind_54 : decode cX3_bestBehind 54 = .ok (.iload 5, 2) := by decide +kernel
theorem dX3_bestBehind_56 : decode cX3_bestBehind 56 = .ok (.ifCond .eq 26, 3) := by decide +kernel
theorem dX3_bestBehind_59 : decode cX3_bestBehind 59 = .ok (.aload_n 2, 1) := by decide +kernel
theorem dX3_bestBehind_60 : decode cX3_bestBehind 60 = .ok (.ifnull 15, 3) := by decide +kernel
theorem dX3_bestBehind_63 : decode cX3_bestBehind 63 = .ok (.aload 4, 2) := by decide +kernel
theorem dX3_bestBehind_65 : decode cX3_bestBehind 65 = .ok (.aload_n 2, 1) := by decide +kernel
theorem dX3_bestBehind_66 : decode cX3_bestBehind 66 = .ok (.getfield 71, 3) := by decide +kernel
theorem dX3_bestBehind_69 : decode cX3_bestBehind 69 = .ok (.invokevirtual 151, 3) := by decide +kernel
theorem dX3_bestBehind_72 : decode cX3_bestBehind 72 = .ok (.ifCond .eq 10, 3) := by decide +kernel
theorem dX3_bestBehind_75 : decode cX3_bestBehind 75 = .ok (.aload_n 0, 1) := by decide +kernel
theorem dX3_bestBehind_76 : decode cX3_bestBehind 76 = .ok (.getfield 17, 3) := by decide +kernel
theorem dX3_bestBehind_79 : decode cX3_bestBehind 79 = .ok (.iload_n 3, 1) := by decide +kernel
theorem dX3_bestBehind_80 : decode cX3_bestBehind 80 = .ok (.aaload, 1) := by decide +kernel
theorem dX3_bestBehind_81 : decode cX3_bestBehind 81 = .ok (.astore_n 2, 1) := by decide +kernel
theorem dX3_bestBehind_82 : decode cX3_bestBehind 82 = .ok (.iinc 3 1, 3) := by decide +kernel
theorem dX3_bestBehind_85 : decode cX3_bestBehind 85 = .ok (.goto (-81), 3) := by decide +kernel
theorem dX3_bestBehind_88 : decode cX3_bestBehind 88 = .ok (.aload_n 2, 1) := by decide +kernel
theorem dX3_bestBehind_89 : decode cX3_bestBehind 89 = .ok (.areturn, 1) := by decide +kernel
theorem dX3_workAsSender_0 : decode cX3_workAsSender 0 = .ok (.iconst 0, 1) := by decide +kernel
theorem dX3_workAsSender_1 : decode cX3_workAsSender 1 = .ok (.istore_n 2, 1) := by decide +kernel
theorem dX3_workAsSender_2 : decode cX3_workAsSender 2 = .ok (.iload_n 2, 1) := by decide +kernel
theorem dX3_workAsSender_3 : decode cX3_workAsSender 3 = .ok (.aload_n 0, 1) := by decide +kernel
theorem dX3_workAsSender_4 : decode cX3_workAsSender 4 = .ok (.getfield 43, 3) := by decide +kernel
theorem dX3_workAsSender_7 : decode cX3_workAsSender 7 = .ok (.if_icmp .ge 22, 3) := by decide +kernel
theorem dX3_workAsSender_10 : decode cX3_workAsSender 10 = .ok (.aload_n 0, 1) := by decide +kernel
theorem dX3_workAsSender_11 : decode cX3_workAsSender 11 = .ok (.getfield 11, 3) := by decide +kernel
theorem dX3_workAsSender_14 : decode cX3_workAsSender 14 = .ok (.iload_n 2, 1) := by decide +kernel
theorem dX3_workAsSender_15 : decode cX3_workAsSender 15 = .ok (.aaload, 1) := by decide +kernel
theorem dX3_workAsSender_16 : decode cX3_workAsSender 16 = .ok (.getfield 155, 3) := by decide +kernel
theorem dX3_workAsSender_19 : decode cX3_workAsSender 19 = .ok (.iload_n 1, 1) := by decide +kernel
theorem dX3_workAsSender_20 : decode cX3_workAsSender 20 = .ok (.invokevirtual 159, 3) := by decide +kernel
theorem dX3_workAsSender_23 : decode cX3_workAsSender 23 = .ok (.iinc 2 1, 3) := by decide +kernel
theorem dX3_workAsSender_26 : decode cX3_workAsSender 26 = .ok (.goto (-24), 3) := by decide +kernel
theorem dX3_workAsSender_29 : decode cX3_workAsSender 29 = .ok (.return_, 1) := by decide +kernel
theorem dX3_nextPacket_0 : decode cX3_nextPacket 0 = .ok (.aload_n 0, 1) := by decide +kernel
theorem dX3_nextPacket_1 : decode cX3_nextPacket 1 = .ok (.getfield 32, 3) := by decide +kernel
theorem dX3_nextPacket_4 : decode cX3_nextPacket 4 = .ok (.invokevirtual 164, 3) := by decide +kernel
theorem dX3_nextPacket_7 : decode cX3_nextPacket 7 = .ok (.ifCond .le 13, 3) := by decide +kernel
theorem dX3_nextPacket_10 : decode cX3_nextPacket 10 = .ok (.aload_n 0, 1) := by decide +kernel
theorem dX3_nextPacket_11 : decode cX3_nextPacket 11 = .ok (.getfield 32, 3) := by decide +kernel
theorem dX3_nextPacket_14 : decode cX3_nextPacket 14 = .ok (.invokevirtual 167, 3) := by decide +kernel
theorem dX3_nextPacket_17 : decode cX3_nextPacket 17 = .ok (.goto 7, 3) := by decide +kernel
theorem dX3_nextPacket_20 : decode cX3_nextPacket 20 = .ok (.aload_n 0, 1) := by decide +kernel
theorem dX3_nextPacket_21 : decode cX3_nextPacket 21 = .ok (.invokevirtual 169, 3) := by decide +kernel
theorem dX3_nextPacket_24 : decode cX3_nextPacket 24 = .ok (.istore_n 1, 1) := by decide +kernel
theorem dX3_nextPacket_25 : decode cX3_nextPacket 25 = .ok (.iload_n 1, 1) := by decide +kernel
theorem dX3_nextPacket_26 : decode cX3_nextPacket 26 = .ok (.iconst (-1), 1) := by decide +kernel
theorem dX3_nextPacket_27 : decode cX3_nextPacket 27 = .ok (.if_icmp .eq 13, 3) := by decide +kernel
theorem dX3_nextPacket_30 : decode cX3_nextPacket 30 = .ok (.aload_n 0, 1) := by decide +kernel
theorem dX3_nextPacket_31 : decode cX3_nextPacket 31 = .ok (.dup, 1) := by decide +kernel
theorem dX3_nextPacket_32 : decode cX3_nextPacket 32 = .ok (.getfield 56, 3) := by decide +kernel
theorem dX3_nextPacket_35 : decode cX3_nextPacket 35 = .ok (.iconst 1, 1) := by decide +kernel
theorem dX3_nextPacket_36 : decode cX3_nextPacket 36 = .ok (.iadd, 1) := by decide +kernel
theorem dX3_nextPacket_37 : decode cX3_nextPacket 37 = .ok (.putfield 56, 3) := by decide +kernel
theorem dX3_nextPacket_40 : decode cX3_nextPacket 40 = .ok (.iload_n 1, 1) := by decide +kernel
theorem dX3_nextPacket_41 : decode cX3_nextPacket 41 = .ok (.ireturn, 1) := by decide +kernel
theorem dX3_nextData_0 : decode cX3_nextData 0 = .ok (.aload_n 0, 1) := by decide +kernel
theorem dX3_nextData_1 : decode cX3_nextData 1 = .ok (.invokevirtual 172, 3) := by decide +kernel
theorem dX3_nextData_4 : decode cX3_nextData 4 = .ok (.astore_n 1, 1) := by decide +kernel
theorem dX3_nextData_5 : decode cX3_nextData 5 = .ok (.aload_n 1, 1) := by decide +kernel
theorem dX3_nextData_6 : decode cX3_nextData 6 = .ok (.ifnonnull 5, 3) := by decide +kernel
theorem dX3_nextData_9 : decode cX3_nextData 9 = .ok (.iconst (-1), 1) := by decide +kernel
theorem dX3_nextData_10 : decode cX3_nextData 10 = .ok (.ireturn, 1) := by decide +kernel
theorem dX3_nextData_11 : decode cX3_nextData 11 = .ok (.aload_n 1, 1) := by decide +kernel
theorem dX3_nextData_12 : decode cX3_nextData 12 = .ok (.getfield 155, 3) := by decide +kernel
theorem dX3_nextData_15 : decode cX3_nextData 15 = .ok (.invokevirtual 176, 3) := by decide +kernel
theorem dX3_nextData_18 : decode cX3_nextData 18 = .ok (.istore_n 2, 1) := by decide +kernel
theorem dX3_nextData_19 : decode cX3_nextData 19 = .ok (.iload_n 2, 1) := by decide +kernel
theorem dX3_nextData_20 : decode cX3_nextData 20 = .ok (.iconst 4, 1) := by decide +kernel
theorem dX3_nextData_21 : decode cX3_nextData 21 = .ok (.if_icmp .ge 17, 3) := by decide +kernel
theorem dX3_nextData_24 : decode cX3_nextData 24 = .ok (.aload_n 0, 1) := by decide +kernel
theorem dX3_nextData_25 : decode cX3_nextData 25 = .ok (.getfield 23, 3) := by decide +kernel
theorem dX3_nextData_28 : decode cX3_nextData 28 = .ok (.aload_n 1, 1) := by decide +kernel
theorem dX3_nextData_29 : decode cX3_nextData 29 = .ok (.getfield 65, 3) := by decide +kernel
theorem dX3_nextData_32 : decode cX3_nextData 32 = .ok (.invokevirtual 179, 3) := by decide +kernel
theorem dX3_nextData_35 : decode cX3_nextData 35 = .ok (.goto 10, 3) := by decide +kernel
theorem dX3_nextData_38 : decode cX3_nextData 38 = .ok (.aload_n 1, 1) := by decide +kernel
theorem dX3_nextData_39 : decode cX3_nextData 39 = .ok (.getfield 155, 3) := by decide +kernel
theorem dX3_nextData_42 : decode cX3_nextData 42 = .ok (.invokevirtual 182, 3) := by decide +kernel
theorem dX3_nextData_45 : decode cX3_nextData 45 = .ok (.istore_n 3, 1) := by decide +kernel
theorem dX3_nextData_46 : decode cX3_nextData 46 = .ok (.iconst 0, 1) := by decide +kernel
theorem dX3_nextData_47 : decode cX3_nextData 47 = .ok (.aload_n 1, 1) := by decide +kernel
theorem dX3_nextData_48 : decode cX3_nextData 48 = .ok (.iload_n 2, 1) := by decide +kernel
theorem dX3_nextData_49 : decode cX3_nextData 49 = .ok (.iload_n 3, 1) := by decide +kernel
theorem dX3_nextData_50 : decode cX3_nextData 50 = .ok (.aload_n 1, 1) := by decide +kernel
theorem dX3_nextData_51 : decode cX3_nextData 51 = .ok (.getfield 185, 3) := by decide +kernel
theorem dX3_nextData_54 : decode cX3_nextData 54 = .ok (.invokestatic 116, 3) := by decide +kernel
theorem dX3_nextData_57 : decode cX3_nextData 57 = .ok (.ireturn, 1) := by decide +kernel
theorem dX3_shortestToSend_0 : decode cX3_shortestToSend 0 = .ok (.aconst_null, 1) := by decide +kernel
theorem dX3_shortestToSend_1 : decode cX3_shortestToSend 1 = .ok (.astore_n 1, 1) := by decide +kernel
theorem dX3_shortestToSend_2 : decode cX3_shortestToSend 2 = .ok (.iconst 0, 1) := by decide +kernel
theorem dX3_shortestToSend_3 : decode cX3_shortestToSend 3 = .ok (.istore_n 2, 1) := by decide +kernel
theorem dX3_shortestToSend_4 : decode cX3_shortestToSend 4 = .ok (.iload_n 2, 1) := by decide +kernel
theorem dX3_shortestToSend_5 : decode cX3_shortestToSend 5 = .ok (.aload_n 0, 1) := by decide +kernel
theorem dX3_shortestToSend_6 : decode cX3_shortestToSend 6 = .ok (.getfield 43, 3) := by decide +kernel
theorem dX3_shortestToSend_9 : decode cX3_shortestToSend 9 = .ok (.if_icmp .ge 49, 3) := by decide +kernel
theorem dX3_shortestToSend_12 : decode cX3_shortestToSend 12 = .ok (.aload_n 0, 1) := by decide +kernel
theorem dX3_shortestToSend_13 : decode cX3_shortestToSend 13 = .ok (.getfield 11, 3) := by decide +kernel
theorem dX3_shortestToSend_16 : decode cX3_shortestToSend 16 = .ok (.iload_n 2, 1) := by decide +kernel
theorem dX3_shortestToSend_17 : decode cX3_shortestToSend 17 = .ok (.aaload, 1) := by decide +kernel
theorem dX3_shortestToSend_18 : decode cX3_shortestToSend 18 = .ok (.astore_n 3, 1) := by decide +kernel
theorem dX3_shortestToSend_19 : decode cX3_shortestToSend 19 = .ok (.aload_n 3, 1) := by decide +kernel
theorem dX3_shortestToSend_20 : decode cX3_shortestToSend 20 = .ok (.getfield 155, 3) := by decide +kernel
theorem dX3_shortestToSend_23 : decode cX3_shortestToSend 23 = .ok (.invokevirtual 188, 3) := by decide +kernel
theorem dX3_shortestToSend_26 : decode cX3_shortestToSend 26 = .ok (.ifCond .eq 26, 3) := by decide +kernel
theorem dX3_shortestToSend_29 : decode cX3_shortestToSend 29 = .ok (.aload_n 1, 1) := by decide +kernel
theorem dX3_shortestToSend_30 : decode cX3_shortestToSend 30 = .ok (.ifnull 20, 3) := by decide +kernel
theorem dX3_shortestToSend_33 : decode cX3_shortestToSend 33 = .ok (.aload_n 3, 1) := by decide +kernel
theorem dX3_shortestToSend_34 : decode cX3_shortestToSend 34 = .ok (.getfield 155, 3) := by decide +kernel
theorem dX3_shortestToSend_37 : decode cX3_shortestToSend 37 = .ok (.invokevirtual 191, 3) := by decide +kernel
theorem dX3_shortestToSend_40 : decode cX3_shortestToSend 40 = .ok (.aload_n 1, 1) := by decide +kernel
theorem dX3_shortestToSend_41 : decode cX3_shortestToSend 41 = .ok (.getfield 155, 3) := by decide +kernel
theorem dX3_shortestToSend_44 : decode cX3_shortestToSend 44 = .ok (.invokevirtual 191, 3) := by decide +kernel
theorem dX3_shortestToSend_47 : decode cX3_shortestToSend 47 = .ok (.if_icmp .ge 5, 3) := by decide +kernel
theorem dX3_shortestToSend_50 : decode cX3_shortestToSend 50 = .ok (.aload_n 3, 1) := by decide +kernel
theorem dX3_shortestToSend_51 : decode cX3_shortestToSend 51 = .ok (.astore_n 1, 1) := by decide +kernel
theorem dX3_shortestToSend_52 : decode cX3_shortestToSend 52 = .ok (.iinc 2 1, 3) := by decide +kernel
theorem dX3_shortestToSend_55 : decode cX3_shortestToSend 55 = .ok (.goto (-51), 3) := by decide +kernel
theorem dX3_shortestToSend_58 : decode cX3_shortestToSend 58 = .ok (.aload_n 1, 1) := by decide +kernel
theorem dX3_shortestToSend_59 : decode cX3_shortestToSend 59 = .ok (.areturn, 1) := by decide +kernel
theorem dX3_latestFinished_0 : decode cX3_latestFinished 0 = .ok (.iload_n 1, 1) := by decide +kernel
theorem dX3_latestFinished_1 : decode cX3_latestFinished 1 = .ok (.ifCond .lt 21, 3) := by decide +kernel
theorem dX3_latestFinished_4 : decode cX3_latestFinished 4 = .ok (.iload_n 1, 1) := by decide +kernel
theorem dX3_latestFinished_5 : decode cX3_latestFinished 5 = .ok (.bipush 64, 2) := by decide +kernel
theorem dX3_latestFinished_7 : decode cX3_latestFinished 7 = .ok (.if_icmp .ge 15, 3) := by decide +kernel
theorem dX3_latestFinished_10 : decode cX3_latestFinished 10 = .ok (.iload_n 1, 1) := by decide +kernel
theorem dX3_latestFinished_11 : decode cX3_latestFinished 11 = .ok (.aload_n 0, 1) := by decide +kernel
theorem dX3_latestFinished_12 : decode cX3_latestFinished 12 = .ok (.getfield 53, 3) := by decide +kernel
theorem dX3_latestFinished_15 : decode cX3_latestFinished 15 = .ok (.if_icmp .ge 7, 3) := by decide +kernel
theorem dX3_latestFinished_18 : decode cX3_latestFinished 18 = .ok (.iconst 1, 1) := by decide +kernel
theorem dX3_latestFinished_19 : decode cX3_latestFinished 19 = .ok (.goto 4, 3) := by decide +kernel
theorem dX3_latestFinished_22 : decode cX3_latestFinished 22 = .ok (.iconst 0, 1) := by decide +kernel
theorem dX3_latestFinished_23 : decode cX3_latestFinished 23 = .ok (.istore_n 2, 1) := by decide +kernel
theorem dX3_latestFinished_24 : decode cX3_latestFinished 24 = .ok (.iload_n 2, 1) := by decide +kernel
theorem dX3_latestFinished_25 : decode cX3_latestFinished 25 = .ok (.ifCond .eq 24, 3) := by decide +kernel
theorem dX3_latestFinished_28 : decode cX3_latestFinished 28 = .ok (.aload_n 0, 1) := by decide +kernel
theorem dX3_latestFinished_29 : decode cX3_latestFinished 29 = .ok (.getfield 40, 3) := by decide +kernel
theorem dX3_latestFinished_32 : decode cX3_latestFinished 32 = .ok (.aload_n 0, 1) := by decide +kernel
theorem dX3_latestFinished_33 : decode cX3_latestFinished 33 = .ok (.getfield 53, 3) := by decide +kernel
theorem dX3_latestFinished_36 : decode cX3_latestFinished 36 = .ok (.iconst 1, 1) := by decide +kernel
theorem dX3_latestFinished_37 : decode cX3_latestFinished 37 = .ok (.isub, 1) := by decide +kernel
theorem dX3_latestFinished_38 : decode cX3_latestFinished 38 = .ok (.iload_n 1, 1) := by decide +kernel
theorem dX3_latestFinished_39 : decode cX3_latestFinished 39 = .ok (.isub, 1) := by decide +kernel
theorem dX3_latestFinished_40 : decode cX3_latestFinished 40 = .ok (.bipush 64, 2) := by decide +kernel
theorem dX3_latestFinished_42 : decode cX3_latestFinished 42 = .ok (.invokestatic 104, 3) := by decide +kernel
theorem dX3_latestFinished_45 : decode cX3_latestFinished 45 = .ok (.iaload, 1) := by decide +kernel
theorem dX3_latestFinished_46 : decode cX3_latestFinished 46 = .ok (.goto 4, 3) := by decide +kernel
theorem dX3_latestFinished_49 : decode cX3_latestFinished 49 = .ok (.iconst (-1), 1) := by decide +kernel
theorem dX3_latestFinished_50 : decode cX3_latestFinished 50 = .ok (.ireturn, 1) := by decide +kernel
theorem dX3_choice_0 : decode cX3_choice 0 = .ok (.iload_n 1, 1) := by decide +kernel
theorem dX3_choice_1 : decode cX3_choice 1 = .ok (.ifCond .lt 17, 3) := by decide +kernel
theorem dX3_choice_4 : decode cX3_choice 4 = .ok (.iload_n 1, 1) := by decide +kernel
theorem dX3_choice_5 : decode cX3_choice 5 = .ok (.iconst 3, 1) := by decide +kernel
theorem dX3_choice_6 : decode cX3_choice 6 = .ok (.if_icmp .ge 12, 3) := by decide +kernel
theorem dX3_choice_9 : decode cX3_choice 9 = .ok (.aload_n 0, 1) := by decide +kernel
theorem dX3_choice_10 : decode cX3_choice 10 = .ok (.getfield 36, 3) := by decide +kernel
theorem dX3_choice_13 : decode cX3_choice 13 = .ok (.iload_n 1, 1) := by decide +kernel
theorem dX3_choice_14 : decode cX3_choice 14 = .ok (.iaload, 1) := by decide +kernel
theorem dX3_choice_15 : decode cX3_choice 15 = .ok (.goto 4, 3) := by decide +kernel
theorem dX3_choice_18 : decode cX3_choice 18 = .ok (.iconst (-1), 1) := by decide +kernel
theorem dX3_choice_19 : decode cX3_choice 19 = .ok (.ireturn, 1) := by decide +kernel
theorem dX3_tell_0 : decode cX3_tell 0 = .ok (.iload_n 1, 1) := by decide +kernel
theorem dX3_tell_1 : decode cX3_tell 1 = .ok (.tableswitch 78 0 5 #[39, 44, 52, 60, 68, 73], 39) := by decide +kernel
theorem dX3_tell_40 : decode cX3_tell 40 = .ok (.aload_n 0, 1) := by decide +kernel
theorem dX3_tell_41 : decode cX3_tell 41 = .ok (.invokevirtual 194, 3) := by decide +kernel
theorem dX3_tell_44 : decode cX3_tell 44 = .ok (.ireturn, 1) := by decide +kernel
theorem dX3_tell_45 : decode cX3_tell 45 = .ok (.aload_n 0, 1) := by decide +kernel
theorem dX3_tell_46 : decode cX3_tell 46 = .ok (.getfield 32, 3) := by decide +kernel
theorem dX3_tell_49 : decode cX3_tell 49 = .ok (.invokevirtual 164, 3) := by decide +kernel
theorem dX3_tell_52 : decode cX3_tell 52 = .ok (.ireturn, 1) := by decide +kernel
theorem dX3_tell_53 : decode cX3_tell 53 = .ok (.aload_n 0, 1) := by decide +kernel
theorem dX3_tell_54 : decode cX3_tell 54 = .ok (.getfield 23, 3) := by decide +kernel
theorem dX3_tell_57 : decode cX3_tell 57 = .ok (.invokevirtual 197, 3) := by decide +kernel
theorem dX3_tell_60 : decode cX3_tell 60 = .ok (.ireturn, 1) := by decide +kernel
theorem dX3_tell_61 : decode cX3_tell 61 = .ok (.aload_n 0, 1) := by decide +kernel
theorem dX3_tell_62 : decode cX3_tell 62 = .ok (.getfield 23, 3) := by decide +kernel
theorem dX3_tell_65 : decode cX3_tell 65 = .ok (.invokevirtual 200, 3) := by decide +kernel
theorem dX3_tell_68 : decode cX3_tell 68 = .ok (.ireturn, 1) := by decide +kernel
theorem dX3_tell_69 : decode cX3_tell 69 = .ok (.aload_n 0, 1) := by decide +kernel
theorem dX3_tell_70 : decode cX3_tell 70 = .ok (.getfield 56, 3) := by decide +kernel
theorem dX3_tell_73 : decode cX3_tell 73 = .ok (.ireturn, 1) := by decide +kernel
theorem dX3_tell_74 : decode cX3_tell 74 = .ok (.aload_n 0, 1) := by decide +kernel
theorem dX3_tell_75 : decode cX3_tell 75 = .ok (.getfield 53, 3) := by decide +kernel
theorem dX3_tell_78 : decode cX3_tell 78 = .ok (.ireturn, 1) := by decide +kernel
theorem dX3_tell_79 : decode cX3_tell 79 = .ok (.iconst (-1), 1) := by decide +kernel
theorem dX3_tell_80 : decode cX3_tell 80 = .ok (.ireturn, 1) := by decide +kernel
theorem dX3_grantedAndNotIn_0 : decode cX3_grantedAndNotIn 0 = .ok (.iconst 0, 1) := by decide +kernel
theorem dX3_grantedAndNotIn_1 : decode cX3_grantedAndNotIn 1 = .ok (.istore_n 1, 1) := by decide +kernel
theorem dX3_grantedAndNotIn_2 : decode cX3_grantedAndNotIn 2 = .ok (.iconst 0, 1) := by decide +kernel
theorem dX3_grantedAndNotIn_3 : decode cX3_grantedAndNotIn 3 = .ok (.istore_n 2, 1) := by decide +kernel
theorem dX3_grantedAndNotIn_4 : decode cX3_grantedAndNotIn 4 = .ok (.iload_n 2, 1) := by decide +kernel
theorem dX3_grantedAndNotIn_5 : decode cX3_grantedAndNotIn 5 = .ok (.aload_n 0, 1) := by decide +kernel
theorem dX3_grantedAndNotIn_6 : decode cX3_grantedAndNotIn 6 = .ok (.getfield 47, 3) := by decide +kernel
theorem dX3_grantedAndNotIn_9 : decode cX3_grantedAndNotIn 9 = .ok (.if_icmp .ge 24, 3) := by decide +kernel
theorem dX3_grantedAndNotIn_12 : decode cX3_grantedAndNotIn 12 = .ok (.iload_n 1, 1) := by decide +kernel
theorem dX3_grantedAndNotIn_13 : decode cX3_grantedAndNotIn 13 = .ok (.aload_n 0, 1) := by decide +kernel
theorem dX3_grantedAndNotIn_14 : decode cX3_grantedAndNotIn 14 = .ok (.getfield 17, 3) := by decide +kernel
theorem dX3_grantedAndNotIn_17 : decode cX3_grantedAndNotIn 17 = .ok (.iload_n 2, 1) := by decide +kernel
theorem dX3_grantedAndNotIn_18 : decode cX3_grantedAndNotIn 18 = .ok (.aaload, 1) := by decide +kernel
theorem dX3_grantedAndNotIn_19 : decode cX3_grantedAndNotIn 19 = .ok (.getfield 71, 3) := by decide +kernel
theorem dX3_grantedAndNotIn_22 : decode cX3_grantedAndNotIn 22 = .ok (.invokevirtual 203, 3) := by decide +kernel
theorem dX3_grantedAndNotIn_25 : decode cX3_grantedAndNotIn 25 = .ok (.iadd, 1) := by decide +kernel
theorem dX3_grantedAndNotIn_26 : decode cX3_grantedAndNotIn 26 = .ok (.istore_n 1, 1) := by decide +kernel
theorem dX3_grantedAndNotIn_27 : decode cX3_grantedAndNotIn 27 = .ok (.iinc 2 1, 3) := by decide +kernel
theorem dX3_grantedAndNotIn_30 : decode cX3_grantedAndNotIn 30 = .ok (.goto (-26), 3) := by decide +kernel
theorem dX3_grantedAndNotIn_33 : decode cX3_grantedAndNotIn 33 = .ok (.iload_n 1, 1) := by decide +kernel
theorem dX3_grantedAndNotIn_34 : decode cX3_grantedAndNotIn 34 = .ok (.ireturn, 1) := by decide +kernel
theorem dX4_init_0 : decode cX4_init 0 = .ok (.aload_n 0, 1) := by decide +kernel
theorem dX4_init_1 : decode cX4_init 1 = .ok (.invokespecial 1, 3) := by decide +kernel
theorem dX4_init_4 : decode cX4_init 4 = .ok (.aload_n 0, 1) := by decide +kernel
theorem dX4_init_5 : decode cX4_init 5 = .ok (.iload_n 1, 1) := by decide +kernel
theorem dX4_init_6 : decode cX4_init 6 = .ok (.putfield 7, 3) := by decide +kernel
theorem dX4_init_9 : decode cX4_init 9 = .ok (.aload_n 0, 1) := by decide +kernel
theorem dX4_init_10 : decode cX4_init 10 = .ok (.iload_n 2, 1) := by decide +kernel
theorem dX4_init_11 : decode cX4_init 11 = .ok (.putfield 13, 3) := by decide +kernel
theorem dX4_init_14 : decode cX4_init 14 = .ok (.aload_n 0, 1) := by decide +kernel
theorem dX4_init_15 : decode cX4_init 15 = .ok (.iload_n 3, 1) := by decide +kernel
theorem dX4_init_16 : decode cX4_init 16 = .ok (.putfield 16, 3) := by decide +kernel
theorem dX4_init_19 : decode cX4_init 19 = .ok (.aload_n 0, 1) := by decide +kernel
theorem dX4_init_20 : decode cX4_init 20 = .ok (.iload 4, 2) := by decide +kernel
theorem dX4_init_22 : decode cX4_init 22 = .ok (.putfield 19, 3) := by decide +kernel
theorem dX4_init_25 : decode cX4_init 25 = .ok (.aload_n 0, 1) := by decide +kernel
theorem dX4_init_26 : decode cX4_init 26 = .ok (.new 22, 3) := by decide +kernel
theorem dX4_init_29 : decode cX4_init 29 = .ok (.dup, 1) := by decide +kernel
theorem dX4_init_30 : decode cX4_init 30 = .ok (.iload 4, 2) := by decide +kernel
theorem dX4_init_32 : decode cX4_init 32 = .ok (.invokespecial 24, 3) := by decide +kernel
theorem dX4_init_35 : decode cX4_init 35 = .ok (.putfield 27, 3) := by decide +kernel
theorem dX4_init_38 : decode cX4_init 38 = .ok (.aload_n 0, 1) := by decide +kernel
theorem dX4_init_39 : decode cX4_init 39 = .ok (.new 31, 3) := by decide +kernel
theorem dX4_init_42 : decode cX4_init 42 = .ok (.dup, 1) := by decide +kernel
theorem dX4_init_43 : decode cX4_init 43 = .ok (.iload 4, 2) := by decide +kernel
theorem dX4_init_45 : decode cX4_init 45 = .ok (.iload 5, 2) := by decide +kernel
theorem dX4_init_47 : decode cX4_init 47 = .ok (.iconst 1, 1) := by decide +kernel
theorem dX4_init_48 : decode cX4_init 48 = .ok (.if_icmp .ne 7, 3) := by decide +kernel
theorem dX4_init_51 : decode cX4_init 51 = .ok (.iconst 1, 1) := by decide +kernel
theorem dX4_init_52 : decode cX4_init 52 = .ok (.goto 4, 3) := by decide +kernel
theorem dX4_init_55 : decode cX4_init 55 = .ok (.iconst 0, 1) := by decide +kernel
theorem dX4_init_56 : decode cX4_init 56 = .ok (.invokespecial 33, 3) := by decide +kernel
theorem dX4_init_59 : decode cX4_init 59 = .ok (.putfield 36, 3) := by decide +kernel
theorem dX4_init_62 : decode cX4_init 62 = .ok (.return_, 1) := by decide +kernel
theorem dX5_pack_0 : decode cX5_pack 0 = .ok (.iload_n 0, 1) := by decide +kernel
theorem dX5_pack_1 : decode cX5_pack 1 = .ok (.istore 5, 2) := by decide +kernel
theorem dX5_pack_3 : decode cX5_pack 3 = .ok (.iload 5, 2) := by decide +kernel
theorem dX5_pack_5 : decode cX5_pack 5 = .ok (.iconst 2, 1) := by decide +kernel
theorem dX5_pack_6 : decode cX5_pack 6 = .ok (.ishl, 1) := by decide +kernel
theorem dX5_pack_7 : decode cX5_pack 7 = .ok (.iload_n 3, 1) := by decide +kernel
theorem dX5_pack_8 : decode cX5_pack 8 = .ok (.ior, 1) := by decide +kernel
theorem dX5_pack_9 : decode cX5_pack 9 = .ok (.istore 5, 2) := by decide +kernel
theorem dX5_pack_11 : decode cX5_pack 11 = .ok (.iload 5, 2) := by decide +kernel
theorem dX5_pack_13 : decode cX5_pack 13 = .ok (.iconst 3, 1) := by decide +kernel
theorem dX5_pack_14 : decode cX5_pack 14 = .ok (.ishl, 1) := by decide +kernel
theorem dX5_pack_15 : decode cX5_pack 15 = .ok (.iload 4, 2) := by decide +kernel
theorem dX5_pack_17 : decode cX5_pack 17 = .ok (.ior, 1) := by decide +kernel
theorem dX5_pack_18 : decode cX5_pack 18 = .ok (.istore 5, 2) := by decide +kernel
theorem dX5_pack_20 : decode cX5_pack 20 = .ok (.iload 5, 2) := by decide +kernel
theorem dX5_pack_22 : decode cX5_pack 22 = .ok (.bipush 6, 2) := by decide +kernel
theorem dX5_pack_24 : decode cX5_pack 24 = .ok (.ishl, 1) := by decide +kernel
theorem dX5_pack_25 : decode cX5_pack 25 = .ok (.aload_n 1, 1) := by decide +kernel
theorem dX5_pack_26 : decode cX5_pack 26 = .ok (.getfield 11, 3) := by decide +kernel
theorem dX5_pack_29 : decode cX5_pack 29 = .ok (.ior, 1) := by decide +kernel
theorem dX5_pack_30 : decode cX5_pack 30 = .ok (.istore 5, 2) := by decide +kernel
theorem dX5_pack_32 : decode cX5_pack 32 = .ok (.iload 5, 2) := by decide +kernel
theorem dX5_pack_34 : decode cX5_pack 34 = .ok (.bipush 12, 2) := by decide +kernel
theorem dX5_pack_36 : decode cX5_pack 36 = .ok (.ishl, 1) := by decide +kernel
theorem dX5_pack_37 : decode cX5_pack 37 = .ok (.iload_n 2, 1) := by decide +kernel
theorem dX5_pack_38 : decode cX5_pack 38 = .ok (.ior, 1) := by decide +kernel
theorem dX5_pack_39 : decode cX5_pack 39 = .ok (.ireturn, 1) := by decide +kernel
theorem dX5_countOf_0 : decode cX5_countOf 0 = .ok (.iload_n 0, 1) := by decide +kernel
theorem dX5_countOf_1 : decode cX5_countOf 1 = .ok (.sipush 4095, 3) := by decide +kernel
theorem dX5_countOf_4 : decode cX5_countOf 4 = .ok (.iand, 1) := by decide +kernel
theorem dX5_countOf_5 : decode cX5_countOf 5 = .ok (.ireturn, 1) := by decide +kernel
theorem dX5_messageOf_0 : decode cX5_messageOf 0 = .ok (.iload_n 0, 1) := by decide +kernel
theorem dX5_messageOf_1 : decode cX5_messageOf 1 = .ok (.bipush 12, 2) := by decide +kernel
theorem dX5_messageOf_3 : decode cX5_messageOf 3 = .ok (.ishr, 1) := by decide +kernel
theorem dX5_messageOf_4 : decode cX5_messageOf 4 = .ok (.bipush 63, 2) := by decide +kernel
theorem dX5_messageOf_6 : decode cX5_messageOf 6 = .ok (.iand, 1) := by decide +kernel
theorem dX5_messageOf_7 : decode cX5_messageOf 7 = .ok (.ireturn, 1) := by decide +kernel
theorem dX5_goalOf_0 : decode cX5_goalOf 0 = .ok (.iload_n 0, 1) := by decide +kernel
theorem dX5_goalOf_1 : decode cX5_goalOf 1 = .ok (.bipush 18, 2) := by decide +kernel
theorem dX5_goalOf_3 : decode cX5_goalOf 3 = .ok (.ishr, 1) := by decide +kernel
theorem dX5_goalOf_4 : decode cX5_goalOf 4 = .ok (.bipush 7, 2) := by decide +kernel
theorem dX5_goalOf_6 : decode cX5_goalOf 6 = .ok (.iand, 1) := by decide +kernel
theorem dX5_goalOf_7 : decode cX5_goalOf 7 = .ok (.ireturn, 1) := by decide +kernel
theorem dX5_priorityOf_0 : decode cX5_priorityOf 0 = .ok (.iload_n 0, 1) := by decide +kernel
theorem dX5_priorityOf_1 : decode cX5_priorityOf 1 = .ok (.bipush 21, 2) := by decide +kernel
theorem dX5_priorityOf_3 : decode cX5_priorityOf 3 = .ok (.ishr, 1) := by decide +kernel
theorem dX5_priorityOf_4 : decode cX5_priorityOf 4 = .ok (.iconst 3, 1) := by decide +kernel
theorem dX5_priorityOf_5 : decode cX5_priorityOf 5 = .ok (.iand, 1) := by decide +kernel
theorem dX5_priorityOf_6 : decode cX5_priorityOf 6 = .ok (.ireturn, 1) := by decide +kernel
theorem dX5_kindOf_0 : decode cX5_kindOf 0 = .ok (.iload_n 0, 1) := by decide +kernel
theorem dX5_kindOf_1 : decode cX5_kindOf 1 = .ok (.bipush 23, 2) := by decide +kernel
theorem dX5_kindOf_3 : decode cX5_kindOf 3 = .ok (.ishr, 1) := by decide +kernel
theorem dX5_kindOf_4 : decode cX5_kindOf 4 = .ok (.ireturn, 1) := by decide +kernel
theorem dX5_tell_0 : decode cX5_tell 0 = .ok (.iload_n 0, 1) := by decide +kernel
theorem dX5_tell_1 : decode cX5_tell 1 = .ok (.iconst (-1), 1) := by decide +kernel
theorem dX5_tell_2 : decode cX5_tell 2 = .ok (.if_icmp .ne 5, 3) := by decide +kernel
theorem dX5_tell_5 : decode cX5_tell 5 = .ok (.iconst (-1), 1) := by decide +kernel
theorem dX5_tell_6 : decode cX5_tell 6 = .ok (.ireturn, 1) := by decide +kernel
theorem dX5_tell_7 : decode cX5_tell 7 = .ok (.iload_n 1, 1) := by decide +kernel
theorem dX5_tell_8 : decode cX5_tell 8 = .ok (.tableswitch 52 0 3 #[32, 37, 42, 47], 32) := by decide +kernel
theorem dX5_tell_40 : decode cX5_tell 40 = .ok (.iload_n 0, 1) := by decide +kernel
theorem dX5_tell_41 : decode cX5_tell 41 = .ok (.invokestatic 17, 3) := by decide +kernel
theorem dX5_tell_44 : decode cX5_tell 44 = .ok (.ireturn, 1) := by decide +kernel
theorem dX5_tell_45 : decode cX5_tell 45 = .ok (.iload_n 0, 1) := by decide +kernel
theorem dX5_tell_46 : decode cX5_tell 46 = .ok (.invokestatic 21, 3) := by decide +kernel
theorem dX5_tell_49 : decode cX5_tell 49 = .ok (.ireturn, 1) := by decide +kernel
theorem dX5_tell_50 : decode cX5_tell 50 = .ok (.iload_n 0, 1) := by decide +kernel
theorem dX5_tell_51 : decode cX5_tell 51 = .ok (.invokestatic 24, 3) := by decide +kernel
theorem dX5_tell_54 : decode cX5_tell 54 = .ok (.ireturn, 1) := by decide +kernel
theorem dX5_tell_55 : decode cX5_tell 55 = .ok (.iload_n 0, 1) := by decide +kernel
theorem dX5_tell_56 : decode cX5_tell 56 = .ok (.invokestatic 27, 3) := by decide +kernel
theorem dX5_tell_59 : decode cX5_tell 59 = .ok (.ireturn, 1) := by decide +kernel
theorem dX5_tell_60 : decode cX5_tell 60 = .ok (.iconst (-1), 1) := by decide +kernel
theorem dX5_tell_61 : decode cX5_tell 61 = .ok (.ireturn, 1) := by decide +kernel
theorem dX6_init_0 : decode cX6_init 0 = .ok (.aload_n 0, 1) := by decide +kernel
theorem dX6_init_1 : decode cX6_init 1 = .ok (.invokespecial 3, 3) := by decide +kernel
theorem dX6_init_4 : decode cX6_init 4 = .ok (.aload_n 0, 1) := by decide +kernel
theorem dX6_init_5 : decode cX6_init 5 = .ok (.iconst 0, 1) := by decide +kernel
theorem dX6_init_6 : decode cX6_init 6 = .ok (.putfield 11, 3) := by decide +kernel
theorem dX6_init_9 : decode cX6_init 9 = .ok (.aload_n 0, 1) := by decide +kernel
theorem dX6_init_10 : decode cX6_init 10 = .ok (.iconst 0, 1) := by decide +kernel
theorem dX6_init_11 : decode cX6_init 11 = .ok (.putfield 15, 3) := by decide +kernel
theorem dX6_init_14 : decode cX6_init 14 = .ok (.aload_n 0, 1) := by decide +kernel
theorem dX6_init_15 : decode cX6_init 15 = .ok (.lconst 0, 1) := by decide +kernel
theorem dX6_init_16 : decode cX6_init 16 = .ok (.putfield 18, 3) := by decide +kernel
theorem dX6_init_19 : decode cX6_init 19 = .ok (.aload_n 0, 1) := by decide +kernel
theorem dX6_init_20 : decode cX6_init 20 = .ok (.iconst 0, 1) := by decide +kernel
theorem dX6_init_21 : decode cX6_init 21 = .ok (.putfield 22, 3) := by decide +kernel
theorem dX6_init_24 : decode cX6_init 24 = .ok (.aload_n 0, 1) := by decide +kernel
theorem dX6_init_25 : decode cX6_init 25 = .ok (.iconst 0, 1) := by decide +kernel
theorem dX6_init_26 : decode cX6_init 26 = .ok (.putfield 25, 3) := by decide +kernel
theorem dX6_init_29 : decode cX6_init 29 = .ok (.aload_n 0, 1) := by decide +kernel
theorem dX6_init_30 : decode cX6_init 30 = .ok (.iconst 0, 1) := by decide +kernel
theorem dX6_init_31 : decode cX6_init 31 = .ok (.putfield 28, 3) := by decide +kernel
theorem dX6_init_34 : decode cX6_init 34 = .ok (.aload_n 0, 1) := by decide +kernel
theorem dX6_init_35 : decode cX6_init 35 = .ok (.iconst 0, 1) := by decide +kernel
theorem dX6_init_36 : decode cX6_init 36 = .ok (.putfield 31, 3) := by decide +kernel
theorem dX6_init_39 : decode cX6_init 39 = .ok (.aload_n 0, 1) := by decide +kernel
theorem dX6_init_40 : decode cX6_init 40 = .ok (.iconst 0, 1) := by decide +kernel
theorem dX6_init_41 : decode cX6_init 41 = .ok (.putfield 34, 3) := by decide +kernel
theorem dX6_init_44 : decode cX6_init 44 = .ok (.aload_n 0, 1) := by decide +kernel
theorem dX6_init_45 : decode cX6_init 45 = .ok (.iload_n 1, 1) := by decide +kernel
theorem dX6_init_46 : decode cX6_init 46 = .ok (.putfield 37, 3) := by decide +kernel
theorem dX6_init_49 : decode cX6_init 49 = .ok (.aload_n 0, 1) := by decide +kernel
theorem dX6_init_50 : decode cX6_init 50 = .ok (.iload_n 2, 1) := by decide +kernel
theorem dX6_init_51 : decode cX6_init 51 = .ok (.putfield 40, 3) := by decide +kernel
theorem dX6_init_54 : decode cX6_init 54 = .ok (.return_, 1) := by decide +kernel
theorem dX6_targetOfGrant_0 : decode cX6_targetOfGrant 0 = .ok (.iload_n 0, 1) := by decide +kernel
theorem dX6_targetOfGrant_1 : decode cX6_targetOfGrant 1 = .ok (.iconst 4, 1) := by decide +kernel
theorem dX6_targetOfGrant_2 : decode cX6_targetOfGrant 2 = .ok (.idiv, 1) := by decide +kernel
theorem dX6_targetOfGrant_3 : decode cX6_targetOfGrant 3 = .ok (.ireturn, 1) := by decide +kernel
theorem dX6_levelOfGrant_0 : decode cX6_levelOfGrant 0 = .ok (.iload_n 0, 1) := by decide +kernel
theorem dX6_levelOfGrant_1 : decode cX6_levelOfGrant 1 = .ok (.iconst 4, 1) := by decide +kernel
theorem dX6_levelOfGrant_2 : decode cX6_levelOfGrant 2 = .ok (.irem, 1) := by decide +kernel
theorem dX6_levelOfGrant_3 : decode cX6_levelOfGrant 3 = .ok (.ireturn, 1) := by decide +kernel
theorem dX6_grantedOfAsk_0 : decode cX6_grantedOfAsk 0 = .ok (.iload_n 0, 1) := by decide +kernel
theorem dX6_grantedOfAsk_1 : decode cX6_grantedOfAsk 1 = .ok (.bipush 64, 2) := by decide +kernel
theorem dX6_grantedOfAsk_3 : decode cX6_grantedOfAsk 3 = .ok (.idiv, 1) := by decide +kernel
theorem dX6_grantedOfAsk_4 : decode cX6_grantedOfAsk 4 = .ok (.ireturn, 1) := by decide +kernel
theorem dX6_placeOfAsk_0 : decode cX6_placeOfAsk 0 = .ok (.iload_n 0, 1) := by decide +kernel
theorem dX6_placeOfAsk_1 : decode cX6_placeOfAsk 1 = .ok (.bipush 64, 2) := by decide +kernel
theorem dX6_placeOfAsk_3 : decode cX6_placeOfAsk 3 = .ok (.irem, 1) := by decide +kernel
theorem dX6_placeOfAsk_4 : decode cX6_placeOfAsk 4 = .ok (.ireturn, 1) := by decide +kernel
theorem dX6_isUnknown_0 : decode cX6_isUnknown 0 = .ok (.aload_n 0, 1) := by decide +kernel
theorem dX6_isUnknown_1 : decode cX6_isUnknown 1 = .ok (.getfield 11, 3) := by decide +kernel
theorem dX6_isUnknown_4 : decode cX6_isUnknown 4 = .ok (.ifCond .ne 7, 3) := by decide +kernel
theorem dX6_isUnknown_7 : decode cX6_isUnknown 7 = .ok (.iconst 1, 1) := by decide +kernel
theorem dX6_isUnknown_8 : decode cX6_isUnknown 8 = .ok (.goto 4, 3) := by decide +kernel
theorem dX6_isUnknown_11 : decode cX6_isUnknown 11 = .ok (.iconst 0, 1) := by decide +kernel
theorem dX6_isUnknown_12 : decode cX6_isUnknown 12 = .ok (.ireturn, 1) := by decide +kernel
theorem dX6_isKnown_0 : decode cX6_isKnown 0 = .ok (.aload_n 0, 1) := by decide +kernel
theorem dX6_isKnown_1 : decode cX6_isKnown 1 = .ok (.getfield 11, 3) := by decide +kernel
theorem dX6_isKnown_4 : decode cX6_isKnown 4 = .ok (.iconst 1, 1) := by decide +kernel
theorem dX6_isKnown_5 : decode cX6_isKnown 5 = .ok (.if_icmp .ne 7, 3) := by decide +kernel
theorem dX6_isKnown_8 : decode cX6_isKnown 8 = .ok (.iconst 1, 1) := by decide +kernel
theorem dX6_isKnown_9 : decode cX6_isKnown 9 = .ok (.goto 4, 3) := by decide +kernel
theorem dX6_isKnown_12 : decode cX6_isKnown 12 = .ok (.iconst 0, 1) := by decide +kernel
theorem dX6_isKnown_13 : decode cX6_isKnown 13 = .ok (.ireturn, 1) := by decide +kernel
theorem dX6_isFinished_0 : decode cX6_isFinished 0 = .ok (.aload_n 0, 1) := by decide +kernel
theorem dX6_isFinished_1 : decode cX6_isFinished 1 = .ok (.getfield 11, 3) := by decide +kernel
theorem dX6_isFinished_4 : decode cX6_isFinished 4 = .ok (.iconst 2, 1) := by decide +kernel
theorem dX6_isFinished_5 : decode cX6_isFinished 5 = .ok (.if_icmp .ne 7, 3) := by decide +kernel
theorem dX6_isFinished_8 : decode cX6_isFinished 8 = .ok (.iconst 1, 1) := by decide +kernel
theorem dX6_isFinished_9 : decode cX6_isFinished 9 = .ok (.goto 4, 3) := by decide +kernel
theorem dX6_isFinished_12 : decode cX6_isFinished 12 = .ok (.iconst 0, 1) := by decide +kernel
theorem dX6_isFinished_13 : decode cX6_isFinished 13 = .ok (.ireturn, 1) := by decide +kernel
theorem dX6_holds_0 : decode cX6_holds 0 = .ok (.iload_n 1, 1) := by decide +kernel
theorem dX6_holds_1 : decode cX6_holds 1 = .ok (.ifCond .lt 26, 3) := by decide +kernel
theorem dX6_holds_4 : decode cX6_holds 4 = .ok (.iload_n 1, 1) := by decide +kernel
theorem dX6_holds_5 : decode cX6_holds 5 = .ok (.aload_n 0, 1) := by decide +kernel
theorem dX6_holds_6 : decode cX6_holds 6 = .ok (.getfield 37, 3) := by decide +kernel
theorem dX6_holds_9 : decode cX6_holds 9 = .ok (.if_icmp .ge 18, 3) := by decide +kernel
theorem dX6_holds_12 : decode cX6_holds 12 = .ok (.aload_n 0, 1) := by decide +kernel
theorem dX6_holds_13 : decode cX6_holds 13 = .ok (.getfield 18, 3) := by decide +kernel
theorem dX6_holds_16 : decode cX6_holds 16 = .ok (.iload_n 1, 1) := by decide +kernel
theorem dX6_holds_17 : decode cX6_holds 17 = .ok (.invokestatic 44, 3) := by decide +kernel
theorem dX6_holds_20 : decode cX6_holds 20 = .ok (.ifCond .eq 7, 3) := by decide +kernel
theorem dX6_holds_23 : decode cX6_holds 23 = .ok (.iconst 1, 1) := by decide +kernel
theorem dX6_holds_24 : decode cX6_holds 24 = .ok (.goto 4, 3) := by decide +kernel
theorem dX6_holds_27 : decode cX6_holds 27 = .ok (.iconst 0, 1) := by decide +kernel
theorem dX6_holds_28 : decode cX6_holds 28 = .ok (.ireturn, 1) := by decide +kernel
theorem dX6_missing_0 : decode cX6_missing 0 = .ok (.aload_n 0, 1) := by decide +kernel
theorem dX6_missing_1 : decode cX6_missing 1 = .ok (.getfield 37, 3) := by decide +kernel
theorem dX6_missing_4 : decode cX6_missing 4 = .ok (.aload_n 0, 1) := by decide +kernel
theorem dX6_missing_5 : decode cX6_missing 5 = .ok (.getfield 18, 3) := by decide +kernel
theorem dX6_missing_8 : decode cX6_missing 8 = .ok (.invokestatic 50, 3) := by decide +kernel
theorem dX6_missing_11 : decode cX6_missing 11 = .ok (.isub, 1) := by decide +kernel
theorem dX6_missing_12 : decode cX6_missing 12 = .ok (.ireturn, 1) := by decide +kernel
theorem dX6_grantedAndNotIn_0 : decode cX6_grantedAndNotIn 0 = .ok (.aload_n 0, 1) := by decide +kernel
theorem dX6_grantedAndNotIn_1 : decode cX6_grantedAndNotIn 1 = .ok (.invokevirtual 56, 3) := by decide +kernel
theorem dX6_grantedAndNotIn_4 : decode cX6_grantedAndNotIn 4 = .ok (.ifCond .eq 22, 3) := by decide +kernel
theorem dX6_grantedAndNotIn_7 : decode cX6_grantedAndNotIn 7 = .ok (.iconst 0, 1) := by decide +kernel
theorem dX6_grantedAndNotIn_8 : decode cX6_grantedAndNotIn 8 = .ok (.aload_n 0, 1) := by decide +kernel
theorem dX6_grantedAndNotIn_9 : decode cX6_grantedAndNotIn 9 = .ok (.getfield 22, 3) := by decide +kernel
theorem dX6_grantedAndNotIn_12 : decode cX6_grantedAndNotIn 12 = .ok (.aload_n 0, 1) := by decide +kernel
theorem dX6_grantedAndNotIn_13 : decode cX6_grantedAndNotIn 13 = .ok (.getfield 18, 3) := by decide +kernel
theorem dX6_grantedAndNotIn_16 : decode cX6_grantedAndNotIn 16 = .ok (.invokestatic 50, 3) := by decide +kernel
theorem dX6_grantedAndNotIn_19 : decode cX6_grantedAndNotIn 19 = .ok (.isub, 1) := by decide +kernel
theorem dX6_grantedAndNotIn_20 : decode cX6_grantedAndNotIn 20 = .ok (.invokestatic 60, 3) := by decide +kernel
theorem dX6_grantedAndNotIn_23 : decode cX6_grantedAndNotIn 23 = .ok (.goto 4, 3) := by decide +kernel
theorem dX6_grantedAndNotIn_26 : decode cX6_grantedAndNotIn 26 = .ok (.iconst 0, 1) := by decide +kernel
theorem dX6_grantedAndNotIn_27 : decode cX6_grantedAndNotIn 27 = .ok (.ireturn, 1) := by decide +kernel
theorem dX6_begin_0 : decode cX6_begin 0 = .ok (.aload_n 0, 1) := by decide +kernel
theorem dX6_begin_1 : decode cX6_begin 1 = .ok (.iconst 1, 1) := by decide +kernel
theorem dX6_begin_2 : decode cX6_begin 2 = .ok (.putfield 11, 3) := by decide +kernel
theorem dX6_begin_5 : decode cX6_begin 5 = .ok (.aload_n 0, 1) := by decide +kernel
theorem dX6_begin_6 : decode cX6_begin 6 = .ok (.iload_n 1, 1) := by decide +kernel
theorem dX6_begin_7 : decode cX6_begin 7 = .ok (.putfield 31, 3) := by decide +kernel
theorem dX6_begin_10 : decode cX6_begin 10 = .ok (.aload_n 0, 1) := by decide +kernel
theorem dX6_begin_11 : decode cX6_begin 11 = .ok (.lconst 0, 1) := by decide +kernel
theorem dX6_begin_12 : decode cX6_begin 12 = .ok (.putfield 18, 3) := by decide +kernel
theorem dX6_begin_15 : decode cX6_begin 15 = .ok (.aload_n 0, 1) := by decide +kernel
theorem dX6_begin_16 : decode cX6_begin 16 = .ok (.iconst 4, 1) := by decide +kernel
theorem dX6_begin_17 : decode cX6_begin 17 = .ok (.aload_n 0, 1) := by decide +kernel
theorem dX6_begin_18 : decode cX6_begin 18 = .ok (.getfield 37, 3) := by decide +kernel
theorem dX6_begin_21 : decode cX6_begin 21 = .ok (.invokestatic 66, 3) := by decide +kernel
theorem dX6_begin_24 : decode cX6_begin 24 = .ok (.putfield 22, 3) := by decide +kernel
theorem dX6_begin_27 : decode cX6_begin 27 = .ok (.return_, 1) := by decide +kernel
theorem dX6_take_0 : decode cX6_take 0 = .ok (.aload_n 0, 1) := by decide +kernel
theorem dX6_take_1 : decode cX6_take 1 = .ok (.iconst 0, 1) := by decide +kernel
theorem dX6_take_2 : decode cX6_take 2 = .ok (.putfield 25, 3) := by decide +kernel
theorem dX6_take_5 : decode cX6_take 5 = .ok (.aload_n 0, 1) := by decide +kernel
theorem dX6_take_6 : decode cX6_take 6 = .ok (.iconst 0, 1) := by decide +kernel
theorem dX6_take_7 : decode cX6_take 7 = .ok (.putfield 28, 3) := by decide +kernel
theorem dX6_take_10 : decode cX6_take 10 = .ok (.aload_n 0, 1) := by decide +kernel
theorem dX6_take_11 : decode cX6_take 11 = .ok (.aload_n 0, 1) := by decide +kernel
theorem dX6_take_12 : decode cX6_take 12 = .ok (.getfield 18, 3) := by decide +kernel
theorem dX6_take_15 : decode cX6_take 15 = .ok (.iload_n 1, 1) := by decide +kernel
theorem dX6_take_16 : decode cX6_take 16 = .ok (.invokestatic 69, 3) := by decide +kernel
theorem dX6_take_19 : decode cX6_take 19 = .ok (.putfield 18, 3) := by decide +kernel
theorem dX6_take_22 : decode cX6_take 22 = .ok (.aload_n 0, 1) := by decide +kernel
theorem dX6_take_23 : decode cX6_take 23 = .ok (.invokevirtual 73, 3) := by decide +kernel
theorem dX6_take_26 : decode cX6_take 26 = .ok (.ifCond .ne 23, 3) := by decide +kernel
theorem dX6_take_29 : decode cX6_take 29 = .ok (.aload_n 0, 1) := by decide +kernel
theorem dX6_take_30 : decode cX6_take 30 = .ok (.iconst 2, 1) := by decide +kernel
theorem dX6_take_31 : decode cX6_take 31 = .ok (.putfield 11, 3) := by decide +kernel
theorem dX6_take_34 : decode cX6_take 34 = .ok (.aload_n 0, 1) := by decide +kernel
theorem dX6_take_35 : decode cX6_take 35 = .ok (.dup, 1) := by decide +kernel
theorem dX6_take_36 : decode cX6_take 36 = .ok (.getfield 15, 3) := by decide +kernel
theorem dX6_take_39 : decode cX6_take 39 = .ok (.iconst 1, 1) := by decide +kernel
theorem dX6_take_40 : decode cX6_take 40 = .ok (.iadd, 1) := by decide +kernel
theorem dX6_take_41 : decode cX6_take 41 = .ok (.putfield 15, 3) := by decide +kernel
theorem dX6_take_44 : decode cX6_take 44 = .ok (.aload_n 0, 1) := by decide +kernel
theorem dX6_take_45 : decode cX6_take 45 = .ok (.iload_n 2, 1) := by decide +kernel
theorem dX6_take_46 : decode cX6_take 46 = .ok (.putfield 34, 3) := by decide +kernel
theorem dX6_take_49 : decode cX6_take 49 = .ok (.return_, 1) := by decide +kernel
theorem dX6_growSilence_0 : decode cX6_growSilence 0 = .ok (.aload_n 0, 1) := by decide +kernel
theorem dX6_growSilence_1 : decode cX6_growSilence 1 = .ok (.dup, 1) := by decide +kernel
theorem dX6_growSilence_2 : decode cX6_growSilence 2 = .ok (.getfield 25, 3) := by decide +kernel
theorem dX6_growSilence_5 : decode cX6_growSilence 5 = .ok (.iconst 1, 1) := by decide +kernel
theorem dX6_growSilence_6 : decode cX6_growSilence 6 = .ok (.iadd, 1) := by decide +kernel
theorem dX6_growSilence_7 : decode cX6_growSilence 7 = .ok (.putfield 25, 3) := by decide +kernel
theorem dX6_growSilence_10 : decode cX6_growSilence 10 = .ok (.aload_n 0, 1) := by decide +kernel
theorem dX6_growSilence_11 : decode cX6_growSilence 11 = .ok (.getfield 25, 3) := by decide +kernel
theorem dX6_growSilence_14 : decode cX6_growSilence 14 = .ok (.bipush 16, 2) := by decide +kernel
theorem dX6_growSilence_16 : decode cX6_growSilence 16 = .ok (.if_icmp .ge 5, 3) := by decide +kernel
theorem dX6_growSilence_19 : decode cX6_growSilence 19 = .ok (.iconst 0, 1) := by decide +kernel
theorem dX6_growSilence_20 : decode cX6_growSilence 20 = .ok (.ireturn, 1) := by decide +kernel
theorem dX6_growSilence_21 : decode cX6_growSilence 21 = .ok (.aload_n 0, 1) := by decide +kernel
theorem dX6_growSilence_22 : decode cX6_growSilence 22 = .ok (.iconst 0, 1) := by decide +kernel
theorem dX6_growSilence_23 : decode cX6_growSilence 23 = .ok (.putfield 25, 3) := by decide +kernel
theorem dX6_growSilence_26 : decode cX6_growSilence 26 = .ok (.aload_n 0, 1) := by decide +kernel
theorem dX6_growSilence_27 : decode cX6_growSilence 27 = .ok (.dup, 1) := by decide +kernel
theorem dX6_growSilence_28 : decode cX6_growSilence 28 = .ok (.getfield 28, 3) := by decide +kernel
theorem dX6_growSilence_31 : decode cX6_growSilence 31 = .ok (.iconst 1, 1) := by decide +kernel
theorem dX6_growSilence_32 : decode cX6_growSilence 32 = .ok (.iadd, 1) := by decide +kernel
theorem dX6_growSilence_33 : decode cX6_growSilence 33 = .ok (.putfield 28, 3) := by decide +kernel
theorem dX6_growSilence_36 : decode cX6_growSilence 36 = .ok (.aload_n 0, 1) := by decide +kernel
theorem dX6_growSilence_37 : decode cX6_growSilence 37 = .ok (.getfield 28, 3) := by decide +kernel
theorem dX6_growSilence_40 : decode cX6_growSilence 40 = .ok (.bipush 8, 2) := by decide +kernel
theorem dX6_growSilence_42 : decode cX6_growSilence 42 = .ok (.if_icmp .lt 9, 3) := by decide +kernel
theorem dX6_growSilence_45 : decode cX6_growSilence 45 = .ok (.aload_n 0, 1) := by decide +kernel
theorem dX6_growSilence_46 : decode cX6_growSilence 46 = .ok (.invokevirtual 77, 3) := by decide +kernel
theorem dX6_growSilence_49 : decode cX6_growSilence 49 = .ok (.iconst 0, 1) := by decide +kernel
theorem dX6_growSilence_50 : decode cX6_growSilence 50 = .ok (.ireturn, 1) := by decide +kernel
theorem dX6_growSilence_51 : decode cX6_growSilence 51 = .ok (.iconst 1, 1) := by decide +kernel
theorem dX6_growSilence_52 : decode cX6_growSilence 52 = .ok (.ireturn, 1) := by decide +kernel
theorem dX6_countOfAsk_0 : decode cX6_countOfAsk 0 = .ok (.bipush 64, 2) := by decide +kernel
theorem dX6_countOfAsk_2 : decode cX6_countOfAsk 2 = .ok (.aload_n 0, 1) := by decide +kernel
theorem dX6_countOfAsk_3 : decode cX6_countOfAsk 3 = .ok (.getfield 22, 3) := by decide +kernel
theorem dX6_countOfAsk_6 : decode cX6_countOfAsk 6 = .ok (.imul, 1) := by decide +kernel
theorem dX6_countOfAsk_7 : decode cX6_countOfAsk 7 = .ok (.aload_n 0, 1) := by decide +kernel
theorem dX6_countOfAsk_8 : decode cX6_countOfAsk 8 = .ok (.getfield 18, 3) := by decide +kernel
theorem dX6_countOfAsk_11 : decode cX6_countOfAsk 11 = .ok (.ldc2_w 80, 3) := by decide +kernel
theorem dX6_countOfAsk_14 : decode cX6_countOfAsk 14 = .ok (.lxor, 1) := by decide +kernel
theorem dX6_countOfAsk_15 : decode cX6_countOfAsk 15 = .ok (.invokestatic 82, 3) := by decide +kernel
theorem dX6_countOfAsk_18 : decode cX6_countOfAsk 18 = .ok (.iadd, 1) := by decide +kernel
theorem dX6_countOfAsk_19 : decode cX6_countOfAsk 19 = .ok (.ireturn, 1) := by decide +kernel
theorem dX6_forgetIfOld_0 : decode cX6_forgetIfOld 0 = .ok (.aload_n 0, 1) := by decide +kernel
theorem dX6_forgetIfOld_1 : decode cX6_forgetIfOld 1 = .ok (.getfield 40, 3) := by decide +kernel
theorem dX6_forgetIfOld_4 : decode cX6_forgetIfOld 4 = .ok (.ifCond .eq 25, 3) := by decide +kernel
theorem dX6_forgetIfOld_7 : decode cX6_forgetIfOld 7 = .ok (.aload_n 0, 1) := by decide +kernel
theorem dX6_forgetIfOld_8 : decode cX6_forgetIfOld 8 = .ok (.invokevirtual 85, 3) := by decide +kernel
theorem dX6_forgetIfOld_11 : decode cX6_forgetIfOld 11 = .ok (.ifCond .eq 18, 3) := by decide +kernel
theorem dX6_forgetIfOld_14 : decode cX6_forgetIfOld 14 = .ok (.iload_n 1, 1) := by decide +kernel
theorem dX6_forgetIfOld_15 : decode cX6_forgetIfOld 15 = .ok (.aload_n 0, 1) := by decide +kernel
theorem dX6_forgetIfOld_16 : decode cX6_forgetIfOld 16 = .ok (.getfield 34, 3) := by decide +kernel
theorem dX6_forgetIfOld_19 : decode cX6_forgetIfOld 19 = .ok (.isub, 1) := by decide +kernel
theorem dX6_forgetIfOld_20 : decode cX6_forgetIfOld 20 = .ok (.bipush 30, 2) := by decide +kernel
theorem dX6_forgetIfOld_22 : decode cX6_forgetIfOld 22 = .ok (.if_icmp .lt 7, 3) := by decide +kernel
theorem dX6_forgetIfOld_25 : decode cX6_forgetIfOld 25 = .ok (.aload_n 0, 1) := by decide +kernel
theorem dX6_forgetIfOld_26 : decode cX6_forgetIfOld 26 = .ok (.invokevirtual 77, 3) := by decide +kernel
theorem dX6_forgetIfOld_29 : decode cX6_forgetIfOld 29 = .ok (.return_, 1) := by decide +kernel
theorem dX6_forget_0 : decode cX6_forget 0 = .ok (.aload_n 0, 1) := by decide +kernel
theorem dX6_forget_1 : decode cX6_forget 1 = .ok (.iconst 0, 1) := by decide +kernel
theorem dX6_forget_2 : decode cX6_forget 2 = .ok (.putfield 11, 3) := by decide +kernel
theorem dX6_forget_5 : decode cX6_forget 5 = .ok (.aload_n 0, 1) := by decide +kernel
theorem dX6_forget_6 : decode cX6_forget 6 = .ok (.lconst 0, 1) := by decide +kernel
theorem dX6_forget_7 : decode cX6_forget 7 = .ok (.putfield 18, 3) := by decide +kernel
theorem dX6_forget_10 : decode cX6_forget 10 = .ok (.return_, 1) := by decide +kernel
theorem dX6_isAheadOf_0 : decode cX6_isAheadOf 0 = .ok (.aload_n 0, 1) := by decide +kernel
theorem dX6_isAheadOf_1 : decode cX6_isAheadOf 1 = .ok (.invokevirtual 73, 3) := by decide +kernel
theorem dX6_isAheadOf_4 : decode cX6_isAheadOf 4 = .ok (.aload_n 1, 1) := by decide +kernel
theorem dX6_isAheadOf_5 : decode cX6_isAheadOf 5 = .ok (.invokevirtual 73, 3) := by decide +kernel
theorem dX6_isAheadOf_8 : decode cX6_isAheadOf 8 = .ok (.if_icmp .eq 20, 3) := by decide +kernel
theorem dX6_isAheadOf_11 : decode cX6_isAheadOf 11 = .ok (.aload_n 0, 1) := by decide +kernel
theorem dX6_isAheadOf_12 : decode cX6_isAheadOf 12 = .ok (.invokevirtual 73, 3) := by decide +kernel
theorem dX6_isAheadOf_15 : decode cX6_isAheadOf 15 = .ok (.aload_n 1, 1) := by decide +kernel
theorem dX6_isAheadOf_16 : decode cX6_isAheadOf 16 = .ok (.invokevirtual 73, 3) := by decide +kernel
theorem dX6_isAheadOf_19 : decode cX6_isAheadOf 19 = .ok (.if_icmp .ge 7, 3) := by decide +kernel
theorem dX6_isAheadOf_22 : decode cX6_isAheadOf 22 = .ok (.iconst 1, 1) := by decide +kernel
theorem dX6_isAheadOf_23 : decode cX6_isAheadOf 23 = .ok (.goto 4, 3) := by decide +kernel
theorem dX6_isAheadOf_26 : decode cX6_isAheadOf 26 = .ok (.iconst 0, 1) := by decide +kernel
theorem dX6_isAheadOf_27 : decode cX6_isAheadOf 27 = .ok (.ireturn, 1) := by decide +kernel
theorem dX6_isAheadOf_28 : decode cX6_isAheadOf 28 = .ok (.aload_n 0, 1) := by decide +kernel
theorem dX6_isAheadOf_29 : decode cX6_isAheadOf 29 = .ok (.getfield 31, 3) := by decide +kernel
theorem dX6_isAheadOf_32 : decode cX6_isAheadOf 32 = .ok (.aload_n 1, 1) := by decide +kernel
theorem dX6_isAheadOf_33 : decode cX6_isAheadOf 33 = .ok (.getfield 31, 3) := by decide +kernel
theorem dX6_isAheadOf_36 : decode cX6_isAheadOf 36 = .ok (.if_icmp .ge 7, 3) := by decide +kernel
theorem dX6_isAheadOf_39 : decode cX6_isAheadOf 39 = .ok (.iconst 1, 1) := by decide +kernel
theorem dX6_isAheadOf_40 : decode cX6_isAheadOf 40 = .ok (.goto 4, 3) := by decide +kernel
theorem dX6_isAheadOf_43 : decode cX6_isAheadOf 43 = .ok (.iconst 0, 1) := by decide +kernel
theorem dX6_isAheadOf_44 : decode cX6_isAheadOf 44 = .ok (.ireturn, 1) := by decide +kernel
theorem dX6_growGranted_0 : decode cX6_growGranted 0 = .ok (.aload_n 0, 1) := by decide +kernel
theorem dX6_growGranted_1 : decode cX6_growGranted 1 = .ok (.getfield 37, 3) := by decide +kernel
theorem dX6_growGranted_4 : decode cX6_growGranted 4 = .ok (.aload_n 0, 1) := by decide +kernel
theorem dX6_growGranted_5 : decode cX6_growGranted 5 = .ok (.invokevirtual 73, 3) := by decide +kernel
theorem dX6_growGranted_8 : decode cX6_growGranted 8 = .ok (.isub, 1) := by decide +kernel
theorem dX6_growGranted_9 : decode cX6_growGranted 9 = .ok (.bipush 6, 2) := by decide +kernel
theorem dX6_growGranted_11 : decode cX6_growGranted 11 = .ok (.iadd, 1) := by decide +kernel
theorem dX6_growGranted_12 : decode cX6_growGranted 12 = .ok (.aload_n 0, 1) := by decide +kernel
theorem dX6_growGranted_13 : decode cX6_growGranted 13 = .ok (.getfield 37, 3) := by decide +kernel
theorem dX6_growGranted_16 : decode cX6_growGranted 16 = .ok (.invokestatic 66, 3) := by decide +kernel
theorem dX6_growGranted_19 : decode cX6_growGranted 19 = .ok (.istore_n 1, 1) := by decide +kernel
theorem dX6_growGranted_20 : decode cX6_growGranted 20 = .ok (.iload_n 1, 1) := by decide +kernel
theorem dX6_growGranted_21 : decode cX6_growGranted 21 = .ok (.aload_n 0, 1) := by decide +kernel
theorem dX6_growGranted_22 : decode cX6_growGranted 22 = .ok (.getfield 22, 3) := by decide +kernel
theorem dX6_growGranted_25 : decode cX6_growGranted 25 = .ok (.if_icmp .gt 5, 3) := by decide +kernel
theorem dX6_growGranted_28 : decode cX6_growGranted 28 = .ok (.iconst 0, 1) := by decide +kernel
theorem dX6_growGranted_29 : decode cX6_growGranted 29 = .ok (.ireturn, 1) := by decide +kernel
theorem dX6_growGranted_30 : decode cX6_growGranted 30 = .ok (.aload_n 0, 1) := by decide +kernel
theorem dX6_growGranted_31 : decode cX6_growGranted 31 = .ok (.iload_n 1, 1) := by decide +kernel
theorem dX6_growGranted_32 : decode cX6_growGranted 32 = .ok (.putfield 22, 3) := by decide +kernel
theorem dX6_growGranted_35 : decode cX6_growGranted 35 = .ok (.iconst 1, 1) := by decide +kernel
theorem dX6_growGranted_36 : decode cX6_growGranted 36 = .ok (.ireturn, 1) := by decide +kernel
theorem dX6_countOfGrant_0 : decode cX6_countOfGrant 0 = .ok (.iconst 4, 1) := by decide +kernel
theorem dX6_countOfGrant_1 : decode cX6_countOfGrant 1 = .ok (.aload_n 0, 1) := by decide +kernel
theorem dX6_countOfGrant_2 : decode cX6_countOfGrant 2 = .ok (.getfield 22, 3) := by decide +kernel
theorem dX6_countOfGrant_5 : decode cX6_countOfGrant 5 = .ok (.imul, 1) := by decide +kernel
theorem dX6_countOfGrant_6 : decode cX6_countOfGrant 6 = .ok (.iconst 1, 1) := by decide +kernel
theorem dX6_countOfGrant_7 : decode cX6_countOfGrant 7 = .ok (.iadd, 1) := by decide +kernel
theorem dX6_countOfGrant_8 : decode cX6_countOfGrant 8 = .ok (.iload_n 1, 1) := by decide +kernel
theorem dX6_countOfGrant_9 : decode cX6_countOfGrant 9 = .ok (.iadd, 1) := by decide +kernel
theorem dX6_countOfGrant_10 : decode cX6_countOfGrant 10 = .ok (.ireturn, 1) := by decide +kernel
theorem dX6_tell_0 : decode cX6_tell 0 = .ok (.iload_n 1, 1) := by decide +kernel
theorem dX6_tell_1 : decode cX6_tell 1 = .ok (.tableswitch 133 0 6 #[43, 48, 53, 69, 85, 101, 117], 43) := by decide +kernel
theorem dX6_tell_44 : decode cX6_tell 44 = .ok (.aload_n 0, 1) := by decide +kernel
theorem dX6_tell_45 : decode cX6_tell 45 = .ok (.getfield 11, 3) := by decide +kernel
theorem dX6_tell_48 : decode cX6_tell 48 = .ok (.ireturn, 1) := by decide +kernel
theorem dX6_tell_49 : decode cX6_tell 49 = .ok (.aload_n 0, 1) := by decide +kernel
theorem dX6_tell_50 : decode cX6_tell 50 = .ok (.getfield 15, 3) := by decide +kernel
theorem dX6_tell_53 : decode cX6_tell 53 = .ok (.ireturn, 1) := by decide +kernel
theorem dX6_tell_54 : decode cX6_tell 54 = .ok (.aload_n 0, 1) := by decide +kernel
theorem dX6_tell_55 : decode cX6_tell 55 = .ok (.invokevirtual 56, 3) := by decide +kernel
theorem dX6_tell_58 : decode cX6_tell 58 = .ok (.ifCond .eq 10, 3) := by decide +kernel
theorem dX6_tell_61 : decode cX6_tell 61 = .ok (.aload_n 0, 1) := by decide +kernel
theorem dX6_tell_62 : decode cX6_tell 62 = .ok (.invokevirtual 73, 3) := by decide +kernel
theorem dX6_tell_65 : decode cX6_tell 65 = .ok (.goto 4, 3) := by decide +kernel
theorem dX6_tell_68 : decode cX6_tell 68 = .ok (.iconst 0, 1) := by decide +kernel
theorem dX6_tell_69 : decode cX6_tell 69 = .ok (.ireturn, 1) := by decide +kernel
theorem dX6_tell_70 : decode cX6_tell 70 = .ok (.aload_n 0, 1) := by decide +kernel
theorem dX6_tell_71 : decode cX6_tell 71 = .ok (.invokevirtual 56, 3) := by decide +kernel
theorem dX6_tell_74 : decode cX6_tell 74 = .ok (.ifCond .eq 10, 3) := by decide +kernel
theorem dX6_tell_77 : decode cX6_tell 77 = .ok (.aload_n 0, 1) := by decide +kernel
theorem dX6_tell_78 : decode cX6_tell 78 = .ok (.getfield 22, 3) := by decide +kernel
theorem dX6_tell_81 : decode cX6_tell 81 = .ok (.goto 4, 3) := by decide +kernel
theorem dX6_tell_84 : decode cX6_tell 84 = .ok (.iconst 0, 1) := by decide +kernel
theorem dX6_tell_85 : decode cX6_tell 85 = .ok (.ireturn, 1) := by decide +kernel
theorem dX6_tell_86 : decode cX6_tell 86 = .ok (.aload_n 0, 1) := by decide +kernel
theorem dX6_tell_87 : decode cX6_tell 87 = .ok (.invokevirtual 56, 3) := by decide +kernel
theorem dX6_tell_90 : decode cX6_tell 90 = .ok (.ifCond .eq 10, 3) := by decide +kernel
theorem dX6_tell_93 : decode cX6_tell 93 = .ok (.aload_n 0, 1) := by decide +kernel
theorem dX6_tell_94 : decode cX6_tell 94 = .ok (.getfield 25, 3) := by decide +kernel
theorem dX6_tell_97 : decode cX6_tell 97 = .ok (.goto 4, 3) := by decide +kernel
theorem dX6_tell_100 : decode cX6_tell 100 = .ok (.iconst 0, 1) := by decide +kernel
theorem dX6_tell_101 : decode cX6_tell 101 = .ok (.ireturn, 1) := by decide +kernel
theorem dX6_tell_102 : decode cX6_tell 102 = .ok (.aload_n 0, 1) := by decide +kernel
theorem dX6_tell_103 : decode cX6_tell 103 = .ok (.invokevirtual 56, 3) := by decide +kernel
theorem dX6_tell_106 : decode cX6_tell 106 = .ok (.ifCond .eq 10, 3) := by decide +kernel
theorem dX6_tell_109 : decode cX6_tell 109 = .ok (.aload_n 0, 1) := by decide +kernel
theorem dX6_tell_110 : decode cX6_tell 110 = .ok (.getfield 28, 3) := by decide +kernel
theorem dX6_tell_113 : decode cX6_tell 113 = .ok (.goto 4, 3) := by decide +kernel
theorem dX6_tell_116 : decode cX6_tell 116 = .ok (.iconst 0, 1) := by decide +kernel
theorem dX6_tell_117 : decode cX6_tell 117 = .ok (.ireturn, 1) := by decide +kernel
theorem dX6_tell_118 : decode cX6_tell 118 = .ok (.aload_n 0, 1) := by decide +kernel
theorem dX6_tell_119 : decode cX6_tell 119 = .ok (.invokevirtual 56, 3) := by decide +kernel
theorem dX6_tell_122 : decode cX6_tell 122 = .ok (.ifCond .eq 10, 3) := by decide +kernel
theorem dX6_tell_125 : decode cX6_tell 125 = .ok (.aload_n 0, 1) := by decide +kernel
theorem dX6_tell_126 : decode cX6_tell 126 = .ok (.getfield 31, 3) := by decide +kernel
theorem dX6_tell_129 : decode cX6_tell 129 = .ok (.goto 4, 3) := by decide +kernel
theorem dX6_tell_132 : decode cX6_tell 132 = .ok (.iconst 0, 1) := by decide +kernel
theorem dX6_tell_133 : decode cX6_tell 133 = .ok (.ireturn, 1) := by decide +kernel
theorem dX6_tell_134 : decode cX6_tell 134 = .ok (.iconst (-1), 1) := by decide +kernel
theorem dX6_tell_135 : decode cX6_tell 135 = .ok (.ireturn, 1) := by decide +kernel
theorem dX7_init_0 : decode cX7_init 0 = .ok (.aload_n 0, 1) := by decide +kernel
theorem dX7_init_1 : decode cX7_init 1 = .ok (.invokespecial 1, 3) := by decide +kernel
theorem dX7_init_4 : decode cX7_init 4 = .ok (.aload_n 0, 1) := by decide +kernel
theorem dX7_init_5 : decode cX7_init 5 = .ok (.iconst 0, 1) := by decide +kernel
theorem dX7_init_6 : decode cX7_init 6 = .ok (.putfield 7, 3) := by decide +kernel
theorem dX7_init_9 : decode cX7_init 9 = .ok (.aload_n 0, 1) := by decide +kernel
theorem dX7_init_10 : decode cX7_init 10 = .ok (.iconst 0, 1) := by decide +kernel
theorem dX7_init_11 : decode cX7_init 11 = .ok (.putfield 13, 3) := by decide +kernel
theorem dX7_init_14 : decode cX7_init 14 = .ok (.aload_n 0, 1) := by decide +kernel
theorem dX7_init_15 : decode cX7_init 15 = .ok (.iload_n 1, 1) := by decide +kernel
theorem dX7_init_16 : decode cX7_init 16 = .ok (.newarray .int, 2) := by decide +kernel
theorem dX7_init_18 : decode cX7_init 18 = .ok (.putfield 16, 3) := by decide +kernel
theorem dX7_init_21 : decode cX7_init 21 = .ok (.return_, 1) := by decide +kernel
theorem dX7_size_0 : decode cX7_size 0 = .ok (.aload_n 0, 1) := by decide +kernel
theorem dX7_size_1 : decode cX7_size 1 = .ok (.getfield 13, 3) := by decide +kernel
theorem dX7_size_4 : decode cX7_size 4 = .ok (.ireturn, 1) := by decide +kernel
theorem dX7_put_0 : decode cX7_put 0 = .ok (.aload_n 0, 1) := by decide +kernel
theorem dX7_put_1 : decode cX7_put 1 = .ok (.getfield 13, 3) := by decide +kernel
theorem dX7_put_4 : decode cX7_put 4 = .ok (.aload_n 0, 1) := by decide +kernel
theorem dX7_put_5 : decode cX7_put 5 = .ok (.getfield 16, 3) := by decide +kernel
theorem dX7_put_8 : decode cX7_put 8 = .ok (.arraylength, 1) := by decide +kernel
theorem dX7_put_9 : decode cX7_put 9 = .ok (.if_icmp .lt 5, 3) := by decide +kernel
theorem dX7_put_12 : decode cX7_put 12 = .ok (.iconst 0, 1) := by decide +kernel
theorem dX7_put_13 : decode cX7_put 13 = .ok (.ireturn, 1) := by decide +kernel
theorem dX7_put_14 : decode cX7_put 14 = .ok (.aload_n 0, 1) := by decide +kernel
theorem dX7_put_15 : decode cX7_put 15 = .ok (.getfield 7, 3) := by decide +kernel
theorem dX7_put_18 : decode cX7_put 18 = .ok (.aload_n 0, 1) := by decide +kernel
theorem dX7_put_19 : decode cX7_put 19 = .ok (.getfield 13, 3) := by decide +kernel
theorem dX7_put_22 : decode cX7_put 22 = .ok (.iadd, 1) := by decide +kernel
theorem dX7_put_23 : decode cX7_put 23 = .ok (.istore_n 2, 1) := by decide +kernel
theorem dX7_put_24 : decode cX7_put 24 = .ok (.aload_n 0, 1) := by decide +kernel
theorem dX7_put_25 : decode cX7_put 25 = .ok (.getfield 16, 3) := by decide +kernel
theorem dX7_put_28 : decode cX7_put 28 = .ok (.iload_n 2, 1) := by decide +kernel
theorem dX7_put_29 : decode cX7_put 29 = .ok (.aload_n 0, 1) := by decide +kernel
theorem dX7_put_30 : decode cX7_put 30 = .ok (.getfield 16, 3) := by decide +kernel
theorem dX7_put_33 : decode cX7_put 33 = .ok (.arraylength, 1) := by decide +kernel
theorem dX7_put_34 : decode cX7_put 34 = .ok (.if_icmp .ge 7, 3) := by decide +kernel
theorem dX7_put_37 : decode cX7_put 37 = .ok (.iload_n 2, 1) := by decide +kernel
theorem dX7_put_38 : decode cX7_put 38 = .ok (.goto 10, 3) := by decide +kernel
theorem dX7_put_41 : decode cX7_put 41 = .ok (.iload_n 2, 1) := by decide +kernel
theorem dX7_put_42 : decode cX7_put 42 = .ok (.aload_n 0, 1) := by decide +kernel
theorem dX7_put_43 : decode cX7_put 43 = .ok (.getfield 16, 3) := by decide +kernel
theorem dX7_put_46 : decode cX7_put 46 = .ok (.arraylength, 1) := by decide +kernel
theorem dX7_put_47 : decode cX7_put 47 = .ok (.isub, 1) := by decide +kernel
theorem dX7_put_48 : decode cX7_put 48 = .ok (.iload_n 1, 1) := by decide +kernel
theorem dX7_put_49 : decode cX7_put 49 = .ok (.iastore, 1) := by decide +kernel
theorem dX7_put_50 : decode cX7_put 50 = .ok (.aload_n 0, 1) := by decide +kernel
theorem dX7_put_51 : decode cX7_put 51 = .ok (.dup, 1) := by decide +kernel
theorem dX7_put_52 : decode cX7_put 52 = .ok (.getfield 13, 3) := by decide +kernel
theorem dX7_put_55 : decode cX7_put 55 = .ok (.iconst 1, 1) := by decide +kernel
theorem dX7_put_56 : decode cX7_put 56 = .ok (.iadd, 1) := by decide +kernel
theorem dX7_put_57 : decode cX7_put 57 = .ok (.putfield 13, 3) := by decide +kernel
theorem dX7_put_60 : decode cX7_put 60 = .ok (.iconst 1, 1) := by decide +kernel
theorem dX7_put_61 : decode cX7_put 61 = .ok (.ireturn, 1) := by decide +kernel
theorem dX7_take_0 : decode cX7_take 0 = .ok (.aload_n 0, 1) := by decide +kernel
theorem dX7_take_1 : decode cX7_take 1 = .ok (.getfield 13, 3) := by decide +kernel
theorem dX7_take_4 : decode cX7_take 4 = .ok (.ifCond .ne 5, 3) := by decide +kernel
theorem dX7_take_7 : decode cX7_take 7 = .ok (.iconst (-1), 1) := by decide +kernel
theorem dX7_take_8 : decode cX7_take 8 = .ok (.ireturn, 1) := by decide +kernel
theorem dX7_take_9 : decode cX7_take 9 = .ok (.aload_n 0, 1) := by decide +kernel
theorem dX7_take_10 : decode cX7_take 10 = .ok (.getfield 16, 3) := by decide +kernel
theorem dX7_take_13 : decode cX7_take 13 = .ok (.aload_n 0, 1) := by decide +kernel
theorem dX7_take_14 : decode cX7_take 14 = .ok (.getfield 7, 3) := by decide +kernel
theorem dX7_take_17 : decode cX7_take 17 = .ok (.iaload, 1) := by decide +kernel
theorem dX7_take_18 : decode cX7_take 18 = .ok (.istore_n 1, 1) := by decide +kernel
theorem dX7_take_19 : decode cX7_take 19 = .ok (.aload_n 0, 1) := by decide +kernel
theorem dX7_take_20 : decode cX7_take 20 = .ok (.aload_n 0, 1) := by decide +kernel
theorem dX7_take_21 : decode cX7_take 21 = .ok (.getfield 7, 3) := by decide +kernel
theorem dX7_take_24 : decode cX7_take 24 = .ok (.iconst 1, 1) := by decide +kernel
theorem dX7_take_25 : decode cX7_take 25 = .ok (.iadd, 1) := by decide +kernel
theorem dX7_take_26 : decode cX7_take 26 = .ok (.aload_n 0, 1) := by decide +kernel
theorem dX7_take_27 : decode cX7_take 27 = .ok (.getfield 16, 3) := by decide +kernel
theorem dX7_take_30 : decode cX7_take 30 = .ok (.arraylength, 1) := by decide +kernel
theorem dX7_take_31 : decode cX7_take 31 = .ok (.if_icmp .ge 12, 3) := by decide +kernel
theorem dX7_take_34 : decode cX7_take 34 = .ok (.aload_n 0, 1) := by decide +kernel
theorem dX7_take_35 : decode cX7_take 35 = .ok (.getfield 7, 3) := by decide +kernel
theorem dX7_take_38 : decode cX7_take 38 = .ok (.iconst 1, 1) := by decide +kernel
theorem dX7_take_39 : decode cX7_take 39 = .ok (.iadd, 1) := by decide +kernel
theorem dX7_take_40 : decode cX7_take 40 = .ok (.goto 4, 3) := by decide +kernel
theorem dX7_take_43 : decode cX7_take 43 = .ok (.iconst 0, 1) := by decide +kernel
theorem dX7_take_44 : decode cX7_take 44 = .ok (.putfield 7, 3) := by decide +kernel
theorem dX7_take_47 : decode cX7_take 47 = .ok (.aload_n 0, 1) := by decide +kernel
theorem dX7_take_48 : decode cX7_take 48 = .ok (.dup, 1) := by decide +kernel
theorem dX7_take_49 : decode cX7_take 49 = .ok (.getfield 13, 3) := by decide +kernel
theorem dX7_take_52 : decode cX7_take 52 = .ok (.iconst 1, 1) := by decide +kernel
theorem dX7_take_53 : decode cX7_take 53 = .ok (.isub, 1) := by decide +kernel
theorem dX7_take_54 : decode cX7_take 54 = .ok (.putfield 13, 3) := by decide +kernel
theorem dX7_take_57 : decode cX7_take 57 = .ok (.iload_n 1, 1) := by decide +kernel
theorem dX7_take_58 : decode cX7_take 58 = .ok (.ireturn, 1) := by decide +kernel
theorem dX8_init_0 : decode cX8_init 0 = .ok (.aload_n 0, 1) := by decide +kernel
theorem dX8_init_1 : decode cX8_init 1 = .ok (.invokespecial 3, 3) := by decide +kernel
theorem dX8_init_4 : decode cX8_init 4 = .ok (.aload_n 0, 1) := by decide +kernel
theorem dX8_init_5 : decode cX8_init 5 = .ok (.iconst 0, 1) := by decide +kernel
theorem dX8_init_6 : decode cX8_init 6 = .ok (.putfield 11, 3) := by decide +kernel
theorem dX8_init_9 : decode cX8_init 9 = .ok (.aload_n 0, 1) := by decide +kernel
theorem dX8_init_10 : decode cX8_init 10 = .ok (.iconst 0, 1) := by decide +kernel
theorem dX8_init_11 : decode cX8_init 11 = .ok (.putfield 15, 3) := by decide +kernel
theorem dX8_init_14 : decode cX8_init 14 = .ok (.aload_n 0, 1) := by decide +kernel
theorem dX8_init_15 : decode cX8_init 15 = .ok (.iconst 3, 1) := by decide +kernel
theorem dX8_init_16 : decode cX8_init 16 = .ok (.putfield 18, 3) := by decide +kernel
theorem dX8_init_19 : decode cX8_init 19 = .ok (.aload_n 0, 1) := by decide +kernel
theorem dX8_init_20 : decode cX8_init 20 = .ok (.lconst 0, 1) := by decide +kernel
theorem dX8_init_21 : decode cX8_init 21 = .ok (.putfield 21, 3) := by decide +kernel
theorem dX8_init_24 : decode cX8_init 24 = .ok (.aload_n 0, 1) := by decide +kernel
theorem dX8_init_25 : decode cX8_init 25 = .ok (.iconst 0, 1) := by decide +kernel
theorem dX8_init_26 : decode cX8_init 26 = .ok (.putfield 25, 3) := by decide +kernel
theorem dX8_init_29 : decode cX8_init 29 = .ok (.aload_n 0, 1) := by decide +kernel
theorem dX8_init_30 : decode cX8_init 30 = .ok (.iconst 0, 1) := by decide +kernel
theorem dX8_init_31 : decode cX8_init 31 = .ok (.putfield 28, 3) := by decide +kernel
theorem dX8_init_34 : decode cX8_init 34 = .ok (.aload_n 0, 1) := by decide +kernel
theorem dX8_init_35 : decode cX8_init 35 = .ok (.iconst 0, 1) := by decide +kernel
theorem dX8_init_36 : decode cX8_init 36 = .ok (.putfield 31, 3) := by decide +kernel
theorem dX8_init_39 : decode cX8_init 39 = .ok (.aload_n 0, 1) := by decide +kernel
theorem dX8_init_40 : decode cX8_init 40 = .ok (.iload_n 1, 1) := by decide +kernel
theorem dX8_init_41 : decode cX8_init 41 = .ok (.putfield 34, 3) := by decide +kernel
theorem dX8_init_44 : decode cX8_init 44 = .ok (.aload_n 0, 1) := by decide +kernel
theorem dX8_init_45 : decode cX8_init 45 = .ok (.iconst 4, 1) := by decide +kernel
theorem dX8_init_46 : decode cX8_init 46 = .ok (.iload_n 1, 1) := by decide +kernel
theorem dX8_init_47 : decode cX8_init 47 = .ok (.invokestatic 37, 3) := by decide +kernel
theorem dX8_init_50 : decode cX8_init 50 = .ok (.putfield 43, 3) := by decide +kernel
theorem dX8_init_53 : decode cX8_init 53 = .ok (.return_, 1) := by decide +kernel
theorem dX8_left_0 : decode cX8_left 0 = .ok (.aload_n 0, 1) := by decide +kernel
theorem dX8_left_1 : decode cX8_left 1 = .ok (.getfield 34, 3) := by decide +kernel
theorem dX8_left_4 : decode cX8_left 4 = .ok (.aload_n 0, 1) := by decide +kernel
theorem dX8_left_5 : decode cX8_left 5 = .ok (.getfield 15, 3) := by decide +kernel
theorem dX8_left_8 : decode cX8_left 8 = .ok (.isub, 1) := by decide +kernel
theorem dX8_left_9 : decode cX8_left 9 = .ok (.aload_n 0, 1) := by decide +kernel
theorem dX8_left_10 : decode cX8_left 10 = .ok (.getfield 21, 3) := by decide +kernel
theorem dX8_left_13 : decode cX8_left 13 = .ok (.invokestatic 46, 3) := by decide +kernel
theorem dX8_left_16 : decode cX8_left 16 = .ok (.iadd, 1) := by decide +kernel
theorem dX8_left_17 : decode cX8_left 17 = .ok (.ireturn, 1) := by decide +kernel
theorem dX8_level_0 : decode cX8_level 0 = .ok (.aload_n 0, 1) := by decide +kernel
theorem dX8_level_1 : decode cX8_level 1 = .ok (.getfield 18, 3) := by decide +kernel
theorem dX8_level_4 : decode cX8_level 4 = .ok (.ireturn, 1) := by decide +kernel
theorem dX8_canSend_0 : decode cX8_canSend 0 = .ok (.aload_n 0, 1) := by decide +kernel
theorem dX8_canSend_1 : decode cX8_canSend 1 = .ok (.getfield 11, 3) := by decide +kernel
theorem dX8_canSend_4 : decode cX8_canSend 4 = .ok (.ifCond .ne 27, 3) := by decide +kernel
theorem dX8_canSend_7 : decode cX8_canSend 7 = .ok (.aload_n 0, 1) := by decide +kernel
theorem dX8_canSend_8 : decode cX8_canSend 8 = .ok (.getfield 21, 3) := by decide +kernel
theorem dX8_canSend_11 : decode cX8_canSend 11 = .ok (.lconst 0, 1) := by decide +kernel
theorem dX8_canSend_12 : decode cX8_canSend 12 = .ok (.lcmp, 1) := by decide +kernel
theorem dX8_canSend_13 : decode cX8_canSend 13 = .ok (.ifCond .ne 14, 3) := by decide +kernel
theorem dX8_canSend_16 : decode cX8_canSend 16 = .ok (.aload_n 0, 1) := by decide +kernel
theorem dX8_canSend_17 : decode cX8_canSend 17 = .ok (.getfield 15, 3) := by decide +kernel
theorem dX8_canSend_20 : decode cX8_canSend 20 = .ok (.aload_n 0, 1) := by decide +kernel
theorem dX8_canSend_21 : decode cX8_canSend 21 = .ok (.getfield 43, 3) := by decide +kernel
theorem dX8_canSend_24 : decode cX8_canSend 24 = .ok (.if_icmp .ge 7, 3) := by decide +kernel
theorem dX8_canSend_27 : decode cX8_canSend 27 = .ok (.iconst 1, 1) := by decide +kernel
theorem dX8_canSend_28 : decode cX8_canSend 28 = .ok (.goto 4, 3) := by decide +kernel
theorem dX8_canSend_31 : decode cX8_canSend 31 = .ok (.iconst 0, 1) := by decide +kernel
theorem dX8_canSend_32 : decode cX8_canSend 32 = .ok (.ireturn, 1) := by decide +kernel
theorem dX8_takePlace_0 : decode cX8_takePlace 0 = .ok (.aload_n 0, 1) := by decide +kernel
theorem dX8_takePlace_1 : decode cX8_takePlace 1 = .ok (.getfield 21, 3) := by decide +kernel
theorem dX8_takePlace_4 : decode cX8_takePlace 4 = .ok (.lconst 0, 1) := by decide +kernel
theorem dX8_takePlace_5 : decode cX8_takePlace 5 = .ok (.lcmp, 1) := by decide +kernel
theorem dX8_takePlace_6 : decode cX8_takePlace 6 = .ok (.ifCond .ne 20, 3) := by decide +kernel
theorem dX8_takePlace_9 : decode cX8_takePlace 9 = .ok (.aload_n 0, 1) := by decide +kernel
theorem dX8_takePlace_10 : decode cX8_takePlace 10 = .ok (.dup, 1) := by decide +kernel
theorem dX8_takePlace_11 : decode cX8_takePlace 11 = .ok (.getfield 15, 3) := by decide +kernel
theorem dX8_takePlace_14 : decode cX8_takePlace 14 = .ok (.iconst 1, 1) := by decide +kernel
theorem dX8_takePlace_15 : decode cX8_takePlace 15 = .ok (.iadd, 1) := by decide +kernel
end
section
theorem dX8_takePlace_16 : decode cX8_takePlace 16 = .ok (.putfield 15, 3) := by decide +kernel
theorem dX8_takePlace_19 : decode cX8_takePlace 19 = .ok (.aload_n 0, 1) := by decide +kernel
theorem dX8_takePlace_20 : decode cX8_takePlace 20 = .ok (.getfield 15, 3) := by decide +kernel
theorem dX8_takePlace_23 : decode cX8_takePlace 23 = .ok (.iconst 1, 1) := by decide +kernel
theorem dX8_takePlace_24 : decode cX8_takePlace 24 = .ok (.isub, 1) := by decide +kernel
theorem dX8_takePlace_25 : decode cX8_takePlace 25 = .ok (.ireturn, 1) := by decide +kernel
theorem dX8_takePlace_26 : decode cX8_takePlace 26 = .ok (.aload_n 0, 1) := by decide +kernel
theorem dX8_takePlace_27 : decode cX8_takePlace 27 = .ok (.getfield 21, 3) := by decide +kernel
theorem dX8_takePlace_30 : decode cX8_takePlace 30 = .ok (.invokestatic 52, 3) := by decide +kernel
theorem dX8_takePlace_33 : decode cX8_takePlace 33 = .ok (.istore_n 1, 1) := by decide +kernel
theorem dX8_takePlace_34 : decode cX8_takePlace 34 = .ok (.aload_n 0, 1) := by decide +kernel
theorem dX8_takePlace_35 : decode cX8_takePlace 35 = .ok (.aload_n 0, 1) := by decide +kernel
theorem dX8_takePlace_36 : decode cX8_takePlace 36 = .ok (.getfield 21, 3) := by decide +kernel
theorem dX8_takePlace_39 : decode cX8_takePlace 39 = .ok (.iload_n 1, 1) := by decide +kernel
theorem dX8_takePlace_40 : decode cX8_takePlace 40 = .ok (.invokestatic 57, 3) := by decide +kernel
theorem dX8_takePlace_43 : decode cX8_takePlace 43 = .ok (.putfield 21, 3) := by decide +kernel
theorem dX8_takePlace_46 : decode cX8_takePlace 46 = .ok (.iload_n 1, 1) := by decide +kernel
theorem dX8_takePlace_47 : decode cX8_takePlace 47 = .ok (.ireturn, 1) := by decide +kernel
theorem dX8_takeAnswer_0 : decode cX8_takeAnswer 0 = .ok (.aload_n 0, 1) := by decide +kernel
theorem dX8_takeAnswer_1 : decode cX8_takeAnswer 1 = .ok (.getfield 11, 3) := by decide +kernel
theorem dX8_takeAnswer_4 : decode cX8_takeAnswer 4 = .ok (.ifCond .eq 4, 3) := by decide +kernel
theorem dX8_takeAnswer_7 : decode cX8_takeAnswer 7 = .ok (.return_, 1) := by decide +kernel
theorem dX8_takeAnswer_8 : decode cX8_takeAnswer 8 = .ok (.aload_n 0, 1) := by decide +kernel
theorem dX8_takeAnswer_9 : decode cX8_takeAnswer 9 = .ok (.iconst 0, 1) := by decide +kernel
theorem dX8_takeAnswer_10 : decode cX8_takeAnswer 10 = .ok (.putfield 25, 3) := by decide +kernel
theorem dX8_takeAnswer_13 : decode cX8_takeAnswer 13 = .ok (.aload_n 0, 1) := by decide +kernel
theorem dX8_takeAnswer_14 : decode cX8_takeAnswer 14 = .ok (.iconst 0, 1) := by decide +kernel
theorem dX8_takeAnswer_15 : decode cX8_takeAnswer 15 = .ok (.putfield 28, 3) := by decide +kernel
theorem dX8_takeAnswer_18 : decode cX8_takeAnswer 18 = .ok (.iload_n 1, 1) := by decide +kernel
theorem dX8_takeAnswer_19 : decode cX8_takeAnswer 19 = .ok (.iconst 1, 1) := by decide +kernel
theorem dX8_takeAnswer_20 : decode cX8_takeAnswer 20 = .ok (.if_icmp .ne 29, 3) := by decide +kernel
theorem dX8_takeAnswer_23 : decode cX8_takeAnswer 23 = .ok (.aload_n 0, 1) := by decide +kernel
theorem dX8_takeAnswer_24 : decode cX8_takeAnswer 24 = .ok (.aload_n 0, 1) := by decide +kernel
theorem dX8_takeAnswer_25 : decode cX8_takeAnswer 25 = .ok (.getfield 43, 3) := by decide +kernel
theorem dX8_takeAnswer_28 : decode cX8_takeAnswer 28 = .ok (.iload_n 2, 1) := by decide +kernel
theorem dX8_takeAnswer_29 : decode cX8_takeAnswer 29 = .ok (.invokestatic 63, 3) := by decide +kernel
theorem dX8_takeAnswer_32 : decode cX8_takeAnswer 32 = .ok (.invokestatic 69, 3) := by decide +kernel
theorem dX8_takeAnswer_35 : decode cX8_takeAnswer 35 = .ok (.putfield 43, 3) := by decide +kernel
theorem dX8_takeAnswer_38 : decode cX8_takeAnswer 38 = .ok (.aload_n 0, 1) := by decide +kernel
theorem dX8_takeAnswer_39 : decode cX8_takeAnswer 39 = .ok (.iload_n 2, 1) := by decide +kernel
theorem dX8_takeAnswer_40 : decode cX8_takeAnswer 40 = .ok (.invokestatic 72, 3) := by decide +kernel
theorem dX8_takeAnswer_43 : decode cX8_takeAnswer 43 = .ok (.putfield 18, 3) := by decide +kernel
theorem dX8_takeAnswer_46 : decode cX8_takeAnswer 46 = .ok (.goto 40, 3) := by decide +kernel
theorem dX8_takeAnswer_49 : decode cX8_takeAnswer 49 = .ok (.iload_n 1, 1) := by decide +kernel
theorem dX8_takeAnswer_50 : decode cX8_takeAnswer 50 = .ok (.iconst 2, 1) := by decide +kernel
theorem dX8_takeAnswer_51 : decode cX8_takeAnswer 51 = .ok (.if_icmp .ne 29, 3) := by decide +kernel
theorem dX8_takeAnswer_54 : decode cX8_takeAnswer 54 = .ok (.aload_n 0, 1) := by decide +kernel
theorem dX8_takeAnswer_55 : decode cX8_takeAnswer 55 = .ok (.aload_n 0, 1) := by decide +kernel
theorem dX8_takeAnswer_56 : decode cX8_takeAnswer 56 = .ok (.getfield 43, 3) := by decide +kernel
theorem dX8_takeAnswer_59 : decode cX8_takeAnswer 59 = .ok (.iload_n 2, 1) := by decide +kernel
theorem dX8_takeAnswer_60 : decode cX8_takeAnswer 60 = .ok (.invokestatic 75, 3) := by decide +kernel
theorem dX8_takeAnswer_63 : decode cX8_takeAnswer 63 = .ok (.invokestatic 69, 3) := by decide +kernel
theorem dX8_takeAnswer_66 : decode cX8_takeAnswer 66 = .ok (.putfield 43, 3) := by decide +kernel
theorem dX8_takeAnswer_69 : decode cX8_takeAnswer 69 = .ok (.aload_n 0, 1) := by decide +kernel
theorem dX8_takeAnswer_70 : decode cX8_takeAnswer 70 = .ok (.iload_n 2, 1) := by decide +kernel
theorem dX8_takeAnswer_71 : decode cX8_takeAnswer 71 = .ok (.invokestatic 78, 3) := by decide +kernel
theorem dX8_takeAnswer_74 : decode cX8_takeAnswer 74 = .ok (.invokevirtual 81, 3) := by decide +kernel
theorem dX8_takeAnswer_77 : decode cX8_takeAnswer 77 = .ok (.goto 9, 3) := by decide +kernel
theorem dX8_takeAnswer_80 : decode cX8_takeAnswer 80 = .ok (.aload_n 0, 1) := by decide +kernel
theorem dX8_takeAnswer_81 : decode cX8_takeAnswer 81 = .ok (.iconst 1, 1) := by decide +kernel
theorem dX8_takeAnswer_82 : decode cX8_takeAnswer 82 = .ok (.iload_n 3, 1) := by decide +kernel
theorem dX8_takeAnswer_83 : decode cX8_takeAnswer 83 = .ok (.invokevirtual 85, 3) := by decide +kernel
theorem dX8_takeAnswer_86 : decode cX8_takeAnswer 86 = .ok (.return_, 1) := by decide +kernel
theorem dX8_growQuiet_0 : decode cX8_growQuiet 0 = .ok (.aload_n 0, 1) := by decide +kernel
theorem dX8_growQuiet_1 : decode cX8_growQuiet 1 = .ok (.getfield 11, 3) := by decide +kernel
theorem dX8_growQuiet_4 : decode cX8_growQuiet 4 = .ok (.ifCond .eq 4, 3) := by decide +kernel
theorem dX8_growQuiet_7 : decode cX8_growQuiet 7 = .ok (.return_, 1) := by decide +kernel
theorem dX8_growQuiet_8 : decode cX8_growQuiet 8 = .ok (.aload_n 0, 1) := by decide +kernel
theorem dX8_growQuiet_9 : decode cX8_growQuiet 9 = .ok (.dup, 1) := by decide +kernel
theorem dX8_growQuiet_10 : decode cX8_growQuiet 10 = .ok (.getfield 25, 3) := by decide +kernel
theorem dX8_growQuiet_13 : decode cX8_growQuiet 13 = .ok (.iconst 1, 1) := by decide +kernel
theorem dX8_growQuiet_14 : decode cX8_growQuiet 14 = .ok (.iadd, 1) := by decide +kernel
theorem dX8_growQuiet_15 : decode cX8_growQuiet 15 = .ok (.putfield 25, 3) := by decide +kernel
theorem dX8_growQuiet_18 : decode cX8_growQuiet 18 = .ok (.aload_n 0, 1) := by decide +kernel
theorem dX8_growQuiet_19 : decode cX8_growQuiet 19 = .ok (.getfield 25, 3) := by decide +kernel
theorem dX8_growQuiet_22 : decode cX8_growQuiet 22 = .ok (.bipush 40, 2) := by decide +kernel
theorem dX8_growQuiet_24 : decode cX8_growQuiet 24 = .ok (.if_icmp .ge 4, 3) := by decide +kernel
theorem dX8_growQuiet_27 : decode cX8_growQuiet 27 = .ok (.return_, 1) := by decide +kernel
theorem dX8_growQuiet_28 : decode cX8_growQuiet 28 = .ok (.aload_n 0, 1) := by decide +kernel
theorem dX8_growQuiet_29 : decode cX8_growQuiet 29 = .ok (.iconst 0, 1) := by decide +kernel
theorem dX8_growQuiet_30 : decode cX8_growQuiet 30 = .ok (.putfield 25, 3) := by decide +kernel
theorem dX8_growQuiet_33 : decode cX8_growQuiet 33 = .ok (.aload_n 0, 1) := by decide +kernel
theorem dX8_growQuiet_34 : decode cX8_growQuiet 34 = .ok (.dup, 1) := by decide +kernel
theorem dX8_growQuiet_35 : decode cX8_growQuiet 35 = .ok (.getfield 28, 3) := by decide +kernel
theorem dX8_growQuiet_38 : decode cX8_growQuiet 38 = .ok (.iconst 1, 1) := by decide +kernel
theorem dX8_growQuiet_39 : decode cX8_growQuiet 39 = .ok (.iadd, 1) := by decide +kernel
theorem dX8_growQuiet_40 : decode cX8_growQuiet 40 = .ok (.putfield 28, 3) := by decide +kernel
theorem dX8_growQuiet_43 : decode cX8_growQuiet 43 = .ok (.aload_n 0, 1) := by decide +kernel
theorem dX8_growQuiet_44 : decode cX8_growQuiet 44 = .ok (.getfield 28, 3) := by decide +kernel
theorem dX8_growQuiet_47 : decode cX8_growQuiet 47 = .ok (.bipush 6, 2) := by decide +kernel
theorem dX8_growQuiet_49 : decode cX8_growQuiet 49 = .ok (.if_icmp .lt 12, 3) := by decide +kernel
theorem dX8_growQuiet_52 : decode cX8_growQuiet 52 = .ok (.aload_n 0, 1) := by decide +kernel
theorem dX8_growQuiet_53 : decode cX8_growQuiet 53 = .ok (.iconst 2, 1) := by decide +kernel
theorem dX8_growQuiet_54 : decode cX8_growQuiet 54 = .ok (.iload_n 1, 1) := by decide +kernel
theorem dX8_growQuiet_55 : decode cX8_growQuiet 55 = .ok (.invokevirtual 85, 3) := by decide +kernel
theorem dX8_growQuiet_58 : decode cX8_growQuiet 58 = .ok (.goto 8, 3) := by decide +kernel
theorem dX8_growQuiet_61 : decode cX8_growQuiet 61 = .ok (.aload_n 0, 1) := by decide +kernel
theorem dX8_growQuiet_62 : decode cX8_growQuiet 62 = .ok (.iconst 0, 1) := by decide +kernel
theorem dX8_growQuiet_63 : decode cX8_growQuiet 63 = .ok (.invokevirtual 81, 3) := by decide +kernel
theorem dX8_growQuiet_66 : decode cX8_growQuiet 66 = .ok (.return_, 1) := by decide +kernel
theorem dX8_want_0 : decode cX8_want 0 = .ok (.iload_n 1, 1) := by decide +kernel
theorem dX8_want_1 : decode cX8_want 1 = .ok (.aload_n 0, 1) := by decide +kernel
theorem dX8_want_2 : decode cX8_want 2 = .ok (.getfield 15, 3) := by decide +kernel
theorem dX8_want_5 : decode cX8_want 5 = .ok (.if_icmp .ge 15, 3) := by decide +kernel
theorem dX8_want_8 : decode cX8_want 8 = .ok (.aload_n 0, 1) := by decide +kernel
theorem dX8_want_9 : decode cX8_want 9 = .ok (.aload_n 0, 1) := by decide +kernel
theorem dX8_want_10 : decode cX8_want 10 = .ok (.getfield 21, 3) := by decide +kernel
theorem dX8_want_13 : decode cX8_want 13 = .ok (.iload_n 1, 1) := by decide +kernel
theorem dX8_want_14 : decode cX8_want 14 = .ok (.invokestatic 89, 3) := by decide +kernel
theorem dX8_want_17 : decode cX8_want 17 = .ok (.putfield 21, 3) := by decide +kernel
theorem dX8_want_20 : decode cX8_want 20 = .ok (.return_, 1) := by decide +kernel
theorem dX8_end_0 : decode cX8_end 0 = .ok (.aload_n 0, 1) := by decide +kernel
theorem dX8_end_1 : decode cX8_end 1 = .ok (.iload_n 1, 1) := by decide +kernel
theorem dX8_end_2 : decode cX8_end 2 = .ok (.putfield 11, 3) := by decide +kernel
theorem dX8_end_5 : decode cX8_end 5 = .ok (.aload_n 0, 1) := by decide +kernel
theorem dX8_end_6 : decode cX8_end 6 = .ok (.iload_n 2, 1) := by decide +kernel
theorem dX8_end_7 : decode cX8_end 7 = .ok (.putfield 31, 3) := by decide +kernel
theorem dX8_end_10 : decode cX8_end 10 = .ok (.return_, 1) := by decide +kernel
theorem dX8_tell_0 : decode cX8_tell 0 = .ok (.iload_n 1, 1) := by decide +kernel
theorem dX8_tell_1 : decode cX8_tell 1 = .ok (.tableswitch 87 0 7 #[47, 52, 57, 62, 67, 72, 77, 82], 47) := by decide +kernel
theorem dX8_tell_48 : decode cX8_tell 48 = .ok (.aload_n 0, 1) := by decide +kernel
theorem dX8_tell_49 : decode cX8_tell 49 = .ok (.getfield 11, 3) := by decide +kernel
theorem dX8_tell_52 : decode cX8_tell 52 = .ok (.ireturn, 1) := by decide +kernel
theorem dX8_tell_53 : decode cX8_tell 53 = .ok (.aload_n 0, 1) := by decide +kernel
theorem dX8_tell_54 : decode cX8_tell 54 = .ok (.getfield 15, 3) := by decide +kernel
theorem dX8_tell_57 : decode cX8_tell 57 = .ok (.ireturn, 1) := by decide +kernel
theorem dX8_tell_58 : decode cX8_tell 58 = .ok (.aload_n 0, 1) := by decide +kernel
theorem dX8_tell_59 : decode cX8_tell 59 = .ok (.getfield 43, 3) := by decide +kernel
theorem dX8_tell_62 : decode cX8_tell 62 = .ok (.ireturn, 1) := by decide +kernel
theorem dX8_tell_63 : decode cX8_tell 63 = .ok (.aload_n 0, 1) := by decide +kernel
theorem dX8_tell_64 : decode cX8_tell 64 = .ok (.invokevirtual 92, 3) := by decide +kernel
theorem dX8_tell_67 : decode cX8_tell 67 = .ok (.ireturn, 1) := by decide +kernel
theorem dX8_tell_68 : decode cX8_tell 68 = .ok (.aload_n 0, 1) := by decide +kernel
theorem dX8_tell_69 : decode cX8_tell 69 = .ok (.getfield 25, 3) := by decide +kernel
theorem dX8_tell_72 : decode cX8_tell 72 = .ok (.ireturn, 1) := by decide +kernel
theorem dX8_tell_73 : decode cX8_tell 73 = .ok (.aload_n 0, 1) := by decide +kernel
theorem dX8_tell_74 : decode cX8_tell 74 = .ok (.getfield 28, 3) := by decide +kernel
theorem dX8_tell_77 : decode cX8_tell 77 = .ok (.ireturn, 1) := by decide +kernel
theorem dX8_tell_78 : decode cX8_tell 78 = .ok (.aload_n 0, 1) := by decide +kernel
theorem dX8_tell_79 : decode cX8_tell 79 = .ok (.getfield 18, 3) := by decide +kernel
theorem dX8_tell_82 : decode cX8_tell 82 = .ok (.ireturn, 1) := by decide +kernel
theorem dX8_tell_83 : decode cX8_tell 83 = .ok (.aload_n 0, 1) := by decide +kernel
theorem dX8_tell_84 : decode cX8_tell 84 = .ok (.getfield 31, 3) := by decide +kernel
theorem dX8_tell_87 : decode cX8_tell 87 = .ok (.ireturn, 1) := by decide +kernel
theorem dX8_tell_88 : decode cX8_tell 88 = .ok (.iconst (-1), 1) := by decide +kernel
theorem dX8_tell_89 : decode cX8_tell 89 = .ok (.ireturn, 1) := by decide +kernel
theorem dX9_init_0 : decode cX9_init 0 = .ok (.aload_n 0, 1) := by decide +kernel
theorem dX9_init_1 : decode cX9_init 1 = .ok (.invokespecial 1, 3) := by decide +kernel
theorem dX9_init_4 : decode cX9_init 4 = .ok (.aload_n 0, 1) := by decide +kernel
theorem dX9_init_5 : decode cX9_init 5 = .ok (.new 7, 3) := by decide +kernel
theorem dX9_init_8 : decode cX9_init 8 = .ok (.dup, 1) := by decide +kernel
theorem dX9_init_9 : decode cX9_init 9 = .ok (.invokespecial 9, 3) := by decide +kernel
theorem dX9_init_12 : decode cX9_init 12 = .ok (.putfield 10, 3) := by decide +kernel
theorem dX9_init_15 : decode cX9_init 15 = .ok (.aload_n 0, 1) := by decide +kernel
theorem dX9_init_16 : decode cX9_init 16 = .ok (.bipush 8, 2) := by decide +kernel
theorem dX9_init_18 : decode cX9_init 18 = .ok (.anewarray 16, 3) := by decide +kernel
theorem dX9_init_21 : decode cX9_init 21 = .ok (.putfield 18, 3) := by decide +kernel
theorem dX9_init_24 : decode cX9_init 24 = .ok (.aload_n 0, 1) := by decide +kernel
theorem dX9_init_25 : decode cX9_init 25 = .ok (.bipush 48, 2) := by decide +kernel
theorem dX9_init_27 : decode cX9_init 27 = .ok (.anewarray 22, 3) := by decide +kernel
theorem dX9_init_30 : decode cX9_init 30 = .ok (.putfield 24, 3) := by decide +kernel
theorem dX9_init_33 : decode cX9_init 33 = .ok (.aload_n 0, 1) := by decide +kernel
theorem dX9_init_34 : decode cX9_init 34 = .ok (.iconst 0, 1) := by decide +kernel
theorem dX9_init_35 : decode cX9_init 35 = .ok (.putfield 28, 3) := by decide +kernel
theorem dX9_init_38 : decode cX9_init 38 = .ok (.aload_n 0, 1) := by decide +kernel
theorem dX9_init_39 : decode cX9_init 39 = .ok (.iconst 0, 1) := by decide +kernel
theorem dX9_init_40 : decode cX9_init 40 = .ok (.putfield 32, 3) := by decide +kernel
theorem dX9_init_43 : decode cX9_init 43 = .ok (.iconst 0, 1) := by decide +kernel
theorem dX9_init_44 : decode cX9_init 44 = .ok (.istore_n 1, 1) := by decide +kernel
theorem dX9_init_45 : decode cX9_init 45 = .ok (.iload_n 1, 1) := by decide +kernel
theorem dX9_init_46 : decode cX9_init 46 = .ok (.bipush 8, 2) := by decide +kernel
theorem dX9_init_48 : decode cX9_init 48 = .ok (.if_icmp .ge 22, 3) := by decide +kernel
theorem dX9_init_51 : decode cX9_init 51 = .ok (.aload_n 0, 1) := by decide +kernel
theorem dX9_init_52 : decode cX9_init 52 = .ok (.getfield 18, 3) := by decide +kernel
theorem dX9_init_55 : decode cX9_init 55 = .ok (.iload_n 1, 1) := by decide +kernel
theorem dX9_init_56 : decode cX9_init 56 = .ok (.new 16, 3) := by decide +kernel
theorem dX9_init_59 : decode cX9_init 59 = .ok (.dup, 1) := by decide +kernel
theorem dX9_init_60 : decode cX9_init 60 = .ok (.invokespecial 35, 3) := by decide +kernel
theorem dX9_init_63 : decode cX9_init 63 = .ok (.aastore, 1) := by decide +kernel
theorem dX9_init_64 : decode cX9_init 64 = .ok (.iinc 1 1, 3) := by decide +kernel
theorem dX9_init_67 : decode cX9_init 67 = .ok (.goto (-22), 3) := by decide +kernel
theorem dX9_init_70 : decode cX9_init 70 = .ok (.return_, 1) := by decide +kernel
theorem dX9_message_0 : decode cX9_message 0 = .ok (.iload_n 1, 1) := by decide +kernel
theorem dX9_message_1 : decode cX9_message 1 = .ok (.invokestatic 36, 3) := by decide +kernel
theorem dX9_message_4 : decode cX9_message 4 = .ok (.ifCond .eq 19, 3) := by decide +kernel
theorem dX9_message_7 : decode cX9_message 7 = .ok (.iload_n 2, 1) := by decide +kernel
theorem dX9_message_8 : decode cX9_message 8 = .ok (.invokestatic 36, 3) := by decide +kernel
theorem dX9_message_11 : decode cX9_message 11 = .ok (.ifCond .eq 12, 3) := by decide +kernel
theorem dX9_message_14 : decode cX9_message 14 = .ok (.iload_n 1, 1) := by decide +kernel
theorem dX9_message_15 : decode cX9_message 15 = .ok (.iload_n 2, 1) := by decide +kernel
theorem dX9_message_16 : decode cX9_message 16 = .ok (.if_icmp .eq 7, 3) := by decide +kernel
theorem dX9_message_19 : decode cX9_message 19 = .ok (.iconst 1, 1) := by decide +kernel
theorem dX9_message_20 : decode cX9_message 20 = .ok (.goto 4, 3) := by decide +kernel
theorem dX9_message_23 : decode cX9_message 23 = .ok (.iconst 0, 1) := by decide +kernel
theorem dX9_message_24 : decode cX9_message 24 = .ok (.istore 5, 2) := by decide +kernel
theorem dX9_message_26 : decode cX9_message 26 = .ok (.iload_n 3, 1) := by decide +kernel
theorem dX9_message_27 : decode cX9_message 27 = .ok (.iconst 1, 1) := by decide +kernel
theorem dX9_message_28 : decode cX9_message 28 = .ok (.if_icmp .lt 24, 3) := by decide +kernel
theorem dX9_message_31 : decode cX9_message 31 = .ok (.iload_n 3, 1) := by decide +kernel
theorem dX9_message_32 : decode cX9_message 32 = .ok (.bipush 60, 2) := by decide +kernel
theorem dX9_message_34 : decode cX9_message 34 = .ok (.if_icmp .gt 18, 3) := by decide +kernel
theorem dX9_message_37 : decode cX9_message 37 = .ok (.iload 4, 2) := by decide +kernel
theorem dX9_message_39 : decode cX9_message 39 = .ok (.ifCond .eq 9, 3) := by decide +kernel
theorem dX9_message_42 : decode cX9_message 42 = .ok (.iload 4, 2) := by decide +kernel
theorem dX9_message_44 : decode cX9_message 44 = .ok (.iconst 1, 1) := by decide +kernel
theorem dX9_message_45 : decode cX9_message 45 = .ok (.if_icmp .ne 7, 3) := by decide +kernel
theorem dX9_message_48 : decode cX9_message 48 = .ok (.iconst 1, 1) := by decide +kernel
theorem dX9_message_49 : decode cX9_message 49 = .ok (.goto 4, 3) := by decide +kernel
theorem dX9_message_52 : decode cX9_message 52 = .ok (.iconst 0, 1) := by decide +kernel
theorem dX9_message_53 : decode cX9_message 53 = .ok (.istore 6, 2) := by decide +kernel
theorem dX9_message_55 : decode cX9_message 55 = .ok (.iload 5, 2) := by decide +kernel
theorem dX9_message_57 : decode cX9_message 57 = .ok (.ifCond .eq 17, 3) := by decide +kernel
theorem dX9_message_60 : decode cX9_message 60 = .ok (.iload 6, 2) := by decide +kernel
theorem dX9_message_62 : decode cX9_message 62 = .ok (.ifCond .eq 12, 3) := by decide +kernel
theorem dX9_message_65 : decode cX9_message 65 = .ok (.aload_n 0, 1) := by decide +kernel
theorem dX9_message_66 : decode cX9_message 66 = .ok (.getfield 28, 3) := by decide +kernel
theorem dX9_message_69 : decode cX9_message 69 = .ok (.bipush 48, 2) := by decide +kernel
theorem dX9_message_71 : decode cX9_message 71 = .ok (.if_icmp .lt 5, 3) := by decide +kernel
theorem dX9_message_74 : decode cX9_message 74 = .ok (.iconst (-1), 1) := by decide +kernel
theorem dX9_message_75 : decode cX9_message 75 = .ok (.ireturn, 1) := by decide +kernel
theorem dX9_message_76 : decode cX9_message 76 = .ok (.new 22, 3) := by decide +kernel
theorem dX9_message_79 : decode cX9_message 79 = .ok (.dup, 1) := by decide +kernel
theorem dX9_message_80 : decode cX9_message 80 = .ok (.aload_n 0, 1) := by decide +kernel
theorem dX9_message_81 : decode cX9_message 81 = .ok (.getfield 28, 3) := by decide +kernel
theorem dX9_message_84 : decode cX9_message 84 = .ok (.iload_n 1, 1) := by decide +kernel
theorem dX9_message_85 : decode cX9_message 85 = .ok (.iload_n 2, 1) := by decide +kernel
theorem dX9_message_86 : decode cX9_message 86 = .ok (.iload_n 3, 1) := by decide +kernel
theorem dX9_message_87 : decode cX9_message 87 = .ok (.iload 4, 2) := by decide +kernel
theorem dX9_message_89 : decode cX9_message 89 = .ok (.invokespecial 40, 3) := by decide +kernel
theorem dX9_message_92 : decode cX9_message 92 = .ok (.astore 7, 2) := by decide +kernel
theorem dX9_message_94 : decode cX9_message 94 = .ok (.aload_n 0, 1) := by decide +kernel
theorem dX9_message_95 : decode cX9_message 95 = .ok (.getfield 24, 3) := by decide +kernel
theorem dX9_message_98 : decode cX9_message 98 = .ok (.aload_n 0, 1) := by decide +kernel
theorem dX9_message_99 : decode cX9_message 99 = .ok (.getfield 28, 3) := by decide +kernel
theorem dX9_message_102 : decode cX9_message 102 = .ok (.aload 7, 2) := by decide +kernel
theorem dX9_message_104 : decode cX9_message 104 = .ok (.aastore, 1) := by decide +kernel
theorem dX9_message_105 : decode cX9_message 105 = .ok (.aload_n 0, 1) := by decide +kernel
theorem dX9_message_106 : decode cX9_message 106 = .ok (.dup, 1) := by decide +kernel
theorem dX9_message_107 : decode cX9_message 107 = .ok (.getfield 28, 3) := by decide +kernel
theorem dX9_message_110 : decode cX9_message 110 = .ok (.iconst 1, 1) := by decide +kernel
theorem dX9_message_111 : decode cX9_message 111 = .ok (.iadd, 1) := by decide +kernel
theorem dX9_message_112 : decode cX9_message 112 = .ok (.putfield 28, 3) := by decide +kernel
theorem dX9_message_115 : decode cX9_message 115 = .ok (.aload_n 0, 1) := by decide +kernel
theorem dX9_message_116 : decode cX9_message 116 = .ok (.getfield 18, 3) := by decide +kernel
theorem dX9_message_119 : decode cX9_message 119 = .ok (.iload_n 1, 1) := by decide +kernel
theorem dX9_message_120 : decode cX9_message 120 = .ok (.aaload, 1) := by decide +kernel
theorem dX9_message_121 : decode cX9_message 121 = .ok (.aload 7, 2) := by decide +kernel
theorem dX9_message_123 : decode cX9_message 123 = .ok (.invokevirtual 43, 3) := by decide +kernel
theorem dX9_message_126 : decode cX9_message 126 = .ok (.aload_n 0, 1) := by decide +kernel
theorem dX9_message_127 : decode cX9_message 127 = .ok (.getfield 18, 3) := by decide +kernel
theorem dX9_message_130 : decode cX9_message 130 = .ok (.iload_n 2, 1) := by decide +kernel
theorem dX9_message_131 : decode cX9_message 131 = .ok (.aaload, 1) := by decide +kernel
theorem dX9_message_132 : decode cX9_message 132 = .ok (.aload 7, 2) := by decide +kernel
theorem dX9_message_134 : decode cX9_message 134 = .ok (.invokevirtual 47, 3) := by decide +kernel
theorem dX9_message_137 : decode cX9_message 137 = .ok (.aload 7, 2) := by decide +kernel
theorem dX9_message_139 : decode cX9_message 139 = .ok (.getfield 50, 3) := by decide +kernel
theorem dX9_message_142 : decode cX9_message 142 = .ok (.ireturn, 1) := by decide +kernel
theorem dX9_slot_0 : decode cX9_slot 0 = .ok (.iload_n 1, 1) := by decide +kernel
theorem dX9_slot_1 : decode cX9_slot 1 = .ok (.iconst 1, 1) := by decide +kernel
theorem dX9_slot_2 : decode cX9_slot 2 = .ok (.if_icmp .lt 10, 3) := by decide +kernel
theorem dX9_slot_5 : decode cX9_slot 5 = .ok (.iload_n 1, 1) := by decide +kernel
theorem dX9_slot_6 : decode cX9_slot 6 = .ok (.sipush 200, 3) := by decide +kernel
theorem dX9_slot_9 : decode cX9_slot 9 = .ok (.if_icmp .le 13, 3) := by decide +kernel
theorem dX9_slot_12 : decode cX9_slot 12 = .ok (.new 53, 3) := by decide +kernel
theorem dX9_slot_15 : decode cX9_slot 15 = .ok (.dup, 1) := by decide +kernel
theorem dX9_slot_16 : decode cX9_slot 16 = .ok (.ldc 55, 2) := by decide +kernel
theorem dX9_slot_18 : decode cX9_slot 18 = .ok (.invokespecial 57, 3) := by decide +kernel
theorem dX9_slot_21 : decode cX9_slot 21 = .ok (.athrow, 1) := by decide +kernel
theorem dX9_slot_22 : decode cX9_slot 22 = .ok (.iconst 0, 1) := by decide +kernel
theorem dX9_slot_23 : decode cX9_slot 23 = .ok (.istore_n 2, 1) := by decide +kernel
theorem dX9_slot_24 : decode cX9_slot 24 = .ok (.iload_n 2, 1) := by decide +kernel
theorem dX9_slot_25 : decode cX9_slot 25 = .ok (.iload_n 1, 1) := by decide +kernel
theorem dX9_slot_26 : decode cX9_slot 26 = .ok (.if_icmp .ge 13, 3) := by decide +kernel
theorem dX9_slot_29 : decode cX9_slot 29 = .ok (.aload_n 0, 1) := by decide +kernel
theorem dX9_slot_30 : decode cX9_slot 30 = .ok (.invokevirtual 60, 3) := by decide +kernel
theorem dX9_slot_33 : decode cX9_slot 33 = .ok (.iinc 2 1, 3) := by decide +kernel
theorem dX9_slot_36 : decode cX9_slot 36 = .ok (.goto (-12), 3) := by decide +kernel
theorem dX9_slot_39 : decode cX9_slot 39 = .ok (.aload_n 0, 1) := by decide +kernel
theorem dX9_slot_40 : decode cX9_slot 40 = .ok (.getfield 32, 3) := by decide +kernel
theorem dX9_slot_43 : decode cX9_slot 43 = .ok (.ireturn, 1) := by decide +kernel
theorem dX9_lose_0 : decode cX9_lose 0 = .ok (.iload_n 1, 1) := by decide +kernel
theorem dX9_lose_1 : decode cX9_lose 1 = .ok (.invokestatic 63, 3) := by decide +kernel
theorem dX9_lose_4 : decode cX9_lose 4 = .ok (.ifCond .eq 13, 3) := by decide +kernel
theorem dX9_lose_7 : decode cX9_lose 7 = .ok (.iload_n 2, 1) := by decide +kernel
theorem dX9_lose_8 : decode cX9_lose 8 = .ok (.ifCond .lt 9, 3) := by decide +kernel
theorem dX9_lose_11 : decode cX9_lose 11 = .ok (.iload_n 2, 1) := by decide +kernel
theorem dX9_lose_12 : decode cX9_lose 12 = .ok (.bipush 100, 2) := by decide +kernel
theorem dX9_lose_14 : decode cX9_lose 14 = .ok (.if_icmp .le 5, 3) := by decide +kernel
theorem dX9_lose_17 : decode cX9_lose 17 = .ok (.iconst 0, 1) := by decide +kernel
theorem dX9_lose_18 : decode cX9_lose 18 = .ok (.ireturn, 1) := by decide +kernel
theorem dX9_lose_19 : decode cX9_lose 19 = .ok (.aload_n 0, 1) := by decide +kernel
theorem dX9_lose_20 : decode cX9_lose 20 = .ok (.getfield 10, 3) := by decide +kernel
theorem dX9_lose_23 : decode cX9_lose 23 = .ok (.iload_n 1, 1) := by decide +kernel
theorem dX9_lose_24 : decode cX9_lose 24 = .ok (.iload_n 2, 1) := by decide +kernel
theorem dX9_lose_25 : decode cX9_lose 25 = .ok (.invokevirtual 66, 3) := by decide +kernel
theorem dX9_lose_28 : decode cX9_lose 28 = .ok (.iconst 1, 1) := by decide +kernel
theorem dX9_lose_29 : decode cX9_lose 29 = .ok (.ireturn, 1) := by decide +kernel
theorem dX9_spine_0 : decode cX9_spine 0 = .ok (.iload_n 1, 1) := by decide +kernel
theorem dX9_spine_1 : decode cX9_spine 1 = .ok (.ifCond .lt 8, 3) := by decide +kernel
theorem dX9_spine_4 : decode cX9_spine 4 = .ok (.iload_n 1, 1) := by decide +kernel
theorem dX9_spine_5 : decode cX9_spine 5 = .ok (.iconst 2, 1) := by decide +kernel
theorem dX9_spine_6 : decode cX9_spine 6 = .ok (.if_icmp .lt 5, 3) := by decide +kernel
theorem dX9_spine_9 : decode cX9_spine 9 = .ok (.iconst 0, 1) := by decide +kernel
theorem dX9_spine_10 : decode cX9_spine 10 = .ok (.ireturn, 1) := by decide +kernel
theorem dX9_spine_11 : decode cX9_spine 11 = .ok (.aload_n 0, 1) := by decide +kernel
theorem dX9_spine_12 : decode cX9_spine 12 = .ok (.getfield 10, 3) := by decide +kernel
theorem dX9_spine_15 : decode cX9_spine 15 = .ok (.iload_n 1, 1) := by decide +kernel
theorem dX9_spine_16 : decode cX9_spine 16 = .ok (.iload_n 2, 1) := by decide +kernel
theorem dX9_spine_17 : decode cX9_spine 17 = .ok (.invokevirtual 70, 3) := by decide +kernel
theorem dX9_spine_20 : decode cX9_spine 20 = .ok (.iconst 1, 1) := by decide +kernel
theorem dX9_spine_21 : decode cX9_spine 21 = .ok (.ireturn, 1) := by decide +kernel
theorem dX9_sent_0 : decode cX9_sent 0 = .ok (.aload_n 0, 1) := by decide +kernel
theorem dX9_sent_1 : decode cX9_sent 1 = .ok (.iload_n 1, 1) := by decide +kernel
theorem dX9_sent_2 : decode cX9_sent 2 = .ok (.invokevirtual 74, 3) := by decide +kernel
theorem dX9_sent_5 : decode cX9_sent 5 = .ok (.astore_n 3, 1) := by decide +kernel
theorem dX9_sent_6 : decode cX9_sent 6 = .ok (.aload_n 3, 1) := by decide +kernel
theorem dX9_sent_7 : decode cX9_sent 7 = .ok (.ifnonnull 7, 3) := by decide +kernel
theorem dX9_sent_10 : decode cX9_sent 10 = .ok (.iconst (-1), 1) := by decide +kernel
theorem dX9_sent_11 : decode cX9_sent 11 = .ok (.goto 11, 3) := by decide +kernel
theorem dX9_sent_14 : decode cX9_sent 14 = .ok (.aload_n 3, 1) := by decide +kernel
theorem dX9_sent_15 : decode cX9_sent 15 = .ok (.getfield 78, 3) := by decide +kernel
theorem dX9_sent_18 : decode cX9_sent 18 = .ok (.iload_n 2, 1) := by decide +kernel
theorem dX9_sent_19 : decode cX9_sent 19 = .ok (.invokevirtual 82, 3) := by decide +kernel
theorem dX9_sent_22 : decode cX9_sent 22 = .ok (.ireturn, 1) := by decide +kernel
theorem dX9_received_0 : decode cX9_received 0 = .ok (.aload_n 0, 1) := by decide +kernel
theorem dX9_received_1 : decode cX9_received 1 = .ok (.iload_n 1, 1) := by decide +kernel
theorem dX9_received_2 : decode cX9_received 2 = .ok (.invokevirtual 74, 3) := by decide +kernel
theorem dX9_received_5 : decode cX9_received 5 = .ok (.astore_n 3, 1) := by decide +kernel
theorem dX9_received_6 : decode cX9_received 6 = .ok (.aload_n 3, 1) := by decide +kernel
theorem dX9_received_7 : decode cX9_received 7 = .ok (.ifnonnull 7, 3) := by decide +kernel
theorem dX9_received_10 : decode cX9_received 10 = .ok (.iconst (-1), 1) := by decide +kernel
theorem dX9_received_11 : decode cX9_received 11 = .ok (.goto 11, 3) := by decide +kernel
theorem dX9_received_14 : decode cX9_received 14 = .ok (.aload_n 3, 1) := by decide +kernel
theorem dX9_received_15 : decode cX9_received 15 = .ok (.getfield 88, 3) := by decide +kernel
theorem dX9_received_18 : decode cX9_received 18 = .ok (.iload_n 2, 1) := by decide +kernel
theorem dX9_received_19 : decode cX9_received 19 = .ok (.invokevirtual 92, 3) := by decide +kernel
theorem dX9_received_22 : decode cX9_received 22 = .ok (.ireturn, 1) := by decide +kernel
theorem dX9_in_0 : decode cX9_in 0 = .ok (.aload_n 0, 1) := by decide +kernel
theorem dX9_in_1 : decode cX9_in 1 = .ok (.iload_n 1, 1) := by decide +kernel
theorem dX9_in_2 : decode cX9_in 2 = .ok (.invokevirtual 74, 3) := by decide +kernel
theorem dX9_in_5 : decode cX9_in 5 = .ok (.astore_n 3, 1) := by decide +kernel
theorem dX9_in_6 : decode cX9_in 6 = .ok (.aload_n 3, 1) := by decide +kernel
theorem dX9_in_7 : decode cX9_in 7 = .ok (.ifnull 18, 3) := by decide +kernel
theorem dX9_in_10 : decode cX9_in 10 = .ok (.aload_n 3, 1) := by decide +kernel
theorem dX9_in_11 : decode cX9_in 11 = .ok (.getfield 88, 3) := by decide +kernel
theorem dX9_in_14 : decode cX9_in 14 = .ok (.iload_n 2, 1) := by decide +kernel
theorem dX9_in_15 : decode cX9_in 15 = .ok (.invokevirtual 95, 3) := by decide +kernel
theorem dX9_in_18 : decode cX9_in 18 = .ok (.ifCond .eq 7, 3) := by decide +kernel
theorem dX9_in_21 : decode cX9_in 21 = .ok (.iconst 1, 1) := by decide +kernel
theorem dX9_in_22 : decode cX9_in 22 = .ok (.goto 4, 3) := by decide +kernel
theorem dX9_in_25 : decode cX9_in 25 = .ok (.iconst 0, 1) := by decide +kernel
theorem dX9_in_26 : decode cX9_in 26 = .ok (.ireturn, 1) := by decide +kernel
theorem dX9_finished_0 : decode cX9_finished 0 = .ok (.iload_n 1, 1) := by decide +kernel
theorem dX9_finished_1 : decode cX9_finished 1 = .ok (.invokestatic 36, 3) := by decide +kernel
theorem dX9_finished_4 : decode cX9_finished 4 = .ok (.ifCond .eq 16, 3) := by decide +kernel
theorem dX9_finished_7 : decode cX9_finished 7 = .ok (.aload_n 0, 1) := by decide +kernel
theorem dX9_finished_8 : decode cX9_finished 8 = .ok (.getfield 18, 3) := by decide +kernel
theorem dX9_finished_11 : decode cX9_finished 11 = .ok (.iload_n 1, 1) := by decide +kernel
theorem dX9_finished_12 : decode cX9_finished 12 = .ok (.aaload, 1) := by decide +kernel
theorem dX9_finished_13 : decode cX9_finished 13 = .ok (.iload_n 2, 1) := by decide +kernel
theorem dX9_finished_14 : decode cX9_finished 14 = .ok (.invokevirtual 98, 3) := by decide +kernel
theorem dX9_finished_17 : decode cX9_finished 17 = .ok (.goto 4, 3) := by decide +kernel
theorem dX9_finished_20 : decode cX9_finished 20 = .ok (.iconst (-1), 1) := by decide +kernel
theorem dX9_finished_21 : decode cX9_finished 21 = .ok (.ireturn, 1) := by decide +kernel
theorem dX9_chosen_0 : decode cX9_chosen 0 = .ok (.iload_n 1, 1) := by decide +kernel
theorem dX9_chosen_1 : decode cX9_chosen 1 = .ok (.invokestatic 36, 3) := by decide +kernel
theorem dX9_chosen_4 : decode cX9_chosen 4 = .ok (.ifCond .eq 16, 3) := by decide +kernel
theorem dX9_chosen_7 : decode cX9_chosen 7 = .ok (.aload_n 0, 1) := by decide +kernel
theorem dX9_chosen_8 : decode cX9_chosen 8 = .ok (.getfield 18, 3) := by decide +kernel
theorem dX9_chosen_11 : decode cX9_chosen 11 = .ok (.iload_n 1, 1) := by decide +kernel
theorem dX9_chosen_12 : decode cX9_chosen 12 = .ok (.aaload, 1) := by decide +kernel
theorem dX9_chosen_13 : decode cX9_chosen 13 = .ok (.iload_n 2, 1) := by decide +kernel
theorem dX9_chosen_14 : decode cX9_chosen 14 = .ok (.invokevirtual 101, 3) := by decide +kernel
theorem dX9_chosen_17 : decode cX9_chosen 17 = .ok (.goto 4, 3) := by decide +kernel
theorem dX9_chosen_20 : decode cX9_chosen 20 = .ok (.iconst (-1), 1) := by decide +kernel
theorem dX9_chosen_21 : decode cX9_chosen 21 = .ok (.ireturn, 1) := by decide +kernel
theorem dX9_host_0 : decode cX9_host 0 = .ok (.iload_n 1, 1) := by decide +kernel
theorem dX9_host_1 : decode cX9_host 1 = .ok (.invokestatic 36, 3) := by decide +kernel
theorem dX9_host_4 : decode cX9_host 4 = .ok (.ifCond .eq 16, 3) := by decide +kernel
theorem dX9_host_7 : decode cX9_host 7 = .ok (.aload_n 0, 1) := by decide +kernel
theorem dX9_host_8 : decode cX9_host 8 = .ok (.getfield 18, 3) := by decide +kernel
theorem dX9_host_11 : decode cX9_host 11 = .ok (.iload_n 1, 1) := by decide +kernel
theorem dX9_host_12 : decode cX9_host 12 = .ok (.aaload, 1) := by decide +kernel
theorem dX9_host_13 : decode cX9_host 13 = .ok (.iload_n 2, 1) := by decide +kernel
theorem dX9_host_14 : decode cX9_host 14 = .ok (.invokevirtual 104, 3) := by decide +kernel
theorem dX9_host_17 : decode cX9_host 17 = .ok (.goto 4, 3) := by decide +kernel
theorem dX9_host_20 : decode cX9_host 20 = .ok (.iconst (-1), 1) := by decide +kernel
theorem dX9_host_21 : decode cX9_host 21 = .ok (.ireturn, 1) := by decide +kernel
theorem dX9_queue_0 : decode cX9_queue 0 = .ok (.aload_n 0, 1) := by decide +kernel
theorem dX9_queue_1 : decode cX9_queue 1 = .ok (.getfield 10, 3) := by decide +kernel
theorem dX9_queue_4 : decode cX9_queue 4 = .ok (.iload_n 1, 1) := by decide +kernel
theorem dX9_queue_5 : decode cX9_queue 5 = .ok (.iload_n 2, 1) := by decide +kernel
theorem dX9_queue_6 : decode cX9_queue 6 = .ok (.invokevirtual 105, 3) := by decide +kernel
theorem dX9_queue_9 : decode cX9_queue 9 = .ok (.ireturn, 1) := by decide +kernel
theorem dX9_packet_0 : decode cX9_packet 0 = .ok (.aload_n 0, 1) := by decide +kernel
theorem dX9_packet_1 : decode cX9_packet 1 = .ok (.getfield 10, 3) := by decide +kernel
theorem dX9_packet_4 : decode cX9_packet 4 = .ok (.iload_n 1, 1) := by decide +kernel
theorem dX9_packet_5 : decode cX9_packet 5 = .ok (.invokevirtual 109, 3) := by decide +kernel
theorem dX9_packet_8 : decode cX9_packet 8 = .ok (.iload_n 2, 1) := by decide +kernel
theorem dX9_packet_9 : decode cX9_packet 9 = .ok (.invokestatic 112, 3) := by decide +kernel
theorem dX9_packet_12 : decode cX9_packet 12 = .ok (.ireturn, 1) := by decide +kernel
theorem dX9_total_0 : decode cX9_total 0 = .ok (.aload_n 0, 1) := by decide +kernel
theorem dX9_total_1 : decode cX9_total 1 = .ok (.getfield 10, 3) := by decide +kernel
theorem dX9_total_4 : decode cX9_total 4 = .ok (.iload_n 1, 1) := by decide +kernel
theorem dX9_total_5 : decode cX9_total 5 = .ok (.invokevirtual 116, 3) := by decide +kernel
theorem dX9_total_8 : decode cX9_total 8 = .ok (.ireturn, 1) := by decide +kernel
theorem dX9_isHost_0 : decode cX9_isHost 0 = .ok (.iload_n 0, 1) := by decide +kernel
theorem dX9_isHost_1 : decode cX9_isHost 1 = .ok (.ifCond .lt 13, 3) := by decide +kernel
theorem dX9_isHost_4 : decode cX9_isHost 4 = .ok (.iload_n 0, 1) := by decide +kernel
theorem dX9_isHost_5 : decode cX9_isHost 5 = .ok (.bipush 8, 2) := by decide +kernel
theorem dX9_isHost_7 : decode cX9_isHost 7 = .ok (.if_icmp .ge 7, 3) := by decide +kernel
theorem dX9_isHost_10 : decode cX9_isHost 10 = .ok (.iconst 1, 1) := by decide +kernel
theorem dX9_isHost_11 : decode cX9_isHost 11 = .ok (.goto 4, 3) := by decide +kernel
theorem dX9_isHost_14 : decode cX9_isHost 14 = .ok (.iconst 0, 1) := by decide +kernel
theorem dX9_isHost_15 : decode cX9_isHost 15 = .ok (.ireturn, 1) := by decide +kernel
theorem dX9_find_0 : decode cX9_find 0 = .ok (.iload_n 1, 1) := by decide +kernel
theorem dX9_find_1 : decode cX9_find 1 = .ok (.ifCond .lt 20, 3) := by decide +kernel
theorem dX9_find_4 : decode cX9_find 4 = .ok (.iload_n 1, 1) := by decide +kernel
theorem dX9_find_5 : decode cX9_find 5 = .ok (.aload_n 0, 1) := by decide +kernel
theorem dX9_find_6 : decode cX9_find 6 = .ok (.getfield 28, 3) := by decide +kernel
theorem dX9_find_9 : decode cX9_find 9 = .ok (.if_icmp .ge 12, 3) := by decide +kernel
theorem dX9_find_12 : decode cX9_find 12 = .ok (.aload_n 0, 1) := by decide +kernel
theorem dX9_find_13 : decode cX9_find 13 = .ok (.getfield 24, 3) := by decide +kernel
theorem dX9_find_16 : decode cX9_find 16 = .ok (.iload_n 1, 1) := by decide +kernel
theorem dX9_find_17 : decode cX9_find 17 = .ok (.aaload, 1) := by decide +kernel
theorem dX9_find_18 : decode cX9_find 18 = .ok (.goto 4, 3) := by decide +kernel
theorem dX9_find_21 : decode cX9_find 21 = .ok (.aconst_null, 1) := by decide +kernel
theorem dX9_find_22 : decode cX9_find 22 = .ok (.areturn, 1) := by decide +kernel
theorem dX9_runSlot_0 : decode cX9_runSlot 0 = .ok (.aload_n 0, 1) := by decide +kernel
theorem dX9_runSlot_1 : decode cX9_runSlot 1 = .ok (.dup, 1) := by decide +kernel
theorem dX9_runSlot_2 : decode cX9_runSlot 2 = .ok (.getfield 32, 3) := by decide +kernel
theorem dX9_runSlot_5 : decode cX9_runSlot 5 = .ok (.iconst 1, 1) := by decide +kernel
theorem dX9_runSlot_6 : decode cX9_runSlot 6 = .ok (.iadd, 1) := by decide +kernel
theorem dX9_runSlot_7 : decode cX9_runSlot 7 = .ok (.putfield 32, 3) := by decide +kernel
theorem dX9_runSlot_10 : decode cX9_runSlot 10 = .ok (.aload_n 0, 1) := by decide +kernel
theorem dX9_runSlot_11 : decode cX9_runSlot 11 = .ok (.invokevirtual 117, 3) := by decide +kernel
theorem dX9_runSlot_14 : decode cX9_runSlot 14 = .ok (.aload_n 0, 1) := by decide +kernel
theorem dX9_runSlot_15 : decode cX9_runSlot 15 = .ok (.getfield 10, 3) := by decide +kernel
theorem dX9_runSlot_18 : decode cX9_runSlot 18 = .ok (.invokevirtual 120, 3) := by decide +kernel
theorem dX9_runSlot_21 : decode cX9_runSlot 21 = .ok (.iconst 0, 1) := by decide +kernel
theorem dX9_runSlot_22 : decode cX9_runSlot 22 = .ok (.istore_n 1, 1) := by decide +kernel
theorem dX9_runSlot_23 : decode cX9_runSlot 23 = .ok (.iload_n 1, 1) := by decide +kernel
theorem dX9_runSlot_24 : decode cX9_runSlot 24 = .ok (.bipush 8, 2) := by decide +kernel
theorem dX9_runSlot_26 : decode cX9_runSlot 26 = .ok (.if_icmp .ge 59, 3) := by decide +kernel
theorem dX9_runSlot_29 : decode cX9_runSlot 29 = .ok (.aload_n 0, 1) := by decide +kernel
theorem dX9_runSlot_30 : decode cX9_runSlot 30 = .ok (.getfield 18, 3) := by decide +kernel
theorem dX9_runSlot_33 : decode cX9_runSlot 33 = .ok (.iload_n 1, 1) := by decide +kernel
theorem dX9_runSlot_34 : decode cX9_runSlot 34 = .ok (.aaload, 1) := by decide +kernel
theorem dX9_runSlot_35 : decode cX9_runSlot 35 = .ok (.aload_n 0, 1) := by decide +kernel
theorem dX9_runSlot_36 : decode cX9_runSlot 36 = .ok (.getfield 32, 3) := by decide +kernel
theorem dX9_runSlot_39 : decode cX9_runSlot 39 = .ok (.invokevirtual 123, 3) := by decide +kernel
theorem dX9_runSlot_42 : decode cX9_runSlot 42 = .ok (.aload_n 0, 1) := by decide +kernel
theorem dX9_runSlot_43 : decode cX9_runSlot 43 = .ok (.getfield 18, 3) := by decide +kernel
theorem dX9_runSlot_46 : decode cX9_runSlot 46 = .ok (.iload_n 1, 1) := by decide +kernel
theorem dX9_runSlot_47 : decode cX9_runSlot 47 = .ok (.aaload, 1) := by decide +kernel
theorem dX9_runSlot_48 : decode cX9_runSlot 48 = .ok (.aload_n 0, 1) := by decide +kernel
theorem dX9_runSlot_49 : decode cX9_runSlot 49 = .ok (.getfield 32, 3) := by decide +kernel
theorem dX9_runSlot_52 : decode cX9_runSlot 52 = .ok (.invokevirtual 127, 3) := by decide +kernel
theorem dX9_runSlot_55 : decode cX9_runSlot 55 = .ok (.aload_n 0, 1) := by decide +kernel
theorem dX9_runSlot_56 : decode cX9_runSlot 56 = .ok (.getfield 18, 3) := by decide +kernel
theorem dX9_runSlot_59 : decode cX9_runSlot 59 = .ok (.iload_n 1, 1) := by decide +kernel
theorem dX9_runSlot_60 : decode cX9_runSlot 60 = .ok (.aaload, 1) := by decide +kernel
theorem dX9_runSlot_61 : decode cX9_runSlot 61 = .ok (.invokevirtual 130, 3) := by decide +kernel
theorem dX9_runSlot_64 : decode cX9_runSlot 64 = .ok (.istore_n 2, 1) := by decide +kernel
theorem dX9_runSlot_65 : decode cX9_runSlot 65 = .ok (.iload_n 2, 1) := by decide +kernel
theorem dX9_runSlot_66 : decode cX9_runSlot 66 = .ok (.iconst (-1), 1) := by decide +kernel
theorem dX9_runSlot_67 : decode cX9_runSlot 67 = .ok (.if_icmp .eq 12, 3) := by decide +kernel
theorem dX9_runSlot_70 : decode cX9_runSlot 70 = .ok (.aload_n 0, 1) := by decide +kernel
theorem dX9_runSlot_71 : decode cX9_runSlot 71 = .ok (.getfield 10, 3) := by decide +kernel
theorem dX9_runSlot_74 : decode cX9_runSlot 74 = .ok (.iload_n 1, 1) := by decide +kernel
theorem dX9_runSlot_75 : decode cX9_runSlot 75 = .ok (.iload_n 2, 1) := by decide +kernel
theorem dX9_runSlot_76 : decode cX9_runSlot 76 = .ok (.invokevirtual 134, 3) := by decide +kernel
theorem dX9_runSlot_79 : decode cX9_runSlot 79 = .ok (.iinc 1 1, 3) := by decide +kernel
theorem dX9_runSlot_82 : decode cX9_runSlot 82 = .ok (.goto (-59), 3) := by decide +kernel
theorem dX9_runSlot_85 : decode cX9_runSlot 85 = .ok (.return_, 1) := by decide +kernel
theorem dX9_arriveAll_0 : decode cX9_arriveAll 0 = .ok (.iconst 0, 1) := by decide +kernel
theorem dX9_arriveAll_1 : decode cX9_arriveAll 1 = .ok (.istore_n 1, 1) := by decide +kernel
theorem dX9_arriveAll_2 : decode cX9_arriveAll 2 = .ok (.iload_n 1, 1) := by decide +kernel
theorem dX9_arriveAll_3 : decode cX9_arriveAll 3 = .ok (.bipush 24, 2) := by decide +kernel
theorem dX9_arriveAll_5 : decode cX9_arriveAll 5 = .ok (.if_icmp .ge 50, 3) := by decide +kernel
theorem dX9_arriveAll_8 : decode cX9_arriveAll 8 = .ok (.aload_n 0, 1) := by decide +kernel
theorem dX9_arriveAll_9 : decode cX9_arriveAll 9 = .ok (.getfield 10, 3) := by decide +kernel
theorem dX9_arriveAll_12 : decode cX9_arriveAll 12 = .ok (.iload_n 1, 1) := by decide +kernel
theorem dX9_arriveAll_13 : decode cX9_arriveAll 13 = .ok (.invokevirtual 137, 3) := by decide +kernel
theorem dX9_arriveAll_16 : decode cX9_arriveAll 16 = .ok (.istore_n 2, 1) := by decide +kernel
theorem dX9_arriveAll_17 : decode cX9_arriveAll 17 = .ok (.iload_n 2, 1) := by decide +kernel
theorem dX9_arriveAll_18 : decode cX9_arriveAll 18 = .ok (.iconst (-1), 1) := by decide +kernel
theorem dX9_arriveAll_19 : decode cX9_arriveAll 19 = .ok (.if_icmp .ne 6, 3) := by decide +kernel
theorem dX9_arriveAll_22 : decode cX9_arriveAll 22 = .ok (.goto 27, 3) := by decide +kernel
theorem dX9_arriveAll_25 : decode cX9_arriveAll 25 = .ok (.iload_n 1, 1) := by decide +kernel
theorem dX9_arriveAll_26 : decode cX9_arriveAll 26 = .ok (.invokestatic 140, 3) := by decide +kernel
theorem dX9_arriveAll_29 : decode cX9_arriveAll 29 = .ok (.ifCond .eq 11, 3) := by decide +kernel
theorem dX9_arriveAll_32 : decode cX9_arriveAll 32 = .ok (.aload_n 0, 1) := by decide +kernel
theorem dX9_arriveAll_33 : decode cX9_arriveAll 33 = .ok (.iload_n 2, 1) := by decide +kernel
theorem dX9_arriveAll_34 : decode cX9_arriveAll 34 = .ok (.invokevirtual 143, 3) := by decide +kernel
theorem dX9_arriveAll_37 : decode cX9_arriveAll 37 = .ok (.goto 12, 3) := by decide +kernel
theorem dX9_arriveAll_40 : decode cX9_arriveAll 40 = .ok (.aload_n 0, 1) := by decide +kernel
theorem dX9_arriveAll_41 : decode cX9_arriveAll 41 = .ok (.getfield 10, 3) := by decide +kernel
theorem dX9_arriveAll_44 : decode cX9_arriveAll 44 = .ok (.iload_n 1, 1) := by decide +kernel
theorem dX9_arriveAll_45 : decode cX9_arriveAll 45 = .ok (.iload_n 2, 1) := by decide +kernel
theorem dX9_arriveAll_46 : decode cX9_arriveAll 46 = .ok (.invokevirtual 146, 3) := by decide +kernel
theorem dX9_arriveAll_49 : decode cX9_arriveAll 49 = .ok (.iinc 1 1, 3) := by decide +kernel
theorem dX9_arriveAll_52 : decode cX9_arriveAll 52 = .ok (.goto (-50), 3) := by decide +kernel
theorem dX9_arriveAll_55 : decode cX9_arriveAll 55 = .ok (.return_, 1) := by decide +kernel
theorem dX9_takeIn_0 : decode cX9_takeIn 0 = .ok (.aload_n 0, 1) := by decide +kernel
theorem dX9_takeIn_1 : decode cX9_takeIn 1 = .ok (.iload_n 1, 1) := by decide +kernel
theorem dX9_takeIn_2 : decode cX9_takeIn 2 = .ok (.invokestatic 149, 3) := by decide +kernel
theorem dX9_takeIn_5 : decode cX9_takeIn 5 = .ok (.invokevirtual 74, 3) := by decide +kernel
theorem dX9_takeIn_8 : decode cX9_takeIn 8 = .ok (.astore_n 2, 1) := by decide +kernel
theorem dX9_takeIn_9 : decode cX9_takeIn 9 = .ok (.aload_n 2, 1) := by decide +kernel
theorem dX9_takeIn_10 : decode cX9_takeIn 10 = .ok (.ifnonnull 4, 3) := by decide +kernel
theorem dX9_takeIn_13 : decode cX9_takeIn 13 = .ok (.return_, 1) := by decide +kernel
theorem dX9_takeIn_14 : decode cX9_takeIn 14 = .ok (.iload_n 1, 1) := by decide +kernel
theorem dX9_takeIn_15 : decode cX9_takeIn 15 = .ok (.invokestatic 152, 3) := by decide +kernel
theorem dX9_takeIn_18 : decode cX9_takeIn 18 = .ok (.ifCond .ne 27, 3) := by decide +kernel
theorem dX9_takeIn_21 : decode cX9_takeIn 21 = .ok (.aload_n 0, 1) := by decide +kernel
theorem dX9_takeIn_22 : decode cX9_takeIn 22 = .ok (.getfield 18, 3) := by decide +kernel
theorem dX9_takeIn_25 : decode cX9_takeIn 25 = .ok (.aload_n 2, 1) := by decide +kernel
theorem dX9_takeIn_26 : decode cX9_takeIn 26 = .ok (.getfield 155, 3) := by decide +kernel
theorem dX9_takeIn_29 : decode cX9_takeIn 29 = .ok (.aaload, 1) := by decide +kernel
theorem dX9_takeIn_30 : decode cX9_takeIn 30 = .ok (.aload_n 2, 1) := by decide +kernel
theorem dX9_takeIn_31 : decode cX9_takeIn 31 = .ok (.iload_n 1, 1) := by decide +kernel
theorem dX9_takeIn_32 : decode cX9_takeIn 32 = .ok (.invokestatic 158, 3) := by decide +kernel
theorem dX9_takeIn_35 : decode cX9_takeIn 35 = .ok (.aload_n 0, 1) := by decide +kernel
theorem dX9_takeIn_36 : decode cX9_takeIn 36 = .ok (.getfield 32, 3) := by decide +kernel
theorem dX9_takeIn_39 : decode cX9_takeIn 39 = .ok (.invokevirtual 161, 3) := by decide +kernel
theorem dX9_takeIn_42 : decode cX9_takeIn 42 = .ok (.goto 22, 3) := by decide +kernel
theorem dX9_takeIn_45 : decode cX9_takeIn 45 = .ok (.aload_n 2, 1) := by decide +kernel
theorem dX9_takeIn_46 : decode cX9_takeIn 46 = .ok (.getfield 78, 3) := by decide +kernel
theorem dX9_takeIn_49 : decode cX9_takeIn 49 = .ok (.iload_n 1, 1) := by decide +kernel
theorem dX9_takeIn_50 : decode cX9_takeIn 50 = .ok (.invokestatic 152, 3) := by decide +kernel
theorem dX9_takeIn_53 : decode cX9_takeIn 53 = .ok (.iload_n 1, 1) := by decide +kernel
theorem dX9_takeIn_54 : decode cX9_takeIn 54 = .ok (.invokestatic 158, 3) := by decide +kernel
theorem dX9_takeIn_57 : decode cX9_takeIn 57 = .ok (.aload_n 0, 1) := by decide +kernel
theorem dX9_takeIn_58 : decode cX9_takeIn 58 = .ok (.getfield 32, 3) := by decide +kernel
theorem dX9_takeIn_61 : decode cX9_takeIn 61 = .ok (.invokevirtual 165, 3) := by decide +kernel
theorem dX9_takeIn_64 : decode cX9_takeIn 64 = .ok (.return_, 1) := by decide +kernel
theorem dX10_init_0 : decode cX10_init 0 = .ok (.aload_n 0, 1) := by decide +kernel
theorem dX10_init_1 : decode cX10_init 1 = .ok (.invokespecial 1, 3) := by decide +kernel
theorem dX10_init_4 : decode cX10_init 4 = .ok (.aload_n 0, 1) := by decide +kernel
theorem dX10_init_5 : decode cX10_init 5 = .ok (.bipush 24, 2) := by decide +kernel
theorem dX10_init_7 : decode cX10_init 7 = .ok (.newarray .int, 2) := by decide +kernel
theorem dX10_init_9 : decode cX10_init 9 = .ok (.putfield 7, 3) := by decide +kernel
theorem dX10_init_12 : decode cX10_init 12 = .ok (.aload_n 0, 1) := by decide +kernel
theorem dX10_init_13 : decode cX10_init 13 = .ok (.bipush 24, 2) := by decide +kernel
theorem dX10_init_15 : decode cX10_init 15 = .ok (.newarray .int, 2) := by decide +kernel
theorem dX10_init_17 : decode cX10_init 17 = .ok (.putfield 13, 3) := by decide +kernel
theorem dX10_init_20 : decode cX10_init 20 = .ok (.aload_n 0, 1) := by decide +kernel
theorem dX10_init_21 : decode cX10_init 21 = .ok (.bipush 24, 2) := by decide +kernel
theorem dX10_init_23 : decode cX10_init 23 = .ok (.newarray .int, 2) := by decide +kernel
theorem dX10_init_25 : decode cX10_init 25 = .ok (.putfield 16, 3) := by decide +kernel
theorem dX10_init_28 : decode cX10_init 28 = .ok (.aload_n 0, 1) := by decide +kernel
theorem dX10_init_29 : decode cX10_init 29 = .ok (.bipush 24, 2) := by decide +kernel
theorem dX10_init_31 : decode cX10_init 31 = .ok (.newarray .int, 2) := by decide +kernel
theorem dX10_init_33 : decode cX10_init 33 = .ok (.putfield 19, 3) := by decide +kernel
theorem dX10_init_36 : decode cX10_init 36 = .ok (.aload_n 0, 1) := by decide +kernel
theorem dX10_init_37 : decode cX10_init 37 = .ok (.bipush 24, 2) := by decide +kernel
theorem dX10_init_39 : decode cX10_init 39 = .ok (.newarray .int, 2) := by decide +kernel
theorem dX10_init_41 : decode cX10_init 41 = .ok (.putfield 22, 3) := by decide +kernel
theorem dX10_init_44 : decode cX10_init 44 = .ok (.aload_n 0, 1) := by decide +kernel
theorem dX10_init_45 : decode cX10_init 45 = .ok (.bipush 96, 2) := by decide +kernel
theorem dX10_init_47 : decode cX10_init 47 = .ok (.newarray .int, 2) := by decide +kernel
theorem dX10_init_49 : decode cX10_init 49 = .ok (.putfield 25, 3) := by decide +kernel
theorem dX10_init_52 : decode cX10_init 52 = .ok (.aload_n 0, 1) := by decide +kernel
theorem dX10_init_53 : decode cX10_init 53 = .ok (.sipush 768, 3) := by decide +kernel
theorem dX10_init_56 : decode cX10_init 56 = .ok (.newarray .int, 2) := by decide +kernel
theorem dX10_init_58 : decode cX10_init 58 = .ok (.putfield 28, 3) := by decide +kernel
theorem dX10_init_61 : decode cX10_init 61 = .ok (.aload_n 0, 1) := by decide +kernel
theorem dX10_init_62 : decode cX10_init 62 = .ok (.sipush 768, 3) := by decide +kernel
theorem dX10_init_65 : decode cX10_init 65 = .ok (.newarray .int, 2) := by decide +kernel
theorem dX10_init_67 : decode cX10_init 67 = .ok (.putfield 31, 3) := by decide +kernel
theorem dX10_init_70 : decode cX10_init 70 = .ok (.aload_n 0, 1) := by decide +kernel
theorem dX10_init_71 : decode cX10_init 71 = .ok (.sipush 768, 3) := by decide +kernel
theorem dX10_init_74 : decode cX10_init 74 = .ok (.newarray .int, 2) := by decide +kernel
theorem dX10_init_76 : decode cX10_init 76 = .ok (.putfield 34, 3) := by decide +kernel
theorem dX10_init_79 : decode cX10_init 79 = .ok (.aload_n 0, 1) := by decide +kernel
theorem dX10_init_80 : decode cX10_init 80 = .ok (.iconst 2, 1) := by decide +kernel
theorem dX10_init_81 : decode cX10_init 81 = .ok (.newarray .boolean, 2) := by decide +kernel
theorem dX10_init_83 : decode cX10_init 83 = .ok (.putfield 37, 3) := by decide +kernel
theorem dX10_init_86 : decode cX10_init 86 = .ok (.aload_n 0, 1) := by decide +kernel
theorem dX10_init_87 : decode cX10_init 87 = .ok (.iconst 2, 1) := by decide +kernel
theorem dX10_init_88 : decode cX10_init 88 = .ok (.newarray .int, 2) := by decide +kernel
theorem dX10_init_90 : decode cX10_init 90 = .ok (.dup, 1) := by decide +kernel
theorem dX10_init_91 : decode cX10_init 91 = .ok (.iconst 0, 1) := by decide +kernel
theorem dX10_init_92 : decode cX10_init 92 = .ok (.iconst 1, 1) := by decide +kernel
theorem dX10_init_93 : decode cX10_init 93 = .ok (.iastore, 1) := by decide +kernel
theorem dX10_init_94 : decode cX10_init 94 = .ok (.dup, 1) := by decide +kernel
theorem dX10_init_95 : decode cX10_init 95 = .ok (.iconst 1, 1) := by decide +kernel
theorem dX10_init_96 : decode cX10_init 96 = .ok (.iconst 1, 1) := by decide +kernel
theorem dX10_init_97 : decode cX10_init 97 = .ok (.iastore, 1) := by decide +kernel
theorem dX10_init_98 : decode cX10_init 98 = .ok (.putfield 41, 3) := by decide +kernel
theorem dX10_init_101 : decode cX10_init 101 = .ok (.aload_n 0, 1) := by decide +kernel
theorem dX10_init_102 : decode cX10_init 102 = .ok (.bipush 48, 2) := by decide +kernel
theorem dX10_init_104 : decode cX10_init 104 = .ok (.newarray .int, 2) := by decide +kernel
theorem dX10_init_106 : decode cX10_init 106 = .ok (.putfield 44, 3) := by decide +kernel
theorem dX10_init_109 : decode cX10_init 109 = .ok (.aload_n 0, 1) := by decide +kernel
theorem dX10_init_110 : decode cX10_init 110 = .ok (.bipush 48, 2) := by decide +kernel
theorem dX10_init_112 : decode cX10_init 112 = .ok (.newarray .int, 2) := by decide +kernel
theorem dX10_init_114 : decode cX10_init 114 = .ok (.putfield 47, 3) := by decide +kernel
theorem dX10_init_117 : decode cX10_init 117 = .ok (.aload_n 0, 1) := by decide +kernel
theorem dX10_init_118 : decode cX10_init 118 = .ok (.bipush 48, 2) := by decide +kernel
theorem dX10_init_120 : decode cX10_init 120 = .ok (.newarray .int, 2) := by decide +kernel
theorem dX10_init_122 : decode cX10_init 122 = .ok (.putfield 50, 3) := by decide +kernel
theorem dX10_init_125 : decode cX10_init 125 = .ok (.aload_n 0, 1) := by decide +kernel
theorem dX10_init_126 : decode cX10_init 126 = .ok (.bipush 48, 2) := by decide +kernel
theorem dX10_init_128 : decode cX10_init 128 = .ok (.newarray .int, 2) := by decide +kernel
theorem dX10_init_130 : decode cX10_init 130 = .ok (.putfield 53, 3) := by decide +kernel
theorem dX10_init_133 : decode cX10_init 133 = .ok (.aload_n 0, 1) := by decide +kernel
theorem dX10_init_134 : decode cX10_init 134 = .ok (.bipush 48, 2) := by decide +kernel
theorem dX10_init_136 : decode cX10_init 136 = .ok (.newarray .int, 2) := by decide +kernel
theorem dX10_init_138 : decode cX10_init 138 = .ok (.putfield 56, 3) := by decide +kernel
theorem dX10_init_141 : decode cX10_init 141 = .ok (.aload_n 0, 1) := by decide +kernel
theorem dX10_init_142 : decode cX10_init 142 = .ok (.bipush 48, 2) := by decide +kernel
theorem dX10_init_144 : decode cX10_init 144 = .ok (.newarray .int, 2) := by decide +kernel
theorem dX10_init_146 : decode cX10_init 146 = .ok (.putfield 59, 3) := by decide +kernel
theorem dX10_init_149 : decode cX10_init 149 = .ok (.aload_n 0, 1) := by decide +kernel
theorem dX10_init_150 : decode cX10_init 150 = .ok (.bipush 48, 2) := by decide +kernel
theorem dX10_init_152 : decode cX10_init 152 = .ok (.newarray .int, 2) := by decide +kernel
theorem dX10_init_154 : decode cX10_init 154 = .ok (.putfield 62, 3) := by decide +kernel
theorem dX10_init_157 : decode cX10_init 157 = .ok (.aload_n 0, 1) := by decide +kernel
theorem dX10_init_158 : decode cX10_init 158 = .ok (.bipush 48, 2) := by decide +kernel
theorem dX10_init_160 : decode cX10_init 160 = .ok (.newarray .int, 2) := by decide +kernel
theorem dX10_init_162 : decode cX10_init 162 = .ok (.putfield 65, 3) := by decide +kernel
theorem dX10_init_165 : decode cX10_init 165 = .ok (.aload_n 0, 1) := by decide +kernel
theorem dX10_init_166 : decode cX10_init 166 = .ok (.bipush 48, 2) := by decide +kernel
theorem dX10_init_168 : decode cX10_init 168 = .ok (.newarray .int, 2) := by decide +kernel
theorem dX10_init_170 : decode cX10_init 170 = .ok (.putfield 68, 3) := by decide +kernel
theorem dX10_init_173 : decode cX10_init 173 = .ok (.aload_n 0, 1) := by decide +kernel
theorem dX10_init_174 : decode cX10_init 174 = .ok (.bipush 48, 2) := by decide +kernel
theorem dX10_init_176 : decode cX10_init 176 = .ok (.newarray .int, 2) := by decide +kernel
theorem dX10_init_178 : decode cX10_init 178 = .ok (.putfield 71, 3) := by decide +kernel
theorem dX10_init_181 : decode cX10_init 181 = .ok (.aload_n 0, 1) := by decide +kernel
theorem dX10_init_182 : decode cX10_init 182 = .ok (.bipush 48, 2) := by decide +kernel
theorem dX10_init_184 : decode cX10_init 184 = .ok (.newarray .int, 2) := by decide +kernel
theorem dX10_init_186 : decode cX10_init 186 = .ok (.putfield 74, 3) := by decide +kernel
theorem dX10_init_189 : decode cX10_init 189 = .ok (.aload_n 0, 1) := by decide +kernel
theorem dX10_init_190 : decode cX10_init 190 = .ok (.sipush 2880, 3) := by decide +kernel
theorem dX10_init_193 : decode cX10_init 193 = .ok (.newarray .boolean, 2) := by decide +kernel
theorem dX10_init_195 : decode cX10_init 195 = .ok (.putfield 77, 3) := by decide +kernel
theorem dX10_init_198 : decode cX10_init 198 = .ok (.aload_n 0, 1) := by decide +kernel
theorem dX10_init_199 : decode cX10_init 199 = .ok (.bipush 48, 2) := by decide +kernel
theorem dX10_init_201 : decode cX10_init 201 = .ok (.newarray .int, 2) := by decide +kernel
theorem dX10_init_203 : decode cX10_init 203 = .ok (.putfield 80, 3) := by decide +kernel
theorem dX10_init_206 : decode cX10_init 206 = .ok (.aload_n 0, 1) := by decide +kernel
theorem dX10_init_207 : decode cX10_init 207 = .ok (.bipush 48, 2) := by decide +kernel
theorem dX10_init_209 : decode cX10_init 209 = .ok (.newarray .int, 2) := by decide +kernel
theorem dX10_init_211 : decode cX10_init 211 = .ok (.putfield 83, 3) := by decide +kernel
theorem dX10_init_214 : decode cX10_init 214 = .ok (.aload_n 0, 1) := by decide +kernel
theorem dX10_init_215 : decode cX10_init 215 = .ok (.bipush 48, 2) := by decide +kernel
theorem dX10_init_217 : decode cX10_init 217 = .ok (.newarray .int, 2) := by decide +kernel
theorem dX10_init_219 : decode cX10_init 219 = .ok (.putfield 86, 3) := by decide +kernel
theorem dX10_init_222 : decode cX10_init 222 = .ok (.aload_n 0, 1) := by decide +kernel
theorem dX10_init_223 : decode cX10_init 223 = .ok (.bipush 48, 2) := by decide +kernel
theorem dX10_init_225 : decode cX10_init 225 = .ok (.newarray .int, 2) := by decide +kernel
theorem dX10_init_227 : decode cX10_init 227 = .ok (.putfield 89, 3) := by decide +kernel
theorem dX10_init_230 : decode cX10_init 230 = .ok (.aload_n 0, 1) := by decide +kernel
theorem dX10_init_231 : decode cX10_init 231 = .ok (.bipush 48, 2) := by decide +kernel
theorem dX10_init_233 : decode cX10_init 233 = .ok (.newarray .int, 2) := by decide +kernel
theorem dX10_init_235 : decode cX10_init 235 = .ok (.putfield 92, 3) := by decide +kernel
theorem dX10_init_238 : decode cX10_init 238 = .ok (.aload_n 0, 1) := by decide +kernel
theorem dX10_init_239 : decode cX10_init 239 = .ok (.bipush 48, 2) := by decide +kernel
theorem dX10_init_241 : decode cX10_init 241 = .ok (.newarray .int, 2) := by decide +kernel
theorem dX10_init_243 : decode cX10_init 243 = .ok (.putfield 95, 3) := by decide +kernel
theorem dX10_init_246 : decode cX10_init 246 = .ok (.aload_n 0, 1) := by decide +kernel
theorem dX10_init_247 : decode cX10_init 247 = .ok (.bipush 48, 2) := by decide +kernel
theorem dX10_init_249 : decode cX10_init 249 = .ok (.newarray .int, 2) := by decide +kernel
theorem dX10_init_251 : decode cX10_init 251 = .ok (.putfield 98, 3) := by decide +kernel
theorem dX10_init_254 : decode cX10_init 254 = .ok (.aload_n 0, 1) := by decide +kernel
theorem dX10_init_255 : decode cX10_init 255 = .ok (.sipush 2880, 3) := by decide +kernel
theorem dX10_init_258 : decode cX10_init 258 = .ok (.newarray .boolean, 2) := by decide +kernel
theorem dX10_init_260 : decode cX10_init 260 = .ok (.putfield 101, 3) := by decide +kernel
theorem dX10_init_263 : decode cX10_init 263 = .ok (.aload_n 0, 1) := by decide +kernel
theorem dX10_init_264 : decode cX10_init 264 = .ok (.bipush 8, 2) := by decide +kernel
theorem dX10_init_266 : decode cX10_init 266 = .ok (.newarray .int, 2) := by decide +kernel
theorem dX10_init_268 : decode cX10_init 268 = .ok (.putfield 104, 3) := by decide +kernel
theorem dX10_init_271 : decode cX10_init 271 = .ok (.aload_n 0, 1) := by decide +kernel
theorem dX10_init_272 : decode cX10_init 272 = .ok (.bipush 8, 2) := by decide +kernel
theorem dX10_init_274 : decode cX10_init 274 = .ok (.newarray .int, 2) := by decide +kernel
theorem dX10_init_276 : decode cX10_init 276 = .ok (.putfield 107, 3) := by decide +kernel
theorem dX10_init_279 : decode cX10_init 279 = .ok (.aload_n 0, 1) := by decide +kernel
theorem dX10_init_280 : decode cX10_init 280 = .ok (.sipush 192, 3) := by decide +kernel
theorem dX10_init_283 : decode cX10_init 283 = .ok (.newarray .int, 2) := by decide +kernel
theorem dX10_init_285 : decode cX10_init 285 = .ok (.putfield 110, 3) := by decide +kernel
theorem dX10_init_288 : decode cX10_init 288 = .ok (.aload_n 0, 1) := by decide +kernel
theorem dX10_init_289 : decode cX10_init 289 = .ok (.sipush 192, 3) := by decide +kernel
theorem dX10_init_292 : decode cX10_init 292 = .ok (.newarray .int, 2) := by decide +kernel
theorem dX10_init_294 : decode cX10_init 294 = .ok (.putfield 113, 3) := by decide +kernel
theorem dX10_init_297 : decode cX10_init 297 = .ok (.aload_n 0, 1) := by decide +kernel
theorem dX10_init_298 : decode cX10_init 298 = .ok (.sipush 192, 3) := by decide +kernel
theorem dX10_init_301 : decode cX10_init 301 = .ok (.newarray .int, 2) := by decide +kernel
theorem dX10_init_303 : decode cX10_init 303 = .ok (.putfield 116, 3) := by decide +kernel
theorem dX10_init_306 : decode cX10_init 306 = .ok (.aload_n 0, 1) := by decide +kernel
theorem dX10_init_307 : decode cX10_init 307 = .ok (.bipush 8, 2) := by decide +kernel
theorem dX10_init_309 : decode cX10_init 309 = .ok (.newarray .int, 2) := by decide +kernel
theorem dX10_init_311 : decode cX10_init 311 = .ok (.putfield 119, 3) := by decide +kernel
theorem dX10_init_314 : decode cX10_init 314 = .ok (.aload_n 0, 1) := by decide +kernel
theorem dX10_init_315 : decode cX10_init 315 = .ok (.bipush 24, 2) := by decide +kernel
theorem dX10_init_317 : decode cX10_init 317 = .ok (.newarray .int, 2) := by decide +kernel
theorem dX10_init_319 : decode cX10_init 319 = .ok (.putfield 122, 3) := by decide +kernel
theorem dX10_init_322 : decode cX10_init 322 = .ok (.aload_n 0, 1) := by decide +kernel
theorem dX10_init_323 : decode cX10_init 323 = .ok (.bipush 8, 2) := by decide +kernel
theorem dX10_init_325 : decode cX10_init 325 = .ok (.newarray .int, 2) := by decide +kernel
theorem dX10_init_327 : decode cX10_init 327 = .ok (.putfield 125, 3) := by decide +kernel
theorem dX10_init_330 : decode cX10_init 330 = .ok (.aload_n 0, 1) := by decide +kernel
theorem dX10_init_331 : decode cX10_init 331 = .ok (.bipush 8, 2) := by decide +kernel
theorem dX10_init_333 : decode cX10_init 333 = .ok (.newarray .int, 2) := by decide +kernel
theorem dX10_init_335 : decode cX10_init 335 = .ok (.putfield 128, 3) := by decide +kernel
theorem dX10_init_338 : decode cX10_init 338 = .ok (.aload_n 0, 1) := by decide +kernel
theorem dX10_init_339 : decode cX10_init 339 = .ok (.sipush 512, 3) := by decide +kernel
theorem dX10_init_342 : decode cX10_init 342 = .ok (.newarray .int, 2) := by decide +kernel
theorem dX10_init_344 : decode cX10_init 344 = .ok (.putfield 131, 3) := by decide +kernel
theorem dX10_init_347 : decode cX10_init 347 = .ok (.iconst 0, 1) := by decide +kernel
theorem dX10_init_348 : decode cX10_init 348 = .ok (.istore_n 1, 1) := by decide +kernel
theorem dX10_init_349 : decode cX10_init 349 = .ok (.iload_n 1, 1) := by decide +kernel
theorem dX10_init_350 : decode cX10_init 350 = .ok (.bipush 24, 2) := by decide +kernel
theorem dX10_init_352 : decode cX10_init 352 = .ok (.if_icmp .ge 16, 3) := by decide +kernel
theorem dX10_init_355 : decode cX10_init 355 = .ok (.aload_n 0, 1) := by decide +kernel
theorem dX10_init_356 : decode cX10_init 356 = .ok (.getfield 7, 3) := by decide +kernel
theorem dX10_init_359 : decode cX10_init 359 = .ok (.iload_n 1, 1) := by decide +kernel
theorem dX10_init_360 : decode cX10_init 360 = .ok (.iconst (-1), 1) := by decide +kernel
theorem dX10_init_361 : decode cX10_init 361 = .ok (.iastore, 1) := by decide +kernel
theorem dX10_init_362 : decode cX10_init 362 = .ok (.iinc 1 1, 3) := by decide +kernel
theorem dX10_init_365 : decode cX10_init 365 = .ok (.goto (-16), 3) := by decide +kernel
theorem dX10_init_368 : decode cX10_init 368 = .ok (.return_, 1) := by decide +kernel
theorem dX10_thrown_0 : decode cX10_thrown 0 = .ok (.aload_n 0, 1) := by decide +kernel
theorem dX10_thrown_1 : decode cX10_thrown 1 = .ok (.getfield 134, 3) := by decide +kernel
theorem dX10_thrown_4 : decode cX10_thrown 4 = .ok (.ireturn, 1) := by decide +kernel
theorem dX10_message_0 : decode cX10_message 0 = .ok (.aload_n 0, 1) := by decide +kernel
theorem dX10_message_1 : decode cX10_message 1 = .ok (.iconst 0, 1) := by decide +kernel
theorem dX10_message_2 : decode cX10_message 2 = .ok (.putfield 134, 3) := by decide +kernel
theorem dX10_message_5 : decode cX10_message 5 = .ok (.iload_n 1, 1) := by decide +kernel
theorem dX10_message_6 : decode cX10_message 6 = .ok (.ifCond .lt 55, 3) := by decide +kernel
theorem dX10_message_9 : decode cX10_message 9 = .ok (.iload_n 1, 1) := by decide +kernel
theorem dX10_message_10 : decode cX10_message 10 = .ok (.bipush 8, 2) := by decide +kernel
theorem dX10_message_12 : decode cX10_message 12 = .ok (.if_icmp .ge 49, 3) := by decide +kernel
theorem dX10_message_15 : decode cX10_message 15 = .ok (.iload_n 2, 1) := by decide +kernel
theorem dX10_message_16 : decode cX10_message 16 = .ok (.ifCond .lt 45, 3) := by decide +kernel
theorem dX10_message_19 : decode cX10_message 19 = .ok (.iload_n 2, 1) := by decide +kernel
theorem dX10_message_20 : decode cX10_message 20 = .ok (.bipush 8, 2) := by decide +kernel
theorem dX10_message_22 : decode cX10_message 22 = .ok (.if_icmp .ge 39, 3) := by decide +kernel
theorem dX10_message_25 : decode cX10_message 25 = .ok (.iload_n 1, 1) := by decide +kernel
theorem dX10_message_26 : decode cX10_message 26 = .ok (.iload_n 2, 1) := by decide +kernel
theorem dX10_message_27 : decode cX10_message 27 = .ok (.if_icmp .eq 34, 3) := by decide +kernel
theorem dX10_message_30 : decode cX10_message 30 = .ok (.iload_n 3, 1) := by decide +kernel
theorem dX10_message_31 : decode cX10_message 31 = .ok (.iconst 1, 1) := by decide +kernel
theorem dX10_message_32 : decode cX10_message 32 = .ok (.if_icmp .lt 29, 3) := by decide +kernel
theorem dX10_message_35 : decode cX10_message 35 = .ok (.iload_n 3, 1) := by decide +kernel
theorem dX10_message_36 : decode cX10_message 36 = .ok (.bipush 60, 2) := by decide +kernel
theorem dX10_message_38 : decode cX10_message 38 = .ok (.if_icmp .gt 23, 3) := by decide +kernel
theorem dX10_message_41 : decode cX10_message 41 = .ok (.iload 4, 2) := by decide +kernel
theorem dX10_message_43 : decode cX10_message 43 = .ok (.ifCond .lt 18, 3) := by decide +kernel
theorem dX10_message_46 : decode cX10_message 46 = .ok (.iload 4, 2) := by decide +kernel
theorem dX10_message_48 : decode cX10_message 48 = .ok (.iconst 1, 1) := by decide +kernel
theorem dX10_message_49 : decode cX10_message 49 = .ok (.if_icmp .gt 12, 3) := by decide +kernel
theorem dX10_message_52 : decode cX10_message 52 = .ok (.aload_n 0, 1) := by decide +kernel
theorem dX10_message_53 : decode cX10_message 53 = .ok (.getfield 138, 3) := by decide +kernel
theorem dX10_message_56 : decode cX10_message 56 = .ok (.bipush 48, 2) := by decide +kernel
theorem dX10_message_58 : decode cX10_message 58 = .ok (.if_icmp .ne 5, 3) := by decide +kernel
theorem dX10_message_61 : decode cX10_message 61 = .ok (.iconst (-1), 1) := by decide +kernel
theorem dX10_message_62 : decode cX10_message 62 = .ok (.ireturn, 1) := by decide +kernel
theorem dX10_message_63 : decode cX10_message 63 = .ok (.aload_n 0, 1) := by decide +kernel
theorem dX10_message_64 : decode cX10_message 64 = .ok (.getfield 138, 3) := by decide +kernel
theorem dX10_message_67 : decode cX10_message 67 = .ok (.istore 5, 2) := by decide +kernel
theorem dX10_message_69 : decode cX10_message 69 = .ok (.aload_n 0, 1) := by decide +kernel
theorem dX10_message_70 : decode cX10_message 70 = .ok (.dup, 1) := by decide +kernel
theorem dX10_message_71 : decode cX10_message 71 = .ok (.getfield 138, 3) := by decide +kernel
theorem dX10_message_74 : decode cX10_message 74 = .ok (.iconst 1, 1) := by decide +kernel
theorem dX10_message_75 : decode cX10_message 75 = .ok (.iadd, 1) := by decide +kernel
theorem dX10_message_76 : decode cX10_message 76 = .ok (.putfield 138, 3) := by decide +kernel
theorem dX10_message_79 : decode cX10_message 79 = .ok (.aload_n 0, 1) := by decide +kernel
theorem dX10_message_80 : decode cX10_message 80 = .ok (.getfield 44, 3) := by decide +kernel
theorem dX10_message_83 : decode cX10_message 83 = .ok (.iload 5, 2) := by decide +kernel
theorem dX10_message_85 : decode cX10_message 85 = .ok (.iload_n 1, 1) := by decide +kernel
theorem dX10_message_86 : decode cX10_message 86 = .ok (.iastore, 1) := by decide +kernel
theorem dX10_message_87 : decode cX10_message 87 = .ok (.aload_n 0, 1) := by decide +kernel
theorem dX10_message_88 : decode cX10_message 88 = .ok (.getfield 47, 3) := by decide +kernel
theorem dX10_message_91 : decode cX10_message 91 = .ok (.iload 5, 2) := by decide +kernel
theorem dX10_message_93 : decode cX10_message 93 = .ok (.iload_n 2, 1) := by decide +kernel
theorem dX10_message_94 : decode cX10_message 94 = .ok (.iastore, 1) := by decide +kernel
theorem dX10_message_95 : decode cX10_message 95 = .ok (.aload_n 0, 1) := by decide +kernel
theorem dX10_message_96 : decode cX10_message 96 = .ok (.getfield 50, 3) := by decide +kernel
theorem dX10_message_99 : decode cX10_message 99 = .ok (.iload 5, 2) := by decide +kernel
theorem dX10_message_101 : decode cX10_message 101 = .ok (.iload_n 3, 1) := by decide +kernel
theorem dX10_message_102 : decode cX10_message 102 = .ok (.iastore, 1) := by decide +kernel
theorem dX10_message_103 : decode cX10_message 103 = .ok (.aload_n 0, 1) := by decide +kernel
theorem dX10_message_104 : decode cX10_message 104 = .ok (.getfield 53, 3) := by decide +kernel
theorem dX10_message_107 : decode cX10_message 107 = .ok (.iload 5, 2) := by decide +kernel
theorem dX10_message_109 : decode cX10_message 109 = .ok (.iload 4, 2) := by decide +kernel
theorem dX10_message_111 : decode cX10_message 111 = .ok (.iastore, 1) := by decide +kernel
theorem dX10_message_112 : decode cX10_message 112 = .ok (.aload_n 0, 1) := by decide +kernel
theorem dX10_message_113 : decode cX10_message 113 = .ok (.getfield 62, 3) := by decide +kernel
theorem dX10_message_116 : decode cX10_message 116 = .ok (.iload 5, 2) := by decide +kernel
theorem dX10_message_118 : decode cX10_message 118 = .ok (.iload_n 3, 1) := by decide +kernel
theorem dX10_message_119 : decode cX10_message 119 = .ok (.iconst 4, 1) := by decide +kernel
theorem dX10_message_120 : decode cX10_message 120 = .ok (.if_icmp .ge 7, 3) := by decide +kernel
theorem dX10_message_123 : decode cX10_message 123 = .ok (.iload_n 3, 1) := by decide +kernel
theorem dX10_message_124 : decode cX10_message 124 = .ok (.goto 4, 3) := by decide +kernel
theorem dX10_message_127 : decode cX10_message 127 = .ok (.iconst 4, 1) := by decide +kernel
theorem dX10_message_128 : decode cX10_message 128 = .ok (.iastore, 1) := by decide +kernel
theorem dX10_message_129 : decode cX10_message 129 = .ok (.aload_n 0, 1) := by decide +kernel
theorem dX10_message_130 : decode cX10_message 130 = .ok (.getfield 65, 3) := by decide +kernel
theorem dX10_message_133 : decode cX10_message 133 = .ok (.iload 5, 2) := by decide +kernel
theorem dX10_message_135 : decode cX10_message 135 = .ok (.iconst 3, 1) := by decide +kernel
theorem dX10_message_136 : decode cX10_message 136 = .ok (.iastore, 1) := by decide +kernel
theorem dX10_message_137 : decode cX10_message 137 = .ok (.iload 5, 2) := by decide +kernel
theorem dX10_message_139 : decode cX10_message 139 = .ok (.ireturn, 1) := by decide +kernel
theorem dX10_goal_0 : decode cX10_goal 0 = .ok (.iload_n 1, 1) := by decide +kernel
theorem dX10_goal_1 : decode cX10_goal 1 = .ok (.ifCond .ne 12, 3) := by decide +kernel
theorem dX10_goal_4 : decode cX10_goal 4 = .ok (.aload_n 0, 1) := by decide +kernel
theorem dX10_goal_5 : decode cX10_goal 5 = .ok (.getfield 47, 3) := by decide +kernel
theorem dX10_goal_8 : decode cX10_goal 8 = .ok (.iload_n 2, 1) := by decide +kernel
theorem dX10_goal_9 : decode cX10_goal 9 = .ok (.iaload, 1) := by decide +kernel
theorem dX10_goal_10 : decode cX10_goal 10 = .ok (.goto 9, 3) := by decide +kernel
theorem dX10_goal_13 : decode cX10_goal 13 = .ok (.aload_n 0, 1) := by decide +kernel
theorem dX10_goal_14 : decode cX10_goal 14 = .ok (.getfield 44, 3) := by decide +kernel
theorem dX10_goal_17 : decode cX10_goal 17 = .ok (.iload_n 2, 1) := by decide +kernel
theorem dX10_goal_18 : decode cX10_goal 18 = .ok (.iaload, 1) := by decide +kernel
theorem dX10_goal_19 : decode cX10_goal 19 = .ok (.ireturn, 1) := by decide +kernel
theorem dX10_enter_0 : decode cX10_enter 0 = .ok (.aload_n 0, 1) := by decide +kernel
theorem dX10_enter_1 : decode cX10_enter 1 = .ok (.getfield 22, 3) := by decide +kernel
theorem dX10_enter_4 : decode cX10_enter 4 = .ok (.iload_n 1, 1) := by decide +kernel
theorem dX10_enter_5 : decode cX10_enter 5 = .ok (.iaload, 1) := by decide +kernel
theorem dX10_enter_6 : decode cX10_enter 6 = .ok (.ifCond .le 24, 3) := by decide +kernel
theorem dX10_enter_9 : decode cX10_enter 9 = .ok (.aload_n 0, 1) := by decide +kernel
theorem dX10_enter_10 : decode cX10_enter 10 = .ok (.getfield 22, 3) := by decide +kernel
theorem dX10_enter_13 : decode cX10_enter 13 = .ok (.iload_n 1, 1) := by decide +kernel
theorem dX10_enter_14 : decode cX10_enter 14 = .ok (.dup2, 1) := by decide +kernel
theorem dX10_enter_15 : decode cX10_enter 15 = .ok (.iaload, 1) := by decide +kernel
theorem dX10_enter_16 : decode cX10_enter 16 = .ok (.iconst 1, 1) := by decide +kernel
theorem dX10_enter_17 : decode cX10_enter 17 = .ok (.isub, 1) := by decide +kernel
theorem dX10_enter_18 : decode cX10_enter 18 = .ok (.iastore, 1) := by decide +kernel
theorem dX10_enter_19 : decode cX10_enter 19 = .ok (.aload_n 0, 1) := by decide +kernel
theorem dX10_enter_20 : decode cX10_enter 20 = .ok (.dup, 1) := by decide +kernel
theorem dX10_enter_21 : decode cX10_enter 21 = .ok (.getfield 141, 3) := by decide +kernel
theorem dX10_enter_24 : decode cX10_enter 24 = .ok (.iconst 1, 1) := by decide +kernel
theorem dX10_enter_25 : decode cX10_enter 25 = .ok (.iadd, 1) := by decide +kernel
theorem dX10_enter_26 : decode cX10_enter 26 = .ok (.putfield 141, 3) := by decide +kernel
theorem dX10_enter_29 : decode cX10_enter 29 = .ok (.return_, 1) := by decide +kernel
theorem dX10_enter_30 : decode cX10_enter 30 = .ok (.aload_n 0, 1) := by decide +kernel
theorem dX10_enter_31 : decode cX10_enter 31 = .ok (.getfield 7, 3) := by decide +kernel
theorem dX10_enter_34 : decode cX10_enter 34 = .ok (.iload_n 1, 1) := by decide +kernel
theorem dX10_enter_35 : decode cX10_enter 35 = .ok (.iload_n 2, 1) := by decide +kernel
theorem dX10_enter_36 : decode cX10_enter 36 = .ok (.iastore, 1) := by decide +kernel
theorem dX10_enter_37 : decode cX10_enter 37 = .ok (.aload_n 0, 1) := by decide +kernel
theorem dX10_enter_38 : decode cX10_enter 38 = .ok (.getfield 13, 3) := by decide +kernel
theorem dX10_enter_41 : decode cX10_enter 41 = .ok (.iload_n 1, 1) := by decide +kernel
theorem dX10_enter_42 : decode cX10_enter 42 = .ok (.iload_n 3, 1) := by decide +kernel
theorem dX10_enter_43 : decode cX10_enter 43 = .ok (.iastore, 1) := by decide +kernel
theorem dX10_enter_44 : decode cX10_enter 44 = .ok (.aload_n 0, 1) := by decide +kernel
theorem dX10_enter_45 : decode cX10_enter 45 = .ok (.getfield 16, 3) := by decide +kernel
theorem dX10_enter_48 : decode cX10_enter 48 = .ok (.iload_n 1, 1) := by decide +kernel
theorem dX10_enter_49 : decode cX10_enter 49 = .ok (.iload 4, 2) := by decide +kernel
theorem dX10_enter_51 : decode cX10_enter 51 = .ok (.iastore, 1) := by decide +kernel
theorem dX10_enter_52 : decode cX10_enter 52 = .ok (.aload_n 0, 1) := by decide +kernel
theorem dX10_enter_53 : decode cX10_enter 53 = .ok (.getfield 19, 3) := by decide +kernel
theorem dX10_enter_56 : decode cX10_enter 56 = .ok (.iload_n 1, 1) := by decide +kernel
theorem dX10_enter_57 : decode cX10_enter 57 = .ok (.iload 5, 2) := by decide +kernel
theorem dX10_enter_59 : decode cX10_enter 59 = .ok (.iastore, 1) := by decide +kernel
theorem dX10_enter_60 : decode cX10_enter 60 = .ok (.return_, 1) := by decide +kernel
theorem dX10_line_0 : decode cX10_line 0 = .ok (.iconst 4, 1) := by decide +kernel
theorem dX10_line_1 : decode cX10_line 1 = .ok (.iload_n 1, 1) := by decide +kernel
theorem dX10_line_2 : decode cX10_line 2 = .ok (.imul, 1) := by decide +kernel
theorem dX10_line_3 : decode cX10_line 3 = .ok (.iload 5, 2) := by decide +kernel
theorem dX10_line_5 : decode cX10_line 5 = .ok (.iadd, 1) := by decide +kernel
theorem dX10_line_6 : decode cX10_line 6 = .ok (.istore 6, 2) := by decide +kernel
theorem dX10_line_8 : decode cX10_line 8 = .ok (.aload_n 0, 1) := by decide +kernel
theorem dX10_line_9 : decode cX10_line 9 = .ok (.getfield 25, 3) := by decide +kernel
theorem dX10_line_12 : decode cX10_line 12 = .ok (.iload 6, 2) := by decide +kernel
theorem dX10_line_14 : decode cX10_line 14 = .ok (.iaload, 1) := by decide +kernel
theorem dX10_line_15 : decode cX10_line 15 = .ok (.bipush 8, 2) := by decide +kernel
theorem dX10_line_17 : decode cX10_line 17 = .ok (.if_icmp .ne 14, 3) := by decide +kernel
theorem dX10_line_20 : decode cX10_line 20 = .ok (.aload_n 0, 1) := by decide +kernel
theorem dX10_line_21 : decode cX10_line 21 = .ok (.dup, 1) := by decide +kernel
theorem dX10_line_22 : decode cX10_line 22 = .ok (.getfield 144, 3) := by decide +kernel
theorem dX10_line_25 : decode cX10_line 25 = .ok (.iconst 1, 1) := by decide +kernel
theorem dX10_line_26 : decode cX10_line 26 = .ok (.iadd, 1) := by decide +kernel
theorem dX10_line_27 : decode cX10_line 27 = .ok (.putfield 144, 3) := by decide +kernel
theorem dX10_line_30 : decode cX10_line 30 = .ok (.return_, 1) := by decide +kernel
theorem dX10_line_31 : decode cX10_line 31 = .ok (.bipush 8, 2) := by decide +kernel
theorem dX10_line_33 : decode cX10_line 33 = .ok (.iload 6, 2) := by decide +kernel
theorem dX10_line_35 : decode cX10_line 35 = .ok (.imul, 1) := by decide +kernel
theorem dX10_line_36 : decode cX10_line 36 = .ok (.aload_n 0, 1) := by decide +kernel
theorem dX10_line_37 : decode cX10_line 37 = .ok (.getfield 25, 3) := by decide +kernel
theorem dX10_line_40 : decode cX10_line 40 = .ok (.iload 6, 2) := by decide +kernel
theorem dX10_line_42 : decode cX10_line 42 = .ok (.iaload, 1) := by decide +kernel
theorem dX10_line_43 : decode cX10_line 43 = .ok (.iadd, 1) := by decide +kernel
theorem dX10_line_44 : decode cX10_line 44 = .ok (.istore 7, 2) := by decide +kernel
theorem dX10_line_46 : decode cX10_line 46 = .ok (.aload_n 0, 1) := by decide +kernel
theorem dX10_line_47 : decode cX10_line 47 = .ok (.getfield 28, 3) := by decide +kernel
theorem dX10_line_50 : decode cX10_line 50 = .ok (.iload 7, 2) := by decide +kernel
theorem dX10_line_52 : decode cX10_line 52 = .ok (.iload_n 2, 1) := by decide +kernel
theorem dX10_line_53 : decode cX10_line 53 = .ok (.iastore, 1) := by decide +kernel
theorem dX10_line_54 : decode cX10_line 54 = .ok (.aload_n 0, 1) := by decide +kernel
theorem dX10_line_55 : decode cX10_line 55 = .ok (.getfield 31, 3) := by decide +kernel
theorem dX10_line_58 : decode cX10_line 58 = .ok (.iload 7, 2) := by decide +kernel
theorem dX10_line_60 : decode cX10_line 60 = .ok (.iload_n 3, 1) := by decide +kernel
theorem dX10_line_61 : decode cX10_line 61 = .ok (.iastore, 1) := by decide +kernel
theorem dX10_line_62 : decode cX10_line 62 = .ok (.aload_n 0, 1) := by decide +kernel
theorem dX10_line_63 : decode cX10_line 63 = .ok (.getfield 34, 3) := by decide +kernel
theorem dX10_line_66 : decode cX10_line 66 = .ok (.iload 7, 2) := by decide +kernel
theorem dX10_line_68 : decode cX10_line 68 = .ok (.iload 4, 2) := by decide +kernel
theorem dX10_line_70 : decode cX10_line 70 = .ok (.iastore, 1) := by decide +kernel
theorem dX10_line_71 : decode cX10_line 71 = .ok (.aload_n 0, 1) := by decide +kernel
theorem dX10_line_72 : decode cX10_line 72 = .ok (.getfield 25, 3) := by decide +kernel
theorem dX10_line_75 : decode cX10_line 75 = .ok (.iload 6, 2) := by decide +kernel
theorem dX10_line_77 : decode cX10_line 77 = .ok (.dup2, 1) := by decide +kernel
theorem dX10_line_78 : decode cX10_line 78 = .ok (.iaload, 1) := by decide +kernel
theorem dX10_line_79 : decode cX10_line 79 = .ok (.iconst 1, 1) := by decide +kernel
theorem dX10_line_80 : decode cX10_line 80 = .ok (.iadd, 1) := by decide +kernel
theorem dX10_line_81 : decode cX10_line 81 = .ok (.iastore, 1) := by decide +kernel
theorem dX10_line_82 : decode cX10_line 82 = .ok (.return_, 1) := by decide +kernel
theorem dX10_atLeaf_0 : decode cX10_atLeaf 0 = .ok (.aload_n 0, 1) := by decide +kernel
theorem dX10_atLeaf_1 : decode cX10_atLeaf 1 = .ok (.iload_n 2, 1) := by decide +kernel
theorem dX10_atLeaf_2 : decode cX10_atLeaf 2 = .ok (.iload_n 3, 1) := by decide +kernel
theorem dX10_atLeaf_3 : decode cX10_atLeaf 3 = .ok (.invokevirtual 147, 3) := by decide +kernel
theorem dX10_atLeaf_6 : decode cX10_atLeaf 6 = .ok (.istore 6, 2) := by decide +kernel
theorem dX10_atLeaf_8 : decode cX10_atLeaf 8 = .ok (.iload 6, 2) := by decide +kernel
theorem dX10_atLeaf_10 : decode cX10_atLeaf 10 = .ok (.iconst 4, 1) := by decide +kernel
theorem dX10_atLeaf_11 : decode cX10_atLeaf 11 = .ok (.idiv, 1) := by decide +kernel
theorem dX10_atLeaf_12 : decode cX10_atLeaf 12 = .ok (.iload_n 1, 1) := by decide +kernel
theorem dX10_atLeaf_13 : decode cX10_atLeaf 13 = .ok (.if_icmp .ne 26, 3) := by decide +kernel
theorem dX10_atLeaf_16 : decode cX10_atLeaf 16 = .ok (.aload_n 0, 1) := by decide +kernel
theorem dX10_atLeaf_17 : decode cX10_atLeaf 17 = .ok (.bipush 8, 2) := by decide +kernel
theorem dX10_atLeaf_19 : decode cX10_atLeaf 19 = .ok (.bipush 6, 2) := by decide +kernel
theorem dX10_atLeaf_21 : decode cX10_atLeaf 21 = .ok (.iload_n 1, 1) := by decide +kernel
theorem dX10_atLeaf_22 : decode cX10_atLeaf 22 = .ok (.imul, 1) := by decide +kernel
theorem dX10_atLeaf_23 : decode cX10_atLeaf 23 = .ok (.iadd, 1) := by decide +kernel
theorem dX10_atLeaf_24 : decode cX10_atLeaf 24 = .ok (.iload 6, 2) := by decide +kernel
theorem dX10_atLeaf_26 : decode cX10_atLeaf 26 = .ok (.iconst 4, 1) := by decide +kernel
theorem dX10_atLeaf_27 : decode cX10_atLeaf 27 = .ok (.irem, 1) := by decide +kernel
theorem dX10_atLeaf_28 : decode cX10_atLeaf 28 = .ok (.iadd, 1) := by decide +kernel
theorem dX10_atLeaf_29 : decode cX10_atLeaf 29 = .ok (.iload_n 2, 1) := by decide +kernel
theorem dX10_atLeaf_30 : decode cX10_atLeaf 30 = .ok (.iload_n 3, 1) := by decide +kernel
theorem dX10_atLeaf_31 : decode cX10_atLeaf 31 = .ok (.iload 4, 2) := by decide +kernel
theorem dX10_atLeaf_33 : decode cX10_atLeaf 33 = .ok (.iload 5, 2) := by decide +kernel
theorem dX10_atLeaf_35 : decode cX10_atLeaf 35 = .ok (.invokevirtual 151, 3) := by decide +kernel
theorem dX10_atLeaf_38 : decode cX10_atLeaf 38 = .ok (.return_, 1) := by decide +kernel
theorem dX10_atLeaf_39 : decode cX10_atLeaf 39 = .ok (.aload_n 0, 1) := by decide +kernel
theorem dX10_atLeaf_40 : decode cX10_atLeaf 40 = .ok (.getfield 37, 3) := by decide +kernel
theorem dX10_atLeaf_43 : decode cX10_atLeaf 43 = .ok (.iconst 0, 1) := by decide +kernel
theorem dX10_atLeaf_44 : decode cX10_atLeaf 44 = .ok (.baload, 1) := by decide +kernel
theorem dX10_atLeaf_45 : decode cX10_atLeaf 45 = .ok (.ifCond .eq 23, 3) := by decide +kernel
theorem dX10_atLeaf_48 : decode cX10_atLeaf 48 = .ok (.aload_n 0, 1) := by decide +kernel
theorem dX10_atLeaf_49 : decode cX10_atLeaf 49 = .ok (.getfield 37, 3) := by decide +kernel
theorem dX10_atLeaf_52 : decode cX10_atLeaf 52 = .ok (.iconst 1, 1) := by decide +kernel
theorem dX10_atLeaf_53 : decode cX10_atLeaf 53 = .ok (.baload, 1) := by decide +kernel
theorem dX10_atLeaf_54 : decode cX10_atLeaf 54 = .ok (.ifCond .eq 14, 3) := by decide +kernel
theorem dX10_atLeaf_57 : decode cX10_atLeaf 57 = .ok (.aload_n 0, 1) := by decide +kernel
theorem dX10_atLeaf_58 : decode cX10_atLeaf 58 = .ok (.dup, 1) := by decide +kernel
theorem dX10_atLeaf_59 : decode cX10_atLeaf 59 = .ok (.getfield 144, 3) := by decide +kernel
theorem dX10_atLeaf_62 : decode cX10_atLeaf 62 = .ok (.iconst 1, 1) := by decide +kernel
theorem dX10_atLeaf_63 : decode cX10_atLeaf 63 = .ok (.iadd, 1) := by decide +kernel
theorem dX10_atLeaf_64 : decode cX10_atLeaf 64 = .ok (.putfield 144, 3) := by decide +kernel
theorem dX10_atLeaf_67 : decode cX10_atLeaf 67 = .ok (.return_, 1) := by decide +kernel
theorem dX10_atLeaf_68 : decode cX10_atLeaf 68 = .ok (.aload_n 0, 1) := by decide +kernel
theorem dX10_atLeaf_69 : decode cX10_atLeaf 69 = .ok (.getfield 37, 3) := by decide +kernel
theorem dX10_atLeaf_72 : decode cX10_atLeaf 72 = .ok (.iconst 0, 1) := by decide +kernel
theorem dX10_atLeaf_73 : decode cX10_atLeaf 73 = .ok (.baload, 1) := by decide +kernel
theorem dX10_atLeaf_74 : decode cX10_atLeaf 74 = .ok (.ifCond .eq 7, 3) := by decide +kernel
theorem dX10_atLeaf_77 : decode cX10_atLeaf 77 = .ok (.iconst 1, 1) := by decide +kernel
theorem dX10_atLeaf_78 : decode cX10_atLeaf 78 = .ok (.goto 24, 3) := by decide +kernel
theorem dX10_atLeaf_81 : decode cX10_atLeaf 81 = .ok (.aload_n 0, 1) := by decide +kernel
theorem dX10_atLeaf_82 : decode cX10_atLeaf 82 = .ok (.getfield 37, 3) := by decide +kernel
theorem dX10_atLeaf_85 : decode cX10_atLeaf 85 = .ok (.iconst 1, 1) := by decide +kernel
theorem dX10_atLeaf_86 : decode cX10_atLeaf 86 = .ok (.baload, 1) := by decide +kernel
theorem dX10_atLeaf_87 : decode cX10_atLeaf 87 = .ok (.ifCond .eq 7, 3) := by decide +kernel
theorem dX10_atLeaf_90 : decode cX10_atLeaf 90 = .ok (.iconst 0, 1) := by decide +kernel
theorem dX10_atLeaf_91 : decode cX10_atLeaf 91 = .ok (.goto 11, 3) := by decide +kernel
theorem dX10_atLeaf_94 : decode cX10_atLeaf 94 = .ok (.iconst 1, 1) := by decide +kernel
theorem dX10_atLeaf_95 : decode cX10_atLeaf 95 = .ok (.aload_n 0, 1) := by decide +kernel
theorem dX10_atLeaf_96 : decode cX10_atLeaf 96 = .ok (.getfield 41, 3) := by decide +kernel
theorem dX10_atLeaf_99 : decode cX10_atLeaf 99 = .ok (.iload_n 1, 1) := by decide +kernel
theorem dX10_atLeaf_100 : decode cX10_atLeaf 100 = .ok (.iaload, 1) := by decide +kernel
theorem dX10_atLeaf_101 : decode cX10_atLeaf 101 = .ok (.isub, 1) := by decide +kernel
theorem dX10_atLeaf_102 : decode cX10_atLeaf 102 = .ok (.istore 7, 2) := by decide +kernel
theorem dX10_atLeaf_104 : decode cX10_atLeaf 104 = .ok (.aload_n 0, 1) := by decide +kernel
theorem dX10_atLeaf_105 : decode cX10_atLeaf 105 = .ok (.getfield 41, 3) := by decide +kernel
theorem dX10_atLeaf_108 : decode cX10_atLeaf 108 = .ok (.iload_n 1, 1) := by decide +kernel
theorem dX10_atLeaf_109 : decode cX10_atLeaf 109 = .ok (.iload 7, 2) := by decide +kernel
theorem dX10_atLeaf_111 : decode cX10_atLeaf 111 = .ok (.iastore, 1) := by decide +kernel
theorem dX10_atLeaf_112 : decode cX10_atLeaf 112 = .ok (.aload_n 0, 1) := by decide +kernel
theorem dX10_atLeaf_113 : decode cX10_atLeaf 113 = .ok (.bipush 8, 2) := by decide +kernel
theorem dX10_atLeaf_115 : decode cX10_atLeaf 115 = .ok (.bipush 6, 2) := by decide +kernel
theorem dX10_atLeaf_117 : decode cX10_atLeaf 117 = .ok (.iload_n 1, 1) := by decide +kernel
theorem dX10_atLeaf_118 : decode cX10_atLeaf 118 = .ok (.imul, 1) := by decide +kernel
theorem dX10_atLeaf_119 : decode cX10_atLeaf 119 = .ok (.iadd, 1) := by decide +kernel
theorem dX10_atLeaf_120 : decode cX10_atLeaf 120 = .ok (.iconst 4, 1) := by decide +kernel
theorem dX10_atLeaf_121 : decode cX10_atLeaf 121 = .ok (.iadd, 1) := by decide +kernel
theorem dX10_atLeaf_122 : decode cX10_atLeaf 122 = .ok (.iload 7, 2) := by decide +kernel
theorem dX10_atLeaf_124 : decode cX10_atLeaf 124 = .ok (.iadd, 1) := by decide +kernel
theorem dX10_atLeaf_125 : decode cX10_atLeaf 125 = .ok (.iload_n 2, 1) := by decide +kernel
theorem dX10_atLeaf_126 : decode cX10_atLeaf 126 = .ok (.iload_n 3, 1) := by decide +kernel
theorem dX10_atLeaf_127 : decode cX10_atLeaf 127 = .ok (.iload 4, 2) := by decide +kernel
theorem dX10_atLeaf_129 : decode cX10_atLeaf 129 = .ok (.iload 5, 2) := by decide +kernel
theorem dX10_atLeaf_131 : decode cX10_atLeaf 131 = .ok (.invokevirtual 151, 3) := by decide +kernel
theorem dX10_atLeaf_134 : decode cX10_atLeaf 134 = .ok (.return_, 1) := by decide +kernel
theorem dX10_arrive_0 : decode cX10_arrive 0 = .ok (.aload_n 0, 1) := by decide +kernel
theorem dX10_arrive_1 : decode cX10_arrive 1 = .ok (.getfield 7, 3) := by decide +kernel
theorem dX10_arrive_4 : decode cX10_arrive 4 = .ok (.iload_n 1, 1) := by decide +kernel
theorem dX10_arrive_5 : decode cX10_arrive 5 = .ok (.iaload, 1) := by decide +kernel
theorem dX10_arrive_6 : decode cX10_arrive 6 = .ok (.istore_n 2, 1) := by decide +kernel
theorem dX10_arrive_7 : decode cX10_arrive 7 = .ok (.aload_n 0, 1) := by decide +kernel
theorem dX10_arrive_8 : decode cX10_arrive 8 = .ok (.getfield 13, 3) := by decide +kernel
theorem dX10_arrive_11 : decode cX10_arrive 11 = .ok (.iload_n 1, 1) := by decide +kernel
theorem dX10_arrive_12 : decode cX10_arrive 12 = .ok (.iaload, 1) := by decide +kernel
theorem dX10_arrive_13 : decode cX10_arrive 13 = .ok (.istore_n 3, 1) := by decide +kernel
theorem dX10_arrive_14 : decode cX10_arrive 14 = .ok (.aload_n 0, 1) := by decide +kernel
theorem dX10_arrive_15 : decode cX10_arrive 15 = .ok (.getfield 16, 3) := by decide +kernel
theorem dX10_arrive_18 : decode cX10_arrive 18 = .ok (.iload_n 1, 1) := by decide +kernel
theorem dX10_arrive_19 : decode cX10_arrive 19 = .ok (.iaload, 1) := by decide +kernel
theorem dX10_arrive_20 : decode cX10_arrive 20 = .ok (.istore 4, 2) := by decide +kernel
theorem dX10_arrive_22 : decode cX10_arrive 22 = .ok (.aload_n 0, 1) := by decide +kernel
theorem dX10_arrive_23 : decode cX10_arrive 23 = .ok (.getfield 19, 3) := by decide +kernel
theorem dX10_arrive_26 : decode cX10_arrive 26 = .ok (.iload_n 1, 1) := by decide +kernel
theorem dX10_arrive_27 : decode cX10_arrive 27 = .ok (.iaload, 1) := by decide +kernel
theorem dX10_arrive_28 : decode cX10_arrive 28 = .ok (.istore 5, 2) := by decide +kernel
theorem dX10_arrive_30 : decode cX10_arrive 30 = .ok (.aload_n 0, 1) := by decide +kernel
theorem dX10_arrive_31 : decode cX10_arrive 31 = .ok (.getfield 7, 3) := by decide +kernel
theorem dX10_arrive_34 : decode cX10_arrive 34 = .ok (.iload_n 1, 1) := by decide +kernel
theorem dX10_arrive_35 : decode cX10_arrive 35 = .ok (.iconst (-1), 1) := by decide +kernel
theorem dX10_arrive_36 : decode cX10_arrive 36 = .ok (.iastore, 1) := by decide +kernel
theorem dX10_arrive_37 : decode cX10_arrive 37 = .ok (.iload_n 1, 1) := by decide +kernel
theorem dX10_arrive_38 : decode cX10_arrive 38 = .ok (.bipush 8, 2) := by decide +kernel
theorem dX10_arrive_40 : decode cX10_arrive 40 = .ok (.if_icmp .ge 19, 3) := by decide +kernel
theorem dX10_arrive_43 : decode cX10_arrive 43 = .ok (.aload_n 0, 1) := by decide +kernel
theorem dX10_arrive_44 : decode cX10_arrive 44 = .ok (.iload_n 1, 1) := by decide +kernel
theorem dX10_arrive_45 : decode cX10_arrive 45 = .ok (.iconst 4, 1) := by decide +kernel
theorem dX10_arrive_46 : decode cX10_arrive 46 = .ok (.idiv, 1) := by decide +kernel
theorem dX10_arrive_47 : decode cX10_arrive 47 = .ok (.iload_n 2, 1) := by decide +kernel
theorem dX10_arrive_48 : decode cX10_arrive 48 = .ok (.iload_n 3, 1) := by decide +kernel
theorem dX10_arrive_49 : decode cX10_arrive 49 = .ok (.iload 4, 2) := by decide +kernel
theorem dX10_arrive_51 : decode cX10_arrive 51 = .ok (.iload 5, 2) := by decide +kernel
theorem dX10_arrive_53 : decode cX10_arrive 53 = .ok (.invokevirtual 155, 3) := by decide +kernel
theorem dX10_arrive_56 : decode cX10_arrive 56 = .ok (.goto 124, 3) := by decide +kernel
theorem dX10_arrive_59 : decode cX10_arrive 59 = .ok (.iload_n 1, 1) := by decide +kernel
theorem dX10_arrive_60 : decode cX10_arrive 60 = .ok (.bipush 20, 2) := by decide +kernel
theorem dX10_arrive_62 : decode cX10_arrive 62 = .ok (.if_icmp .lt 22, 3) := by decide +kernel
theorem dX10_arrive_65 : decode cX10_arrive 65 = .ok (.aload_n 0, 1) := by decide +kernel
theorem dX10_arrive_66 : decode cX10_arrive 66 = .ok (.iload_n 1, 1) := by decide +kernel
theorem dX10_arrive_67 : decode cX10_arrive 67 = .ok (.bipush 20, 2) := by decide +kernel
theorem dX10_arrive_69 : decode cX10_arrive 69 = .ok (.isub, 1) := by decide +kernel
theorem dX10_arrive_70 : decode cX10_arrive 70 = .ok (.iconst 2, 1) := by decide +kernel
theorem dX10_arrive_71 : decode cX10_arrive 71 = .ok (.irem, 1) := by decide +kernel
theorem dX10_arrive_72 : decode cX10_arrive 72 = .ok (.iload_n 2, 1) := by decide +kernel
theorem dX10_arrive_73 : decode cX10_arrive 73 = .ok (.iload_n 3, 1) := by decide +kernel
theorem dX10_arrive_74 : decode cX10_arrive 74 = .ok (.iload 4, 2) := by decide +kernel
theorem dX10_arrive_76 : decode cX10_arrive 76 = .ok (.iload 5, 2) := by decide +kernel
theorem dX10_arrive_78 : decode cX10_arrive 78 = .ok (.invokevirtual 155, 3) := by decide +kernel
theorem dX10_arrive_81 : decode cX10_arrive 81 = .ok (.goto 99, 3) := by decide +kernel
theorem dX10_arrive_84 : decode cX10_arrive 84 = .ok (.iload_n 1, 1) := by decide +kernel
theorem dX10_arrive_85 : decode cX10_arrive 85 = .ok (.bipush 8, 2) := by decide +kernel
theorem dX10_arrive_87 : decode cX10_arrive 87 = .ok (.isub, 1) := by decide +kernel
theorem dX10_arrive_88 : decode cX10_arrive 88 = .ok (.bipush 6, 2) := by decide +kernel
theorem dX10_arrive_90 : decode cX10_arrive 90 = .ok (.irem, 1) := by decide +kernel
theorem dX10_arrive_91 : decode cX10_arrive 91 = .ok (.iconst 4, 1) := by decide +kernel
theorem dX10_arrive_92 : decode cX10_arrive 92 = .ok (.if_icmp .lt 66, 3) := by decide +kernel
theorem dX10_arrive_95 : decode cX10_arrive 95 = .ok (.iload_n 1, 1) := by decide +kernel
theorem dX10_arrive_96 : decode cX10_arrive 96 = .ok (.bipush 8, 2) := by decide +kernel
theorem dX10_arrive_98 : decode cX10_arrive 98 = .ok (.isub, 1) := by decide +kernel
theorem dX10_arrive_99 : decode cX10_arrive 99 = .ok (.bipush 6, 2) := by decide +kernel
theorem dX10_arrive_101 : decode cX10_arrive 101 = .ok (.irem, 1) := by decide +kernel
theorem dX10_arrive_102 : decode cX10_arrive 102 = .ok (.iconst 4, 1) := by decide +kernel
theorem dX10_arrive_103 : decode cX10_arrive 103 = .ok (.isub, 1) := by decide +kernel
theorem dX10_arrive_104 : decode cX10_arrive 104 = .ok (.istore 6, 2) := by decide +kernel
theorem dX10_arrive_106 : decode cX10_arrive 106 = .ok (.aload_n 0, 1) := by decide +kernel
theorem dX10_arrive_107 : decode cX10_arrive 107 = .ok (.getfield 37, 3) := by decide +kernel
theorem dX10_arrive_110 : decode cX10_arrive 110 = .ok (.iload 6, 2) := by decide +kernel
theorem dX10_arrive_112 : decode cX10_arrive 112 = .ok (.baload, 1) := by decide +kernel
theorem dX10_arrive_113 : decode cX10_arrive 113 = .ok (.ifCond .eq 16, 3) := by decide +kernel
theorem dX10_arrive_116 : decode cX10_arrive 116 = .ok (.aload_n 0, 1) := by decide +kernel
theorem dX10_arrive_117 : decode cX10_arrive 117 = .ok (.dup, 1) := by decide +kernel
theorem dX10_arrive_118 : decode cX10_arrive 118 = .ok (.getfield 144, 3) := by decide +kernel
theorem dX10_arrive_121 : decode cX10_arrive 121 = .ok (.iconst 1, 1) := by decide +kernel
theorem dX10_arrive_122 : decode cX10_arrive 122 = .ok (.iadd, 1) := by decide +kernel
theorem dX10_arrive_123 : decode cX10_arrive 123 = .ok (.putfield 144, 3) := by decide +kernel
theorem dX10_arrive_126 : decode cX10_arrive 126 = .ok (.goto 29, 3) := by decide +kernel
theorem dX10_arrive_129 : decode cX10_arrive 129 = .ok (.aload_n 0, 1) := by decide +kernel
theorem dX10_arrive_130 : decode cX10_arrive 130 = .ok (.bipush 20, 2) := by decide +kernel
theorem dX10_arrive_132 : decode cX10_arrive 132 = .ok (.iconst 2, 1) := by decide +kernel
theorem dX10_arrive_133 : decode cX10_arrive 133 = .ok (.iload 6, 2) := by decide +kernel
theorem dX10_arrive_135 : decode cX10_arrive 135 = .ok (.imul, 1) := by decide +kernel
theorem dX10_arrive_136 : decode cX10_arrive 136 = .ok (.iadd, 1) := by decide +kernel
theorem dX10_arrive_137 : decode cX10_arrive 137 = .ok (.aload_n 0, 1) := by decide +kernel
theorem dX10_arrive_138 : decode cX10_arrive 138 = .ok (.iload_n 2, 1) := by decide +kernel
theorem dX10_arrive_139 : decode cX10_arrive 139 = .ok (.iload_n 3, 1) := by decide +kernel
theorem dX10_arrive_140 : decode cX10_arrive 140 = .ok (.invokevirtual 147, 3) := by decide +kernel
theorem dX10_arrive_143 : decode cX10_arrive 143 = .ok (.iconst 4, 1) := by decide +kernel
theorem dX10_arrive_144 : decode cX10_arrive 144 = .ok (.idiv, 1) := by decide +kernel
theorem dX10_arrive_145 : decode cX10_arrive 145 = .ok (.iadd, 1) := by decide +kernel
theorem dX10_arrive_146 : decode cX10_arrive 146 = .ok (.iload_n 2, 1) := by decide +kernel
theorem dX10_arrive_147 : decode cX10_arrive 147 = .ok (.iload_n 3, 1) := by decide +kernel
theorem dX10_arrive_148 : decode cX10_arrive 148 = .ok (.iload 4, 2) := by decide +kernel
theorem dX10_arrive_150 : decode cX10_arrive 150 = .ok (.iload 5, 2) := by decide +kernel
theorem dX10_arrive_152 : decode cX10_arrive 152 = .ok (.invokevirtual 151, 3) := by decide +kernel
theorem dX10_arrive_155 : decode cX10_arrive 155 = .ok (.goto 25, 3) := by decide +kernel
theorem dX10_arrive_158 : decode cX10_arrive 158 = .ok (.iload_n 2, 1) := by decide +kernel
theorem dX10_arrive_159 : decode cX10_arrive 159 = .ok (.ifCond .ne 13, 3) := by decide +kernel
theorem dX10_arrive_162 : decode cX10_arrive 162 = .ok (.aload_n 0, 1) := by decide +kernel
theorem dX10_arrive_163 : decode cX10_arrive 163 = .ok (.iload_n 3, 1) := by decide +kernel
theorem dX10_arrive_164 : decode cX10_arrive 164 = .ok (.iload 4, 2) := by decide +kernel
theorem dX10_arrive_166 : decode cX10_arrive 166 = .ok (.invokevirtual 158, 3) := by decide +kernel
theorem dX10_arrive_169 : decode cX10_arrive 169 = .ok (.goto 11, 3) := by decide +kernel
theorem dX10_arrive_172 : decode cX10_arrive 172 = .ok (.aload_n 0, 1) := by decide +kernel
theorem dX10_arrive_173 : decode cX10_arrive 173 = .ok (.iload_n 2, 1) := by decide +kernel
theorem dX10_arrive_174 : decode cX10_arrive 174 = .ok (.iload_n 3, 1) := by decide +kernel
theorem dX10_arrive_175 : decode cX10_arrive 175 = .ok (.iload 4, 2) := by decide +kernel
theorem dX10_arrive_177 : decode cX10_arrive 177 = .ok (.invokevirtual 162, 3) := by decide +kernel
theorem dX10_arrive_180 : decode cX10_arrive 180 = .ok (.return_, 1) := by decide +kernel
theorem dX10_serve_0 : decode cX10_serve 0 = .ok (.iload_n 1, 1) := by decide +kernel
theorem dX10_serve_1 : decode cX10_serve 1 = .ok (.bipush 20, 2) := by decide +kernel
theorem dX10_serve_3 : decode cX10_serve 3 = .ok (.if_icmp .lt 18, 3) := by decide +kernel
theorem dX10_serve_6 : decode cX10_serve 6 = .ok (.aload_n 0, 1) := by decide +kernel
theorem dX10_serve_7 : decode cX10_serve 7 = .ok (.getfield 37, 3) := by decide +kernel
theorem dX10_serve_10 : decode cX10_serve 10 = .ok (.iload_n 1, 1) := by decide +kernel
theorem dX10_serve_11 : decode cX10_serve 11 = .ok (.bipush 20, 2) := by decide +kernel
theorem dX10_serve_13 : decode cX10_serve 13 = .ok (.isub, 1) := by decide +kernel
theorem dX10_serve_14 : decode cX10_serve 14 = .ok (.iconst 2, 1) := by decide +kernel
theorem dX10_serve_15 : decode cX10_serve 15 = .ok (.idiv, 1) := by decide +kernel
theorem dX10_serve_16 : decode cX10_serve 16 = .ok (.baload, 1) := by decide +kernel
theorem dX10_serve_17 : decode cX10_serve 17 = .ok (.ifCond .eq 4, 3) := by decide +kernel
theorem dX10_serve_20 : decode cX10_serve 20 = .ok (.return_, 1) := by decide +kernel
theorem dX10_serve_21 : decode cX10_serve 21 = .ok (.iconst 0, 1) := by decide +kernel
theorem dX10_serve_22 : decode cX10_serve 22 = .ok (.istore_n 2, 1) := by decide +kernel
theorem dX10_serve_23 : decode cX10_serve 23 = .ok (.iload_n 2, 1) := by decide +kernel
theorem dX10_serve_24 : decode cX10_serve 24 = .ok (.iconst 4, 1) := by decide +kernel
theorem dX10_serve_25 : decode cX10_serve 25 = .ok (.if_icmp .ge 22, 3) := by decide +kernel
theorem dX10_serve_28 : decode cX10_serve 28 = .ok (.aload_n 0, 1) := by decide +kernel
theorem dX10_serve_29 : decode cX10_serve 29 = .ok (.getfield 25, 3) := by decide +kernel
theorem dX10_serve_32 : decode cX10_serve 32 = .ok (.iconst 4, 1) := by decide +kernel
theorem dX10_serve_33 : decode cX10_serve 33 = .ok (.iload_n 1, 1) := by decide +kernel
theorem dX10_serve_34 : decode cX10_serve 34 = .ok (.imul, 1) := by decide +kernel
theorem dX10_serve_35 : decode cX10_serve 35 = .ok (.iload_n 2, 1) := by decide +kernel
theorem dX10_serve_36 : decode cX10_serve 36 = .ok (.iadd, 1) := by decide +kernel
theorem dX10_serve_37 : decode cX10_serve 37 = .ok (.iaload, 1) := by decide +kernel
theorem dX10_serve_38 : decode cX10_serve 38 = .ok (.ifCond .ne 9, 3) := by decide +kernel
theorem dX10_serve_41 : decode cX10_serve 41 = .ok (.iinc 2 1, 3) := by decide +kernel
theorem dX10_serve_44 : decode cX10_serve 44 = .ok (.goto (-21), 3) := by decide +kernel
theorem dX10_serve_47 : decode cX10_serve 47 = .ok (.iload_n 2, 1) := by decide +kernel
theorem dX10_serve_48 : decode cX10_serve 48 = .ok (.iconst 4, 1) := by decide +kernel
theorem dX10_serve_49 : decode cX10_serve 49 = .ok (.if_icmp .ne 4, 3) := by decide +kernel
theorem dX10_serve_52 : decode cX10_serve 52 = .ok (.return_, 1) := by decide +kernel
theorem dX10_serve_53 : decode cX10_serve 53 = .ok (.iconst 4, 1) := by decide +kernel
theorem dX10_serve_54 : decode cX10_serve 54 = .ok (.iload_n 1, 1) := by decide +kernel
theorem dX10_serve_55 : decode cX10_serve 55 = .ok (.imul, 1) := by decide +kernel
theorem dX10_serve_56 : decode cX10_serve 56 = .ok (.iload_n 2, 1) := by decide +kernel
theorem dX10_serve_57 : decode cX10_serve 57 = .ok (.iadd, 1) := by decide +kernel
theorem dX10_serve_58 : decode cX10_serve 58 = .ok (.istore_n 3, 1) := by decide +kernel
theorem dX10_serve_59 : decode cX10_serve 59 = .ok (.aload_n 0, 1) := by decide +kernel
theorem dX10_serve_60 : decode cX10_serve 60 = .ok (.getfield 28, 3) := by decide +kernel
theorem dX10_serve_63 : decode cX10_serve 63 = .ok (.bipush 8, 2) := by decide +kernel
theorem dX10_serve_65 : decode cX10_serve 65 = .ok (.iload_n 3, 1) := by decide +kernel
theorem dX10_serve_66 : decode cX10_serve 66 = .ok (.imul, 1) := by decide +kernel
theorem dX10_serve_67 : decode cX10_serve 67 = .ok (.iaload, 1) := by decide +kernel
theorem dX10_serve_68 : decode cX10_serve 68 = .ok (.istore 4, 2) := by decide +kernel
theorem dX10_serve_70 : decode cX10_serve 70 = .ok (.aload_n 0, 1) := by decide +kernel
theorem dX10_serve_71 : decode cX10_serve 71 = .ok (.getfield 31, 3) := by decide +kernel
theorem dX10_serve_74 : decode cX10_serve 74 = .ok (.bipush 8, 2) := by decide +kernel
theorem dX10_serve_76 : decode cX10_serve 76 = .ok (.iload_n 3, 1) := by decide +kernel
theorem dX10_serve_77 : decode cX10_serve 77 = .ok (.imul, 1) := by decide +kernel
theorem dX10_serve_78 : decode cX10_serve 78 = .ok (.iaload, 1) := by decide +kernel
theorem dX10_serve_79 : decode cX10_serve 79 = .ok (.istore 5, 2) := by decide +kernel
theorem dX10_serve_81 : decode cX10_serve 81 = .ok (.aload_n 0, 1) := by decide +kernel
theorem dX10_serve_82 : decode cX10_serve 82 = .ok (.getfield 34, 3) := by decide +kernel
theorem dX10_serve_85 : decode cX10_serve 85 = .ok (.bipush 8, 2) := by decide +kernel
theorem dX10_serve_87 : decode cX10_serve 87 = .ok (.iload_n 3, 1) := by decide +kernel
theorem dX10_serve_88 : decode cX10_serve 88 = .ok (.imul, 1) := by decide +kernel
theorem dX10_serve_89 : decode cX10_serve 89 = .ok (.iaload, 1) := by decide +kernel
theorem dX10_serve_90 : decode cX10_serve 90 = .ok (.istore 6, 2) := by decide +kernel
theorem dX10_serve_92 : decode cX10_serve 92 = .ok (.aload_n 0, 1) := by decide +kernel
theorem dX10_serve_93 : decode cX10_serve 93 = .ok (.getfield 25, 3) := by decide +kernel
theorem dX10_serve_96 : decode cX10_serve 96 = .ok (.iload_n 3, 1) := by decide +kernel
theorem dX10_serve_97 : decode cX10_serve 97 = .ok (.dup2, 1) := by decide +kernel
theorem dX10_serve_98 : decode cX10_serve 98 = .ok (.iaload, 1) := by decide +kernel
theorem dX10_serve_99 : decode cX10_serve 99 = .ok (.iconst 1, 1) := by decide +kernel
theorem dX10_serve_100 : decode cX10_serve 100 = .ok (.isub, 1) := by decide +kernel
theorem dX10_serve_101 : decode cX10_serve 101 = .ok (.iastore, 1) := by decide +kernel
theorem dX10_serve_102 : decode cX10_serve 102 = .ok (.bipush 8, 2) := by decide +kernel
theorem dX10_serve_104 : decode cX10_serve 104 = .ok (.iload_n 3, 1) := by decide +kernel
theorem dX10_serve_105 : decode cX10_serve 105 = .ok (.imul, 1) := by decide +kernel
theorem dX10_serve_106 : decode cX10_serve 106 = .ok (.istore 7, 2) := by decide +kernel
theorem dX10_serve_108 : decode cX10_serve 108 = .ok (.iload 7, 2) := by decide +kernel
theorem dX10_serve_110 : decode cX10_serve 110 = .ok (.bipush 8, 2) := by decide +kernel
theorem dX10_serve_112 : decode cX10_serve 112 = .ok (.iload_n 3, 1) := by decide +kernel
theorem dX10_serve_113 : decode cX10_serve 113 = .ok (.imul, 1) := by decide +kernel
theorem dX10_serve_114 : decode cX10_serve 114 = .ok (.aload_n 0, 1) := by decide +kernel
theorem dX10_serve_115 : decode cX10_serve 115 = .ok (.getfield 25, 3) := by decide +kernel
theorem dX10_serve_118 : decode cX10_serve 118 = .ok (.iload_n 3, 1) := by decide +kernel
theorem dX10_serve_119 : decode cX10_serve 119 = .ok (.iaload, 1) := by decide +kernel
theorem dX10_serve_120 : decode cX10_serve 120 = .ok (.iadd, 1) := by decide +kernel
theorem dX10_serve_121 : decode cX10_serve 121 = .ok (.if_icmp .ge 57, 3) := by decide +kernel
theorem dX10_serve_124 : decode cX10_serve 124 = .ok (.aload_n 0, 1) := by decide +kernel
theorem dX10_serve_125 : decode cX10_serve 125 = .ok (.getfield 28, 3) := by decide +kernel
theorem dX10_serve_128 : decode cX10_serve 128 = .ok (.iload 7, 2) := by decide +kernel
theorem dX10_serve_130 : decode cX10_serve 130 = .ok (.aload_n 0, 1) := by decide +kernel
theorem dX10_serve_131 : decode cX10_serve 131 = .ok (.getfield 28, 3) := by decide +kernel
theorem dX10_serve_134 : decode cX10_serve 134 = .ok (.iload 7, 2) := by decide +kernel
theorem dX10_serve_136 : decode cX10_serve 136 = .ok (.iconst 1, 1) := by decide +kernel
theorem dX10_serve_137 : decode cX10_serve 137 = .ok (.iadd, 1) := by decide +kernel
theorem dX10_serve_138 : decode cX10_serve 138 = .ok (.iaload, 1) := by decide +kernel
theorem dX10_serve_139 : decode cX10_serve 139 = .ok (.iastore, 1) := by decide +kernel
theorem dX10_serve_140 : decode cX10_serve 140 = .ok (.aload_n 0, 1) := by decide +kernel
theorem dX10_serve_141 : decode cX10_serve 141 = .ok (.getfield 31, 3) := by decide +kernel
theorem dX10_serve_144 : decode cX10_serve 144 = .ok (.iload 7, 2) := by decide +kernel
theorem dX10_serve_146 : decode cX10_serve 146 = .ok (.aload_n 0, 1) := by decide +kernel
theorem dX10_serve_147 : decode cX10_serve 147 = .ok (.getfield 31, 3) := by decide +kernel
theorem dX10_serve_150 : decode cX10_serve 150 = .ok (.iload 7, 2) := by decide +kernel
theorem dX10_serve_152 : decode cX10_serve 152 = .ok (.iconst 1, 1) := by decide +kernel
theorem dX10_serve_153 : decode cX10_serve 153 = .ok (.iadd, 1) := by decide +kernel
theorem dX10_serve_154 : decode cX10_serve 154 = .ok (.iaload, 1) := by decide +kernel
theorem dX10_serve_155 : decode cX10_serve 155 = .ok (.iastore, 1) := by decide +kernel
theorem dX10_serve_156 : decode cX10_serve 156 = .ok (.aload_n 0, 1) := by decide +kernel
theorem dX10_serve_157 : decode cX10_serve 157 = .ok (.getfield 34, 3) := by decide +kernel
theorem dX10_serve_160 : decode cX10_serve 160 = .ok (.iload 7, 2) := by decide +kernel
theorem dX10_serve_162 : decode cX10_serve 162 = .ok (.aload_n 0, 1) := by decide +kernel
theorem dX10_serve_163 : decode cX10_serve 163 = .ok (.getfield 34, 3) := by decide +kernel
theorem dX10_serve_166 : decode cX10_serve 166 = .ok (.iload 7, 2) := by decide +kernel
theorem dX10_serve_168 : decode cX10_serve 168 = .ok (.iconst 1, 1) := by decide +kernel
theorem dX10_serve_169 : decode cX10_serve 169 = .ok (.iadd, 1) := by decide +kernel
theorem dX10_serve_170 : decode cX10_serve 170 = .ok (.iaload, 1) := by decide +kernel
theorem dX10_serve_171 : decode cX10_serve 171 = .ok (.iastore, 1) := by decide +kernel
theorem dX10_serve_172 : decode cX10_serve 172 = .ok (.iinc 7 1, 3) := by decide +kernel
theorem dX10_serve_175 : decode cX10_serve 175 = .ok (.goto (-67), 3) := by decide +kernel
theorem dX10_serve_178 : decode cX10_serve 178 = .ok (.aload_n 0, 1) := by decide +kernel
theorem dX10_serve_179 : decode cX10_serve 179 = .ok (.iload_n 1, 1) := by decide +kernel
theorem dX10_serve_180 : decode cX10_serve 180 = .ok (.iload 4, 2) := by decide +kernel
theorem dX10_serve_182 : decode cX10_serve 182 = .ok (.iload 5, 2) := by decide +kernel
theorem dX10_serve_184 : decode cX10_serve 184 = .ok (.iload 6, 2) := by decide +kernel
theorem dX10_serve_186 : decode cX10_serve 186 = .ok (.iload_n 2, 1) := by decide +kernel
theorem dX10_serve_187 : decode cX10_serve 187 = .ok (.invokevirtual 166, 3) := by decide +kernel
theorem dX10_serve_190 : decode cX10_serve 190 = .ok (.return_, 1) := by decide +kernel
theorem dX10_becomeDue_0 : decode cX10_becomeDue 0 = .ok (.aload_n 0, 1) := by decide +kernel
theorem dX10_becomeDue_1 : decode cX10_becomeDue 1 = .ok (.getfield 107, 3) := by decide +kernel
theorem dX10_becomeDue_4 : decode cX10_becomeDue 4 = .ok (.iload_n 1, 1) := by decide +kernel
theorem dX10_becomeDue_5 : decode cX10_becomeDue 5 = .ok (.iaload, 1) := by decide +kernel
theorem dX10_becomeDue_6 : decode cX10_becomeDue 6 = .ok (.bipush 24, 2) := by decide +kernel
theorem dX10_becomeDue_8 : decode cX10_becomeDue 8 = .ok (.if_icmp .ne 4, 3) := by decide +kernel
theorem dX10_becomeDue_11 : decode cX10_becomeDue 11 = .ok (.return_, 1) := by decide +kernel
theorem dX10_becomeDue_12 : decode cX10_becomeDue 12 = .ok (.bipush 24, 2) := by decide +kernel
theorem dX10_becomeDue_14 : decode cX10_becomeDue 14 = .ok (.iload_n 1, 1) := by decide +kernel
theorem dX10_becomeDue_15 : decode cX10_becomeDue 15 = .ok (.imul, 1) := by decide +kernel
theorem dX10_becomeDue_16 : decode cX10_becomeDue 16 = .ok (.aload_n 0, 1) := by decide +kernel
theorem dX10_becomeDue_17 : decode cX10_becomeDue 17 = .ok (.getfield 107, 3) := by decide +kernel
theorem dX10_becomeDue_20 : decode cX10_becomeDue 20 = .ok (.iload_n 1, 1) := by decide +kernel
theorem dX10_becomeDue_21 : decode cX10_becomeDue 21 = .ok (.iaload, 1) := by decide +kernel
theorem dX10_becomeDue_22 : decode cX10_becomeDue 22 = .ok (.iadd, 1) := by decide +kernel
theorem dX10_becomeDue_23 : decode cX10_becomeDue 23 = .ok (.istore 5, 2) := by decide +kernel
theorem dX10_becomeDue_25 : decode cX10_becomeDue 25 = .ok (.aload_n 0, 1) := by decide +kernel
theorem dX10_becomeDue_26 : decode cX10_becomeDue 26 = .ok (.getfield 110, 3) := by decide +kernel
theorem dX10_becomeDue_29 : decode cX10_becomeDue 29 = .ok (.iload 5, 2) := by decide +kernel
theorem dX10_becomeDue_31 : decode cX10_becomeDue 31 = .ok (.iload_n 2, 1) := by decide +kernel
theorem dX10_becomeDue_32 : decode cX10_becomeDue 32 = .ok (.iastore, 1) := by decide +kernel
theorem dX10_becomeDue_33 : decode cX10_becomeDue 33 = .ok (.aload_n 0, 1) := by decide +kernel
theorem dX10_becomeDue_34 : decode cX10_becomeDue 34 = .ok (.getfield 113, 3) := by decide +kernel
theorem dX10_becomeDue_37 : decode cX10_becomeDue 37 = .ok (.iload 5, 2) := by decide +kernel
theorem dX10_becomeDue_39 : decode cX10_becomeDue 39 = .ok (.iload_n 3, 1) := by decide +kernel
theorem dX10_becomeDue_40 : decode cX10_becomeDue 40 = .ok (.iastore, 1) := by decide +kernel
theorem dX10_becomeDue_41 : decode cX10_becomeDue 41 = .ok (.aload_n 0, 1) := by decide +kernel
theorem dX10_becomeDue_42 : decode cX10_becomeDue 42 = .ok (.getfield 116, 3) := by decide +kernel
theorem dX10_becomeDue_45 : decode cX10_becomeDue 45 = .ok (.iload 5, 2) := by decide +kernel
theorem dX10_becomeDue_47 : decode cX10_becomeDue 47 = .ok (.iload 4, 2) := by decide +kernel
theorem dX10_becomeDue_49 : decode cX10_becomeDue 49 = .ok (.iastore, 1) := by decide +kernel
theorem dX10_becomeDue_50 : decode cX10_becomeDue 50 = .ok (.aload_n 0, 1) := by decide +kernel
theorem dX10_becomeDue_51 : decode cX10_becomeDue 51 = .ok (.getfield 107, 3) := by decide +kernel
theorem dX10_becomeDue_54 : decode cX10_becomeDue 54 = .ok (.iload_n 1, 1) := by decide +kernel
theorem dX10_becomeDue_55 : decode cX10_becomeDue 55 = .ok (.dup2, 1) := by decide +kernel
theorem dX10_becomeDue_56 : decode cX10_becomeDue 56 = .ok (.iaload, 1) := by decide +kernel
theorem dX10_becomeDue_57 : decode cX10_becomeDue 57 = .ok (.iconst 1, 1) := by decide +kernel
theorem dX10_becomeDue_58 : decode cX10_becomeDue 58 = .ok (.iadd, 1) := by decide +kernel
theorem dX10_becomeDue_59 : decode cX10_becomeDue 59 = .ok (.iastore, 1) := by decide +kernel
theorem dX10_becomeDue_60 : decode cX10_becomeDue 60 = .ok (.return_, 1) := by decide +kernel
theorem dX10_missing_0 : decode cX10_missing 0 = .ok (.iconst 0, 1) := by decide +kernel
theorem dX10_missing_1 : decode cX10_missing 1 = .ok (.istore_n 2, 1) := by decide +kernel
theorem dX10_missing_2 : decode cX10_missing 2 = .ok (.iconst 0, 1) := by decide +kernel
theorem dX10_missing_3 : decode cX10_missing 3 = .ok (.istore_n 3, 1) := by decide +kernel
theorem dX10_missing_4 : decode cX10_missing 4 = .ok (.iload_n 3, 1) := by decide +kernel
theorem dX10_missing_5 : decode cX10_missing 5 = .ok (.aload_n 0, 1) := by decide +kernel
theorem dX10_missing_6 : decode cX10_missing 6 = .ok (.getfield 50, 3) := by decide +kernel
theorem dX10_missing_9 : decode cX10_missing 9 = .ok (.iload_n 1, 1) := by decide +kernel
theorem dX10_missing_10 : decode cX10_missing 10 = .ok (.iaload, 1) := by decide +kernel
theorem dX10_missing_11 : decode cX10_missing 11 = .ok (.if_icmp .ge 31, 3) := by decide +kernel
theorem dX10_missing_14 : decode cX10_missing 14 = .ok (.iload_n 2, 1) := by decide +kernel
theorem dX10_missing_15 : decode cX10_missing 15 = .ok (.aload_n 0, 1) := by decide +kernel
theorem dX10_missing_16 : decode cX10_missing 16 = .ok (.getfield 101, 3) := by decide +kernel
theorem dX10_missing_19 : decode cX10_missing 19 = .ok (.bipush 60, 2) := by decide +kernel
theorem dX10_missing_21 : decode cX10_missing 21 = .ok (.iload_n 1, 1) := by decide +kernel
theorem dX10_missing_22 : decode cX10_missing 22 = .ok (.imul, 1) := by decide +kernel
theorem dX10_missing_23 : decode cX10_missing 23 = .ok (.iload_n 3, 1) := by decide +kernel
theorem dX10_missing_24 : decode cX10_missing 24 = .ok (.iadd, 1) := by decide +kernel
theorem dX10_missing_25 : decode cX10_missing 25 = .ok (.baload, 1) := by decide +kernel
theorem dX10_missing_26 : decode cX10_missing 26 = .ok (.ifCond .eq 7, 3) := by decide +kernel
theorem dX10_missing_29 : decode cX10_missing 29 = .ok (.iconst 0, 1) := by decide +kernel
theorem dX10_missing_30 : decode cX10_missing 30 = .ok (.goto 4, 3) := by decide +kernel
theorem dX10_missing_33 : decode cX10_missing 33 = .ok (.iconst 1, 1) := by decide +kernel
theorem dX10_missing_34 : decode cX10_missing 34 = .ok (.iadd, 1) := by decide +kernel
theorem dX10_missing_35 : decode cX10_missing 35 = .ok (.istore_n 2, 1) := by decide +kernel
theorem dX10_missing_36 : decode cX10_missing 36 = .ok (.iinc 3 1, 3) := by decide +kernel
theorem dX10_missing_39 : decode cX10_missing 39 = .ok (.goto (-35), 3) := by decide +kernel
theorem dX10_missing_42 : decode cX10_missing 42 = .ok (.iload_n 2, 1) := by decide +kernel
theorem dX10_missing_43 : decode cX10_missing 43 = .ok (.ireturn, 1) := by decide +kernel
theorem dX10_forget_0 : decode cX10_forget 0 = .ok (.aload_n 0, 1) := by decide +kernel
theorem dX10_forget_1 : decode cX10_forget 1 = .ok (.getfield 80, 3) := by decide +kernel
theorem dX10_forget_4 : decode cX10_forget 4 = .ok (.iload_n 1, 1) := by decide +kernel
theorem dX10_forget_5 : decode cX10_forget 5 = .ok (.iconst 0, 1) := by decide +kernel
theorem dX10_forget_6 : decode cX10_forget 6 = .ok (.iastore, 1) := by decide +kernel
theorem dX10_forget_7 : decode cX10_forget 7 = .ok (.iconst 0, 1) := by decide +kernel
theorem dX10_forget_8 : decode cX10_forget 8 = .ok (.istore_n 2, 1) := by decide +kernel
theorem dX10_forget_9 : decode cX10_forget 9 = .ok (.iload_n 2, 1) := by decide +kernel
theorem dX10_forget_10 : decode cX10_forget 10 = .ok (.bipush 60, 2) := by decide +kernel
theorem dX10_forget_12 : decode cX10_forget 12 = .ok (.if_icmp .ge 21, 3) := by decide +kernel
theorem dX10_forget_15 : decode cX10_forget 15 = .ok (.aload_n 0, 1) := by decide +kernel
theorem dX10_forget_16 : decode cX10_forget 16 = .ok (.getfield 101, 3) := by decide +kernel
theorem dX10_forget_19 : decode cX10_forget 19 = .ok (.bipush 60, 2) := by decide +kernel
theorem dX10_forget_21 : decode cX10_forget 21 = .ok (.iload_n 1, 1) := by decide +kernel
theorem dX10_forget_22 : decode cX10_forget 22 = .ok (.imul, 1) := by decide +kernel
theorem dX10_forget_23 : decode cX10_forget 23 = .ok (.iload_n 2, 1) := by decide +kernel
theorem dX10_forget_24 : decode cX10_forget 24 = .ok (.iadd, 1) := by decide +kernel
theorem dX10_forget_25 : decode cX10_forget 25 = .ok (.iconst 0, 1) := by decide +kernel
theorem dX10_forget_26 : decode cX10_forget 26 = .ok (.bastore, 1) := by decide +kernel
theorem dX10_forget_27 : decode cX10_forget 27 = .ok (.iinc 2 1, 3) := by decide +kernel
theorem dX10_forget_30 : decode cX10_forget 30 = .ok (.goto (-21), 3) := by decide +kernel
theorem dX10_forget_33 : decode cX10_forget 33 = .ok (.return_, 1) := by decide +kernel
theorem dX10_data_0 : decode cX10_data 0 = .ok (.aload_n 0, 1) := by decide +kernel
theorem dX10_data_1 : decode cX10_data 1 = .ok (.getfield 47, 3) := by decide +kernel
theorem dX10_data_4 : decode cX10_data 4 = .ok (.iload_n 1, 1) := by decide +kernel
theorem dX10_data_5 : decode cX10_data 5 = .ok (.iaload, 1) := by decide +kernel
theorem dX10_data_6 : decode cX10_data 6 = .ok (.istore_n 3, 1) := by decide +kernel
theorem dX10_data_7 : decode cX10_data 7 = .ok (.aload_n 0, 1) := by decide +kernel
theorem dX10_data_8 : decode cX10_data 8 = .ok (.getfield 80, 3) := by decide +kernel
theorem dX10_data_11 : decode cX10_data 11 = .ok (.iload_n 1, 1) := by decide +kernel
theorem dX10_data_12 : decode cX10_data 12 = .ok (.iaload, 1) := by decide +kernel
theorem dX10_data_13 : decode cX10_data 13 = .ok (.iconst 2, 1) := by decide +kernel
theorem dX10_data_14 : decode cX10_data 14 = .ok (.if_icmp .ne 12, 3) := by decide +kernel
theorem dX10_data_17 : decode cX10_data 17 = .ok (.aload_n 0, 1) := by decide +kernel
theorem dX10_data_18 : decode cX10_data 18 = .ok (.iload_n 3, 1) := by decide +kernel
theorem dX10_data_19 : decode cX10_data 19 = .ok (.iconst 3, 1) := by decide +kernel
theorem dX10_data_20 : decode cX10_data 20 = .ok (.iload_n 1, 1) := by decide +kernel
theorem dX10_data_21 : decode cX10_data 21 = .ok (.iconst 0, 1) := by decide +kernel
theorem dX10_data_22 : decode cX10_data 22 = .ok (.invokevirtual 169, 3) := by decide +kernel
theorem dX10_data_25 : decode cX10_data 25 = .ok (.return_, 1) := by decide +kernel
theorem dX10_data_26 : decode cX10_data 26 = .ok (.aload_n 0, 1) := by decide +kernel
theorem dX10_data_27 : decode cX10_data 27 = .ok (.getfield 80, 3) := by decide +kernel
theorem dX10_data_30 : decode cX10_data 30 = .ok (.iload_n 1, 1) := by decide +kernel
theorem dX10_data_31 : decode cX10_data 31 = .ok (.iaload, 1) := by decide +kernel
theorem dX10_data_32 : decode cX10_data 32 = .ok (.ifCond .ne 58, 3) := by decide +kernel
theorem dX10_data_35 : decode cX10_data 35 = .ok (.aload_n 0, 1) := by decide +kernel
theorem dX10_data_36 : decode cX10_data 36 = .ok (.getfield 80, 3) := by decide +kernel
theorem dX10_data_39 : decode cX10_data 39 = .ok (.iload_n 1, 1) := by decide +kernel
theorem dX10_data_40 : decode cX10_data 40 = .ok (.iconst 1, 1) := by decide +kernel
theorem dX10_data_41 : decode cX10_data 41 = .ok (.iastore, 1) := by decide +kernel
theorem dX10_data_42 : decode cX10_data 42 = .ok (.aload_n 0, 1) := by decide +kernel
theorem dX10_data_43 : decode cX10_data 43 = .ok (.getfield 104, 3) := by decide +kernel
theorem dX10_data_46 : decode cX10_data 46 = .ok (.iload_n 3, 1) := by decide +kernel
theorem dX10_data_47 : decode cX10_data 47 = .ok (.dup2, 1) := by decide +kernel
theorem dX10_data_48 : decode cX10_data 48 = .ok (.iaload, 1) := by decide +kernel
theorem dX10_data_49 : decode cX10_data 49 = .ok (.iconst 1, 1) := by decide +kernel
theorem dX10_data_50 : decode cX10_data 50 = .ok (.iadd, 1) := by decide +kernel
theorem dX10_data_51 : decode cX10_data 51 = .ok (.iastore, 1) := by decide +kernel
theorem dX10_data_52 : decode cX10_data 52 = .ok (.aload_n 0, 1) := by decide +kernel
theorem dX10_data_53 : decode cX10_data 53 = .ok (.getfield 95, 3) := by decide +kernel
theorem dX10_data_56 : decode cX10_data 56 = .ok (.iload_n 1, 1) := by decide +kernel
theorem dX10_data_57 : decode cX10_data 57 = .ok (.aload_n 0, 1) := by decide +kernel
theorem dX10_data_58 : decode cX10_data 58 = .ok (.getfield 104, 3) := by decide +kernel
theorem dX10_data_61 : decode cX10_data 61 = .ok (.iload_n 3, 1) := by decide +kernel
theorem dX10_data_62 : decode cX10_data 62 = .ok (.iaload, 1) := by decide +kernel
theorem dX10_data_63 : decode cX10_data 63 = .ok (.iastore, 1) := by decide +kernel
theorem dX10_data_64 : decode cX10_data 64 = .ok (.aload_n 0, 1) := by decide +kernel
theorem dX10_data_65 : decode cX10_data 65 = .ok (.getfield 86, 3) := by decide +kernel
theorem dX10_data_68 : decode cX10_data 68 = .ok (.iload_n 1, 1) := by decide +kernel
theorem dX10_data_69 : decode cX10_data 69 = .ok (.aload_n 0, 1) := by decide +kernel
theorem dX10_data_70 : decode cX10_data 70 = .ok (.getfield 50, 3) := by decide +kernel
theorem dX10_data_73 : decode cX10_data 73 = .ok (.iload_n 1, 1) := by decide +kernel
theorem dX10_data_74 : decode cX10_data 74 = .ok (.iaload, 1) := by decide +kernel
theorem dX10_data_75 : decode cX10_data 75 = .ok (.iconst 4, 1) := by decide +kernel
theorem dX10_data_76 : decode cX10_data 76 = .ok (.if_icmp .ge 12, 3) := by decide +kernel
theorem dX10_data_79 : decode cX10_data 79 = .ok (.aload_n 0, 1) := by decide +kernel
theorem dX10_data_80 : decode cX10_data 80 = .ok (.getfield 50, 3) := by decide +kernel
theorem dX10_data_83 : decode cX10_data 83 = .ok (.iload_n 1, 1) := by decide +kernel
theorem dX10_data_84 : decode cX10_data 84 = .ok (.iaload, 1) := by decide +kernel
theorem dX10_data_85 : decode cX10_data 85 = .ok (.goto 4, 3) := by decide +kernel
theorem dX10_data_88 : decode cX10_data 88 = .ok (.iconst 4, 1) := by decide +kernel
theorem dX10_data_89 : decode cX10_data 89 = .ok (.iastore, 1) := by decide +kernel
theorem dX10_data_90 : decode cX10_data 90 = .ok (.aload_n 0, 1) := by decide +kernel
theorem dX10_data_91 : decode cX10_data 91 = .ok (.getfield 89, 3) := by decide +kernel
theorem dX10_data_94 : decode cX10_data 94 = .ok (.iload_n 1, 1) := by decide +kernel
theorem dX10_data_95 : decode cX10_data 95 = .ok (.iconst 0, 1) := by decide +kernel
theorem dX10_data_96 : decode cX10_data 96 = .ok (.iastore, 1) := by decide +kernel
theorem dX10_data_97 : decode cX10_data 97 = .ok (.aload_n 0, 1) := by decide +kernel
theorem dX10_data_98 : decode cX10_data 98 = .ok (.getfield 92, 3) := by decide +kernel
theorem dX10_data_101 : decode cX10_data 101 = .ok (.iload_n 1, 1) := by decide +kernel
theorem dX10_data_102 : decode cX10_data 102 = .ok (.iconst 0, 1) := by decide +kernel
theorem dX10_data_103 : decode cX10_data 103 = .ok (.iastore, 1) := by decide +kernel
theorem dX10_data_104 : decode cX10_data 104 = .ok (.aload_n 0, 1) := by decide +kernel
theorem dX10_data_105 : decode cX10_data 105 = .ok (.getfield 101, 3) := by decide +kernel
theorem dX10_data_108 : decode cX10_data 108 = .ok (.bipush 60, 2) := by decide +kernel
theorem dX10_data_110 : decode cX10_data 110 = .ok (.iload_n 1, 1) := by decide +kernel
theorem dX10_data_111 : decode cX10_data 111 = .ok (.imul, 1) := by decide +kernel
theorem dX10_data_112 : decode cX10_data 112 = .ok (.iload_n 2, 1) := by decide +kernel
theorem dX10_data_113 : decode cX10_data 113 = .ok (.iadd, 1) := by decide +kernel
theorem dX10_data_114 : decode cX10_data 114 = .ok (.iconst 1, 1) := by decide +kernel
theorem dX10_data_115 : decode cX10_data 115 = .ok (.bastore, 1) := by decide +kernel
theorem dX10_data_116 : decode cX10_data 116 = .ok (.aload_n 0, 1) := by decide +kernel
theorem dX10_data_117 : decode cX10_data 117 = .ok (.iload_n 1, 1) := by decide +kernel
theorem dX10_data_118 : decode cX10_data 118 = .ok (.invokevirtual 173, 3) := by decide +kernel
theorem dX10_data_121 : decode cX10_data 121 = .ok (.ifCond .le 4, 3) := by decide +kernel
theorem dX10_data_124 : decode cX10_data 124 = .ok (.return_, 1) := by decide +kernel
theorem dX10_data_125 : decode cX10_data 125 = .ok (.aload_n 0, 1) := by decide +kernel
theorem dX10_data_126 : decode cX10_data 126 = .ok (.getfield 80, 3) := by decide +kernel
theorem dX10_data_129 : decode cX10_data 129 = .ok (.iload_n 1, 1) := by decide +kernel
theorem dX10_data_130 : decode cX10_data 130 = .ok (.iconst 2, 1) := by decide +kernel
theorem dX10_data_131 : decode cX10_data 131 = .ok (.iastore, 1) := by decide +kernel
theorem dX10_data_132 : decode cX10_data 132 = .ok (.aload_n 0, 1) := by decide +kernel
theorem dX10_data_133 : decode cX10_data 133 = .ok (.getfield 83, 3) := by decide +kernel
theorem dX10_data_136 : decode cX10_data 136 = .ok (.iload_n 1, 1) := by decide +kernel
theorem dX10_data_137 : decode cX10_data 137 = .ok (.dup2, 1) := by decide +kernel
theorem dX10_data_138 : decode cX10_data 138 = .ok (.iaload, 1) := by decide +kernel
theorem dX10_data_139 : decode cX10_data 139 = .ok (.iconst 1, 1) := by decide +kernel
theorem dX10_data_140 : decode cX10_data 140 = .ok (.iadd, 1) := by decide +kernel
theorem dX10_data_141 : decode cX10_data 141 = .ok (.iastore, 1) := by decide +kernel
theorem dX10_data_142 : decode cX10_data 142 = .ok (.aload_n 0, 1) := by decide +kernel
theorem dX10_data_143 : decode cX10_data 143 = .ok (.getfield 98, 3) := by decide +kernel
theorem dX10_data_146 : decode cX10_data 146 = .ok (.iload_n 1, 1) := by decide +kernel
theorem dX10_data_147 : decode cX10_data 147 = .ok (.aload_n 0, 1) := by decide +kernel
theorem dX10_data_148 : decode cX10_data 148 = .ok (.getfield 177, 3) := by decide +kernel
theorem dX10_data_151 : decode cX10_data 151 = .ok (.iastore, 1) := by decide +kernel
theorem dX10_data_152 : decode cX10_data 152 = .ok (.aload_n 0, 1) := by decide +kernel
theorem dX10_data_153 : decode cX10_data 153 = .ok (.getfield 131, 3) := by decide +kernel
theorem dX10_data_156 : decode cX10_data 156 = .ok (.bipush 64, 2) := by decide +kernel
theorem dX10_data_158 : decode cX10_data 158 = .ok (.iload_n 3, 1) := by decide +kernel
theorem dX10_data_159 : decode cX10_data 159 = .ok (.imul, 1) := by decide +kernel
theorem dX10_data_160 : decode cX10_data 160 = .ok (.aload_n 0, 1) := by decide +kernel
theorem dX10_data_161 : decode cX10_data 161 = .ok (.getfield 128, 3) := by decide +kernel
theorem dX10_data_164 : decode cX10_data 164 = .ok (.iload_n 3, 1) := by decide +kernel
theorem dX10_data_165 : decode cX10_data 165 = .ok (.iaload, 1) := by decide +kernel
theorem dX10_data_166 : decode cX10_data 166 = .ok (.bipush 64, 2) := by decide +kernel
theorem dX10_data_168 : decode cX10_data 168 = .ok (.irem, 1) := by decide +kernel
theorem dX10_data_169 : decode cX10_data 169 = .ok (.iadd, 1) := by decide +kernel
theorem dX10_data_170 : decode cX10_data 170 = .ok (.iload_n 1, 1) := by decide +kernel
theorem dX10_data_171 : decode cX10_data 171 = .ok (.iastore, 1) := by decide +kernel
theorem dX10_data_172 : decode cX10_data 172 = .ok (.aload_n 0, 1) := by decide +kernel
theorem dX10_data_173 : decode cX10_data 173 = .ok (.getfield 128, 3) := by decide +kernel
theorem dX10_data_176 : decode cX10_data 176 = .ok (.iload_n 3, 1) := by decide +kernel
theorem dX10_data_177 : decode cX10_data 177 = .ok (.dup2, 1) := by decide +kernel
theorem dX10_data_178 : decode cX10_data 178 = .ok (.iaload, 1) := by decide +kernel
theorem dX10_data_179 : decode cX10_data 179 = .ok (.iconst 1, 1) := by decide +kernel
theorem dX10_data_180 : decode cX10_data 180 = .ok (.iadd, 1) := by decide +kernel
theorem dX10_data_181 : decode cX10_data 181 = .ok (.iastore, 1) := by decide +kernel
theorem dX10_data_182 : decode cX10_data 182 = .ok (.aload_n 0, 1) := by decide +kernel
theorem dX10_data_183 : decode cX10_data 183 = .ok (.iload_n 3, 1) := by decide +kernel
theorem dX10_data_184 : decode cX10_data 184 = .ok (.iconst 3, 1) := by decide +kernel
theorem dX10_data_185 : decode cX10_data 185 = .ok (.iload_n 1, 1) := by decide +kernel
theorem dX10_data_186 : decode cX10_data 186 = .ok (.iconst 0, 1) := by decide +kernel
theorem dX10_data_187 : decode cX10_data 187 = .ok (.invokevirtual 169, 3) := by decide +kernel
theorem dX10_data_190 : decode cX10_data 190 = .ok (.return_, 1) := by decide +kernel
theorem dX10_receive_0 : decode cX10_receive 0 = .ok (.iconst 0, 1) := by decide +kernel
theorem dX10_receive_1 : decode cX10_receive 1 = .ok (.istore_n 2, 1) := by decide +kernel
theorem dX10_receive_2 : decode cX10_receive 2 = .ok (.iload_n 2, 1) := by decide +kernel
theorem dX10_receive_3 : decode cX10_receive 3 = .ok (.aload_n 0, 1) := by decide +kernel
theorem dX10_receive_4 : decode cX10_receive 4 = .ok (.getfield 138, 3) := by decide +kernel
theorem dX10_receive_7 : decode cX10_receive 7 = .ok (.if_icmp .ge 35, 3) := by decide +kernel
theorem dX10_receive_10 : decode cX10_receive 10 = .ok (.aload_n 0, 1) := by decide +kernel
theorem dX10_receive_11 : decode cX10_receive 11 = .ok (.getfield 47, 3) := by decide +kernel
theorem dX10_receive_14 : decode cX10_receive 14 = .ok (.iload_n 2, 1) := by decide +kernel
theorem dX10_receive_15 : decode cX10_receive 15 = .ok (.iaload, 1) := by decide +kernel
theorem dX10_receive_16 : decode cX10_receive 16 = .ok (.iload_n 1, 1) := by decide +kernel
theorem dX10_receive_17 : decode cX10_receive 17 = .ok (.if_icmp .ne 19, 3) := by decide +kernel
theorem dX10_receive_20 : decode cX10_receive 20 = .ok (.aload_n 0, 1) := by decide +kernel
theorem dX10_receive_21 : decode cX10_receive 21 = .ok (.getfield 80, 3) := by decide +kernel
theorem dX10_receive_24 : decode cX10_receive 24 = .ok (.iload_n 2, 1) := by decide +kernel
theorem dX10_receive_25 : decode cX10_receive 25 = .ok (.iaload, 1) := by decide +kernel
theorem dX10_receive_26 : decode cX10_receive 26 = .ok (.iconst 1, 1) := by decide +kernel
theorem dX10_receive_27 : decode cX10_receive 27 = .ok (.if_icmp .ne 9, 3) := by decide +kernel
theorem dX10_receive_30 : decode cX10_receive 30 = .ok (.aload_n 0, 1) := by decide +kernel
theorem dX10_receive_31 : decode cX10_receive 31 = .ok (.iload_n 1, 1) := by decide +kernel
theorem dX10_receive_32 : decode cX10_receive 32 = .ok (.iload_n 2, 1) := by decide +kernel
theorem dX10_receive_33 : decode cX10_receive 33 = .ok (.invokevirtual 180, 3) := by decide +kernel
theorem dX10_receive_36 : decode cX10_receive 36 = .ok (.iinc 2 1, 3) := by decide +kernel
theorem dX10_receive_39 : decode cX10_receive 39 = .ok (.goto (-37), 3) := by decide +kernel
theorem dX10_receive_42 : decode cX10_receive 42 = .ok (.iconst 0, 1) := by decide +kernel
theorem dX10_receive_43 : decode cX10_receive 43 = .ok (.istore_n 2, 1) := by decide +kernel
theorem dX10_receive_44 : decode cX10_receive 44 = .ok (.iload_n 2, 1) := by decide +kernel
theorem dX10_receive_45 : decode cX10_receive 45 = .ok (.aload_n 0, 1) := by decide +kernel
theorem dX10_receive_46 : decode cX10_receive 46 = .ok (.getfield 138, 3) := by decide +kernel
theorem dX10_receive_49 : decode cX10_receive 49 = .ok (.if_icmp .ge 60, 3) := by decide +kernel
theorem dX10_receive_52 : decode cX10_receive 52 = .ok (.aload_n 0, 1) := by decide +kernel
theorem dX10_receive_53 : decode cX10_receive 53 = .ok (.getfield 47, 3) := by decide +kernel
theorem dX10_receive_56 : decode cX10_receive 56 = .ok (.iload_n 2, 1) := by decide +kernel
theorem dX10_receive_57 : decode cX10_receive 57 = .ok (.iaload, 1) := by decide +kernel
theorem dX10_receive_58 : decode cX10_receive 58 = .ok (.iload_n 1, 1) := by decide +kernel
theorem dX10_receive_59 : decode cX10_receive 59 = .ok (.if_icmp .ne 44, 3) := by decide +kernel
theorem dX10_receive_62 : decode cX10_receive 62 = .ok (.aload_n 0, 1) := by decide +kernel
theorem dX10_receive_63 : decode cX10_receive 63 = .ok (.getfield 80, 3) := by decide +kernel
theorem dX10_receive_66 : decode cX10_receive 66 = .ok (.iload_n 2, 1) := by decide +kernel
theorem dX10_receive_67 : decode cX10_receive 67 = .ok (.iaload, 1) := by decide +kernel
theorem dX10_receive_68 : decode cX10_receive 68 = .ok (.iconst 2, 1) := by decide +kernel
theorem dX10_receive_69 : decode cX10_receive 69 = .ok (.if_icmp .ne 34, 3) := by decide +kernel
theorem dX10_receive_72 : decode cX10_receive 72 = .ok (.aload_n 0, 1) := by decide +kernel
theorem dX10_receive_73 : decode cX10_receive 73 = .ok (.getfield 53, 3) := by decide +kernel
theorem dX10_receive_76 : decode cX10_receive 76 = .ok (.iload_n 2, 1) := by decide +kernel
theorem dX10_receive_77 : decode cX10_receive 77 = .ok (.iaload, 1) := by decide +kernel
theorem dX10_receive_78 : decode cX10_receive 78 = .ok (.iconst 1, 1) := by decide +kernel
theorem dX10_receive_79 : decode cX10_receive 79 = .ok (.if_icmp .ne 24, 3) := by decide +kernel
theorem dX10_receive_82 : decode cX10_receive 82 = .ok (.aload_n 0, 1) := by decide +kernel
theorem dX10_receive_83 : decode cX10_receive 83 = .ok (.getfield 177, 3) := by decide +kernel
theorem dX10_receive_86 : decode cX10_receive 86 = .ok (.aload_n 0, 1) := by decide +kernel
theorem dX10_receive_87 : decode cX10_receive 87 = .ok (.getfield 98, 3) := by decide +kernel
theorem dX10_receive_90 : decode cX10_receive 90 = .ok (.iload_n 2, 1) := by decide +kernel
theorem dX10_receive_91 : decode cX10_receive 91 = .ok (.iaload, 1) := by decide +kernel
theorem dX10_receive_92 : decode cX10_receive 92 = .ok (.isub, 1) := by decide +kernel
theorem dX10_receive_93 : decode cX10_receive 93 = .ok (.bipush 30, 2) := by decide +kernel
theorem dX10_receive_95 : decode cX10_receive 95 = .ok (.if_icmp .lt 8, 3) := by decide +kernel
theorem dX10_receive_98 : decode cX10_receive 98 = .ok (.aload_n 0, 1) := by decide +kernel
theorem dX10_receive_99 : decode cX10_receive 99 = .ok (.iload_n 2, 1) := by decide +kernel
theorem dX10_receive_100 : decode cX10_receive 100 = .ok (.invokevirtual 183, 3) := by decide +kernel
theorem dX10_receive_103 : decode cX10_receive 103 = .ok (.iinc 2 1, 3) := by decide +kernel
theorem dX10_receive_106 : decode cX10_receive 106 = .ok (.goto (-62), 3) := by decide +kernel
theorem dX10_receive_109 : decode cX10_receive 109 = .ok (.aload_n 0, 1) := by decide +kernel
theorem dX10_receive_110 : decode cX10_receive 110 = .ok (.getfield 125, 3) := by decide +kernel
theorem dX10_receive_113 : decode cX10_receive 113 = .ok (.iload_n 1, 1) := by decide +kernel
theorem dX10_receive_114 : decode cX10_receive 114 = .ok (.iconst 0, 1) := by decide +kernel
theorem dX10_receive_115 : decode cX10_receive 115 = .ok (.iastore, 1) := by decide +kernel
theorem dX10_receive_116 : decode cX10_receive 116 = .ok (.iconst 0, 1) := by decide +kernel
theorem dX10_receive_117 : decode cX10_receive 117 = .ok (.istore_n 2, 1) := by decide +kernel
theorem dX10_receive_118 : decode cX10_receive 118 = .ok (.iload_n 2, 1) := by decide +kernel
theorem dX10_receive_119 : decode cX10_receive 119 = .ok (.iconst 3, 1) := by decide +kernel
theorem dX10_receive_120 : decode cX10_receive 120 = .ok (.if_icmp .ge 187, 3) := by decide +kernel
theorem dX10_receive_123 : decode cX10_receive 123 = .ok (.iconst (-1), 1) := by decide +kernel
theorem dX10_receive_124 : decode cX10_receive 124 = .ok (.istore_n 3, 1) := by decide +kernel
theorem dX10_receive_125 : decode cX10_receive 125 = .ok (.iconst 0, 1) := by decide +kernel
theorem dX10_receive_126 : decode cX10_receive 126 = .ok (.istore 4, 2) := by decide +kernel
theorem dX10_receive_128 : decode cX10_receive 128 = .ok (.iload 4, 2) := by decide +kernel
theorem dX10_receive_130 : decode cX10_receive 130 = .ok (.aload_n 0, 1) := by decide +kernel
theorem dX10_receive_131 : decode cX10_receive 131 = .ok (.getfield 138, 3) := by decide +kernel
theorem dX10_receive_134 : decode cX10_receive 134 = .ok (.if_icmp .ge 59, 3) := by decide +kernel
theorem dX10_receive_137 : decode cX10_receive 137 = .ok (.aload_n 0, 1) := by decide +kernel
theorem dX10_receive_138 : decode cX10_receive 138 = .ok (.getfield 47, 3) := by decide +kernel
theorem dX10_receive_141 : decode cX10_receive 141 = .ok (.iload 4, 2) := by decide +kernel
theorem dX10_receive_143 : decode cX10_receive 143 = .ok (.iaload, 1) := by decide +kernel
theorem dX10_receive_144 : decode cX10_receive 144 = .ok (.iload_n 1, 1) := by decide +kernel
theorem dX10_receive_145 : decode cX10_receive 145 = .ok (.if_icmp .ne 42, 3) := by decide +kernel
theorem dX10_receive_148 : decode cX10_receive 148 = .ok (.aload_n 0, 1) := by decide +kernel
theorem dX10_receive_149 : decode cX10_receive 149 = .ok (.getfield 80, 3) := by decide +kernel
theorem dX10_receive_152 : decode cX10_receive 152 = .ok (.iload 4, 2) := by decide +kernel
theorem dX10_receive_154 : decode cX10_receive 154 = .ok (.iaload, 1) := by decide +kernel
theorem dX10_receive_155 : decode cX10_receive 155 = .ok (.iconst 1, 1) := by decide +kernel
theorem dX10_receive_156 : decode cX10_receive 156 = .ok (.if_icmp .ne 31, 3) := by decide +kernel
theorem dX10_receive_159 : decode cX10_receive 159 = .ok (.aload_n 0, 1) := by decide +kernel
theorem dX10_receive_160 : decode cX10_receive 160 = .ok (.iload_n 1, 1) := by decide +kernel
theorem dX10_receive_161 : decode cX10_receive 161 = .ok (.iload 4, 2) := by decide +kernel
theorem dX10_receive_163 : decode cX10_receive 163 = .ok (.invokevirtual 187, 3) := by decide +kernel
theorem dX10_receive_166 : decode cX10_receive 166 = .ok (.ifCond .ne 21, 3) := by decide +kernel
theorem dX10_receive_169 : decode cX10_receive 169 = .ok (.iload_n 3, 1) := by decide +kernel
theorem dX10_receive_170 : decode cX10_receive 170 = .ok (.iconst (-1), 1) := by decide +kernel
theorem dX10_receive_171 : decode cX10_receive 171 = .ok (.if_icmp .eq 13, 3) := by decide +kernel
theorem dX10_receive_174 : decode cX10_receive 174 = .ok (.aload_n 0, 1) := by decide +kernel
theorem dX10_receive_175 : decode cX10_receive 175 = .ok (.iload 4, 2) := by decide +kernel
theorem dX10_receive_177 : decode cX10_receive 177 = .ok (.iload_n 3, 1) := by decide +kernel
theorem dX10_receive_178 : decode cX10_receive 178 = .ok (.invokevirtual 191, 3) := by decide +kernel
theorem dX10_receive_181 : decode cX10_receive 181 = .ok (.ifCond .eq 6, 3) := by decide +kernel
theorem dX10_receive_184 : decode cX10_receive 184 = .ok (.iload 4, 2) := by decide +kernel
theorem dX10_receive_186 : decode cX10_receive 186 = .ok (.istore_n 3, 1) := by decide +kernel
theorem dX10_receive_187 : decode cX10_receive 187 = .ok (.iinc 4 1, 3) := by decide +kernel
theorem dX10_receive_190 : decode cX10_receive 190 = .ok (.goto (-62), 3) := by decide +kernel
theorem dX10_receive_193 : decode cX10_receive 193 = .ok (.iload_n 3, 1) := by decide +kernel
theorem dX10_receive_194 : decode cX10_receive 194 = .ok (.iconst (-1), 1) := by decide +kernel
theorem dX10_receive_195 : decode cX10_receive 195 = .ok (.if_icmp .ne 4, 3) := by decide +kernel
theorem dX10_receive_198 : decode cX10_receive 198 = .ok (.return_, 1) := by decide +kernel
theorem dX10_receive_199 : decode cX10_receive 199 = .ok (.aload_n 0, 1) := by decide +kernel
theorem dX10_receive_200 : decode cX10_receive 200 = .ok (.getfield 122, 3) := by decide +kernel
theorem dX10_receive_203 : decode cX10_receive 203 = .ok (.iconst 3, 1) := by decide +kernel
theorem dX10_receive_204 : decode cX10_receive 204 = .ok (.iload_n 1, 1) := by decide +kernel
theorem dX10_receive_205 : decode cX10_receive 205 = .ok (.imul, 1) := by decide +kernel
theorem dX10_receive_206 : decode cX10_receive 206 = .ok (.iload_n 2, 1) := by decide +kernel
theorem dX10_receive_207 : decode cX10_receive 207 = .ok (.iadd, 1) := by decide +kernel
theorem dX10_receive_208 : decode cX10_receive 208 = .ok (.iload_n 3, 1) := by decide +kernel
theorem dX10_receive_209 : decode cX10_receive 209 = .ok (.iastore, 1) := by decide +kernel
theorem dX10_receive_210 : decode cX10_receive 210 = .ok (.aload_n 0, 1) := by decide +kernel
theorem dX10_receive_211 : decode cX10_receive 211 = .ok (.getfield 125, 3) := by decide +kernel
theorem dX10_receive_214 : decode cX10_receive 214 = .ok (.iload_n 1, 1) := by decide +kernel
theorem dX10_receive_215 : decode cX10_receive 215 = .ok (.dup2, 1) := by decide +kernel
theorem dX10_receive_216 : decode cX10_receive 216 = .ok (.iaload, 1) := by decide +kernel
theorem dX10_receive_217 : decode cX10_receive 217 = .ok (.iconst 1, 1) := by decide +kernel
theorem dX10_receive_218 : decode cX10_receive 218 = .ok (.iadd, 1) := by decide +kernel
theorem dX10_receive_219 : decode cX10_receive 219 = .ok (.iastore, 1) := by decide +kernel
theorem dX10_receive_220 : decode cX10_receive 220 = .ok (.aload_n 0, 1) := by decide +kernel
theorem dX10_receive_221 : decode cX10_receive 221 = .ok (.getfield 50, 3) := by decide +kernel
theorem dX10_receive_224 : decode cX10_receive 224 = .ok (.iload_n 3, 1) := by decide +kernel
theorem dX10_receive_225 : decode cX10_receive 225 = .ok (.iaload, 1) := by decide +kernel
theorem dX10_receive_226 : decode cX10_receive 226 = .ok (.aload_n 0, 1) := by decide +kernel
theorem dX10_receive_227 : decode cX10_receive 227 = .ok (.iload_n 3, 1) := by decide +kernel
theorem dX10_receive_228 : decode cX10_receive 228 = .ok (.invokevirtual 173, 3) := by decide +kernel
theorem dX10_receive_231 : decode cX10_receive 231 = .ok (.isub, 1) := by decide +kernel
theorem dX10_receive_232 : decode cX10_receive 232 = .ok (.istore 4, 2) := by decide +kernel
theorem dX10_receive_234 : decode cX10_receive 234 = .ok (.iload 4, 2) := by decide +kernel
theorem dX10_receive_236 : decode cX10_receive 236 = .ok (.bipush 6, 2) := by decide +kernel
theorem dX10_receive_238 : decode cX10_receive 238 = .ok (.iadd, 1) := by decide +kernel
theorem dX10_receive_239 : decode cX10_receive 239 = .ok (.aload_n 0, 1) := by decide +kernel
theorem dX10_receive_240 : decode cX10_receive 240 = .ok (.getfield 50, 3) := by decide +kernel
theorem dX10_receive_243 : decode cX10_receive 243 = .ok (.iload_n 3, 1) := by decide +kernel
theorem dX10_receive_244 : decode cX10_receive 244 = .ok (.iaload, 1) := by decide +kernel
theorem dX10_receive_245 : decode cX10_receive 245 = .ok (.if_icmp .ge 11, 3) := by decide +kernel
theorem dX10_receive_248 : decode cX10_receive 248 = .ok (.iload 4, 2) := by decide +kernel
theorem dX10_receive_250 : decode cX10_receive 250 = .ok (.bipush 6, 2) := by decide +kernel
theorem dX10_receive_252 : decode cX10_receive 252 = .ok (.iadd, 1) := by decide +kernel
theorem dX10_receive_253 : decode cX10_receive 253 = .ok (.goto 9, 3) := by decide +kernel
theorem dX10_receive_256 : decode cX10_receive 256 = .ok (.aload_n 0, 1) := by decide +kernel
theorem dX10_receive_257 : decode cX10_receive 257 = .ok (.getfield 50, 3) := by decide +kernel
theorem dX10_receive_260 : decode cX10_receive 260 = .ok (.iload_n 3, 1) := by decide +kernel
theorem dX10_receive_261 : decode cX10_receive 261 = .ok (.iaload, 1) := by decide +kernel
theorem dX10_receive_262 : decode cX10_receive 262 = .ok (.istore 5, 2) := by decide +kernel
theorem dX10_receive_264 : decode cX10_receive 264 = .ok (.iload 5, 2) := by decide +kernel
theorem dX10_receive_266 : decode cX10_receive 266 = .ok (.aload_n 0, 1) := by decide +kernel
theorem dX10_receive_267 : decode cX10_receive 267 = .ok (.getfield 86, 3) := by decide +kernel
theorem dX10_receive_270 : decode cX10_receive 270 = .ok (.iload_n 3, 1) := by decide +kernel
theorem dX10_receive_271 : decode cX10_receive 271 = .ok (.iaload, 1) := by decide +kernel
theorem dX10_receive_272 : decode cX10_receive 272 = .ok (.if_icmp .gt 6, 3) := by decide +kernel
theorem dX10_receive_275 : decode cX10_receive 275 = .ok (.goto 26, 3) := by decide +kernel
theorem dX10_receive_278 : decode cX10_receive 278 = .ok (.aload_n 0, 1) := by decide +kernel
theorem dX10_receive_279 : decode cX10_receive 279 = .ok (.getfield 86, 3) := by decide +kernel
theorem dX10_receive_282 : decode cX10_receive 282 = .ok (.iload_n 3, 1) := by decide +kernel
theorem dX10_receive_283 : decode cX10_receive 283 = .ok (.iload 5, 2) := by decide +kernel
theorem dX10_receive_285 : decode cX10_receive 285 = .ok (.iastore, 1) := by decide +kernel
theorem dX10_receive_286 : decode cX10_receive 286 = .ok (.aload_n 0, 1) := by decide +kernel
theorem dX10_receive_287 : decode cX10_receive 287 = .ok (.iload_n 1, 1) := by decide +kernel
theorem dX10_receive_288 : decode cX10_receive 288 = .ok (.iconst 1, 1) := by decide +kernel
theorem dX10_receive_289 : decode cX10_receive 289 = .ok (.iload_n 3, 1) := by decide +kernel
theorem dX10_receive_290 : decode cX10_receive 290 = .ok (.iconst 4, 1) := by decide +kernel
theorem dX10_receive_291 : decode cX10_receive 291 = .ok (.iload 5, 2) := by decide +kernel
theorem dX10_receive_293 : decode cX10_receive 293 = .ok (.imul, 1) := by decide +kernel
theorem dX10_receive_294 : decode cX10_receive 294 = .ok (.iconst 1, 1) := by decide +kernel
theorem dX10_receive_295 : decode cX10_receive 295 = .ok (.iadd, 1) := by decide +kernel
theorem dX10_receive_296 : decode cX10_receive 296 = .ok (.iload_n 2, 1) := by decide +kernel
theorem dX10_receive_297 : decode cX10_receive 297 = .ok (.iadd, 1) := by decide +kernel
theorem dX10_receive_298 : decode cX10_receive 298 = .ok (.invokevirtual 169, 3) := by decide +kernel
theorem dX10_receive_301 : decode cX10_receive 301 = .ok (.iinc 2 1, 3) := by decide +kernel
theorem dX10_receive_304 : decode cX10_receive 304 = .ok (.goto (-186), 3) := by decide +kernel
theorem dX10_receive_307 : decode cX10_receive 307 = .ok (.return_, 1) := by decide +kernel
theorem dX10_listen_0 : decode cX10_listen 0 = .ok (.aload_n 0, 1) := by decide +kernel
theorem dX10_listen_1 : decode cX10_listen 1 = .ok (.getfield 89, 3) := by decide +kernel
theorem dX10_listen_4 : decode cX10_listen 4 = .ok (.iload_n 2, 1) := by decide +kernel
theorem dX10_listen_5 : decode cX10_listen 5 = .ok (.dup2, 1) := by decide +kernel
theorem dX10_listen_6 : decode cX10_listen 6 = .ok (.iaload, 1) := by decide +kernel
theorem dX10_listen_7 : decode cX10_listen 7 = .ok (.iconst 1, 1) := by decide +kernel
theorem dX10_listen_8 : decode cX10_listen 8 = .ok (.iadd, 1) := by decide +kernel
theorem dX10_listen_9 : decode cX10_listen 9 = .ok (.iastore, 1) := by decide +kernel
theorem dX10_listen_10 : decode cX10_listen 10 = .ok (.aload_n 0, 1) := by decide +kernel
theorem dX10_listen_11 : decode cX10_listen 11 = .ok (.getfield 89, 3) := by decide +kernel
theorem dX10_listen_14 : decode cX10_listen 14 = .ok (.iload_n 2, 1) := by decide +kernel
theorem dX10_listen_15 : decode cX10_listen 15 = .ok (.iaload, 1) := by decide +kernel
theorem dX10_listen_16 : decode cX10_listen 16 = .ok (.bipush 16, 2) := by decide +kernel
theorem dX10_listen_18 : decode cX10_listen 18 = .ok (.if_icmp .ge 4, 3) := by decide +kernel
theorem dX10_listen_21 : decode cX10_listen 21 = .ok (.return_, 1) := by decide +kernel
theorem dX10_listen_22 : decode cX10_listen 22 = .ok (.aload_n 0, 1) := by decide +kernel
theorem dX10_listen_23 : decode cX10_listen 23 = .ok (.getfield 89, 3) := by decide +kernel
theorem dX10_listen_26 : decode cX10_listen 26 = .ok (.iload_n 2, 1) := by decide +kernel
theorem dX10_listen_27 : decode cX10_listen 27 = .ok (.iconst 0, 1) := by decide +kernel
theorem dX10_listen_28 : decode cX10_listen 28 = .ok (.iastore, 1) := by decide +kernel
theorem dX10_listen_29 : decode cX10_listen 29 = .ok (.aload_n 0, 1) := by decide +kernel
theorem dX10_listen_30 : decode cX10_listen 30 = .ok (.getfield 92, 3) := by decide +kernel
theorem dX10_listen_33 : decode cX10_listen 33 = .ok (.iload_n 2, 1) := by decide +kernel
theorem dX10_listen_34 : decode cX10_listen 34 = .ok (.dup2, 1) := by decide +kernel
theorem dX10_listen_35 : decode cX10_listen 35 = .ok (.iaload, 1) := by decide +kernel
theorem dX10_listen_36 : decode cX10_listen 36 = .ok (.iconst 1, 1) := by decide +kernel
theorem dX10_listen_37 : decode cX10_listen 37 = .ok (.iadd, 1) := by decide +kernel
theorem dX10_listen_38 : decode cX10_listen 38 = .ok (.iastore, 1) := by decide +kernel
theorem dX10_listen_39 : decode cX10_listen 39 = .ok (.aload_n 0, 1) := by decide +kernel
theorem dX10_listen_40 : decode cX10_listen 40 = .ok (.getfield 92, 3) := by decide +kernel
theorem dX10_listen_43 : decode cX10_listen 43 = .ok (.iload_n 2, 1) := by decide +kernel
theorem dX10_listen_44 : decode cX10_listen 44 = .ok (.iaload, 1) := by decide +kernel
theorem dX10_listen_45 : decode cX10_listen 45 = .ok (.bipush 8, 2) := by decide +kernel
theorem dX10_listen_47 : decode cX10_listen 47 = .ok (.if_icmp .ne 9, 3) := by decide +kernel
theorem dX10_listen_50 : decode cX10_listen 50 = .ok (.aload_n 0, 1) := by decide +kernel
theorem dX10_listen_51 : decode cX10_listen 51 = .ok (.iload_n 2, 1) := by decide +kernel
theorem dX10_listen_52 : decode cX10_listen 52 = .ok (.invokevirtual 183, 3) := by decide +kernel
theorem dX10_listen_55 : decode cX10_listen 55 = .ok (.return_, 1) := by decide +kernel
theorem dX10_listen_56 : decode cX10_listen 56 = .ok (.iconst 0, 1) := by decide +kernel
theorem dX10_listen_57 : decode cX10_listen 57 = .ok (.istore_n 3, 1) := by decide +kernel
theorem dX10_listen_58 : decode cX10_listen 58 = .ok (.aload_n 0, 1) := by decide +kernel
theorem dX10_listen_59 : decode cX10_listen 59 = .ok (.getfield 101, 3) := by decide +kernel
theorem dX10_listen_62 : decode cX10_listen 62 = .ok (.bipush 60, 2) := by decide +kernel
theorem dX10_listen_64 : decode cX10_listen 64 = .ok (.iload_n 2, 1) := by decide +kernel
theorem dX10_listen_65 : decode cX10_listen 65 = .ok (.imul, 1) := by decide +kernel
theorem dX10_listen_66 : decode cX10_listen 66 = .ok (.iload_n 3, 1) := by decide +kernel
theorem dX10_listen_67 : decode cX10_listen 67 = .ok (.iadd, 1) := by decide +kernel
theorem dX10_listen_68 : decode cX10_listen 68 = .ok (.baload, 1) := by decide +kernel
theorem dX10_listen_69 : decode cX10_listen 69 = .ok (.ifCond .eq 9, 3) := by decide +kernel
theorem dX10_listen_72 : decode cX10_listen 72 = .ok (.iinc 3 1, 3) := by decide +kernel
theorem dX10_listen_75 : decode cX10_listen 75 = .ok (.goto (-17), 3) := by decide +kernel
theorem dX10_listen_78 : decode cX10_listen 78 = .ok (.aload_n 0, 1) := by decide +kernel
theorem dX10_listen_79 : decode cX10_listen 79 = .ok (.iload_n 1, 1) := by decide +kernel
theorem dX10_listen_80 : decode cX10_listen 80 = .ok (.iconst 2, 1) := by decide +kernel
theorem dX10_listen_81 : decode cX10_listen 81 = .ok (.iload_n 2, 1) := by decide +kernel
theorem dX10_listen_82 : decode cX10_listen 82 = .ok (.bipush 64, 2) := by decide +kernel
theorem dX10_listen_84 : decode cX10_listen 84 = .ok (.aload_n 0, 1) := by decide +kernel
theorem dX10_listen_85 : decode cX10_listen 85 = .ok (.getfield 86, 3) := by decide +kernel
theorem dX10_listen_88 : decode cX10_listen 88 = .ok (.iload_n 2, 1) := by decide +kernel
theorem dX10_listen_89 : decode cX10_listen 89 = .ok (.iaload, 1) := by decide +kernel
theorem dX10_listen_90 : decode cX10_listen 90 = .ok (.imul, 1) := by decide +kernel
theorem dX10_listen_91 : decode cX10_listen 91 = .ok (.iload_n 3, 1) := by decide +kernel
theorem dX10_listen_92 : decode cX10_listen 92 = .ok (.iadd, 1) := by decide +kernel
theorem dX10_listen_93 : decode cX10_listen 93 = .ok (.invokevirtual 169, 3) := by decide +kernel
theorem dX10_listen_96 : decode cX10_listen 96 = .ok (.return_, 1) := by decide +kernel
theorem dX10_isChosen_0 : decode cX10_isChosen 0 = .ok (.iconst 0, 1) := by decide +kernel
theorem dX10_isChosen_1 : decode cX10_isChosen 1 = .ok (.istore_n 3, 1) := by decide +kernel
theorem dX10_isChosen_2 : decode cX10_isChosen 2 = .ok (.iload_n 3, 1) := by decide +kernel
theorem dX10_isChosen_3 : decode cX10_isChosen 3 = .ok (.aload_n 0, 1) := by decide +kernel
theorem dX10_isChosen_4 : decode cX10_isChosen 4 = .ok (.getfield 125, 3) := by decide +kernel
theorem dX10_isChosen_7 : decode cX10_isChosen 7 = .ok (.iload_n 1, 1) := by decide +kernel
theorem dX10_isChosen_8 : decode cX10_isChosen 8 = .ok (.iaload, 1) := by decide +kernel
theorem dX10_isChosen_9 : decode cX10_isChosen 9 = .ok (.if_icmp .ge 25, 3) := by decide +kernel
theorem dX10_isChosen_12 : decode cX10_isChosen 12 = .ok (.aload_n 0, 1) := by decide +kernel
end
section
theorem dX10_isChosen_13 : decode cX10_isChosen 13 = .ok (.getfield 122, 3) := by decide +kernel
theorem dX10_isChosen_16 : decode cX10_isChosen 16 = .ok (.iconst 3, 1) := by decide +kernel
theorem dX10_isChosen_17 : decode cX10_isChosen 17 = .ok (.iload_n 1, 1) := by decide +kernel
theorem dX10_isChosen_18 : decode cX10_isChosen 18 = .ok (.imul, 1) := by decide +kernel
theorem dX10_isChosen_19 : decode cX10_isChosen 19 = .ok (.iload_n 3, 1) := by decide +kernel
theorem dX10_isChosen_20 : decode cX10_isChosen 20 = .ok (.iadd, 1) := by decide +kernel
theorem dX10_isChosen_21 : decode cX10_isChosen 21 = .ok (.iaload, 1) := by decide +kernel
theorem dX10_isChosen_22 : decode cX10_isChosen 22 = .ok (.iload_n 2, 1) := by decide +kernel
theorem dX10_isChosen_23 : decode cX10_isChosen 23 = .ok (.if_icmp .ne 5, 3) := by decide +kernel
theorem dX10_isChosen_26 : decode cX10_isChosen 26 = .ok (.iconst 1, 1) := by decide +kernel
theorem dX10_isChosen_27 : decode cX10_isChosen 27 = .ok (.ireturn, 1) := by decide +kernel
theorem dX10_isChosen_28 : decode cX10_isChosen 28 = .ok (.iinc 3 1, 3) := by decide +kernel
theorem dX10_isChosen_31 : decode cX10_isChosen 31 = .ok (.goto (-29), 3) := by decide +kernel
theorem dX10_isChosen_34 : decode cX10_isChosen 34 = .ok (.iconst 0, 1) := by decide +kernel
theorem dX10_isChosen_35 : decode cX10_isChosen 35 = .ok (.ireturn, 1) := by decide +kernel
theorem dX10_isAhead_0 : decode cX10_isAhead 0 = .ok (.aload_n 0, 1) := by decide +kernel
theorem dX10_isAhead_1 : decode cX10_isAhead 1 = .ok (.iload_n 1, 1) := by decide +kernel
theorem dX10_isAhead_2 : decode cX10_isAhead 2 = .ok (.invokevirtual 173, 3) := by decide +kernel
theorem dX10_isAhead_5 : decode cX10_isAhead 5 = .ok (.istore_n 3, 1) := by decide +kernel
theorem dX10_isAhead_6 : decode cX10_isAhead 6 = .ok (.aload_n 0, 1) := by decide +kernel
theorem dX10_isAhead_7 : decode cX10_isAhead 7 = .ok (.iload_n 2, 1) := by decide +kernel
theorem dX10_isAhead_8 : decode cX10_isAhead 8 = .ok (.invokevirtual 173, 3) := by decide +kernel
theorem dX10_isAhead_11 : decode cX10_isAhead 11 = .ok (.istore 4, 2) := by decide +kernel
theorem dX10_isAhead_13 : decode cX10_isAhead 13 = .ok (.iload_n 3, 1) := by decide +kernel
theorem dX10_isAhead_14 : decode cX10_isAhead 14 = .ok (.iload 4, 2) := by decide +kernel
theorem dX10_isAhead_16 : decode cX10_isAhead 16 = .ok (.if_icmp .eq 17, 3) := by decide +kernel
theorem dX10_isAhead_19 : decode cX10_isAhead 19 = .ok (.iload_n 3, 1) := by decide +kernel
theorem dX10_isAhead_20 : decode cX10_isAhead 20 = .ok (.iload 4, 2) := by decide +kernel
theorem dX10_isAhead_22 : decode cX10_isAhead 22 = .ok (.if_icmp .ge 7, 3) := by decide +kernel
theorem dX10_isAhead_25 : decode cX10_isAhead 25 = .ok (.iconst 1, 1) := by decide +kernel
theorem dX10_isAhead_26 : decode cX10_isAhead 26 = .ok (.goto 27, 3) := by decide +kernel
theorem dX10_isAhead_29 : decode cX10_isAhead 29 = .ok (.iconst 0, 1) := by decide +kernel
theorem dX10_isAhead_30 : decode cX10_isAhead 30 = .ok (.goto 23, 3) := by decide +kernel
theorem dX10_isAhead_33 : decode cX10_isAhead 33 = .ok (.aload_n 0, 1) := by decide +kernel
theorem dX10_isAhead_34 : decode cX10_isAhead 34 = .ok (.getfield 95, 3) := by decide +kernel
theorem dX10_isAhead_37 : decode cX10_isAhead 37 = .ok (.iload_n 1, 1) := by decide +kernel
theorem dX10_isAhead_38 : decode cX10_isAhead 38 = .ok (.iaload, 1) := by decide +kernel
theorem dX10_isAhead_39 : decode cX10_isAhead 39 = .ok (.aload_n 0, 1) := by decide +kernel
theorem dX10_isAhead_40 : decode cX10_isAhead 40 = .ok (.getfield 95, 3) := by decide +kernel
theorem dX10_isAhead_43 : decode cX10_isAhead 43 = .ok (.iload_n 2, 1) := by decide +kernel
theorem dX10_isAhead_44 : decode cX10_isAhead 44 = .ok (.iaload, 1) := by decide +kernel
theorem dX10_isAhead_45 : decode cX10_isAhead 45 = .ok (.if_icmp .ge 7, 3) := by decide +kernel
theorem dX10_isAhead_48 : decode cX10_isAhead 48 = .ok (.iconst 1, 1) := by decide +kernel
theorem dX10_isAhead_49 : decode cX10_isAhead 49 = .ok (.goto 4, 3) := by decide +kernel
theorem dX10_isAhead_52 : decode cX10_isAhead 52 = .ok (.iconst 0, 1) := by decide +kernel
theorem dX10_isAhead_53 : decode cX10_isAhead 53 = .ok (.ireturn, 1) := by decide +kernel
theorem dX10_answer_0 : decode cX10_answer 0 = .ok (.aload_n 0, 1) := by decide +kernel
theorem dX10_answer_1 : decode cX10_answer 1 = .ok (.getfield 56, 3) := by decide +kernel
theorem dX10_answer_4 : decode cX10_answer 4 = .ok (.iload_n 2, 1) := by decide +kernel
theorem dX10_answer_5 : decode cX10_answer 5 = .ok (.iaload, 1) := by decide +kernel
theorem dX10_answer_6 : decode cX10_answer 6 = .ok (.ifCond .eq 4, 3) := by decide +kernel
theorem dX10_answer_9 : decode cX10_answer 9 = .ok (.return_, 1) := by decide +kernel
theorem dX10_answer_10 : decode cX10_answer 10 = .ok (.aload_n 0, 1) := by decide +kernel
theorem dX10_answer_11 : decode cX10_answer 11 = .ok (.getfield 68, 3) := by decide +kernel
theorem dX10_answer_14 : decode cX10_answer 14 = .ok (.iload_n 2, 1) := by decide +kernel
theorem dX10_answer_15 : decode cX10_answer 15 = .ok (.iconst 0, 1) := by decide +kernel
theorem dX10_answer_16 : decode cX10_answer 16 = .ok (.iastore, 1) := by decide +kernel
theorem dX10_answer_17 : decode cX10_answer 17 = .ok (.aload_n 0, 1) := by decide +kernel
theorem dX10_answer_18 : decode cX10_answer 18 = .ok (.getfield 71, 3) := by decide +kernel
theorem dX10_answer_21 : decode cX10_answer 21 = .ok (.iload_n 2, 1) := by decide +kernel
theorem dX10_answer_22 : decode cX10_answer 22 = .ok (.iconst 0, 1) := by decide +kernel
theorem dX10_answer_23 : decode cX10_answer 23 = .ok (.iastore, 1) := by decide +kernel
theorem dX10_answer_24 : decode cX10_answer 24 = .ok (.iload_n 1, 1) := by decide +kernel
theorem dX10_answer_25 : decode cX10_answer 25 = .ok (.iconst 1, 1) := by decide +kernel
theorem dX10_answer_26 : decode cX10_answer 26 = .ok (.if_icmp .ne 45, 3) := by decide +kernel
theorem dX10_answer_29 : decode cX10_answer 29 = .ok (.aload_n 0, 1) := by decide +kernel
theorem dX10_answer_30 : decode cX10_answer 30 = .ok (.getfield 62, 3) := by decide +kernel
theorem dX10_answer_33 : decode cX10_answer 33 = .ok (.iload_n 2, 1) := by decide +kernel
theorem dX10_answer_34 : decode cX10_answer 34 = .ok (.iload_n 3, 1) := by decide +kernel
theorem dX10_answer_35 : decode cX10_answer 35 = .ok (.iconst 4, 1) := by decide +kernel
theorem dX10_answer_36 : decode cX10_answer 36 = .ok (.idiv, 1) := by decide +kernel
theorem dX10_answer_37 : decode cX10_answer 37 = .ok (.aload_n 0, 1) := by decide +kernel
theorem dX10_answer_38 : decode cX10_answer 38 = .ok (.getfield 62, 3) := by decide +kernel
theorem dX10_answer_41 : decode cX10_answer 41 = .ok (.iload_n 2, 1) := by decide +kernel
theorem dX10_answer_42 : decode cX10_answer 42 = .ok (.iaload, 1) := by decide +kernel
theorem dX10_answer_43 : decode cX10_answer 43 = .ok (.if_icmp .le 9, 3) := by decide +kernel
theorem dX10_answer_46 : decode cX10_answer 46 = .ok (.iload_n 3, 1) := by decide +kernel
theorem dX10_answer_47 : decode cX10_answer 47 = .ok (.iconst 4, 1) := by decide +kernel
theorem dX10_answer_48 : decode cX10_answer 48 = .ok (.idiv, 1) := by decide +kernel
theorem dX10_answer_49 : decode cX10_answer 49 = .ok (.goto 9, 3) := by decide +kernel
theorem dX10_answer_52 : decode cX10_answer 52 = .ok (.aload_n 0, 1) := by decide +kernel
theorem dX10_answer_53 : decode cX10_answer 53 = .ok (.getfield 62, 3) := by decide +kernel
theorem dX10_answer_56 : decode cX10_answer 56 = .ok (.iload_n 2, 1) := by decide +kernel
theorem dX10_answer_57 : decode cX10_answer 57 = .ok (.iaload, 1) := by decide +kernel
theorem dX10_answer_58 : decode cX10_answer 58 = .ok (.iastore, 1) := by decide +kernel
theorem dX10_answer_59 : decode cX10_answer 59 = .ok (.aload_n 0, 1) := by decide +kernel
theorem dX10_answer_60 : decode cX10_answer 60 = .ok (.getfield 65, 3) := by decide +kernel
theorem dX10_answer_63 : decode cX10_answer 63 = .ok (.iload_n 2, 1) := by decide +kernel
theorem dX10_answer_64 : decode cX10_answer 64 = .ok (.iload_n 3, 1) := by decide +kernel
theorem dX10_answer_65 : decode cX10_answer 65 = .ok (.iconst 4, 1) := by decide +kernel
theorem dX10_answer_66 : decode cX10_answer 66 = .ok (.irem, 1) := by decide +kernel
theorem dX10_answer_67 : decode cX10_answer 67 = .ok (.iastore, 1) := by decide +kernel
theorem dX10_answer_68 : decode cX10_answer 68 = .ok (.goto 69, 3) := by decide +kernel
theorem dX10_answer_71 : decode cX10_answer 71 = .ok (.iload_n 1, 1) := by decide +kernel
theorem dX10_answer_72 : decode cX10_answer 72 = .ok (.iconst 2, 1) := by decide +kernel
theorem dX10_answer_73 : decode cX10_answer 73 = .ok (.if_icmp .ne 47, 3) := by decide +kernel
theorem dX10_answer_76 : decode cX10_answer 76 = .ok (.aload_n 0, 1) := by decide +kernel
theorem dX10_answer_77 : decode cX10_answer 77 = .ok (.getfield 62, 3) := by decide +kernel
theorem dX10_answer_80 : decode cX10_answer 80 = .ok (.iload_n 2, 1) := by decide +kernel
theorem dX10_answer_81 : decode cX10_answer 81 = .ok (.iload_n 3, 1) := by decide +kernel
theorem dX10_answer_82 : decode cX10_answer 82 = .ok (.bipush 64, 2) := by decide +kernel
theorem dX10_answer_84 : decode cX10_answer 84 = .ok (.idiv, 1) := by decide +kernel
theorem dX10_answer_85 : decode cX10_answer 85 = .ok (.aload_n 0, 1) := by decide +kernel
theorem dX10_answer_86 : decode cX10_answer 86 = .ok (.getfield 62, 3) := by decide +kernel
theorem dX10_answer_89 : decode cX10_answer 89 = .ok (.iload_n 2, 1) := by decide +kernel
theorem dX10_answer_90 : decode cX10_answer 90 = .ok (.iaload, 1) := by decide +kernel
theorem dX10_answer_91 : decode cX10_answer 91 = .ok (.if_icmp .le 10, 3) := by decide +kernel
theorem dX10_answer_94 : decode cX10_answer 94 = .ok (.iload_n 3, 1) := by decide +kernel
theorem dX10_answer_95 : decode cX10_answer 95 = .ok (.bipush 64, 2) := by decide +kernel
theorem dX10_answer_97 : decode cX10_answer 97 = .ok (.idiv, 1) := by decide +kernel
theorem dX10_answer_98 : decode cX10_answer 98 = .ok (.goto 9, 3) := by decide +kernel
theorem dX10_answer_101 : decode cX10_answer 101 = .ok (.aload_n 0, 1) := by decide +kernel
theorem dX10_answer_102 : decode cX10_answer 102 = .ok (.getfield 62, 3) := by decide +kernel
theorem dX10_answer_105 : decode cX10_answer 105 = .ok (.iload_n 2, 1) := by decide +kernel
theorem dX10_answer_106 : decode cX10_answer 106 = .ok (.iaload, 1) := by decide +kernel
theorem dX10_answer_107 : decode cX10_answer 107 = .ok (.iastore, 1) := by decide +kernel
theorem dX10_answer_108 : decode cX10_answer 108 = .ok (.aload_n 0, 1) := by decide +kernel
theorem dX10_answer_109 : decode cX10_answer 109 = .ok (.iload_n 2, 1) := by decide +kernel
theorem dX10_answer_110 : decode cX10_answer 110 = .ok (.iload_n 3, 1) := by decide +kernel
theorem dX10_answer_111 : decode cX10_answer 111 = .ok (.bipush 64, 2) := by decide +kernel
theorem dX10_answer_113 : decode cX10_answer 113 = .ok (.irem, 1) := by decide +kernel
theorem dX10_answer_114 : decode cX10_answer 114 = .ok (.invokevirtual 194, 3) := by decide +kernel
theorem dX10_answer_117 : decode cX10_answer 117 = .ok (.goto 20, 3) := by decide +kernel
theorem dX10_answer_120 : decode cX10_answer 120 = .ok (.aload_n 0, 1) := by decide +kernel
theorem dX10_answer_121 : decode cX10_answer 121 = .ok (.getfield 56, 3) := by decide +kernel
theorem dX10_answer_124 : decode cX10_answer 124 = .ok (.iload_n 2, 1) := by decide +kernel
theorem dX10_answer_125 : decode cX10_answer 125 = .ok (.iconst 1, 1) := by decide +kernel
theorem dX10_answer_126 : decode cX10_answer 126 = .ok (.iastore, 1) := by decide +kernel
theorem dX10_answer_127 : decode cX10_answer 127 = .ok (.aload_n 0, 1) := by decide +kernel
theorem dX10_answer_128 : decode cX10_answer 128 = .ok (.getfield 74, 3) := by decide +kernel
theorem dX10_answer_131 : decode cX10_answer 131 = .ok (.iload_n 2, 1) := by decide +kernel
theorem dX10_answer_132 : decode cX10_answer 132 = .ok (.aload_n 0, 1) := by decide +kernel
theorem dX10_answer_133 : decode cX10_answer 133 = .ok (.getfield 177, 3) := by decide +kernel
theorem dX10_answer_136 : decode cX10_answer 136 = .ok (.iastore, 1) := by decide +kernel
theorem dX10_answer_137 : decode cX10_answer 137 = .ok (.return_, 1) := by decide +kernel
theorem dX10_want_0 : decode cX10_want 0 = .ok (.iload_n 2, 1) := by decide +kernel
theorem dX10_want_1 : decode cX10_want 1 = .ok (.aload_n 0, 1) := by decide +kernel
theorem dX10_want_2 : decode cX10_want 2 = .ok (.getfield 59, 3) := by decide +kernel
theorem dX10_want_5 : decode cX10_want 5 = .ok (.iload_n 1, 1) := by decide +kernel
theorem dX10_want_6 : decode cX10_want 6 = .ok (.iaload, 1) := by decide +kernel
theorem dX10_want_7 : decode cX10_want 7 = .ok (.if_icmp .ge 15, 3) := by decide +kernel
theorem dX10_want_10 : decode cX10_want 10 = .ok (.aload_n 0, 1) := by decide +kernel
theorem dX10_want_11 : decode cX10_want 11 = .ok (.getfield 77, 3) := by decide +kernel
theorem dX10_want_14 : decode cX10_want 14 = .ok (.bipush 60, 2) := by decide +kernel
theorem dX10_want_16 : decode cX10_want 16 = .ok (.iload_n 1, 1) := by decide +kernel
theorem dX10_want_17 : decode cX10_want 17 = .ok (.imul, 1) := by decide +kernel
theorem dX10_want_18 : decode cX10_want 18 = .ok (.iload_n 2, 1) := by decide +kernel
theorem dX10_want_19 : decode cX10_want 19 = .ok (.iadd, 1) := by decide +kernel
theorem dX10_want_20 : decode cX10_want 20 = .ok (.iconst 1, 1) := by decide +kernel
theorem dX10_want_21 : decode cX10_want 21 = .ok (.bastore, 1) := by decide +kernel
theorem dX10_want_22 : decode cX10_want 22 = .ok (.return_, 1) := by decide +kernel
theorem dX10_least_0 : decode cX10_least 0 = .ok (.iconst 0, 1) := by decide +kernel
theorem dX10_least_1 : decode cX10_least 1 = .ok (.istore_n 2, 1) := by decide +kernel
theorem dX10_least_2 : decode cX10_least 2 = .ok (.iload_n 2, 1) := by decide +kernel
theorem dX10_least_3 : decode cX10_least 3 = .ok (.bipush 60, 2) := by decide +kernel
theorem dX10_least_5 : decode cX10_least 5 = .ok (.if_icmp .ge 25, 3) := by decide +kernel
theorem dX10_least_8 : decode cX10_least 8 = .ok (.aload_n 0, 1) := by decide +kernel
theorem dX10_least_9 : decode cX10_least 9 = .ok (.getfield 77, 3) := by decide +kernel
theorem dX10_least_12 : decode cX10_least 12 = .ok (.bipush 60, 2) := by decide +kernel
theorem dX10_least_14 : decode cX10_least 14 = .ok (.iload_n 1, 1) := by decide +kernel
theorem dX10_least_15 : decode cX10_least 15 = .ok (.imul, 1) := by decide +kernel
theorem dX10_least_16 : decode cX10_least 16 = .ok (.iload_n 2, 1) := by decide +kernel
theorem dX10_least_17 : decode cX10_least 17 = .ok (.iadd, 1) := by decide +kernel
theorem dX10_least_18 : decode cX10_least 18 = .ok (.baload, 1) := by decide +kernel
theorem dX10_least_19 : decode cX10_least 19 = .ok (.ifCond .eq 5, 3) := by decide +kernel
theorem dX10_least_22 : decode cX10_least 22 = .ok (.iload_n 2, 1) := by decide +kernel
theorem dX10_least_23 : decode cX10_least 23 = .ok (.ireturn, 1) := by decide +kernel
theorem dX10_least_24 : decode cX10_least 24 = .ok (.iinc 2 1, 3) := by decide +kernel
theorem dX10_least_27 : decode cX10_least 27 = .ok (.goto (-25), 3) := by decide +kernel
theorem dX10_least_30 : decode cX10_least 30 = .ok (.iconst (-1), 1) := by decide +kernel
theorem dX10_least_31 : decode cX10_least 31 = .ok (.ireturn, 1) := by decide +kernel
theorem dX10_left_0 : decode cX10_left 0 = .ok (.aload_n 0, 1) := by decide +kernel
theorem dX10_left_1 : decode cX10_left 1 = .ok (.getfield 50, 3) := by decide +kernel
theorem dX10_left_4 : decode cX10_left 4 = .ok (.iload_n 1, 1) := by decide +kernel
theorem dX10_left_5 : decode cX10_left 5 = .ok (.iaload, 1) := by decide +kernel
theorem dX10_left_6 : decode cX10_left 6 = .ok (.aload_n 0, 1) := by decide +kernel
theorem dX10_left_7 : decode cX10_left 7 = .ok (.getfield 59, 3) := by decide +kernel
theorem dX10_left_10 : decode cX10_left 10 = .ok (.iload_n 1, 1) := by decide +kernel
theorem dX10_left_11 : decode cX10_left 11 = .ok (.iaload, 1) := by decide +kernel
theorem dX10_left_12 : decode cX10_left 12 = .ok (.isub, 1) := by decide +kernel
theorem dX10_left_13 : decode cX10_left 13 = .ok (.istore_n 2, 1) := by decide +kernel
theorem dX10_left_14 : decode cX10_left 14 = .ok (.iconst 0, 1) := by decide +kernel
theorem dX10_left_15 : decode cX10_left 15 = .ok (.istore_n 3, 1) := by decide +kernel
theorem dX10_left_16 : decode cX10_left 16 = .ok (.iload_n 3, 1) := by decide +kernel
theorem dX10_left_17 : decode cX10_left 17 = .ok (.bipush 60, 2) := by decide +kernel
theorem dX10_left_19 : decode cX10_left 19 = .ok (.if_icmp .ge 31, 3) := by decide +kernel
theorem dX10_left_22 : decode cX10_left 22 = .ok (.iload_n 2, 1) := by decide +kernel
theorem dX10_left_23 : decode cX10_left 23 = .ok (.aload_n 0, 1) := by decide +kernel
theorem dX10_left_24 : decode cX10_left 24 = .ok (.getfield 77, 3) := by decide +kernel
theorem dX10_left_27 : decode cX10_left 27 = .ok (.bipush 60, 2) := by decide +kernel
theorem dX10_left_29 : decode cX10_left 29 = .ok (.iload_n 1, 1) := by decide +kernel
theorem dX10_left_30 : decode cX10_left 30 = .ok (.imul, 1) := by decide +kernel
theorem dX10_left_31 : decode cX10_left 31 = .ok (.iload_n 3, 1) := by decide +kernel
theorem dX10_left_32 : decode cX10_left 32 = .ok (.iadd, 1) := by decide +kernel
theorem dX10_left_33 : decode cX10_left 33 = .ok (.baload, 1) := by decide +kernel
theorem dX10_left_34 : decode cX10_left 34 = .ok (.ifCond .eq 7, 3) := by decide +kernel
theorem dX10_left_37 : decode cX10_left 37 = .ok (.iconst 1, 1) := by decide +kernel
theorem dX10_left_38 : decode cX10_left 38 = .ok (.goto 4, 3) := by decide +kernel
theorem dX10_left_41 : decode cX10_left 41 = .ok (.iconst 0, 1) := by decide +kernel
theorem dX10_left_42 : decode cX10_left 42 = .ok (.iadd, 1) := by decide +kernel
theorem dX10_left_43 : decode cX10_left 43 = .ok (.istore_n 2, 1) := by decide +kernel
theorem dX10_left_44 : decode cX10_left 44 = .ok (.iinc 3 1, 3) := by decide +kernel
theorem dX10_left_47 : decode cX10_left 47 = .ok (.goto (-31), 3) := by decide +kernel
theorem dX10_left_50 : decode cX10_left 50 = .ok (.iload_n 2, 1) := by decide +kernel
theorem dX10_left_51 : decode cX10_left 51 = .ok (.ireturn, 1) := by decide +kernel
theorem dX10_watch_0 : decode cX10_watch 0 = .ok (.iconst 0, 1) := by decide +kernel
theorem dX10_watch_1 : decode cX10_watch 1 = .ok (.istore_n 2, 1) := by decide +kernel
theorem dX10_watch_2 : decode cX10_watch 2 = .ok (.iload_n 2, 1) := by decide +kernel
theorem dX10_watch_3 : decode cX10_watch 3 = .ok (.aload_n 0, 1) := by decide +kernel
theorem dX10_watch_4 : decode cX10_watch 4 = .ok (.getfield 138, 3) := by decide +kernel
theorem dX10_watch_7 : decode cX10_watch 7 = .ok (.if_icmp .ge 109, 3) := by decide +kernel
theorem dX10_watch_10 : decode cX10_watch 10 = .ok (.aload_n 0, 1) := by decide +kernel
theorem dX10_watch_11 : decode cX10_watch 11 = .ok (.getfield 44, 3) := by decide +kernel
theorem dX10_watch_14 : decode cX10_watch 14 = .ok (.iload_n 2, 1) := by decide +kernel
theorem dX10_watch_15 : decode cX10_watch 15 = .ok (.iaload, 1) := by decide +kernel
theorem dX10_watch_16 : decode cX10_watch 16 = .ok (.iload_n 1, 1) := by decide +kernel
theorem dX10_watch_17 : decode cX10_watch 17 = .ok (.if_icmp .ne 93, 3) := by decide +kernel
theorem dX10_watch_20 : decode cX10_watch 20 = .ok (.aload_n 0, 1) := by decide +kernel
theorem dX10_watch_21 : decode cX10_watch 21 = .ok (.getfield 56, 3) := by decide +kernel
theorem dX10_watch_24 : decode cX10_watch 24 = .ok (.iload_n 2, 1) := by decide +kernel
theorem dX10_watch_25 : decode cX10_watch 25 = .ok (.iaload, 1) := by decide +kernel
theorem dX10_watch_26 : decode cX10_watch 26 = .ok (.ifCond .eq 6, 3) := by decide +kernel
theorem dX10_watch_29 : decode cX10_watch 29 = .ok (.goto 81, 3) := by decide +kernel
theorem dX10_watch_32 : decode cX10_watch 32 = .ok (.aload_n 0, 1) := by decide +kernel
theorem dX10_watch_33 : decode cX10_watch 33 = .ok (.getfield 68, 3) := by decide +kernel
theorem dX10_watch_36 : decode cX10_watch 36 = .ok (.iload_n 2, 1) := by decide +kernel
theorem dX10_watch_37 : decode cX10_watch 37 = .ok (.dup2, 1) := by decide +kernel
theorem dX10_watch_38 : decode cX10_watch 38 = .ok (.iaload, 1) := by decide +kernel
theorem dX10_watch_39 : decode cX10_watch 39 = .ok (.iconst 1, 1) := by decide +kernel
theorem dX10_watch_40 : decode cX10_watch 40 = .ok (.iadd, 1) := by decide +kernel
theorem dX10_watch_41 : decode cX10_watch 41 = .ok (.iastore, 1) := by decide +kernel
theorem dX10_watch_42 : decode cX10_watch 42 = .ok (.aload_n 0, 1) := by decide +kernel
theorem dX10_watch_43 : decode cX10_watch 43 = .ok (.getfield 68, 3) := by decide +kernel
theorem dX10_watch_46 : decode cX10_watch 46 = .ok (.iload_n 2, 1) := by decide +kernel
theorem dX10_watch_47 : decode cX10_watch 47 = .ok (.iaload, 1) := by decide +kernel
theorem dX10_watch_48 : decode cX10_watch 48 = .ok (.bipush 40, 2) := by decide +kernel
theorem dX10_watch_50 : decode cX10_watch 50 = .ok (.if_icmp .ge 6, 3) := by decide +kernel
theorem dX10_watch_53 : decode cX10_watch 53 = .ok (.goto 57, 3) := by decide +kernel
theorem dX10_watch_56 : decode cX10_watch 56 = .ok (.aload_n 0, 1) := by decide +kernel
theorem dX10_watch_57 : decode cX10_watch 57 = .ok (.getfield 68, 3) := by decide +kernel
theorem dX10_watch_60 : decode cX10_watch 60 = .ok (.iload_n 2, 1) := by decide +kernel
theorem dX10_watch_61 : decode cX10_watch 61 = .ok (.iconst 0, 1) := by decide +kernel
theorem dX10_watch_62 : decode cX10_watch 62 = .ok (.iastore, 1) := by decide +kernel
theorem dX10_watch_63 : decode cX10_watch 63 = .ok (.aload_n 0, 1) := by decide +kernel
theorem dX10_watch_64 : decode cX10_watch 64 = .ok (.getfield 71, 3) := by decide +kernel
theorem dX10_watch_67 : decode cX10_watch 67 = .ok (.iload_n 2, 1) := by decide +kernel
theorem dX10_watch_68 : decode cX10_watch 68 = .ok (.dup2, 1) := by decide +kernel
theorem dX10_watch_69 : decode cX10_watch 69 = .ok (.iaload, 1) := by decide +kernel
theorem dX10_watch_70 : decode cX10_watch 70 = .ok (.iconst 1, 1) := by decide +kernel
theorem dX10_watch_71 : decode cX10_watch 71 = .ok (.iadd, 1) := by decide +kernel
theorem dX10_watch_72 : decode cX10_watch 72 = .ok (.iastore, 1) := by decide +kernel
theorem dX10_watch_73 : decode cX10_watch 73 = .ok (.aload_n 0, 1) := by decide +kernel
theorem dX10_watch_74 : decode cX10_watch 74 = .ok (.getfield 71, 3) := by decide +kernel
theorem dX10_watch_77 : decode cX10_watch 77 = .ok (.iload_n 2, 1) := by decide +kernel
theorem dX10_watch_78 : decode cX10_watch 78 = .ok (.iaload, 1) := by decide +kernel
theorem dX10_watch_79 : decode cX10_watch 79 = .ok (.bipush 6, 2) := by decide +kernel
theorem dX10_watch_81 : decode cX10_watch 81 = .ok (.if_icmp .ne 23, 3) := by decide +kernel
theorem dX10_watch_84 : decode cX10_watch 84 = .ok (.aload_n 0, 1) := by decide +kernel
theorem dX10_watch_85 : decode cX10_watch 85 = .ok (.getfield 56, 3) := by decide +kernel
theorem dX10_watch_88 : decode cX10_watch 88 = .ok (.iload_n 2, 1) := by decide +kernel
theorem dX10_watch_89 : decode cX10_watch 89 = .ok (.iconst 2, 1) := by decide +kernel
theorem dX10_watch_90 : decode cX10_watch 90 = .ok (.iastore, 1) := by decide +kernel
theorem dX10_watch_91 : decode cX10_watch 91 = .ok (.aload_n 0, 1) := by decide +kernel
theorem dX10_watch_92 : decode cX10_watch 92 = .ok (.getfield 74, 3) := by decide +kernel
theorem dX10_watch_95 : decode cX10_watch 95 = .ok (.iload_n 2, 1) := by decide +kernel
theorem dX10_watch_96 : decode cX10_watch 96 = .ok (.aload_n 0, 1) := by decide +kernel
theorem dX10_watch_97 : decode cX10_watch 97 = .ok (.getfield 177, 3) := by decide +kernel
theorem dX10_watch_100 : decode cX10_watch 100 = .ok (.iastore, 1) := by decide +kernel
theorem dX10_watch_101 : decode cX10_watch 101 = .ok (.goto 9, 3) := by decide +kernel
theorem dX10_watch_104 : decode cX10_watch 104 = .ok (.aload_n 0, 1) := by decide +kernel
theorem dX10_watch_105 : decode cX10_watch 105 = .ok (.iload_n 2, 1) := by decide +kernel
theorem dX10_watch_106 : decode cX10_watch 106 = .ok (.iconst 0, 1) := by decide +kernel
theorem dX10_watch_107 : decode cX10_watch 107 = .ok (.invokevirtual 194, 3) := by decide +kernel
theorem dX10_watch_110 : decode cX10_watch 110 = .ok (.iinc 2 1, 3) := by decide +kernel
theorem dX10_watch_113 : decode cX10_watch 113 = .ok (.goto (-111), 3) := by decide +kernel
theorem dX10_watch_116 : decode cX10_watch 116 = .ok (.return_, 1) := by decide +kernel
theorem dX10_send_0 : decode cX10_send 0 = .ok (.aload_n 0, 1) := by decide +kernel
theorem dX10_send_1 : decode cX10_send 1 = .ok (.getfield 107, 3) := by decide +kernel
theorem dX10_send_4 : decode cX10_send 4 = .ok (.iload_n 1, 1) := by decide +kernel
theorem dX10_send_5 : decode cX10_send 5 = .ok (.iaload, 1) := by decide +kernel
theorem dX10_send_6 : decode cX10_send 6 = .ok (.ifCond .le 133, 3) := by decide +kernel
theorem dX10_send_9 : decode cX10_send 9 = .ok (.bipush 24, 2) := by decide +kernel
theorem dX10_send_11 : decode cX10_send 11 = .ok (.iload_n 1, 1) := by decide +kernel
theorem dX10_send_12 : decode cX10_send 12 = .ok (.imul, 1) := by decide +kernel
theorem dX10_send_13 : decode cX10_send 13 = .ok (.istore_n 2, 1) := by decide +kernel
theorem dX10_send_14 : decode cX10_send 14 = .ok (.aload_n 0, 1) := by decide +kernel
theorem dX10_send_15 : decode cX10_send 15 = .ok (.getfield 110, 3) := by decide +kernel
theorem dX10_send_18 : decode cX10_send 18 = .ok (.iload_n 2, 1) := by decide +kernel
theorem dX10_send_19 : decode cX10_send 19 = .ok (.iaload, 1) := by decide +kernel
theorem dX10_send_20 : decode cX10_send 20 = .ok (.istore_n 3, 1) := by decide +kernel
theorem dX10_send_21 : decode cX10_send 21 = .ok (.aload_n 0, 1) := by decide +kernel
theorem dX10_send_22 : decode cX10_send 22 = .ok (.getfield 113, 3) := by decide +kernel
theorem dX10_send_25 : decode cX10_send 25 = .ok (.iload_n 2, 1) := by decide +kernel
theorem dX10_send_26 : decode cX10_send 26 = .ok (.iaload, 1) := by decide +kernel
theorem dX10_send_27 : decode cX10_send 27 = .ok (.istore 4, 2) := by decide +kernel
theorem dX10_send_29 : decode cX10_send 29 = .ok (.aload_n 0, 1) := by decide +kernel
theorem dX10_send_30 : decode cX10_send 30 = .ok (.getfield 116, 3) := by decide +kernel
theorem dX10_send_33 : decode cX10_send 33 = .ok (.iload_n 2, 1) := by decide +kernel
theorem dX10_send_34 : decode cX10_send 34 = .ok (.iaload, 1) := by decide +kernel
theorem dX10_send_35 : decode cX10_send 35 = .ok (.istore 5, 2) := by decide +kernel
theorem dX10_send_37 : decode cX10_send 37 = .ok (.aload_n 0, 1) := by decide +kernel
theorem dX10_send_38 : decode cX10_send 38 = .ok (.getfield 107, 3) := by decide +kernel
theorem dX10_send_41 : decode cX10_send 41 = .ok (.iload_n 1, 1) := by decide +kernel
theorem dX10_send_42 : decode cX10_send 42 = .ok (.dup2, 1) := by decide +kernel
theorem dX10_send_43 : decode cX10_send 43 = .ok (.iaload, 1) := by decide +kernel
theorem dX10_send_44 : decode cX10_send 44 = .ok (.iconst 1, 1) := by decide +kernel
theorem dX10_send_45 : decode cX10_send 45 = .ok (.isub, 1) := by decide +kernel
theorem dX10_send_46 : decode cX10_send 46 = .ok (.iastore, 1) := by decide +kernel
theorem dX10_send_47 : decode cX10_send 47 = .ok (.iload_n 2, 1) := by decide +kernel
theorem dX10_send_48 : decode cX10_send 48 = .ok (.istore 6, 2) := by decide +kernel
theorem dX10_send_50 : decode cX10_send 50 = .ok (.iload 6, 2) := by decide +kernel
theorem dX10_send_52 : decode cX10_send 52 = .ok (.iload_n 2, 1) := by decide +kernel
theorem dX10_send_53 : decode cX10_send 53 = .ok (.aload_n 0, 1) := by decide +kernel
theorem dX10_send_54 : decode cX10_send 54 = .ok (.getfield 107, 3) := by decide +kernel
theorem dX10_send_57 : decode cX10_send 57 = .ok (.iload_n 1, 1) := by decide +kernel
theorem dX10_send_58 : decode cX10_send 58 = .ok (.iaload, 1) := by decide +kernel
theorem dX10_send_59 : decode cX10_send 59 = .ok (.iadd, 1) := by decide +kernel
theorem dX10_send_60 : decode cX10_send 60 = .ok (.if_icmp .ge 57, 3) := by decide +kernel
theorem dX10_send_63 : decode cX10_send 63 = .ok (.aload_n 0, 1) := by decide +kernel
theorem dX10_send_64 : decode cX10_send 64 = .ok (.getfield 110, 3) := by decide +kernel
theorem dX10_send_67 : decode cX10_send 67 = .ok (.iload 6, 2) := by decide +kernel
theorem dX10_send_69 : decode cX10_send 69 = .ok (.aload_n 0, 1) := by decide +kernel
theorem dX10_send_70 : decode cX10_send 70 = .ok (.getfield 110, 3) := by decide +kernel
theorem dX10_send_73 : decode cX10_send 73 = .ok (.iload 6, 2) := by decide +kernel
theorem dX10_send_75 : decode cX10_send 75 = .ok (.iconst 1, 1) := by decide +kernel
theorem dX10_send_76 : decode cX10_send 76 = .ok (.iadd, 1) := by decide +kernel
theorem dX10_send_77 : decode cX10_send 77 = .ok (.iaload, 1) := by decide +kernel
theorem dX10_send_78 : decode cX10_send 78 = .ok (.iastore, 1) := by decide +kernel
theorem dX10_send_79 : decode cX10_send 79 = .ok (.aload_n 0, 1) := by decide +kernel
theorem dX10_send_80 : decode cX10_send 80 = .ok (.getfield 113, 3) := by decide +kernel
theorem dX10_send_83 : decode cX10_send 83 = .ok (.iload 6, 2) := by decide +kernel
theorem dX10_send_85 : decode cX10_send 85 = .ok (.aload_n 0, 1) := by decide +kernel
theorem dX10_send_86 : decode cX10_send 86 = .ok (.getfield 113, 3) := by decide +kernel
theorem dX10_send_89 : decode cX10_send 89 = .ok (.iload 6, 2) := by decide +kernel
theorem dX10_send_91 : decode cX10_send 91 = .ok (.iconst 1, 1) := by decide +kernel
theorem dX10_send_92 : decode cX10_send 92 = .ok (.iadd, 1) := by decide +kernel
theorem dX10_send_93 : decode cX10_send 93 = .ok (.iaload, 1) := by decide +kernel
theorem dX10_send_94 : decode cX10_send 94 = .ok (.iastore, 1) := by decide +kernel
theorem dX10_send_95 : decode cX10_send 95 = .ok (.aload_n 0, 1) := by decide +kernel
theorem dX10_send_96 : decode cX10_send 96 = .ok (.getfield 116, 3) := by decide +kernel
theorem dX10_send_99 : decode cX10_send 99 = .ok (.iload 6, 2) := by decide +kernel
theorem dX10_send_101 : decode cX10_send 101 = .ok (.aload_n 0, 1) := by decide +kernel
theorem dX10_send_102 : decode cX10_send 102 = .ok (.getfield 116, 3) := by decide +kernel
theorem dX10_send_105 : decode cX10_send 105 = .ok (.iload 6, 2) := by decide +kernel
theorem dX10_send_107 : decode cX10_send 107 = .ok (.iconst 1, 1) := by decide +kernel
theorem dX10_send_108 : decode cX10_send 108 = .ok (.iadd, 1) := by decide +kernel
theorem dX10_send_109 : decode cX10_send 109 = .ok (.iaload, 1) := by decide +kernel
theorem dX10_send_110 : decode cX10_send 110 = .ok (.iastore, 1) := by decide +kernel
theorem dX10_send_111 : decode cX10_send 111 = .ok (.iinc 6 1, 3) := by decide +kernel
theorem dX10_send_114 : decode cX10_send 114 = .ok (.goto (-64), 3) := by decide +kernel
theorem dX10_send_117 : decode cX10_send 117 = .ok (.aload_n 0, 1) := by decide +kernel
theorem dX10_send_118 : decode cX10_send 118 = .ok (.getfield 119, 3) := by decide +kernel
theorem dX10_send_121 : decode cX10_send 121 = .ok (.iload_n 1, 1) := by decide +kernel
theorem dX10_send_122 : decode cX10_send 122 = .ok (.dup2, 1) := by decide +kernel
theorem dX10_send_123 : decode cX10_send 123 = .ok (.iaload, 1) := by decide +kernel
theorem dX10_send_124 : decode cX10_send 124 = .ok (.iconst 1, 1) := by decide +kernel
theorem dX10_send_125 : decode cX10_send 125 = .ok (.iadd, 1) := by decide +kernel
theorem dX10_send_126 : decode cX10_send 126 = .ok (.iastore, 1) := by decide +kernel
theorem dX10_send_127 : decode cX10_send 127 = .ok (.aload_n 0, 1) := by decide +kernel
theorem dX10_send_128 : decode cX10_send 128 = .ok (.iload_n 1, 1) := by decide +kernel
theorem dX10_send_129 : decode cX10_send 129 = .ok (.iload_n 3, 1) := by decide +kernel
theorem dX10_send_130 : decode cX10_send 130 = .ok (.iload 4, 2) := by decide +kernel
theorem dX10_send_132 : decode cX10_send 132 = .ok (.iload 5, 2) := by decide +kernel
theorem dX10_send_134 : decode cX10_send 134 = .ok (.iconst 0, 1) := by decide +kernel
theorem dX10_send_135 : decode cX10_send 135 = .ok (.invokevirtual 166, 3) := by decide +kernel
theorem dX10_send_138 : decode cX10_send 138 = .ok (.return_, 1) := by decide +kernel
theorem dX10_send_139 : decode cX10_send 139 = .ok (.iconst (-1), 1) := by decide +kernel
theorem dX10_send_140 : decode cX10_send 140 = .ok (.istore_n 2, 1) := by decide +kernel
theorem dX10_send_141 : decode cX10_send 141 = .ok (.iconst 0, 1) := by decide +kernel
theorem dX10_send_142 : decode cX10_send 142 = .ok (.istore_n 3, 1) := by decide +kernel
theorem dX10_send_143 : decode cX10_send 143 = .ok (.iload_n 3, 1) := by decide +kernel
theorem dX10_send_144 : decode cX10_send 144 = .ok (.aload_n 0, 1) := by decide +kernel
theorem dX10_send_145 : decode cX10_send 145 = .ok (.getfield 138, 3) := by decide +kernel
theorem dX10_send_148 : decode cX10_send 148 = .ok (.if_icmp .ge 84, 3) := by decide +kernel
theorem dX10_send_151 : decode cX10_send 151 = .ok (.aload_n 0, 1) := by decide +kernel
theorem dX10_send_152 : decode cX10_send 152 = .ok (.getfield 44, 3) := by decide +kernel
theorem dX10_send_155 : decode cX10_send 155 = .ok (.iload_n 3, 1) := by decide +kernel
theorem dX10_send_156 : decode cX10_send 156 = .ok (.iaload, 1) := by decide +kernel
theorem dX10_send_157 : decode cX10_send 157 = .ok (.iload_n 1, 1) := by decide +kernel
theorem dX10_send_158 : decode cX10_send 158 = .ok (.if_icmp .ne 40, 3) := by decide +kernel
theorem dX10_send_161 : decode cX10_send 161 = .ok (.aload_n 0, 1) := by decide +kernel
theorem dX10_send_162 : decode cX10_send 162 = .ok (.getfield 56, 3) := by decide +kernel
theorem dX10_send_165 : decode cX10_send 165 = .ok (.iload_n 3, 1) := by decide +kernel
theorem dX10_send_166 : decode cX10_send 166 = .ok (.iaload, 1) := by decide +kernel
theorem dX10_send_167 : decode cX10_send 167 = .ok (.ifCond .ne 31, 3) := by decide +kernel
theorem dX10_send_170 : decode cX10_send 170 = .ok (.aload_n 0, 1) := by decide +kernel
theorem dX10_send_171 : decode cX10_send 171 = .ok (.iload_n 3, 1) := by decide +kernel
theorem dX10_send_172 : decode cX10_send 172 = .ok (.invokevirtual 197, 3) := by decide +kernel
theorem dX10_send_175 : decode cX10_send 175 = .ok (.iconst (-1), 1) := by decide +kernel
theorem dX10_send_176 : decode cX10_send 176 = .ok (.if_icmp .ne 18, 3) := by decide +kernel
theorem dX10_send_179 : decode cX10_send 179 = .ok (.aload_n 0, 1) := by decide +kernel
theorem dX10_send_180 : decode cX10_send 180 = .ok (.getfield 59, 3) := by decide +kernel
theorem dX10_send_183 : decode cX10_send 183 = .ok (.iload_n 3, 1) := by decide +kernel
theorem dX10_send_184 : decode cX10_send 184 = .ok (.iaload, 1) := by decide +kernel
theorem dX10_send_185 : decode cX10_send 185 = .ok (.aload_n 0, 1) := by decide +kernel
theorem dX10_send_186 : decode cX10_send 186 = .ok (.getfield 62, 3) := by decide +kernel
theorem dX10_send_189 : decode cX10_send 189 = .ok (.iload_n 3, 1) := by decide +kernel
theorem dX10_send_190 : decode cX10_send 190 = .ok (.iaload, 1) := by decide +kernel
theorem dX10_send_191 : decode cX10_send 191 = .ok (.if_icmp .ge 7, 3) := by decide +kernel
theorem dX10_send_194 : decode cX10_send 194 = .ok (.iconst 1, 1) := by decide +kernel
theorem dX10_send_195 : decode cX10_send 195 = .ok (.goto 4, 3) := by decide +kernel
theorem dX10_send_198 : decode cX10_send 198 = .ok (.iconst 0, 1) := by decide +kernel
theorem dX10_send_199 : decode cX10_send 199 = .ok (.istore 4, 2) := by decide +kernel
theorem dX10_send_201 : decode cX10_send 201 = .ok (.iload 4, 2) := by decide +kernel
theorem dX10_send_203 : decode cX10_send 203 = .ok (.ifCond .eq 23, 3) := by decide +kernel
theorem dX10_send_206 : decode cX10_send 206 = .ok (.iload_n 2, 1) := by decide +kernel
theorem dX10_send_207 : decode cX10_send 207 = .ok (.iconst (-1), 1) := by decide +kernel
theorem dX10_send_208 : decode cX10_send 208 = .ok (.if_icmp .eq 16, 3) := by decide +kernel
theorem dX10_send_211 : decode cX10_send 211 = .ok (.aload_n 0, 1) := by decide +kernel
theorem dX10_send_212 : decode cX10_send 212 = .ok (.iload_n 3, 1) := by decide +kernel
theorem dX10_send_213 : decode cX10_send 213 = .ok (.invokevirtual 200, 3) := by decide +kernel
theorem dX10_send_216 : decode cX10_send 216 = .ok (.aload_n 0, 1) := by decide +kernel
theorem dX10_send_217 : decode cX10_send 217 = .ok (.iload_n 2, 1) := by decide +kernel
theorem dX10_send_218 : decode cX10_send 218 = .ok (.invokevirtual 200, 3) := by decide +kernel
theorem dX10_send_221 : decode cX10_send 221 = .ok (.if_icmp .ge 5, 3) := by decide +kernel
theorem dX10_send_224 : decode cX10_send 224 = .ok (.iload_n 3, 1) := by decide +kernel
theorem dX10_send_225 : decode cX10_send 225 = .ok (.istore_n 2, 1) := by decide +kernel
theorem dX10_send_226 : decode cX10_send 226 = .ok (.iinc 3 1, 3) := by decide +kernel
theorem dX10_send_229 : decode cX10_send 229 = .ok (.goto (-86), 3) := by decide +kernel
theorem dX10_send_232 : decode cX10_send 232 = .ok (.iload_n 2, 1) := by decide +kernel
theorem dX10_send_233 : decode cX10_send 233 = .ok (.iconst (-1), 1) := by decide +kernel
theorem dX10_send_234 : decode cX10_send 234 = .ok (.if_icmp .ne 4, 3) := by decide +kernel
theorem dX10_send_237 : decode cX10_send 237 = .ok (.return_, 1) := by decide +kernel
theorem dX10_send_238 : decode cX10_send 238 = .ok (.aload_n 0, 1) := by decide +kernel
theorem dX10_send_239 : decode cX10_send 239 = .ok (.iload_n 2, 1) := by decide +kernel
theorem dX10_send_240 : decode cX10_send 240 = .ok (.invokevirtual 197, 3) := by decide +kernel
theorem dX10_send_243 : decode cX10_send 243 = .ok (.istore_n 3, 1) := by decide +kernel
theorem dX10_send_244 : decode cX10_send 244 = .ok (.iload_n 3, 1) := by decide +kernel
theorem dX10_send_245 : decode cX10_send 245 = .ok (.iconst (-1), 1) := by decide +kernel
theorem dX10_send_246 : decode cX10_send 246 = .ok (.if_icmp .ne 23, 3) := by decide +kernel
theorem dX10_send_249 : decode cX10_send 249 = .ok (.aload_n 0, 1) := by decide +kernel
theorem dX10_send_250 : decode cX10_send 250 = .ok (.getfield 59, 3) := by decide +kernel
theorem dX10_send_253 : decode cX10_send 253 = .ok (.iload_n 2, 1) := by decide +kernel
theorem dX10_send_254 : decode cX10_send 254 = .ok (.iaload, 1) := by decide +kernel
theorem dX10_send_255 : decode cX10_send 255 = .ok (.istore_n 3, 1) := by decide +kernel
theorem dX10_send_256 : decode cX10_send 256 = .ok (.aload_n 0, 1) := by decide +kernel
theorem dX10_send_257 : decode cX10_send 257 = .ok (.getfield 59, 3) := by decide +kernel
theorem dX10_send_260 : decode cX10_send 260 = .ok (.iload_n 2, 1) := by decide +kernel
theorem dX10_send_261 : decode cX10_send 261 = .ok (.dup2, 1) := by decide +kernel
theorem dX10_send_262 : decode cX10_send 262 = .ok (.iaload, 1) := by decide +kernel
theorem dX10_send_263 : decode cX10_send 263 = .ok (.iconst 1, 1) := by decide +kernel
theorem dX10_send_264 : decode cX10_send 264 = .ok (.iadd, 1) := by decide +kernel
theorem dX10_send_265 : decode cX10_send 265 = .ok (.iastore, 1) := by decide +kernel
theorem dX10_send_266 : decode cX10_send 266 = .ok (.goto 15, 3) := by decide +kernel
theorem dX10_send_269 : decode cX10_send 269 = .ok (.aload_n 0, 1) := by decide +kernel
theorem dX10_send_270 : decode cX10_send 270 = .ok (.getfield 77, 3) := by decide +kernel
theorem dX10_send_273 : decode cX10_send 273 = .ok (.bipush 60, 2) := by decide +kernel
theorem dX10_send_275 : decode cX10_send 275 = .ok (.iload_n 2, 1) := by decide +kernel
theorem dX10_send_276 : decode cX10_send 276 = .ok (.imul, 1) := by decide +kernel
theorem dX10_send_277 : decode cX10_send 277 = .ok (.iload_n 3, 1) := by decide +kernel
theorem dX10_send_278 : decode cX10_send 278 = .ok (.iadd, 1) := by decide +kernel
theorem dX10_send_279 : decode cX10_send 279 = .ok (.iconst 0, 1) := by decide +kernel
theorem dX10_send_280 : decode cX10_send 280 = .ok (.bastore, 1) := by decide +kernel
theorem dX10_send_281 : decode cX10_send 281 = .ok (.iload_n 3, 1) := by decide +kernel
theorem dX10_send_282 : decode cX10_send 282 = .ok (.iconst 4, 1) := by decide +kernel
theorem dX10_send_283 : decode cX10_send 283 = .ok (.if_icmp .lt 12, 3) := by decide +kernel
theorem dX10_send_286 : decode cX10_send 286 = .ok (.aload_n 0, 1) := by decide +kernel
theorem dX10_send_287 : decode cX10_send 287 = .ok (.getfield 65, 3) := by decide +kernel
theorem dX10_send_290 : decode cX10_send 290 = .ok (.iload_n 2, 1) := by decide +kernel
theorem dX10_send_291 : decode cX10_send 291 = .ok (.iaload, 1) := by decide +kernel
theorem dX10_send_292 : decode cX10_send 292 = .ok (.goto 42, 3) := by decide +kernel
theorem dX10_send_295 : decode cX10_send 295 = .ok (.aload_n 0, 1) := by decide +kernel
theorem dX10_send_296 : decode cX10_send 296 = .ok (.getfield 50, 3) := by decide +kernel
theorem dX10_send_299 : decode cX10_send 299 = .ok (.iload_n 2, 1) := by decide +kernel
theorem dX10_send_300 : decode cX10_send 300 = .ok (.iaload, 1) := by decide +kernel
theorem dX10_send_301 : decode cX10_send 301 = .ok (.aload_n 0, 1) := by decide +kernel
theorem dX10_send_302 : decode cX10_send 302 = .ok (.iload_n 1, 1) := by decide +kernel
theorem dX10_send_303 : decode cX10_send 303 = .ok (.iconst 1, 1) := by decide +kernel
theorem dX10_send_304 : decode cX10_send 304 = .ok (.invokevirtual 203, 3) := by decide +kernel
theorem dX10_send_307 : decode cX10_send 307 = .ok (.if_icmp .gt 7, 3) := by decide +kernel
theorem dX10_send_310 : decode cX10_send 310 = .ok (.iconst 1, 1) := by decide +kernel
theorem dX10_send_311 : decode cX10_send 311 = .ok (.goto 23, 3) := by decide +kernel
theorem dX10_send_314 : decode cX10_send 314 = .ok (.aload_n 0, 1) := by decide +kernel
theorem dX10_send_315 : decode cX10_send 315 = .ok (.getfield 50, 3) := by decide +kernel
theorem dX10_send_318 : decode cX10_send 318 = .ok (.iload_n 2, 1) := by decide +kernel
theorem dX10_send_319 : decode cX10_send 319 = .ok (.iaload, 1) := by decide +kernel
theorem dX10_send_320 : decode cX10_send 320 = .ok (.aload_n 0, 1) := by decide +kernel
theorem dX10_send_321 : decode cX10_send 321 = .ok (.iload_n 1, 1) := by decide +kernel
theorem dX10_send_322 : decode cX10_send 322 = .ok (.iconst 2, 1) := by decide +kernel
theorem dX10_send_323 : decode cX10_send 323 = .ok (.invokevirtual 203, 3) := by decide +kernel
theorem dX10_send_326 : decode cX10_send 326 = .ok (.if_icmp .gt 7, 3) := by decide +kernel
theorem dX10_send_329 : decode cX10_send 329 = .ok (.iconst 2, 1) := by decide +kernel
theorem dX10_send_330 : decode cX10_send 330 = .ok (.goto 4, 3) := by decide +kernel
theorem dX10_send_333 : decode cX10_send 333 = .ok (.iconst 3, 1) := by decide +kernel
theorem dX10_send_334 : decode cX10_send 334 = .ok (.istore 4, 2) := by decide +kernel
theorem dX10_send_336 : decode cX10_send 336 = .ok (.aload_n 0, 1) := by decide +kernel
theorem dX10_send_337 : decode cX10_send 337 = .ok (.getfield 119, 3) := by decide +kernel
theorem dX10_send_340 : decode cX10_send 340 = .ok (.iload_n 1, 1) := by decide +kernel
theorem dX10_send_341 : decode cX10_send 341 = .ok (.dup2, 1) := by decide +kernel
theorem dX10_send_342 : decode cX10_send 342 = .ok (.iaload, 1) := by decide +kernel
theorem dX10_send_343 : decode cX10_send 343 = .ok (.iconst 1, 1) := by decide +kernel
theorem dX10_send_344 : decode cX10_send 344 = .ok (.iadd, 1) := by decide +kernel
theorem dX10_send_345 : decode cX10_send 345 = .ok (.iastore, 1) := by decide +kernel
theorem dX10_send_346 : decode cX10_send 346 = .ok (.aload_n 0, 1) := by decide +kernel
theorem dX10_send_347 : decode cX10_send 347 = .ok (.iload_n 1, 1) := by decide +kernel
theorem dX10_send_348 : decode cX10_send 348 = .ok (.iconst 0, 1) := by decide +kernel
theorem dX10_send_349 : decode cX10_send 349 = .ok (.iload_n 2, 1) := by decide +kernel
theorem dX10_send_350 : decode cX10_send 350 = .ok (.iload_n 3, 1) := by decide +kernel
theorem dX10_send_351 : decode cX10_send 351 = .ok (.iload 4, 2) := by decide +kernel
theorem dX10_send_353 : decode cX10_send 353 = .ok (.invokevirtual 166, 3) := by decide +kernel
theorem dX10_send_356 : decode cX10_send 356 = .ok (.return_, 1) := by decide +kernel
theorem dX10_rankOf_0 : decode cX10_rankOf 0 = .ok (.iconst 0, 1) := by decide +kernel
theorem dX10_rankOf_1 : decode cX10_rankOf 1 = .ok (.istore 4, 2) := by decide +kernel
theorem dX10_rankOf_3 : decode cX10_rankOf 3 = .ok (.iload_n 2, 1) := by decide +kernel
theorem dX10_rankOf_4 : decode cX10_rankOf 4 = .ok (.istore 5, 2) := by decide +kernel
theorem dX10_rankOf_6 : decode cX10_rankOf 6 = .ok (.iload 5, 2) := by decide +kernel
theorem dX10_rankOf_8 : decode cX10_rankOf 8 = .ok (.aload_n 0, 1) := by decide +kernel
theorem dX10_rankOf_9 : decode cX10_rankOf 9 = .ok (.getfield 138, 3) := by decide +kernel
theorem dX10_rankOf_12 : decode cX10_rankOf 12 = .ok (.if_icmp .ge 68, 3) := by decide +kernel
theorem dX10_rankOf_15 : decode cX10_rankOf 15 = .ok (.iload 4, 2) := by decide +kernel
theorem dX10_rankOf_17 : decode cX10_rankOf 17 = .ok (.aload_n 0, 1) := by decide +kernel
theorem dX10_rankOf_18 : decode cX10_rankOf 18 = .ok (.getfield 44, 3) := by decide +kernel
theorem dX10_rankOf_21 : decode cX10_rankOf 21 = .ok (.iload 5, 2) := by decide +kernel
theorem dX10_rankOf_23 : decode cX10_rankOf 23 = .ok (.iaload, 1) := by decide +kernel
theorem dX10_rankOf_24 : decode cX10_rankOf 24 = .ok (.iload_n 1, 1) := by decide +kernel
theorem dX10_rankOf_25 : decode cX10_rankOf 25 = .ok (.if_icmp .ne 45, 3) := by decide +kernel
theorem dX10_rankOf_28 : decode cX10_rankOf 28 = .ok (.aload_n 0, 1) := by decide +kernel
theorem dX10_rankOf_29 : decode cX10_rankOf 29 = .ok (.getfield 50, 3) := by decide +kernel
theorem dX10_rankOf_32 : decode cX10_rankOf 32 = .ok (.iload 5, 2) := by decide +kernel
theorem dX10_rankOf_34 : decode cX10_rankOf 34 = .ok (.iaload, 1) := by decide +kernel
theorem dX10_rankOf_35 : decode cX10_rankOf 35 = .ok (.aload_n 0, 1) := by decide +kernel
theorem dX10_rankOf_36 : decode cX10_rankOf 36 = .ok (.getfield 50, 3) := by decide +kernel
theorem dX10_rankOf_39 : decode cX10_rankOf 39 = .ok (.iload_n 3, 1) := by decide +kernel
theorem dX10_rankOf_40 : decode cX10_rankOf 40 = .ok (.iaload, 1) := by decide +kernel
theorem dX10_rankOf_41 : decode cX10_rankOf 41 = .ok (.if_icmp .lt 25, 3) := by decide +kernel
theorem dX10_rankOf_44 : decode cX10_rankOf 44 = .ok (.aload_n 0, 1) := by decide +kernel
theorem dX10_rankOf_45 : decode cX10_rankOf 45 = .ok (.getfield 50, 3) := by decide +kernel
theorem dX10_rankOf_48 : decode cX10_rankOf 48 = .ok (.iload 5, 2) := by decide +kernel
theorem dX10_rankOf_50 : decode cX10_rankOf 50 = .ok (.iaload, 1) := by decide +kernel
theorem dX10_rankOf_51 : decode cX10_rankOf 51 = .ok (.aload_n 0, 1) := by decide +kernel
theorem dX10_rankOf_52 : decode cX10_rankOf 52 = .ok (.getfield 50, 3) := by decide +kernel
theorem dX10_rankOf_55 : decode cX10_rankOf 55 = .ok (.iload_n 3, 1) := by decide +kernel
theorem dX10_rankOf_56 : decode cX10_rankOf 56 = .ok (.iaload, 1) := by decide +kernel
theorem dX10_rankOf_57 : decode cX10_rankOf 57 = .ok (.if_icmp .ne 13, 3) := by decide +kernel
theorem dX10_rankOf_60 : decode cX10_rankOf 60 = .ok (.iload 5, 2) := by decide +kernel
theorem dX10_rankOf_62 : decode cX10_rankOf 62 = .ok (.iload_n 3, 1) := by decide +kernel
theorem dX10_rankOf_63 : decode cX10_rankOf 63 = .ok (.if_icmp .ge 7, 3) := by decide +kernel
theorem dX10_rankOf_66 : decode cX10_rankOf 66 = .ok (.iconst 1, 1) := by decide +kernel
theorem dX10_rankOf_67 : decode cX10_rankOf 67 = .ok (.goto 4, 3) := by decide +kernel
theorem dX10_rankOf_70 : decode cX10_rankOf 70 = .ok (.iconst 0, 1) := by decide +kernel
theorem dX10_rankOf_71 : decode cX10_rankOf 71 = .ok (.iadd, 1) := by decide +kernel
theorem dX10_rankOf_72 : decode cX10_rankOf 72 = .ok (.istore 4, 2) := by decide +kernel
theorem dX10_rankOf_74 : decode cX10_rankOf 74 = .ok (.iinc 5 1, 3) := by decide +kernel
theorem dX10_rankOf_77 : decode cX10_rankOf 77 = .ok (.goto (-71), 3) := by decide +kernel
theorem dX10_rankOf_80 : decode cX10_rankOf 80 = .ok (.iload 4, 2) := by decide +kernel
theorem dX10_rankOf_82 : decode cX10_rankOf 82 = .ok (.ireturn, 1) := by decide +kernel
theorem dX10_cutoff_0 : decode cX10_cutoff 0 = .ok (.iconst 0, 1) := by decide +kernel
theorem dX10_cutoff_1 : decode cX10_cutoff 1 = .ok (.istore_n 3, 1) := by decide +kernel
theorem dX10_cutoff_2 : decode cX10_cutoff 2 = .ok (.aload_n 0, 1) := by decide +kernel
theorem dX10_cutoff_3 : decode cX10_cutoff 3 = .ok (.getfield 138, 3) := by decide +kernel
theorem dX10_cutoff_6 : decode cX10_cutoff 6 = .ok (.istore 4, 2) := by decide +kernel
theorem dX10_cutoff_8 : decode cX10_cutoff 8 = .ok (.iload 4, 2) := by decide +kernel
theorem dX10_cutoff_10 : decode cX10_cutoff 10 = .ok (.ifCond .le 34, 3) := by decide +kernel
theorem dX10_cutoff_13 : decode cX10_cutoff 13 = .ok (.iload_n 3, 1) := by decide +kernel
theorem dX10_cutoff_14 : decode cX10_cutoff 14 = .ok (.bipush 16, 2) := by decide +kernel
theorem dX10_cutoff_16 : decode cX10_cutoff 16 = .ok (.if_icmp .ge 28, 3) := by decide +kernel
theorem dX10_cutoff_19 : decode cX10_cutoff 19 = .ok (.iinc 4 (-1), 3) := by decide +kernel
theorem dX10_cutoff_22 : decode cX10_cutoff 22 = .ok (.iload_n 3, 1) := by decide +kernel
theorem dX10_cutoff_23 : decode cX10_cutoff 23 = .ok (.aload_n 0, 1) := by decide +kernel
theorem dX10_cutoff_24 : decode cX10_cutoff 24 = .ok (.getfield 44, 3) := by decide +kernel
theorem dX10_cutoff_27 : decode cX10_cutoff 27 = .ok (.iload 4, 2) := by decide +kernel
theorem dX10_cutoff_29 : decode cX10_cutoff 29 = .ok (.iaload, 1) := by decide +kernel
theorem dX10_cutoff_30 : decode cX10_cutoff 30 = .ok (.iload_n 1, 1) := by decide +kernel
theorem dX10_cutoff_31 : decode cX10_cutoff 31 = .ok (.if_icmp .ne 7, 3) := by decide +kernel
theorem dX10_cutoff_34 : decode cX10_cutoff 34 = .ok (.iconst 1, 1) := by decide +kernel
theorem dX10_cutoff_35 : decode cX10_cutoff 35 = .ok (.goto 4, 3) := by decide +kernel
theorem dX10_cutoff_38 : decode cX10_cutoff 38 = .ok (.iconst 0, 1) := by decide +kernel
theorem dX10_cutoff_39 : decode cX10_cutoff 39 = .ok (.iadd, 1) := by decide +kernel
theorem dX10_cutoff_40 : decode cX10_cutoff 40 = .ok (.istore_n 3, 1) := by decide +kernel
theorem dX10_cutoff_41 : decode cX10_cutoff 41 = .ok (.goto (-33), 3) := by decide +kernel
theorem dX10_cutoff_44 : decode cX10_cutoff 44 = .ok (.iload 4, 2) := by decide +kernel
theorem dX10_cutoff_46 : decode cX10_cutoff 46 = .ok (.istore 5, 2) := by decide +kernel
theorem dX10_cutoff_48 : decode cX10_cutoff 48 = .ok (.iload 5, 2) := by decide +kernel
theorem dX10_cutoff_50 : decode cX10_cutoff 50 = .ok (.aload_n 0, 1) := by decide +kernel
theorem dX10_cutoff_51 : decode cX10_cutoff 51 = .ok (.getfield 138, 3) := by decide +kernel
theorem dX10_cutoff_54 : decode cX10_cutoff 54 = .ok (.if_icmp .ge 45, 3) := by decide +kernel
theorem dX10_cutoff_57 : decode cX10_cutoff 57 = .ok (.aload_n 0, 1) := by decide +kernel
theorem dX10_cutoff_58 : decode cX10_cutoff 58 = .ok (.getfield 44, 3) := by decide +kernel
theorem dX10_cutoff_61 : decode cX10_cutoff 61 = .ok (.iload 5, 2) := by decide +kernel
theorem dX10_cutoff_63 : decode cX10_cutoff 63 = .ok (.iaload, 1) := by decide +kernel
theorem dX10_cutoff_64 : decode cX10_cutoff 64 = .ok (.iload_n 1, 1) := by decide +kernel
theorem dX10_cutoff_65 : decode cX10_cutoff 65 = .ok (.if_icmp .ne 28, 3) := by decide +kernel
theorem dX10_cutoff_68 : decode cX10_cutoff 68 = .ok (.aload_n 0, 1) := by decide +kernel
theorem dX10_cutoff_69 : decode cX10_cutoff 69 = .ok (.iload_n 1, 1) := by decide +kernel
theorem dX10_cutoff_70 : decode cX10_cutoff 70 = .ok (.iload 4, 2) := by decide +kernel
theorem dX10_cutoff_72 : decode cX10_cutoff 72 = .ok (.iload 5, 2) := by decide +kernel
theorem dX10_cutoff_74 : decode cX10_cutoff 74 = .ok (.invokevirtual 206, 3) := by decide +kernel
theorem dX10_cutoff_77 : decode cX10_cutoff 77 = .ok (.iload_n 2, 1) := by decide +kernel
theorem dX10_cutoff_78 : decode cX10_cutoff 78 = .ok (.iload_n 3, 1) := by decide +kernel
theorem dX10_cutoff_79 : decode cX10_cutoff 79 = .ok (.imul, 1) := by decide +kernel
theorem dX10_cutoff_80 : decode cX10_cutoff 80 = .ok (.iconst 3, 1) := by decide +kernel
theorem dX10_cutoff_81 : decode cX10_cutoff 81 = .ok (.idiv, 1) := by decide +kernel
theorem dX10_cutoff_82 : decode cX10_cutoff 82 = .ok (.if_icmp .ne 11, 3) := by decide +kernel
theorem dX10_cutoff_85 : decode cX10_cutoff 85 = .ok (.aload_n 0, 1) := by decide +kernel
theorem dX10_cutoff_86 : decode cX10_cutoff 86 = .ok (.getfield 50, 3) := by decide +kernel
theorem dX10_cutoff_89 : decode cX10_cutoff 89 = .ok (.iload 5, 2) := by decide +kernel
theorem dX10_cutoff_91 : decode cX10_cutoff 91 = .ok (.iaload, 1) := by decide +kernel
theorem dX10_cutoff_92 : decode cX10_cutoff 92 = .ok (.ireturn, 1) := by decide +kernel
theorem dX10_cutoff_93 : decode cX10_cutoff 93 = .ok (.iinc 5 1, 3) := by decide +kernel
theorem dX10_cutoff_96 : decode cX10_cutoff 96 = .ok (.goto (-48), 3) := by decide +kernel
theorem dX10_cutoff_99 : decode cX10_cutoff 99 = .ok (.iconst 0, 1) := by decide +kernel
theorem dX10_cutoff_100 : decode cX10_cutoff 100 = .ok (.ireturn, 1) := by decide +kernel
theorem dX10_slot_0 : decode cX10_slot 0 = .ok (.aload_n 0, 1) := by decide +kernel
theorem dX10_slot_1 : decode cX10_slot 1 = .ok (.iload_n 1, 1) := by decide +kernel
theorem dX10_slot_2 : decode cX10_slot 2 = .ok (.iconst 1, 1) := by decide +kernel
theorem dX10_slot_3 : decode cX10_slot 3 = .ok (.if_icmp .lt 10, 3) := by decide +kernel
theorem dX10_slot_6 : decode cX10_slot 6 = .ok (.iload_n 1, 1) := by decide +kernel
theorem dX10_slot_7 : decode cX10_slot 7 = .ok (.sipush 200, 3) := by decide +kernel
theorem dX10_slot_10 : decode cX10_slot 10 = .ok (.if_icmp .le 7, 3) := by decide +kernel
theorem dX10_slot_13 : decode cX10_slot 13 = .ok (.iconst 1, 1) := by decide +kernel
theorem dX10_slot_14 : decode cX10_slot 14 = .ok (.goto 4, 3) := by decide +kernel
theorem dX10_slot_17 : decode cX10_slot 17 = .ok (.iconst 0, 1) := by decide +kernel
theorem dX10_slot_18 : decode cX10_slot 18 = .ok (.putfield 134, 3) := by decide +kernel
theorem dX10_slot_21 : decode cX10_slot 21 = .ok (.aload_n 0, 1) := by decide +kernel
theorem dX10_slot_22 : decode cX10_slot 22 = .ok (.getfield 134, 3) := by decide +kernel
theorem dX10_slot_25 : decode cX10_slot 25 = .ok (.ifCond .eq 5, 3) := by decide +kernel
theorem dX10_slot_28 : decode cX10_slot 28 = .ok (.iconst 0, 1) := by decide +kernel
theorem dX10_slot_29 : decode cX10_slot 29 = .ok (.ireturn, 1) := by decide +kernel
theorem dX10_slot_30 : decode cX10_slot 30 = .ok (.iconst 0, 1) := by decide +kernel
theorem dX10_slot_31 : decode cX10_slot 31 = .ok (.istore_n 2, 1) := by decide +kernel
theorem dX10_slot_32 : decode cX10_slot 32 = .ok (.iload_n 2, 1) := by decide +kernel
theorem dX10_slot_33 : decode cX10_slot 33 = .ok (.iload_n 1, 1) := by decide +kernel
theorem dX10_slot_34 : decode cX10_slot 34 = .ok (.if_icmp .ge 97, 3) := by decide +kernel
theorem dX10_slot_37 : decode cX10_slot 37 = .ok (.aload_n 0, 1) := by decide +kernel
theorem dX10_slot_38 : decode cX10_slot 38 = .ok (.dup, 1) := by decide +kernel
theorem dX10_slot_39 : decode cX10_slot 39 = .ok (.getfield 177, 3) := by decide +kernel
theorem dX10_slot_42 : decode cX10_slot 42 = .ok (.iconst 1, 1) := by decide +kernel
theorem dX10_slot_43 : decode cX10_slot 43 = .ok (.iadd, 1) := by decide +kernel
theorem dX10_slot_44 : decode cX10_slot 44 = .ok (.putfield 177, 3) := by decide +kernel
theorem dX10_slot_47 : decode cX10_slot 47 = .ok (.iconst 0, 1) := by decide +kernel
theorem dX10_slot_48 : decode cX10_slot 48 = .ok (.istore_n 3, 1) := by decide +kernel
theorem dX10_slot_49 : decode cX10_slot 49 = .ok (.iload_n 3, 1) := by decide +kernel
theorem dX10_slot_50 : decode cX10_slot 50 = .ok (.bipush 24, 2) := by decide +kernel
theorem dX10_slot_52 : decode cX10_slot 52 = .ok (.if_icmp .ge 24, 3) := by decide +kernel
theorem dX10_slot_55 : decode cX10_slot 55 = .ok (.aload_n 0, 1) := by decide +kernel
theorem dX10_slot_56 : decode cX10_slot 56 = .ok (.getfield 7, 3) := by decide +kernel
theorem dX10_slot_59 : decode cX10_slot 59 = .ok (.iload_n 3, 1) := by decide +kernel
theorem dX10_slot_60 : decode cX10_slot 60 = .ok (.iaload, 1) := by decide +kernel
theorem dX10_slot_61 : decode cX10_slot 61 = .ok (.iconst (-1), 1) := by decide +kernel
theorem dX10_slot_62 : decode cX10_slot 62 = .ok (.if_icmp .eq 8, 3) := by decide +kernel
theorem dX10_slot_65 : decode cX10_slot 65 = .ok (.aload_n 0, 1) := by decide +kernel
theorem dX10_slot_66 : decode cX10_slot 66 = .ok (.iload_n 3, 1) := by decide +kernel
theorem dX10_slot_67 : decode cX10_slot 67 = .ok (.invokevirtual 210, 3) := by decide +kernel
theorem dX10_slot_70 : decode cX10_slot 70 = .ok (.iinc 3 1, 3) := by decide +kernel
theorem dX10_slot_73 : decode cX10_slot 73 = .ok (.goto (-24), 3) := by decide +kernel
theorem dX10_slot_76 : decode cX10_slot 76 = .ok (.bipush 8, 2) := by decide +kernel
theorem dX10_slot_78 : decode cX10_slot 78 = .ok (.istore_n 3, 1) := by decide +kernel
theorem dX10_slot_79 : decode cX10_slot 79 = .ok (.iload_n 3, 1) := by decide +kernel
theorem dX10_slot_80 : decode cX10_slot 80 = .ok (.bipush 24, 2) := by decide +kernel
theorem dX10_slot_82 : decode cX10_slot 82 = .ok (.if_icmp .ge 14, 3) := by decide +kernel
theorem dX10_slot_85 : decode cX10_slot 85 = .ok (.aload_n 0, 1) := by decide +kernel
theorem dX10_slot_86 : decode cX10_slot 86 = .ok (.iload_n 3, 1) := by decide +kernel
theorem dX10_slot_87 : decode cX10_slot 87 = .ok (.invokevirtual 213, 3) := by decide +kernel
theorem dX10_slot_90 : decode cX10_slot 90 = .ok (.iinc 3 1, 3) := by decide +kernel
theorem dX10_slot_93 : decode cX10_slot 93 = .ok (.goto (-14), 3) := by decide +kernel
theorem dX10_slot_96 : decode cX10_slot 96 = .ok (.iconst 0, 1) := by decide +kernel
theorem dX10_slot_97 : decode cX10_slot 97 = .ok (.istore_n 3, 1) := by decide +kernel
theorem dX10_slot_98 : decode cX10_slot 98 = .ok (.iload_n 3, 1) := by decide +kernel
theorem dX10_slot_99 : decode cX10_slot 99 = .ok (.bipush 8, 2) := by decide +kernel
theorem dX10_slot_101 : decode cX10_slot 101 = .ok (.if_icmp .ge 24, 3) := by decide +kernel
theorem dX10_slot_104 : decode cX10_slot 104 = .ok (.aload_n 0, 1) := by decide +kernel
theorem dX10_slot_105 : decode cX10_slot 105 = .ok (.iload_n 3, 1) := by decide +kernel
theorem dX10_slot_106 : decode cX10_slot 106 = .ok (.invokevirtual 216, 3) := by decide +kernel
theorem dX10_slot_109 : decode cX10_slot 109 = .ok (.aload_n 0, 1) := by decide +kernel
theorem dX10_slot_110 : decode cX10_slot 110 = .ok (.iload_n 3, 1) := by decide +kernel
theorem dX10_slot_111 : decode cX10_slot 111 = .ok (.invokevirtual 219, 3) := by decide +kernel
theorem dX10_slot_114 : decode cX10_slot 114 = .ok (.aload_n 0, 1) := by decide +kernel
theorem dX10_slot_115 : decode cX10_slot 115 = .ok (.iload_n 3, 1) := by decide +kernel
theorem dX10_slot_116 : decode cX10_slot 116 = .ok (.invokevirtual 222, 3) := by decide +kernel
theorem dX10_slot_119 : decode cX10_slot 119 = .ok (.iinc 3 1, 3) := by decide +kernel
theorem dX10_slot_122 : decode cX10_slot 122 = .ok (.goto (-24), 3) := by decide +kernel
theorem dX10_slot_125 : decode cX10_slot 125 = .ok (.iinc 2 1, 3) := by decide +kernel
theorem dX10_slot_128 : decode cX10_slot 128 = .ok (.goto (-96), 3) := by decide +kernel
theorem dX10_slot_131 : decode cX10_slot 131 = .ok (.aload_n 0, 1) := by decide +kernel
theorem dX10_slot_132 : decode cX10_slot 132 = .ok (.getfield 177, 3) := by decide +kernel
theorem dX10_slot_135 : decode cX10_slot 135 = .ok (.ireturn, 1) := by decide +kernel
theorem dX10_lose_0 : decode cX10_lose 0 = .ok (.aload_n 0, 1) := by decide +kernel
theorem dX10_lose_1 : decode cX10_lose 1 = .ok (.iconst 0, 1) := by decide +kernel
theorem dX10_lose_2 : decode cX10_lose 2 = .ok (.putfield 134, 3) := by decide +kernel
theorem dX10_lose_5 : decode cX10_lose 5 = .ok (.iload_n 1, 1) := by decide +kernel
theorem dX10_lose_6 : decode cX10_lose 6 = .ok (.ifCond .lt 19, 3) := by decide +kernel
theorem dX10_lose_9 : decode cX10_lose 9 = .ok (.iload_n 1, 1) := by decide +kernel
theorem dX10_lose_10 : decode cX10_lose 10 = .ok (.bipush 24, 2) := by decide +kernel
theorem dX10_lose_12 : decode cX10_lose 12 = .ok (.if_icmp .ge 13, 3) := by decide +kernel
theorem dX10_lose_15 : decode cX10_lose 15 = .ok (.iload_n 2, 1) := by decide +kernel
theorem dX10_lose_16 : decode cX10_lose 16 = .ok (.ifCond .lt 9, 3) := by decide +kernel
theorem dX10_lose_19 : decode cX10_lose 19 = .ok (.iload_n 2, 1) := by decide +kernel
theorem dX10_lose_20 : decode cX10_lose 20 = .ok (.bipush 100, 2) := by decide +kernel
theorem dX10_lose_22 : decode cX10_lose 22 = .ok (.if_icmp .le 5, 3) := by decide +kernel
theorem dX10_lose_25 : decode cX10_lose 25 = .ok (.iconst 0, 1) := by decide +kernel
theorem dX10_lose_26 : decode cX10_lose 26 = .ok (.ireturn, 1) := by decide +kernel
theorem dX10_lose_27 : decode cX10_lose 27 = .ok (.aload_n 0, 1) := by decide +kernel
theorem dX10_lose_28 : decode cX10_lose 28 = .ok (.getfield 22, 3) := by decide +kernel
theorem dX10_lose_31 : decode cX10_lose 31 = .ok (.iload_n 1, 1) := by decide +kernel
theorem dX10_lose_32 : decode cX10_lose 32 = .ok (.iload_n 2, 1) := by decide +kernel
theorem dX10_lose_33 : decode cX10_lose 33 = .ok (.iastore, 1) := by decide +kernel
theorem dX10_lose_34 : decode cX10_lose 34 = .ok (.iconst 1, 1) := by decide +kernel
theorem dX10_lose_35 : decode cX10_lose 35 = .ok (.ireturn, 1) := by decide +kernel
theorem dX10_spine_0 : decode cX10_spine 0 = .ok (.aload_n 0, 1) := by decide +kernel
theorem dX10_spine_1 : decode cX10_spine 1 = .ok (.iconst 0, 1) := by decide +kernel
theorem dX10_spine_2 : decode cX10_spine 2 = .ok (.putfield 134, 3) := by decide +kernel
theorem dX10_spine_5 : decode cX10_spine 5 = .ok (.iload_n 1, 1) := by decide +kernel
theorem dX10_spine_6 : decode cX10_spine 6 = .ok (.ifCond .eq 10, 3) := by decide +kernel
theorem dX10_spine_9 : decode cX10_spine 9 = .ok (.iload_n 1, 1) := by decide +kernel
theorem dX10_spine_10 : decode cX10_spine 10 = .ok (.iconst 1, 1) := by decide +kernel
theorem dX10_spine_11 : decode cX10_spine 11 = .ok (.if_icmp .eq 5, 3) := by decide +kernel
theorem dX10_spine_14 : decode cX10_spine 14 = .ok (.iconst 0, 1) := by decide +kernel
theorem dX10_spine_15 : decode cX10_spine 15 = .ok (.ireturn, 1) := by decide +kernel
theorem dX10_spine_16 : decode cX10_spine 16 = .ok (.aload_n 0, 1) := by decide +kernel
theorem dX10_spine_17 : decode cX10_spine 17 = .ok (.getfield 37, 3) := by decide +kernel
theorem dX10_spine_20 : decode cX10_spine 20 = .ok (.iload_n 1, 1) := by decide +kernel
theorem dX10_spine_21 : decode cX10_spine 21 = .ok (.iload_n 2, 1) := by decide +kernel
theorem dX10_spine_22 : decode cX10_spine 22 = .ok (.ifCond .ne 7, 3) := by decide +kernel
theorem dX10_spine_25 : decode cX10_spine 25 = .ok (.iconst 1, 1) := by decide +kernel
theorem dX10_spine_26 : decode cX10_spine 26 = .ok (.goto 4, 3) := by decide +kernel
theorem dX10_spine_29 : decode cX10_spine 29 = .ok (.iconst 0, 1) := by decide +kernel
theorem dX10_spine_30 : decode cX10_spine 30 = .ok (.bastore, 1) := by decide +kernel
theorem dX10_spine_31 : decode cX10_spine 31 = .ok (.iconst 1, 1) := by decide +kernel
theorem dX10_spine_32 : decode cX10_spine 32 = .ok (.ireturn, 1) := by decide +kernel
theorem dX10_isMessage_0 : decode cX10_isMessage 0 = .ok (.iload_n 1, 1) := by decide +kernel
theorem dX10_isMessage_1 : decode cX10_isMessage 1 = .ok (.ifCond .lt 15, 3) := by decide +kernel
theorem dX10_isMessage_4 : decode cX10_isMessage 4 = .ok (.iload_n 1, 1) := by decide +kernel
theorem dX10_isMessage_5 : decode cX10_isMessage 5 = .ok (.aload_n 0, 1) := by decide +kernel
theorem dX10_isMessage_6 : decode cX10_isMessage 6 = .ok (.getfield 138, 3) := by decide +kernel
theorem dX10_isMessage_9 : decode cX10_isMessage 9 = .ok (.if_icmp .ge 7, 3) := by decide +kernel
theorem dX10_isMessage_12 : decode cX10_isMessage 12 = .ok (.iconst 1, 1) := by decide +kernel
theorem dX10_isMessage_13 : decode cX10_isMessage 13 = .ok (.goto 4, 3) := by decide +kernel
theorem dX10_isMessage_16 : decode cX10_isMessage 16 = .ok (.iconst 0, 1) := by decide +kernel
theorem dX10_isMessage_17 : decode cX10_isMessage 17 = .ok (.ireturn, 1) := by decide +kernel
theorem dX10_sent_0 : decode cX10_sent 0 = .ok (.aload_n 0, 1) := by decide +kernel
theorem dX10_sent_1 : decode cX10_sent 1 = .ok (.iconst 0, 1) := by decide +kernel
theorem dX10_sent_2 : decode cX10_sent 2 = .ok (.putfield 134, 3) := by decide +kernel
theorem dX10_sent_5 : decode cX10_sent 5 = .ok (.aload_n 0, 1) := by decide +kernel
theorem dX10_sent_6 : decode cX10_sent 6 = .ok (.iload_n 1, 1) := by decide +kernel
theorem dX10_sent_7 : decode cX10_sent 7 = .ok (.invokevirtual 225, 3) := by decide +kernel
theorem dX10_sent_10 : decode cX10_sent 10 = .ok (.ifCond .ne 5, 3) := by decide +kernel
theorem dX10_sent_13 : decode cX10_sent 13 = .ok (.iconst (-1), 1) := by decide +kernel
theorem dX10_sent_14 : decode cX10_sent 14 = .ok (.ireturn, 1) := by decide +kernel
theorem dX10_sent_15 : decode cX10_sent 15 = .ok (.iload_n 2, 1) := by decide +kernel
theorem dX10_sent_16 : decode cX10_sent 16 = .ok (.tableswitch 103 0 7 #[48, 55, 62, 69, 75, 82, 89, 96], 48) := by decide +kernel
theorem dX10_sent_64 : decode cX10_sent 64 = .ok (.aload_n 0, 1) := by decide +kernel
theorem dX10_sent_65 : decode cX10_sent 65 = .ok (.getfield 56, 3) := by decide +kernel
theorem dX10_sent_68 : decode cX10_sent 68 = .ok (.iload_n 1, 1) := by decide +kernel
theorem dX10_sent_69 : decode cX10_sent 69 = .ok (.iaload, 1) := by decide +kernel
theorem dX10_sent_70 : decode cX10_sent 70 = .ok (.ireturn, 1) := by decide +kernel
theorem dX10_sent_71 : decode cX10_sent 71 = .ok (.aload_n 0, 1) := by decide +kernel
theorem dX10_sent_72 : decode cX10_sent 72 = .ok (.getfield 59, 3) := by decide +kernel
theorem dX10_sent_75 : decode cX10_sent 75 = .ok (.iload_n 1, 1) := by decide +kernel
theorem dX10_sent_76 : decode cX10_sent 76 = .ok (.iaload, 1) := by decide +kernel
theorem dX10_sent_77 : decode cX10_sent 77 = .ok (.ireturn, 1) := by decide +kernel
theorem dX10_sent_78 : decode cX10_sent 78 = .ok (.aload_n 0, 1) := by decide +kernel
theorem dX10_sent_79 : decode cX10_sent 79 = .ok (.getfield 62, 3) := by decide +kernel
theorem dX10_sent_82 : decode cX10_sent 82 = .ok (.iload_n 1, 1) := by decide +kernel
theorem dX10_sent_83 : decode cX10_sent 83 = .ok (.iaload, 1) := by decide +kernel
theorem dX10_sent_84 : decode cX10_sent 84 = .ok (.ireturn, 1) := by decide +kernel
theorem dX10_sent_85 : decode cX10_sent 85 = .ok (.aload_n 0, 1) := by decide +kernel
theorem dX10_sent_86 : decode cX10_sent 86 = .ok (.iload_n 1, 1) := by decide +kernel
theorem dX10_sent_87 : decode cX10_sent 87 = .ok (.invokevirtual 200, 3) := by decide +kernel
theorem dX10_sent_90 : decode cX10_sent 90 = .ok (.ireturn, 1) := by decide +kernel
theorem dX10_sent_91 : decode cX10_sent 91 = .ok (.aload_n 0, 1) := by decide +kernel
theorem dX10_sent_92 : decode cX10_sent 92 = .ok (.getfield 68, 3) := by decide +kernel
theorem dX10_sent_95 : decode cX10_sent 95 = .ok (.iload_n 1, 1) := by decide +kernel
theorem dX10_sent_96 : decode cX10_sent 96 = .ok (.iaload, 1) := by decide +kernel
theorem dX10_sent_97 : decode cX10_sent 97 = .ok (.ireturn, 1) := by decide +kernel
theorem dX10_sent_98 : decode cX10_sent 98 = .ok (.aload_n 0, 1) := by decide +kernel
theorem dX10_sent_99 : decode cX10_sent 99 = .ok (.getfield 71, 3) := by decide +kernel
theorem dX10_sent_102 : decode cX10_sent 102 = .ok (.iload_n 1, 1) := by decide +kernel
theorem dX10_sent_103 : decode cX10_sent 103 = .ok (.iaload, 1) := by decide +kernel
theorem dX10_sent_104 : decode cX10_sent 104 = .ok (.ireturn, 1) := by decide +kernel
theorem dX10_sent_105 : decode cX10_sent 105 = .ok (.aload_n 0, 1) := by decide +kernel
theorem dX10_sent_106 : decode cX10_sent 106 = .ok (.getfield 65, 3) := by decide +kernel
theorem dX10_sent_109 : decode cX10_sent 109 = .ok (.iload_n 1, 1) := by decide +kernel
theorem dX10_sent_110 : decode cX10_sent 110 = .ok (.iaload, 1) := by decide +kernel
theorem dX10_sent_111 : decode cX10_sent 111 = .ok (.ireturn, 1) := by decide +kernel
theorem dX10_sent_112 : decode cX10_sent 112 = .ok (.aload_n 0, 1) := by decide +kernel
theorem dX10_sent_113 : decode cX10_sent 113 = .ok (.getfield 74, 3) := by decide +kernel
theorem dX10_sent_116 : decode cX10_sent 116 = .ok (.iload_n 1, 1) := by decide +kernel
theorem dX10_sent_117 : decode cX10_sent 117 = .ok (.iaload, 1) := by decide +kernel
theorem dX10_sent_118 : decode cX10_sent 118 = .ok (.ireturn, 1) := by decide +kernel
theorem dX10_sent_119 : decode cX10_sent 119 = .ok (.iconst (-1), 1) := by decide +kernel
theorem dX10_sent_120 : decode cX10_sent 120 = .ok (.ireturn, 1) := by decide +kernel
theorem dX10_received_0 : decode cX10_received 0 = .ok (.aload_n 0, 1) := by decide +kernel
theorem dX10_received_1 : decode cX10_received 1 = .ok (.iconst 0, 1) := by decide +kernel
theorem dX10_received_2 : decode cX10_received 2 = .ok (.putfield 134, 3) := by decide +kernel
theorem dX10_received_5 : decode cX10_received 5 = .ok (.aload_n 0, 1) := by decide +kernel
theorem dX10_received_6 : decode cX10_received 6 = .ok (.iload_n 1, 1) := by decide +kernel
theorem dX10_received_7 : decode cX10_received 7 = .ok (.invokevirtual 225, 3) := by decide +kernel
theorem dX10_received_10 : decode cX10_received 10 = .ok (.ifCond .eq 13, 3) := by decide +kernel
theorem dX10_received_13 : decode cX10_received 13 = .ok (.iload_n 2, 1) := by decide +kernel
theorem dX10_received_14 : decode cX10_received 14 = .ok (.ifCond .lt 9, 3) := by decide +kernel
theorem dX10_received_17 : decode cX10_received 17 = .ok (.iload_n 2, 1) := by decide +kernel
theorem dX10_received_18 : decode cX10_received 18 = .ok (.bipush 6, 2) := by decide +kernel
theorem dX10_received_20 : decode cX10_received 20 = .ok (.if_icmp .le 5, 3) := by decide +kernel
theorem dX10_received_23 : decode cX10_received 23 = .ok (.iconst (-1), 1) := by decide +kernel
theorem dX10_received_24 : decode cX10_received 24 = .ok (.ireturn, 1) := by decide +kernel
theorem dX10_received_25 : decode cX10_received 25 = .ok (.iload_n 2, 1) := by decide +kernel
theorem dX10_received_26 : decode cX10_received 26 = .ok (.ifCond .ne 10, 3) := by decide +kernel
theorem dX10_received_29 : decode cX10_received 29 = .ok (.aload_n 0, 1) := by decide +kernel
theorem dX10_received_30 : decode cX10_received 30 = .ok (.getfield 80, 3) := by decide +kernel
theorem dX10_received_33 : decode cX10_received 33 = .ok (.iload_n 1, 1) := by decide +kernel
theorem dX10_received_34 : decode cX10_received 34 = .ok (.iaload, 1) := by decide +kernel
theorem dX10_received_35 : decode cX10_received 35 = .ok (.ireturn, 1) := by decide +kernel
theorem dX10_received_36 : decode cX10_received 36 = .ok (.iload_n 2, 1) := by decide +kernel
theorem dX10_received_37 : decode cX10_received 37 = .ok (.iconst 1, 1) := by decide +kernel
theorem dX10_received_38 : decode cX10_received 38 = .ok (.if_icmp .ne 10, 3) := by decide +kernel
theorem dX10_received_41 : decode cX10_received 41 = .ok (.aload_n 0, 1) := by decide +kernel
theorem dX10_received_42 : decode cX10_received 42 = .ok (.getfield 83, 3) := by decide +kernel
theorem dX10_received_45 : decode cX10_received 45 = .ok (.iload_n 1, 1) := by decide +kernel
theorem dX10_received_46 : decode cX10_received 46 = .ok (.iaload, 1) := by decide +kernel
theorem dX10_received_47 : decode cX10_received 47 = .ok (.ireturn, 1) := by decide +kernel
theorem dX10_received_48 : decode cX10_received 48 = .ok (.aload_n 0, 1) := by decide +kernel
theorem dX10_received_49 : decode cX10_received 49 = .ok (.getfield 80, 3) := by decide +kernel
theorem dX10_received_52 : decode cX10_received 52 = .ok (.iload_n 1, 1) := by decide +kernel
theorem dX10_received_53 : decode cX10_received 53 = .ok (.iaload, 1) := by decide +kernel
theorem dX10_received_54 : decode cX10_received 54 = .ok (.iconst 1, 1) := by decide +kernel
theorem dX10_received_55 : decode cX10_received 55 = .ok (.if_icmp .eq 5, 3) := by decide +kernel
theorem dX10_received_58 : decode cX10_received 58 = .ok (.iconst 0, 1) := by decide +kernel
theorem dX10_received_59 : decode cX10_received 59 = .ok (.ireturn, 1) := by decide +kernel
theorem dX10_received_60 : decode cX10_received 60 = .ok (.iload_n 2, 1) := by decide +kernel
theorem dX10_received_61 : decode cX10_received 61 = .ok (.iconst 2, 1) := by decide +kernel
theorem dX10_received_62 : decode cX10_received 62 = .ok (.if_icmp .ne 11, 3) := by decide +kernel
theorem dX10_received_65 : decode cX10_received 65 = .ok (.aload_n 0, 1) := by decide +kernel
theorem dX10_received_66 : decode cX10_received 66 = .ok (.iload_n 1, 1) := by decide +kernel
theorem dX10_received_67 : decode cX10_received 67 = .ok (.invokevirtual 173, 3) := by decide +kernel
theorem dX10_received_70 : decode cX10_received 70 = .ok (.goto 51, 3) := by decide +kernel
theorem dX10_received_73 : decode cX10_received 73 = .ok (.iload_n 2, 1) := by decide +kernel
theorem dX10_received_74 : decode cX10_received 74 = .ok (.iconst 3, 1) := by decide +kernel
theorem dX10_received_75 : decode cX10_received 75 = .ok (.if_icmp .ne 12, 3) := by decide +kernel
theorem dX10_received_78 : decode cX10_received 78 = .ok (.aload_n 0, 1) := by decide +kernel
theorem dX10_received_79 : decode cX10_received 79 = .ok (.getfield 86, 3) := by decide +kernel
theorem dX10_received_82 : decode cX10_received 82 = .ok (.iload_n 1, 1) := by decide +kernel
theorem dX10_received_83 : decode cX10_received 83 = .ok (.iaload, 1) := by decide +kernel
theorem dX10_received_84 : decode cX10_received 84 = .ok (.goto 37, 3) := by decide +kernel
theorem dX10_received_87 : decode cX10_received 87 = .ok (.iload_n 2, 1) := by decide +kernel
theorem dX10_received_88 : decode cX10_received 88 = .ok (.iconst 4, 1) := by decide +kernel
theorem dX10_received_89 : decode cX10_received 89 = .ok (.if_icmp .ne 12, 3) := by decide +kernel
theorem dX10_received_92 : decode cX10_received 92 = .ok (.aload_n 0, 1) := by decide +kernel
theorem dX10_received_93 : decode cX10_received 93 = .ok (.getfield 89, 3) := by decide +kernel
theorem dX10_received_96 : decode cX10_received 96 = .ok (.iload_n 1, 1) := by decide +kernel
theorem dX10_received_97 : decode cX10_received 97 = .ok (.iaload, 1) := by decide +kernel
theorem dX10_received_98 : decode cX10_received 98 = .ok (.goto 23, 3) := by decide +kernel
theorem dX10_received_101 : decode cX10_received 101 = .ok (.iload_n 2, 1) := by decide +kernel
theorem dX10_received_102 : decode cX10_received 102 = .ok (.iconst 5, 1) := by decide +kernel
theorem dX10_received_103 : decode cX10_received 103 = .ok (.if_icmp .ne 12, 3) := by decide +kernel
theorem dX10_received_106 : decode cX10_received 106 = .ok (.aload_n 0, 1) := by decide +kernel
theorem dX10_received_107 : decode cX10_received 107 = .ok (.getfield 92, 3) := by decide +kernel
theorem dX10_received_110 : decode cX10_received 110 = .ok (.iload_n 1, 1) := by decide +kernel
theorem dX10_received_111 : decode cX10_received 111 = .ok (.iaload, 1) := by decide +kernel
theorem dX10_received_112 : decode cX10_received 112 = .ok (.goto 9, 3) := by decide +kernel
theorem dX10_received_115 : decode cX10_received 115 = .ok (.aload_n 0, 1) := by decide +kernel
theorem dX10_received_116 : decode cX10_received 116 = .ok (.getfield 95, 3) := by decide +kernel
theorem dX10_received_119 : decode cX10_received 119 = .ok (.iload_n 1, 1) := by decide +kernel
theorem dX10_received_120 : decode cX10_received 120 = .ok (.iaload, 1) := by decide +kernel
theorem dX10_received_121 : decode cX10_received 121 = .ok (.ireturn, 1) := by decide +kernel
theorem dX10_in_0 : decode cX10_in 0 = .ok (.aload_n 0, 1) := by decide +kernel
theorem dX10_in_1 : decode cX10_in 1 = .ok (.iconst 0, 1) := by decide +kernel
theorem dX10_in_2 : decode cX10_in 2 = .ok (.putfield 134, 3) := by decide +kernel
theorem dX10_in_5 : decode cX10_in 5 = .ok (.aload_n 0, 1) := by decide +kernel
theorem dX10_in_6 : decode cX10_in 6 = .ok (.iload_n 1, 1) := by decide +kernel
theorem dX10_in_7 : decode cX10_in 7 = .ok (.invokevirtual 225, 3) := by decide +kernel
theorem dX10_in_10 : decode cX10_in 10 = .ok (.ifCond .eq 35, 3) := by decide +kernel
theorem dX10_in_13 : decode cX10_in 13 = .ok (.iload_n 2, 1) := by decide +kernel
theorem dX10_in_14 : decode cX10_in 14 = .ok (.ifCond .lt 31, 3) := by decide +kernel
theorem dX10_in_17 : decode cX10_in 17 = .ok (.iload_n 2, 1) := by decide +kernel
theorem dX10_in_18 : decode cX10_in 18 = .ok (.aload_n 0, 1) := by decide +kernel
theorem dX10_in_19 : decode cX10_in 19 = .ok (.getfield 50, 3) := by decide +kernel
theorem dX10_in_22 : decode cX10_in 22 = .ok (.iload_n 1, 1) := by decide +kernel
theorem dX10_in_23 : decode cX10_in 23 = .ok (.iaload, 1) := by decide +kernel
theorem dX10_in_24 : decode cX10_in 24 = .ok (.if_icmp .ge 21, 3) := by decide +kernel
theorem dX10_in_27 : decode cX10_in 27 = .ok (.aload_n 0, 1) := by decide +kernel
theorem dX10_in_28 : decode cX10_in 28 = .ok (.getfield 101, 3) := by decide +kernel
theorem dX10_in_31 : decode cX10_in 31 = .ok (.bipush 60, 2) := by decide +kernel
theorem dX10_in_33 : decode cX10_in 33 = .ok (.iload_n 1, 1) := by decide +kernel
theorem dX10_in_34 : decode cX10_in 34 = .ok (.imul, 1) := by decide +kernel
theorem dX10_in_35 : decode cX10_in 35 = .ok (.iload_n 2, 1) := by decide +kernel
theorem dX10_in_36 : decode cX10_in 36 = .ok (.iadd, 1) := by decide +kernel
theorem dX10_in_37 : decode cX10_in 37 = .ok (.baload, 1) := by decide +kernel
theorem dX10_in_38 : decode cX10_in 38 = .ok (.ifCond .eq 7, 3) := by decide +kernel
theorem dX10_in_41 : decode cX10_in 41 = .ok (.iconst 1, 1) := by decide +kernel
theorem dX10_in_42 : decode cX10_in 42 = .ok (.goto 4, 3) := by decide +kernel
theorem dX10_in_45 : decode cX10_in 45 = .ok (.iconst 0, 1) := by decide +kernel
theorem dX10_in_46 : decode cX10_in 46 = .ok (.ireturn, 1) := by decide +kernel
theorem dX10_finished_0 : decode cX10_finished 0 = .ok (.aload_n 0, 1) := by decide +kernel
theorem dX10_finished_1 : decode cX10_finished 1 = .ok (.iconst 0, 1) := by decide +kernel
theorem dX10_finished_2 : decode cX10_finished 2 = .ok (.putfield 134, 3) := by decide +kernel
theorem dX10_finished_5 : decode cX10_finished 5 = .ok (.iload_n 1, 1) := by decide +kernel
theorem dX10_finished_6 : decode cX10_finished 6 = .ok (.ifCond .lt 29, 3) := by decide +kernel
theorem dX10_finished_9 : decode cX10_finished 9 = .ok (.iload_n 1, 1) := by decide +kernel
theorem dX10_finished_10 : decode cX10_finished 10 = .ok (.bipush 8, 2) := by decide +kernel
theorem dX10_finished_12 : decode cX10_finished 12 = .ok (.if_icmp .ge 23, 3) := by decide +kernel
theorem dX10_finished_15 : decode cX10_finished 15 = .ok (.iload_n 2, 1) := by decide +kernel
theorem dX10_finished_16 : decode cX10_finished 16 = .ok (.ifCond .lt 19, 3) := by decide +kernel
theorem dX10_finished_19 : decode cX10_finished 19 = .ok (.iload_n 2, 1) := by decide +kernel
theorem dX10_finished_20 : decode cX10_finished 20 = .ok (.bipush 63, 2) := by decide +kernel
theorem dX10_finished_22 : decode cX10_finished 22 = .ok (.if_icmp .gt 13, 3) := by decide +kernel
theorem dX10_finished_25 : decode cX10_finished 25 = .ok (.iload_n 2, 1) := by decide +kernel
theorem dX10_finished_26 : decode cX10_finished 26 = .ok (.aload_n 0, 1) := by decide +kernel
theorem dX10_finished_27 : decode cX10_finished 27 = .ok (.getfield 128, 3) := by decide +kernel
theorem dX10_finished_30 : decode cX10_finished 30 = .ok (.iload_n 1, 1) := by decide +kernel
theorem dX10_finished_31 : decode cX10_finished 31 = .ok (.iaload, 1) := by decide +kernel
theorem dX10_finished_32 : decode cX10_finished 32 = .ok (.if_icmp .lt 5, 3) := by decide +kernel
theorem dX10_finished_35 : decode cX10_finished 35 = .ok (.iconst (-1), 1) := by decide +kernel
theorem dX10_finished_36 : decode cX10_finished 36 = .ok (.ireturn, 1) := by decide +kernel
theorem dX10_finished_37 : decode cX10_finished 37 = .ok (.aload_n 0, 1) := by decide +kernel
theorem dX10_finished_38 : decode cX10_finished 38 = .ok (.getfield 131, 3) := by decide +kernel
theorem dX10_finished_41 : decode cX10_finished 41 = .ok (.bipush 64, 2) := by decide +kernel
theorem dX10_finished_43 : decode cX10_finished 43 = .ok (.iload_n 1, 1) := by decide +kernel
theorem dX10_finished_44 : decode cX10_finished 44 = .ok (.imul, 1) := by decide +kernel
theorem dX10_finished_45 : decode cX10_finished 45 = .ok (.aload_n 0, 1) := by decide +kernel
theorem dX10_finished_46 : decode cX10_finished 46 = .ok (.getfield 128, 3) := by decide +kernel
theorem dX10_finished_49 : decode cX10_finished 49 = .ok (.iload_n 1, 1) := by decide +kernel
theorem dX10_finished_50 : decode cX10_finished 50 = .ok (.iaload, 1) := by decide +kernel
theorem dX10_finished_51 : decode cX10_finished 51 = .ok (.iconst 1, 1) := by decide +kernel
theorem dX10_finished_52 : decode cX10_finished 52 = .ok (.isub, 1) := by decide +kernel
theorem dX10_finished_53 : decode cX10_finished 53 = .ok (.iload_n 2, 1) := by decide +kernel
theorem dX10_finished_54 : decode cX10_finished 54 = .ok (.isub, 1) := by decide +kernel
theorem dX10_finished_55 : decode cX10_finished 55 = .ok (.bipush 64, 2) := by decide +kernel
theorem dX10_finished_57 : decode cX10_finished 57 = .ok (.irem, 1) := by decide +kernel
theorem dX10_finished_58 : decode cX10_finished 58 = .ok (.iadd, 1) := by decide +kernel
theorem dX10_finished_59 : decode cX10_finished 59 = .ok (.iaload, 1) := by decide +kernel
theorem dX10_finished_60 : decode cX10_finished 60 = .ok (.ireturn, 1) := by decide +kernel
theorem dX10_chosen_0 : decode cX10_chosen 0 = .ok (.aload_n 0, 1) := by decide +kernel
theorem dX10_chosen_1 : decode cX10_chosen 1 = .ok (.iconst 0, 1) := by decide +kernel
theorem dX10_chosen_2 : decode cX10_chosen 2 = .ok (.putfield 134, 3) := by decide +kernel
theorem dX10_chosen_5 : decode cX10_chosen 5 = .ok (.iload_n 1, 1) := by decide +kernel
theorem dX10_chosen_6 : decode cX10_chosen 6 = .ok (.ifCond .lt 23, 3) := by decide +kernel
theorem dX10_chosen_9 : decode cX10_chosen 9 = .ok (.iload_n 1, 1) := by decide +kernel
theorem dX10_chosen_10 : decode cX10_chosen 10 = .ok (.bipush 8, 2) := by decide +kernel
theorem dX10_chosen_12 : decode cX10_chosen 12 = .ok (.if_icmp .ge 17, 3) := by decide +kernel
theorem dX10_chosen_15 : decode cX10_chosen 15 = .ok (.iload_n 2, 1) := by decide +kernel
theorem dX10_chosen_16 : decode cX10_chosen 16 = .ok (.ifCond .lt 13, 3) := by decide +kernel
theorem dX10_chosen_19 : decode cX10_chosen 19 = .ok (.iload_n 2, 1) := by decide +kernel
theorem dX10_chosen_20 : decode cX10_chosen 20 = .ok (.aload_n 0, 1) := by decide +kernel
theorem dX10_chosen_21 : decode cX10_chosen 21 = .ok (.getfield 125, 3) := by decide +kernel
theorem dX10_chosen_24 : decode cX10_chosen 24 = .ok (.iload_n 1, 1) := by decide +kernel
theorem dX10_chosen_25 : decode cX10_chosen 25 = .ok (.iaload, 1) := by decide +kernel
theorem dX10_chosen_26 : decode cX10_chosen 26 = .ok (.if_icmp .lt 7, 3) := by decide +kernel
theorem dX10_chosen_29 : decode cX10_chosen 29 = .ok (.iconst (-1), 1) := by decide +kernel
theorem dX10_chosen_30 : decode cX10_chosen 30 = .ok (.goto 13, 3) := by decide +kernel
theorem dX10_chosen_33 : decode cX10_chosen 33 = .ok (.aload_n 0, 1) := by decide +kernel
theorem dX10_chosen_34 : decode cX10_chosen 34 = .ok (.getfield 122, 3) := by decide +kernel
theorem dX10_chosen_37 : decode cX10_chosen 37 = .ok (.iconst 3, 1) := by decide +kernel
theorem dX10_chosen_38 : decode cX10_chosen 38 = .ok (.iload_n 1, 1) := by decide +kernel
theorem dX10_chosen_39 : decode cX10_chosen 39 = .ok (.imul, 1) := by decide +kernel
theorem dX10_chosen_40 : decode cX10_chosen 40 = .ok (.iload_n 2, 1) := by decide +kernel
theorem dX10_chosen_41 : decode cX10_chosen 41 = .ok (.iadd, 1) := by decide +kernel
theorem dX10_chosen_42 : decode cX10_chosen 42 = .ok (.iaload, 1) := by decide +kernel
theorem dX10_chosen_43 : decode cX10_chosen 43 = .ok (.ireturn, 1) := by decide +kernel
theorem dX10_host_0 : decode cX10_host 0 = .ok (.aload_n 0, 1) := by decide +kernel
theorem dX10_host_1 : decode cX10_host 1 = .ok (.iconst 0, 1) := by decide +kernel
theorem dX10_host_2 : decode cX10_host 2 = .ok (.putfield 134, 3) := by decide +kernel
theorem dX10_host_5 : decode cX10_host 5 = .ok (.iload_n 1, 1) := by decide +kernel
theorem dX10_host_6 : decode cX10_host 6 = .ok (.ifCond .lt 18, 3) := by decide +kernel
theorem dX10_host_9 : decode cX10_host 9 = .ok (.iload_n 1, 1) := by decide +kernel
theorem dX10_host_10 : decode cX10_host 10 = .ok (.bipush 8, 2) := by decide +kernel
theorem dX10_host_12 : decode cX10_host 12 = .ok (.if_icmp .ge 12, 3) := by decide +kernel
theorem dX10_host_15 : decode cX10_host 15 = .ok (.iload_n 2, 1) := by decide +kernel
theorem dX10_host_16 : decode cX10_host 16 = .ok (.ifCond .lt 8, 3) := by decide +kernel
theorem dX10_host_19 : decode cX10_host 19 = .ok (.iload_n 2, 1) := by decide +kernel
theorem dX10_host_20 : decode cX10_host 20 = .ok (.iconst 5, 1) := by decide +kernel
theorem dX10_host_21 : decode cX10_host 21 = .ok (.if_icmp .le 5, 3) := by decide +kernel
theorem dX10_host_24 : decode cX10_host 24 = .ok (.iconst (-1), 1) := by decide +kernel
theorem dX10_host_25 : decode cX10_host 25 = .ok (.ireturn, 1) := by decide +kernel
theorem dX10_host_26 : decode cX10_host 26 = .ok (.iconst 0, 1) := by decide +kernel
theorem dX10_host_27 : decode cX10_host 27 = .ok (.istore_n 3, 1) := by decide +kernel
theorem dX10_host_28 : decode cX10_host 28 = .ok (.iload_n 2, 1) := by decide +kernel
theorem dX10_host_29 : decode cX10_host 29 = .ok (.ifCond .ne 90, 3) := by decide +kernel
theorem dX10_host_32 : decode cX10_host 32 = .ok (.iconst 0, 1) := by decide +kernel
theorem dX10_host_33 : decode cX10_host 33 = .ok (.istore 4, 2) := by decide +kernel
theorem dX10_host_35 : decode cX10_host 35 = .ok (.iload 4, 2) := by decide +kernel
theorem dX10_host_37 : decode cX10_host 37 = .ok (.aload_n 0, 1) := by decide +kernel
theorem dX10_host_38 : decode cX10_host 38 = .ok (.getfield 138, 3) := by decide +kernel
theorem dX10_host_41 : decode cX10_host 41 = .ok (.if_icmp .ge 76, 3) := by decide +kernel
theorem dX10_host_44 : decode cX10_host 44 = .ok (.aload_n 0, 1) := by decide +kernel
theorem dX10_host_45 : decode cX10_host 45 = .ok (.getfield 50, 3) := by decide +kernel
theorem dX10_host_48 : decode cX10_host 48 = .ok (.iload 4, 2) := by decide +kernel
theorem dX10_host_50 : decode cX10_host 50 = .ok (.iaload, 1) := by decide +kernel
theorem dX10_host_51 : decode cX10_host 51 = .ok (.aload_n 0, 1) := by decide +kernel
theorem dX10_host_52 : decode cX10_host 52 = .ok (.iload 4, 2) := by decide +kernel
theorem dX10_host_54 : decode cX10_host 54 = .ok (.invokevirtual 173, 3) := by decide +kernel
theorem dX10_host_57 : decode cX10_host 57 = .ok (.isub, 1) := by decide +kernel
theorem dX10_host_58 : decode cX10_host 58 = .ok (.istore 5, 2) := by decide +kernel
theorem dX10_host_60 : decode cX10_host 60 = .ok (.iload_n 3, 1) := by decide +kernel
theorem dX10_host_61 : decode cX10_host 61 = .ok (.aload_n 0, 1) := by decide +kernel
theorem dX10_host_62 : decode cX10_host 62 = .ok (.getfield 47, 3) := by decide +kernel
theorem dX10_host_65 : decode cX10_host 65 = .ok (.iload 4, 2) := by decide +kernel
theorem dX10_host_67 : decode cX10_host 67 = .ok (.iaload, 1) := by decide +kernel
theorem dX10_host_68 : decode cX10_host 68 = .ok (.iload_n 1, 1) := by decide +kernel
theorem dX10_host_69 : decode cX10_host 69 = .ok (.if_icmp .ne 39, 3) := by decide +kernel
theorem dX10_host_72 : decode cX10_host 72 = .ok (.aload_n 0, 1) := by decide +kernel
theorem dX10_host_73 : decode cX10_host 73 = .ok (.getfield 80, 3) := by decide +kernel
theorem dX10_host_76 : decode cX10_host 76 = .ok (.iload 4, 2) := by decide +kernel
theorem dX10_host_78 : decode cX10_host 78 = .ok (.iaload, 1) := by decide +kernel
theorem dX10_host_79 : decode cX10_host 79 = .ok (.iconst 1, 1) := by decide +kernel
theorem dX10_host_80 : decode cX10_host 80 = .ok (.if_icmp .ne 28, 3) := by decide +kernel
theorem dX10_host_83 : decode cX10_host 83 = .ok (.aload_n 0, 1) := by decide +kernel
theorem dX10_host_84 : decode cX10_host 84 = .ok (.getfield 86, 3) := by decide +kernel
theorem dX10_host_87 : decode cX10_host 87 = .ok (.iload 4, 2) := by decide +kernel
theorem dX10_host_89 : decode cX10_host 89 = .ok (.iaload, 1) := by decide +kernel
theorem dX10_host_90 : decode cX10_host 90 = .ok (.iload 5, 2) := by decide +kernel
theorem dX10_host_92 : decode cX10_host 92 = .ok (.if_icmp .le 16, 3) := by decide +kernel
theorem dX10_host_95 : decode cX10_host 95 = .ok (.aload_n 0, 1) := by decide +kernel
theorem dX10_host_96 : decode cX10_host 96 = .ok (.getfield 86, 3) := by decide +kernel
theorem dX10_host_99 : decode cX10_host 99 = .ok (.iload 4, 2) := by decide +kernel
theorem dX10_host_101 : decode cX10_host 101 = .ok (.iaload, 1) := by decide +kernel
theorem dX10_host_102 : decode cX10_host 102 = .ok (.iload 5, 2) := by decide +kernel
theorem dX10_host_104 : decode cX10_host 104 = .ok (.isub, 1) := by decide +kernel
theorem dX10_host_105 : decode cX10_host 105 = .ok (.goto 4, 3) := by decide +kernel
theorem dX10_host_108 : decode cX10_host 108 = .ok (.iconst 0, 1) := by decide +kernel
theorem dX10_host_109 : decode cX10_host 109 = .ok (.iadd, 1) := by decide +kernel
theorem dX10_host_110 : decode cX10_host 110 = .ok (.istore_n 3, 1) := by decide +kernel
theorem dX10_host_111 : decode cX10_host 111 = .ok (.iinc 4 1, 3) := by decide +kernel
theorem dX10_host_114 : decode cX10_host 114 = .ok (.goto (-79), 3) := by decide +kernel
theorem dX10_host_117 : decode cX10_host 117 = .ok (.iload_n 3, 1) := by decide +kernel
theorem dX10_host_118 : decode cX10_host 118 = .ok (.ireturn, 1) := by decide +kernel
theorem dX10_host_119 : decode cX10_host 119 = .ok (.iload_n 2, 1) := by decide +kernel
theorem dX10_host_120 : decode cX10_host 120 = .ok (.iconst 1, 1) := by decide +kernel
theorem dX10_host_121 : decode cX10_host 121 = .ok (.if_icmp .ne 12, 3) := by decide +kernel
theorem dX10_host_124 : decode cX10_host 124 = .ok (.aload_n 0, 1) := by decide +kernel
theorem dX10_host_125 : decode cX10_host 125 = .ok (.getfield 107, 3) := by decide +kernel
theorem dX10_host_128 : decode cX10_host 128 = .ok (.iload_n 1, 1) := by decide +kernel
theorem dX10_host_129 : decode cX10_host 129 = .ok (.iaload, 1) := by decide +kernel
theorem dX10_host_130 : decode cX10_host 130 = .ok (.goto 39, 3) := by decide +kernel
theorem dX10_host_133 : decode cX10_host 133 = .ok (.iload_n 2, 1) := by decide +kernel
theorem dX10_host_134 : decode cX10_host 134 = .ok (.iconst 4, 1) := by decide +kernel
theorem dX10_host_135 : decode cX10_host 135 = .ok (.if_icmp .ge 14, 3) := by decide +kernel
theorem dX10_host_138 : decode cX10_host 138 = .ok (.aload_n 0, 1) := by decide +kernel
theorem dX10_host_139 : decode cX10_host 139 = .ok (.iload_n 1, 1) := by decide +kernel
theorem dX10_host_140 : decode cX10_host 140 = .ok (.iload_n 2, 1) := by decide +kernel
theorem dX10_host_141 : decode cX10_host 141 = .ok (.iconst 1, 1) := by decide +kernel
theorem dX10_host_142 : decode cX10_host 142 = .ok (.isub, 1) := by decide +kernel
theorem dX10_host_143 : decode cX10_host 143 = .ok (.invokevirtual 203, 3) := by decide +kernel
theorem dX10_host_146 : decode cX10_host 146 = .ok (.goto 23, 3) := by decide +kernel
theorem dX10_host_149 : decode cX10_host 149 = .ok (.iload_n 2, 1) := by decide +kernel
theorem dX10_host_150 : decode cX10_host 150 = .ok (.iconst 4, 1) := by decide +kernel
theorem dX10_host_151 : decode cX10_host 151 = .ok (.if_icmp .ne 12, 3) := by decide +kernel
theorem dX10_host_154 : decode cX10_host 154 = .ok (.aload_n 0, 1) := by decide +kernel
theorem dX10_host_155 : decode cX10_host 155 = .ok (.getfield 119, 3) := by decide +kernel
theorem dX10_host_158 : decode cX10_host 158 = .ok (.iload_n 1, 1) := by decide +kernel
theorem dX10_host_159 : decode cX10_host 159 = .ok (.iaload, 1) := by decide +kernel
theorem dX10_host_160 : decode cX10_host 160 = .ok (.goto 9, 3) := by decide +kernel
theorem dX10_host_163 : decode cX10_host 163 = .ok (.aload_n 0, 1) := by decide +kernel
theorem dX10_host_164 : decode cX10_host 164 = .ok (.getfield 128, 3) := by decide +kernel
theorem dX10_host_167 : decode cX10_host 167 = .ok (.iload_n 1, 1) := by decide +kernel
theorem dX10_host_168 : decode cX10_host 168 = .ok (.iaload, 1) := by decide +kernel
theorem dX10_host_169 : decode cX10_host 169 = .ok (.ireturn, 1) := by decide +kernel
theorem dX10_queue_0 : decode cX10_queue 0 = .ok (.aload_n 0, 1) := by decide +kernel
theorem dX10_queue_1 : decode cX10_queue 1 = .ok (.iconst 0, 1) := by decide +kernel
theorem dX10_queue_2 : decode cX10_queue 2 = .ok (.putfield 134, 3) := by decide +kernel
theorem dX10_queue_5 : decode cX10_queue 5 = .ok (.iload_n 1, 1) := by decide +kernel
theorem dX10_queue_6 : decode cX10_queue 6 = .ok (.bipush 8, 2) := by decide +kernel
theorem dX10_queue_8 : decode cX10_queue 8 = .ok (.if_icmp .lt 18, 3) := by decide +kernel
theorem dX10_queue_11 : decode cX10_queue 11 = .ok (.iload_n 1, 1) := by decide +kernel
theorem dX10_queue_12 : decode cX10_queue 12 = .ok (.bipush 24, 2) := by decide +kernel
theorem dX10_queue_14 : decode cX10_queue 14 = .ok (.if_icmp .ge 12, 3) := by decide +kernel
theorem dX10_queue_17 : decode cX10_queue 17 = .ok (.iload_n 2, 1) := by decide +kernel
theorem dX10_queue_18 : decode cX10_queue 18 = .ok (.ifCond .lt 8, 3) := by decide +kernel
theorem dX10_queue_21 : decode cX10_queue 21 = .ok (.iload_n 2, 1) := by decide +kernel
theorem dX10_queue_22 : decode cX10_queue 22 = .ok (.iconst 3, 1) := by decide +kernel
theorem dX10_queue_23 : decode cX10_queue 23 = .ok (.if_icmp .le 7, 3) := by decide +kernel
theorem dX10_queue_26 : decode cX10_queue 26 = .ok (.iconst (-1), 1) := by decide +kernel
theorem dX10_queue_27 : decode cX10_queue 27 = .ok (.goto 13, 3) := by decide +kernel
theorem dX10_queue_30 : decode cX10_queue 30 = .ok (.aload_n 0, 1) := by decide +kernel
theorem dX10_queue_31 : decode cX10_queue 31 = .ok (.getfield 25, 3) := by decide +kernel
theorem dX10_queue_34 : decode cX10_queue 34 = .ok (.iconst 4, 1) := by decide +kernel
theorem dX10_queue_35 : decode cX10_queue 35 = .ok (.iload_n 1, 1) := by decide +kernel
theorem dX10_queue_36 : decode cX10_queue 36 = .ok (.imul, 1) := by decide +kernel
theorem dX10_queue_37 : decode cX10_queue 37 = .ok (.iload_n 2, 1) := by decide +kernel
theorem dX10_queue_38 : decode cX10_queue 38 = .ok (.iadd, 1) := by decide +kernel
theorem dX10_queue_39 : decode cX10_queue 39 = .ok (.iaload, 1) := by decide +kernel
theorem dX10_queue_40 : decode cX10_queue 40 = .ok (.ireturn, 1) := by decide +kernel
theorem dX10_packet_0 : decode cX10_packet 0 = .ok (.aload_n 0, 1) := by decide +kernel
theorem dX10_packet_1 : decode cX10_packet 1 = .ok (.iconst 0, 1) := by decide +kernel
theorem dX10_packet_2 : decode cX10_packet 2 = .ok (.putfield 134, 3) := by decide +kernel
theorem dX10_packet_5 : decode cX10_packet 5 = .ok (.iload_n 1, 1) := by decide +kernel
theorem dX10_packet_6 : decode cX10_packet 6 = .ok (.ifCond .lt 28, 3) := by decide +kernel
theorem dX10_packet_9 : decode cX10_packet 9 = .ok (.iload_n 1, 1) := by decide +kernel
theorem dX10_packet_10 : decode cX10_packet 10 = .ok (.bipush 24, 2) := by decide +kernel
theorem dX10_packet_12 : decode cX10_packet 12 = .ok (.if_icmp .ge 22, 3) := by decide +kernel
theorem dX10_packet_15 : decode cX10_packet 15 = .ok (.aload_n 0, 1) := by decide +kernel
theorem dX10_packet_16 : decode cX10_packet 16 = .ok (.getfield 7, 3) := by decide +kernel
theorem dX10_packet_19 : decode cX10_packet 19 = .ok (.iload_n 1, 1) := by decide +kernel
theorem dX10_packet_20 : decode cX10_packet 20 = .ok (.iaload, 1) := by decide +kernel
theorem dX10_packet_21 : decode cX10_packet 21 = .ok (.iconst (-1), 1) := by decide +kernel
theorem dX10_packet_22 : decode cX10_packet 22 = .ok (.if_icmp .eq 12, 3) := by decide +kernel
theorem dX10_packet_25 : decode cX10_packet 25 = .ok (.iload_n 2, 1) := by decide +kernel
theorem dX10_packet_26 : decode cX10_packet 26 = .ok (.ifCond .lt 8, 3) := by decide +kernel
theorem dX10_packet_29 : decode cX10_packet 29 = .ok (.iload_n 2, 1) := by decide +kernel
theorem dX10_packet_30 : decode cX10_packet 30 = .ok (.iconst 3, 1) := by decide +kernel
theorem dX10_packet_31 : decode cX10_packet 31 = .ok (.if_icmp .le 5, 3) := by decide +kernel
theorem dX10_packet_34 : decode cX10_packet 34 = .ok (.iconst (-1), 1) := by decide +kernel
theorem dX10_packet_35 : decode cX10_packet 35 = .ok (.ireturn, 1) := by decide +kernel
theorem dX10_packet_36 : decode cX10_packet 36 = .ok (.iload_n 2, 1) := by decide +kernel
theorem dX10_packet_37 : decode cX10_packet 37 = .ok (.ifCond .ne 12, 3) := by decide +kernel
theorem dX10_packet_40 : decode cX10_packet 40 = .ok (.aload_n 0, 1) := by decide +kernel
theorem dX10_packet_41 : decode cX10_packet 41 = .ok (.getfield 7, 3) := by decide +kernel
theorem dX10_packet_44 : decode cX10_packet 44 = .ok (.iload_n 1, 1) := by decide +kernel
theorem dX10_packet_45 : decode cX10_packet 45 = .ok (.iaload, 1) := by decide +kernel
theorem dX10_packet_46 : decode cX10_packet 46 = .ok (.goto 37, 3) := by decide +kernel
theorem dX10_packet_49 : decode cX10_packet 49 = .ok (.iload_n 2, 1) := by decide +kernel
theorem dX10_packet_50 : decode cX10_packet 50 = .ok (.iconst 1, 1) := by decide +kernel
theorem dX10_packet_51 : decode cX10_packet 51 = .ok (.if_icmp .ne 12, 3) := by decide +kernel
theorem dX10_packet_54 : decode cX10_packet 54 = .ok (.aload_n 0, 1) := by decide +kernel
theorem dX10_packet_55 : decode cX10_packet 55 = .ok (.getfield 13, 3) := by decide +kernel
theorem dX10_packet_58 : decode cX10_packet 58 = .ok (.iload_n 1, 1) := by decide +kernel
theorem dX10_packet_59 : decode cX10_packet 59 = .ok (.iaload, 1) := by decide +kernel
theorem dX10_packet_60 : decode cX10_packet 60 = .ok (.goto 23, 3) := by decide +kernel
theorem dX10_packet_63 : decode cX10_packet 63 = .ok (.iload_n 2, 1) := by decide +kernel
theorem dX10_packet_64 : decode cX10_packet 64 = .ok (.iconst 2, 1) := by decide +kernel
theorem dX10_packet_65 : decode cX10_packet 65 = .ok (.if_icmp .ne 12, 3) := by decide +kernel
theorem dX10_packet_68 : decode cX10_packet 68 = .ok (.aload_n 0, 1) := by decide +kernel
theorem dX10_packet_69 : decode cX10_packet 69 = .ok (.getfield 16, 3) := by decide +kernel
theorem dX10_packet_72 : decode cX10_packet 72 = .ok (.iload_n 1, 1) := by decide +kernel
theorem dX10_packet_73 : decode cX10_packet 73 = .ok (.iaload, 1) := by decide +kernel
theorem dX10_packet_74 : decode cX10_packet 74 = .ok (.goto 9, 3) := by decide +kernel
theorem dX10_packet_77 : decode cX10_packet 77 = .ok (.aload_n 0, 1) := by decide +kernel
theorem dX10_packet_78 : decode cX10_packet 78 = .ok (.getfield 19, 3) := by decide +kernel
theorem dX10_packet_81 : decode cX10_packet 81 = .ok (.iload_n 1, 1) := by decide +kernel
theorem dX10_packet_82 : decode cX10_packet 82 = .ok (.iaload, 1) := by decide +kernel
theorem dX10_packet_83 : decode cX10_packet 83 = .ok (.ireturn, 1) := by decide +kernel
theorem dX10_total_0 : decode cX10_total 0 = .ok (.aload_n 0, 1) := by decide +kernel
theorem dX10_total_1 : decode cX10_total 1 = .ok (.iconst 0, 1) := by decide +kernel
theorem dX10_total_2 : decode cX10_total 2 = .ok (.putfield 134, 3) := by decide +kernel
theorem dX10_total_5 : decode cX10_total 5 = .ok (.iload_n 1, 1) := by decide +kernel
theorem dX10_total_6 : decode cX10_total 6 = .ok (.ifCond .ne 8, 3) := by decide +kernel
theorem dX10_total_9 : decode cX10_total 9 = .ok (.aload_n 0, 1) := by decide +kernel
theorem dX10_total_10 : decode cX10_total 10 = .ok (.getfield 144, 3) := by decide +kernel
theorem dX10_total_13 : decode cX10_total 13 = .ok (.ireturn, 1) := by decide +kernel
theorem dX10_total_14 : decode cX10_total 14 = .ok (.iload_n 1, 1) := by decide +kernel
theorem dX10_total_15 : decode cX10_total 15 = .ok (.iconst 1, 1) := by decide +kernel
theorem dX10_total_16 : decode cX10_total 16 = .ok (.if_icmp .ne 8, 3) := by decide +kernel
theorem dX10_total_19 : decode cX10_total 19 = .ok (.aload_n 0, 1) := by decide +kernel
theorem dX10_total_20 : decode cX10_total 20 = .ok (.getfield 141, 3) := by decide +kernel
theorem dX10_total_23 : decode cX10_total 23 = .ok (.ireturn, 1) := by decide +kernel
theorem dX10_total_24 : decode cX10_total 24 = .ok (.iload_n 1, 1) := by decide +kernel
theorem dX10_total_25 : decode cX10_total 25 = .ok (.iconst 2, 1) := by decide +kernel
theorem dX10_total_26 : decode cX10_total 26 = .ok (.if_icmp .eq 5, 3) := by decide +kernel
theorem dX10_total_29 : decode cX10_total 29 = .ok (.iconst (-1), 1) := by decide +kernel
theorem dX10_total_30 : decode cX10_total 30 = .ok (.ireturn, 1) := by decide +kernel
theorem dX10_total_31 : decode cX10_total 31 = .ok (.iconst 0, 1) := by decide +kernel
theorem dX10_total_32 : decode cX10_total 32 = .ok (.istore_n 2, 1) := by decide +kernel
theorem dX10_total_33 : decode cX10_total 33 = .ok (.iconst 0, 1) := by decide +kernel
theorem dX10_total_34 : decode cX10_total 34 = .ok (.istore_n 3, 1) := by decide +kernel
theorem dX10_total_35 : decode cX10_total 35 = .ok (.iload_n 3, 1) := by decide +kernel
theorem dX10_total_36 : decode cX10_total 36 = .ok (.bipush 24, 2) := by decide +kernel
theorem dX10_total_38 : decode cX10_total 38 = .ok (.if_icmp .ge 27, 3) := by decide +kernel
theorem dX10_total_41 : decode cX10_total 41 = .ok (.iload_n 2, 1) := by decide +kernel
theorem dX10_total_42 : decode cX10_total 42 = .ok (.aload_n 0, 1) := by decide +kernel
theorem dX10_total_43 : decode cX10_total 43 = .ok (.getfield 7, 3) := by decide +kernel
theorem dX10_total_46 : decode cX10_total 46 = .ok (.iload_n 3, 1) := by decide +kernel
theorem dX10_total_47 : decode cX10_total 47 = .ok (.iaload, 1) := by decide +kernel
theorem dX10_total_48 : decode cX10_total 48 = .ok (.iconst (-1), 1) := by decide +kernel
theorem dX10_total_49 : decode cX10_total 49 = .ok (.if_icmp .ne 7, 3) := by decide +kernel
theorem dX10_total_52 : decode cX10_total 52 = .ok (.iconst 0, 1) := by decide +kernel
theorem dX10_total_53 : decode cX10_total 53 = .ok (.goto 4, 3) := by decide +kernel
theorem dX10_total_56 : decode cX10_total 56 = .ok (.iconst 1, 1) := by decide +kernel
theorem dX10_total_57 : decode cX10_total 57 = .ok (.iadd, 1) := by decide +kernel
theorem dX10_total_58 : decode cX10_total 58 = .ok (.istore_n 2, 1) := by decide +kernel
theorem dX10_total_59 : decode cX10_total 59 = .ok (.iinc 3 1, 3) := by decide +kernel
theorem dX10_total_62 : decode cX10_total 62 = .ok (.goto (-27), 3) := by decide +kernel
theorem dX10_total_65 : decode cX10_total 65 = .ok (.bipush 32, 2) := by decide +kernel
theorem dX10_total_67 : decode cX10_total 67 = .ok (.istore_n 3, 1) := by decide +kernel
theorem dX10_total_68 : decode cX10_total 68 = .ok (.iload_n 3, 1) := by decide +kernel
theorem dX10_total_69 : decode cX10_total 69 = .ok (.bipush 96, 2) := by decide +kernel
theorem dX10_total_71 : decode cX10_total 71 = .ok (.if_icmp .ge 18, 3) := by decide +kernel
theorem dX10_total_74 : decode cX10_total 74 = .ok (.iload_n 2, 1) := by decide +kernel
theorem dX10_total_75 : decode cX10_total 75 = .ok (.aload_n 0, 1) := by decide +kernel
theorem dX10_total_76 : decode cX10_total 76 = .ok (.getfield 25, 3) := by decide +kernel
theorem dX10_total_79 : decode cX10_total 79 = .ok (.iload_n 3, 1) := by decide +kernel
theorem dX10_total_80 : decode cX10_total 80 = .ok (.iaload, 1) := by decide +kernel
theorem dX10_total_81 : decode cX10_total 81 = .ok (.iadd, 1) := by decide +kernel
theorem dX10_total_82 : decode cX10_total 82 = .ok (.istore_n 2, 1) := by decide +kernel
theorem dX10_total_83 : decode cX10_total 83 = .ok (.iinc 3 1, 3) := by decide +kernel
theorem dX10_total_86 : decode cX10_total 86 = .ok (.goto (-18), 3) := by decide +kernel
theorem dX10_total_89 : decode cX10_total 89 = .ok (.iload_n 2, 1) := by decide +kernel
theorem dX10_total_90 : decode cX10_total 90 = .ok (.ireturn, 1) := by decide +kernel
theorem dJ13_bitCount_95d88_0 : decode cJ13_bitCount_95d88 0 = .ok (.lload_n 0, 1) := by decide +kernel
theorem dJ13_bitCount_95d88_1 : decode cJ13_bitCount_95d88 1 = .ok (.lload_n 0, 1) := by decide +kernel
theorem dJ13_bitCount_95d88_2 : decode cJ13_bitCount_95d88 2 = .ok (.iconst 1, 1) := by decide +kernel
theorem dJ13_bitCount_95d88_3 : decode cJ13_bitCount_95d88 3 = .ok (.lushr, 1) := by decide +kernel
theorem dJ13_bitCount_95d88_4 : decode cJ13_bitCount_95d88 4 = .ok (.ldc2_w 314, 3) := by decide +kernel
theorem dJ13_bitCount_95d88_7 : decode cJ13_bitCount_95d88 7 = .ok (.land, 1) := by decide +kernel
theorem dJ13_bitCount_95d88_8 : decode cJ13_bitCount_95d88 8 = .ok (.lsub, 1) := by decide +kernel
theorem dJ13_bitCount_95d88_9 : decode cJ13_bitCount_95d88 9 = .ok (.lstore_n 0, 1) := by decide +kernel
theorem dJ13_bitCount_95d88_10 : decode cJ13_bitCount_95d88 10 = .ok (.lload_n 0, 1) := by decide +kernel
theorem dJ13_bitCount_95d88_11 : decode cJ13_bitCount_95d88 11 = .ok (.ldc2_w 316, 3) := by decide +kernel
theorem dJ13_bitCount_95d88_14 : decode cJ13_bitCount_95d88 14 = .ok (.land, 1) := by decide +kernel
theorem dJ13_bitCount_95d88_15 : decode cJ13_bitCount_95d88 15 = .ok (.lload_n 0, 1) := by decide +kernel
theorem dJ13_bitCount_95d88_16 : decode cJ13_bitCount_95d88 16 = .ok (.iconst 2, 1) := by decide +kernel
theorem dJ13_bitCount_95d88_17 : decode cJ13_bitCount_95d88 17 = .ok (.lushr, 1) := by decide +kernel
theorem dJ13_bitCount_95d88_18 : decode cJ13_bitCount_95d88 18 = .ok (.ldc2_w 316, 3) := by decide +kernel
theorem dJ13_bitCount_95d88_21 : decode cJ13_bitCount_95d88 21 = .ok (.land, 1) := by decide +kernel
theorem dJ13_bitCount_95d88_22 : decode cJ13_bitCount_95d88 22 = .ok (.ladd, 1) := by decide +kernel
theorem dJ13_bitCount_95d88_23 : decode cJ13_bitCount_95d88 23 = .ok (.lstore_n 0, 1) := by decide +kernel
theorem dJ13_bitCount_95d88_24 : decode cJ13_bitCount_95d88 24 = .ok (.lload_n 0, 1) := by decide +kernel
theorem dJ13_bitCount_95d88_25 : decode cJ13_bitCount_95d88 25 = .ok (.lload_n 0, 1) := by decide +kernel
theorem dJ13_bitCount_95d88_26 : decode cJ13_bitCount_95d88 26 = .ok (.iconst 4, 1) := by decide +kernel
theorem dJ13_bitCount_95d88_27 : decode cJ13_bitCount_95d88 27 = .ok (.lushr, 1) := by decide +kernel
theorem dJ13_bitCount_95d88_28 : decode cJ13_bitCount_95d88 28 = .ok (.ladd, 1) := by decide +kernel
theorem dJ13_bitCount_95d88_29 : decode cJ13_bitCount_95d88 29 = .ok (.ldc2_w 318, 3) := by decide +kernel
theorem dJ13_bitCount_95d88_32 : decode cJ13_bitCount_95d88 32 = .ok (.land, 1) := by decide +kernel
theorem dJ13_bitCount_95d88_33 : decode cJ13_bitCount_95d88 33 = .ok (.lstore_n 0, 1) := by decide +kernel
theorem dJ13_bitCount_95d88_34 : decode cJ13_bitCount_95d88 34 = .ok (.lload_n 0, 1) := by decide +kernel
theorem dJ13_bitCount_95d88_35 : decode cJ13_bitCount_95d88 35 = .ok (.lload_n 0, 1) := by decide +kernel
theorem dJ13_bitCount_95d88_36 : decode cJ13_bitCount_95d88 36 = .ok (.bipush 8, 2) := by decide +kernel
theorem dJ13_bitCount_95d88_38 : decode cJ13_bitCount_95d88 38 = .ok (.lushr, 1) := by decide +kernel
theorem dJ13_bitCount_95d88_39 : decode cJ13_bitCount_95d88 39 = .ok (.ladd, 1) := by decide +kernel
theorem dJ13_bitCount_95d88_40 : decode cJ13_bitCount_95d88 40 = .ok (.lstore_n 0, 1) := by decide +kernel
theorem dJ13_bitCount_95d88_41 : decode cJ13_bitCount_95d88 41 = .ok (.lload_n 0, 1) := by decide +kernel
theorem dJ13_bitCount_95d88_42 : decode cJ13_bitCount_95d88 42 = .ok (.lload_n 0, 1) := by decide +kernel
theorem dJ13_bitCount_95d88_43 : decode cJ13_bitCount_95d88 43 = .ok (.bipush 16, 2) := by decide +kernel
theorem dJ13_bitCount_95d88_45 : decode cJ13_bitCount_95d88 45 = .ok (.lushr, 1) := by decide +kernel
theorem dJ13_bitCount_95d88_46 : decode cJ13_bitCount_95d88 46 = .ok (.ladd, 1) := by decide +kernel
theorem dJ13_bitCount_95d88_47 : decode cJ13_bitCount_95d88 47 = .ok (.lstore_n 0, 1) := by decide +kernel
theorem dJ13_bitCount_95d88_48 : decode cJ13_bitCount_95d88 48 = .ok (.lload_n 0, 1) := by decide +kernel
theorem dJ13_bitCount_95d88_49 : decode cJ13_bitCount_95d88 49 = .ok (.lload_n 0, 1) := by decide +kernel
theorem dJ13_bitCount_95d88_50 : decode cJ13_bitCount_95d88 50 = .ok (.bipush 32, 2) := by decide +kernel
theorem dJ13_bitCount_95d88_52 : decode cJ13_bitCount_95d88 52 = .ok (.lushr, 1) := by decide +kernel
theorem dJ13_bitCount_95d88_53 : decode cJ13_bitCount_95d88 53 = .ok (.ladd, 1) := by decide +kernel
theorem dJ13_bitCount_95d88_54 : decode cJ13_bitCount_95d88 54 = .ok (.lstore_n 0, 1) := by decide +kernel
theorem dJ13_bitCount_95d88_55 : decode cJ13_bitCount_95d88 55 = .ok (.lload_n 0, 1) := by decide +kernel
theorem dJ13_bitCount_95d88_56 : decode cJ13_bitCount_95d88 56 = .ok (.l2i, 1) := by decide +kernel
theorem dJ13_bitCount_95d88_57 : decode cJ13_bitCount_95d88 57 = .ok (.bipush 127, 2) := by decide +kernel
theorem dJ13_bitCount_95d88_59 : decode cJ13_bitCount_95d88 59 = .ok (.iand, 1) := by decide +kernel
theorem dJ13_bitCount_95d88_60 : decode cJ13_bitCount_95d88 60 = .ok (.ireturn, 1) := by decide +kernel
theorem dJ9_floorMod_7cf53_0 : decode cJ9_floorMod_7cf53 0 = .ok (.iload_n 0, 1) := by decide +kernel
theorem dJ9_floorMod_7cf53_1 : decode cJ9_floorMod_7cf53 1 = .ok (.iload_n 1, 1) := by decide +kernel
theorem dJ9_floorMod_7cf53_2 : decode cJ9_floorMod_7cf53 2 = .ok (.irem, 1) := by decide +kernel
theorem dJ9_floorMod_7cf53_3 : decode cJ9_floorMod_7cf53 3 = .ok (.istore_n 2, 1) := by decide +kernel
theorem dJ9_floorMod_7cf53_4 : decode cJ9_floorMod_7cf53 4 = .ok (.iload_n 0, 1) := by decide +kernel
theorem dJ9_floorMod_7cf53_5 : decode cJ9_floorMod_7cf53 5 = .ok (.iload_n 1, 1) := by decide +kernel
theorem dJ9_floorMod_7cf53_6 : decode cJ9_floorMod_7cf53 6 = .ok (.ixor, 1) := by decide +kernel
theorem dJ9_floorMod_7cf53_7 : decode cJ9_floorMod_7cf53 7 = .ok (.ifCond .ge 11, 3) := by decide +kernel
theorem dJ9_floorMod_7cf53_10 : decode cJ9_floorMod_7cf53 10 = .ok (.iload_n 2, 1) := by decide +kernel
theorem dJ9_floorMod_7cf53_11 : decode cJ9_floorMod_7cf53 11 = .ok (.ifCond .eq 7, 3) := by decide +kernel
theorem dJ9_floorMod_7cf53_14 : decode cJ9_floorMod_7cf53 14 = .ok (.iload_n 2, 1) := by decide +kernel
theorem dJ9_floorMod_7cf53_15 : decode cJ9_floorMod_7cf53 15 = .ok (.iload_n 1, 1) := by decide +kernel
theorem dJ9_floorMod_7cf53_16 : decode cJ9_floorMod_7cf53 16 = .ok (.iadd, 1) := by decide +kernel
theorem dJ9_floorMod_7cf53_17 : decode cJ9_floorMod_7cf53 17 = .ok (.ireturn, 1) := by decide +kernel
theorem dJ9_floorMod_7cf53_18 : decode cJ9_floorMod_7cf53 18 = .ok (.iload_n 2, 1) := by decide +kernel
theorem dJ9_floorMod_7cf53_19 : decode cJ9_floorMod_7cf53 19 = .ok (.ireturn, 1) := by decide +kernel
theorem dJ9_max_7cf53_0 : decode cJ9_max_7cf53 0 = .ok (.iload_n 0, 1) := by decide +kernel
theorem dJ9_max_7cf53_1 : decode cJ9_max_7cf53 1 = .ok (.iload_n 1, 1) := by decide +kernel
theorem dJ9_max_7cf53_2 : decode cJ9_max_7cf53 2 = .ok (.if_icmp .lt 7, 3) := by decide +kernel
theorem dJ9_max_7cf53_5 : decode cJ9_max_7cf53 5 = .ok (.iload_n 0, 1) := by decide +kernel
theorem dJ9_max_7cf53_6 : decode cJ9_max_7cf53 6 = .ok (.goto 4, 3) := by decide +kernel
theorem dJ9_max_7cf53_9 : decode cJ9_max_7cf53 9 = .ok (.iload_n 1, 1) := by decide +kernel
theorem dJ9_max_7cf53_10 : decode cJ9_max_7cf53 10 = .ok (.ireturn, 1) := by decide +kernel
theorem dJ9_min_7cf53_0 : decode cJ9_min_7cf53 0 = .ok (.iload_n 0, 1) := by decide +kernel
theorem dJ9_min_7cf53_1 : decode cJ9_min_7cf53 1 = .ok (.iload_n 1, 1) := by decide +kernel
theorem dJ9_min_7cf53_2 : decode cJ9_min_7cf53 2 = .ok (.if_icmp .gt 7, 3) := by decide +kernel
theorem dJ9_min_7cf53_5 : decode cJ9_min_7cf53 5 = .ok (.iload_n 0, 1) := by decide +kernel
theorem dJ9_min_7cf53_6 : decode cJ9_min_7cf53 6 = .ok (.goto 4, 3) := by decide +kernel
theorem dJ9_min_7cf53_9 : decode cJ9_min_7cf53 9 = .ok (.iload_n 1, 1) := by decide +kernel
theorem dJ9_min_7cf53_10 : decode cJ9_min_7cf53 10 = .ok (.ireturn, 1) := by decide +kernel
theorem dJ7_fill_53178_0 : decode cJ7_fill_53178 0 = .ok (.iconst 0, 1) := by decide +kernel
theorem dJ7_fill_53178_1 : decode cJ7_fill_53178 1 = .ok (.istore_n 2, 1) := by decide +kernel
theorem dJ7_fill_53178_2 : decode cJ7_fill_53178 2 = .ok (.aload_n 0, 1) := by decide +kernel
theorem dJ7_fill_53178_3 : decode cJ7_fill_53178 3 = .ok (.arraylength, 1) := by decide +kernel
theorem dJ7_fill_53178_4 : decode cJ7_fill_53178 4 = .ok (.istore_n 3, 1) := by decide +kernel
theorem dJ7_fill_53178_5 : decode cJ7_fill_53178 5 = .ok (.iload_n 2, 1) := by decide +kernel
theorem dJ7_fill_53178_6 : decode cJ7_fill_53178 6 = .ok (.iload_n 3, 1) := by decide +kernel
theorem dJ7_fill_53178_7 : decode cJ7_fill_53178 7 = .ok (.if_icmp .ge 13, 3) := by decide +kernel
theorem dJ7_fill_53178_10 : decode cJ7_fill_53178 10 = .ok (.aload_n 0, 1) := by decide +kernel
theorem dJ7_fill_53178_11 : decode cJ7_fill_53178 11 = .ok (.iload_n 2, 1) := by decide +kernel
theorem dJ7_fill_53178_12 : decode cJ7_fill_53178 12 = .ok (.iload_n 1, 1) := by decide +kernel
theorem dJ7_fill_53178_13 : decode cJ7_fill_53178 13 = .ok (.iastore, 1) := by decide +kernel
theorem dJ7_fill_53178_14 : decode cJ7_fill_53178 14 = .ok (.iinc 2 1, 3) := by decide +kernel
theorem dJ7_fill_53178_17 : decode cJ7_fill_53178 17 = .ok (.goto (-12), 3) := by decide +kernel
theorem dJ7_fill_53178_20 : decode cJ7_fill_53178 20 = .ok (.return_, 1) := by decide +kernel
theorem dL_slot_0 : decode cL_slot 0 = .ok (.aload_n 2, 1) := by decide +kernel
theorem dL_slot_1 : decode cL_slot 1 = .ok (.iconst 0, 1) := by decide +kernel
theorem dL_slot_2 : decode cL_slot 2 = .ok (.aload_n 0, 1) := by decide +kernel
theorem dL_slot_3 : decode cL_slot 3 = .ok (.iload_n 1, 1) := by decide +kernel
theorem dL_slot_4 : decode cL_slot 4 = .ok (.invokevirtual 7, 3) := by decide +kernel
theorem dL_slot_7 : decode cL_slot 7 = .ok (.i2l, 1) := by decide +kernel
theorem dL_slot_8 : decode cL_slot 8 = .ok (.lastore, 1) := by decide +kernel
theorem dL_slot_9 : decode cL_slot 9 = .ok (.goto 6, 3) := by decide +kernel
theorem dL_slot_12 : decode cL_slot 12 = .ok (.astore_n 3, 1) := by decide +kernel
theorem dL_slot_13 : decode cL_slot 13 = .ok (.iconst 1, 1) := by decide +kernel
theorem dL_slot_14 : decode cL_slot 14 = .ok (.ireturn, 1) := by decide +kernel
theorem dL_slot_15 : decode cL_slot 15 = .ok (.iconst 0, 1) := by decide +kernel
theorem dL_slot_16 : decode cL_slot 16 = .ok (.ireturn, 1) := by decide +kernel
theorem dL_law_0 : decode cL_law 0 = .ok (.new 8, 3) := by decide +kernel
theorem dL_law_3 : decode cL_law 3 = .ok (.dup, 1) := by decide +kernel
theorem dL_law_4 : decode cL_law 4 = .ok (.invokespecial 15, 3) := by decide +kernel
theorem dL_law_7 : decode cL_law 7 = .ok (.astore_n 1, 1) := by decide +kernel
theorem dL_law_8 : decode cL_law 8 = .ok (.new 16, 3) := by decide +kernel
theorem dL_law_11 : decode cL_law 11 = .ok (.dup, 1) := by decide +kernel
theorem dL_law_12 : decode cL_law 12 = .ok (.invokespecial 18, 3) := by decide +kernel
theorem dL_law_15 : decode cL_law 15 = .ok (.astore_n 2, 1) := by decide +kernel
theorem dL_law_16 : decode cL_law 16 = .ok (.iconst 1, 1) := by decide +kernel
theorem dL_law_17 : decode cL_law 17 = .ok (.newarray .long, 2) := by decide +kernel
theorem dL_law_19 : decode cL_law 19 = .ok (.astore_n 3, 1) := by decide +kernel
theorem dL_law_20 : decode cL_law 20 = .ok (.iconst 0, 1) := by decide +kernel
theorem dL_law_21 : decode cL_law 21 = .ok (.istore 4, 2) := by decide +kernel
theorem dL_law_23 : decode cL_law 23 = .ok (.iload 4, 2) := by decide +kernel
theorem dL_law_25 : decode cL_law 25 = .ok (.aload_n 0, 1) := by decide +kernel
theorem dL_law_26 : decode cL_law 26 = .ok (.arraylength, 1) := by decide +kernel
theorem dL_law_27 : decode cL_law 27 = .ok (.iconst 5, 1) := by decide +kernel
theorem dL_law_28 : decode cL_law 28 = .ok (.isub, 1) := by decide +kernel
theorem dL_law_29 : decode cL_law 29 = .ok (.if_icmp .gt 609, 3) := by decide +kernel
theorem dL_law_32 : decode cL_law 32 = .ok (.aload_n 0, 1) := by decide +kernel
theorem dL_law_33 : decode cL_law 33 = .ok (.iload 4, 2) := by decide +kernel
theorem dL_law_35 : decode cL_law 35 = .ok (.iaload, 1) := by decide +kernel
theorem dL_law_36 : decode cL_law 36 = .ok (.bipush 15, 2) := by decide +kernel
theorem dL_law_38 : decode cL_law 38 = .ok (.iand, 1) := by decide +kernel
theorem dL_law_39 : decode cL_law 39 = .ok (.tableswitch 593 0 12 #[65, 126, 182, 219, 272, 309, 346, 383, 420, 457, 494, 531, 568], 65) := by decide +kernel
theorem dL_law_104 : decode cL_law 104 = .ok (.aload_n 1, 1) := by decide +kernel
theorem dL_law_105 : decode cL_law 105 = .ok (.aload_n 0, 1) := by decide +kernel
theorem dL_law_106 : decode cL_law 106 = .ok (.iload 4, 2) := by decide +kernel
theorem dL_law_108 : decode cL_law 108 = .ok (.iconst 1, 1) := by decide +kernel
theorem dL_law_109 : decode cL_law 109 = .ok (.iadd, 1) := by decide +kernel
theorem dL_law_110 : decode cL_law 110 = .ok (.iaload, 1) := by decide +kernel
theorem dL_law_111 : decode cL_law 111 = .ok (.aload_n 0, 1) := by decide +kernel
theorem dL_law_112 : decode cL_law 112 = .ok (.iload 4, 2) := by decide +kernel
theorem dL_law_114 : decode cL_law 114 = .ok (.iconst 2, 1) := by decide +kernel
theorem dL_law_115 : decode cL_law 115 = .ok (.iadd, 1) := by decide +kernel
theorem dL_law_116 : decode cL_law 116 = .ok (.iaload, 1) := by decide +kernel
theorem dL_law_117 : decode cL_law 117 = .ok (.aload_n 0, 1) := by decide +kernel
theorem dL_law_118 : decode cL_law 118 = .ok (.iload 4, 2) := by decide +kernel
theorem dL_law_120 : decode cL_law 120 = .ok (.iconst 3, 1) := by decide +kernel
theorem dL_law_121 : decode cL_law 121 = .ok (.iadd, 1) := by decide +kernel
theorem dL_law_122 : decode cL_law 122 = .ok (.iaload, 1) := by decide +kernel
theorem dL_law_123 : decode cL_law 123 = .ok (.aload_n 0, 1) := by decide +kernel
theorem dL_law_124 : decode cL_law 124 = .ok (.iload 4, 2) := by decide +kernel
theorem dL_law_126 : decode cL_law 126 = .ok (.iconst 4, 1) := by decide +kernel
theorem dL_law_127 : decode cL_law 127 = .ok (.iadd, 1) := by decide +kernel
theorem dL_law_128 : decode cL_law 128 = .ok (.iaload, 1) := by decide +kernel
theorem dL_law_129 : decode cL_law 129 = .ok (.invokevirtual 19, 3) := by decide +kernel
theorem dL_law_132 : decode cL_law 132 = .ok (.aload_n 2, 1) := by decide +kernel
theorem dL_law_133 : decode cL_law 133 = .ok (.aload_n 0, 1) := by decide +kernel
theorem dL_law_134 : decode cL_law 134 = .ok (.iload 4, 2) := by decide +kernel
theorem dL_law_136 : decode cL_law 136 = .ok (.iconst 1, 1) := by decide +kernel
theorem dL_law_137 : decode cL_law 137 = .ok (.iadd, 1) := by decide +kernel
theorem dL_law_138 : decode cL_law 138 = .ok (.iaload, 1) := by decide +kernel
theorem dL_law_139 : decode cL_law 139 = .ok (.aload_n 0, 1) := by decide +kernel
theorem dL_law_140 : decode cL_law 140 = .ok (.iload 4, 2) := by decide +kernel
theorem dL_law_142 : decode cL_law 142 = .ok (.iconst 2, 1) := by decide +kernel
theorem dL_law_143 : decode cL_law 143 = .ok (.iadd, 1) := by decide +kernel
theorem dL_law_144 : decode cL_law 144 = .ok (.iaload, 1) := by decide +kernel
theorem dL_law_145 : decode cL_law 145 = .ok (.aload_n 0, 1) := by decide +kernel
theorem dL_law_146 : decode cL_law 146 = .ok (.iload 4, 2) := by decide +kernel
theorem dL_law_148 : decode cL_law 148 = .ok (.iconst 3, 1) := by decide +kernel
theorem dL_law_149 : decode cL_law 149 = .ok (.iadd, 1) := by decide +kernel
theorem dL_law_150 : decode cL_law 150 = .ok (.iaload, 1) := by decide +kernel
theorem dL_law_151 : decode cL_law 151 = .ok (.aload_n 0, 1) := by decide +kernel
theorem dL_law_152 : decode cL_law 152 = .ok (.iload 4, 2) := by decide +kernel
theorem dL_law_154 : decode cL_law 154 = .ok (.iconst 4, 1) := by decide +kernel
theorem dL_law_155 : decode cL_law 155 = .ok (.iadd, 1) := by decide +kernel
theorem dL_law_156 : decode cL_law 156 = .ok (.iaload, 1) := by decide +kernel
theorem dL_law_157 : decode cL_law 157 = .ok (.invokevirtual 23, 3) := by decide +kernel
theorem dL_law_160 : decode cL_law 160 = .ok (.if_icmp .eq 472, 3) := by decide +kernel
theorem dL_law_163 : decode cL_law 163 = .ok (.iconst 0, 1) := by decide +kernel
theorem dL_law_164 : decode cL_law 164 = .ok (.ireturn, 1) := by decide +kernel
theorem dL_law_165 : decode cL_law 165 = .ok (.aload_n 1, 1) := by decide +kernel
theorem dL_law_166 : decode cL_law 166 = .ok (.aload_n 0, 1) := by decide +kernel
theorem dL_law_167 : decode cL_law 167 = .ok (.iload 4, 2) := by decide +kernel
theorem dL_law_169 : decode cL_law 169 = .ok (.iconst 1, 1) := by decide +kernel
theorem dL_law_170 : decode cL_law 170 = .ok (.iadd, 1) := by decide +kernel
theorem dL_law_171 : decode cL_law 171 = .ok (.iaload, 1) := by decide +kernel
theorem dL_law_172 : decode cL_law 172 = .ok (.aload_n 3, 1) := by decide +kernel
theorem dL_law_173 : decode cL_law 173 = .ok (.invokestatic 24, 3) := by decide +kernel
theorem dL_law_176 : decode cL_law 176 = .ok (.istore 5, 2) := by decide +kernel
theorem dL_law_178 : decode cL_law 178 = .ok (.aload_n 2, 1) := by decide +kernel
theorem dL_law_179 : decode cL_law 179 = .ok (.aload_n 0, 1) := by decide +kernel
theorem dL_law_180 : decode cL_law 180 = .ok (.iload 4, 2) := by decide +kernel
theorem dL_law_182 : decode cL_law 182 = .ok (.iconst 1, 1) := by decide +kernel
theorem dL_law_183 : decode cL_law 183 = .ok (.iadd, 1) := by decide +kernel
theorem dL_law_184 : decode cL_law 184 = .ok (.iaload, 1) := by decide +kernel
theorem dL_law_185 : decode cL_law 185 = .ok (.invokevirtual 29, 3) := by decide +kernel
theorem dL_law_188 : decode cL_law 188 = .ok (.istore 6, 2) := by decide +kernel
theorem dL_law_190 : decode cL_law 190 = .ok (.aload_n 2, 1) := by decide +kernel
theorem dL_law_191 : decode cL_law 191 = .ok (.invokevirtual 30, 3) := by decide +kernel
theorem dL_law_194 : decode cL_law 194 = .ok (.iload 5, 2) := by decide +kernel
theorem dL_law_196 : decode cL_law 196 = .ok (.if_icmp .eq 5, 3) := by decide +kernel
theorem dL_law_199 : decode cL_law 199 = .ok (.iconst 0, 1) := by decide +kernel
theorem dL_law_200 : decode cL_law 200 = .ok (.ireturn, 1) := by decide +kernel
theorem dL_law_201 : decode cL_law 201 = .ok (.iload 5, 2) := by decide +kernel
theorem dL_law_203 : decode cL_law 203 = .ok (.ifCond .ne 15, 3) := by decide +kernel
theorem dL_law_206 : decode cL_law 206 = .ok (.aload_n 3, 1) := by decide +kernel
theorem dL_law_207 : decode cL_law 207 = .ok (.iconst 0, 1) := by decide +kernel
theorem dL_law_208 : decode cL_law 208 = .ok (.laload, 1) := by decide +kernel
theorem dL_law_209 : decode cL_law 209 = .ok (.iload 6, 2) := by decide +kernel
theorem dL_law_211 : decode cL_law 211 = .ok (.i2l, 1) := by decide +kernel
theorem dL_law_212 : decode cL_law 212 = .ok (.lcmp, 1) := by decide +kernel
theorem dL_law_213 : decode cL_law 213 = .ok (.ifCond .eq 5, 3) := by decide +kernel
theorem dL_law_216 : decode cL_law 216 = .ok (.iconst 0, 1) := by decide +kernel
theorem dL_law_217 : decode cL_law 217 = .ok (.ireturn, 1) := by decide +kernel
theorem dL_law_218 : decode cL_law 218 = .ok (.goto 414, 3) := by decide +kernel
theorem dL_law_221 : decode cL_law 221 = .ok (.aload_n 1, 1) := by decide +kernel
theorem dL_law_222 : decode cL_law 222 = .ok (.aload_n 0, 1) := by decide +kernel
theorem dL_law_223 : decode cL_law 223 = .ok (.iload 4, 2) := by decide +kernel
theorem dL_law_225 : decode cL_law 225 = .ok (.iconst 1, 1) := by decide +kernel
theorem dL_law_226 : decode cL_law 226 = .ok (.iadd, 1) := by decide +kernel
theorem dL_law_227 : decode cL_law 227 = .ok (.iaload, 1) := by decide +kernel
theorem dL_law_228 : decode cL_law 228 = .ok (.aload_n 0, 1) := by decide +kernel
theorem dL_law_229 : decode cL_law 229 = .ok (.iload 4, 2) := by decide +kernel
theorem dL_law_231 : decode cL_law 231 = .ok (.iconst 2, 1) := by decide +kernel
theorem dL_law_232 : decode cL_law 232 = .ok (.iadd, 1) := by decide +kernel
theorem dL_law_233 : decode cL_law 233 = .ok (.iaload, 1) := by decide +kernel
theorem dL_law_234 : decode cL_law 234 = .ok (.invokevirtual 34, 3) := by decide +kernel
theorem dL_law_237 : decode cL_law 237 = .ok (.aload_n 2, 1) := by decide +kernel
theorem dL_law_238 : decode cL_law 238 = .ok (.aload_n 0, 1) := by decide +kernel
theorem dL_law_239 : decode cL_law 239 = .ok (.iload 4, 2) := by decide +kernel
theorem dL_law_241 : decode cL_law 241 = .ok (.iconst 1, 1) := by decide +kernel
theorem dL_law_242 : decode cL_law 242 = .ok (.iadd, 1) := by decide +kernel
theorem dL_law_243 : decode cL_law 243 = .ok (.iaload, 1) := by decide +kernel
theorem dL_law_244 : decode cL_law 244 = .ok (.aload_n 0, 1) := by decide +kernel
theorem dL_law_245 : decode cL_law 245 = .ok (.iload 4, 2) := by decide +kernel
theorem dL_law_247 : decode cL_law 247 = .ok (.iconst 2, 1) := by decide +kernel
theorem dL_law_248 : decode cL_law 248 = .ok (.iadd, 1) := by decide +kernel
theorem dL_law_249 : decode cL_law 249 = .ok (.iaload, 1) := by decide +kernel
theorem dL_law_250 : decode cL_law 250 = .ok (.invokevirtual 38, 3) := by decide +kernel
theorem dL_law_253 : decode cL_law 253 = .ok (.if_icmp .eq 379, 3) := by decide +kernel
theorem dL_law_256 : decode cL_law 256 = .ok (.iconst 0, 1) := by decide +kernel
theorem dL_law_257 : decode cL_law 257 = .ok (.ireturn, 1) := by decide +kernel
theorem dL_law_258 : decode cL_law 258 = .ok (.aload_n 1, 1) := by decide +kernel
theorem dL_law_259 : decode cL_law 259 = .ok (.aload_n 0, 1) := by decide +kernel
theorem dL_law_260 : decode cL_law 260 = .ok (.iload 4, 2) := by decide +kernel
theorem dL_law_262 : decode cL_law 262 = .ok (.iconst 1, 1) := by decide +kernel
theorem dL_law_263 : decode cL_law 263 = .ok (.iadd, 1) := by decide +kernel
theorem dL_law_264 : decode cL_law 264 = .ok (.iaload, 1) := by decide +kernel
theorem dL_law_265 : decode cL_law 265 = .ok (.aload_n 0, 1) := by decide +kernel
theorem dL_law_266 : decode cL_law 266 = .ok (.iload 4, 2) := by decide +kernel
theorem dL_law_268 : decode cL_law 268 = .ok (.iconst 2, 1) := by decide +kernel
theorem dL_law_269 : decode cL_law 269 = .ok (.iadd, 1) := by decide +kernel
theorem dL_law_270 : decode cL_law 270 = .ok (.iaload, 1) := by decide +kernel
theorem dL_law_271 : decode cL_law 271 = .ok (.ifCond .eq 7, 3) := by decide +kernel
theorem dL_law_274 : decode cL_law 274 = .ok (.iconst 1, 1) := by decide +kernel
theorem dL_law_275 : decode cL_law 275 = .ok (.goto 4, 3) := by decide +kernel
theorem dL_law_278 : decode cL_law 278 = .ok (.iconst 0, 1) := by decide +kernel
theorem dL_law_279 : decode cL_law 279 = .ok (.invokevirtual 39, 3) := by decide +kernel
theorem dL_law_282 : decode cL_law 282 = .ok (.aload_n 2, 1) := by decide +kernel
theorem dL_law_283 : decode cL_law 283 = .ok (.aload_n 0, 1) := by decide +kernel
theorem dL_law_284 : decode cL_law 284 = .ok (.iload 4, 2) := by decide +kernel
theorem dL_law_286 : decode cL_law 286 = .ok (.iconst 1, 1) := by decide +kernel
theorem dL_law_287 : decode cL_law 287 = .ok (.iadd, 1) := by decide +kernel
theorem dL_law_288 : decode cL_law 288 = .ok (.iaload, 1) := by decide +kernel
theorem dL_law_289 : decode cL_law 289 = .ok (.aload_n 0, 1) := by decide +kernel
theorem dL_law_290 : decode cL_law 290 = .ok (.iload 4, 2) := by decide +kernel
theorem dL_law_292 : decode cL_law 292 = .ok (.iconst 2, 1) := by decide +kernel
theorem dL_law_293 : decode cL_law 293 = .ok (.iadd, 1) := by decide +kernel
theorem dL_law_294 : decode cL_law 294 = .ok (.iaload, 1) := by decide +kernel
theorem dL_law_295 : decode cL_law 295 = .ok (.ifCond .eq 7, 3) := by decide +kernel
theorem dL_law_298 : decode cL_law 298 = .ok (.iconst 1, 1) := by decide +kernel
theorem dL_law_299 : decode cL_law 299 = .ok (.goto 4, 3) := by decide +kernel
theorem dL_law_302 : decode cL_law 302 = .ok (.iconst 0, 1) := by decide +kernel
theorem dL_law_303 : decode cL_law 303 = .ok (.invokevirtual 43, 3) := by decide +kernel
theorem dL_law_306 : decode cL_law 306 = .ok (.if_icmp .eq 326, 3) := by decide +kernel
theorem dL_law_309 : decode cL_law 309 = .ok (.iconst 0, 1) := by decide +kernel
theorem dL_law_310 : decode cL_law 310 = .ok (.ireturn, 1) := by decide +kernel
theorem dL_law_311 : decode cL_law 311 = .ok (.aload_n 1, 1) := by decide +kernel
theorem dL_law_312 : decode cL_law 312 = .ok (.aload_n 0, 1) := by decide +kernel
theorem dL_law_313 : decode cL_law 313 = .ok (.iload 4, 2) := by decide +kernel
theorem dL_law_315 : decode cL_law 315 = .ok (.iconst 1, 1) := by decide +kernel
theorem dL_law_316 : decode cL_law 316 = .ok (.iadd, 1) := by decide +kernel
theorem dL_law_317 : decode cL_law 317 = .ok (.iaload, 1) := by decide +kernel
theorem dL_law_318 : decode cL_law 318 = .ok (.aload_n 0, 1) := by decide +kernel
theorem dL_law_319 : decode cL_law 319 = .ok (.iload 4, 2) := by decide +kernel
theorem dL_law_321 : decode cL_law 321 = .ok (.iconst 2, 1) := by decide +kernel
theorem dL_law_322 : decode cL_law 322 = .ok (.iadd, 1) := by decide +kernel
theorem dL_law_323 : decode cL_law 323 = .ok (.iaload, 1) := by decide +kernel
theorem dL_law_324 : decode cL_law 324 = .ok (.invokevirtual 44, 3) := by decide +kernel
theorem dL_law_327 : decode cL_law 327 = .ok (.aload_n 2, 1) := by decide +kernel
theorem dL_law_328 : decode cL_law 328 = .ok (.aload_n 0, 1) := by decide +kernel
theorem dL_law_329 : decode cL_law 329 = .ok (.iload 4, 2) := by decide +kernel
theorem dL_law_331 : decode cL_law 331 = .ok (.iconst 1, 1) := by decide +kernel
theorem dL_law_332 : decode cL_law 332 = .ok (.iadd, 1) := by decide +kernel
theorem dL_law_333 : decode cL_law 333 = .ok (.iaload, 1) := by decide +kernel
theorem dL_law_334 : decode cL_law 334 = .ok (.aload_n 0, 1) := by decide +kernel
theorem dL_law_335 : decode cL_law 335 = .ok (.iload 4, 2) := by decide +kernel
theorem dL_law_337 : decode cL_law 337 = .ok (.iconst 2, 1) := by decide +kernel
theorem dL_law_338 : decode cL_law 338 = .ok (.iadd, 1) := by decide +kernel
theorem dL_law_339 : decode cL_law 339 = .ok (.iaload, 1) := by decide +kernel
theorem dL_law_340 : decode cL_law 340 = .ok (.invokevirtual 48, 3) := by decide +kernel
theorem dL_law_343 : decode cL_law 343 = .ok (.if_icmp .eq 289, 3) := by decide +kernel
theorem dL_law_346 : decode cL_law 346 = .ok (.iconst 0, 1) := by decide +kernel
theorem dL_law_347 : decode cL_law 347 = .ok (.ireturn, 1) := by decide +kernel
theorem dL_law_348 : decode cL_law 348 = .ok (.aload_n 1, 1) := by decide +kernel
theorem dL_law_349 : decode cL_law 349 = .ok (.aload_n 0, 1) := by decide +kernel
theorem dL_law_350 : decode cL_law 350 = .ok (.iload 4, 2) := by decide +kernel
theorem dL_law_352 : decode cL_law 352 = .ok (.iconst 1, 1) := by decide +kernel
theorem dL_law_353 : decode cL_law 353 = .ok (.iadd, 1) := by decide +kernel
theorem dL_law_354 : decode cL_law 354 = .ok (.iaload, 1) := by decide +kernel
theorem dL_law_355 : decode cL_law 355 = .ok (.aload_n 0, 1) := by decide +kernel
theorem dL_law_356 : decode cL_law 356 = .ok (.iload 4, 2) := by decide +kernel
theorem dL_law_358 : decode cL_law 358 = .ok (.iconst 2, 1) := by decide +kernel
theorem dL_law_359 : decode cL_law 359 = .ok (.iadd, 1) := by decide +kernel
theorem dL_law_360 : decode cL_law 360 = .ok (.iaload, 1) := by decide +kernel
theorem dL_law_361 : decode cL_law 361 = .ok (.invokevirtual 49, 3) := by decide +kernel
theorem dL_law_364 : decode cL_law 364 = .ok (.aload_n 2, 1) := by decide +kernel
theorem dL_law_365 : decode cL_law 365 = .ok (.aload_n 0, 1) := by decide +kernel
theorem dL_law_366 : decode cL_law 366 = .ok (.iload 4, 2) := by decide +kernel
theorem dL_law_368 : decode cL_law 368 = .ok (.iconst 1, 1) := by decide +kernel
theorem dL_law_369 : decode cL_law 369 = .ok (.iadd, 1) := by decide +kernel
theorem dL_law_370 : decode cL_law 370 = .ok (.iaload, 1) := by decide +kernel
theorem dL_law_371 : decode cL_law 371 = .ok (.aload_n 0, 1) := by decide +kernel
theorem dL_law_372 : decode cL_law 372 = .ok (.iload 4, 2) := by decide +kernel
theorem dL_law_374 : decode cL_law 374 = .ok (.iconst 2, 1) := by decide +kernel
theorem dL_law_375 : decode cL_law 375 = .ok (.iadd, 1) := by decide +kernel
theorem dL_law_376 : decode cL_law 376 = .ok (.iaload, 1) := by decide +kernel
theorem dL_law_377 : decode cL_law 377 = .ok (.invokevirtual 52, 3) := by decide +kernel
theorem dL_law_380 : decode cL_law 380 = .ok (.if_icmp .eq 252, 3) := by decide +kernel
theorem dL_law_383 : decode cL_law 383 = .ok (.iconst 0, 1) := by decide +kernel
theorem dL_law_384 : decode cL_law 384 = .ok (.ireturn, 1) := by decide +kernel
theorem dL_law_385 : decode cL_law 385 = .ok (.aload_n 1, 1) := by decide +kernel
theorem dL_law_386 : decode cL_law 386 = .ok (.aload_n 0, 1) := by decide +kernel
theorem dL_law_387 : decode cL_law 387 = .ok (.iload 4, 2) := by decide +kernel
theorem dL_law_389 : decode cL_law 389 = .ok (.iconst 1, 1) := by decide +kernel
theorem dL_law_390 : decode cL_law 390 = .ok (.iadd, 1) := by decide +kernel
theorem dL_law_391 : decode cL_law 391 = .ok (.iaload, 1) := by decide +kernel
theorem dL_law_392 : decode cL_law 392 = .ok (.aload_n 0, 1) := by decide +kernel
theorem dL_law_393 : decode cL_law 393 = .ok (.iload 4, 2) := by decide +kernel
theorem dL_law_395 : decode cL_law 395 = .ok (.iconst 2, 1) := by decide +kernel
theorem dL_law_396 : decode cL_law 396 = .ok (.iadd, 1) := by decide +kernel
theorem dL_law_397 : decode cL_law 397 = .ok (.iaload, 1) := by decide +kernel
theorem dL_law_398 : decode cL_law 398 = .ok (.invokevirtual 53, 3) := by decide +kernel
theorem dL_law_401 : decode cL_law 401 = .ok (.aload_n 2, 1) := by decide +kernel
theorem dL_law_402 : decode cL_law 402 = .ok (.aload_n 0, 1) := by decide +kernel
theorem dL_law_403 : decode cL_law 403 = .ok (.iload 4, 2) := by decide +kernel
theorem dL_law_405 : decode cL_law 405 = .ok (.iconst 1, 1) := by decide +kernel
theorem dL_law_406 : decode cL_law 406 = .ok (.iadd, 1) := by decide +kernel
theorem dL_law_407 : decode cL_law 407 = .ok (.iaload, 1) := by decide +kernel
theorem dL_law_408 : decode cL_law 408 = .ok (.aload_n 0, 1) := by decide +kernel
theorem dL_law_409 : decode cL_law 409 = .ok (.iload 4, 2) := by decide +kernel
theorem dL_law_411 : decode cL_law 411 = .ok (.iconst 2, 1) := by decide +kernel
theorem dL_law_412 : decode cL_law 412 = .ok (.iadd, 1) := by decide +kernel
theorem dL_law_413 : decode cL_law 413 = .ok (.iaload, 1) := by decide +kernel
theorem dL_law_414 : decode cL_law 414 = .ok (.invokevirtual 56, 3) := by decide +kernel
theorem dL_law_417 : decode cL_law 417 = .ok (.if_icmp .eq 215, 3) := by decide +kernel
theorem dL_law_420 : decode cL_law 420 = .ok (.iconst 0, 1) := by decide +kernel
theorem dL_law_421 : decode cL_law 421 = .ok (.ireturn, 1) := by decide +kernel
theorem dL_law_422 : decode cL_law 422 = .ok (.aload_n 1, 1) := by decide +kernel
theorem dL_law_423 : decode cL_law 423 = .ok (.aload_n 0, 1) := by decide +kernel
theorem dL_law_424 : decode cL_law 424 = .ok (.iload 4, 2) := by decide +kernel
theorem dL_law_426 : decode cL_law 426 = .ok (.iconst 1, 1) := by decide +kernel
theorem dL_law_427 : decode cL_law 427 = .ok (.iadd, 1) := by decide +kernel
theorem dL_law_428 : decode cL_law 428 = .ok (.iaload, 1) := by decide +kernel
theorem dL_law_429 : decode cL_law 429 = .ok (.aload_n 0, 1) := by decide +kernel
theorem dL_law_430 : decode cL_law 430 = .ok (.iload 4, 2) := by decide +kernel
theorem dL_law_432 : decode cL_law 432 = .ok (.iconst 2, 1) := by decide +kernel
theorem dL_law_433 : decode cL_law 433 = .ok (.iadd, 1) := by decide +kernel
theorem dL_law_434 : decode cL_law 434 = .ok (.iaload, 1) := by decide +kernel
theorem dL_law_435 : decode cL_law 435 = .ok (.invokevirtual 57, 3) := by decide +kernel
theorem dL_law_438 : decode cL_law 438 = .ok (.aload_n 2, 1) := by decide +kernel
theorem dL_law_439 : decode cL_law 439 = .ok (.aload_n 0, 1) := by decide +kernel
theorem dL_law_440 : decode cL_law 440 = .ok (.iload 4, 2) := by decide +kernel
theorem dL_law_442 : decode cL_law 442 = .ok (.iconst 1, 1) := by decide +kernel
theorem dL_law_443 : decode cL_law 443 = .ok (.iadd, 1) := by decide +kernel
theorem dL_law_444 : decode cL_law 444 = .ok (.iaload, 1) := by decide +kernel
theorem dL_law_445 : decode cL_law 445 = .ok (.aload_n 0, 1) := by decide +kernel
theorem dL_law_446 : decode cL_law 446 = .ok (.iload 4, 2) := by decide +kernel
theorem dL_law_448 : decode cL_law 448 = .ok (.iconst 2, 1) := by decide +kernel
theorem dL_law_449 : decode cL_law 449 = .ok (.iadd, 1) := by decide +kernel
theorem dL_law_450 : decode cL_law 450 = .ok (.iaload, 1) := by decide +kernel
theorem dL_law_451 : decode cL_law 451 = .ok (.invokevirtual 60, 3) := by decide +kernel
theorem dL_law_454 : decode cL_law 454 = .ok (.if_icmp .eq 178, 3) := by decide +kernel
theorem dL_law_457 : decode cL_law 457 = .ok (.iconst 0, 1) := by decide +kernel
theorem dL_law_458 : decode cL_law 458 = .ok (.ireturn, 1) := by decide +kernel
theorem dL_law_459 : decode cL_law 459 = .ok (.aload_n 1, 1) := by decide +kernel
theorem dL_law_460 : decode cL_law 460 = .ok (.aload_n 0, 1) := by decide +kernel
theorem dL_law_461 : decode cL_law 461 = .ok (.iload 4, 2) := by decide +kernel
theorem dL_law_463 : decode cL_law 463 = .ok (.iconst 1, 1) := by decide +kernel
theorem dL_law_464 : decode cL_law 464 = .ok (.iadd, 1) := by decide +kernel
theorem dL_law_465 : decode cL_law 465 = .ok (.iaload, 1) := by decide +kernel
theorem dL_law_466 : decode cL_law 466 = .ok (.aload_n 0, 1) := by decide +kernel
theorem dL_law_467 : decode cL_law 467 = .ok (.iload 4, 2) := by decide +kernel
theorem dL_law_469 : decode cL_law 469 = .ok (.iconst 2, 1) := by decide +kernel
theorem dL_law_470 : decode cL_law 470 = .ok (.iadd, 1) := by decide +kernel
theorem dL_law_471 : decode cL_law 471 = .ok (.iaload, 1) := by decide +kernel
theorem dL_law_472 : decode cL_law 472 = .ok (.invokevirtual 61, 3) := by decide +kernel
theorem dL_law_475 : decode cL_law 475 = .ok (.aload_n 2, 1) := by decide +kernel
theorem dL_law_476 : decode cL_law 476 = .ok (.aload_n 0, 1) := by decide +kernel
theorem dL_law_477 : decode cL_law 477 = .ok (.iload 4, 2) := by decide +kernel
theorem dL_law_479 : decode cL_law 479 = .ok (.iconst 1, 1) := by decide +kernel
theorem dL_law_480 : decode cL_law 480 = .ok (.iadd, 1) := by decide +kernel
theorem dL_law_481 : decode cL_law 481 = .ok (.iaload, 1) := by decide +kernel
theorem dL_law_482 : decode cL_law 482 = .ok (.aload_n 0, 1) := by decide +kernel
theorem dL_law_483 : decode cL_law 483 = .ok (.iload 4, 2) := by decide +kernel
theorem dL_law_485 : decode cL_law 485 = .ok (.iconst 2, 1) := by decide +kernel
theorem dL_law_486 : decode cL_law 486 = .ok (.iadd, 1) := by decide +kernel
theorem dL_law_487 : decode cL_law 487 = .ok (.iaload, 1) := by decide +kernel
theorem dL_law_488 : decode cL_law 488 = .ok (.invokevirtual 64, 3) := by decide +kernel
theorem dL_law_491 : decode cL_law 491 = .ok (.if_icmp .eq 141, 3) := by decide +kernel
theorem dL_law_494 : decode cL_law 494 = .ok (.iconst 0, 1) := by decide +kernel
theorem dL_law_495 : decode cL_law 495 = .ok (.ireturn, 1) := by decide +kernel
theorem dL_law_496 : decode cL_law 496 = .ok (.aload_n 1, 1) := by decide +kernel
theorem dL_law_497 : decode cL_law 497 = .ok (.aload_n 0, 1) := by decide +kernel
theorem dL_law_498 : decode cL_law 498 = .ok (.iload 4, 2) := by decide +kernel
theorem dL_law_500 : decode cL_law 500 = .ok (.iconst 1, 1) := by decide +kernel
theorem dL_law_501 : decode cL_law 501 = .ok (.iadd, 1) := by decide +kernel
theorem dL_law_502 : decode cL_law 502 = .ok (.iaload, 1) := by decide +kernel
theorem dL_law_503 : decode cL_law 503 = .ok (.aload_n 0, 1) := by decide +kernel
theorem dL_law_504 : decode cL_law 504 = .ok (.iload 4, 2) := by decide +kernel
theorem dL_law_506 : decode cL_law 506 = .ok (.iconst 2, 1) := by decide +kernel
theorem dL_law_507 : decode cL_law 507 = .ok (.iadd, 1) := by decide +kernel
theorem dL_law_508 : decode cL_law 508 = .ok (.iaload, 1) := by decide +kernel
theorem dL_law_509 : decode cL_law 509 = .ok (.invokevirtual 65, 3) := by decide +kernel
theorem dL_law_512 : decode cL_law 512 = .ok (.aload_n 2, 1) := by decide +kernel
theorem dL_law_513 : decode cL_law 513 = .ok (.aload_n 0, 1) := by decide +kernel
theorem dL_law_514 : decode cL_law 514 = .ok (.iload 4, 2) := by decide +kernel
theorem dL_law_516 : decode cL_law 516 = .ok (.iconst 1, 1) := by decide +kernel
theorem dL_law_517 : decode cL_law 517 = .ok (.iadd, 1) := by decide +kernel
theorem dL_law_518 : decode cL_law 518 = .ok (.iaload, 1) := by decide +kernel
theorem dL_law_519 : decode cL_law 519 = .ok (.aload_n 0, 1) := by decide +kernel
theorem dL_law_520 : decode cL_law 520 = .ok (.iload 4, 2) := by decide +kernel
theorem dL_law_522 : decode cL_law 522 = .ok (.iconst 2, 1) := by decide +kernel
theorem dL_law_523 : decode cL_law 523 = .ok (.iadd, 1) := by decide +kernel
theorem dL_law_524 : decode cL_law 524 = .ok (.iaload, 1) := by decide +kernel
theorem dL_law_525 : decode cL_law 525 = .ok (.invokevirtual 68, 3) := by decide +kernel
theorem dL_law_528 : decode cL_law 528 = .ok (.if_icmp .eq 104, 3) := by decide +kernel
theorem dL_law_531 : decode cL_law 531 = .ok (.iconst 0, 1) := by decide +kernel
theorem dL_law_532 : decode cL_law 532 = .ok (.ireturn, 1) := by decide +kernel
theorem dL_law_533 : decode cL_law 533 = .ok (.aload_n 1, 1) := by decide +kernel
theorem dL_law_534 : decode cL_law 534 = .ok (.aload_n 0, 1) := by decide +kernel
theorem dL_law_535 : decode cL_law 535 = .ok (.iload 4, 2) := by decide +kernel
theorem dL_law_537 : decode cL_law 537 = .ok (.iconst 1, 1) := by decide +kernel
theorem dL_law_538 : decode cL_law 538 = .ok (.iadd, 1) := by decide +kernel
theorem dL_law_539 : decode cL_law 539 = .ok (.iaload, 1) := by decide +kernel
theorem dL_law_540 : decode cL_law 540 = .ok (.aload_n 0, 1) := by decide +kernel
theorem dL_law_541 : decode cL_law 541 = .ok (.iload 4, 2) := by decide +kernel
theorem dL_law_543 : decode cL_law 543 = .ok (.iconst 2, 1) := by decide +kernel
theorem dL_law_544 : decode cL_law 544 = .ok (.iadd, 1) := by decide +kernel
theorem dL_law_545 : decode cL_law 545 = .ok (.iaload, 1) := by decide +kernel
theorem dL_law_546 : decode cL_law 546 = .ok (.invokevirtual 69, 3) := by decide +kernel
theorem dL_law_549 : decode cL_law 549 = .ok (.aload_n 2, 1) := by decide +kernel
theorem dL_law_550 : decode cL_law 550 = .ok (.aload_n 0, 1) := by decide +kernel
theorem dL_law_551 : decode cL_law 551 = .ok (.iload 4, 2) := by decide +kernel
theorem dL_law_553 : decode cL_law 553 = .ok (.iconst 1, 1) := by decide +kernel
theorem dL_law_554 : decode cL_law 554 = .ok (.iadd, 1) := by decide +kernel
theorem dL_law_555 : decode cL_law 555 = .ok (.iaload, 1) := by decide +kernel
theorem dL_law_556 : decode cL_law 556 = .ok (.aload_n 0, 1) := by decide +kernel
theorem dL_law_557 : decode cL_law 557 = .ok (.iload 4, 2) := by decide +kernel
theorem dL_law_559 : decode cL_law 559 = .ok (.iconst 2, 1) := by decide +kernel
theorem dL_law_560 : decode cL_law 560 = .ok (.iadd, 1) := by decide +kernel
theorem dL_law_561 : decode cL_law 561 = .ok (.iaload, 1) := by decide +kernel
theorem dL_law_562 : decode cL_law 562 = .ok (.invokevirtual 72, 3) := by decide +kernel
theorem dL_law_565 : decode cL_law 565 = .ok (.if_icmp .eq 67, 3) := by decide +kernel
theorem dL_law_568 : decode cL_law 568 = .ok (.iconst 0, 1) := by decide +kernel
theorem dL_law_569 : decode cL_law 569 = .ok (.ireturn, 1) := by decide +kernel
theorem dL_law_570 : decode cL_law 570 = .ok (.aload_n 1, 1) := by decide +kernel
theorem dL_law_571 : decode cL_law 571 = .ok (.aload_n 0, 1) := by decide +kernel
theorem dL_law_572 : decode cL_law 572 = .ok (.iload 4, 2) := by decide +kernel
theorem dL_law_574 : decode cL_law 574 = .ok (.iconst 1, 1) := by decide +kernel
theorem dL_law_575 : decode cL_law 575 = .ok (.iadd, 1) := by decide +kernel
theorem dL_law_576 : decode cL_law 576 = .ok (.iaload, 1) := by decide +kernel
theorem dL_law_577 : decode cL_law 577 = .ok (.aload_n 0, 1) := by decide +kernel
theorem dL_law_578 : decode cL_law 578 = .ok (.iload 4, 2) := by decide +kernel
theorem dL_law_580 : decode cL_law 580 = .ok (.iconst 2, 1) := by decide +kernel
theorem dL_law_581 : decode cL_law 581 = .ok (.iadd, 1) := by decide +kernel
theorem dL_law_582 : decode cL_law 582 = .ok (.iaload, 1) := by decide +kernel
theorem dL_law_583 : decode cL_law 583 = .ok (.invokevirtual 73, 3) := by decide +kernel
theorem dL_law_586 : decode cL_law 586 = .ok (.aload_n 2, 1) := by decide +kernel
theorem dL_law_587 : decode cL_law 587 = .ok (.aload_n 0, 1) := by decide +kernel
theorem dL_law_588 : decode cL_law 588 = .ok (.iload 4, 2) := by decide +kernel
theorem dL_law_590 : decode cL_law 590 = .ok (.iconst 1, 1) := by decide +kernel
theorem dL_law_591 : decode cL_law 591 = .ok (.iadd, 1) := by decide +kernel
theorem dL_law_592 : decode cL_law 592 = .ok (.iaload, 1) := by decide +kernel
theorem dL_law_593 : decode cL_law 593 = .ok (.aload_n 0, 1) := by decide +kernel
theorem dL_law_594 : decode cL_law 594 = .ok (.iload 4, 2) := by decide +kernel
theorem dL_law_596 : decode cL_law 596 = .ok (.iconst 2, 1) := by decide +kernel
theorem dL_law_597 : decode cL_law 597 = .ok (.iadd, 1) := by decide +kernel
theorem dL_law_598 : decode cL_law 598 = .ok (.iaload, 1) := by decide +kernel
theorem dL_law_599 : decode cL_law 599 = .ok (.invokevirtual 76, 3) := by decide +kernel
theorem dL_law_602 : decode cL_law 602 = .ok (.if_icmp .eq 30, 3) := by decide +kernel
theorem dL_law_605 : decode cL_law 605 = .ok (.iconst 0, 1) := by decide +kernel
theorem dL_law_606 : decode cL_law 606 = .ok (.ireturn, 1) := by decide +kernel
theorem dL_law_607 : decode cL_law 607 = .ok (.aload_n 1, 1) := by decide +kernel
theorem dL_law_608 : decode cL_law 608 = .ok (.aload_n 0, 1) := by decide +kernel
theorem dL_law_609 : decode cL_law 609 = .ok (.iload 4, 2) := by decide +kernel
theorem dL_law_611 : decode cL_law 611 = .ok (.iconst 1, 1) := by decide +kernel
theorem dL_law_612 : decode cL_law 612 = .ok (.iadd, 1) := by decide +kernel
theorem dL_law_613 : decode cL_law 613 = .ok (.iaload, 1) := by decide +kernel
theorem dL_law_614 : decode cL_law 614 = .ok (.invokevirtual 77, 3) := by decide +kernel
theorem dL_law_617 : decode cL_law 617 = .ok (.aload_n 2, 1) := by decide +kernel
theorem dL_law_618 : decode cL_law 618 = .ok (.aload_n 0, 1) := by decide +kernel
theorem dL_law_619 : decode cL_law 619 = .ok (.iload 4, 2) := by decide +kernel
theorem dL_law_621 : decode cL_law 621 = .ok (.iconst 1, 1) := by decide +kernel
theorem dL_law_622 : decode cL_law 622 = .ok (.iadd, 1) := by decide +kernel
theorem dL_law_623 : decode cL_law 623 = .ok (.iaload, 1) := by decide +kernel
theorem dL_law_624 : decode cL_law 624 = .ok (.invokevirtual 80, 3) := by decide +kernel
theorem dL_law_627 : decode cL_law 627 = .ok (.if_icmp .eq 5, 3) := by decide +kernel
theorem dL_law_630 : decode cL_law 630 = .ok (.iconst 0, 1) := by decide +kernel
theorem dL_law_631 : decode cL_law 631 = .ok (.ireturn, 1) := by decide +kernel
theorem dL_law_632 : decode cL_law 632 = .ok (.iinc 4 5, 3) := by decide +kernel
theorem dL_law_635 : decode cL_law 635 = .ok (.goto (-612), 3) := by decide +kernel
theorem dL_law_638 : decode cL_law 638 = .ok (.iconst 1, 1) := by decide +kernel
theorem dL_law_639 : decode cL_law 639 = .ok (.ireturn, 1) := by decide +kernel
end
section
def T0 : List Cond := lw_tbl.filter goodWord
theorem t0_at {w : Cond} (i : Nat) (h : lw_tbl[i]? = some w) (hg : goodWord w = true) : w ∈ T0 := List.mem_filter.mpr ⟨List.mem_of_getElem? h, hg⟩
theorem t0_goodIn {ws : List Cond} (h : ∀ w ∈ ws, w ∈ T0) : GoodIn T0 ws := fun w hw => ⟨h w hw, good_of_word (List.mem_filter.mp (h w hw)).2⟩
theorem t0_of {ws : List Cond} (h : GoodIn lw_tbl ws) (hg : ws.all goodWord = true) : ∀ w ∈ ws, w ∈ T0 := fun w hw => List.mem_filter.mpr ⟨(h w hw).1, List.all_eq_true.mp hg w hw⟩
abbrev jM : Type := MethodName × ByteArray × Nat × Option FieldType
/-- what the tables say of a method: its code, its owner -/
def jMs (me : jM) (n : Nat) : Prop := Cond.code me.1 me.2.1 me.2.2.1 me.2.2.2 ∈ T0 ∧ Cond.initialized me.1.cls ∈ T0 ∧ (me.1.cls ≠ "java/lang/invoke/MethodHandle" ∧ me.1.cls ≠ "java/lang/invoke/VarHandle" ∧ (parseMethodDescriptor me.1.desc).map (fun d => d.parameters.length) = some n) ∧ me.2.2.1 ≤ 17 ∧ plainFor me.1 = true
def jMv (me : jM) : Prop := Cond.instanceMethod me.1 ∈ T0 ∧ Cond.selects me.1.cls me.1 me.1 ∈ T0
def jMt (me : jM) : Prop := Cond.static me.1 ∈ T0
def jMi (me : jM) : Prop := Cond.instanceMethod me.1 ∈ T0 ∧ me.1.name = "<init>"
theorem kL_8 : Cond.classLink RL 8 RX9 ∈ T0 := t0_at 68 (by decide +kernel) rfl
theorem kL_15 : Cond.methodLink RL 15 yX9_init ∈ T0 := t0_at 70 (by decide +kernel) rfl
theorem kX9_1 : Cond.methodLink RX9 1 objectInit ∈ T0 := t0_at 73 (by decide +kernel) rfl
theorem kX9_7 : Cond.classLink RX9 7 RX2 ∈ T0 := t0_at 76 (by decide +kernel) rfl
theorem kX9_9 : Cond.methodLink RX9 9 yX2_init ∈ T0 := t0_at 78 (by decide +kernel) rfl
theorem kX2_3 : Cond.methodLink RX2 3 objectInit ∈ T0 := t0_at 81 (by decide +kernel) rfl
theorem kX2_18 : Cond.classLink RX2 18 RX7 ∈ T0 := t0_at 82 (by decide +kernel) rfl
theorem kX2_40 : Cond.methodLink RX2 40 yJ7_fill_53178 ∈ T0 := t0_at 84 (by decide +kernel) rfl
theorem kX2_46 : Cond.methodLink RX2 46 yX7_init ∈ T0 := t0_at 88 (by decide +kernel) rfl
theorem kX7_1 : Cond.methodLink RX7 1 objectInit ∈ T0 := t0_at 91 (by decide +kernel) rfl
theorem kX7_16 : Cond.fieldLink RX7 16 RX7 "places" "[I" ∈ T0 := t0_at 92 (by decide +kernel) rfl
theorem kX7_7 : Cond.fieldLink RX7 7 RX7 "first" "I" ∈ T0 := t0_at 93 (by decide +kernel) rfl
theorem kX7_13 : Cond.fieldLink RX7 13 RX7 "size" "I" ∈ T0 := t0_at 94 (by decide +kernel) rfl
theorem kX2_11 : Cond.fieldLink RX2 11 RX2 "onLink" "[I" ∈ T0 := t0_at 104 (by decide +kernel) rfl
theorem kX2_15 : Cond.fieldLink RX2 15 RX2 "toLose" "[I" ∈ T0 := t0_at 105 (by decide +kernel) rfl
theorem kX2_20 : Cond.fieldLink RX2 20 RX2 "queues" "[LGrantNet$Row;" ∈ T0 := t0_at 106 (by decide +kernel) rfl
theorem kX2_24 : Cond.fieldLink RX2 24 RX2 "spineIsOn" "[Z" ∈ T0 := t0_at 107 (by decide +kernel) rfl
theorem kX2_28 : Cond.fieldLink RX2 28 RX2 "lastSpineOfLeaf" "[I" ∈ T0 := t0_at 108 (by decide +kernel) rfl
theorem kX2_31 : Cond.fieldLink RX2 31 RX2 "dropped" "I" ∈ T0 := t0_at 109 (by decide +kernel) rfl
theorem kX2_35 : Cond.fieldLink RX2 35 RX2 "lost" "I" ∈ T0 := t0_at 110 (by decide +kernel) rfl
theorem kX9_16 : Cond.classLink RX9 16 RX3 ∈ T0 := t0_at 126 (by decide +kernel) rfl
theorem kX9_22 : Cond.classLink RX9 22 RX4 ∈ T0 := t0_at 128 (by decide +kernel) rfl
theorem kX9_35 : Cond.methodLink RX9 35 yX3_init ∈ T0 := t0_at 131 (by decide +kernel) rfl
theorem kX3_3 : Cond.methodLink RX3 3 objectInit ∈ T0 := t0_at 134 (by decide +kernel) rfl
theorem kX3_9 : Cond.classLink RX3 9 RX4 ∈ T0 := t0_at 135 (by decide +kernel) rfl
theorem kX3_20 : Cond.classLink RX3 20 RX1 ∈ T0 := t0_at 136 (by decide +kernel) rfl
theorem kX1_1 : Cond.methodLink RX1 1 objectInit ∈ T0 := t0_at 141 (by decide +kernel) rfl
theorem kX1_9 : Cond.fieldLink RX1 9 RX1 "latest" "[I" ∈ T0 := t0_at 142 (by decide +kernel) rfl
theorem kX1_13 : Cond.fieldLink RX1 13 RX1 "sorted" "[I" ∈ T0 := t0_at 143 (by decide +kernel) rfl
theorem kX1_16 : Cond.fieldLink RX1 16 RX1 "oldest" "I" ∈ T0 := t0_at 144 (by decide +kernel) rfl
theorem kX1_20 : Cond.fieldLink RX1 20 RX1 "size" "I" ∈ T0 := t0_at 145 (by decide +kernel) rfl
theorem kX1_23 : Cond.fieldLink RX1 23 RX1 "first" "I" ∈ T0 := t0_at 146 (by decide +kernel) rfl
theorem kX1_26 : Cond.fieldLink RX1 26 RX1 "second" "I" ∈ T0 := t0_at 147 (by decide +kernel) rfl
theorem kX3_27 : Cond.classLink RX3 27 RX7 ∈ T0 := t0_at 161 (by decide +kernel) rfl
theorem kX3_29 : Cond.methodLink RX3 29 yX7_init ∈ T0 := t0_at 162 (by decide +kernel) rfl
theorem kX3_59 : Cond.methodLink RX3 59 yJ7_fill_53178 ∈ T0 := t0_at 163 (by decide +kernel) rfl
theorem kX3_11 : Cond.fieldLink RX3 11 RX3 "outgoing" "[LGrantNet$Message;" ∈ T0 := t0_at 164 (by decide +kernel) rfl
theorem kX3_17 : Cond.fieldLink RX3 17 RX3 "incoming" "[LGrantNet$Message;" ∈ T0 := t0_at 165 (by decide +kernel) rfl
theorem kX3_23 : Cond.fieldLink RX3 23 RX3 "cutoffs" "LGrantNet$Cutoffs;" ∈ T0 := t0_at 166 (by decide +kernel) rfl
theorem kX3_32 : Cond.fieldLink RX3 32 RX3 "due" "LGrantNet$Row;" ∈ T0 := t0_at 167 (by decide +kernel) rfl
theorem kX3_36 : Cond.fieldLink RX3 36 RX3 "choices" "[I" ∈ T0 := t0_at 168 (by decide +kernel) rfl
theorem kX3_40 : Cond.fieldLink RX3 40 RX3 "ended" "[I" ∈ T0 := t0_at 169 (by decide +kernel) rfl
theorem kX3_43 : Cond.fieldLink RX3 43 RX3 "outgoingCount" "I" ∈ T0 := t0_at 170 (by decide +kernel) rfl
theorem kX3_47 : Cond.fieldLink RX3 47 RX3 "incomingCount" "I" ∈ T0 := t0_at 171 (by decide +kernel) rfl
theorem kX3_50 : Cond.fieldLink RX3 50 RX3 "arrivals" "I" ∈ T0 := t0_at 172 (by decide +kernel) rfl
theorem kX3_53 : Cond.fieldLink RX3 53 RX3 "endedCount" "I" ∈ T0 := t0_at 173 (by decide +kernel) rfl
theorem kX3_56 : Cond.fieldLink RX3 56 RX3 "sentCount" "I" ∈ T0 := t0_at 174 (by decide +kernel) rfl
theorem kX9_10 : Cond.fieldLink RX9 10 RX9 "fabric" "LGrantNet$Fabric;" ∈ T0 := t0_at 198 (by decide +kernel) rfl
theorem kX9_18 : Cond.fieldLink RX9 18 RX9 "hosts" "[LGrantNet$Host;" ∈ T0 := t0_at 199 (by decide +kernel) rfl
theorem kX9_24 : Cond.fieldLink RX9 24 RX9 "messages" "[LGrantNet$Message;" ∈ T0 := t0_at 200 (by decide +kernel) rfl
theorem kX9_28 : Cond.fieldLink RX9 28 RX9 "begun" "I" ∈ T0 := t0_at 201 (by decide +kernel) rfl
theorem kX9_32 : Cond.fieldLink RX9 32 RX9 "clock" "I" ∈ T0 := t0_at 202 (by decide +kernel) rfl
theorem kL_19 : Cond.methodLink RL 19 yX9_message ∈ T0 := t0_at 214 (by decide +kernel) rfl
theorem kX9_36 : Cond.methodLink RX9 36 yX9_isHost ∈ T0 := t0_at 218 (by decide +kernel) rfl
theorem kX9_40 : Cond.methodLink RX9 40 yX4_init ∈ T0 := t0_at 222 (by decide +kernel) rfl
theorem kX4_1 : Cond.methodLink RX4 1 objectInit ∈ T0 := t0_at 225 (by decide +kernel) rfl
theorem kX4_22 : Cond.classLink RX4 22 RX8 ∈ T0 := t0_at 226 (by decide +kernel) rfl
theorem kX4_24 : Cond.methodLink RX4 24 yX8_init ∈ T0 := t0_at 228 (by decide +kernel) rfl
theorem kX8_3 : Cond.methodLink RX8 3 objectInit ∈ T0 := t0_at 231 (by decide +kernel) rfl
theorem kX8_37 : Cond.methodLink RX8 37 yJ9_min_7cf53 ∈ T0 := t0_at 232 (by decide +kernel) rfl
theorem kX8_34 : Cond.fieldLink RX8 34 RX8 "length" "I" ∈ T0 := t0_at 235 (by decide +kernel) rfl
theorem kX8_11 : Cond.fieldLink RX8 11 RX8 "status" "I" ∈ T0 := t0_at 236 (by decide +kernel) rfl
theorem kX8_15 : Cond.fieldLink RX8 15 RX8 "next" "I" ∈ T0 := t0_at 237 (by decide +kernel) rfl
theorem kX8_43 : Cond.fieldLink RX8 43 RX8 "permitted" "I" ∈ T0 := t0_at 238 (by decide +kernel) rfl
theorem kX8_18 : Cond.fieldLink RX8 18 RX8 "level" "I" ∈ T0 := t0_at 239 (by decide +kernel) rfl
theorem kX8_21 : Cond.fieldLink RX8 21 RX8 "wanted" "J" ∈ T0 := t0_at 240 (by decide +kernel) rfl
theorem kX8_25 : Cond.fieldLink RX8 25 RX8 "quiet" "I" ∈ T0 := t0_at 241 (by decide +kernel) rfl
theorem kX8_28 : Cond.fieldLink RX8 28 RX8 "tries" "I" ∈ T0 := t0_at 242 (by decide +kernel) rfl
theorem kX8_31 : Cond.fieldLink RX8 31 RX8 "endedAt" "I" ∈ T0 := t0_at 243 (by decide +kernel) rfl
theorem kX4_31 : Cond.classLink RX4 31 RX6 ∈ T0 := t0_at 263 (by decide +kernel) rfl
theorem kX4_33 : Cond.methodLink RX4 33 yX6_init ∈ T0 := t0_at 265 (by decide +kernel) rfl
theorem kX6_3 : Cond.methodLink RX6 3 objectInit ∈ T0 := t0_at 268 (by decide +kernel) rfl
theorem kX6_37 : Cond.fieldLink RX6 37 RX6 "length" "I" ∈ T0 := t0_at 269 (by decide +kernel) rfl
theorem kX6_40 : Cond.fieldLink RX6 40 RX6 "isForgettable" "Z" ∈ T0 := t0_at 270 (by decide +kernel) rfl
theorem kX6_11 : Cond.fieldLink RX6 11 RX6 "state" "I" ∈ T0 := t0_at 271 (by decide +kernel) rfl
theorem kX6_15 : Cond.fieldLink RX6 15 RX6 "executed" "I" ∈ T0 := t0_at 272 (by decide +kernel) rfl
theorem kX6_18 : Cond.fieldLink RX6 18 RX6 "held" "J" ∈ T0 := t0_at 273 (by decide +kernel) rfl
theorem kX6_22 : Cond.fieldLink RX6 22 RX6 "granted" "I" ∈ T0 := t0_at 274 (by decide +kernel) rfl
theorem kX6_25 : Cond.fieldLink RX6 25 RX6 "silence" "I" ∈ T0 := t0_at 275 (by decide +kernel) rfl
theorem kX6_28 : Cond.fieldLink RX6 28 RX6 "asks" "I" ∈ T0 := t0_at 276 (by decide +kernel) rfl
theorem kX6_31 : Cond.fieldLink RX6 31 RX6 "arrival" "I" ∈ T0 := t0_at 277 (by decide +kernel) rfl
theorem kX6_34 : Cond.fieldLink RX6 34 RX6 "finishedAt" "I" ∈ T0 := t0_at 278 (by decide +kernel) rfl
theorem kX4_7 : Cond.fieldLink RX4 7 RX4 "number" "I" ∈ T0 := t0_at 300 (by decide +kernel) rfl
theorem kX4_13 : Cond.fieldLink RX4 13 RX4 "from" "I" ∈ T0 := t0_at 304 (by decide +kernel) rfl
theorem kX4_16 : Cond.fieldLink RX4 16 RX4 "to" "I" ∈ T0 := t0_at 306 (by decide +kernel) rfl
theorem kX4_19 : Cond.fieldLink RX4 19 RX4 "length" "I" ∈ T0 := t0_at 309 (by decide +kernel) rfl
theorem kX4_27 : Cond.fieldLink RX4 27 RX4 "sending" "LGrantNet$Sending;" ∈ T0 := t0_at 311 (by decide +kernel) rfl
theorem kX4_36 : Cond.fieldLink RX4 36 RX4 "receiving" "LGrantNet$Receiving;" ∈ T0 := t0_at 314 (by decide +kernel) rfl
theorem kX9_43 : Cond.methodLink RX9 43 yX3_addOutgoing ∈ T0 := t0_at 330 (by decide +kernel) rfl
theorem kX3_68 : Cond.methodLink RX3 68 yX1_add ∈ T0 := t0_at 334 (by decide +kernel) rfl
theorem kX1_29 : Cond.methodLink RX1 29 yJ9_min_7cf53 ∈ T0 := t0_at 338 (by decide +kernel) rfl
theorem kX1_35 : Cond.methodLink RX1 35 yX1_sort ∈ T0 := t0_at 339 (by decide +kernel) rfl
theorem kX9_47 : Cond.methodLink RX9 47 yX3_addIncoming ∈ T0 := t0_at 343 (by decide +kernel) rfl
theorem kL_34 : Cond.methodLink RL 34 yX9_lose ∈ T0 := t0_at 347 (by decide +kernel) rfl
theorem kX9_63 : Cond.methodLink RX9 63 yX2_isLink ∈ T0 := t0_at 351 (by decide +kernel) rfl
theorem kX9_66 : Cond.methodLink RX9 66 yX2_setToLose ∈ T0 := t0_at 354 (by decide +kernel) rfl
theorem kL_39 : Cond.methodLink RL 39 yX9_spine ∈ T0 := t0_at 358 (by decide +kernel) rfl
theorem kX9_70 : Cond.methodLink RX9 70 yX2_setSpine ∈ T0 := t0_at 362 (by decide +kernel) rfl
theorem kL_44 : Cond.methodLink RL 44 yX9_sent ∈ T0 := t0_at 366 (by decide +kernel) rfl
theorem kX9_74 : Cond.methodLink RX9 74 yX9_find ∈ T0 := t0_at 370 (by decide +kernel) rfl
theorem kX9_82 : Cond.methodLink RX9 82 yX8_tell ∈ T0 := t0_at 374 (by decide +kernel) rfl
theorem kX8_92 : Cond.methodLink RX8 92 yX8_left ∈ T0 := t0_at 378 (by decide +kernel) rfl
theorem kX8_46 : Cond.methodLink RX8 46 yJ13_bitCount_95d88 ∈ T0 := t0_at 382 (by decide +kernel) rfl
theorem kJ13_314 : Cond.constantLong RJ13 314 (6148914691236517205) ∈ T0 := t0_at 385 (by decide +kernel) rfl
theorem kJ13_316 : Cond.constantLong RJ13 316 (3689348814741910323) ∈ T0 := t0_at 386 (by decide +kernel) rfl
theorem kJ13_318 : Cond.constantLong RJ13 318 (1085102592571150095) ∈ T0 := t0_at 387 (by decide +kernel) rfl
theorem kL_49 : Cond.methodLink RL 49 yX9_received ∈ T0 := t0_at 388 (by decide +kernel) rfl
theorem kX9_92 : Cond.methodLink RX9 92 yX6_tell ∈ T0 := t0_at 392 (by decide +kernel) rfl
theorem kX6_56 : Cond.methodLink RX6 56 yX6_isKnown ∈ T0 := t0_at 396 (by decide +kernel) rfl
theorem kX6_73 : Cond.methodLink RX6 73 yX6_missing ∈ T0 := t0_at 400 (by decide +kernel) rfl
theorem kX6_50 : Cond.methodLink RX6 50 yJ13_bitCount_95d88 ∈ T0 := t0_at 404 (by decide +kernel) rfl
theorem kL_53 : Cond.methodLink RL 53 yX9_in ∈ T0 := t0_at 405 (by decide +kernel) rfl
theorem kX9_95 : Cond.methodLink RX9 95 yX6_holds ∈ T0 := t0_at 409 (by decide +kernel) rfl
theorem kX6_44 : Cond.methodLink RX6 44 yX0_has ∈ T0 := t0_at 413 (by decide +kernel) rfl
theorem kL_57 : Cond.methodLink RL 57 yX9_finished ∈ T0 := t0_at 416 (by decide +kernel) rfl
theorem kX9_98 : Cond.methodLink RX9 98 yX3_latestFinished ∈ T0 := t0_at 420 (by decide +kernel) rfl
theorem kX3_104 : Cond.methodLink RX3 104 yJ9_floorMod_7cf53 ∈ T0 := t0_at 424 (by decide +kernel) rfl
theorem kL_61 : Cond.methodLink RL 61 yX9_chosen ∈ T0 := t0_at 427 (by decide +kernel) rfl
theorem kX9_101 : Cond.methodLink RX9 101 yX3_choice ∈ T0 := t0_at 431 (by decide +kernel) rfl
theorem kL_65 : Cond.methodLink RL 65 yX9_host ∈ T0 := t0_at 435 (by decide +kernel) rfl
theorem kX9_104 : Cond.methodLink RX9 104 yX3_tell ∈ T0 := t0_at 439 (by decide +kernel) rfl
theorem kX3_194 : Cond.methodLink RX3 194 yX3_grantedAndNotIn ∈ T0 := t0_at 443 (by decide +kernel) rfl
theorem kX3_203 : Cond.methodLink RX3 203 yX6_grantedAndNotIn ∈ T0 := t0_at 447 (by decide +kernel) rfl
theorem kX6_60 : Cond.methodLink RX6 60 yJ9_max_7cf53 ∈ T0 := t0_at 451 (by decide +kernel) rfl
theorem kX3_164 : Cond.methodLink RX3 164 yX7_size ∈ T0 := t0_at 454 (by decide +kernel) rfl
theorem kX3_197 : Cond.methodLink RX3 197 yX1_first ∈ T0 := t0_at 458 (by decide +kernel) rfl
theorem kX3_200 : Cond.methodLink RX3 200 yX1_second ∈ T0 := t0_at 462 (by decide +kernel) rfl
theorem kL_69 : Cond.methodLink RL 69 yX9_queue ∈ T0 := t0_at 466 (by decide +kernel) rfl
theorem kX9_105 : Cond.methodLink RX9 105 yX2_waiting ∈ T0 := t0_at 470 (by decide +kernel) rfl
theorem kX2_60 : Cond.methodLink RX2 60 yX2_isLink ∈ T0 := t0_at 474 (by decide +kernel) rfl
theorem kX2_95 : Cond.methodLink RX2 95 yX2_queueOf ∈ T0 := t0_at 475 (by decide +kernel) rfl
theorem kX2_114 : Cond.methodLink RX2 114 yX7_size ∈ T0 := t0_at 479 (by decide +kernel) rfl
theorem kL_73 : Cond.methodLink RL 73 yX9_packet ∈ T0 := t0_at 480 (by decide +kernel) rfl
theorem kX9_109 : Cond.methodLink RX9 109 yX2_look ∈ T0 := t0_at 484 (by decide +kernel) rfl
theorem kX9_112 : Cond.methodLink RX9 112 yX5_tell ∈ T0 := t0_at 488 (by decide +kernel) rfl
theorem kX5_17 : Cond.methodLink RX5 17 yX5_kindOf ∈ T0 := t0_at 491 (by decide +kernel) rfl
theorem kX5_21 : Cond.methodLink RX5 21 yX5_messageOf ∈ T0 := t0_at 494 (by decide +kernel) rfl
theorem kX5_24 : Cond.methodLink RX5 24 yX5_countOf ∈ T0 := t0_at 497 (by decide +kernel) rfl
theorem kX5_27 : Cond.methodLink RX5 27 yX5_priorityOf ∈ T0 := t0_at 500 (by decide +kernel) rfl
theorem kL_77 : Cond.methodLink RL 77 yX9_total ∈ T0 := t0_at 503 (by decide +kernel) rfl
theorem kX9_116 : Cond.methodLink RX9 116 yX2_tell ∈ T0 := t0_at 507 (by decide +kernel) rfl
theorem kX2_117 : Cond.methodLink RX2 117 yX2_underWay ∈ T0 := t0_at 511 (by decide +kernel) rfl
theorem kL_24 : Cond.methodLink RL 24 yL_slot ∈ T0 := t0_at 515 (by decide +kernel) rfl
theorem kL_13 : Cond.classLink RL 13 "java/lang/IllegalArgumentException" ∈ T0 := t0_at 518 (by decide +kernel) rfl
theorem kL_7 : Cond.methodLink RL 7 yX9_slot ∈ T0 := t0_at 519 (by decide +kernel) rfl
theorem kX9_53 : Cond.classLink RX9 53 "java/lang/IllegalArgumentException" ∈ T0 := t0_at 523 (by decide +kernel) rfl
theorem kX9_57 : Cond.methodLink RX9 57 ⟨"java/lang/IllegalArgumentException", "<init>", "(Ljava/lang/String;)V"⟩ ∈ T0 := t0_at 563 (by decide +kernel) rfl
theorem kX9_60 : Cond.methodLink RX9 60 yX9_runSlot ∈ T0 := t0_at 589 (by decide +kernel) rfl
theorem kX9_117 : Cond.methodLink RX9 117 yX9_arriveAll ∈ T0 := t0_at 593 (by decide +kernel) rfl
theorem kX9_137 : Cond.methodLink RX9 137 yX2_takeOff ∈ T0 := t0_at 597 (by decide +kernel) rfl
theorem kX9_140 : Cond.methodLink RX9 140 yX2_endsAtHost ∈ T0 := t0_at 601 (by decide +kernel) rfl
theorem kX2_49 : Cond.methodLink RX2 49 yX2_isFromLeaf ∈ T0 := t0_at 604 (by decide +kernel) rfl
theorem kX2_53 : Cond.methodLink RX2 53 yX2_portOfLeaf ∈ T0 := t0_at 607 (by decide +kernel) rfl
theorem kX9_143 : Cond.methodLink RX9 143 yX9_takeIn ∈ T0 := t0_at 610 (by decide +kernel) rfl
theorem kX9_149 : Cond.methodLink RX9 149 yX5_messageOf ∈ T0 := t0_at 614 (by decide +kernel) rfl
theorem kX9_152 : Cond.methodLink RX9 152 yX5_kindOf ∈ T0 := t0_at 615 (by decide +kernel) rfl
theorem kX9_158 : Cond.methodLink RX9 158 yX5_countOf ∈ T0 := t0_at 616 (by decide +kernel) rfl
theorem kX9_161 : Cond.methodLink RX9 161 yX3_takeData ∈ T0 := t0_at 617 (by decide +kernel) rfl
theorem kX3_75 : Cond.methodLink RX3 75 yX6_isUnknown ∈ T0 := t0_at 621 (by decide +kernel) rfl
theorem kX3_81 : Cond.methodLink RX3 81 yX6_begin ∈ T0 := t0_at 625 (by decide +kernel) rfl
theorem kX6_66 : Cond.methodLink RX6 66 yJ9_min_7cf53 ∈ T0 := t0_at 629 (by decide +kernel) rfl
theorem kX3_84 : Cond.methodLink RX3 84 yX6_isKnown ∈ T0 := t0_at 630 (by decide +kernel) rfl
theorem kX3_87 : Cond.methodLink RX3 87 yX6_take ∈ T0 := t0_at 631 (by decide +kernel) rfl
theorem kX6_69 : Cond.methodLink RX6 69 yX0_with ∈ T0 := t0_at 635 (by decide +kernel) rfl
theorem kX3_91 : Cond.methodLink RX3 91 yX6_isFinished ∈ T0 := t0_at 638 (by decide +kernel) rfl
theorem kX3_94 : Cond.methodLink RX3 94 yX3_noteFinished ∈ T0 := t0_at 642 (by decide +kernel) rfl
theorem kX3_100 : Cond.methodLink RX3 100 yX3_putDue ∈ T0 := t0_at 646 (by decide +kernel) rfl
theorem kX3_116 : Cond.methodLink RX3 116 yX5_pack ∈ T0 := t0_at 650 (by decide +kernel) rfl
theorem kX3_120 : Cond.methodLink RX3 120 yX7_put ∈ T0 := t0_at 653 (by decide +kernel) rfl
theorem kX9_165 : Cond.methodLink RX9 165 yX8_takeAnswer ∈ T0 := t0_at 657 (by decide +kernel) rfl
theorem kX8_63 : Cond.methodLink RX8 63 yX6_targetOfGrant ∈ T0 := t0_at 661 (by decide +kernel) rfl
theorem kX8_69 : Cond.methodLink RX8 69 yJ9_max_7cf53 ∈ T0 := t0_at 664 (by decide +kernel) rfl
theorem kX8_72 : Cond.methodLink RX8 72 yX6_levelOfGrant ∈ T0 := t0_at 665 (by decide +kernel) rfl
theorem kX8_75 : Cond.methodLink RX8 75 yX6_grantedOfAsk ∈ T0 := t0_at 668 (by decide +kernel) rfl
theorem kX8_78 : Cond.methodLink RX8 78 yX6_placeOfAsk ∈ T0 := t0_at 671 (by decide +kernel) rfl
theorem kX8_81 : Cond.methodLink RX8 81 yX8_want ∈ T0 := t0_at 674 (by decide +kernel) rfl
theorem kX8_89 : Cond.methodLink RX8 89 yX0_with ∈ T0 := t0_at 678 (by decide +kernel) rfl
theorem kX8_85 : Cond.methodLink RX8 85 yX8_end ∈ T0 := t0_at 679 (by decide +kernel) rfl
theorem kX9_146 : Cond.methodLink RX9 146 yX2_passOn ∈ T0 := t0_at 683 (by decide +kernel) rfl
theorem kX2_63 : Cond.methodLink RX2 63 yX2_endsAtSpine ∈ T0 := t0_at 687 (by decide +kernel) rfl
theorem kX2_66 : Cond.methodLink RX2 66 yX2_passSpine ∈ T0 := t0_at 690 (by decide +kernel) rfl
theorem kX2_76 : Cond.methodLink RX2 76 yX5_goalOf ∈ T0 := t0_at 694 (by decide +kernel) rfl
theorem kX2_57 : Cond.methodLink RX2 57 yX2_leafOfHost ∈ T0 := t0_at 697 (by decide +kernel) rfl
theorem kX2_89 : Cond.methodLink RX2 89 yX2_linkFromSpine ∈ T0 := t0_at 700 (by decide +kernel) rfl
theorem kX2_83 : Cond.methodLink RX2 83 yX2_enqueue ∈ T0 := t0_at 703 (by decide +kernel) rfl
theorem kX2_92 : Cond.methodLink RX2 92 yX5_priorityOf ∈ T0 := t0_at 707 (by decide +kernel) rfl
theorem kX2_99 : Cond.methodLink RX2 99 yX7_put ∈ T0 := t0_at 708 (by decide +kernel) rfl
theorem kX2_70 : Cond.methodLink RX2 70 yX2_passLeaf ∈ T0 := t0_at 709 (by decide +kernel) rfl
theorem kX2_73 : Cond.methodLink RX2 73 yX2_leafAtEnd ∈ T0 := t0_at 713 (by decide +kernel) rfl
theorem kX2_79 : Cond.methodLink RX2 79 yX2_linkFromLeaf ∈ T0 := t0_at 716 (by decide +kernel) rfl
theorem kX2_86 : Cond.methodLink RX2 86 yX2_chooseSpine ∈ T0 := t0_at 719 (by decide +kernel) rfl
theorem kX9_120 : Cond.methodLink RX9 120 yX2_fillLinks ∈ T0 := t0_at 723 (by decide +kernel) rfl
theorem kX2_102 : Cond.methodLink RX2 102 yX2_isServed ∈ T0 := t0_at 727 (by decide +kernel) rfl
theorem kX2_105 : Cond.methodLink RX2 105 yX2_fill ∈ T0 := t0_at 731 (by decide +kernel) rfl
theorem kX2_107 : Cond.methodLink RX2 107 yX7_take ∈ T0 := t0_at 735 (by decide +kernel) rfl
theorem kX2_111 : Cond.methodLink RX2 111 yX2_putOn ∈ T0 := t0_at 739 (by decide +kernel) rfl
theorem kX9_123 : Cond.methodLink RX9 123 yX3_workAsReceiver ∈ T0 := t0_at 743 (by decide +kernel) rfl
theorem kX3_124 : Cond.methodLink RX3 124 yX3_listen ∈ T0 := t0_at 747 (by decide +kernel) rfl
theorem kX3_133 : Cond.methodLink RX3 133 yX6_growSilence ∈ T0 := t0_at 751 (by decide +kernel) rfl
theorem kX6_77 : Cond.methodLink RX6 77 yX6_forget ∈ T0 := t0_at 755 (by decide +kernel) rfl
theorem kX3_136 : Cond.methodLink RX3 136 yX6_countOfAsk ∈ T0 := t0_at 759 (by decide +kernel) rfl
theorem kX6_80 : Cond.constantLong RX6 80 (-1) ∈ T0 := t0_at 763 (by decide +kernel) rfl
theorem kX6_82 : Cond.methodLink RX6 82 yX0_least ∈ T0 := t0_at 764 (by decide +kernel) rfl
theorem kX0_9 : Cond.methodLink RX0 9 yJ13_bitCount_95d88 ∈ T0 := t0_at 767 (by decide +kernel) rfl
theorem kX3_127 : Cond.methodLink RX3 127 yX6_forgetIfOld ∈ T0 := t0_at 768 (by decide +kernel) rfl
theorem kX6_85 : Cond.methodLink RX6 85 yX6_isFinished ∈ T0 := t0_at 772 (by decide +kernel) rfl
theorem kX3_130 : Cond.methodLink RX3 130 yX3_choose ∈ T0 := t0_at 773 (by decide +kernel) rfl
theorem kX3_140 : Cond.methodLink RX3 140 yX3_bestBehind ∈ T0 := t0_at 777 (by decide +kernel) rfl
theorem kX3_151 : Cond.methodLink RX3 151 yX6_isAheadOf ∈ T0 := t0_at 781 (by decide +kernel) rfl
theorem kX3_144 : Cond.methodLink RX3 144 yX6_growGranted ∈ T0 := t0_at 785 (by decide +kernel) rfl
theorem kX3_147 : Cond.methodLink RX3 147 yX6_countOfGrant ∈ T0 := t0_at 789 (by decide +kernel) rfl
theorem kX9_127 : Cond.methodLink RX9 127 yX3_workAsSender ∈ T0 := t0_at 793 (by decide +kernel) rfl
theorem kX3_159 : Cond.methodLink RX3 159 yX8_growQuiet ∈ T0 := t0_at 797 (by decide +kernel) rfl
theorem kX9_130 : Cond.methodLink RX9 130 yX3_nextPacket ∈ T0 := t0_at 801 (by decide +kernel) rfl
theorem kX3_167 : Cond.methodLink RX3 167 yX7_take ∈ T0 := t0_at 805 (by decide +kernel) rfl
theorem kX3_169 : Cond.methodLink RX3 169 yX3_nextData ∈ T0 := t0_at 806 (by decide +kernel) rfl
theorem kX3_172 : Cond.methodLink RX3 172 yX3_shortestToSend ∈ T0 := t0_at 810 (by decide +kernel) rfl
theorem kX3_188 : Cond.methodLink RX3 188 yX8_canSend ∈ T0 := t0_at 814 (by decide +kernel) rfl
theorem kX3_191 : Cond.methodLink RX3 191 yX8_left ∈ T0 := t0_at 818 (by decide +kernel) rfl
theorem kX3_176 : Cond.methodLink RX3 176 yX8_takePlace ∈ T0 := t0_at 819 (by decide +kernel) rfl
theorem kX8_52 : Cond.methodLink RX8 52 yX0_least ∈ T0 := t0_at 823 (by decide +kernel) rfl
theorem kX8_57 : Cond.methodLink RX8 57 yX0_without ∈ T0 := t0_at 824 (by decide +kernel) rfl
theorem kX0_7 : Cond.constantLong RX0 7 (-1) ∈ T0 := t0_at 827 (by decide +kernel) rfl
theorem kX3_179 : Cond.methodLink RX3 179 yX1_priorityFor ∈ T0 := t0_at 828 (by decide +kernel) rfl
theorem kX3_182 : Cond.methodLink RX3 182 yX8_level ∈ T0 := t0_at 832 (by decide +kernel) rfl
theorem kX9_134 : Cond.methodLink RX9 134 yX2_putOn ∈ T0 := t0_at 836 (by decide +kernel) rfl
theorem kL_16 : Cond.classLink RL 16 RX10 ∈ T0 := t0_at 837 (by decide +kernel) rfl
theorem kL_18 : Cond.methodLink RL 18 yX10_init ∈ T0 := t0_at 839 (by decide +kernel) rfl
theorem kX10_1 : Cond.methodLink RX10 1 objectInit ∈ T0 := t0_at 842 (by decide +kernel) rfl
theorem kX10_134 : Cond.fieldLink RX10 134 RX10 "code" "I" ∈ T0 := t0_at 843 (by decide +kernel) rfl
theorem kX10_177 : Cond.fieldLink RX10 177 RX10 "clock" "I" ∈ T0 := t0_at 844 (by decide +kernel) rfl
theorem kX10_138 : Cond.fieldLink RX10 138 RX10 "many" "I" ∈ T0 := t0_at 845 (by decide +kernel) rfl
theorem kX10_7 : Cond.fieldLink RX10 7 RX10 "kind" "[I" ∈ T0 := t0_at 846 (by decide +kernel) rfl
theorem kX10_13 : Cond.fieldLink RX10 13 RX10 "about" "[I" ∈ T0 := t0_at 847 (by decide +kernel) rfl
theorem kX10_16 : Cond.fieldLink RX10 16 RX10 "count" "[I" ∈ T0 := t0_at 848 (by decide +kernel) rfl
theorem kX10_19 : Cond.fieldLink RX10 19 RX10 "priority" "[I" ∈ T0 := t0_at 849 (by decide +kernel) rfl
theorem kX10_22 : Cond.fieldLink RX10 22 RX10 "losing" "[I" ∈ T0 := t0_at 850 (by decide +kernel) rfl
theorem kX10_25 : Cond.fieldLink RX10 25 RX10 "waiting" "[I" ∈ T0 := t0_at 851 (by decide +kernel) rfl
theorem kX10_28 : Cond.fieldLink RX10 28 RX10 "queueKind" "[I" ∈ T0 := t0_at 852 (by decide +kernel) rfl
theorem kX10_31 : Cond.fieldLink RX10 31 RX10 "queueAbout" "[I" ∈ T0 := t0_at 853 (by decide +kernel) rfl
theorem kX10_34 : Cond.fieldLink RX10 34 RX10 "queueCount" "[I" ∈ T0 := t0_at 854 (by decide +kernel) rfl
theorem kX10_37 : Cond.fieldLink RX10 37 RX10 "off" "[Z" ∈ T0 := t0_at 855 (by decide +kernel) rfl
theorem kX10_41 : Cond.fieldLink RX10 41 RX10 "choice" "[I" ∈ T0 := t0_at 856 (by decide +kernel) rfl
theorem kX10_144 : Cond.fieldLink RX10 144 RX10 "dropped" "I" ∈ T0 := t0_at 857 (by decide +kernel) rfl
theorem kX10_141 : Cond.fieldLink RX10 141 RX10 "lost" "I" ∈ T0 := t0_at 858 (by decide +kernel) rfl
theorem kX10_44 : Cond.fieldLink RX10 44 RX10 "from" "[I" ∈ T0 := t0_at 859 (by decide +kernel) rfl
theorem kX10_47 : Cond.fieldLink RX10 47 RX10 "to" "[I" ∈ T0 := t0_at 860 (by decide +kernel) rfl
theorem kX10_50 : Cond.fieldLink RX10 50 RX10 "length" "[I" ∈ T0 := t0_at 861 (by decide +kernel) rfl
theorem kX10_53 : Cond.fieldLink RX10 53 RX10 "mode" "[I" ∈ T0 := t0_at 862 (by decide +kernel) rfl
theorem kX10_56 : Cond.fieldLink RX10 56 RX10 "state" "[I" ∈ T0 := t0_at 863 (by decide +kernel) rfl
theorem kX10_59 : Cond.fieldLink RX10 59 RX10 "next" "[I" ∈ T0 := t0_at 864 (by decide +kernel) rfl
theorem kX10_62 : Cond.fieldLink RX10 62 RX10 "permitted" "[I" ∈ T0 := t0_at 865 (by decide +kernel) rfl
theorem kX10_65 : Cond.fieldLink RX10 65 RX10 "level" "[I" ∈ T0 := t0_at 866 (by decide +kernel) rfl
theorem kX10_68 : Cond.fieldLink RX10 68 RX10 "quiet" "[I" ∈ T0 := t0_at 867 (by decide +kernel) rfl
theorem kX10_71 : Cond.fieldLink RX10 71 RX10 "tries" "[I" ∈ T0 := t0_at 868 (by decide +kernel) rfl
theorem kX10_74 : Cond.fieldLink RX10 74 RX10 "ended" "[I" ∈ T0 := t0_at 869 (by decide +kernel) rfl
theorem kX10_77 : Cond.fieldLink RX10 77 RX10 "wanted" "[Z" ∈ T0 := t0_at 870 (by decide +kernel) rfl
theorem kX10_80 : Cond.fieldLink RX10 80 RX10 "known" "[I" ∈ T0 := t0_at 871 (by decide +kernel) rfl
theorem kX10_83 : Cond.fieldLink RX10 83 RX10 "executed" "[I" ∈ T0 := t0_at 872 (by decide +kernel) rfl
theorem kX10_86 : Cond.fieldLink RX10 86 RX10 "granted" "[I" ∈ T0 := t0_at 873 (by decide +kernel) rfl
theorem kX10_89 : Cond.fieldLink RX10 89 RX10 "silence" "[I" ∈ T0 := t0_at 874 (by decide +kernel) rfl
theorem kX10_92 : Cond.fieldLink RX10 92 RX10 "asks" "[I" ∈ T0 := t0_at 875 (by decide +kernel) rfl
theorem kX10_95 : Cond.fieldLink RX10 95 RX10 "arrival" "[I" ∈ T0 := t0_at 876 (by decide +kernel) rfl
theorem kX10_98 : Cond.fieldLink RX10 98 RX10 "since" "[I" ∈ T0 := t0_at 877 (by decide +kernel) rfl
theorem kX10_101 : Cond.fieldLink RX10 101 RX10 "isIn" "[Z" ∈ T0 := t0_at 878 (by decide +kernel) rfl
theorem kX10_104 : Cond.fieldLink RX10 104 RX10 "arrivals" "[I" ∈ T0 := t0_at 879 (by decide +kernel) rfl
theorem kX10_107 : Cond.fieldLink RX10 107 RX10 "due" "[I" ∈ T0 := t0_at 880 (by decide +kernel) rfl
theorem kX10_110 : Cond.fieldLink RX10 110 RX10 "dueKind" "[I" ∈ T0 := t0_at 881 (by decide +kernel) rfl
theorem kX10_113 : Cond.fieldLink RX10 113 RX10 "dueAbout" "[I" ∈ T0 := t0_at 882 (by decide +kernel) rfl
theorem kX10_116 : Cond.fieldLink RX10 116 RX10 "dueCount" "[I" ∈ T0 := t0_at 883 (by decide +kernel) rfl
theorem kX10_119 : Cond.fieldLink RX10 119 RX10 "sent" "[I" ∈ T0 := t0_at 884 (by decide +kernel) rfl
theorem kX10_122 : Cond.fieldLink RX10 122 RX10 "chosen" "[I" ∈ T0 := t0_at 885 (by decide +kernel) rfl
theorem kX10_125 : Cond.fieldLink RX10 125 RX10 "chosenMany" "[I" ∈ T0 := t0_at 886 (by decide +kernel) rfl
theorem kX10_128 : Cond.fieldLink RX10 128 RX10 "finishes" "[I" ∈ T0 := t0_at 887 (by decide +kernel) rfl
theorem kX10_131 : Cond.fieldLink RX10 131 RX10 "finishAbout" "[I" ∈ T0 := t0_at 888 (by decide +kernel) rfl
theorem kL_30 : Cond.methodLink RL 30 yX10_thrown ∈ T0 := t0_at 982 (by decide +kernel) rfl
theorem kL_23 : Cond.methodLink RL 23 yX10_message ∈ T0 := t0_at 986 (by decide +kernel) rfl
theorem kL_29 : Cond.methodLink RL 29 yX10_slot ∈ T0 := t0_at 990 (by decide +kernel) rfl
theorem kX10_210 : Cond.methodLink RX10 210 yX10_arrive ∈ T0 := t0_at 994 (by decide +kernel) rfl
theorem kX10_155 : Cond.methodLink RX10 155 yX10_atLeaf ∈ T0 := t0_at 998 (by decide +kernel) rfl
theorem kX10_147 : Cond.methodLink RX10 147 yX10_goal ∈ T0 := t0_at 1002 (by decide +kernel) rfl
theorem kX10_151 : Cond.methodLink RX10 151 yX10_line ∈ T0 := t0_at 1006 (by decide +kernel) rfl
theorem kX10_158 : Cond.methodLink RX10 158 yX10_data ∈ T0 := t0_at 1010 (by decide +kernel) rfl
theorem kX10_169 : Cond.methodLink RX10 169 yX10_becomeDue ∈ T0 := t0_at 1014 (by decide +kernel) rfl
theorem kX10_173 : Cond.methodLink RX10 173 yX10_missing ∈ T0 := t0_at 1018 (by decide +kernel) rfl
theorem kX10_162 : Cond.methodLink RX10 162 yX10_answer ∈ T0 := t0_at 1022 (by decide +kernel) rfl
theorem kX10_194 : Cond.methodLink RX10 194 yX10_want ∈ T0 := t0_at 1026 (by decide +kernel) rfl
theorem kX10_213 : Cond.methodLink RX10 213 yX10_serve ∈ T0 := t0_at 1030 (by decide +kernel) rfl
theorem kX10_166 : Cond.methodLink RX10 166 yX10_enter ∈ T0 := t0_at 1034 (by decide +kernel) rfl
theorem kX10_216 : Cond.methodLink RX10 216 yX10_receive ∈ T0 := t0_at 1038 (by decide +kernel) rfl
theorem kX10_180 : Cond.methodLink RX10 180 yX10_listen ∈ T0 := t0_at 1042 (by decide +kernel) rfl
theorem kX10_183 : Cond.methodLink RX10 183 yX10_forget ∈ T0 := t0_at 1046 (by decide +kernel) rfl
theorem kX10_187 : Cond.methodLink RX10 187 yX10_isChosen ∈ T0 := t0_at 1050 (by decide +kernel) rfl
theorem kX10_191 : Cond.methodLink RX10 191 yX10_isAhead ∈ T0 := t0_at 1054 (by decide +kernel) rfl
theorem kX10_219 : Cond.methodLink RX10 219 yX10_watch ∈ T0 := t0_at 1058 (by decide +kernel) rfl
theorem kX10_222 : Cond.methodLink RX10 222 yX10_send ∈ T0 := t0_at 1062 (by decide +kernel) rfl
theorem kX10_197 : Cond.methodLink RX10 197 yX10_least ∈ T0 := t0_at 1066 (by decide +kernel) rfl
theorem kX10_200 : Cond.methodLink RX10 200 yX10_left ∈ T0 := t0_at 1070 (by decide +kernel) rfl
theorem kX10_203 : Cond.methodLink RX10 203 yX10_cutoff ∈ T0 := t0_at 1074 (by decide +kernel) rfl
theorem kX10_206 : Cond.methodLink RX10 206 yX10_rankOf ∈ T0 := t0_at 1078 (by decide +kernel) rfl
theorem kL_38 : Cond.methodLink RL 38 yX10_lose ∈ T0 := t0_at 1082 (by decide +kernel) rfl
theorem kL_43 : Cond.methodLink RL 43 yX10_spine ∈ T0 := t0_at 1086 (by decide +kernel) rfl
theorem kL_48 : Cond.methodLink RL 48 yX10_sent ∈ T0 := t0_at 1090 (by decide +kernel) rfl
theorem kX10_225 : Cond.methodLink RX10 225 yX10_isMessage ∈ T0 := t0_at 1094 (by decide +kernel) rfl
theorem kL_52 : Cond.methodLink RL 52 yX10_received ∈ T0 := t0_at 1098 (by decide +kernel) rfl
theorem kL_56 : Cond.methodLink RL 56 yX10_in ∈ T0 := t0_at 1102 (by decide +kernel) rfl
theorem kL_60 : Cond.methodLink RL 60 yX10_finished ∈ T0 := t0_at 1106 (by decide +kernel) rfl
theorem kL_64 : Cond.methodLink RL 64 yX10_chosen ∈ T0 := t0_at 1110 (by decide +kernel) rfl
theorem kL_68 : Cond.methodLink RL 68 yX10_host ∈ T0 := t0_at 1114 (by decide +kernel) rfl
theorem kL_72 : Cond.methodLink RL 72 yX10_queue ∈ T0 := t0_at 1118 (by decide +kernel) rfl
theorem kL_76 : Cond.methodLink RL 76 yX10_packet ∈ T0 := t0_at 1122 (by decide +kernel) rfl
theorem kL_80 : Cond.methodLink RL 80 yX10_total ∈ T0 := t0_at 1126 (by decide +kernel) rfl
theorem gT0 : GoodIn lw_tbl (u_ws RX1 TX1 6) := goodIn_r _ [148, 150, 152, 154, 156, 158] (by decide +kernel) (by decide +kernel)
theorem iT0 : ∀ w ∈ u_ws RX1 TX1 6, w ∈ T0 := t0_of gT0 (by decide +kernel)
theorem ist0 : Cond.instantiable RX1 6 ∈ T0 := t0_at 137 (by decide +kernel) rfl
theorem ini0 : Cond.initialized RX1 ∈ T0 := t0_at 55 (by decide +kernel) rfl
theorem gT1 : GoodIn lw_tbl (u_ws RX2 TX2 7) := goodIn_r _ [111, 113, 115, 117, 119, 121, 123] (by decide +kernel) (by decide +kernel)
theorem iT1 : ∀ w ∈ u_ws RX2 TX2 7, w ∈ T0 := t0_of gT1 (by decide +kernel)
theorem ist1 : Cond.instantiable RX2 7 ∈ T0 := t0_at 77 (by decide +kernel) rfl
theorem ini1 : Cond.initialized RX2 ∈ T0 := t0_at 51 (by decide +kernel) rfl
theorem gT2 : GoodIn lw_tbl (u_ws RX3 TX3 11) := goodIn_r _ [175, 177, 179, 181, 183, 185, 187, 189, 191, 193, 195] (by decide +kernel) (by decide +kernel)
theorem iT2 : ∀ w ∈ u_ws RX3 TX3 11, w ∈ T0 := t0_of gT2 (by decide +kernel)
theorem ist2 : Cond.instantiable RX3 11 ∈ T0 := t0_at 130 (by decide +kernel) rfl
theorem ini2 : Cond.initialized RX3 ∈ T0 := t0_at 54 (by decide +kernel) rfl
theorem gT3 : GoodIn lw_tbl (u_ws RX4 TX4 6) := goodIn_r _ [317, 319, 321, 323, 325, 327] (by decide +kernel) (by decide +kernel)
theorem iT3 : ∀ w ∈ u_ws RX4 TX4 6, w ∈ T0 := t0_of gT3 (by decide +kernel)
theorem ist3 : Cond.instantiable RX4 6 ∈ T0 := t0_at 221 (by decide +kernel) rfl
theorem ini3 : Cond.initialized RX4 ∈ T0 := t0_at 57 (by decide +kernel) rfl
theorem gT4 : GoodIn lw_tbl (u_ws RX6 TX6 10) := goodIn_r _ [279, 281, 283, 285, 287, 289, 291, 293, 295, 297] (by decide +kernel) (by decide +kernel)
theorem iT4 : ∀ w ∈ u_ws RX6 TX6 10, w ∈ T0 := t0_of gT4 (by decide +kernel)
theorem ist4 : Cond.instantiable RX6 10 ∈ T0 := t0_at 264 (by decide +kernel) rfl
theorem ini4 : Cond.initialized RX6 ∈ T0 := t0_at 60 (by decide +kernel) rfl
theorem gT5 : GoodIn lw_tbl (u_ws RX7 TX7 3) := goodIn_r _ [95, 97, 99] (by decide +kernel) (by decide +kernel)
theorem iT5 : ∀ w ∈ u_ws RX7 TX7 3, w ∈ T0 := t0_of gT5 (by decide +kernel)
theorem ist5 : Cond.instantiable RX7 3 ∈ T0 := t0_at 87 (by decide +kernel) rfl
theorem ini5 : Cond.initialized RX7 ∈ T0 := t0_at 53 (by decide +kernel) rfl
theorem gT6 : GoodIn lw_tbl (u_ws RX8 TX8 9) := goodIn_r _ [244, 246, 248, 250, 252, 254, 256, 258, 260] (by decide +kernel) (by decide +kernel)
theorem iT6 : ∀ w ∈ u_ws RX8 TX8 9, w ∈ T0 := t0_of gT6 (by decide +kernel)
theorem ist6 : Cond.instantiable RX8 9 ∈ T0 := t0_at 227 (by decide +kernel) rfl
theorem ini6 : Cond.initialized RX8 ∈ T0 := t0_at 58 (by decide +kernel) rfl
theorem gT7 : GoodIn lw_tbl (u_ws RX9 TX9 5) := goodIn_r _ [203, 205, 207, 209, 211] (by decide +kernel) (by decide +kernel)
theorem iT7 : ∀ w ∈ u_ws RX9 TX9 5, w ∈ T0 := t0_of gT7 (by decide +kernel)
theorem ist7 : Cond.instantiable RX9 5 ∈ T0 := t0_at 69 (by decide +kernel) rfl
theorem ini7 : Cond.initialized RX9 ∈ T0 := t0_at 50 (by decide +kernel) rfl
theorem gT8 : GoodIn lw_tbl (u_ws RX10 TX10 46) := goodIn_r _ [889, 891, 893, 895, 897, 899, 901, 903, 905, 907, 909, 911, 913, 915, 917, 919, 921, 923, 925, 927, 929, 931, 933, 935, 937, 939, 941, 943, 945, 947, 949, 951, 953, 955, 957, 959, 961, 963, 965, 967, 969, 971, 973, 975, 977, 979] (by decide +kernel) (by decide +kernel)
theorem iT8 : ∀ w ∈ u_ws RX10 TX10 46, w ∈ T0 := t0_of gT8 (by decide +kernel)
theorem ist8 : Cond.instantiable RX10 46 ∈ T0 := t0_at 838 (by decide +kernel) rfl
theorem ini8 : Cond.initialized RX10 ∈ T0 := t0_at 56 (by decide +kernel) rfl
theorem arrI : Cond.arrayClass .int ∈ T0 := t0_at 102 (by decide +kernel) rfl
theorem arrZ : Cond.arrayClass .boolean ∈ T0 := t0_at 103 (by decide +kernel) rfl
theorem arrJ : Cond.arrayClass .long ∈ T0 := t0_at 1130 (by decide +kernel) rfl
theorem oin_i : Cond.instanceMethod objectInit ∈ T0 := t0_at 74 (by decide +kernel) rfl
theorem oin_c : Cond.code objectInit ⟨#[0xb1]⟩ 1 none ∈ T0 := t0_at 75 (by decide +kernel) rfl
abbrev mJ13_bitCount_95d88 : jM := (yJ13_bitCount_95d88, cJ13_bitCount_95d88, 2, some .int)
theorem qJ13_bitCount_95d88 : jMs mJ13_bitCount_95d88 1 := ⟨t0_at 384 (by decide +kernel) rfl, t0_at 67 (by decide +kernel) rfl, by decide +kernel, by decide, by decide +kernel⟩
theorem vJ13_bitCount_95d88 : jMt mJ13_bitCount_95d88 := t0_at 383 (by decide +kernel) rfl
abbrev mJ7_fill_53178 : jM := (yJ7_fill_53178, cJ7_fill_53178, 4, none)
theorem qJ7_fill_53178 : jMs mJ7_fill_53178 2 := ⟨t0_at 86 (by decide +kernel) rfl, t0_at 52 (by decide +kernel) rfl, by decide +kernel, by decide, by decide +kernel⟩
theorem vJ7_fill_53178 : jMt mJ7_fill_53178 := t0_at 85 (by decide +kernel) rfl
abbrev mJ9_floorMod_7cf53 : jM := (yJ9_floorMod_7cf53, cJ9_floorMod_7cf53, 3, some .int)
theorem qJ9_floorMod_7cf53 : jMs mJ9_floorMod_7cf53 2 := ⟨t0_at 426 (by decide +kernel) rfl, t0_at 59 (by decide +kernel) rfl, by decide +kernel, by decide, by decide +kernel⟩
theorem vJ9_floorMod_7cf53 : jMt mJ9_floorMod_7cf53 := t0_at 425 (by decide +kernel) rfl
abbrev mJ9_max_7cf53 : jM := (yJ9_max_7cf53, cJ9_max_7cf53, 2, some .int)
theorem qJ9_max_7cf53 : jMs mJ9_max_7cf53 2 := ⟨t0_at 453 (by decide +kernel) rfl, t0_at 59 (by decide +kernel) rfl, by decide +kernel, by decide, by decide +kernel⟩
theorem vJ9_max_7cf53 : jMt mJ9_max_7cf53 := t0_at 452 (by decide +kernel) rfl
abbrev mJ9_min_7cf53 : jM := (yJ9_min_7cf53, cJ9_min_7cf53, 2, some .int)
theorem qJ9_min_7cf53 : jMs mJ9_min_7cf53 2 := ⟨t0_at 234 (by decide +kernel) rfl, t0_at 59 (by decide +kernel) rfl, by decide +kernel, by decide, by decide +kernel⟩
theorem vJ9_min_7cf53 : jMt mJ9_min_7cf53 := t0_at 233 (by decide +kernel) rfl
abbrev mX0_has : jM := (yX0_has, cX0_has, 3, some .boolean)
theorem qX0_has : jMs mX0_has 2 := ⟨t0_at 415 (by decide +kernel) rfl, t0_at 66 (by decide +kernel) rfl, by decide +kernel, by decide, by decide +kernel⟩
theorem vX0_has : jMt mX0_has := t0_at 414 (by decide +kernel) rfl
abbrev mX0_least : jM := (yX0_least, cX0_least, 2, some .int)
theorem qX0_least : jMs mX0_least 1 := ⟨t0_at 766 (by decide +kernel) rfl, t0_at 66 (by decide +kernel) rfl, by decide +kernel, by decide, by decide +kernel⟩
theorem vX0_least : jMt mX0_least := t0_at 765 (by decide +kernel) rfl
abbrev mX0_with : jM := (yX0_with, cX0_with, 3, some .long)
theorem qX0_with : jMs mX0_with 2 := ⟨t0_at 637 (by decide +kernel) rfl, t0_at 66 (by decide +kernel) rfl, by decide +kernel, by decide, by decide +kernel⟩
theorem vX0_with : jMt mX0_with := t0_at 636 (by decide +kernel) rfl
abbrev mX0_without : jM := (yX0_without, cX0_without, 3, some .long)
theorem qX0_without : jMs mX0_without 2 := ⟨t0_at 826 (by decide +kernel) rfl, t0_at 66 (by decide +kernel) rfl, by decide +kernel, by decide, by decide +kernel⟩
theorem vX0_without : jMt mX0_without := t0_at 825 (by decide +kernel) rfl
abbrev mX10_answer : jM := (yX10_answer, cX10_answer, 4, none)
theorem qX10_answer : jMs mX10_answer 3 := ⟨t0_at 1025 (by decide +kernel) rfl, t0_at 56 (by decide +kernel) rfl, by decide +kernel, by decide, by decide +kernel⟩
theorem vX10_answer : jMv mX10_answer := ⟨t0_at 1024 (by decide +kernel) rfl, t0_at 33 (by decide +kernel) rfl⟩
abbrev mX10_arrive : jM := (yX10_arrive, cX10_arrive, 7, none)
theorem qX10_arrive : jMs mX10_arrive 1 := ⟨t0_at 997 (by decide +kernel) rfl, t0_at 56 (by decide +kernel) rfl, by decide +kernel, by decide, by decide +kernel⟩
theorem vX10_arrive : jMv mX10_arrive := ⟨t0_at 996 (by decide +kernel) rfl, t0_at 26 (by decide +kernel) rfl⟩
abbrev mX10_atLeaf : jM := (yX10_atLeaf, cX10_atLeaf, 8, none)
theorem qX10_atLeaf : jMs mX10_atLeaf 5 := ⟨t0_at 1001 (by decide +kernel) rfl, t0_at 56 (by decide +kernel) rfl, by decide +kernel, by decide, by decide +kernel⟩
theorem vX10_atLeaf : jMv mX10_atLeaf := ⟨t0_at 1000 (by decide +kernel) rfl, t0_at 27 (by decide +kernel) rfl⟩
abbrev mX10_becomeDue : jM := (yX10_becomeDue, cX10_becomeDue, 6, none)
theorem qX10_becomeDue : jMs mX10_becomeDue 4 := ⟨t0_at 1017 (by decide +kernel) rfl, t0_at 56 (by decide +kernel) rfl, by decide +kernel, by decide, by decide +kernel⟩
theorem vX10_becomeDue : jMv mX10_becomeDue := ⟨t0_at 1016 (by decide +kernel) rfl, t0_at 31 (by decide +kernel) rfl⟩
abbrev mX10_chosen : jM := (yX10_chosen, cX10_chosen, 3, some .int)
theorem qX10_chosen : jMs mX10_chosen 2 := ⟨t0_at 1113 (by decide +kernel) rfl, t0_at 56 (by decide +kernel) rfl, by decide +kernel, by decide, by decide +kernel⟩
theorem vX10_chosen : jMv mX10_chosen := ⟨t0_at 1111 (by decide +kernel) rfl, t0_at 1112 (by decide +kernel) rfl⟩
abbrev mX10_cutoff : jM := (yX10_cutoff, cX10_cutoff, 6, some .int)
theorem qX10_cutoff : jMs mX10_cutoff 2 := ⟨t0_at 1077 (by decide +kernel) rfl, t0_at 56 (by decide +kernel) rfl, by decide +kernel, by decide, by decide +kernel⟩
theorem vX10_cutoff : jMv mX10_cutoff := ⟨t0_at 1076 (by decide +kernel) rfl, t0_at 46 (by decide +kernel) rfl⟩
abbrev mX10_data : jM := (yX10_data, cX10_data, 4, none)
theorem qX10_data : jMs mX10_data 2 := ⟨t0_at 1013 (by decide +kernel) rfl, t0_at 56 (by decide +kernel) rfl, by decide +kernel, by decide, by decide +kernel⟩
theorem vX10_data : jMv mX10_data := ⟨t0_at 1012 (by decide +kernel) rfl, t0_at 30 (by decide +kernel) rfl⟩
abbrev mX10_enter : jM := (yX10_enter, cX10_enter, 6, none)
theorem qX10_enter : jMs mX10_enter 5 := ⟨t0_at 1037 (by decide +kernel) rfl, t0_at 56 (by decide +kernel) rfl, by decide +kernel, by decide, by decide +kernel⟩
theorem vX10_enter : jMv mX10_enter := ⟨t0_at 1036 (by decide +kernel) rfl, t0_at 36 (by decide +kernel) rfl⟩
abbrev mX10_finished : jM := (yX10_finished, cX10_finished, 3, some .int)
theorem qX10_finished : jMs mX10_finished 2 := ⟨t0_at 1109 (by decide +kernel) rfl, t0_at 56 (by decide +kernel) rfl, by decide +kernel, by decide, by decide +kernel⟩
theorem vX10_finished : jMv mX10_finished := ⟨t0_at 1107 (by decide +kernel) rfl, t0_at 1108 (by decide +kernel) rfl⟩
abbrev mX10_forget : jM := (yX10_forget, cX10_forget, 3, none)
theorem qX10_forget : jMs mX10_forget 1 := ⟨t0_at 1049 (by decide +kernel) rfl, t0_at 56 (by decide +kernel) rfl, by decide +kernel, by decide, by decide +kernel⟩
theorem vX10_forget : jMv mX10_forget := ⟨t0_at 1048 (by decide +kernel) rfl, t0_at 39 (by decide +kernel) rfl⟩
abbrev mX10_goal : jM := (yX10_goal, cX10_goal, 3, some .int)
theorem qX10_goal : jMs mX10_goal 2 := ⟨t0_at 1005 (by decide +kernel) rfl, t0_at 56 (by decide +kernel) rfl, by decide +kernel, by decide, by decide +kernel⟩
theorem vX10_goal : jMv mX10_goal := ⟨t0_at 1004 (by decide +kernel) rfl, t0_at 28 (by decide +kernel) rfl⟩
abbrev mX10_host : jM := (yX10_host, cX10_host, 6, some .int)
theorem qX10_host : jMs mX10_host 2 := ⟨t0_at 1117 (by decide +kernel) rfl, t0_at 56 (by decide +kernel) rfl, by decide +kernel, by decide, by decide +kernel⟩
theorem vX10_host : jMv mX10_host := ⟨t0_at 1115 (by decide +kernel) rfl, t0_at 1116 (by decide +kernel) rfl⟩
abbrev mX10_in : jM := (yX10_in, cX10_in, 3, some .boolean)
theorem qX10_in : jMs mX10_in 2 := ⟨t0_at 1105 (by decide +kernel) rfl, t0_at 56 (by decide +kernel) rfl, by decide +kernel, by decide, by decide +kernel⟩
theorem vX10_in : jMv mX10_in := ⟨t0_at 1103 (by decide +kernel) rfl, t0_at 1104 (by decide +kernel) rfl⟩
abbrev mX10_init : jM := (yX10_init, cX10_init, 2, none)
theorem qX10_init : jMs mX10_init 0 := ⟨t0_at 841 (by decide +kernel) rfl, t0_at 56 (by decide +kernel) rfl, by decide +kernel, by decide, by decide +kernel⟩
theorem vX10_init : jMi mX10_init := ⟨t0_at 840 (by decide +kernel) rfl, rfl⟩
abbrev mX10_isAhead : jM := (yX10_isAhead, cX10_isAhead, 5, some .boolean)
theorem qX10_isAhead : jMs mX10_isAhead 2 := ⟨t0_at 1057 (by decide +kernel) rfl, t0_at 56 (by decide +kernel) rfl, by decide +kernel, by decide, by decide +kernel⟩
theorem vX10_isAhead : jMv mX10_isAhead := ⟨t0_at 1056 (by decide +kernel) rfl, t0_at 41 (by decide +kernel) rfl⟩
abbrev mX10_isChosen : jM := (yX10_isChosen, cX10_isChosen, 4, some .boolean)
theorem qX10_isChosen : jMs mX10_isChosen 2 := ⟨t0_at 1053 (by decide +kernel) rfl, t0_at 56 (by decide +kernel) rfl, by decide +kernel, by decide, by decide +kernel⟩
theorem vX10_isChosen : jMv mX10_isChosen := ⟨t0_at 1052 (by decide +kernel) rfl, t0_at 40 (by decide +kernel) rfl⟩
abbrev mX10_isMessage : jM := (yX10_isMessage, cX10_isMessage, 2, some .boolean)
theorem qX10_isMessage : jMs mX10_isMessage 1 := ⟨t0_at 1097 (by decide +kernel) rfl, t0_at 56 (by decide +kernel) rfl, by decide +kernel, by decide, by decide +kernel⟩
theorem vX10_isMessage : jMv mX10_isMessage := ⟨t0_at 1096 (by decide +kernel) rfl, t0_at 48 (by decide +kernel) rfl⟩
abbrev mX10_least : jM := (yX10_least, cX10_least, 3, some .int)
theorem qX10_least : jMs mX10_least 1 := ⟨t0_at 1069 (by decide +kernel) rfl, t0_at 56 (by decide +kernel) rfl, by decide +kernel, by decide, by decide +kernel⟩
theorem vX10_least : jMv mX10_least := ⟨t0_at 1068 (by decide +kernel) rfl, t0_at 44 (by decide +kernel) rfl⟩
abbrev mX10_left : jM := (yX10_left, cX10_left, 4, some .int)
theorem qX10_left : jMs mX10_left 1 := ⟨t0_at 1073 (by decide +kernel) rfl, t0_at 56 (by decide +kernel) rfl, by decide +kernel, by decide, by decide +kernel⟩
theorem vX10_left : jMv mX10_left := ⟨t0_at 1072 (by decide +kernel) rfl, t0_at 45 (by decide +kernel) rfl⟩
abbrev mX10_line : jM := (yX10_line, cX10_line, 8, none)
theorem qX10_line : jMs mX10_line 5 := ⟨t0_at 1009 (by decide +kernel) rfl, t0_at 56 (by decide +kernel) rfl, by decide +kernel, by decide, by decide +kernel⟩
theorem vX10_line : jMv mX10_line := ⟨t0_at 1008 (by decide +kernel) rfl, t0_at 29 (by decide +kernel) rfl⟩
abbrev mX10_listen : jM := (yX10_listen, cX10_listen, 4, none)
theorem qX10_listen : jMs mX10_listen 2 := ⟨t0_at 1045 (by decide +kernel) rfl, t0_at 56 (by decide +kernel) rfl, by decide +kernel, by decide, by decide +kernel⟩
theorem vX10_listen : jMv mX10_listen := ⟨t0_at 1044 (by decide +kernel) rfl, t0_at 38 (by decide +kernel) rfl⟩
abbrev mX10_lose : jM := (yX10_lose, cX10_lose, 3, some .boolean)
theorem qX10_lose : jMs mX10_lose 2 := ⟨t0_at 1085 (by decide +kernel) rfl, t0_at 56 (by decide +kernel) rfl, by decide +kernel, by decide, by decide +kernel⟩
theorem vX10_lose : jMv mX10_lose := ⟨t0_at 1083 (by decide +kernel) rfl, t0_at 1084 (by decide +kernel) rfl⟩
abbrev mX10_message : jM := (yX10_message, cX10_message, 6, some .int)
theorem qX10_message : jMs mX10_message 4 := ⟨t0_at 989 (by decide +kernel) rfl, t0_at 56 (by decide +kernel) rfl, by decide +kernel, by decide, by decide +kernel⟩
theorem vX10_message : jMv mX10_message := ⟨t0_at 987 (by decide +kernel) rfl, t0_at 988 (by decide +kernel) rfl⟩
abbrev mX10_missing : jM := (yX10_missing, cX10_missing, 4, some .int)
theorem qX10_missing : jMs mX10_missing 1 := ⟨t0_at 1021 (by decide +kernel) rfl, t0_at 56 (by decide +kernel) rfl, by decide +kernel, by decide, by decide +kernel⟩
theorem vX10_missing : jMv mX10_missing := ⟨t0_at 1020 (by decide +kernel) rfl, t0_at 32 (by decide +kernel) rfl⟩
abbrev mX10_packet : jM := (yX10_packet, cX10_packet, 3, some .int)
theorem qX10_packet : jMs mX10_packet 2 := ⟨t0_at 1125 (by decide +kernel) rfl, t0_at 56 (by decide +kernel) rfl, by decide +kernel, by decide, by decide +kernel⟩
theorem vX10_packet : jMv mX10_packet := ⟨t0_at 1123 (by decide +kernel) rfl, t0_at 1124 (by decide +kernel) rfl⟩
abbrev mX10_queue : jM := (yX10_queue, cX10_queue, 3, some .int)
theorem qX10_queue : jMs mX10_queue 2 := ⟨t0_at 1121 (by decide +kernel) rfl, t0_at 56 (by decide +kernel) rfl, by decide +kernel, by decide, by decide +kernel⟩
theorem vX10_queue : jMv mX10_queue := ⟨t0_at 1119 (by decide +kernel) rfl, t0_at 1120 (by decide +kernel) rfl⟩
abbrev mX10_rankOf : jM := (yX10_rankOf, cX10_rankOf, 6, some .int)
theorem qX10_rankOf : jMs mX10_rankOf 3 := ⟨t0_at 1081 (by decide +kernel) rfl, t0_at 56 (by decide +kernel) rfl, by decide +kernel, by decide, by decide +kernel⟩
theorem vX10_rankOf : jMv mX10_rankOf := ⟨t0_at 1080 (by decide +kernel) rfl, t0_at 47 (by decide +kernel) rfl⟩
abbrev mX10_receive : jM := (yX10_receive, cX10_receive, 6, none)
theorem qX10_receive : jMs mX10_receive 1 := ⟨t0_at 1041 (by decide +kernel) rfl, t0_at 56 (by decide +kernel) rfl, by decide +kernel, by decide, by decide +kernel⟩
theorem vX10_receive : jMv mX10_receive := ⟨t0_at 1040 (by decide +kernel) rfl, t0_at 37 (by decide +kernel) rfl⟩
abbrev mX10_received : jM := (yX10_received, cX10_received, 3, some .int)
theorem qX10_received : jMs mX10_received 2 := ⟨t0_at 1101 (by decide +kernel) rfl, t0_at 56 (by decide +kernel) rfl, by decide +kernel, by decide, by decide +kernel⟩
theorem vX10_received : jMv mX10_received := ⟨t0_at 1099 (by decide +kernel) rfl, t0_at 1100 (by decide +kernel) rfl⟩
abbrev mX10_send : jM := (yX10_send, cX10_send, 7, none)
theorem qX10_send : jMs mX10_send 1 := ⟨t0_at 1065 (by decide +kernel) rfl, t0_at 56 (by decide +kernel) rfl, by decide +kernel, by decide, by decide +kernel⟩
theorem vX10_send : jMv mX10_send := ⟨t0_at 1064 (by decide +kernel) rfl, t0_at 43 (by decide +kernel) rfl⟩
abbrev mX10_sent : jM := (yX10_sent, cX10_sent, 3, some .int)
theorem qX10_sent : jMs mX10_sent 2 := ⟨t0_at 1093 (by decide +kernel) rfl, t0_at 56 (by decide +kernel) rfl, by decide +kernel, by decide, by decide +kernel⟩
theorem vX10_sent : jMv mX10_sent := ⟨t0_at 1091 (by decide +kernel) rfl, t0_at 1092 (by decide +kernel) rfl⟩
abbrev mX10_serve : jM := (yX10_serve, cX10_serve, 8, none)
theorem qX10_serve : jMs mX10_serve 1 := ⟨t0_at 1033 (by decide +kernel) rfl, t0_at 56 (by decide +kernel) rfl, by decide +kernel, by decide, by decide +kernel⟩
theorem vX10_serve : jMv mX10_serve := ⟨t0_at 1032 (by decide +kernel) rfl, t0_at 35 (by decide +kernel) rfl⟩
abbrev mX10_slot : jM := (yX10_slot, cX10_slot, 4, some .int)
theorem qX10_slot : jMs mX10_slot 1 := ⟨t0_at 993 (by decide +kernel) rfl, t0_at 56 (by decide +kernel) rfl, by decide +kernel, by decide, by decide +kernel⟩
theorem vX10_slot : jMv mX10_slot := ⟨t0_at 991 (by decide +kernel) rfl, t0_at 992 (by decide +kernel) rfl⟩
abbrev mX10_spine : jM := (yX10_spine, cX10_spine, 3, some .boolean)
theorem qX10_spine : jMs mX10_spine 2 := ⟨t0_at 1089 (by decide +kernel) rfl, t0_at 56 (by decide +kernel) rfl, by decide +kernel, by decide, by decide +kernel⟩
theorem vX10_spine : jMv mX10_spine := ⟨t0_at 1087 (by decide +kernel) rfl, t0_at 1088 (by decide +kernel) rfl⟩
abbrev mX10_thrown : jM := (yX10_thrown, cX10_thrown, 1, some .int)
theorem qX10_thrown : jMs mX10_thrown 0 := ⟨t0_at 985 (by decide +kernel) rfl, t0_at 56 (by decide +kernel) rfl, by decide +kernel, by decide, by decide +kernel⟩
theorem vX10_thrown : jMv mX10_thrown := ⟨t0_at 983 (by decide +kernel) rfl, t0_at 984 (by decide +kernel) rfl⟩
abbrev mX10_total : jM := (yX10_total, cX10_total, 4, some .int)
theorem qX10_total : jMs mX10_total 1 := ⟨t0_at 1129 (by decide +kernel) rfl, t0_at 56 (by decide +kernel) rfl, by decide +kernel, by decide, by decide +kernel⟩
theorem vX10_total : jMv mX10_total := ⟨t0_at 1127 (by decide +kernel) rfl, t0_at 1128 (by decide +kernel) rfl⟩
abbrev mX10_want : jM := (yX10_want, cX10_want, 3, none)
theorem qX10_want : jMs mX10_want 2 := ⟨t0_at 1029 (by decide +kernel) rfl, t0_at 56 (by decide +kernel) rfl, by decide +kernel, by decide, by decide +kernel⟩
theorem vX10_want : jMv mX10_want := ⟨t0_at 1028 (by decide +kernel) rfl, t0_at 34 (by decide +kernel) rfl⟩
abbrev mX10_watch : jM := (yX10_watch, cX10_watch, 3, none)
theorem qX10_watch : jMs mX10_watch 1 := ⟨t0_at 1061 (by decide +kernel) rfl, t0_at 56 (by decide +kernel) rfl, by decide +kernel, by decide, by decide +kernel⟩
theorem vX10_watch : jMv mX10_watch := ⟨t0_at 1060 (by decide +kernel) rfl, t0_at 42 (by decide +kernel) rfl⟩
abbrev mX1_add : jM := (yX1_add, cX1_add, 2, none)
theorem qX1_add : jMs mX1_add 1 := ⟨t0_at 337 (by decide +kernel) rfl, t0_at 55 (by decide +kernel) rfl, by decide +kernel, by decide, by decide +kernel⟩
theorem vX1_add : jMv mX1_add := ⟨t0_at 335 (by decide +kernel) rfl, t0_at 336 (by decide +kernel) rfl⟩
abbrev mX1_first : jM := (yX1_first, cX1_first, 1, some .int)
theorem qX1_first : jMs mX1_first 0 := ⟨t0_at 461 (by decide +kernel) rfl, t0_at 55 (by decide +kernel) rfl, by decide +kernel, by decide, by decide +kernel⟩
theorem vX1_first : jMv mX1_first := ⟨t0_at 459 (by decide +kernel) rfl, t0_at 460 (by decide +kernel) rfl⟩
abbrev mX1_init : jM := (yX1_init, cX1_init, 1, none)
theorem qX1_init : jMs mX1_init 0 := ⟨t0_at 140 (by decide +kernel) rfl, t0_at 55 (by decide +kernel) rfl, by decide +kernel, by decide, by decide +kernel⟩
theorem vX1_init : jMi mX1_init := ⟨t0_at 139 (by decide +kernel) rfl, rfl⟩
abbrev mX1_priorityFor : jM := (yX1_priorityFor, cX1_priorityFor, 2, some .int)
theorem qX1_priorityFor : jMs mX1_priorityFor 1 := ⟨t0_at 831 (by decide +kernel) rfl, t0_at 55 (by decide +kernel) rfl, by decide +kernel, by decide, by decide +kernel⟩
theorem vX1_priorityFor : jMv mX1_priorityFor := ⟨t0_at 829 (by decide +kernel) rfl, t0_at 830 (by decide +kernel) rfl⟩
abbrev mX1_second : jM := (yX1_second, cX1_second, 1, some .int)
theorem qX1_second : jMs mX1_second 0 := ⟨t0_at 465 (by decide +kernel) rfl, t0_at 55 (by decide +kernel) rfl, by decide +kernel, by decide, by decide +kernel⟩
theorem vX1_second : jMv mX1_second := ⟨t0_at 463 (by decide +kernel) rfl, t0_at 464 (by decide +kernel) rfl⟩
abbrev mX1_sort : jM := (yX1_sort, cX1_sort, 3, none)
theorem qX1_sort : jMs mX1_sort 0 := ⟨t0_at 342 (by decide +kernel) rfl, t0_at 55 (by decide +kernel) rfl, by decide +kernel, by decide, by decide +kernel⟩
theorem vX1_sort : jMv mX1_sort := ⟨t0_at 341 (by decide +kernel) rfl, t0_at 0 (by decide +kernel) rfl⟩
abbrev mX2_chooseSpine : jM := (yX2_chooseSpine, cX2_chooseSpine, 4, some .int)
theorem qX2_chooseSpine : jMs mX2_chooseSpine 1 := ⟨t0_at 722 (by decide +kernel) rfl, t0_at 51 (by decide +kernel) rfl, by decide +kernel, by decide, by decide +kernel⟩
theorem vX2_chooseSpine : jMv mX2_chooseSpine := ⟨t0_at 721 (by decide +kernel) rfl, t0_at 17 (by decide +kernel) rfl⟩
abbrev mX2_endsAtHost : jM := (yX2_endsAtHost, cX2_endsAtHost, 1, some .boolean)
theorem qX2_endsAtHost : jMs mX2_endsAtHost 1 := ⟨t0_at 603 (by decide +kernel) rfl, t0_at 51 (by decide +kernel) rfl, by decide +kernel, by decide, by decide +kernel⟩
theorem vX2_endsAtHost : jMt mX2_endsAtHost := t0_at 602 (by decide +kernel) rfl
abbrev mX2_endsAtSpine : jM := (yX2_endsAtSpine, cX2_endsAtSpine, 1, some .boolean)
theorem qX2_endsAtSpine : jMs mX2_endsAtSpine 1 := ⟨t0_at 689 (by decide +kernel) rfl, t0_at 51 (by decide +kernel) rfl, by decide +kernel, by decide, by decide +kernel⟩
theorem vX2_endsAtSpine : jMt mX2_endsAtSpine := t0_at 688 (by decide +kernel) rfl
abbrev mX2_enqueue : jM := (yX2_enqueue, cX2_enqueue, 3, none)
theorem qX2_enqueue : jMs mX2_enqueue 2 := ⟨t0_at 706 (by decide +kernel) rfl, t0_at 51 (by decide +kernel) rfl, by decide +kernel, by decide, by decide +kernel⟩
theorem vX2_enqueue : jMv mX2_enqueue := ⟨t0_at 705 (by decide +kernel) rfl, t0_at 15 (by decide +kernel) rfl⟩
abbrev mX2_fill : jM := (yX2_fill, cX2_fill, 4, none)
theorem qX2_fill : jMs mX2_fill 1 := ⟨t0_at 734 (by decide +kernel) rfl, t0_at 51 (by decide +kernel) rfl, by decide +kernel, by decide, by decide +kernel⟩
theorem vX2_fill : jMv mX2_fill := ⟨t0_at 733 (by decide +kernel) rfl, t0_at 19 (by decide +kernel) rfl⟩
abbrev mX2_fillLinks : jM := (yX2_fillLinks, cX2_fillLinks, 2, none)
theorem qX2_fillLinks : jMs mX2_fillLinks 0 := ⟨t0_at 726 (by decide +kernel) rfl, t0_at 51 (by decide +kernel) rfl, by decide +kernel, by decide, by decide +kernel⟩
theorem vX2_fillLinks : jMv mX2_fillLinks := ⟨t0_at 724 (by decide +kernel) rfl, t0_at 725 (by decide +kernel) rfl⟩
abbrev mX2_init : jM := (yX2_init, cX2_init, 2, none)
theorem qX2_init : jMs mX2_init 0 := ⟨t0_at 80 (by decide +kernel) rfl, t0_at 51 (by decide +kernel) rfl, by decide +kernel, by decide, by decide +kernel⟩
theorem vX2_init : jMi mX2_init := ⟨t0_at 79 (by decide +kernel) rfl, rfl⟩
abbrev mX2_isFromLeaf : jM := (yX2_isFromLeaf, cX2_isFromLeaf, 1, some .boolean)
theorem qX2_isFromLeaf : jMs mX2_isFromLeaf 1 := ⟨t0_at 606 (by decide +kernel) rfl, t0_at 51 (by decide +kernel) rfl, by decide +kernel, by decide, by decide +kernel⟩
theorem vX2_isFromLeaf : jMt mX2_isFromLeaf := t0_at 605 (by decide +kernel) rfl
abbrev mX2_isLink : jM := (yX2_isLink, cX2_isLink, 1, some .boolean)
theorem qX2_isLink : jMs mX2_isLink 1 := ⟨t0_at 353 (by decide +kernel) rfl, t0_at 51 (by decide +kernel) rfl, by decide +kernel, by decide, by decide +kernel⟩
theorem vX2_isLink : jMt mX2_isLink := t0_at 352 (by decide +kernel) rfl
abbrev mX2_isServed : jM := (yX2_isServed, cX2_isServed, 2, some .boolean)
theorem qX2_isServed : jMs mX2_isServed 1 := ⟨t0_at 730 (by decide +kernel) rfl, t0_at 51 (by decide +kernel) rfl, by decide +kernel, by decide, by decide +kernel⟩
theorem vX2_isServed : jMv mX2_isServed := ⟨t0_at 729 (by decide +kernel) rfl, t0_at 18 (by decide +kernel) rfl⟩
abbrev mX2_leafAtEnd : jM := (yX2_leafAtEnd, cX2_leafAtEnd, 1, some .int)
theorem qX2_leafAtEnd : jMs mX2_leafAtEnd 1 := ⟨t0_at 715 (by decide +kernel) rfl, t0_at 51 (by decide +kernel) rfl, by decide +kernel, by decide, by decide +kernel⟩
theorem vX2_leafAtEnd : jMt mX2_leafAtEnd := t0_at 714 (by decide +kernel) rfl
abbrev mX2_leafOfHost : jM := (yX2_leafOfHost, cX2_leafOfHost, 1, some .int)
theorem qX2_leafOfHost : jMs mX2_leafOfHost 1 := ⟨t0_at 699 (by decide +kernel) rfl, t0_at 51 (by decide +kernel) rfl, by decide +kernel, by decide, by decide +kernel⟩
theorem vX2_leafOfHost : jMt mX2_leafOfHost := t0_at 698 (by decide +kernel) rfl
abbrev mX2_linkFromLeaf : jM := (yX2_linkFromLeaf, cX2_linkFromLeaf, 2, some .int)
theorem qX2_linkFromLeaf : jMs mX2_linkFromLeaf 2 := ⟨t0_at 718 (by decide +kernel) rfl, t0_at 51 (by decide +kernel) rfl, by decide +kernel, by decide, by decide +kernel⟩
theorem vX2_linkFromLeaf : jMt mX2_linkFromLeaf := t0_at 717 (by decide +kernel) rfl
abbrev mX2_linkFromSpine : jM := (yX2_linkFromSpine, cX2_linkFromSpine, 2, some .int)
theorem qX2_linkFromSpine : jMs mX2_linkFromSpine 2 := ⟨t0_at 702 (by decide +kernel) rfl, t0_at 51 (by decide +kernel) rfl, by decide +kernel, by decide, by decide +kernel⟩
theorem vX2_linkFromSpine : jMt mX2_linkFromSpine := t0_at 701 (by decide +kernel) rfl
abbrev mX2_look : jM := (yX2_look, cX2_look, 2, some .int)
theorem qX2_look : jMs mX2_look 1 := ⟨t0_at 487 (by decide +kernel) rfl, t0_at 51 (by decide +kernel) rfl, by decide +kernel, by decide, by decide +kernel⟩
theorem vX2_look : jMv mX2_look := ⟨t0_at 485 (by decide +kernel) rfl, t0_at 486 (by decide +kernel) rfl⟩
abbrev mX2_passLeaf : jM := (yX2_passLeaf, cX2_passLeaf, 6, none)
theorem qX2_passLeaf : jMs mX2_passLeaf 2 := ⟨t0_at 712 (by decide +kernel) rfl, t0_at 51 (by decide +kernel) rfl, by decide +kernel, by decide, by decide +kernel⟩
theorem vX2_passLeaf : jMv mX2_passLeaf := ⟨t0_at 711 (by decide +kernel) rfl, t0_at 16 (by decide +kernel) rfl⟩
abbrev mX2_passOn : jM := (yX2_passOn, cX2_passOn, 3, none)
theorem qX2_passOn : jMs mX2_passOn 2 := ⟨t0_at 686 (by decide +kernel) rfl, t0_at 51 (by decide +kernel) rfl, by decide +kernel, by decide, by decide +kernel⟩
theorem vX2_passOn : jMv mX2_passOn := ⟨t0_at 684 (by decide +kernel) rfl, t0_at 685 (by decide +kernel) rfl⟩
abbrev mX2_passSpine : jM := (yX2_passSpine, cX2_passSpine, 4, none)
theorem qX2_passSpine : jMs mX2_passSpine 2 := ⟨t0_at 693 (by decide +kernel) rfl, t0_at 51 (by decide +kernel) rfl, by decide +kernel, by decide, by decide +kernel⟩
theorem vX2_passSpine : jMv mX2_passSpine := ⟨t0_at 692 (by decide +kernel) rfl, t0_at 14 (by decide +kernel) rfl⟩
abbrev mX2_portOfLeaf : jM := (yX2_portOfLeaf, cX2_portOfLeaf, 1, some .int)
theorem qX2_portOfLeaf : jMs mX2_portOfLeaf 1 := ⟨t0_at 609 (by decide +kernel) rfl, t0_at 51 (by decide +kernel) rfl, by decide +kernel, by decide, by decide +kernel⟩
theorem vX2_portOfLeaf : jMt mX2_portOfLeaf := t0_at 608 (by decide +kernel) rfl
abbrev mX2_putOn : jM := (yX2_putOn, cX2_putOn, 3, none)
theorem qX2_putOn : jMs mX2_putOn 2 := ⟨t0_at 742 (by decide +kernel) rfl, t0_at 51 (by decide +kernel) rfl, by decide +kernel, by decide, by decide +kernel⟩
theorem vX2_putOn : jMv mX2_putOn := ⟨t0_at 740 (by decide +kernel) rfl, t0_at 741 (by decide +kernel) rfl⟩
abbrev mX2_queueOf : jM := (yX2_queueOf, cX2_queueOf, 3, some (.object "GrantNet$Row"))
theorem qX2_queueOf : jMs mX2_queueOf 2 := ⟨t0_at 478 (by decide +kernel) rfl, t0_at 51 (by decide +kernel) rfl, by decide +kernel, by decide, by decide +kernel⟩
theorem vX2_queueOf : jMv mX2_queueOf := ⟨t0_at 477 (by decide +kernel) rfl, t0_at 4 (by decide +kernel) rfl⟩
abbrev mX2_setSpine : jM := (yX2_setSpine, cX2_setSpine, 3, none)
theorem qX2_setSpine : jMs mX2_setSpine 2 := ⟨t0_at 365 (by decide +kernel) rfl, t0_at 51 (by decide +kernel) rfl, by decide +kernel, by decide, by decide +kernel⟩
theorem vX2_setSpine : jMv mX2_setSpine := ⟨t0_at 363 (by decide +kernel) rfl, t0_at 364 (by decide +kernel) rfl⟩
abbrev mX2_setToLose : jM := (yX2_setToLose, cX2_setToLose, 3, none)
theorem qX2_setToLose : jMs mX2_setToLose 2 := ⟨t0_at 357 (by decide +kernel) rfl, t0_at 51 (by decide +kernel) rfl, by decide +kernel, by decide, by decide +kernel⟩
theorem vX2_setToLose : jMv mX2_setToLose := ⟨t0_at 355 (by decide +kernel) rfl, t0_at 356 (by decide +kernel) rfl⟩
abbrev mX2_takeOff : jM := (yX2_takeOff, cX2_takeOff, 3, some .int)
theorem qX2_takeOff : jMs mX2_takeOff 1 := ⟨t0_at 600 (by decide +kernel) rfl, t0_at 51 (by decide +kernel) rfl, by decide +kernel, by decide, by decide +kernel⟩
theorem vX2_takeOff : jMv mX2_takeOff := ⟨t0_at 598 (by decide +kernel) rfl, t0_at 599 (by decide +kernel) rfl⟩
abbrev mX2_tell : jM := (yX2_tell, cX2_tell, 2, some .int)
theorem qX2_tell : jMs mX2_tell 1 := ⟨t0_at 510 (by decide +kernel) rfl, t0_at 51 (by decide +kernel) rfl, by decide +kernel, by decide, by decide +kernel⟩
theorem vX2_tell : jMv mX2_tell := ⟨t0_at 508 (by decide +kernel) rfl, t0_at 509 (by decide +kernel) rfl⟩
abbrev mX2_underWay : jM := (yX2_underWay, cX2_underWay, 3, some .int)
theorem qX2_underWay : jMs mX2_underWay 0 := ⟨t0_at 514 (by decide +kernel) rfl, t0_at 51 (by decide +kernel) rfl, by decide +kernel, by decide, by decide +kernel⟩
theorem vX2_underWay : jMv mX2_underWay := ⟨t0_at 513 (by decide +kernel) rfl, t0_at 5 (by decide +kernel) rfl⟩
abbrev mX2_waiting : jM := (yX2_waiting, cX2_waiting, 4, some .int)
theorem qX2_waiting : jMs mX2_waiting 2 := ⟨t0_at 473 (by decide +kernel) rfl, t0_at 51 (by decide +kernel) rfl, by decide +kernel, by decide, by decide +kernel⟩
theorem vX2_waiting : jMv mX2_waiting := ⟨t0_at 471 (by decide +kernel) rfl, t0_at 472 (by decide +kernel) rfl⟩
abbrev mX3_addIncoming : jM := (yX3_addIncoming, cX3_addIncoming, 2, none)
theorem qX3_addIncoming : jMs mX3_addIncoming 1 := ⟨t0_at 346 (by decide +kernel) rfl, t0_at 54 (by decide +kernel) rfl, by decide +kernel, by decide, by decide +kernel⟩
theorem vX3_addIncoming : jMv mX3_addIncoming := ⟨t0_at 344 (by decide +kernel) rfl, t0_at 345 (by decide +kernel) rfl⟩
abbrev mX3_addOutgoing : jM := (yX3_addOutgoing, cX3_addOutgoing, 2, none)
theorem qX3_addOutgoing : jMs mX3_addOutgoing 1 := ⟨t0_at 333 (by decide +kernel) rfl, t0_at 54 (by decide +kernel) rfl, by decide +kernel, by decide, by decide +kernel⟩
theorem vX3_addOutgoing : jMv mX3_addOutgoing := ⟨t0_at 331 (by decide +kernel) rfl, t0_at 332 (by decide +kernel) rfl⟩
abbrev mX3_bestBehind : jM := (yX3_bestBehind, cX3_bestBehind, 6, some (.object "GrantNet$Message"))
theorem qX3_bestBehind : jMs mX3_bestBehind 1 := ⟨t0_at 780 (by decide +kernel) rfl, t0_at 54 (by decide +kernel) rfl, by decide +kernel, by decide, by decide +kernel⟩
theorem vX3_bestBehind : jMv mX3_bestBehind := ⟨t0_at 779 (by decide +kernel) rfl, t0_at 23 (by decide +kernel) rfl⟩
abbrev mX3_choice : jM := (yX3_choice, cX3_choice, 2, some .int)
theorem qX3_choice : jMs mX3_choice 1 := ⟨t0_at 434 (by decide +kernel) rfl, t0_at 54 (by decide +kernel) rfl, by decide +kernel, by decide, by decide +kernel⟩
theorem vX3_choice : jMv mX3_choice := ⟨t0_at 432 (by decide +kernel) rfl, t0_at 433 (by decide +kernel) rfl⟩
abbrev mX3_choose : jM := (yX3_choose, cX3_choose, 4, none)
theorem qX3_choose : jMs mX3_choose 0 := ⟨t0_at 776 (by decide +kernel) rfl, t0_at 54 (by decide +kernel) rfl, by decide +kernel, by decide, by decide +kernel⟩
theorem vX3_choose : jMv mX3_choose := ⟨t0_at 775 (by decide +kernel) rfl, t0_at 22 (by decide +kernel) rfl⟩
abbrev mX3_grantedAndNotIn : jM := (yX3_grantedAndNotIn, cX3_grantedAndNotIn, 3, some .int)
theorem qX3_grantedAndNotIn : jMs mX3_grantedAndNotIn 0 := ⟨t0_at 446 (by decide +kernel) rfl, t0_at 54 (by decide +kernel) rfl, by decide +kernel, by decide, by decide +kernel⟩
theorem vX3_grantedAndNotIn : jMv mX3_grantedAndNotIn := ⟨t0_at 445 (by decide +kernel) rfl, t0_at 3 (by decide +kernel) rfl⟩
abbrev mX3_init : jM := (yX3_init, cX3_init, 1, none)
theorem qX3_init : jMs mX3_init 0 := ⟨t0_at 133 (by decide +kernel) rfl, t0_at 54 (by decide +kernel) rfl, by decide +kernel, by decide, by decide +kernel⟩
theorem vX3_init : jMi mX3_init := ⟨t0_at 132 (by decide +kernel) rfl, rfl⟩
abbrev mX3_latestFinished : jM := (yX3_latestFinished, cX3_latestFinished, 3, some .int)
theorem qX3_latestFinished : jMs mX3_latestFinished 1 := ⟨t0_at 423 (by decide +kernel) rfl, t0_at 54 (by decide +kernel) rfl, by decide +kernel, by decide, by decide +kernel⟩
theorem vX3_latestFinished : jMv mX3_latestFinished := ⟨t0_at 421 (by decide +kernel) rfl, t0_at 422 (by decide +kernel) rfl⟩
abbrev mX3_listen : jM := (yX3_listen, cX3_listen, 2, none)
theorem qX3_listen : jMs mX3_listen 1 := ⟨t0_at 750 (by decide +kernel) rfl, t0_at 54 (by decide +kernel) rfl, by decide +kernel, by decide, by decide +kernel⟩
theorem vX3_listen : jMv mX3_listen := ⟨t0_at 749 (by decide +kernel) rfl, t0_at 20 (by decide +kernel) rfl⟩
abbrev mX3_nextData : jM := (yX3_nextData, cX3_nextData, 4, some .int)
theorem qX3_nextData : jMs mX3_nextData 0 := ⟨t0_at 809 (by decide +kernel) rfl, t0_at 54 (by decide +kernel) rfl, by decide +kernel, by decide, by decide +kernel⟩
theorem vX3_nextData : jMv mX3_nextData := ⟨t0_at 808 (by decide +kernel) rfl, t0_at 24 (by decide +kernel) rfl⟩
abbrev mX3_nextPacket : jM := (yX3_nextPacket, cX3_nextPacket, 2, some .int)
theorem qX3_nextPacket : jMs mX3_nextPacket 0 := ⟨t0_at 804 (by decide +kernel) rfl, t0_at 54 (by decide +kernel) rfl, by decide +kernel, by decide, by decide +kernel⟩
theorem vX3_nextPacket : jMv mX3_nextPacket := ⟨t0_at 802 (by decide +kernel) rfl, t0_at 803 (by decide +kernel) rfl⟩
abbrev mX3_noteFinished : jM := (yX3_noteFinished, cX3_noteFinished, 2, none)
theorem qX3_noteFinished : jMs mX3_noteFinished 1 := ⟨t0_at 645 (by decide +kernel) rfl, t0_at 54 (by decide +kernel) rfl, by decide +kernel, by decide, by decide +kernel⟩
theorem vX3_noteFinished : jMv mX3_noteFinished := ⟨t0_at 644 (by decide +kernel) rfl, t0_at 10 (by decide +kernel) rfl⟩
abbrev mX3_putDue : jM := (yX3_putDue, cX3_putDue, 4, none)
theorem qX3_putDue : jMs mX3_putDue 3 := ⟨t0_at 649 (by decide +kernel) rfl, t0_at 54 (by decide +kernel) rfl, by decide +kernel, by decide, by decide +kernel⟩
theorem vX3_putDue : jMv mX3_putDue := ⟨t0_at 648 (by decide +kernel) rfl, t0_at 11 (by decide +kernel) rfl⟩
abbrev mX3_shortestToSend : jM := (yX3_shortestToSend, cX3_shortestToSend, 4, some (.object "GrantNet$Message"))
theorem qX3_shortestToSend : jMs mX3_shortestToSend 0 := ⟨t0_at 813 (by decide +kernel) rfl, t0_at 54 (by decide +kernel) rfl, by decide +kernel, by decide, by decide +kernel⟩
theorem vX3_shortestToSend : jMv mX3_shortestToSend := ⟨t0_at 812 (by decide +kernel) rfl, t0_at 25 (by decide +kernel) rfl⟩
abbrev mX3_takeData : jM := (yX3_takeData, cX3_takeData, 5, none)
theorem qX3_takeData : jMs mX3_takeData 3 := ⟨t0_at 620 (by decide +kernel) rfl, t0_at 54 (by decide +kernel) rfl, by decide +kernel, by decide, by decide +kernel⟩
theorem vX3_takeData : jMv mX3_takeData := ⟨t0_at 618 (by decide +kernel) rfl, t0_at 619 (by decide +kernel) rfl⟩
abbrev mX3_tell : jM := (yX3_tell, cX3_tell, 2, some .int)
theorem qX3_tell : jMs mX3_tell 1 := ⟨t0_at 442 (by decide +kernel) rfl, t0_at 54 (by decide +kernel) rfl, by decide +kernel, by decide, by decide +kernel⟩
theorem vX3_tell : jMv mX3_tell := ⟨t0_at 440 (by decide +kernel) rfl, t0_at 441 (by decide +kernel) rfl⟩
abbrev mX3_workAsReceiver : jM := (yX3_workAsReceiver, cX3_workAsReceiver, 3, none)
theorem qX3_workAsReceiver : jMs mX3_workAsReceiver 1 := ⟨t0_at 746 (by decide +kernel) rfl, t0_at 54 (by decide +kernel) rfl, by decide +kernel, by decide, by decide +kernel⟩
theorem vX3_workAsReceiver : jMv mX3_workAsReceiver := ⟨t0_at 744 (by decide +kernel) rfl, t0_at 745 (by decide +kernel) rfl⟩
abbrev mX3_workAsSender : jM := (yX3_workAsSender, cX3_workAsSender, 3, none)
theorem qX3_workAsSender : jMs mX3_workAsSender 1 := ⟨t0_at 796 (by decide +kernel) rfl, t0_at 54 (by decide +kernel) rfl, by decide +kernel, by decide, by decide +kernel⟩
theorem vX3_workAsSender : jMv mX3_workAsSender := ⟨t0_at 794 (by decide +kernel) rfl, t0_at 795 (by decide +kernel) rfl⟩
abbrev mX4_init : jM := (yX4_init, cX4_init, 6, none)
theorem qX4_init : jMs mX4_init 5 := ⟨t0_at 224 (by decide +kernel) rfl, t0_at 57 (by decide +kernel) rfl, by decide +kernel, by decide, by decide +kernel⟩
theorem vX4_init : jMi mX4_init := ⟨t0_at 223 (by decide +kernel) rfl, rfl⟩
abbrev mX5_countOf : jM := (yX5_countOf, cX5_countOf, 1, some .int)
theorem qX5_countOf : jMs mX5_countOf 1 := ⟨t0_at 499 (by decide +kernel) rfl, t0_at 65 (by decide +kernel) rfl, by decide +kernel, by decide, by decide +kernel⟩
theorem vX5_countOf : jMt mX5_countOf := t0_at 498 (by decide +kernel) rfl
abbrev mX5_goalOf : jM := (yX5_goalOf, cX5_goalOf, 1, some .int)
theorem qX5_goalOf : jMs mX5_goalOf 1 := ⟨t0_at 696 (by decide +kernel) rfl, t0_at 65 (by decide +kernel) rfl, by decide +kernel, by decide, by decide +kernel⟩
theorem vX5_goalOf : jMt mX5_goalOf := t0_at 695 (by decide +kernel) rfl
abbrev mX5_kindOf : jM := (yX5_kindOf, cX5_kindOf, 1, some .int)
theorem qX5_kindOf : jMs mX5_kindOf 1 := ⟨t0_at 493 (by decide +kernel) rfl, t0_at 65 (by decide +kernel) rfl, by decide +kernel, by decide, by decide +kernel⟩
theorem vX5_kindOf : jMt mX5_kindOf := t0_at 492 (by decide +kernel) rfl
abbrev mX5_messageOf : jM := (yX5_messageOf, cX5_messageOf, 1, some .int)
theorem qX5_messageOf : jMs mX5_messageOf 1 := ⟨t0_at 496 (by decide +kernel) rfl, t0_at 65 (by decide +kernel) rfl, by decide +kernel, by decide, by decide +kernel⟩
theorem vX5_messageOf : jMt mX5_messageOf := t0_at 495 (by decide +kernel) rfl
abbrev mX5_pack : jM := (yX5_pack, cX5_pack, 6, some .int)
theorem qX5_pack : jMs mX5_pack 5 := ⟨t0_at 652 (by decide +kernel) rfl, t0_at 65 (by decide +kernel) rfl, by decide +kernel, by decide, by decide +kernel⟩
theorem vX5_pack : jMt mX5_pack := t0_at 651 (by decide +kernel) rfl
abbrev mX5_priorityOf : jM := (yX5_priorityOf, cX5_priorityOf, 1, some .int)
theorem qX5_priorityOf : jMs mX5_priorityOf 1 := ⟨t0_at 502 (by decide +kernel) rfl, t0_at 65 (by decide +kernel) rfl, by decide +kernel, by decide, by decide +kernel⟩
theorem vX5_priorityOf : jMt mX5_priorityOf := t0_at 501 (by decide +kernel) rfl
abbrev mX5_tell : jM := (yX5_tell, cX5_tell, 2, some .int)
theorem qX5_tell : jMs mX5_tell 2 := ⟨t0_at 490 (by decide +kernel) rfl, t0_at 65 (by decide +kernel) rfl, by decide +kernel, by decide, by decide +kernel⟩
theorem vX5_tell : jMt mX5_tell := t0_at 489 (by decide +kernel) rfl
abbrev mX6_begin : jM := (yX6_begin, cX6_begin, 2, none)
theorem qX6_begin : jMs mX6_begin 1 := ⟨t0_at 628 (by decide +kernel) rfl, t0_at 60 (by decide +kernel) rfl, by decide +kernel, by decide, by decide +kernel⟩
theorem vX6_begin : jMv mX6_begin := ⟨t0_at 626 (by decide +kernel) rfl, t0_at 627 (by decide +kernel) rfl⟩
abbrev mX6_countOfAsk : jM := (yX6_countOfAsk, cX6_countOfAsk, 1, some .int)
theorem qX6_countOfAsk : jMs mX6_countOfAsk 0 := ⟨t0_at 762 (by decide +kernel) rfl, t0_at 60 (by decide +kernel) rfl, by decide +kernel, by decide, by decide +kernel⟩
theorem vX6_countOfAsk : jMv mX6_countOfAsk := ⟨t0_at 760 (by decide +kernel) rfl, t0_at 761 (by decide +kernel) rfl⟩
abbrev mX6_countOfGrant : jM := (yX6_countOfGrant, cX6_countOfGrant, 2, some .int)
theorem qX6_countOfGrant : jMs mX6_countOfGrant 1 := ⟨t0_at 792 (by decide +kernel) rfl, t0_at 60 (by decide +kernel) rfl, by decide +kernel, by decide, by decide +kernel⟩
theorem vX6_countOfGrant : jMv mX6_countOfGrant := ⟨t0_at 790 (by decide +kernel) rfl, t0_at 791 (by decide +kernel) rfl⟩
abbrev mX6_forget : jM := (yX6_forget, cX6_forget, 1, none)
theorem qX6_forget : jMs mX6_forget 0 := ⟨t0_at 758 (by decide +kernel) rfl, t0_at 60 (by decide +kernel) rfl, by decide +kernel, by decide, by decide +kernel⟩
theorem vX6_forget : jMv mX6_forget := ⟨t0_at 757 (by decide +kernel) rfl, t0_at 21 (by decide +kernel) rfl⟩
abbrev mX6_forgetIfOld : jM := (yX6_forgetIfOld, cX6_forgetIfOld, 2, none)
theorem qX6_forgetIfOld : jMs mX6_forgetIfOld 1 := ⟨t0_at 771 (by decide +kernel) rfl, t0_at 60 (by decide +kernel) rfl, by decide +kernel, by decide, by decide +kernel⟩
theorem vX6_forgetIfOld : jMv mX6_forgetIfOld := ⟨t0_at 769 (by decide +kernel) rfl, t0_at 770 (by decide +kernel) rfl⟩
abbrev mX6_grantedAndNotIn : jM := (yX6_grantedAndNotIn, cX6_grantedAndNotIn, 1, some .int)
theorem qX6_grantedAndNotIn : jMs mX6_grantedAndNotIn 0 := ⟨t0_at 450 (by decide +kernel) rfl, t0_at 60 (by decide +kernel) rfl, by decide +kernel, by decide, by decide +kernel⟩
theorem vX6_grantedAndNotIn : jMv mX6_grantedAndNotIn := ⟨t0_at 448 (by decide +kernel) rfl, t0_at 449 (by decide +kernel) rfl⟩
abbrev mX6_grantedOfAsk : jM := (yX6_grantedOfAsk, cX6_grantedOfAsk, 1, some .int)
theorem qX6_grantedOfAsk : jMs mX6_grantedOfAsk 1 := ⟨t0_at 670 (by decide +kernel) rfl, t0_at 60 (by decide +kernel) rfl, by decide +kernel, by decide, by decide +kernel⟩
theorem vX6_grantedOfAsk : jMt mX6_grantedOfAsk := t0_at 669 (by decide +kernel) rfl
abbrev mX6_growGranted : jM := (yX6_growGranted, cX6_growGranted, 2, some .boolean)
theorem qX6_growGranted : jMs mX6_growGranted 0 := ⟨t0_at 788 (by decide +kernel) rfl, t0_at 60 (by decide +kernel) rfl, by decide +kernel, by decide, by decide +kernel⟩
theorem vX6_growGranted : jMv mX6_growGranted := ⟨t0_at 786 (by decide +kernel) rfl, t0_at 787 (by decide +kernel) rfl⟩
abbrev mX6_growSilence : jM := (yX6_growSilence, cX6_growSilence, 1, some .boolean)
theorem qX6_growSilence : jMs mX6_growSilence 0 := ⟨t0_at 754 (by decide +kernel) rfl, t0_at 60 (by decide +kernel) rfl, by decide +kernel, by decide, by decide +kernel⟩
theorem vX6_growSilence : jMv mX6_growSilence := ⟨t0_at 752 (by decide +kernel) rfl, t0_at 753 (by decide +kernel) rfl⟩
abbrev mX6_holds : jM := (yX6_holds, cX6_holds, 2, some .boolean)
theorem qX6_holds : jMs mX6_holds 1 := ⟨t0_at 412 (by decide +kernel) rfl, t0_at 60 (by decide +kernel) rfl, by decide +kernel, by decide, by decide +kernel⟩
theorem vX6_holds : jMv mX6_holds := ⟨t0_at 410 (by decide +kernel) rfl, t0_at 411 (by decide +kernel) rfl⟩
abbrev mX6_init : jM := (yX6_init, cX6_init, 3, none)
theorem qX6_init : jMs mX6_init 2 := ⟨t0_at 267 (by decide +kernel) rfl, t0_at 60 (by decide +kernel) rfl, by decide +kernel, by decide, by decide +kernel⟩
theorem vX6_init : jMi mX6_init := ⟨t0_at 266 (by decide +kernel) rfl, rfl⟩
abbrev mX6_isAheadOf : jM := (yX6_isAheadOf, cX6_isAheadOf, 2, some .boolean)
theorem qX6_isAheadOf : jMs mX6_isAheadOf 1 := ⟨t0_at 784 (by decide +kernel) rfl, t0_at 60 (by decide +kernel) rfl, by decide +kernel, by decide, by decide +kernel⟩
theorem vX6_isAheadOf : jMv mX6_isAheadOf := ⟨t0_at 782 (by decide +kernel) rfl, t0_at 783 (by decide +kernel) rfl⟩
abbrev mX6_isFinished : jM := (yX6_isFinished, cX6_isFinished, 1, some .boolean)
theorem qX6_isFinished : jMs mX6_isFinished 0 := ⟨t0_at 641 (by decide +kernel) rfl, t0_at 60 (by decide +kernel) rfl, by decide +kernel, by decide, by decide +kernel⟩
theorem vX6_isFinished : jMv mX6_isFinished := ⟨t0_at 639 (by decide +kernel) rfl, t0_at 640 (by decide +kernel) rfl⟩
abbrev mX6_isKnown : jM := (yX6_isKnown, cX6_isKnown, 1, some .boolean)
theorem qX6_isKnown : jMs mX6_isKnown 0 := ⟨t0_at 399 (by decide +kernel) rfl, t0_at 60 (by decide +kernel) rfl, by decide +kernel, by decide, by decide +kernel⟩
theorem vX6_isKnown : jMv mX6_isKnown := ⟨t0_at 397 (by decide +kernel) rfl, t0_at 398 (by decide +kernel) rfl⟩
abbrev mX6_isUnknown : jM := (yX6_isUnknown, cX6_isUnknown, 1, some .boolean)
theorem qX6_isUnknown : jMs mX6_isUnknown 0 := ⟨t0_at 624 (by decide +kernel) rfl, t0_at 60 (by decide +kernel) rfl, by decide +kernel, by decide, by decide +kernel⟩
theorem vX6_isUnknown : jMv mX6_isUnknown := ⟨t0_at 622 (by decide +kernel) rfl, t0_at 623 (by decide +kernel) rfl⟩
abbrev mX6_levelOfGrant : jM := (yX6_levelOfGrant, cX6_levelOfGrant, 1, some .int)
theorem qX6_levelOfGrant : jMs mX6_levelOfGrant 1 := ⟨t0_at 667 (by decide +kernel) rfl, t0_at 60 (by decide +kernel) rfl, by decide +kernel, by decide, by decide +kernel⟩
theorem vX6_levelOfGrant : jMt mX6_levelOfGrant := t0_at 666 (by decide +kernel) rfl
abbrev mX6_missing : jM := (yX6_missing, cX6_missing, 1, some .int)
theorem qX6_missing : jMs mX6_missing 0 := ⟨t0_at 403 (by decide +kernel) rfl, t0_at 60 (by decide +kernel) rfl, by decide +kernel, by decide, by decide +kernel⟩
theorem vX6_missing : jMv mX6_missing := ⟨t0_at 402 (by decide +kernel) rfl, t0_at 2 (by decide +kernel) rfl⟩
abbrev mX6_placeOfAsk : jM := (yX6_placeOfAsk, cX6_placeOfAsk, 1, some .int)
theorem qX6_placeOfAsk : jMs mX6_placeOfAsk 1 := ⟨t0_at 673 (by decide +kernel) rfl, t0_at 60 (by decide +kernel) rfl, by decide +kernel, by decide, by decide +kernel⟩
theorem vX6_placeOfAsk : jMt mX6_placeOfAsk := t0_at 672 (by decide +kernel) rfl
abbrev mX6_take : jM := (yX6_take, cX6_take, 3, none)
theorem qX6_take : jMs mX6_take 2 := ⟨t0_at 634 (by decide +kernel) rfl, t0_at 60 (by decide +kernel) rfl, by decide +kernel, by decide, by decide +kernel⟩
theorem vX6_take : jMv mX6_take := ⟨t0_at 632 (by decide +kernel) rfl, t0_at 633 (by decide +kernel) rfl⟩
abbrev mX6_targetOfGrant : jM := (yX6_targetOfGrant, cX6_targetOfGrant, 1, some .int)
theorem qX6_targetOfGrant : jMs mX6_targetOfGrant 1 := ⟨t0_at 663 (by decide +kernel) rfl, t0_at 60 (by decide +kernel) rfl, by decide +kernel, by decide, by decide +kernel⟩
theorem vX6_targetOfGrant : jMt mX6_targetOfGrant := t0_at 662 (by decide +kernel) rfl
abbrev mX6_tell : jM := (yX6_tell, cX6_tell, 2, some .int)
theorem qX6_tell : jMs mX6_tell 1 := ⟨t0_at 395 (by decide +kernel) rfl, t0_at 60 (by decide +kernel) rfl, by decide +kernel, by decide, by decide +kernel⟩
theorem vX6_tell : jMv mX6_tell := ⟨t0_at 393 (by decide +kernel) rfl, t0_at 394 (by decide +kernel) rfl⟩
abbrev mX7_init : jM := (yX7_init, cX7_init, 2, none)
theorem qX7_init : jMs mX7_init 1 := ⟨t0_at 90 (by decide +kernel) rfl, t0_at 53 (by decide +kernel) rfl, by decide +kernel, by decide, by decide +kernel⟩
theorem vX7_init : jMi mX7_init := ⟨t0_at 89 (by decide +kernel) rfl, rfl⟩
abbrev mX7_put : jM := (yX7_put, cX7_put, 3, some .boolean)
theorem qX7_put : jMs mX7_put 1 := ⟨t0_at 656 (by decide +kernel) rfl, t0_at 53 (by decide +kernel) rfl, by decide +kernel, by decide, by decide +kernel⟩
theorem vX7_put : jMv mX7_put := ⟨t0_at 654 (by decide +kernel) rfl, t0_at 655 (by decide +kernel) rfl⟩
abbrev mX7_size : jM := (yX7_size, cX7_size, 1, some .int)
theorem qX7_size : jMs mX7_size 0 := ⟨t0_at 457 (by decide +kernel) rfl, t0_at 53 (by decide +kernel) rfl, by decide +kernel, by decide, by decide +kernel⟩
theorem vX7_size : jMv mX7_size := ⟨t0_at 455 (by decide +kernel) rfl, t0_at 456 (by decide +kernel) rfl⟩
abbrev mX7_take : jM := (yX7_take, cX7_take, 2, some .int)
theorem qX7_take : jMs mX7_take 0 := ⟨t0_at 738 (by decide +kernel) rfl, t0_at 53 (by decide +kernel) rfl, by decide +kernel, by decide, by decide +kernel⟩
theorem vX7_take : jMv mX7_take := ⟨t0_at 736 (by decide +kernel) rfl, t0_at 737 (by decide +kernel) rfl⟩
abbrev mX8_canSend : jM := (yX8_canSend, cX8_canSend, 1, some .boolean)
theorem qX8_canSend : jMs mX8_canSend 0 := ⟨t0_at 817 (by decide +kernel) rfl, t0_at 58 (by decide +kernel) rfl, by decide +kernel, by decide, by decide +kernel⟩
theorem vX8_canSend : jMv mX8_canSend := ⟨t0_at 815 (by decide +kernel) rfl, t0_at 816 (by decide +kernel) rfl⟩
abbrev mX8_end : jM := (yX8_end, cX8_end, 3, none)
theorem qX8_end : jMs mX8_end 2 := ⟨t0_at 682 (by decide +kernel) rfl, t0_at 58 (by decide +kernel) rfl, by decide +kernel, by decide, by decide +kernel⟩
theorem vX8_end : jMv mX8_end := ⟨t0_at 681 (by decide +kernel) rfl, t0_at 13 (by decide +kernel) rfl⟩
abbrev mX8_growQuiet : jM := (yX8_growQuiet, cX8_growQuiet, 2, none)
theorem qX8_growQuiet : jMs mX8_growQuiet 1 := ⟨t0_at 800 (by decide +kernel) rfl, t0_at 58 (by decide +kernel) rfl, by decide +kernel, by decide, by decide +kernel⟩
theorem vX8_growQuiet : jMv mX8_growQuiet := ⟨t0_at 798 (by decide +kernel) rfl, t0_at 799 (by decide +kernel) rfl⟩
abbrev mX8_init : jM := (yX8_init, cX8_init, 2, none)
theorem qX8_init : jMs mX8_init 1 := ⟨t0_at 230 (by decide +kernel) rfl, t0_at 58 (by decide +kernel) rfl, by decide +kernel, by decide, by decide +kernel⟩
theorem vX8_init : jMi mX8_init := ⟨t0_at 229 (by decide +kernel) rfl, rfl⟩
abbrev mX8_left : jM := (yX8_left, cX8_left, 1, some .int)
theorem qX8_left : jMs mX8_left 0 := ⟨t0_at 381 (by decide +kernel) rfl, t0_at 58 (by decide +kernel) rfl, by decide +kernel, by decide, by decide +kernel⟩
theorem vX8_left : jMv mX8_left := ⟨t0_at 379 (by decide +kernel) rfl, t0_at 380 (by decide +kernel) rfl⟩
abbrev mX8_level : jM := (yX8_level, cX8_level, 1, some .int)
theorem qX8_level : jMs mX8_level 0 := ⟨t0_at 835 (by decide +kernel) rfl, t0_at 58 (by decide +kernel) rfl, by decide +kernel, by decide, by decide +kernel⟩
theorem vX8_level : jMv mX8_level := ⟨t0_at 833 (by decide +kernel) rfl, t0_at 834 (by decide +kernel) rfl⟩
abbrev mX8_takeAnswer : jM := (yX8_takeAnswer, cX8_takeAnswer, 4, none)
theorem qX8_takeAnswer : jMs mX8_takeAnswer 3 := ⟨t0_at 660 (by decide +kernel) rfl, t0_at 58 (by decide +kernel) rfl, by decide +kernel, by decide, by decide +kernel⟩
theorem vX8_takeAnswer : jMv mX8_takeAnswer := ⟨t0_at 658 (by decide +kernel) rfl, t0_at 659 (by decide +kernel) rfl⟩
abbrev mX8_takePlace : jM := (yX8_takePlace, cX8_takePlace, 2, some .int)
theorem qX8_takePlace : jMs mX8_takePlace 0 := ⟨t0_at 822 (by decide +kernel) rfl, t0_at 58 (by decide +kernel) rfl, by decide +kernel, by decide, by decide +kernel⟩
theorem vX8_takePlace : jMv mX8_takePlace := ⟨t0_at 820 (by decide +kernel) rfl, t0_at 821 (by decide +kernel) rfl⟩
abbrev mX8_tell : jM := (yX8_tell, cX8_tell, 2, some .int)
theorem qX8_tell : jMs mX8_tell 1 := ⟨t0_at 377 (by decide +kernel) rfl, t0_at 58 (by decide +kernel) rfl, by decide +kernel, by decide, by decide +kernel⟩
theorem vX8_tell : jMv mX8_tell := ⟨t0_at 375 (by decide +kernel) rfl, t0_at 376 (by decide +kernel) rfl⟩
abbrev mX8_want : jM := (yX8_want, cX8_want, 2, none)
theorem qX8_want : jMs mX8_want 1 := ⟨t0_at 677 (by decide +kernel) rfl, t0_at 58 (by decide +kernel) rfl, by decide +kernel, by decide, by decide +kernel⟩
theorem vX8_want : jMv mX8_want := ⟨t0_at 676 (by decide +kernel) rfl, t0_at 12 (by decide +kernel) rfl⟩
abbrev mX9_arriveAll : jM := (yX9_arriveAll, cX9_arriveAll, 3, none)
theorem qX9_arriveAll : jMs mX9_arriveAll 0 := ⟨t0_at 596 (by decide +kernel) rfl, t0_at 50 (by decide +kernel) rfl, by decide +kernel, by decide, by decide +kernel⟩
theorem vX9_arriveAll : jMv mX9_arriveAll := ⟨t0_at 595 (by decide +kernel) rfl, t0_at 8 (by decide +kernel) rfl⟩
abbrev mX9_chosen : jM := (yX9_chosen, cX9_chosen, 3, some .int)
theorem qX9_chosen : jMs mX9_chosen 2 := ⟨t0_at 430 (by decide +kernel) rfl, t0_at 50 (by decide +kernel) rfl, by decide +kernel, by decide, by decide +kernel⟩
theorem vX9_chosen : jMv mX9_chosen := ⟨t0_at 428 (by decide +kernel) rfl, t0_at 429 (by decide +kernel) rfl⟩
abbrev mX9_find : jM := (yX9_find, cX9_find, 2, some (.object "GrantNet$Message"))
theorem qX9_find : jMs mX9_find 1 := ⟨t0_at 373 (by decide +kernel) rfl, t0_at 50 (by decide +kernel) rfl, by decide +kernel, by decide, by decide +kernel⟩
theorem vX9_find : jMv mX9_find := ⟨t0_at 372 (by decide +kernel) rfl, t0_at 1 (by decide +kernel) rfl⟩
abbrev mX9_finished : jM := (yX9_finished, cX9_finished, 3, some .int)
theorem qX9_finished : jMs mX9_finished 2 := ⟨t0_at 419 (by decide +kernel) rfl, t0_at 50 (by decide +kernel) rfl, by decide +kernel, by decide, by decide +kernel⟩
theorem vX9_finished : jMv mX9_finished := ⟨t0_at 417 (by decide +kernel) rfl, t0_at 418 (by decide +kernel) rfl⟩
abbrev mX9_host : jM := (yX9_host, cX9_host, 3, some .int)
theorem qX9_host : jMs mX9_host 2 := ⟨t0_at 438 (by decide +kernel) rfl, t0_at 50 (by decide +kernel) rfl, by decide +kernel, by decide, by decide +kernel⟩
theorem vX9_host : jMv mX9_host := ⟨t0_at 436 (by decide +kernel) rfl, t0_at 437 (by decide +kernel) rfl⟩
abbrev mX9_in : jM := (yX9_in, cX9_in, 4, some .boolean)
theorem qX9_in : jMs mX9_in 2 := ⟨t0_at 408 (by decide +kernel) rfl, t0_at 50 (by decide +kernel) rfl, by decide +kernel, by decide, by decide +kernel⟩
theorem vX9_in : jMv mX9_in := ⟨t0_at 406 (by decide +kernel) rfl, t0_at 407 (by decide +kernel) rfl⟩
abbrev mX9_init : jM := (yX9_init, cX9_init, 2, none)
theorem qX9_init : jMs mX9_init 0 := ⟨t0_at 72 (by decide +kernel) rfl, t0_at 50 (by decide +kernel) rfl, by decide +kernel, by decide, by decide +kernel⟩
theorem vX9_init : jMi mX9_init := ⟨t0_at 71 (by decide +kernel) rfl, rfl⟩
abbrev mX9_isHost : jM := (yX9_isHost, cX9_isHost, 1, some .boolean)
theorem qX9_isHost : jMs mX9_isHost 1 := ⟨t0_at 220 (by decide +kernel) rfl, t0_at 50 (by decide +kernel) rfl, by decide +kernel, by decide, by decide +kernel⟩
theorem vX9_isHost : jMt mX9_isHost := t0_at 219 (by decide +kernel) rfl
abbrev mX9_lose : jM := (yX9_lose, cX9_lose, 3, some .boolean)
theorem qX9_lose : jMs mX9_lose 2 := ⟨t0_at 350 (by decide +kernel) rfl, t0_at 50 (by decide +kernel) rfl, by decide +kernel, by decide, by decide +kernel⟩
theorem vX9_lose : jMv mX9_lose := ⟨t0_at 348 (by decide +kernel) rfl, t0_at 349 (by decide +kernel) rfl⟩
abbrev mX9_message : jM := (yX9_message, cX9_message, 8, some .int)
theorem qX9_message : jMs mX9_message 4 := ⟨t0_at 217 (by decide +kernel) rfl, t0_at 50 (by decide +kernel) rfl, by decide +kernel, by decide, by decide +kernel⟩
theorem vX9_message : jMv mX9_message := ⟨t0_at 215 (by decide +kernel) rfl, t0_at 216 (by decide +kernel) rfl⟩
abbrev mX9_packet : jM := (yX9_packet, cX9_packet, 3, some .int)
theorem qX9_packet : jMs mX9_packet 2 := ⟨t0_at 483 (by decide +kernel) rfl, t0_at 50 (by decide +kernel) rfl, by decide +kernel, by decide, by decide +kernel⟩
theorem vX9_packet : jMv mX9_packet := ⟨t0_at 481 (by decide +kernel) rfl, t0_at 482 (by decide +kernel) rfl⟩
abbrev mX9_queue : jM := (yX9_queue, cX9_queue, 3, some .int)
theorem qX9_queue : jMs mX9_queue 2 := ⟨t0_at 469 (by decide +kernel) rfl, t0_at 50 (by decide +kernel) rfl, by decide +kernel, by decide, by decide +kernel⟩
theorem vX9_queue : jMv mX9_queue := ⟨t0_at 467 (by decide +kernel) rfl, t0_at 468 (by decide +kernel) rfl⟩
abbrev mX9_received : jM := (yX9_received, cX9_received, 4, some .int)
theorem qX9_received : jMs mX9_received 2 := ⟨t0_at 391 (by decide +kernel) rfl, t0_at 50 (by decide +kernel) rfl, by decide +kernel, by decide, by decide +kernel⟩
theorem vX9_received : jMv mX9_received := ⟨t0_at 389 (by decide +kernel) rfl, t0_at 390 (by decide +kernel) rfl⟩
abbrev mX9_runSlot : jM := (yX9_runSlot, cX9_runSlot, 3, none)
theorem qX9_runSlot : jMs mX9_runSlot 0 := ⟨t0_at 592 (by decide +kernel) rfl, t0_at 50 (by decide +kernel) rfl, by decide +kernel, by decide, by decide +kernel⟩
theorem vX9_runSlot : jMv mX9_runSlot := ⟨t0_at 591 (by decide +kernel) rfl, t0_at 7 (by decide +kernel) rfl⟩
abbrev mX9_sent : jM := (yX9_sent, cX9_sent, 4, some .int)
theorem qX9_sent : jMs mX9_sent 2 := ⟨t0_at 369 (by decide +kernel) rfl, t0_at 50 (by decide +kernel) rfl, by decide +kernel, by decide, by decide +kernel⟩
theorem vX9_sent : jMv mX9_sent := ⟨t0_at 367 (by decide +kernel) rfl, t0_at 368 (by decide +kernel) rfl⟩
abbrev mX9_slot : jM := (yX9_slot, cX9_slot, 3, some .int)
theorem qX9_slot : jMs mX9_slot 1 := ⟨t0_at 522 (by decide +kernel) rfl, t0_at 50 (by decide +kernel) rfl, by decide +kernel, by decide, by decide +kernel⟩
theorem vX9_slot : jMv mX9_slot := ⟨t0_at 520 (by decide +kernel) rfl, t0_at 521 (by decide +kernel) rfl⟩
abbrev mX9_spine : jM := (yX9_spine, cX9_spine, 3, some .boolean)
theorem qX9_spine : jMs mX9_spine 2 := ⟨t0_at 361 (by decide +kernel) rfl, t0_at 50 (by decide +kernel) rfl, by decide +kernel, by decide, by decide +kernel⟩
theorem vX9_spine : jMv mX9_spine := ⟨t0_at 359 (by decide +kernel) rfl, t0_at 360 (by decide +kernel) rfl⟩
abbrev mX9_takeIn : jM := (yX9_takeIn, cX9_takeIn, 3, none)
theorem qX9_takeIn : jMs mX9_takeIn 1 := ⟨t0_at 613 (by decide +kernel) rfl, t0_at 50 (by decide +kernel) rfl, by decide +kernel, by decide, by decide +kernel⟩
theorem vX9_takeIn : jMv mX9_takeIn := ⟨t0_at 612 (by decide +kernel) rfl, t0_at 9 (by decide +kernel) rfl⟩
abbrev mX9_total : jM := (yX9_total, cX9_total, 2, some .int)
theorem qX9_total : jMs mX9_total 1 := ⟨t0_at 506 (by decide +kernel) rfl, t0_at 50 (by decide +kernel) rfl, by decide +kernel, by decide, by decide +kernel⟩
theorem vX9_total : jMv mX9_total := ⟨t0_at 504 (by decide +kernel) rfl, t0_at 505 (by decide +kernel) rfl⟩
end
section
/-! memory: addresses, kinds, ints, longs, references by (kind, address, place), lengths of arrays.
kinds: 0 Cutoffs, 1 Fabric, 2 Host, 3 Message, 4 Receiving, 5 Row, 6 Sending, 7 GrantNet, 8 GrantNetModel, 9 int[], 10 boolean[], 11 Host[], 12 Message[], 13 Row[] -/
abbrev jS : Type := List Nat × (Nat → Nat) × (Nat → Nat → Nat → Int32) × (Nat → Nat → Nat → Int64) × (Nat → Nat → Nat → Option Nat) × (Nat → Nat)
abbrev jG : Type := (Nat → ClassId) × (Nat → Nat → Nat) × (Nat → ClassId)
def sI (S : jS) : Nat → Nat → Nat → Int32 := S.2.2.1
def sJ (S : jS) : Nat → Nat → Nat → Int64 := S.2.2.2.1
def sP (S : jS) : Nat → Nat → Nat → Option Nat := S.2.2.2.2.1
def sN (S : jS) : Nat → Nat := S.2.2.2.2.2
def sAt (S : jS) (c a : Nat) : Prop := a ∈ S.1 ∧ S.2.1 a = c
def uI (S : jS) (c a k : Nat) (v : Int32) : jS := (S.1, S.2.1, (fun c' a' k' => if c' = c ∧ a' = a ∧ k' = k then v else S.2.2.1 c' a' k'), S.2.2.2)
def uJ (S : jS) (c a k : Nat) (v : Int64) : jS := (S.1, S.2.1, S.2.2.1, (fun c' a' k' => if c' = c ∧ a' = a ∧ k' = k then v else S.2.2.2.1 c' a' k'), S.2.2.2.2)
def uP (S : jS) (c a k : Nat) (v : Option Nat) : jS := (S.1, S.2.1, S.2.2.1, S.2.2.2.1, (fun c' a' k' => if c' = c ∧ a' = a ∧ k' = k then v else S.2.2.2.2.1 c' a' k'), S.2.2.2.2.2)
def nX (S : jS) (a c n : Nat) : jS := (S.1 ++ [a], va_up S.2.1 a c, (fun c' a' k' => if c' = c ∧ a' = a then 0 else S.2.2.1 c' a' k'), (fun c' a' k' => if c' = c ∧ a' = a then 0 else S.2.2.2.1 c' a' k'), (fun c' a' k' => if c' = c ∧ a' = a then none else S.2.2.2.2.1 c' a' k'), va_up S.2.2.2.2.2 a n)
def jTy : Nat → Nat → FieldType := fun c => match c with
  | 0 => tyX1
  | 1 => tyX2
  | 2 => tyX3
  | 3 => tyX4
  | 4 => tyX6
  | 5 => tyX7
  | 6 => tyX8
  | 7 => tyX9
  | _ => tyX10
def jN : Nat → Nat := fun c => match c with
  | 0 => 6
  | 1 => 7
  | 2 => 11
  | 3 => 6
  | 4 => 10
  | 5 => 3
  | 6 => 9
  | 7 => 5
  | _ => 46
def fv (ty : FieldType) (S : jS) (c a k : Nat) : Value := match ty with
  | .long => .long (S.2.2.2.1 c a k)
  | .object _ => va_rf (S.2.2.2.2.1 c a k)
  | .array _ => va_rf (S.2.2.2.2.1 c a k)
  | _ => .int (S.2.2.1 c a k)
def fvs (S : jS) (c a : Nat) : List Value := (List.range (jN c)).map (fun k => fv (jTy c k) S c a k)
def cellOf (g : jG) (S : jS) (a : Nat) : va_E := if S.2.1 a < 9 then .inr (S.2.1 a, fvs S (S.2.1 a) a) else if S.2.1 a < 11 then .inl (g.2.2 (S.2.1 a), S.2.2.2.2.2 a, .inl (S.2.2.1 (S.2.1 a) a)) else .inl (g.2.2 (S.2.1 a), S.2.2.2.2.2 a, .inr (.inr (.inr (.inr (S.2.2.2.2.1 (S.2.1 a) a)))))
abbrev jW (g : jG) (S : jS) : va_W := va_pl S.1 (cellOf g S)
abbrev jTys (g : jG) : List (ClassId × FieldType) := [(g.2.2 9, .int), (g.2.2 10, .boolean), (g.2.2 11, .object RX3), (g.2.2 12, .object RX4), (g.2.2 13, .object RX7)]
/-! reading behind a write -/
theorem sI_uI (S : jS) (c a k : Nat) (v : Int32) (c' a' k' : Nat) : sI (uI S c a k v) c' a' k' = if c' = c ∧ a' = a ∧ k' = k then v else sI S c' a' k' := rfl
theorem sJ_uJ (S : jS) (c a k : Nat) (v : Int64) (c' a' k' : Nat) : sJ (uJ S c a k v) c' a' k' = if c' = c ∧ a' = a ∧ k' = k then v else sJ S c' a' k' := rfl
theorem sP_uP (S : jS) (c a k : Nat) (v : Option Nat) (c' a' k' : Nat) : sP (uP S c a k v) c' a' k' = if c' = c ∧ a' = a ∧ k' = k then v else sP S c' a' k' := rfl
theorem sJ_uI (S : jS) (c a k : Nat) (v : Int32) : sJ (uI S c a k v) = sJ S := rfl
theorem sP_uI (S : jS) (c a k : Nat) (v : Int32) : sP (uI S c a k v) = sP S := rfl
theorem sN_uI (S : jS) (c a k : Nat) (v : Int32) : sN (uI S c a k v) = sN S := rfl
theorem sI_uJ (S : jS) (c a k : Nat) (v : Int64) : sI (uJ S c a k v) = sI S := rfl
theorem sP_uJ (S : jS) (c a k : Nat) (v : Int64) : sP (uJ S c a k v) = sP S := rfl
theorem sN_uJ (S : jS) (c a k : Nat) (v : Int64) : sN (uJ S c a k v) = sN S := rfl
theorem sI_uP (S : jS) (c a k : Nat) (v : Option Nat) : sI (uP S c a k v) = sI S := rfl
theorem sJ_uP (S : jS) (c a k : Nat) (v : Option Nat) : sJ (uP S c a k v) = sJ S := rfl
theorem sN_uP (S : jS) (c a k : Nat) (v : Option Nat) : sN (uP S c a k v) = sN S := rfl
theorem sAt_uI (S : jS) (c a k : Nat) (v : Int32) (c' a' : Nat) : sAt (uI S c a k v) c' a' = sAt S c' a' := rfl
theorem sAt_uJ (S : jS) (c a k : Nat) (v : Int64) (c' a' : Nat) : sAt (uJ S c a k v) c' a' = sAt S c' a' := rfl
theorem sAt_uP (S : jS) (c a k : Nat) (v : Option Nat) (c' a' : Nat) : sAt (uP S c a k v) c' a' = sAt S c' a' := rfl
theorem sAt.ne {S : jS} {c c' a a' : Nat} (h : sAt S c a) (h' : sAt S c' a') (hc : c ≠ c') : a ≠ a' := fun e => hc (by rw [← h.2, ← h'.2, e])
/-! the pool's rows -/
theorem jW_get (g : jG) {S : jS} {c a : Nat} (h : sAt S c a) : ∃ k : Nat, (jW g S)[k]? = some (a, cellOf g S a) := va_pl_get (X := []) h.1
theorem cell_obj (g : jG) {S : jS} {c a : Nat} (h : sAt S c a) (hc : c < 9) : cellOf g S a = .inr (c, fvs S c a) := by
  unfold cellOf
  rw [h.2, if_pos hc]
theorem cell_int (g : jG) {S : jS} {c a : Nat} (h : sAt S c a) (hc : 9 ≤ c) (hc2 : c < 11) : cellOf g S a = .inl (g.2.2 c, sN S a, .inl (sI S c a)) := by
  unfold cellOf
  rw [h.2, if_neg (by omega), if_pos hc2]
  rfl
theorem cell_ref (g : jG) {S : jS} {c a : Nat} (h : sAt S c a) (hc : 11 ≤ c) : cellOf g S a = .inl (g.2.2 c, sN S a, .inr (.inr (.inr (.inr (sP S c a))))) := by
  unfold cellOf
  rw [h.2, if_neg (by omega), if_neg (by omega)]
  rfl
theorem fvs_at {S : jS} {c a k : Nat} (hk : k < jN c) : (fvs S c a)[k]? = some (fv (jTy c k) S c a k) := by
  unfold fvs
  rw [List.getElem?_map, List.getElem?_range hk]
  rfl
theorem fvs_len {S : jS} {c a : Nat} : (fvs S c a).length = jN c := by unfold fvs; rw [List.length_map, List.length_range]
theorem fv_otherI {ty : FieldType} {S : jS} {c a k : Nat} {v : Int32} {c' a' k' : Nat} (h : ¬ (c' = c ∧ a' = a ∧ k' = k)) : fv ty (uI S c a k v) c' a' k' = fv ty S c' a' k' := by
  cases ty <;> simp [fv, uI, h]
theorem fv_otherJ {ty : FieldType} {S : jS} {c a k : Nat} {v : Int64} {c' a' k' : Nat} (h : ¬ (c' = c ∧ a' = a ∧ k' = k)) : fv ty (uJ S c a k v) c' a' k' = fv ty S c' a' k' := by
  cases ty <;> simp [fv, uJ, h]
theorem fv_otherP {ty : FieldType} {S : jS} {c a k : Nat} {v : Option Nat} {c' a' k' : Nat} (h : ¬ (c' = c ∧ a' = a ∧ k' = k)) : fv ty (uP S c a k v) c' a' k' = fv ty S c' a' k' := by
  cases ty <;> simp [fv, uP, h]
theorem fvs_set {S S' : jS} {c a k : Nat} {w : Value} (h1 : fv (jTy c k) S' c a k = w) (h2 : ∀ j, j ≠ k → fv (jTy c j) S' c a j = fv (jTy c j) S c a j) : (fvs S c a).set k w = fvs S' c a := by
  apply List.ext_getElem?
  intro j
  by_cases hj : j < jN c
  · rw [fvs_at hj]
    by_cases e : j = k
    · subst e
      rw [List.getElem?_set_self (by rw [fvs_len]; exact hj), h1]
    · rw [List.getElem?_set_ne (Ne.symm e), fvs_at hj, h2 j e]
  · rw [List.getElem?_eq_none (by rw [List.length_set, fvs_len]; omega), List.getElem?_eq_none (by rw [fvs_len]; omega)]
theorem cell_uI (g : jG) {S : jS} {c a k : Nat} {v : Int32} (h : sAt S c a) (hc : c < 9) (ht : fv (jTy c k) (uI S c a k v) c a k = .int v) (b : Nat) : va_up (cellOf g S) a (.inr (c, (fvs S c a).set k (.int v))) b = cellOf g (uI S c a k v) b := by
  by_cases hb : b = a
  · subst hb
    rw [va_up_self, cell_obj g (S := uI S c b k v) (c := c) h hc, fvs_set ht (fun j hj => fv_otherI (by simp [hj]))]
  · rw [va_up_ne _ _ hb]
    unfold cellOf fvs
    simp only [fv_otherI (show ∀ {c' k' : Nat}, ¬ (c' = c ∧ b = a ∧ k' = k) from fun h => hb h.2.1)]
    have e : (uI S c a k v).2.2.1 (S.2.1 b) b = S.2.2.1 (S.2.1 b) b := funext fun j => by simp [uI, hb]
    show (if S.2.1 b < 9 then _ else if S.2.1 b < 11 then Sum.inl (g.2.2 (S.2.1 b), S.2.2.2.2.2 b, Sum.inl (S.2.2.1 (S.2.1 b) b)) else _) = (if S.2.1 b < 9 then _ else if S.2.1 b < 11 then Sum.inl (g.2.2 (S.2.1 b), S.2.2.2.2.2 b, Sum.inl ((uI S c a k v).2.2.1 (S.2.1 b) b)) else _)
    rw [e]
    rfl
theorem cell_uJ (g : jG) {S : jS} {c a k : Nat} {v : Int64} (h : sAt S c a) (hc : c < 9) (ht : fv (jTy c k) (uJ S c a k v) c a k = .long v) (b : Nat) : va_up (cellOf g S) a (.inr (c, (fvs S c a).set k (.long v))) b = cellOf g (uJ S c a k v) b := by
  by_cases hb : b = a
  · subst hb
    rw [va_up_self, cell_obj g (S := uJ S c b k v) (c := c) h hc, fvs_set ht (fun j hj => fv_otherJ (by simp [hj]))]
  · rw [va_up_ne _ _ hb]
    unfold cellOf fvs
    simp only [fv_otherJ (show ∀ {c' k' : Nat}, ¬ (c' = c ∧ b = a ∧ k' = k) from fun h => hb h.2.1)]
    rfl
theorem cell_uP (g : jG) {S : jS} {c a k : Nat} {v : Option Nat} (h : sAt S c a) (hc : c < 9) (ht : fv (jTy c k) (uP S c a k v) c a k = va_rf v) (b : Nat) : va_up (cellOf g S) a (.inr (c, (fvs S c a).set k (va_rf v))) b = cellOf g (uP S c a k v) b := by
  by_cases hb : b = a
  · subst hb
    rw [va_up_self, cell_obj g (S := uP S c b k v) (c := c) h hc, fvs_set ht (fun j hj => fv_otherP (by simp [hj]))]
  · rw [va_up_ne _ _ hb]
    unfold cellOf fvs
    simp only [fv_otherP (show ∀ {c' k' : Nat}, ¬ (c' = c ∧ b = a ∧ k' = k) from fun h => hb h.2.1)]
    have e : (uP S c a k v).2.2.2.2.1 (S.2.1 b) b = S.2.2.2.2.1 (S.2.1 b) b := funext fun j => by simp [uP, hb]
    show (if S.2.1 b < 9 then _ else if S.2.1 b < 11 then _ else Sum.inl (g.2.2 (S.2.1 b), S.2.2.2.2.2 b, Sum.inr (Sum.inr (Sum.inr (Sum.inr (S.2.2.2.2.1 (S.2.1 b) b)))))) = (if S.2.1 b < 9 then _ else if S.2.1 b < 11 then _ else Sum.inl (g.2.2 (S.2.1 b), S.2.2.2.2.2 b, Sum.inr (Sum.inr (Sum.inr (Sum.inr ((uP S c a k v).2.2.2.2.1 (S.2.1 b) b))))))
    rw [e]
    rfl
theorem cell_uA (g : jG) {S : jS} {c a k : Nat} {v : Int32} (h : sAt S c a) (hc : 9 ≤ c) (hc2 : c < 11) (b : Nat) : va_up (cellOf g S) a (.inl (g.2.2 c, sN S a, .inl (upd (sI S c a) k v))) b = cellOf g (uI S c a k v) b := by
  by_cases hb : b = a
  · subst hb
    rw [va_up_self, cell_int g (S := uI S c b k v) (c := c) h hc hc2]
    have e : upd (sI S c b) k v = sI (uI S c b k v) c b := funext fun j => by simp [upd, sI_uI]
    rw [e]
    rfl
  · rw [va_up_ne _ _ hb]
    unfold cellOf fvs
    simp only [fv_otherI (show ∀ {c' k' : Nat}, ¬ (c' = c ∧ b = a ∧ k' = k) from fun h => hb h.2.1)]
    have e : (uI S c a k v).2.2.1 (S.2.1 b) b = S.2.2.1 (S.2.1 b) b := funext fun j => by simp [uI, hb]
    show (if S.2.1 b < 9 then _ else if S.2.1 b < 11 then Sum.inl (g.2.2 (S.2.1 b), S.2.2.2.2.2 b, Sum.inl (S.2.2.1 (S.2.1 b) b)) else _) = (if S.2.1 b < 9 then _ else if S.2.1 b < 11 then Sum.inl (g.2.2 (S.2.1 b), S.2.2.2.2.2 b, Sum.inl ((uI S c a k v).2.2.1 (S.2.1 b) b)) else _)
    rw [e]
    rfl
theorem cell_uR (g : jG) {S : jS} {c a k : Nat} {v : Option Nat} (h : sAt S c a) (hc : 11 ≤ c) (b : Nat) : va_up (cellOf g S) a (.inl (g.2.2 c, sN S a, .inr (.inr (.inr (.inr (va_up (sP S c a) k v)))))) b = cellOf g (uP S c a k v) b := by
  by_cases hb : b = a
  · subst hb
    rw [va_up_self, cell_ref g (S := uP S c b k v) (c := c) h hc]
    have e : va_up (sP S c b) k v = sP (uP S c b k v) c b := funext fun j => by simp [va_up, sP_uP]
    rw [e]
    rfl
  · rw [va_up_ne _ _ hb]
    unfold cellOf fvs
    simp only [fv_otherP (show ∀ {c' k' : Nat}, ¬ (c' = c ∧ b = a ∧ k' = k) from fun h => hb h.2.1)]
    have e : (uP S c a k v).2.2.2.2.1 (S.2.1 b) b = S.2.2.2.2.1 (S.2.1 b) b := funext fun j => by simp [uP, hb]
    show (if S.2.1 b < 9 then _ else if S.2.1 b < 11 then _ else Sum.inl (g.2.2 (S.2.1 b), S.2.2.2.2.2 b, Sum.inr (Sum.inr (Sum.inr (Sum.inr (S.2.2.2.2.1 (S.2.1 b) b)))))) = (if S.2.1 b < 9 then _ else if S.2.1 b < 11 then _ else Sum.inl (g.2.2 (S.2.1 b), S.2.2.2.2.2 b, Sum.inr (Sum.inr (Sum.inr (Sum.inr ((uP S c a k v).2.2.2.2.1 (S.2.1 b) b))))))
    rw [e]
    rfl
theorem jW_set (g : jG) {S S' : jS} {A : Nat → Prop} {a k : Nat} {e : va_E} (hD : va_D A (jW g S)) (hL : a ∈ S.1) (hk : (jW g S)[k]? = some (a, cellOf g S a)) (hl : S'.1 = S.1) (hc : ∀ b, va_up (cellOf g S) a e b = cellOf g S' b) : (jW g S).set k (a, e) = jW g S' := by
  have h1 := va_pl_set (X := []) (e := e) hD hL hk
  rw [List.nil_append, List.nil_append] at h1
  rw [h1]
  show va_pl S.1 _ = va_pl S'.1 _
  rw [hl]
  exact va_pl_congr hc
theorem fv_new {ty : FieldType} {S : jS} {a c n : Nat} {c' a' k' : Nat} (h : ¬ (c' = c ∧ a' = a)) : fv ty (nX S a c n) c' a' k' = fv ty S c' a' k' := by
  cases ty <;> simp [fv, nX, h]
theorem cell_newOther (g : jG) {S : jS} {a c n b : Nat} (hb : b ≠ a) : cellOf g (nX S a c n) b = cellOf g S b := by
  unfold cellOf fvs
  simp only [fv_new (show ∀ {c' : Nat}, ¬ (c' = c ∧ b = a) from fun h => hb h.2)]
  have e0 : (nX S a c n).2.1 b = S.2.1 b := va_up_ne _ _ hb
  have e1 : ∀ q, (nX S a c n).2.2.1 q b = S.2.2.1 q b := fun q => funext fun j => by simp [nX, hb]
  have e2 : ∀ q, (nX S a c n).2.2.2.2.1 q b = S.2.2.2.2.1 q b := fun q => funext fun j => by simp [nX, hb]
  have e3 : (nX S a c n).2.2.2.2.2 b = S.2.2.2.2.2 b := va_up_ne _ _ hb
  rw [e0, e1, e2, e3]
theorem sAt_new {S : jS} {a c n : Nat} : sAt (nX S a c n) c a := ⟨List.mem_append_right _ List.mem_cons_self, va_up_self _ _ _⟩
theorem sAt_old {S : jS} {a c n c' a' : Nat} (h : sAt S c' a') (hn : a ∉ S.1) : sAt (nX S a c n) c' a' := ⟨List.mem_append_left _ h.1, by
  show va_up S.2.1 a c a' = c'
  have hne : a' ≠ a := fun e => hn (by rw [← e]; exact h.1)
  rw [va_up_ne _ _ hne]
  exact h.2⟩
theorem jW_new (g : jG) {S : jS} {a c n : Nat} {e : va_E} (hn : a ∉ S.1) (he : cellOf g (nX S a c n) a = e) : jW g S ++ [(a, e)] = jW g (nX S a c n) := by
  show va_pl S.1 _ ++ _ = va_pl (S.1 ++ [a]) _
  rw [va_pl_push hn]
  refine va_pl_congr fun b => ?_
  by_cases hb : b = a
  · subst hb
    rw [va_up_self, he]
  · rw [va_up_ne _ _ hb, cell_newOther g hb]
theorem sI_new (S : jS) (a c n : Nat) (c' a' k' : Nat) : sI (nX S a c n) c' a' k' = if c' = c ∧ a' = a then 0 else sI S c' a' k' := rfl
theorem sJ_new (S : jS) (a c n : Nat) (c' a' k' : Nat) : sJ (nX S a c n) c' a' k' = if c' = c ∧ a' = a then 0 else sJ S c' a' k' := rfl
theorem sP_new (S : jS) (a c n : Nat) (c' a' k' : Nat) : sP (nX S a c n) c' a' k' = if c' = c ∧ a' = a then none else sP S c' a' k' := rfl
theorem sN_new (S : jS) (a c n : Nat) (a' : Nat) : sN (nX S a c n) a' = if a' = a then n else sN S a' := rfl
/-! which values a field of a type holds -/
def jI (ty : FieldType) : Bool := match ty with
  | .long => false
  | .object _ => false
  | .array _ => false
  | _ => true
def jL (ty : FieldType) : Bool := match ty with
  | .long => true
  | _ => false
def jP (ty : FieldType) : Bool := match ty with
  | .object _ => true
  | .array _ => true
  | _ => false
theorem fv_I {ty : FieldType} (h : jI ty = true) (S : jS) (c a k : Nat) : fv ty S c a k = .int (sI S c a k) := by
  cases ty <;> first | rfl | cases h
theorem fv_L {ty : FieldType} (h : jL ty = true) (S : jS) (c a k : Nat) : fv ty S c a k = .long (sJ S c a k) := by
  cases ty <;> first | rfl | cases h
theorem fv_P {ty : FieldType} (h : jP ty = true) (S : jS) (c a k : Nat) : fv ty S c a k = va_rf (sP S c a k) := by
  cases ty <;> first | rfl | cases h
theorem sI_same (S : jS) (c a k : Nat) (v : Int32) : sI (uI S c a k v) c a k = v := by simp [sI_uI]
theorem sJ_same (S : jS) (c a k : Nat) (v : Int64) : sJ (uJ S c a k v) c a k = v := by simp [sJ_uJ]
theorem sP_same (S : jS) (c a k : Nat) (v : Option Nat) : sP (uP S c a k v) c a k = v := by simp [sP_uP]
/-- an array of n places -/
def aAt (S : jS) (c a n : Nat) : Prop := sAt S c a ∧ sN S a = n
theorem sI_nk {S : jS} {c a k c' a' k' : Nat} {v w : Int32} (h : k' ≠ k) (e : sI S c' a' k' = v) : sI (uI S c a k w) c' a' k' = v := by rw [sI_uI, if_neg (fun z => h z.2.2)]; exact e
theorem sI_na {S : jS} {c a k c' a' k' : Nat} {v w : Int32} (h : a' ≠ a) (e : sI S c' a' k' = v) : sI (uI S c a k w) c' a' k' = v := by rw [sI_uI, if_neg (fun z => h z.2.1)]; exact e
theorem sI_nc {S : jS} {c a k c' a' k' : Nat} {v w : Int32} (h : c' ≠ c) (e : sI S c' a' k' = v) : sI (uI S c a k w) c' a' k' = v := by rw [sI_uI, if_neg (fun z => h z.1)]; exact e
theorem sJ_nk {S : jS} {c a k c' a' k' : Nat} {v w : Int64} (h : k' ≠ k) (e : sJ S c' a' k' = v) : sJ (uJ S c a k w) c' a' k' = v := by rw [sJ_uJ, if_neg (fun z => h z.2.2)]; exact e
theorem sJ_na {S : jS} {c a k c' a' k' : Nat} {v w : Int64} (h : a' ≠ a) (e : sJ S c' a' k' = v) : sJ (uJ S c a k w) c' a' k' = v := by rw [sJ_uJ, if_neg (fun z => h z.2.1)]; exact e
theorem sP_nk {S : jS} {c a k c' a' k' : Nat} {v w : Option Nat} (h : k' ≠ k) (e : sP S c' a' k' = v) : sP (uP S c a k w) c' a' k' = v := by rw [sP_uP, if_neg (fun z => h z.2.2)]; exact e
theorem sP_na {S : jS} {c a k c' a' k' : Nat} {v w : Option Nat} (h : a' ≠ a) (e : sP S c' a' k' = v) : sP (uP S c a k w) c' a' k' = v := by rw [sP_uP, if_neg (fun z => h z.2.1)]; exact e
theorem sP_nc {S : jS} {c a k c' a' k' : Nat} {v w : Option Nat} (h : c' ≠ c) (e : sP S c' a' k' = v) : sP (uP S c a k w) c' a' k' = v := by rw [sP_uP, if_neg (fun z => h z.1)]; exact e
end
section
/-! the judgement J: a method's walk over the memory, any machine below -/
def jK (g : jG) (U : State) : Prop := va_K (g.1, g.2.1) vwCl (jTys g) U ∧ va_AO RX3 U ∧ va_AO RX4 U ∧ va_AO RX7 U
theorem jK.moved {g : jG} {u U : State} (hvm : u.vm.Alike U.vm) (h : jK g u) : jK g U := ⟨va_K.moved hvm h.1, va_AO.moved hvm h.2.1, va_AO.moved hvm h.2.2.1, va_AO.moved hvm h.2.2.2⟩
def jH (g : jG) (me : jM) (p : Program) (s : State) (m : MethodId) (args : Array Value) (meth : Method) (c : Code) : Prop :=
  p.tables.exec = Jvm.exec ∧ c.code = me.2.1 ∧ meth.sig.returnType = me.2.2.2 ∧ c.maxLocals = me.2.2.1 ∧ meth.locks = false ∧ meth.name = me.1.name ∧ s.vm.findClass me.1.cls = some m.cls ∧ (∀ w ∈ T0, w.before args s = true) ∧ jK g s
def jV (g : jG) (A : Nat → Prop) (s : State) (S : jS) (H : Heap) (locs : List Loc) : Prop :=
  va_P (g.1, g.2.1) vwCl (jW g S) H ∧ va_D A (jW g S) ∧ va_S A s.heap H locs ∧ ∀ q, s.heap.size ≤ q → A q
def jQc (g : jG) (A : Nat → Prop) (Q : Option Value → jS → Prop) : Array Value → State → Outcome → State → Prop := fun _ st oc t =>
  (∃ (r : Option Value) (S : jS), oc = .returned r ∧ Q r S ∧ va_P (g.1, g.2.1) vwCl (jW g S) t.heap ∧ jK g t ∧ va_D A (jW g S)) ∧ va_F A st t
def jR (h mc ms : Nat) : Room := { frames := h, cells := mc, slots := ms, locals := 36 * h }
def J (l : Launch) (g : jG) (me : jM) (h mc ms : Nat) (Q : Option Value → jS → Prop) (pc : Nat) (lv : List (Nat × Value)) (st : List Value) (S : jS) (nc ns : Nat) : Prop :=
  ∀ (A : Nat → Prop) (p : Program) (e : Env) (s : State) (m : MethodId) (args : Array Value) (below : List Frame) (meth : Method) (c : Code) (H : Heap) (locs : List Loc) (ls : Array Slot),
    jH g me p s m args meth c → jV g A s S H locs → lv_has ls me.2.2.1 lv → W p l e (jR h mc ms) s m args below meth c H locs nc ns (MQ below (jQc g A Q) args s mc ms A) (F0 m pc ls st)
theorem mem_lookup {i : Nat} {v : Value} : ∀ {l : List (Nat × Value)}, l.lookup i = some v → (i, v) ∈ l
  | [], h => by cases h
  | (j, w) :: t, h => by
    rw [List.lookup_cons] at h
    by_cases e : i = j
    · subst e
      rw [beq_self_eq_true] at h
      cases h
      exact List.mem_cons_self
    · rw [show (i == j) = false from by simp [e]] at h
      exact List.mem_cons_of_mem _ (mem_lookup h)
theorem lv_lk {ls : Array Slot} {nL : Nat} {lv : List (Nat × Value)} (h : lv_has ls nL lv) {i : Nat} {v : Value} (hl : lv.lookup i = some v) : ls[i]? = some (.val v) := h.2.2 (i, v) (mem_lookup hl)
abbrev st1 (lv : List (Nat × Value)) (i : Nat) (v : Value) : List (Nat × Value) := (i, v) :: lv.filter (fun q => !(q.1 == i) && !(q.1 + 1 == i && q.2.category == 2))
abbrev st2 (lv : List (Nat × Value)) (i : Nat) (v : Value) : List (Nat × Value) := (i, v) :: lv.filter (fun q => !(q.1 == i) && (!(q.1 == i + 1) && !(q.1 + 1 == i && q.2.category == 2)))
section JL
variable {l : Launch} {g : jG} {me : jM} {hgt mc ms : Nat} {Q : Option Value → jS → Prop} {pc : Nat} {lv : List (Nat × Value)} {rest : List Value} {S : jS} {nc ns : Nat}

theorem J_iconst {n : Int} {v : Int32} (hdg : decode me.2.1 pc = .ok (.iconst n, 1)) (hv : Int32.ofInt n = v) (k : J l g me hgt mc ms Q (pc + 1) lv (.int v :: rest) S nc ns) : J l g me hgt mc ms Q pc lv (rest) S nc ns := fun zA zp ze zs zm za zb zt zc zH zo zl zh zv zw => lv_iconst zh.1 zh.2.1 hdg hv (k zA zp ze zs zm za zb zt zc zH zo zl zh zv zw)
theorem J_bipush {n : Int} {v : Int32} (hdg : decode me.2.1 pc = .ok (.bipush n, 2)) (hv : (Int8.ofInt n).toInt32 = v) (k : J l g me hgt mc ms Q (pc + 2) lv (.int v :: rest) S nc ns) : J l g me hgt mc ms Q pc lv (rest) S nc ns := fun zA zp ze zs zm za zb zt zc zH zo zl zh zv zw => lv_bipush zh.1 zh.2.1 hdg hv (k zA zp ze zs zm za zb zt zc zH zo zl zh zv zw)
theorem J_sipush {n : Int} {v : Int32} (hdg : decode me.2.1 pc = .ok (.sipush n, 3)) (hv : (Int16.ofInt n).toInt32 = v) (k : J l g me hgt mc ms Q (pc + 3) lv (.int v :: rest) S nc ns) : J l g me hgt mc ms Q pc lv (rest) S nc ns := fun zA zp ze zs zm za zb zt zc zH zo zl zh zv zw => lv_sipush zh.1 zh.2.1 hdg hv (k zA zp ze zs zm za zb zt zc zH zo zl zh zv zw)
theorem J_lconst {n : Fin 2} {v : Int64} (hdg : decode me.2.1 pc = .ok (.lconst n, 1)) (hv : Int64.ofNat (n : Nat) = v) (k : J l g me hgt mc ms Q (pc + 1) lv (.long v :: rest) S nc ns) : J l g me hgt mc ms Q pc lv (rest) S nc ns := fun zA zp ze zs zm za zb zt zc zH zo zl zh zv zw => lv_lconst zh.1 zh.2.1 hdg hv (k zA zp ze zs zm za zb zt zc zH zo zl zh zv zw)
theorem J_iadd {x y : Int32} (hdg : decode me.2.1 pc = .ok (.iadd, 1)) (k : J l g me hgt mc ms Q (pc + 1) lv (.int (x + y) :: rest) S nc ns) : J l g me hgt mc ms Q pc lv (.int y :: .int x :: rest) S nc ns := fun zA zp ze zs zm za zb zt zc zH zo zl zh zv zw => lv_iadd zh.1 zh.2.1 hdg (k zA zp ze zs zm za zb zt zc zH zo zl zh zv zw)
theorem J_isub {x y : Int32} (hdg : decode me.2.1 pc = .ok (.isub, 1)) (k : J l g me hgt mc ms Q (pc + 1) lv (.int (x - y) :: rest) S nc ns) : J l g me hgt mc ms Q pc lv (.int y :: .int x :: rest) S nc ns := fun zA zp ze zs zm za zb zt zc zH zo zl zh zv zw => lv_isub zh.1 zh.2.1 hdg (k zA zp ze zs zm za zb zt zc zH zo zl zh zv zw)
theorem J_imul {x y : Int32} (hdg : decode me.2.1 pc = .ok (.imul, 1)) (k : J l g me hgt mc ms Q (pc + 1) lv (.int (x * y) :: rest) S nc ns) : J l g me hgt mc ms Q pc lv (.int y :: .int x :: rest) S nc ns := fun zA zp ze zs zm za zb zt zc zH zo zl zh zv zw => lv_imul zh.1 zh.2.1 hdg (k zA zp ze zs zm za zb zt zc zH zo zl zh zv zw)
theorem J_iand {x y : Int32} (hdg : decode me.2.1 pc = .ok (.iand, 1)) (k : J l g me hgt mc ms Q (pc + 1) lv (.int (x &&& y) :: rest) S nc ns) : J l g me hgt mc ms Q pc lv (.int y :: .int x :: rest) S nc ns := fun zA zp ze zs zm za zb zt zc zH zo zl zh zv zw => lv_iand zh.1 zh.2.1 hdg (k zA zp ze zs zm za zb zt zc zH zo zl zh zv zw)
theorem J_ior {x y : Int32} (hdg : decode me.2.1 pc = .ok (.ior, 1)) (k : J l g me hgt mc ms Q (pc + 1) lv (.int (x ||| y) :: rest) S nc ns) : J l g me hgt mc ms Q pc lv (.int y :: .int x :: rest) S nc ns := fun zA zp ze zs zm za zb zt zc zH zo zl zh zv zw => lv_ior zh.1 zh.2.1 hdg (k zA zp ze zs zm za zb zt zc zH zo zl zh zv zw)
theorem J_ixor {x y : Int32} (hdg : decode me.2.1 pc = .ok (.ixor, 1)) (k : J l g me hgt mc ms Q (pc + 1) lv (.int (x ^^^ y) :: rest) S nc ns) : J l g me hgt mc ms Q pc lv (.int y :: .int x :: rest) S nc ns := fun zA zp ze zs zm za zb zt zc zH zo zl zh zv zw => lv_ixor zh.1 zh.2.1 hdg (k zA zp ze zs zm za zb zt zc zH zo zl zh zv zw)
theorem J_idiv {x y : Int32} (hdg : decode me.2.1 pc = .ok (.idiv, 1)) (hne : ¬ y = 0) (k : J l g me hgt mc ms Q (pc + 1) lv (.int (x / y) :: rest) S nc ns) : J l g me hgt mc ms Q pc lv (.int y :: .int x :: rest) S nc ns := fun zA zp ze zs zm za zb zt zc zH zo zl zh zv zw => lv_idiv zh.1 zh.2.1 hdg hne (k zA zp ze zs zm za zb zt zc zH zo zl zh zv zw)
theorem J_irem {x y : Int32} (hdg : decode me.2.1 pc = .ok (.irem, 1)) (hne : ¬ y = 0) (k : J l g me hgt mc ms Q (pc + 1) lv (.int (x - x / y * y) :: rest) S nc ns) : J l g me hgt mc ms Q pc lv (.int y :: .int x :: rest) S nc ns := fun zA zp ze zs zm za zb zt zc zH zo zl zh zv zw => lv_irem zh.1 zh.2.1 hdg hne (k zA zp ze zs zm za zb zt zc zH zo zl zh zv zw)
theorem J_ineg {x : Int32} (hdg : decode me.2.1 pc = .ok (.ineg, 1)) (k : J l g me hgt mc ms Q (pc + 1) lv (.int (-x) :: rest) S nc ns) : J l g me hgt mc ms Q pc lv (.int x :: rest) S nc ns := fun zA zp ze zs zm za zb zt zc zH zo zl zh zv zw => lv_ineg zh.1 zh.2.1 hdg (k zA zp ze zs zm za zb zt zc zH zo zl zh zv zw)
theorem J_ladd {x y : Int64} (hdg : decode me.2.1 pc = .ok (.ladd, 1)) (k : J l g me hgt mc ms Q (pc + 1) lv (.long (x + y) :: rest) S nc ns) : J l g me hgt mc ms Q pc lv (.long y :: .long x :: rest) S nc ns := fun zA zp ze zs zm za zb zt zc zH zo zl zh zv zw => lv_ladd zh.1 zh.2.1 hdg (k zA zp ze zs zm za zb zt zc zH zo zl zh zv zw)
theorem J_lsub {x y : Int64} (hdg : decode me.2.1 pc = .ok (.lsub, 1)) (k : J l g me hgt mc ms Q (pc + 1) lv (.long (x - y) :: rest) S nc ns) : J l g me hgt mc ms Q pc lv (.long y :: .long x :: rest) S nc ns := fun zA zp ze zs zm za zb zt zc zH zo zl zh zv zw => lv_lsub zh.1 zh.2.1 hdg (k zA zp ze zs zm za zb zt zc zH zo zl zh zv zw)
theorem J_land {x y : Int64} (hdg : decode me.2.1 pc = .ok (.land, 1)) (k : J l g me hgt mc ms Q (pc + 1) lv (.long (x &&& y) :: rest) S nc ns) : J l g me hgt mc ms Q pc lv (.long y :: .long x :: rest) S nc ns := fun zA zp ze zs zm za zb zt zc zH zo zl zh zv zw => lv_land zh.1 zh.2.1 hdg (k zA zp ze zs zm za zb zt zc zH zo zl zh zv zw)
theorem J_lor {x y : Int64} (hdg : decode me.2.1 pc = .ok (.lor, 1)) (k : J l g me hgt mc ms Q (pc + 1) lv (.long (x ||| y) :: rest) S nc ns) : J l g me hgt mc ms Q pc lv (.long y :: .long x :: rest) S nc ns := fun zA zp ze zs zm za zb zt zc zH zo zl zh zv zw => lv_lor zh.1 zh.2.1 hdg (k zA zp ze zs zm za zb zt zc zH zo zl zh zv zw)
theorem J_lxor {x y : Int64} (hdg : decode me.2.1 pc = .ok (.lxor, 1)) (k : J l g me hgt mc ms Q (pc + 1) lv (.long (x ^^^ y) :: rest) S nc ns) : J l g me hgt mc ms Q pc lv (.long y :: .long x :: rest) S nc ns := fun zA zp ze zs zm za zb zt zc zH zo zl zh zv zw => lv_lxor zh.1 zh.2.1 hdg (k zA zp ze zs zm za zb zt zc zH zo zl zh zv zw)
theorem J_lneg {x : Int64} (hdg : decode me.2.1 pc = .ok (.lneg, 1)) (k : J l g me hgt mc ms Q (pc + 1) lv (.long (-x) :: rest) S nc ns) : J l g me hgt mc ms Q pc lv (.long x :: rest) S nc ns := fun zA zp ze zs zm za zb zt zc zH zo zl zh zv zw => lv_lneg zh.1 zh.2.1 hdg (k zA zp ze zs zm za zb zt zc zH zo zl zh zv zw)
theorem J_ishl {x y : Int32} (hdg : decode me.2.1 pc = .ok (.ishl, 1)) (k : J l g me hgt mc ms Q (pc + 1) lv (.int (x <<< (y &&& 31)) :: rest) S nc ns) : J l g me hgt mc ms Q pc lv (.int y :: .int x :: rest) S nc ns := fun zA zp ze zs zm za zb zt zc zH zo zl zh zv zw => lv_ishl zh.1 zh.2.1 hdg (k zA zp ze zs zm za zb zt zc zH zo zl zh zv zw)
theorem J_ishr {x y : Int32} (hdg : decode me.2.1 pc = .ok (.ishr, 1)) (k : J l g me hgt mc ms Q (pc + 1) lv (.int (x >>> (y &&& 31)) :: rest) S nc ns) : J l g me hgt mc ms Q pc lv (.int y :: .int x :: rest) S nc ns := fun zA zp ze zs zm za zb zt zc zH zo zl zh zv zw => lv_ishr zh.1 zh.2.1 hdg (k zA zp ze zs zm za zb zt zc zH zo zl zh zv zw)
theorem J_i2l {x : Int32} {v : Int64} (hdg : decode me.2.1 pc = .ok (.i2l, 1)) (hv : x.toInt64 = v) (k : J l g me hgt mc ms Q (pc + 1) lv (.long v :: rest) S nc ns) : J l g me hgt mc ms Q pc lv (.int x :: rest) S nc ns := fun zA zp ze zs zm za zb zt zc zH zo zl zh zv zw => lv_i2l zh.1 zh.2.1 hdg hv (k zA zp ze zs zm za zb zt zc zH zo zl zh zv zw)
theorem J_l2i {x : Int64} {v : Int32} (hdg : decode me.2.1 pc = .ok (.l2i, 1)) (hv : x.toInt32 = v) (k : J l g me hgt mc ms Q (pc + 1) lv (.int v :: rest) S nc ns) : J l g me hgt mc ms Q pc lv (.long x :: rest) S nc ns := fun zA zp ze zs zm za zb zt zc zH zo zl zh zv zw => lv_l2i zh.1 zh.2.1 hdg hv (k zA zp ze zs zm za zb zt zc zH zo zl zh zv zw)
theorem J_iushr {x y v : Int32} (hdg : decode me.2.1 pc = .ok (.iushr, 1)) (hv : (x.toUInt32 >>> (y.toUInt32 &&& Int32.toUInt32 31)).toInt32 = v) (k : J l g me hgt mc ms Q (pc + 1) lv (.int v :: rest) S nc ns) : J l g me hgt mc ms Q pc lv (.int y :: .int x :: rest) S nc ns := fun zA zp ze zs zm za zb zt zc zH zo zl zh zv zw => lv_iushr zh.1 zh.2.1 hdg hv (k zA zp ze zs zm za zb zt zc zH zo zl zh zv zw)
theorem J_lushr {x v : Int64} {y : Int32} (hdg : decode me.2.1 pc = .ok (.lushr, 1)) (hv : (x.toUInt64 >>> (y.toInt64.toUInt64 &&& Int64.toUInt64 63)).toInt64 = v) (k : J l g me hgt mc ms Q (pc + 1) lv (.long v :: rest) S nc ns) : J l g me hgt mc ms Q pc lv (.int y :: .long x :: rest) S nc ns := fun zA zp ze zs zm za zb zt zc zH zo zl zh zv zw => lv_lushr zh.1 zh.2.1 hdg hv (k zA zp ze zs zm za zb zt zc zH zo zl zh zv zw)
theorem J_lshl {x v : Int64} {y : Int32} (hdg : decode me.2.1 pc = .ok (.lshl, 1)) (hv : x <<< (y.toInt64 &&& 63) = v) (k : J l g me hgt mc ms Q (pc + 1) lv (.long v :: rest) S nc ns) : J l g me hgt mc ms Q pc lv (.int y :: .long x :: rest) S nc ns := fun zA zp ze zs zm za zb zt zc zH zo zl zh zv zw => lv_lshl zh.1 zh.2.1 hdg hv (k zA zp ze zs zm za zb zt zc zH zo zl zh zv zw)
theorem J_lshr {x v : Int64} {y : Int32} (hdg : decode me.2.1 pc = .ok (.lshr, 1)) (hv : x >>> (y.toInt64 &&& 63) = v) (k : J l g me hgt mc ms Q (pc + 1) lv (.long v :: rest) S nc ns) : J l g me hgt mc ms Q pc lv (.int y :: .long x :: rest) S nc ns := fun zA zp ze zs zm za zb zt zc zH zo zl zh zv zw => lv_lshr zh.1 zh.2.1 hdg hv (k zA zp ze zs zm za zb zt zc zH zo zl zh zv zw)
theorem J_dup {va : Value} (hdg : decode me.2.1 pc = .ok (.dup, 1)) (hva : va.category = 1) (k : J l g me hgt mc ms Q (pc + 1) lv (va :: va :: rest) S nc ns) : J l g me hgt mc ms Q pc lv (va :: rest) S nc ns := fun zA zp ze zs zm za zb zt zc zH zo zl zh zv zw => lv_dup zh.1 zh.2.1 hdg hva (k zA zp ze zs zm za zb zt zc zH zo zl zh zv zw)
theorem J_pop {va : Value} (hdg : decode me.2.1 pc = .ok (.pop, 1)) (hva : va.category = 1) (k : J l g me hgt mc ms Q (pc + 1) lv (rest) S nc ns) : J l g me hgt mc ms Q pc lv (va :: rest) S nc ns := fun zA zp ze zs zm za zb zt zc zH zo zl zh zv zw => lv_pop zh.1 zh.2.1 hdg hva (k zA zp ze zs zm za zb zt zc zH zo zl zh zv zw)
theorem J_dup_x1 {va vb : Value} (hdg : decode me.2.1 pc = .ok (.dup_x1, 1)) (hva : va.category = 1) (hvb : vb.category = 1) (k : J l g me hgt mc ms Q (pc + 1) lv (va :: vb :: va :: rest) S nc ns) : J l g me hgt mc ms Q pc lv (va :: vb :: rest) S nc ns := fun zA zp ze zs zm za zb zt zc zH zo zl zh zv zw => lv_dup_x1 zh.1 zh.2.1 hdg hva hvb (k zA zp ze zs zm za zb zt zc zH zo zl zh zv zw)
theorem J_dup2_11 {va vb : Value} (hdg : decode me.2.1 pc = .ok (.dup2, 1)) (hva : va.category = 1) (hvb : vb.category = 1) (k : J l g me hgt mc ms Q (pc + 1) lv (va :: vb :: va :: vb :: rest) S nc ns) : J l g me hgt mc ms Q pc lv (va :: vb :: rest) S nc ns := fun zA zp ze zs zm za zb zt zc zH zo zl zh zv zw => lv_dup2_11 zh.1 zh.2.1 hdg hva hvb (k zA zp ze zs zm za zb zt zc zH zo zl zh zv zw)
theorem J_if_eq {x : Int32} {off : Int} {tgt : Nat} (hdg : decode me.2.1 pc = .ok (.ifCond .eq off, 3)) (ht : (pc : Int) + off = (tgt : Int)) (kt : x = 0 → J l g me hgt mc ms Q tgt lv rest S nc ns) (kf : ¬ x = 0 → J l g me hgt mc ms Q (pc + 3) lv rest S nc ns) : J l g me hgt mc ms Q pc lv (.int x :: rest) S nc ns := fun zA zp ze zs zm za zb zt zc zH zo zl zh zv zw => lv_if_eq zh.1 zh.2.1 hdg ht (fun z => kt z zA zp ze zs zm za zb zt zc zH zo zl zh zv zw) (fun z => kf z zA zp ze zs zm za zb zt zc zH zo zl zh zv zw)
theorem J_if_ne {x : Int32} {off : Int} {tgt : Nat} (hdg : decode me.2.1 pc = .ok (.ifCond .ne off, 3)) (ht : (pc : Int) + off = (tgt : Int)) (kt : ¬ x = 0 → J l g me hgt mc ms Q tgt lv rest S nc ns) (kf : x = 0 → J l g me hgt mc ms Q (pc + 3) lv rest S nc ns) : J l g me hgt mc ms Q pc lv (.int x :: rest) S nc ns := fun zA zp ze zs zm za zb zt zc zH zo zl zh zv zw => lv_if_ne zh.1 zh.2.1 hdg ht (fun z => kt z zA zp ze zs zm za zb zt zc zH zo zl zh zv zw) (fun z => kf z zA zp ze zs zm za zb zt zc zH zo zl zh zv zw)
theorem J_if_lt {x : Int32} {off : Int} {tgt : Nat} (hdg : decode me.2.1 pc = .ok (.ifCond .lt off, 3)) (ht : (pc : Int) + off = (tgt : Int)) (kt : x < 0 → J l g me hgt mc ms Q tgt lv rest S nc ns) (kf : ¬ x < 0 → J l g me hgt mc ms Q (pc + 3) lv rest S nc ns) : J l g me hgt mc ms Q pc lv (.int x :: rest) S nc ns := fun zA zp ze zs zm za zb zt zc zH zo zl zh zv zw => lv_if_lt zh.1 zh.2.1 hdg ht (fun z => kt z zA zp ze zs zm za zb zt zc zH zo zl zh zv zw) (fun z => kf z zA zp ze zs zm za zb zt zc zH zo zl zh zv zw)
theorem J_if_ge {x : Int32} {off : Int} {tgt : Nat} (hdg : decode me.2.1 pc = .ok (.ifCond .ge off, 3)) (ht : (pc : Int) + off = (tgt : Int)) (kt : 0 ≤ x → J l g me hgt mc ms Q tgt lv rest S nc ns) (kf : ¬ 0 ≤ x → J l g me hgt mc ms Q (pc + 3) lv rest S nc ns) : J l g me hgt mc ms Q pc lv (.int x :: rest) S nc ns := fun zA zp ze zs zm za zb zt zc zH zo zl zh zv zw => lv_if_ge zh.1 zh.2.1 hdg ht (fun z => kt z zA zp ze zs zm za zb zt zc zH zo zl zh zv zw) (fun z => kf z zA zp ze zs zm za zb zt zc zH zo zl zh zv zw)
theorem J_if_gt {x : Int32} {off : Int} {tgt : Nat} (hdg : decode me.2.1 pc = .ok (.ifCond .gt off, 3)) (ht : (pc : Int) + off = (tgt : Int)) (kt : 0 < x → J l g me hgt mc ms Q tgt lv rest S nc ns) (kf : ¬ 0 < x → J l g me hgt mc ms Q (pc + 3) lv rest S nc ns) : J l g me hgt mc ms Q pc lv (.int x :: rest) S nc ns := fun zA zp ze zs zm za zb zt zc zH zo zl zh zv zw => lv_if_gt zh.1 zh.2.1 hdg ht (fun z => kt z zA zp ze zs zm za zb zt zc zH zo zl zh zv zw) (fun z => kf z zA zp ze zs zm za zb zt zc zH zo zl zh zv zw)
theorem J_if_le {x : Int32} {off : Int} {tgt : Nat} (hdg : decode me.2.1 pc = .ok (.ifCond .le off, 3)) (ht : (pc : Int) + off = (tgt : Int)) (kt : x ≤ 0 → J l g me hgt mc ms Q tgt lv rest S nc ns) (kf : ¬ x ≤ 0 → J l g me hgt mc ms Q (pc + 3) lv rest S nc ns) : J l g me hgt mc ms Q pc lv (.int x :: rest) S nc ns := fun zA zp ze zs zm za zb zt zc zH zo zl zh zv zw => lv_if_le zh.1 zh.2.1 hdg ht (fun z => kt z zA zp ze zs zm za zb zt zc zH zo zl zh zv zw) (fun z => kf z zA zp ze zs zm za zb zt zc zH zo zl zh zv zw)
theorem J_icmp_eq {x y : Int32} {off : Int} {tgt : Nat} (hdg : decode me.2.1 pc = .ok (.if_icmp .eq off, 3)) (ht : (pc : Int) + off = (tgt : Int)) (kt : x = y → J l g me hgt mc ms Q tgt lv rest S nc ns) (kf : ¬ x = y → J l g me hgt mc ms Q (pc + 3) lv rest S nc ns) : J l g me hgt mc ms Q pc lv (.int y :: .int x :: rest) S nc ns := fun zA zp ze zs zm za zb zt zc zH zo zl zh zv zw => lv_icmp_eq zh.1 zh.2.1 hdg ht (fun z => kt z zA zp ze zs zm za zb zt zc zH zo zl zh zv zw) (fun z => kf z zA zp ze zs zm za zb zt zc zH zo zl zh zv zw)
theorem J_icmp_ne {x y : Int32} {off : Int} {tgt : Nat} (hdg : decode me.2.1 pc = .ok (.if_icmp .ne off, 3)) (ht : (pc : Int) + off = (tgt : Int)) (kt : ¬ x = y → J l g me hgt mc ms Q tgt lv rest S nc ns) (kf : x = y → J l g me hgt mc ms Q (pc + 3) lv rest S nc ns) : J l g me hgt mc ms Q pc lv (.int y :: .int x :: rest) S nc ns := fun zA zp ze zs zm za zb zt zc zH zo zl zh zv zw => lv_icmp_ne zh.1 zh.2.1 hdg ht (fun z => kt z zA zp ze zs zm za zb zt zc zH zo zl zh zv zw) (fun z => kf z zA zp ze zs zm za zb zt zc zH zo zl zh zv zw)
theorem J_icmp_lt {x y : Int32} {off : Int} {tgt : Nat} (hdg : decode me.2.1 pc = .ok (.if_icmp .lt off, 3)) (ht : (pc : Int) + off = (tgt : Int)) (kt : x < y → J l g me hgt mc ms Q tgt lv rest S nc ns) (kf : ¬ x < y → J l g me hgt mc ms Q (pc + 3) lv rest S nc ns) : J l g me hgt mc ms Q pc lv (.int y :: .int x :: rest) S nc ns := fun zA zp ze zs zm za zb zt zc zH zo zl zh zv zw => lv_icmp_lt zh.1 zh.2.1 hdg ht (fun z => kt z zA zp ze zs zm za zb zt zc zH zo zl zh zv zw) (fun z => kf z zA zp ze zs zm za zb zt zc zH zo zl zh zv zw)
theorem J_icmp_ge {x y : Int32} {off : Int} {tgt : Nat} (hdg : decode me.2.1 pc = .ok (.if_icmp .ge off, 3)) (ht : (pc : Int) + off = (tgt : Int)) (kt : y ≤ x → J l g me hgt mc ms Q tgt lv rest S nc ns) (kf : ¬ y ≤ x → J l g me hgt mc ms Q (pc + 3) lv rest S nc ns) : J l g me hgt mc ms Q pc lv (.int y :: .int x :: rest) S nc ns := fun zA zp ze zs zm za zb zt zc zH zo zl zh zv zw => lv_icmp_ge zh.1 zh.2.1 hdg ht (fun z => kt z zA zp ze zs zm za zb zt zc zH zo zl zh zv zw) (fun z => kf z zA zp ze zs zm za zb zt zc zH zo zl zh zv zw)
theorem J_icmp_gt {x y : Int32} {off : Int} {tgt : Nat} (hdg : decode me.2.1 pc = .ok (.if_icmp .gt off, 3)) (ht : (pc : Int) + off = (tgt : Int)) (kt : y < x → J l g me hgt mc ms Q tgt lv rest S nc ns) (kf : ¬ y < x → J l g me hgt mc ms Q (pc + 3) lv rest S nc ns) : J l g me hgt mc ms Q pc lv (.int y :: .int x :: rest) S nc ns := fun zA zp ze zs zm za zb zt zc zH zo zl zh zv zw => lv_icmp_gt zh.1 zh.2.1 hdg ht (fun z => kt z zA zp ze zs zm za zb zt zc zH zo zl zh zv zw) (fun z => kf z zA zp ze zs zm za zb zt zc zH zo zl zh zv zw)
theorem J_icmp_le {x y : Int32} {off : Int} {tgt : Nat} (hdg : decode me.2.1 pc = .ok (.if_icmp .le off, 3)) (ht : (pc : Int) + off = (tgt : Int)) (kt : x ≤ y → J l g me hgt mc ms Q tgt lv rest S nc ns) (kf : ¬ x ≤ y → J l g me hgt mc ms Q (pc + 3) lv rest S nc ns) : J l g me hgt mc ms Q pc lv (.int y :: .int x :: rest) S nc ns := fun zA zp ze zs zm za zb zt zc zH zo zl zh zv zw => lv_icmp_le zh.1 zh.2.1 hdg ht (fun z => kt z zA zp ze zs zm za zb zt zc zH zo zl zh zv zw) (fun z => kf z zA zp ze zs zm za zb zt zc zH zo zl zh zv zw)
theorem J_goto {off : Int} {tgt : Nat} (hdg : decode me.2.1 pc = .ok (.goto off, 3)) (ht : (pc : Int) + off = (tgt : Int)) (k : J l g me hgt mc ms Q tgt lv rest S nc ns) : J l g me hgt mc ms Q pc lv rest S nc ns := fun zA zp ze zs zm za zb zt zc zH zo zl zh zv zw => lv_goto zh.1 zh.2.1 hdg ht (k zA zp ze zs zm za zb zt zc zH zo zl zh zv zw)
theorem J_ifnull {x : Nat} {off : Int} (hdg : decode me.2.1 pc = .ok (.ifnull off, 3)) (k : J l g me hgt mc ms Q (pc + 3) lv rest S nc ns) : J l g me hgt mc ms Q pc lv (.ref x :: rest) S nc ns := fun zA zp ze zs zm za zb zt zc zH zo zl zh zv zw => lv_ifnull zh.1 zh.2.1 hdg (k zA zp ze zs zm za zb zt zc zH zo zl zh zv zw)
theorem J_ifnonnull {x : Nat} {off : Int} {tgt : Nat} (hdg : decode me.2.1 pc = .ok (.ifnonnull off, 3)) (ht : (pc : Int) + off = (tgt : Int)) (k : J l g me hgt mc ms Q tgt lv rest S nc ns) : J l g me hgt mc ms Q pc lv (.ref x :: rest) S nc ns := fun zA zp ze zs zm za zb zt zc zH zo zl zh zv zw => lv_ifnonnull zh.1 zh.2.1 hdg ht (k zA zp ze zs zm za zb zt zc zH zo zl zh zv zw)
theorem J_ifnullN {off : Int} {tgt : Nat} (hdg : decode me.2.1 pc = .ok (.ifnull off, 3)) (ht : (pc : Int) + off = (tgt : Int)) (k : J l g me hgt mc ms Q tgt lv rest S nc ns) : J l g me hgt mc ms Q pc lv (.null :: rest) S nc ns := fun zA zp ze zs zm za zb zt zc zH zo zl zh zv zw => lv_ifnullN zh.1 zh.2.1 hdg ht (k zA zp ze zs zm za zb zt zc zH zo zl zh zv zw)
theorem J_ifnonnullN {off : Int} (hdg : decode me.2.1 pc = .ok (.ifnonnull off, 3)) (k : J l g me hgt mc ms Q (pc + 3) lv rest S nc ns) : J l g me hgt mc ms Q pc lv (.null :: rest) S nc ns := fun zA zp ze zs zm za zb zt zc zH zo zl zh zv zw => lv_ifnonnullN zh.1 zh.2.1 hdg (k zA zp ze zs zm za zb zt zc zH zo zl zh zv zw)
theorem J_null (hdg : decode me.2.1 pc = .ok (.aconst_null, 1)) (k : J l g me hgt mc ms Q (pc + 1) lv (.null :: rest) S nc ns) : J l g me hgt mc ms Q pc lv rest S nc ns := fun zA zp ze zs zm za zb zt zc zH zo zl zh zv zw => lv_null zh.1 zh.2.1 hdg (k zA zp ze zs zm za zb zt zc zH zo zl zh zv zw)
theorem J_tableIn {dflt lo hi : Int} {offs : Array Int} {len : Nat} {x : Int32} {off : Int} {tgt : Nat} (hdg : decode me.2.1 pc = .ok (.tableswitch dflt lo hi offs, len)) (h1 : ¬ x.toInt < lo) (h2 : ¬ hi < x.toInt) (ho : offs[(x.toInt - lo).toNat]? = some off) (ht : (pc : Int) + off = (tgt : Int)) (k : J l g me hgt mc ms Q tgt lv rest S nc ns) : J l g me hgt mc ms Q pc lv (.int x :: rest) S nc ns := fun zA zp ze zs zm za zb zt zc zH zo zl zh zv zw => lv_tableIn zh.1 zh.2.1 hdg h1 h2 ho ht (k zA zp ze zs zm za zb zt zc zH zo zl zh zv zw)
theorem J_tableOut {dflt lo hi : Int} {offs : Array Int} {len : Nat} {x : Int32} {tgt : Nat} (hdg : decode me.2.1 pc = .ok (.tableswitch dflt lo hi offs, len)) (h : x.toInt < lo ∨ hi < x.toInt) (ht : (pc : Int) + dflt = (tgt : Int)) (k : J l g me hgt mc ms Q tgt lv rest S nc ns) : J l g me hgt mc ms Q pc lv (.int x :: rest) S nc ns := fun zA zp ze zs zm za zb zt zc zH zo zl zh zv zw => lv_tableOut zh.1 zh.2.1 hdg h ht (k zA zp ze zs zm za zb zt zc zH zo zl zh zv zw)

theorem J_iload_n {k : Fin 4} {i : Nat} {x : Int32} (hdg : decode me.2.1 pc = .ok (.iload_n k, 1)) (hi : (k : Nat) = i) (hlv : lv.lookup i = some (.int x)) (k : J l g me hgt mc ms Q (pc + 1) lv (.int x :: rest) S nc ns) : J l g me hgt mc ms Q pc lv rest S nc ns := fun zA zp ze zs zm za zb zt zc zH zo zl zh zv zw => lv_iload_n zh.1 zh.2.1 hdg hi (lv_lk zw hlv) (k zA zp ze zs zm za zb zt zc zH zo zl zh zv zw)
theorem J_iload {i : Nat} {x : Int32} (hdg : decode me.2.1 pc = .ok (.iload i, 2)) (hlv : lv.lookup i = some (.int x)) (k : J l g me hgt mc ms Q (pc + 2) lv (.int x :: rest) S nc ns) : J l g me hgt mc ms Q pc lv rest S nc ns := fun zA zp ze zs zm za zb zt zc zH zo zl zh zv zw => lv_iload zh.1 zh.2.1 hdg (lv_lk zw hlv) (k zA zp ze zs zm za zb zt zc zH zo zl zh zv zw)
theorem J_istore_n {k : Fin 4} {i : Nat} {x : Int32} (hdg : decode me.2.1 pc = .ok (.istore_n k, 1)) (hi : (k : Nat) = i) (hn : i < me.2.2.1) (k : J l g me hgt mc ms Q (pc + 1) (st1 lv i (.int x)) rest S nc ns) : J l g me hgt mc ms Q pc lv (.int x :: rest) S nc ns := fun zA zp ze zs zm za zb zt zc zH zo zl zh zv zw => lv_istore_n zh.1 zh.2.1 hdg hi zw hn rfl (fun zl' zw' => k zA zp ze zs zm za zb zt zc zH zo zl' zh zv zw')
theorem J_istore {i : Nat} {x : Int32} (hdg : decode me.2.1 pc = .ok (.istore i, 2)) (hn : i < me.2.2.1) (k : J l g me hgt mc ms Q (pc + 2) (st1 lv i (.int x)) rest S nc ns) : J l g me hgt mc ms Q pc lv (.int x :: rest) S nc ns := fun zA zp ze zs zm za zb zt zc zH zo zl zh zv zw => lv_istore zh.1 zh.2.1 hdg zw hn rfl (fun zl' zw' => k zA zp ze zs zm za zb zt zc zH zo zl' zh zv zw')
theorem J_lload_n {k : Fin 4} {i : Nat} {x : Int64} (hdg : decode me.2.1 pc = .ok (.lload_n k, 1)) (hi : (k : Nat) = i) (hlv : lv.lookup i = some (.long x)) (k : J l g me hgt mc ms Q (pc + 1) lv (.long x :: rest) S nc ns) : J l g me hgt mc ms Q pc lv rest S nc ns := fun zA zp ze zs zm za zb zt zc zH zo zl zh zv zw => lv_lload_n zh.1 zh.2.1 hdg hi (lv_lk zw hlv) (k zA zp ze zs zm za zb zt zc zH zo zl zh zv zw)
theorem J_lload {i : Nat} {x : Int64} (hdg : decode me.2.1 pc = .ok (.lload i, 2)) (hlv : lv.lookup i = some (.long x)) (k : J l g me hgt mc ms Q (pc + 2) lv (.long x :: rest) S nc ns) : J l g me hgt mc ms Q pc lv rest S nc ns := fun zA zp ze zs zm za zb zt zc zH zo zl zh zv zw => lv_lload zh.1 zh.2.1 hdg (lv_lk zw hlv) (k zA zp ze zs zm za zb zt zc zH zo zl zh zv zw)
theorem J_lstore_n {k : Fin 4} {i : Nat} {x : Int64} (hdg : decode me.2.1 pc = .ok (.lstore_n k, 1)) (hi : (k : Nat) = i) (hn : i + 1 < me.2.2.1) (k : J l g me hgt mc ms Q (pc + 1) (st2 lv i (.long x)) rest S nc ns) : J l g me hgt mc ms Q pc lv (.long x :: rest) S nc ns := fun zA zp ze zs zm za zb zt zc zH zo zl zh zv zw => lv_lstore_n zh.1 zh.2.1 hdg hi zw hn rfl (fun zl' zw' => k zA zp ze zs zm za zb zt zc zH zo zl' zh zv zw')
theorem J_lstore {i : Nat} {x : Int64} (hdg : decode me.2.1 pc = .ok (.lstore i, 2)) (hn : i + 1 < me.2.2.1) (k : J l g me hgt mc ms Q (pc + 2) (st2 lv i (.long x)) rest S nc ns) : J l g me hgt mc ms Q pc lv (.long x :: rest) S nc ns := fun zA zp ze zs zm za zb zt zc zH zo zl zh zv zw => lv_lstore zh.1 zh.2.1 hdg zw hn rfl (fun zl' zw' => k zA zp ze zs zm za zb zt zc zH zo zl' zh zv zw')
theorem J_aload_n {k : Fin 4} {i : Nat} {x : Nat} (hdg : decode me.2.1 pc = .ok (.aload_n k, 1)) (hi : (k : Nat) = i) (hlv : lv.lookup i = some (.ref x)) (k : J l g me hgt mc ms Q (pc + 1) lv (.ref x :: rest) S nc ns) : J l g me hgt mc ms Q pc lv rest S nc ns := fun zA zp ze zs zm za zb zt zc zH zo zl zh zv zw => lv_aload_n zh.1 zh.2.1 hdg hi (lv_lk zw hlv) (k zA zp ze zs zm za zb zt zc zH zo zl zh zv zw)
theorem J_aload {i : Nat} {x : Nat} (hdg : decode me.2.1 pc = .ok (.aload i, 2)) (hlv : lv.lookup i = some (.ref x)) (k : J l g me hgt mc ms Q (pc + 2) lv (.ref x :: rest) S nc ns) : J l g me hgt mc ms Q pc lv rest S nc ns := fun zA zp ze zs zm za zb zt zc zH zo zl zh zv zw => lv_aload zh.1 zh.2.1 hdg (lv_lk zw hlv) (k zA zp ze zs zm za zb zt zc zH zo zl zh zv zw)
theorem J_astore_n {k : Fin 4} {i : Nat} {x : Nat} (hdg : decode me.2.1 pc = .ok (.astore_n k, 1)) (hi : (k : Nat) = i) (hn : i < me.2.2.1) (k : J l g me hgt mc ms Q (pc + 1) (st1 lv i (.ref x)) rest S nc ns) : J l g me hgt mc ms Q pc lv (.ref x :: rest) S nc ns := fun zA zp ze zs zm za zb zt zc zH zo zl zh zv zw => lv_astore_n zh.1 zh.2.1 hdg hi zw hn rfl (fun zl' zw' => k zA zp ze zs zm za zb zt zc zH zo zl' zh zv zw')
theorem J_astore {i : Nat} {x : Nat} (hdg : decode me.2.1 pc = .ok (.astore i, 2)) (hn : i < me.2.2.1) (k : J l g me hgt mc ms Q (pc + 2) (st1 lv i (.ref x)) rest S nc ns) : J l g me hgt mc ms Q pc lv (.ref x :: rest) S nc ns := fun zA zp ze zs zm za zb zt zc zH zo zl zh zv zw => lv_astore zh.1 zh.2.1 hdg zw hn rfl (fun zl' zw' => k zA zp ze zs zm za zb zt zc zH zo zl' zh zv zw')
theorem J_aload_nN {k : Fin 4} {i : Nat} (hdg : decode me.2.1 pc = .ok (.aload_n k, 1)) (hi : (k : Nat) = i) (hlv : lv.lookup i = some .null) (k : J l g me hgt mc ms Q (pc + 1) lv (.null :: rest) S nc ns) : J l g me hgt mc ms Q pc lv rest S nc ns := fun zA zp ze zs zm za zb zt zc zH zo zl zh zv zw => lv_aload_nN zh.1 zh.2.1 hdg hi (lv_lk zw hlv) (k zA zp ze zs zm za zb zt zc zH zo zl zh zv zw)
theorem J_aloadN {i : Nat} (hdg : decode me.2.1 pc = .ok (.aload i, 2)) (hlv : lv.lookup i = some .null) (k : J l g me hgt mc ms Q (pc + 2) lv (.null :: rest) S nc ns) : J l g me hgt mc ms Q pc lv rest S nc ns := fun zA zp ze zs zm za zb zt zc zH zo zl zh zv zw => lv_aloadN zh.1 zh.2.1 hdg (lv_lk zw hlv) (k zA zp ze zs zm za zb zt zc zH zo zl zh zv zw)
theorem J_astore_nN {k : Fin 4} {i : Nat} (hdg : decode me.2.1 pc = .ok (.astore_n k, 1)) (hi : (k : Nat) = i) (hn : i < me.2.2.1) (k : J l g me hgt mc ms Q (pc + 1) (st1 lv i .null) rest S nc ns) : J l g me hgt mc ms Q pc lv (.null :: rest) S nc ns := fun zA zp ze zs zm za zb zt zc zH zo zl zh zv zw => lv_astore_nN zh.1 zh.2.1 hdg hi zw hn rfl (fun zl' zw' => k zA zp ze zs zm za zb zt zc zH zo zl' zh zv zw')
theorem J_astoreN {i : Nat} (hdg : decode me.2.1 pc = .ok (.astore i, 2)) (hn : i < me.2.2.1) (k : J l g me hgt mc ms Q (pc + 2) (st1 lv i .null) rest S nc ns) : J l g me hgt mc ms Q pc lv (.null :: rest) S nc ns := fun zA zp ze zs zm za zb zt zc zH zo zl zh zv zw => lv_astoreN zh.1 zh.2.1 hdg zw hn rfl (fun zl' zw' => k zA zp ze zs zm za zb zt zc zH zo zl' zh zv zw')
theorem J_iinc {i : Nat} {n : Int} {x v : Int32} (hdg : decode me.2.1 pc = .ok (.iinc i n, 3)) (hlv : lv.lookup i = some (.int x)) (hv : x + Int32.ofInt n = v) (hn : i < me.2.2.1) (k : J l g me hgt mc ms Q (pc + 3) (st1 lv i (.int v)) rest S nc ns) : J l g me hgt mc ms Q pc lv rest S nc ns := by
  intro zA zp ze zs zm za zb zt zc zH zo zl zh zv zw
  obtain ⟨k0, hk0⟩ := List.getElem?_of_mem (mem_lookup hlv)
  exact lv_iinc zh.1 zh.2.1 hdg zw hk0 hv hn rfl (fun zl' zw' => k zA zp ze zs zm za zb zt zc zH zo zl' zh zv zw')
theorem J_ldc2 {index : Nat} {v : Int64} (hw : Cond.constantLong me.1.cls index v ∈ T0) (hdg : decode me.2.1 pc = .ok (.ldc2_w index, 3)) (k : J l g me hgt mc ms Q (pc + 3) lv (.long v :: rest) S nc ns) : J l g me hgt mc ms Q pc lv rest S nc ns := fun zA zp ze zs zm za zb zt zc zH zo zl zh zv zw => lv_ldc2 zh.1 zh.2.1 zh.2.2.2.2.2.2.1 (zh.2.2.2.2.2.2.2.1 _ hw) hdg (k zA zp ze zs zm za zb zt zc zH zo zl zh zv zw)
theorem J_top {x y : Int32} (e : x = y) (k : J l g me hgt mc ms Q pc lv (.int y :: rest) S nc ns) : J l g me hgt mc ms Q pc lv (.int x :: rest) S nc ns := e ▸ k
theorem J_iret {v : Int32} (hdg : decode me.2.1 pc = .ok (.ireturn, 1)) (hr : me.2.2.2 = some .int) (hc : nc ≤ mc) (hs : ns ≤ ms) (hq : Q (some (.int v)) S) : J l g me hgt mc ms Q pc lv [.int v] S nc ns := by
  intro zA zp ze zs zm za zb zt zc zH zo zl zh zv zw
  refine W.widen hc hs ?_
  exact W.iret zh.1 zh.2.1 (zh.2.2.1.trans hr) (fun t ht hW => ⟨⟨_, S, rfl, hq, by rw [ht]; exact zv.1, jK.moved hW.alike zh.2.2.2.2.2.2.2.2, zv.2.1⟩, zv.2.2.1.F ht⟩) zv.2.2.1.2.2 hdg zh.2.2.2.2.1
theorem J_zret {v : Int32} (hdg : decode me.2.1 pc = .ok (.ireturn, 1)) (hr : me.2.2.2 = some .boolean) (hn : narrow .boolean (.int v) = .int v) (hc : nc ≤ mc) (hs : ns ≤ ms) (hq : Q (some (.int v)) S) : J l g me hgt mc ms Q pc lv [.int v] S nc ns := by
  intro zA zp ze zs zm za zb zt zc zH zo zl zh zv zw
  refine W.widen hc hs ?_
  exact W.zret zh.1 zh.2.1 (zh.2.2.1.trans hr) hn (fun t ht hW => ⟨⟨_, S, rfl, hq, by rw [ht]; exact zv.1, jK.moved hW.alike zh.2.2.2.2.2.2.2.2, zv.2.1⟩, zv.2.2.1.F ht⟩) zv.2.2.1.2.2 hdg zh.2.2.2.2.1
theorem J_vret (hdg : decode me.2.1 pc = .ok (.return_, 1)) (hr : me.2.2.2 = none) (hc : nc ≤ mc) (hs : ns ≤ ms) (hq : Q none S) : J l g me hgt mc ms Q pc lv [] S nc ns := by
  intro zA zp ze zs zm za zb zt zc zH zo zl zh zv zw
  refine W.widen hc hs ?_
  exact W.vret zh.1 zh.2.1 (zh.2.2.1.trans hr) (fun t ht hW => ⟨⟨_, S, rfl, hq, by rw [ht]; exact zv.1, jK.moved hW.alike zh.2.2.2.2.2.2.2.2, zv.2.1⟩, zv.2.2.1.F ht⟩) zv.2.2.1.2.2 hdg zh.2.2.2.2.1
theorem J_lret {v : Int64} (hdg : decode me.2.1 pc = .ok (.lreturn, 1)) (hr : me.2.2.2 = some .long) (hc : nc ≤ mc) (hs : ns ≤ ms) (hq : Q (some (.long v)) S) : J l g me hgt mc ms Q pc lv [.long v] S nc ns := by
  intro zA zp ze zs zm za zb zt zc zH zo zl zh zv zw
  refine W.widen hc hs ?_
  exact W.lret zh.1 zh.2.1 (zh.2.2.1.trans hr) (fun t ht hW => ⟨⟨_, S, rfl, hq, by rw [ht]; exact zv.1, jK.moved hW.alike zh.2.2.2.2.2.2.2.2, zv.2.1⟩, zv.2.2.1.F ht⟩) zv.2.2.1.2.2 hdg zh.2.2.2.2.1
theorem J_aret {v : Value} {C : String} (hdg : decode me.2.1 pc = .ok (.areturn, 1)) (hr : me.2.2.2 = some (.object C)) (hv : v = .null ∨ ∃ a, v = .ref a) (hc : nc ≤ mc) (hs : ns ≤ ms) (hq : Q (some v) S) : J l g me hgt mc ms Q pc lv [v] S nc ns := by
  intro zA zp ze zs zm za zb zt zc zH zo zl zh zv zw
  refine W.widen hc hs ?_
  exact W.aret zh.1 zh.2.1 (zh.2.2.1.trans hr) (Or.inl ⟨C, rfl⟩) hv (fun t ht hW => ⟨⟨_, S, rfl, hq, by rw [ht]; exact zv.1, jK.moved hW.alike zh.2.2.2.2.2.2.2.2, zv.2.1⟩, zv.2.2.1.F ht⟩) zv.2.2.1.2.2 hdg zh.2.2.2.2.1
/-- a class of the pool: its name, its fields, its words -/
def jCl (c : Nat) (R : String) (T : u_T) : Prop := c < 9 ∧ vwCl[c]? = some (R, T, jN c) ∧ (∀ w ∈ u_ws R T (jN c), w ∈ T0) ∧ (∀ a, a < jN c → ∀ b, b < jN c → a ≠ b → (T a).2.1 ≠ (T b).2.1) ∧ (∀ k, k < jN c → parseFieldDescriptor (T k).2.2.1 = some (jTy c k))
theorem J_getf {c a i idx : Nat} {R : String} {T : u_T} {v : Value} (hC : jCl c R T) (ha : sAt S c a) (hi : i < jN c) (hf : fv (jTy c i) S c a i = v) (hw : Cond.fieldLink me.1.cls idx (T i).1 (T i).2.1 (T i).2.2.1 ∈ T0) (hdg : decode me.2.1 pc = .ok (.getfield idx, 3)) (k : J l g me hgt mc ms Q (pc + 3) lv (v :: rest) S nc ns) : J l g me hgt mc ms Q pc lv (.ref a :: rest) S nc ns := by
  intro zA zp ze zs zm za zb zt zc zH zo zl zh zv zw
  obtain ⟨k0, hk0⟩ := jW_get g ha
  rw [cell_obj g ha hC.1] at hk0
  exact va_get (D := (g.1, g.2.1)) (cl := vwCl) (C := R) (T := T) (N := jN c) zh.1 zh.2.1 zh.2.2.2.2.2.2.2.1 hC.2.2.1 zh.2.2.2.2.2.2.1 zh.2.2.2.2.2.2.2.2.1 zv.1 k0 hk0 hC.2.1 i hi (zh.2.2.2.2.2.2.2.1 _ hw) (fun _ h9 => h9) (by rw [fvs_at hi, hf]) hdg (k zA zp ze zs zm za zb zt zc zH zo zl zh zv zw)
theorem J_geti {c a i idx : Nat} {R : String} {T : u_T} {v : Int32} (hC : jCl c R T) (ha : sAt S c a) (hi : i < jN c) (ht : jI (jTy c i) = true) (hv : sI S c a i = v) (hw : Cond.fieldLink me.1.cls idx (T i).1 (T i).2.1 (T i).2.2.1 ∈ T0) (hdg : decode me.2.1 pc = .ok (.getfield idx, 3)) (k : J l g me hgt mc ms Q (pc + 3) lv (.int v :: rest) S nc ns) : J l g me hgt mc ms Q pc lv (.ref a :: rest) S nc ns := J_getf hC ha hi ((fv_I ht _ _ _ _).trans (by rw [hv])) hw hdg k
theorem J_getl {c a i idx : Nat} {R : String} {T : u_T} {v : Int64} (hC : jCl c R T) (ha : sAt S c a) (hi : i < jN c) (ht : jL (jTy c i) = true) (hv : sJ S c a i = v) (hw : Cond.fieldLink me.1.cls idx (T i).1 (T i).2.1 (T i).2.2.1 ∈ T0) (hdg : decode me.2.1 pc = .ok (.getfield idx, 3)) (k : J l g me hgt mc ms Q (pc + 3) lv (.long v :: rest) S nc ns) : J l g me hgt mc ms Q pc lv (.ref a :: rest) S nc ns := J_getf hC ha hi ((fv_L ht _ _ _ _).trans (by rw [hv])) hw hdg k
theorem J_getr {c a i idx : Nat} {R : String} {T : u_T} {v : Nat} (hC : jCl c R T) (ha : sAt S c a) (hi : i < jN c) (ht : jP (jTy c i) = true) (hv : sP S c a i = some v) (hw : Cond.fieldLink me.1.cls idx (T i).1 (T i).2.1 (T i).2.2.1 ∈ T0) (hdg : decode me.2.1 pc = .ok (.getfield idx, 3)) (k : J l g me hgt mc ms Q (pc + 3) lv (.ref v :: rest) S nc ns) : J l g me hgt mc ms Q pc lv (.ref a :: rest) S nc ns := J_getf hC ha hi ((fv_P ht _ _ _ _).trans (by rw [hv]; rfl)) hw hdg k
theorem jV_put {A : Nat → Prop} {s : State} {S' : jS} {H H1 : Heap} {locs locs1 : List Loc} {a k0 : Nat} {e : va_E} (zv : jV g A s S H locs) (hL : a ∈ S.1) (hk : (jW g S)[k0]? = some (a, cellOf g S a)) (hl : S'.1 = S.1) (hc : ∀ b, va_up (cellOf g S) a e b = cellOf g S' b) (h1 : va_P (g.1, g.2.1) vwCl ((jW g S).set k0 (a, e)) H1) (h2 : va_D A ((jW g S).set k0 (a, e))) (h3 : va_S A s.heap H1 locs1) : jV g A s S' H1 locs1 := by
  rw [jW_set g zv.2.1 hL hk hl hc] at h1 h2
  exact ⟨h1, h2, h3, zv.2.2.2⟩
theorem J_puti {c a i idx : Nat} {R : String} {T : u_T} {v : Int32} (hC : jCl c R T) (ha : sAt S c a) (hi : i < jN c) (ht : jI (jTy c i) = true) (hfin : (T i).2.2.2 = false) (hn : narrow (jTy c i) (.int v) = (.int v)) (hfit : fits (jTy c i) (.int v) = true) (hw : Cond.fieldLink me.1.cls idx (T i).1 (T i).2.1 (T i).2.2.1 ∈ T0) (hdg : decode me.2.1 pc = .ok (.putfield idx, 3)) (k : J l g me hgt mc ms Q (pc + 3) lv rest (uI S c a i v) nc ns) : J l g me hgt mc ms Q pc lv (.int v :: .ref a :: rest) S nc ns := by
  intro zA zp ze zs zm za zb zt zc zH zo zl zh zv zw
  obtain ⟨k0, hk0⟩ := jW_get g ha
  have hk1 := hk0
  rw [cell_obj g ha hC.1] at hk1
  exact va_put (D := (g.1, g.2.1)) (cl := vwCl) (C := R) (T := T) (N := jN c) (ty := jTy c i) zh.1 zh.2.1 zh.2.2.2.2.2.2.2.1 hC.2.2.1 (jTy c) hC.2.2.2.2 hC.2.2.2.1 zh.2.2.2.2.2.2.1 zh.2.2.2.2.2.2.2.2.1 zv.1 zv.2.1 zv.2.2.1 k0 hk1 hC.2.1 i hi (zh.2.2.2.2.2.2.2.1 _ hw) (fun _ h9 => h9) hfin (hC.2.2.2.2 i hi) hn hfit (by rw [fvs_len]; exact hi) hdg (fun H1 locs1 h1 h2 h3 => k zA zp ze zs zm za zb zt zc H1 locs1 zl zh (jV_put zv ha.1 hk0 rfl (cell_uI g ha hC.1 ((fv_I ht _ _ _ _).trans (by rw [sI_same]))) h1 h2 h3) zw)
theorem J_putiF {c a i idx : Nat} {R : String} {T : u_T} {v : Int32} (hC : jCl c R T) (ha : sAt S c a) (hi : i < jN c) (ht : jI (jTy c i) = true) (hfin : (T i).2.2.2 = true) (hini : me.1.name = "<init>") (hdecl : (T i).1 = me.1.cls) (hn : narrow (jTy c i) (.int v) = (.int v)) (hfit : fits (jTy c i) (.int v) = true) (hw : Cond.fieldLink me.1.cls idx (T i).1 (T i).2.1 (T i).2.2.1 ∈ T0) (hdg : decode me.2.1 pc = .ok (.putfield idx, 3)) (k : J l g me hgt mc ms Q (pc + 3) lv rest (uI S c a i v) nc ns) : J l g me hgt mc ms Q pc lv (.int v :: .ref a :: rest) S nc ns := by
  intro zA zp ze zs zm za zb zt zc zH zo zl zh zv zw
  obtain ⟨k0, hk0⟩ := jW_get g ha
  have hk1 := hk0
  rw [cell_obj g ha hC.1] at hk1
  exact va_putF (D := (g.1, g.2.1)) (cl := vwCl) (C := R) (T := T) (N := jN c) (ty := jTy c i) zh.1 zh.2.1 zh.2.2.2.2.2.2.2.1 hC.2.2.1 (jTy c) hC.2.2.2.2 hC.2.2.2.1 zh.2.2.2.2.2.2.1 zh.2.2.2.2.2.2.2.2.1 zv.1 zv.2.1 zv.2.2.1 k0 hk1 hC.2.1 i hi (zh.2.2.2.2.2.2.2.1 _ hw) (fun _ h9 => h9) hfin (zh.2.2.2.2.2.1.trans hini) hdecl (hC.2.2.2.2 i hi) hn hfit (by rw [fvs_len]; exact hi) hdg (fun H1 locs1 h1 h2 h3 => k zA zp ze zs zm za zb zt zc H1 locs1 zl zh (jV_put zv ha.1 hk0 rfl (cell_uI g ha hC.1 ((fv_I ht _ _ _ _).trans (by rw [sI_same]))) h1 h2 h3) zw)
theorem J_putl {c a i idx : Nat} {R : String} {T : u_T} {v : Int64} (hC : jCl c R T) (ha : sAt S c a) (hi : i < jN c) (ht : jL (jTy c i) = true) (hfin : (T i).2.2.2 = false) (hn : narrow (jTy c i) (.long v) = (.long v)) (hfit : fits (jTy c i) (.long v) = true) (hw : Cond.fieldLink me.1.cls idx (T i).1 (T i).2.1 (T i).2.2.1 ∈ T0) (hdg : decode me.2.1 pc = .ok (.putfield idx, 3)) (k : J l g me hgt mc ms Q (pc + 3) lv rest (uJ S c a i v) nc ns) : J l g me hgt mc ms Q pc lv (.long v :: .ref a :: rest) S nc ns := by
  intro zA zp ze zs zm za zb zt zc zH zo zl zh zv zw
  obtain ⟨k0, hk0⟩ := jW_get g ha
  have hk1 := hk0
  rw [cell_obj g ha hC.1] at hk1
  exact va_put (D := (g.1, g.2.1)) (cl := vwCl) (C := R) (T := T) (N := jN c) (ty := jTy c i) zh.1 zh.2.1 zh.2.2.2.2.2.2.2.1 hC.2.2.1 (jTy c) hC.2.2.2.2 hC.2.2.2.1 zh.2.2.2.2.2.2.1 zh.2.2.2.2.2.2.2.2.1 zv.1 zv.2.1 zv.2.2.1 k0 hk1 hC.2.1 i hi (zh.2.2.2.2.2.2.2.1 _ hw) (fun _ h9 => h9) hfin (hC.2.2.2.2 i hi) hn hfit (by rw [fvs_len]; exact hi) hdg (fun H1 locs1 h1 h2 h3 => k zA zp ze zs zm za zb zt zc H1 locs1 zl zh (jV_put zv ha.1 hk0 rfl (cell_uJ g ha hC.1 ((fv_L ht _ _ _ _).trans (by rw [sJ_same]))) h1 h2 h3) zw)
theorem J_putlF {c a i idx : Nat} {R : String} {T : u_T} {v : Int64} (hC : jCl c R T) (ha : sAt S c a) (hi : i < jN c) (ht : jL (jTy c i) = true) (hfin : (T i).2.2.2 = true) (hini : me.1.name = "<init>") (hdecl : (T i).1 = me.1.cls) (hn : narrow (jTy c i) (.long v) = (.long v)) (hfit : fits (jTy c i) (.long v) = true) (hw : Cond.fieldLink me.1.cls idx (T i).1 (T i).2.1 (T i).2.2.1 ∈ T0) (hdg : decode me.2.1 pc = .ok (.putfield idx, 3)) (k : J l g me hgt mc ms Q (pc + 3) lv rest (uJ S c a i v) nc ns) : J l g me hgt mc ms Q pc lv (.long v :: .ref a :: rest) S nc ns := by
  intro zA zp ze zs zm za zb zt zc zH zo zl zh zv zw
  obtain ⟨k0, hk0⟩ := jW_get g ha
  have hk1 := hk0
  rw [cell_obj g ha hC.1] at hk1
  exact va_putF (D := (g.1, g.2.1)) (cl := vwCl) (C := R) (T := T) (N := jN c) (ty := jTy c i) zh.1 zh.2.1 zh.2.2.2.2.2.2.2.1 hC.2.2.1 (jTy c) hC.2.2.2.2 hC.2.2.2.1 zh.2.2.2.2.2.2.1 zh.2.2.2.2.2.2.2.2.1 zv.1 zv.2.1 zv.2.2.1 k0 hk1 hC.2.1 i hi (zh.2.2.2.2.2.2.2.1 _ hw) (fun _ h9 => h9) hfin (zh.2.2.2.2.2.1.trans hini) hdecl (hC.2.2.2.2 i hi) hn hfit (by rw [fvs_len]; exact hi) hdg (fun H1 locs1 h1 h2 h3 => k zA zp ze zs zm za zb zt zc H1 locs1 zl zh (jV_put zv ha.1 hk0 rfl (cell_uJ g ha hC.1 ((fv_L ht _ _ _ _).trans (by rw [sJ_same]))) h1 h2 h3) zw)
theorem J_putr {c a i idx : Nat} {R : String} {T : u_T} {v : Nat} (hC : jCl c R T) (ha : sAt S c a) (hi : i < jN c) (ht : jP (jTy c i) = true) (hfin : (T i).2.2.2 = false) (hn : narrow (jTy c i) (.ref v) = (.ref v)) (hfit : fits (jTy c i) (.ref v) = true) (hw : Cond.fieldLink me.1.cls idx (T i).1 (T i).2.1 (T i).2.2.1 ∈ T0) (hdg : decode me.2.1 pc = .ok (.putfield idx, 3)) (k : J l g me hgt mc ms Q (pc + 3) lv rest (uP S c a i (some v)) nc ns) : J l g me hgt mc ms Q pc lv (.ref v :: .ref a :: rest) S nc ns := by
  intro zA zp ze zs zm za zb zt zc zH zo zl zh zv zw
  obtain ⟨k0, hk0⟩ := jW_get g ha
  have hk1 := hk0
  rw [cell_obj g ha hC.1] at hk1
  exact va_put (D := (g.1, g.2.1)) (cl := vwCl) (C := R) (T := T) (N := jN c) (ty := jTy c i) zh.1 zh.2.1 zh.2.2.2.2.2.2.2.1 hC.2.2.1 (jTy c) hC.2.2.2.2 hC.2.2.2.1 zh.2.2.2.2.2.2.1 zh.2.2.2.2.2.2.2.2.1 zv.1 zv.2.1 zv.2.2.1 k0 hk1 hC.2.1 i hi (zh.2.2.2.2.2.2.2.1 _ hw) (fun _ h9 => h9) hfin (hC.2.2.2.2 i hi) hn hfit (by rw [fvs_len]; exact hi) hdg (fun H1 locs1 h1 h2 h3 => k zA zp ze zs zm za zb zt zc H1 locs1 zl zh (jV_put zv ha.1 hk0 rfl (cell_uP g ha hC.1 ((fv_P ht _ _ _ _).trans (by rw [sP_same]))) h1 h2 h3) zw)
theorem J_putrF {c a i idx : Nat} {R : String} {T : u_T} {v : Nat} (hC : jCl c R T) (ha : sAt S c a) (hi : i < jN c) (ht : jP (jTy c i) = true) (hfin : (T i).2.2.2 = true) (hini : me.1.name = "<init>") (hdecl : (T i).1 = me.1.cls) (hn : narrow (jTy c i) (.ref v) = (.ref v)) (hfit : fits (jTy c i) (.ref v) = true) (hw : Cond.fieldLink me.1.cls idx (T i).1 (T i).2.1 (T i).2.2.1 ∈ T0) (hdg : decode me.2.1 pc = .ok (.putfield idx, 3)) (k : J l g me hgt mc ms Q (pc + 3) lv rest (uP S c a i (some v)) nc ns) : J l g me hgt mc ms Q pc lv (.ref v :: .ref a :: rest) S nc ns := by
  intro zA zp ze zs zm za zb zt zc zH zo zl zh zv zw
  obtain ⟨k0, hk0⟩ := jW_get g ha
  have hk1 := hk0
  rw [cell_obj g ha hC.1] at hk1
  exact va_putF (D := (g.1, g.2.1)) (cl := vwCl) (C := R) (T := T) (N := jN c) (ty := jTy c i) zh.1 zh.2.1 zh.2.2.2.2.2.2.2.1 hC.2.2.1 (jTy c) hC.2.2.2.2 hC.2.2.2.1 zh.2.2.2.2.2.2.1 zh.2.2.2.2.2.2.2.2.1 zv.1 zv.2.1 zv.2.2.1 k0 hk1 hC.2.1 i hi (zh.2.2.2.2.2.2.2.1 _ hw) (fun _ h9 => h9) hfin (zh.2.2.2.2.2.1.trans hini) hdecl (hC.2.2.2.2 i hi) hn hfit (by rw [fvs_len]; exact hi) hdg (fun H1 locs1 h1 h2 h3 => k zA zp ze zs zm za zb zt zc H1 locs1 zl zh (jV_put zv ha.1 hk0 rfl (cell_uP g ha hC.1 ((fv_P ht _ _ _ _).trans (by rw [sP_same]))) h1 h2 h3) zw)
theorem J_iald {a n N : Nat} {i v : Int32} (ha : aAt S 9 a N) (hi : i = nI n) (hn : n < N) (hL : N < 2 ^ 31) (hv : sI S 9 a n = v) (hdg : decode me.2.1 pc = .ok (.iaload, 1)) (k : J l g me hgt mc ms Q (pc + 1) lv (.int v :: rest) S nc ns) : J l g me hgt mc ms Q pc lv (.int i :: .ref a :: rest) S nc ns := by
  intro zA zp ze zs zm za zb zt zc zH zo zl zh zv zw
  obtain ⟨ha, rfl⟩ := ha
  obtain ⟨k0, hk0⟩ := jW_get g ha
  rw [cell_int g ha (by decide) (by decide)] at hk0
  refine va_iald (D := (g.1, g.2.1)) (cl := vwCl) zh.1 zh.2.1 zh.2.2.2.2.2.2.2.2.1 zv.1 k0 0 hk0 rfl (by rw [hi]; exact vp_in_nI hn hL) hdg ?_
  rw [hi, nI_clamp (by omega), hv]
  exact k zA zp ze zs zm za zb zt zc zH zo zl zh zv zw
theorem J_iast {a n N : Nat} {i x : Int32} (ha : aAt S 9 a N) (hi : i = nI n) (hn : n < N) (hL : N < 2 ^ 31) (hdg : decode me.2.1 pc = .ok (.iastore, 1)) (k : J l g me hgt mc ms Q (pc + 1) lv rest (uI S 9 a n x) nc ns) : J l g me hgt mc ms Q pc lv (.int x :: .int i :: .ref a :: rest) S nc ns := by
  intro zA zp ze zs zm za zb zt zc zH zo zl zh zv zw
  obtain ⟨ha, rfl⟩ := ha
  obtain ⟨k0, hk0⟩ := jW_get g ha
  have hk1 := hk0
  rw [cell_int g ha (by decide) (by decide)] at hk1
  refine va_iast (D := (g.1, g.2.1)) (cl := vwCl) zh.1 zh.2.1 zh.2.2.2.2.2.2.2.2.1 zv.1 zv.2.1 zv.2.2.1 k0 0 hk1 rfl (by rw [hi]; exact vp_in_nI hn hL) hdg ?_
  rw [hi, nI_clamp (by omega)]
  exact fun H1 locs1 h1 h2 h3 => k zA zp ze zs zm za zb zt zc H1 locs1 zl zh (jV_put zv ha.1 hk0 rfl (cell_uA g ha (by decide) (by decide)) h1 h2 h3) zw
theorem J_zald {a n N : Nat} {i v : Int32} (ha : aAt S 10 a N) (hi : i = nI n) (hn : n < N) (hL : N < 2 ^ 31) (hv : sI S 10 a n = v) (hdg : decode me.2.1 pc = .ok (.baload, 1)) (k : J l g me hgt mc ms Q (pc + 1) lv (.int v :: rest) S nc ns) : J l g me hgt mc ms Q pc lv (.int i :: .ref a :: rest) S nc ns := by
  intro zA zp ze zs zm za zb zt zc zH zo zl zh zv zw
  obtain ⟨ha, rfl⟩ := ha
  obtain ⟨k0, hk0⟩ := jW_get g ha
  rw [cell_int g ha (by decide) (by decide)] at hk0
  refine va_zald (D := (g.1, g.2.1)) (cl := vwCl) zh.1 zh.2.1 zh.2.2.2.2.2.2.2.2.1 zv.1 k0 1 hk0 rfl (by rw [hi]; exact vp_in_nI hn hL) hdg ?_
  rw [hi, nI_clamp (by omega), hv]
  exact k zA zp ze zs zm za zb zt zc zH zo zl zh zv zw
theorem J_zast {a n N : Nat} {i x : Int32} (ha : aAt S 10 a N) (hi : i = nI n) (hn : n < N) (hL : N < 2 ^ 31) (hx : vp_nar .boolean x = x) (hdg : decode me.2.1 pc = .ok (.bastore, 1)) (k : J l g me hgt mc ms Q (pc + 1) lv rest (uI S 10 a n x) nc ns) : J l g me hgt mc ms Q pc lv (.int x :: .int i :: .ref a :: rest) S nc ns := by
  intro zA zp ze zs zm za zb zt zc zH zo zl zh zv zw
  obtain ⟨ha, rfl⟩ := ha
  obtain ⟨k0, hk0⟩ := jW_get g ha
  have hk1 := hk0
  rw [cell_int g ha (by decide) (by decide)] at hk1
  refine va_zast (D := (g.1, g.2.1)) (cl := vwCl) zh.1 zh.2.1 zh.2.2.2.2.2.2.2.2.1 zv.1 zv.2.1 zv.2.2.1 k0 1 hk1 rfl (by rw [hi]; exact vp_in_nI hn hL) hdg ?_
  rw [hi, nI_clamp (by omega)]
  rw [hx]
  exact fun H1 locs1 h1 h2 h3 => k zA zp ze zs zm za zb zt zc H1 locs1 zl zh (jV_put zv ha.1 hk0 rfl (cell_uA g ha (by decide) (by decide)) h1 h2 h3) zw
theorem J_alenI {c a : Nat} {v : Int32} (ha : sAt S c a) (hc : c = 9 ∨ c = 10) (hv : nI (sN S a) = v) (hdg : decode me.2.1 pc = .ok (.arraylength, 1)) (k : J l g me hgt mc ms Q (pc + 1) lv (.int v :: rest) S nc ns) : J l g me hgt mc ms Q pc lv (.ref a :: rest) S nc ns := by
  intro zA zp ze zs zm za zb zt zc zH zo zl zh zv zw
  obtain ⟨k0, hk0⟩ := jW_get g ha
  rcases hc with rfl | rfl
  · rw [cell_int g ha (by decide) (by decide)] at hk0
    exact va_alen (D := (g.1, g.2.1)) (cl := vwCl) (ty := .int) zh.1 zh.2.1 zh.2.2.2.2.2.2.2.2.1 zv.1 k0 0 hk0 rfl hv hdg (k zA zp ze zs zm za zb zt zc zH zo zl zh zv zw)
  · rw [cell_int g ha (by decide) (by decide)] at hk0
    exact va_alen (D := (g.1, g.2.1)) (cl := vwCl) (ty := .boolean) zh.1 zh.2.1 zh.2.2.2.2.2.2.2.2.1 zv.1 k0 1 hk0 rfl hv hdg (k zA zp ze zs zm za zb zt zc zH zo zl zh zv zw)
theorem J_alenR {a : Nat} {v : Int32} (ha : sAt S 13 a) (hv : nI (sN S a) = v) (hdg : decode me.2.1 pc = .ok (.arraylength, 1)) (k : J l g me hgt mc ms Q (pc + 1) lv (.int v :: rest) S nc ns) : J l g me hgt mc ms Q pc lv (.ref a :: rest) S nc ns := by
  intro zA zp ze zs zm za zb zt zc zH zo zl zh zv zw
  obtain ⟨k0, hk0⟩ := jW_get g ha
  rw [cell_ref g ha (by decide)] at hk0
  exact va_alen (D := (g.1, g.2.1)) (cl := vwCl) (ty := .object RX7) zh.1 zh.2.1 zh.2.2.2.2.2.2.2.2.1 zv.1 k0 4 hk0 rfl hv hdg (k zA zp ze zs zm za zb zt zc zH zo zl zh zv zw)
theorem J_rald11 {a n N : Nat} {i : Int32} {v : Nat} (ha : aAt S 11 a N) (hi : i = nI n) (hn : n < N) (hL : N < 2 ^ 31) (hv : sP S 11 a n = some v) (hdg : decode me.2.1 pc = .ok (.aaload, 1)) (k : J l g me hgt mc ms Q (pc + 1) lv (.ref v :: rest) S nc ns) : J l g me hgt mc ms Q pc lv (.int i :: .ref a :: rest) S nc ns := by
  intro zA zp ze zs zm za zb zt zc zH zo zl zh zv zw
  obtain ⟨ha, rfl⟩ := ha
  obtain ⟨k0, hk0⟩ := jW_get g ha
  rw [cell_ref g ha (by decide)] at hk0
  refine va_aldq (D := (g.1, g.2.1)) (cl := vwCl) (C := RX3) zh.1 zh.2.1 zh.2.2.2.2.2.2.2.2.1 zv.1 k0 2 hk0 rfl (by rw [hi]; exact vp_in_nI hn hL) hdg ?_
  rw [hi, nI_clamp (by omega), hv]
  exact k zA zp ze zs zm za zb zt zc zH zo zl zh zv zw
theorem J_rast11 {a n v N : Nat} {i : Int32} (ha : aAt S 11 a N) (hi : i = nI n) (hn : n < N) (hL : N < 2 ^ 31) (hv : sAt S 2 v) (hdg : decode me.2.1 pc = .ok (.aastore, 1)) (k : J l g me hgt mc ms Q (pc + 1) lv rest (uP S 11 a n (some v)) nc ns) : J l g me hgt mc ms Q pc lv (.ref v :: .int i :: .ref a :: rest) S nc ns := by
  intro zA zp ze zs zm za zb zt zc zH zo zl zh zv zw
  obtain ⟨ha, rfl⟩ := ha
  obtain ⟨k0, hk0⟩ := jW_get g ha
  obtain ⟨k2, hk2⟩ := jW_get g hv
  have hk1 := hk0
  rw [cell_ref g ha (by decide)] at hk1
  rw [cell_obj g hv (by decide)] at hk2
  refine va_astq (D := (g.1, g.2.1)) (cl := vwCl) zh.1 zh.2.1 zh.2.2.2.2.2.2.2.2.1 zv.1 zv.2.1 zv.2.2.1 k0 2 k2 2 hk1 rfl hk2 rfl (by rw [hi]; exact vp_in_nI hn hL) hdg ?_
  rw [hi, nI_clamp (by omega)]
  exact fun H1 locs1 h1 h2 h3 => k zA zp ze zs zm za zb zt zc H1 locs1 zl zh (jV_put zv ha.1 hk0 rfl (cell_uR g ha (by decide)) h1 h2 h3) zw
theorem J_rald12 {a n N : Nat} {i : Int32} {v : Nat} (ha : aAt S 12 a N) (hi : i = nI n) (hn : n < N) (hL : N < 2 ^ 31) (hv : sP S 12 a n = some v) (hdg : decode me.2.1 pc = .ok (.aaload, 1)) (k : J l g me hgt mc ms Q (pc + 1) lv (.ref v :: rest) S nc ns) : J l g me hgt mc ms Q pc lv (.int i :: .ref a :: rest) S nc ns := by
  intro zA zp ze zs zm za zb zt zc zH zo zl zh zv zw
  obtain ⟨ha, rfl⟩ := ha
  obtain ⟨k0, hk0⟩ := jW_get g ha
  rw [cell_ref g ha (by decide)] at hk0
  refine va_aldq (D := (g.1, g.2.1)) (cl := vwCl) (C := RX4) zh.1 zh.2.1 zh.2.2.2.2.2.2.2.2.1 zv.1 k0 3 hk0 rfl (by rw [hi]; exact vp_in_nI hn hL) hdg ?_
  rw [hi, nI_clamp (by omega), hv]
  exact k zA zp ze zs zm za zb zt zc zH zo zl zh zv zw
theorem J_rast12 {a n v N : Nat} {i : Int32} (ha : aAt S 12 a N) (hi : i = nI n) (hn : n < N) (hL : N < 2 ^ 31) (hv : sAt S 3 v) (hdg : decode me.2.1 pc = .ok (.aastore, 1)) (k : J l g me hgt mc ms Q (pc + 1) lv rest (uP S 12 a n (some v)) nc ns) : J l g me hgt mc ms Q pc lv (.ref v :: .int i :: .ref a :: rest) S nc ns := by
  intro zA zp ze zs zm za zb zt zc zH zo zl zh zv zw
  obtain ⟨ha, rfl⟩ := ha
  obtain ⟨k0, hk0⟩ := jW_get g ha
  obtain ⟨k2, hk2⟩ := jW_get g hv
  have hk1 := hk0
  rw [cell_ref g ha (by decide)] at hk1
  rw [cell_obj g hv (by decide)] at hk2
  refine va_astq (D := (g.1, g.2.1)) (cl := vwCl) zh.1 zh.2.1 zh.2.2.2.2.2.2.2.2.1 zv.1 zv.2.1 zv.2.2.1 k0 3 k2 3 hk1 rfl hk2 rfl (by rw [hi]; exact vp_in_nI hn hL) hdg ?_
  rw [hi, nI_clamp (by omega)]
  exact fun H1 locs1 h1 h2 h3 => k zA zp ze zs zm za zb zt zc H1 locs1 zl zh (jV_put zv ha.1 hk0 rfl (cell_uR g ha (by decide)) h1 h2 h3) zw
theorem J_rald13 {a n N : Nat} {i : Int32} {v : Nat} (ha : aAt S 13 a N) (hi : i = nI n) (hn : n < N) (hL : N < 2 ^ 31) (hv : sP S 13 a n = some v) (hdg : decode me.2.1 pc = .ok (.aaload, 1)) (k : J l g me hgt mc ms Q (pc + 1) lv (.ref v :: rest) S nc ns) : J l g me hgt mc ms Q pc lv (.int i :: .ref a :: rest) S nc ns := by
  intro zA zp ze zs zm za zb zt zc zH zo zl zh zv zw
  obtain ⟨ha, rfl⟩ := ha
  obtain ⟨k0, hk0⟩ := jW_get g ha
  rw [cell_ref g ha (by decide)] at hk0
  refine va_aldq (D := (g.1, g.2.1)) (cl := vwCl) (C := RX7) zh.1 zh.2.1 zh.2.2.2.2.2.2.2.2.1 zv.1 k0 4 hk0 rfl (by rw [hi]; exact vp_in_nI hn hL) hdg ?_
  rw [hi, nI_clamp (by omega), hv]
  exact k zA zp ze zs zm za zb zt zc zH zo zl zh zv zw
theorem J_rast13 {a n v N : Nat} {i : Int32} (ha : aAt S 13 a N) (hi : i = nI n) (hn : n < N) (hL : N < 2 ^ 31) (hv : sAt S 5 v) (hdg : decode me.2.1 pc = .ok (.aastore, 1)) (k : J l g me hgt mc ms Q (pc + 1) lv rest (uP S 13 a n (some v)) nc ns) : J l g me hgt mc ms Q pc lv (.ref v :: .int i :: .ref a :: rest) S nc ns := by
  intro zA zp ze zs zm za zb zt zc zH zo zl zh zv zw
  obtain ⟨ha, rfl⟩ := ha
  obtain ⟨k0, hk0⟩ := jW_get g ha
  obtain ⟨k2, hk2⟩ := jW_get g hv
  have hk1 := hk0
  rw [cell_ref g ha (by decide)] at hk1
  rw [cell_obj g hv (by decide)] at hk2
  refine va_astq (D := (g.1, g.2.1)) (cl := vwCl) zh.1 zh.2.1 zh.2.2.2.2.2.2.2.2.1 zv.1 zv.2.1 zv.2.2.1 k0 4 k2 5 hk1 rfl hk2 rfl (by rw [hi]; exact vp_in_nI hn hL) hdg ?_
  rw [hi, nI_clamp (by omega)]
  exact fun H1 locs1 h1 h2 h3 => k zA zp ze zs zm za zb zt zc H1 locs1 zl zh (jV_put zv ha.1 hk0 rfl (cell_uR g ha (by decide)) h1 h2 h3) zw
end JL
end
section
def jA (S : jS) (sz : Nat) : Nat → Prop := fun q => q ∈ S.1 ∨ sz ≤ q
/-- a method's contract: from memory S with these arguments it returns r and leaves S' with Q r S' -/
def CT (l : Launch) (g : jG) (me : jM) (h mc ms : Nat) (args : List Value) (S : jS) (Q : Option Value → jS → Prop) : Prop :=
  ∀ sz, Met l me.1 (Cond.code me.1 me.2.1 me.2.2.1 me.2.2.2 :: T0) (jR h mc ms) (va_Pc args (fun U => U.heap.size = sz ∧ va_P (g.1, g.2.1) vwCl (jW g S) U.heap ∧ jK g U ∧ va_D (fun _ => True) (jW g S))) (jQc g (jA S sz) Q) mc ms (jA S sz)
theorem jD_in {g : jG} {A : Nat → Prop} {S : jS} (h : va_D A (jW g S)) {q : Nat} (hq : q ∈ S.1) : A q := by
  obtain ⟨k, hk⟩ := va_pl_get (X := []) (f := cellOf g S) hq
  exact h.2 k _ hk
theorem jD_self {g : jG} {A : Nat → Prop} {S : jS} {sz : Nat} (h : va_D A (jW g S)) : va_D (jA S sz) (jW g S) := ⟨h.1, fun k q hk => Or.inl (by
  have := List.mem_of_getElem? hk
  obtain ⟨a, ha, rfl⟩ := List.mem_map.mp this
  exact ha)⟩
theorem jD_fresh {g : jG} {A : Nat → Prop} {S : jS} {q : Nat} {e : va_E} (h : va_D A (jW g S ++ [(q, e)])) : q ∉ S.1 := by
  intro hq
  obtain ⟨k, hk⟩ := va_pl_get (X := []) (f := cellOf g S) hq
  have hk : (jW g S)[k]? = some (q, cellOf g S q) := hk
  have hl := (List.getElem?_eq_some_iff.mp hk).1
  have h1 : (jW g S ++ [(q, e)])[k]? = some (q, cellOf g S q) := by rw [List.getElem?_append_left hl]; exact hk
  have h2 : (jW g S ++ [(q, e)])[(jW g S).length]? = some (q, e) := by rw [List.getElem?_append_right (Nat.le_refl _), Nat.sub_self]; rfl
  have := h.1 _ _ _ _ h1 h2 rfl
  omega
section JC
variable {l : Launch} {g : jG} {me : jM} {hgt mc ms : Nat} {Q : Option Value → jS → Prop} {pc : Nat} {lv : List (Nat × Value)} {rest : List Value} {S : jS} {nc ns : Nat}
theorem CT_of {n : Nat} {args : List Value} (hm : jMs me n) (hlen : (lg_sl args).length ≤ me.2.2.1) (k : J l g me hgt mc ms Q 0 (lv_args 0 args) [] S 0 0) : CT l g me hgt mc ms args S Q := by
  intro sz
  refine va_MetF (cc := me.2.1) (maxL := me.2.2.1) (ret := me.2.2.2) hm.2.2.2.2 rfl ?_
  intro p e s m args' below meth c s₁ B hml hv
  obtain ⟨rfl, hsz, hP, hK, hD0⟩ := hv
  subst hsz
  have hts := atoms_spec (ws := Cond.code me.1 me.2.1 me.2.2.1 me.2.2.2 :: T0) B.pre
  rw [lg_entry_eq]
  exact k (jA S s.heap.size) p e s m _ below meth c s.heap [] _ ⟨B.exec, B.bytes, B.returns, hml, B.notSynchronized, (name_of_methodNamed B.named B.method).1, findClass_of_methodNamed B.named, fun w hw => hts w (List.mem_cons_of_mem _ hw), hK⟩ ⟨hP, jD_self hD0, va_S.rf, fun q h => Or.inr h⟩ (lv_entry args hlen)

theorem j_blind {args : List Value} {sz : Nat} : FrameBlind (va_Pc args (fun U => U.heap.size = sz ∧ va_P (g.1, g.2.1) vwCl (jW g S) U.heap ∧ jK g U ∧ va_D (fun _ => True) (jW g S))) := fun a U g' mk q => by
  obtain ⟨q0, q1, qP, qK, qD⟩ := q
  exact ⟨q0, q1, qP, jK.moved (u := U) (U := U.calling g' mk a) (Vm.Alike.refl U.vm) qK, qD⟩
theorem j_call {p : Program} {e : Env} {R : Room} {s : State} {m : MethodId} {args a : Array Value} {below : List Frame} {meth : Method} {c : Code} {H : Heap} {locs : List Loc} {mc' ms' : Nat} {ls : Array Slot} {st0 : List Value} {A : Nat → Prop} {Q' : Option Value → jS → Prop} {Qf : State → Prop}
    (hr : va_Run p l e R s m args below meth c H locs nc ns mc' ms' (F0 m pc ls st0) rest (jQc g (jA S H.size) Q' a) (jA S H.size)) (zv : jV g A s S H locs)
    (kk : ∀ (r : Option Value) (S' : jS) (H1 : Heap) (locs1 : List Loc), Q' r S' → jV g A s S' H1 locs1 → W p l e R s m args below meth c H1 locs1 (nc + mc') (ns + ms') Qf (F0 m (pc + 3) ls (r.toList ++ rest))) : W p l e R s m args below meth c H locs nc ns Qf (F0 m pc ls st0) := by
  have hA : ∀ q, jA S H.size q → A q := fun q h => h.elim (jD_in zv.2.1) (fun h => zv.2.2.2 q (Nat.le_trans zv.2.2.1.1 h))
  intro T hT X
  obtain ⟨v, st₀, t, T', L, h0, X', hL, e1, e2, ⟨⟨r, S', hv, hq, hP, hK, hD⟩, hz, hk⟩, st⟩ := hr T hT X
  cases hv
  rw [h0] at hz hk
  obtain ⟨t2, a1, b1⟩ := kk v S' T'.heap (locs ++ L) hq ⟨by rw [e1]; exact hP, hD.weaken (fun _ q _ h => hA q.1 h), ⟨Nat.le_trans zv.2.2.1.1 (by rw [e1]; exact hz), fun q h1 h2 => by rw [e1, hk q (Nat.lt_of_lt_of_le h1 zv.2.2.1.1) (fun z => h2 (hA q z))]; exact zv.2.2.1.2.1 q h1 h2, fun q hq => by
      rcases List.mem_append.mp hq with h | h
      · exact zv.2.2.1.2.2 q h
      · exact hA _ (hL q h)⟩, zv.2.2.2⟩ T' rfl X'
  exact ⟨t2, st t2 a1, b1⟩

theorem J_callV {me' : jM} {n h' mc' ms' idx : Nat} {Q' : Option Value → jS → Prop} {As st0 : List Value} {b c : Nat} {R : String} {T : u_T} (hM : CT l g me' h' mc' ms' (.ref b :: As) S Q') (hq : jMs me' n) (hv : jMv me') (hC : jCl c R T) (hR : me'.1.cls = R) (hb : sAt S c b) (hw : Cond.methodLink me.1.cls idx me'.1 ∈ T0) (hdg : decode me.2.1 pc = .ok (.invokevirtual idx, 3)) (hn : As.length = n) (hst : st0 = As.reverse ++ .ref b :: rest) (hrm : (rest.map fun v => v.category).sum ≤ 8) (hh : h' + 1 ≤ hgt) (hc : nc + mc' ≤ mc) (hs : ns + ms' ≤ ms) (k : ∀ (r : Option Value) (S' : jS), Q' r S' → J l g me hgt mc ms Q (pc + 3) lv (r.toList ++ rest) S' (nc + mc') (ns + ms')) : J l g me hgt mc ms Q pc lv st0 S nc ns := by
  intro zA zp ze zs zm za zb zt zc zH zo zl zh zv zw
  subst hst
  subst hR
  obtain ⟨k0, hk0⟩ := jW_get g hb
  rw [cell_obj g hb hC.1] at hk0
  have hG : GoodIn T0 (wsV me.1.cls idx me'.1.cls me'.1 (Cond.code me'.1 me'.2.1 me'.2.2.1 me'.2.2.2 :: T0)) := t0_goodIn (fun w h => by
    rcases List.mem_append.mp h with h | h
    · simp only [List.mem_cons, List.not_mem_nil, or_false] at h
      rcases h with rfl | rfl | rfl | rfl
      · exact hw
      · exact hv.1
      · exact hv.2
      · exact hq.2.1
    · rcases List.mem_cons.mp h with rfl | h
      · exact hq.1
      · exact h)
  refine j_call (rest := rest) (va_runV (As := As) (rest := rest) (b := b) (C := me'.1.cls) ⟨zh.1, zh.2.1, zh.2.2.2.1, zh.2.2.2.2.2.2.1, zh.2.2.2.2.2.2.2.1⟩ (hM zH.size) (cwV n zh.2.2.2.2.2.2.2.1 hG rfl rfl rfl ⟨rfl, hq.2.2.1⟩ ⟨hh, by show 8 + (me'.2.2.1 + 11) + 36 * h' ≤ 36 * hgt; have := hq.2.2.2.1; omega⟩) ⟨j_blind, va_recv zh.2.2.2.2.2.2.2.2.1 zv.1 hC.2.1 hk0, fun U hU hW => ⟨rfl, by rw [hU], by rw [hU]; exact zv.1, jK.moved hW.alike zh.2.2.2.2.2.2.2.2, zv.2.1.weaken (fun _ _ _ _ => trivial)⟩⟩ rfl hn zw.1 rfl (lv_room hrm) hdg ⟨hc, hs⟩) zv ?_
  exact fun r S' H1 locs1 hQ hV => k r S' hQ zA zp ze zs zm za zb zt zc H1 locs1 zl zh hV zw
theorem J_callS {me' : jM} {n h' mc' ms' idx : Nat} {Q' : Option Value → jS → Prop} {As st0 : List Value} (hM : CT l g me' h' mc' ms' As S Q') (hq : jMs me' n) (hv : jMt me') (hw : Cond.methodLink me.1.cls idx me'.1 ∈ T0) (hdg : decode me.2.1 pc = .ok (.invokestatic idx, 3)) (hn : As.length = n) (hst : st0 = As.reverse ++ rest) (hrm : (rest.map fun v => v.category).sum ≤ 8) (hh : h' + 1 ≤ hgt) (hc : nc + mc' ≤ mc) (hs : ns + ms' ≤ ms) (k : ∀ (r : Option Value) (S' : jS), Q' r S' → J l g me hgt mc ms Q (pc + 3) lv (r.toList ++ rest) S' (nc + mc') (ns + ms')) : J l g me hgt mc ms Q pc lv st0 S nc ns := by
  intro zA zp ze zs zm za zb zt zc zH zo zl zh zv zw
  subst hst
  have hG : GoodIn T0 (va_wsS me.1.cls idx me'.1 (Cond.code me'.1 me'.2.1 me'.2.2.1 me'.2.2.2 :: T0)) := t0_goodIn (fun w h => by
    rcases List.mem_append.mp h with h | h
    · simp only [List.mem_cons, List.not_mem_nil, or_false] at h
      rcases h with rfl | rfl | rfl
      · exact hw
      · exact hv
      · exact hq.2.1
    · rcases List.mem_cons.mp h with rfl | h
      · exact hq.1
      · exact h)
  refine j_call (rest := rest) (va_runS (As := As) (rest := rest) ⟨zh.1, zh.2.1, zh.2.2.2.1, zh.2.2.2.2.2.2.1, zh.2.2.2.2.2.2.2.1⟩ (hM zH.size) (va_cwS n zh.2.2.2.2.2.2.2.1 hG rfl rfl rfl hq.2.2.1 ⟨hh, by show 8 + (me'.2.2.1 + 11) + 36 * h' ≤ 36 * hgt; have := hq.2.2.2.1; omega⟩) ⟨j_blind, fun U hU hW => ⟨rfl, by rw [hU], by rw [hU]; exact zv.1, jK.moved hW.alike zh.2.2.2.2.2.2.2.2, zv.2.1.weaken (fun _ _ _ _ => trivial)⟩⟩ rfl hn zw.1 rfl (lv_room hrm) hdg ⟨hc, hs⟩) zv ?_
  exact fun r S' H1 locs1 hQ hV => k r S' hQ zA zp ze zs zm za zb zt zc H1 locs1 zl zh hV zw
theorem J_callI {me' : jM} {n h' mc' ms' idx : Nat} {Q' : Option Value → jS → Prop} {As st0 : List Value} {b : Nat} (hM : CT l g me' h' mc' ms' (.ref b :: As) S Q') (hq : jMs me' n) (hret : me'.2.2.2 = none) (hv : jMi me') (hw : Cond.methodLink me.1.cls idx me'.1 ∈ T0) (hdg : decode me.2.1 pc = .ok (.invokespecial idx, 3)) (hn : As.length = n) (hst : st0 = As.reverse ++ .ref b :: rest) (hrm : (rest.map fun v => v.category).sum ≤ 8) (hh : h' + 1 ≤ hgt) (hc : nc + mc' ≤ mc) (hs : ns + ms' ≤ ms) (k : ∀ (r : Option Value) (S' : jS), Q' r S' → J l g me hgt mc ms Q (pc + 3) lv (r.toList ++ rest) S' (nc + mc') (ns + ms')) : J l g me hgt mc ms Q pc lv st0 S nc ns := by
  intro zA zp ze zs zm za zb zt zc zH zo zl zh zv zw
  subst hst
  have hG : GoodIn T0 (Cond.code me'.1 me'.2.1 me'.2.2.1 me'.2.2.2 :: T0) := t0_goodIn (fun w h => by
    rcases List.mem_cons.mp h with rfl | h
    · exact hq.1
    · exact h)
  have hts := zh.2.2.2.2.2.2.2.1
  refine j_call (rest := rest) (va_runI (As := As) (rest := rest) (b := b) ⟨zh.1, zh.2.1, zh.2.2.2.1, zh.2.2.2.2.2.2.1, hts⟩ (hM zH.size) (cwI n hts hG (by rw [hret]) rfl rfl (hts _ hq.2.1) (hts _ hw) (hts _ hv.1) hv.2 hq.2.2.1 ⟨hh, by show 8 + (me'.2.2.1 + 11) + 36 * h' ≤ 36 * hgt; have := hq.2.2.2.1; omega⟩) ⟨j_blind, fun U hU hW => ⟨rfl, by rw [hU], by rw [hU]; exact zv.1, jK.moved hW.alike zh.2.2.2.2.2.2.2.2, zv.2.1.weaken (fun _ _ _ _ => trivial)⟩⟩ rfl hn zw.1 rfl (lv_room hrm) hdg ⟨hc, hs⟩) zv ?_
  exact fun r S' H1 locs1 hQ hV => k r S' hQ zA zp ze zs zm za zb zt zc H1 locs1 zl zh hV zw
theorem J_objInit {idx a : Nat} (hw : Cond.methodLink me.1.cls idx objectInit ∈ T0) (hdg : decode me.2.1 pc = .ok (.invokespecial idx, 3)) (hrm : (rest.map fun v => v.category).sum ≤ 8) (hh : 1 ≤ hgt) (k : J l g me hgt mc ms Q (pc + 3) lv rest S nc ns) : J l g me hgt mc ms Q pc lv (.ref a :: rest) S nc ns := by
  intro zA zp ze zs zm za zb zt zc zH zo zl zh zv zw
  have hts := zh.2.2.2.2.2.2.2.1
  refine W.objInit zh.1 zh.2.1 zh.2.2.2.2.2.2.1 (hts _ hw) (hts _ oin_i) (hts _ oin_c) rfl (by rw [zh.2.2.2.1]; exact zw.1) rfl hdg hh (by show 2 * 0 + _ + 12 ≤ 36 * hgt; omega) ?_
  exact k zA zp ze zs zm za zb zt zc zH zo zl zh zv zw
theorem okTys : ∀ c, c < 9 → ∀ j, j < jN c → (jTy c j = .int ∨ jTy c j = .boolean ∨ jTy c j = .long ∨ (∃ C, jTy c j = .object C) ∨ ∃ t, jTy c j = .array t) := by
  intro c hc j hj
  have key : ∀ c, c < 9 → ∀ j, j < jN c → (jI (jTy c j) && !(jTy c j == .int) && !(jTy c j == .boolean)) = false := by decide
  have h := key c hc j hj
  generalize jTy c j = ty at h ⊢
  cases ty with
  | int => exact Or.inl rfl
  | boolean => exact Or.inr (Or.inl rfl)
  | long => exact Or.inr (Or.inr (Or.inl rfl))
  | object C => exact Or.inr (Or.inr (Or.inr (Or.inl ⟨C, rfl⟩)))
  | array t => exact Or.inr (Or.inr (Or.inr (Or.inr ⟨t, rfl⟩)))
  | _ => cases h
theorem J_new {c idx : Nat} {R : String} {T : u_T} (hC : jCl c R T) (hcl : Cond.classLink me.1.cls idx R ∈ T0) (hin : Cond.instantiable R (jN c) ∈ T0) (hini : Cond.initialized R ∈ T0) (hdg : decode me.2.1 pc = .ok (.new idx, 3)) (hc : nc + 1 ≤ mc) (hs : ns + jN c ≤ ms) (k : ∀ q : Nat, q ∉ S.1 → J l g me hgt mc ms Q (pc + 3) lv (.ref q :: rest) (nX S q c 0) (nc + 1) (ns + jN c)) : J l g me hgt mc ms Q pc lv rest S nc ns := by
  intro zA zp ze zs zm za zb zt zc zH zo zl zh zv zw
  have hts := zh.2.2.2.2.2.2.2.1
  refine va_new (D := (g.1, g.2.1)) (cl := vwCl) (ci := c) (C := R) (T := T) (N := jN c) (fs := (List.range (jN c)).map (fun j => defaultValue (jTy c j))) zh.1 zh.2.1 hts hC.2.2.1 (jTy c) hC.2.2.2.2 zh.2.2.2.2.2.2.1 (hts _ hcl) (hts _ hin) (hts _ hini) zh.2.2.2.2.2.2.2.2.1 zv.1 zv.2.1 zv.2.2.1 zv.2.2.2 hC.2.1 (fun j hj => ?_) hc hs hdg (fun q H1 h1 h2 h3 => ?_)
  · simp [vp_V, hj]
  · have hq := jD_fresh h2
    have he : cellOf g (nX S q c 0) q = .inr (c, (List.range (jN c)).map (fun j => defaultValue (jTy c j))) := by
      rw [cell_obj g (S := nX S q c 0) sAt_new hC.1]
      unfold fvs
      congr 2
      apply List.map_congr_left
      intro j hj
      rcases okTys c hC.1 j (List.mem_range.mp hj) with h | h | h | ⟨C, h⟩ | ⟨t, h⟩ <;> rw [h] <;> simp [fv, nX, defaultValue, va_rf]
    rw [jW_new g hq he] at h1 h2
    exact k q hq zA zp ze zs zm za zb zt zc H1 zo zl zh ⟨h1, h2, h3, zv.2.2.2⟩ zw

theorem J_newaI {i : Int32} {n : Nat} (hi : i = nI n) (hn : n < 2 ^ 20) (hdg : decode me.2.1 pc = .ok (.newarray .int, 2)) (hc : nc + 1 ≤ mc) (hs : ns + n ≤ ms) (k : ∀ q : Nat, q ∉ S.1 → J l g me hgt mc ms Q (pc + 2) lv (.ref q :: rest) (nX S q 9 n) (nc + 1) (ns + n)) : J l g me hgt mc ms Q pc lv (.int i :: rest) S nc ns := by
  intro zA zp ze zs zm za zb zt zc zH zo zl zh zv zw
  have hts := zh.2.2.2.2.2.2.2.1
  refine va_newa (D := (g.1, g.2.1)) (cl := vwCl) (ty := .int) (N' := n) (atype := .int) (a0 := (n, .inl (fun _ => 0))) zh.1 zh.2.1 (hts _ arrI) rfl zh.2.2.2.2.2.2.2.2.1 zv.1 zv.2.1 zv.2.2.1 zv.2.2.2 (fun cA => by rw [vp_cell_i]; rfl) (by rw [hi]; exact nI_pos (by omega)) (by rw [hi]; exact nI_clamp (by omega)) (by show n * _ ≤ _; simp [componentBytes]; omega) hc hs hdg (fun q cA H1 h0 h1 h2 h3 => ?_)
  have hq := jD_fresh h2
  have hcA : cA = g.2.2 9 := by
    have e1 := (h0.2 5 (cA, .int) rfl).2
    have e2 := (zh.2.2.2.2.2.2.2.2.1.2 0 (g.2.2 9, .int) rfl).2
    exact Option.some.inj (Eq.trans (Eq.symm e1) e2)
  subst hcA
  have he : cellOf g (nX S q 9 n) q = .inl (g.2.2 9, n, .inl (fun _ => 0)) := by
    rw [cell_int g (S := nX S q 9 n) (c := 9) sAt_new (by decide) (by decide)]
    have e1 : sN (nX S q 9 n) q = n := va_up_self _ _ _
    have e2 : sI (nX S q 9 n) 9 q = fun _ => 0 := funext fun j => by simp [sI_new]
    rw [e1, e2]
  rw [jW_new g hq he] at h1 h2
  exact k q hq zA zp ze zs zm za zb zt zc H1 zo zl zh ⟨h1, h2, h3, zv.2.2.2⟩ zw
theorem J_newaZ {i : Int32} {n : Nat} (hi : i = nI n) (hn : n < 2 ^ 20) (hdg : decode me.2.1 pc = .ok (.newarray .boolean, 2)) (hc : nc + 1 ≤ mc) (hs : ns + n ≤ ms) (k : ∀ q : Nat, q ∉ S.1 → J l g me hgt mc ms Q (pc + 2) lv (.ref q :: rest) (nX S q 10 n) (nc + 1) (ns + n)) : J l g me hgt mc ms Q pc lv (.int i :: rest) S nc ns := by
  intro zA zp ze zs zm za zb zt zc zH zo zl zh zv zw
  have hts := zh.2.2.2.2.2.2.2.1
  refine va_newa (D := (g.1, g.2.1)) (cl := vwCl) (ty := .boolean) (N' := n) (atype := .boolean) (a0 := (n, .inl (fun _ => 0))) zh.1 zh.2.1 (hts _ arrZ) rfl zh.2.2.2.2.2.2.2.2.1 zv.1 zv.2.1 zv.2.2.1 zv.2.2.2 (fun cA => by rw [vp_cell_i]; rfl) (by rw [hi]; exact nI_pos (by omega)) (by rw [hi]; exact nI_clamp (by omega)) (by show n * _ ≤ _; simp [componentBytes]; omega) hc hs hdg (fun q cA H1 h0 h1 h2 h3 => ?_)
  have hq := jD_fresh h2
  have hcA : cA = g.2.2 10 := by
    have e1 := (h0.2 5 (cA, .boolean) rfl).2
    have e2 := (zh.2.2.2.2.2.2.2.2.1.2 1 (g.2.2 10, .boolean) rfl).2
    exact Option.some.inj (Eq.trans (Eq.symm e1) e2)
  subst hcA
  have he : cellOf g (nX S q 10 n) q = .inl (g.2.2 10, n, .inl (fun _ => 0)) := by
    rw [cell_int g (S := nX S q 10 n) (c := 10) sAt_new (by decide) (by decide)]
    have e1 : sN (nX S q 10 n) q = n := va_up_self _ _ _
    have e2 : sI (nX S q 10 n) 10 q = fun _ => 0 := funext fun j => by simp [sI_new]
    rw [e1, e2]
  rw [jW_new g hq he] at h1 h2
  exact k q hq zA zp ze zs zm za zb zt zc H1 zo zl zh ⟨h1, h2, h3, zv.2.2.2⟩ zw
theorem J_newr11 {i : Int32} {n idx : Nat} (hi : i = nI n) (hn : n < 2 ^ 20) (hcl : Cond.classLink me.1.cls idx RX3 ∈ T0) (hdg : decode me.2.1 pc = .ok (.anewarray idx, 3)) (hc : nc + 1 ≤ mc) (hs : ns + n ≤ ms) (k : ∀ q : Nat, q ∉ S.1 → J l g me hgt mc ms Q (pc + 3) lv (.ref q :: rest) (nX S q 11 n) (nc + 1) (ns + n)) : J l g me hgt mc ms Q pc lv (.int i :: rest) S nc ns := by
  intro zA zp ze zs zm za zb zt zc zH zo zl zh zv zw
  have hts := zh.2.2.2.2.2.2.2.1
  refine va_newq (D := (g.1, g.2.1)) (cl := vwCl) (C := RX3) (N' := n) zh.1 zh.2.1 zh.2.2.2.2.2.2.1 (hts _ hcl) zh.2.2.2.2.2.2.2.2.2.1 zh.2.2.2.2.2.2.2.2.1 zv.1 zv.2.1 zv.2.2.1 zv.2.2.2 (by rw [hi]; exact nI_pos (by omega)) (by rw [hi]; exact nI_clamp (by omega)) (by omega) hc hs hdg (fun q cA H1 h0 h1 h2 h3 => ?_)
  have hq := jD_fresh h2
  have hcA : cA = g.2.2 11 := by
    obtain ⟨_, _, _, _, _, e1⟩ := (h0.2 5 (cA, .object RX3) rfl).2
    obtain ⟨_, _, _, _, _, e2⟩ := (zh.2.2.2.2.2.2.2.2.1.2 2 (g.2.2 11, .object RX3) rfl).2
    exact Option.some.inj (Eq.trans (Eq.symm e1) e2)
  subst hcA
  have he : cellOf g (nX S q 11 n) q = .inl (g.2.2 11, n, .inr (.inr (.inr (.inr (fun _ => none))))) := by
    rw [cell_ref g (S := nX S q 11 n) (c := 11) sAt_new (by decide)]
    have e1 : sN (nX S q 11 n) q = n := va_up_self _ _ _
    have e2 : sP (nX S q 11 n) 11 q = fun _ => none := funext fun j => by simp [sP_new]
    rw [e1, e2]
  rw [jW_new g hq he] at h1 h2
  exact k q hq zA zp ze zs zm za zb zt zc H1 zo zl zh ⟨h1, h2, h3, zv.2.2.2⟩ zw
theorem J_newr12 {i : Int32} {n idx : Nat} (hi : i = nI n) (hn : n < 2 ^ 20) (hcl : Cond.classLink me.1.cls idx RX4 ∈ T0) (hdg : decode me.2.1 pc = .ok (.anewarray idx, 3)) (hc : nc + 1 ≤ mc) (hs : ns + n ≤ ms) (k : ∀ q : Nat, q ∉ S.1 → J l g me hgt mc ms Q (pc + 3) lv (.ref q :: rest) (nX S q 12 n) (nc + 1) (ns + n)) : J l g me hgt mc ms Q pc lv (.int i :: rest) S nc ns := by
  intro zA zp ze zs zm za zb zt zc zH zo zl zh zv zw
  have hts := zh.2.2.2.2.2.2.2.1
  refine va_newq (D := (g.1, g.2.1)) (cl := vwCl) (C := RX4) (N' := n) zh.1 zh.2.1 zh.2.2.2.2.2.2.1 (hts _ hcl) zh.2.2.2.2.2.2.2.2.2.2.1 zh.2.2.2.2.2.2.2.2.1 zv.1 zv.2.1 zv.2.2.1 zv.2.2.2 (by rw [hi]; exact nI_pos (by omega)) (by rw [hi]; exact nI_clamp (by omega)) (by omega) hc hs hdg (fun q cA H1 h0 h1 h2 h3 => ?_)
  have hq := jD_fresh h2
  have hcA : cA = g.2.2 12 := by
    obtain ⟨_, _, _, _, _, e1⟩ := (h0.2 5 (cA, .object RX4) rfl).2
    obtain ⟨_, _, _, _, _, e2⟩ := (zh.2.2.2.2.2.2.2.2.1.2 3 (g.2.2 12, .object RX4) rfl).2
    exact Option.some.inj (Eq.trans (Eq.symm e1) e2)
  subst hcA
  have he : cellOf g (nX S q 12 n) q = .inl (g.2.2 12, n, .inr (.inr (.inr (.inr (fun _ => none))))) := by
    rw [cell_ref g (S := nX S q 12 n) (c := 12) sAt_new (by decide)]
    have e1 : sN (nX S q 12 n) q = n := va_up_self _ _ _
    have e2 : sP (nX S q 12 n) 12 q = fun _ => none := funext fun j => by simp [sP_new]
    rw [e1, e2]
  rw [jW_new g hq he] at h1 h2
  exact k q hq zA zp ze zs zm za zb zt zc H1 zo zl zh ⟨h1, h2, h3, zv.2.2.2⟩ zw
theorem J_newr13 {i : Int32} {n idx : Nat} (hi : i = nI n) (hn : n < 2 ^ 20) (hcl : Cond.classLink me.1.cls idx RX7 ∈ T0) (hdg : decode me.2.1 pc = .ok (.anewarray idx, 3)) (hc : nc + 1 ≤ mc) (hs : ns + n ≤ ms) (k : ∀ q : Nat, q ∉ S.1 → J l g me hgt mc ms Q (pc + 3) lv (.ref q :: rest) (nX S q 13 n) (nc + 1) (ns + n)) : J l g me hgt mc ms Q pc lv (.int i :: rest) S nc ns := by
  intro zA zp ze zs zm za zb zt zc zH zo zl zh zv zw
  have hts := zh.2.2.2.2.2.2.2.1
  refine va_newq (D := (g.1, g.2.1)) (cl := vwCl) (C := RX7) (N' := n) zh.1 zh.2.1 zh.2.2.2.2.2.2.1 (hts _ hcl) zh.2.2.2.2.2.2.2.2.2.2.2 zh.2.2.2.2.2.2.2.2.1 zv.1 zv.2.1 zv.2.2.1 zv.2.2.2 (by rw [hi]; exact nI_pos (by omega)) (by rw [hi]; exact nI_clamp (by omega)) (by omega) hc hs hdg (fun q cA H1 h0 h1 h2 h3 => ?_)
  have hq := jD_fresh h2
  have hcA : cA = g.2.2 13 := by
    obtain ⟨_, _, _, _, _, e1⟩ := (h0.2 5 (cA, .object RX7) rfl).2
    obtain ⟨_, _, _, _, _, e2⟩ := (zh.2.2.2.2.2.2.2.2.1.2 4 (g.2.2 13, .object RX7) rfl).2
    exact Option.some.inj (Eq.trans (Eq.symm e1) e2)
  subst hcA
  have he : cellOf g (nX S q 13 n) q = .inl (g.2.2 13, n, .inr (.inr (.inr (.inr (fun _ => none))))) := by
    rw [cell_ref g (S := nX S q 13 n) (c := 13) sAt_new (by decide)]
    have e1 : sN (nX S q 13 n) q = n := va_up_self _ _ _
    have e2 : sP (nX S q 13 n) 13 q = fun _ => none := funext fun j => by simp [sP_new]
    rw [e1, e2]
  rw [jW_new g hq he] at h1 h2
  exact k q hq zA zp ze zs zm za zb zt zc H1 zo zl zh ⟨h1, h2, h3, zv.2.2.2⟩ zw
end JC
theorem cl0 : jCl 0 RX1 TX1 := ⟨by decide, rfl, iT0, nmX1, tyX1_ok⟩
theorem cl1 : jCl 1 RX2 TX2 := ⟨by decide, rfl, iT1, nmX2, tyX2_ok⟩
theorem cl2 : jCl 2 RX3 TX3 := ⟨by decide, rfl, iT2, nmX3, tyX3_ok⟩
theorem cl3 : jCl 3 RX4 TX4 := ⟨by decide, rfl, iT3, nmX4, tyX4_ok⟩
theorem cl4 : jCl 4 RX6 TX6 := ⟨by decide, rfl, iT4, nmX6, tyX6_ok⟩
theorem cl5 : jCl 5 RX7 TX7 := ⟨by decide, rfl, iT5, nmX7, tyX7_ok⟩
theorem cl6 : jCl 6 RX8 TX8 := ⟨by decide, rfl, iT6, nmX8, tyX8_ok⟩
theorem cl7 : jCl 7 RX9 TX9 := ⟨by decide, rfl, iT7, nmX9, tyX9_ok⟩
theorem cl8 : jCl 8 RX10 TX10 := ⟨by decide, rfl, iT8, nmX10, tyX10_ok⟩
end
section
theorem inc1 (j : Nat) : nI j + Int32.ofInt 1 = nI (j + 1) := by rw [nI_succ]; rfl
section JX
variable {l : Launch} {g : jG} {me : jM} {hgt mc ms : Nat} {Q : Option Value → jS → Prop} {pc : Nat} {lv : List (Nat × Value)} {rest : List Value} {S : jS} {nc ns : Nat}
theorem J_lcmp {x y : Int64} (hdg : decode me.2.1 pc = .ok (.lcmp, 1)) (k : J l g me hgt mc ms Q (pc + 1) lv (.int (lg_cmp x y) :: rest) S nc ns) : J l g me hgt mc ms Q pc lv (.long y :: .long x :: rest) S nc ns := fun zA zp ze zs zm za zb zt zc zH zo zl zh zv zw => W.lcmp zh.1 zh.2.1 hdg (k zA zp ze zs zm za zb zt zc zH zo zl zh zv zw)
end JX
/-- the answer v, the memory as it was -/
abbrev jPure (v : Value) (S : jS) : Option Value → jS → Prop := fun r S' => r = some v ∧ S = S'
/-- a ring of n places at p, its object at a: first f, size s -/
def rowAt (S : jS) (a p n f s : Nat) : Prop := sAt S 5 a ∧ sP S 5 a 0 = some p ∧ sI S 5 a 1 = nI f ∧ sI S 5 a 2 = nI s ∧ aAt S 9 p n ∧ f < n ∧ s ≤ n ∧ n < 2 ^ 20
set_option maxRecDepth 100000 in
theorem c_Row_size (l : Launch) (g : jG) (hgt : Nat) {S : jS} {a p n f s : Nat} (h : rowAt S a p n f s) : CT l g mX7_size hgt 0 0 [.ref a] S (jPure (.int (nI s)) S) := by
  obtain ⟨h1, h2, h3, h4, h5, h6, h7, h8⟩ := h
  refine CT_of qX7_size (Nat.le_of_ble_eq_true rfl) ?_
  refine J_aload_n (pc := 0) dX7_size_0 rfl rfl ?_
  refine J_geti (pc := 1) (i := 2) cl5 h1 (by decide) rfl h4 kX7_13 dX7_size_1 ?_
  refine J_iret (pc := 4) dX7_size_4 rfl (by omega) (by omega) ?_
  exact ⟨rfl, rfl⟩
set_option maxRecDepth 100000 in
theorem c_Row_put (l : Launch) (g : jG) (hgt : Nat) {S : jS} {a p n f s : Nat} (x : Int32) (h : rowAt S a p n f s) : CT l g mX7_put hgt 0 0 [.ref a, .int x] S (fun r S' => if s = n then r = some (.int 0) ∧ S' = S else r = some (.int 1) ∧ S' = uI (uI S 9 p ((f + s) % n) x) 5 a 2 (nI (s + 1))) := by
  obtain ⟨h1, h2, h3, h4, h5, h6, h7, h8⟩ := h
  refine CT_of qX7_put (Nat.le_of_ble_eq_true rfl) ?_
  refine J_aload_n (pc := 0) dX7_put_0 rfl rfl ?_
  refine J_geti (pc := 1) (i := 2) cl5 h1 (by decide) rfl h4 kX7_13 dX7_put_1 ?_
  refine J_aload_n (pc := 4) dX7_put_4 rfl rfl ?_
  refine J_getr (pc := 5) (i := 0) cl5 h1 (by decide) rfl h2 kX7_16 dX7_put_5 ?_
  refine J_alenI (pc := 8) h5.1 (Or.inl rfl) (congrArg nI h5.2) dX7_put_8 ?_
  refine J_icmp_lt (pc := 9) (tgt := 14) dX7_put_9 rfl (fun hc => ?_) (fun hc => ?_)
  · have hc := (nI_ltI (by omega) (by omega)).mp hc
    refine J_aload_n (pc := 14) dX7_put_14 rfl rfl ?_
    refine J_geti (pc := 15) (i := 1) cl5 h1 (by decide) rfl h3 kX7_7 dX7_put_15 ?_
    refine J_aload_n (pc := 18) dX7_put_18 rfl rfl ?_
    refine J_geti (pc := 19) (i := 2) cl5 h1 (by decide) rfl h4 kX7_13 dX7_put_19 ?_
    first | refine J_iaddN (pc := 22) dX7_put_22 ?_ | refine J_iadd (pc := 22) dX7_put_22 ?_
    refine J_istore_n (pc := 23) dX7_put_23 rfl (by decide) ?_
    refine J_aload_n (pc := 24) dX7_put_24 rfl rfl ?_
    refine J_getr (pc := 25) (i := 0) cl5 h1 (by decide) rfl h2 kX7_16 dX7_put_25 ?_
    refine J_iload_n (pc := 28) dX7_put_28 rfl rfl ?_
    refine J_aload_n (pc := 29) dX7_put_29 rfl rfl ?_
    refine J_getr (pc := 30) (i := 0) cl5 h1 (by decide) rfl h2 kX7_16 dX7_put_30 ?_
    refine J_alenI (pc := 33) h5.1 (Or.inl rfl) (congrArg nI h5.2) dX7_put_33 ?_
    rw [nI_add]
    refine J_icmp_ge (pc := 34) (tgt := 41) dX7_put_34 rfl (fun hc => ?_) (fun hc => ?_)
    · have hc := (nI_leI (by omega) (by omega)).mp hc
      have e : (f + s) % n = f + s - n := by rw [Nat.mod_eq_sub_mod hc, Nat.mod_eq_of_lt (by omega)]
      refine J_iload_n (pc := 41) dX7_put_41 rfl rfl ?_
      refine J_aload_n (pc := 42) dX7_put_42 rfl rfl ?_
      refine J_getr (pc := 43) (i := 0) cl5 h1 (by decide) rfl h2 kX7_16 dX7_put_43 ?_
      refine J_alenI (pc := 46) h5.1 (Or.inl rfl) (congrArg nI h5.2) dX7_put_46 ?_
      first | refine J_isubN (pc := 47) dX7_put_47 (by omega) ?_ | refine J_isub (pc := 47) dX7_put_47 ?_
      refine J_top ((pk_sub hc).trans (congrArg nI e.symm)) ?_
      refine J_iload_n (pc := 48) dX7_put_48 rfl rfl ?_
      refine J_iast (pc := 49) h5 rfl (Nat.mod_lt _ (by omega)) (by first | omega | exact mLn_lt _) dX7_put_49 ?_
      refine J_aload_n (pc := 50) dX7_put_50 rfl rfl ?_
      refine J_dup (pc := 51) dX7_put_51 rfl ?_
      refine J_geti (pc := 52) (i := 2) cl5 h1 (by decide) rfl h4 kX7_13 dX7_put_52 ?_
      refine J_iconst (pc := 55) (v := nI 1) dX7_put_55 (by decide) ?_
      first | refine J_iaddN (pc := 56) dX7_put_56 ?_ | refine J_iadd (pc := 56) dX7_put_56 ?_
      rw [nI_add]
      refine J_puti (pc := 57) (i := 2) cl5 h1 (by decide) rfl rfl rfl rfl kX7_13 dX7_put_57 ?_
      refine J_iconst (pc := 60) (v := nI 1) dX7_put_60 (by decide) ?_
      refine J_zret (pc := 61) dX7_put_61 rfl rfl (by omega) (by omega) ?_
      show if s = n then _ else _
      rw [if_neg (by omega)]
      exact ⟨rfl, rfl⟩
    · have hc := (Decidable.not_iff_not.mpr (nI_leI (by omega) (by omega))).mp hc
      have e : (f + s) % n = f + s := Nat.mod_eq_of_lt (by omega)
      refine J_iload_n (pc := 37) dX7_put_37 rfl rfl ?_
      refine J_goto (pc := 38) (tgt := 48) dX7_put_38 rfl ?_
      refine J_top (congrArg nI e.symm) ?_
      refine J_iload_n (pc := 48) dX7_put_48 rfl rfl ?_
      refine J_iast (pc := 49) h5 rfl (Nat.mod_lt _ (by omega)) (by first | omega | exact mLn_lt _) dX7_put_49 ?_
      refine J_aload_n (pc := 50) dX7_put_50 rfl rfl ?_
      refine J_dup (pc := 51) dX7_put_51 rfl ?_
      refine J_geti (pc := 52) (i := 2) cl5 h1 (by decide) rfl h4 kX7_13 dX7_put_52 ?_
      refine J_iconst (pc := 55) (v := nI 1) dX7_put_55 (by decide) ?_
      first | refine J_iaddN (pc := 56) dX7_put_56 ?_ | refine J_iadd (pc := 56) dX7_put_56 ?_
      rw [nI_add]
      refine J_puti (pc := 57) (i := 2) cl5 h1 (by decide) rfl rfl rfl rfl kX7_13 dX7_put_57 ?_
      refine J_iconst (pc := 60) (v := nI 1) dX7_put_60 (by decide) ?_
      refine J_zret (pc := 61) dX7_put_61 rfl rfl (by omega) (by omega) ?_
      show if s = n then _ else _
      rw [if_neg (by omega)]
      exact ⟨rfl, rfl⟩
  · have hc := (Decidable.not_iff_not.mpr (nI_ltI (by omega) (by omega))).mp hc
    refine J_iconst (pc := 12) (v := nI 0) dX7_put_12 (by decide) ?_
    refine J_zret (pc := 13) dX7_put_13 rfl rfl (by omega) (by omega) ?_
    show if s = n then _ else _
    rw [if_pos (by omega)]
    exact ⟨rfl, rfl⟩
set_option maxRecDepth 100000 in
theorem c_Row_take (l : Launch) (g : jG) (hgt : Nat) {S : jS} {a p n f s : Nat} (h : rowAt S a p n f s) : CT l g mX7_take hgt 0 0 [.ref a] S (fun r S' => if s = 0 then r = some (.int (-1)) ∧ S' = S else r = some (.int (sI S 9 p f)) ∧ S' = uI (uI S 5 a 1 (nI ((f + 1) % n))) 5 a 2 (nI (s - 1))) := by
  obtain ⟨h1, h2, h3, h4, h5, h6, h7, h8⟩ := h
  refine CT_of qX7_take (Nat.le_of_ble_eq_true rfl) ?_
  refine J_aload_n (pc := 0) dX7_take_0 rfl rfl ?_
  refine J_geti (pc := 1) (i := 2) cl5 h1 (by decide) rfl h4 kX7_13 dX7_take_1 ?_
  refine J_if_ne (pc := 4) (tgt := 9) dX7_take_4 rfl (fun hc => ?_) (fun hc => ?_)
  · have hc : ¬ s = 0 := fun e => hc (by rw [e]; rfl)
    refine J_aload_n (pc := 9) dX7_take_9 rfl rfl ?_
    refine J_getr (pc := 10) (i := 0) cl5 h1 (by decide) rfl h2 kX7_16 dX7_take_10 ?_
    refine J_aload_n (pc := 13) dX7_take_13 rfl rfl ?_
    refine J_geti (pc := 14) (i := 1) cl5 h1 (by decide) rfl h3 kX7_7 dX7_take_14 ?_
    refine J_iald (pc := 17) h5 rfl h6 (by first | omega | exact mLn_lt _) rfl dX7_take_17 ?_
    refine J_istore_n (pc := 18) dX7_take_18 rfl (by decide) ?_
    refine J_aload_n (pc := 19) dX7_take_19 rfl rfl ?_
    refine J_aload_n (pc := 20) dX7_take_20 rfl rfl ?_
    refine J_geti (pc := 21) (i := 1) cl5 h1 (by decide) rfl h3 kX7_7 dX7_take_21 ?_
    refine J_iconst (pc := 24) (v := nI 1) dX7_take_24 (by decide) ?_
    first | refine J_iaddN (pc := 25) dX7_take_25 ?_ | refine J_iadd (pc := 25) dX7_take_25 ?_
    refine J_aload_n (pc := 26) dX7_take_26 rfl rfl ?_
    refine J_getr (pc := 27) (i := 0) cl5 h1 (by decide) rfl h2 kX7_16 dX7_take_27 ?_
    refine J_alenI (pc := 30) h5.1 (Or.inl rfl) (congrArg nI h5.2) dX7_take_30 ?_
    rw [nI_add]
    refine J_icmp_ge (pc := 31) (tgt := 43) dX7_take_31 rfl (fun hc => ?_) (fun hc => ?_)
    · have hc := (nI_leI (by omega) (by omega)).mp hc
      have e : (f + 1) % n = 0 := by rw [show f + 1 = n by omega, Nat.mod_self]
      refine J_iconst (pc := 43) (v := nI 0) dX7_take_43 (by decide) ?_
      refine J_top (congrArg nI e.symm) ?_
      refine J_puti (pc := 44) (i := 1) cl5 h1 (by decide) rfl rfl rfl rfl kX7_7 dX7_take_44 ?_
      refine J_aload_n (pc := 47) dX7_take_47 rfl rfl ?_
      refine J_dup (pc := 48) dX7_take_48 rfl ?_
      refine J_geti (pc := 49) (i := 2) cl5 h1 (by decide) rfl (sI_nk (by decide) h4) kX7_13 dX7_take_49 ?_
      refine J_iconst (pc := 52) (v := nI 1) dX7_take_52 (by decide) ?_
      first | refine J_isubN (pc := 53) dX7_take_53 (by omega) ?_ | refine J_isub (pc := 53) dX7_take_53 ?_
      refine J_top (pk_sub (by omega)) ?_
      refine J_puti (pc := 54) (i := 2) cl5 h1 (by decide) rfl rfl rfl rfl kX7_13 dX7_take_54 ?_
      refine J_iload_n (pc := 57) dX7_take_57 rfl rfl ?_
      refine J_iret (pc := 58) dX7_take_58 rfl (by omega) (by omega) ?_
      show if s = 0 then _ else _
      rw [if_neg (by omega)]
      exact ⟨rfl, rfl⟩
    · have hc := (Decidable.not_iff_not.mpr (nI_leI (by omega) (by omega))).mp hc
      have e : (f + 1) % n = f + 1 := Nat.mod_eq_of_lt (by omega)
      refine J_aload_n (pc := 34) dX7_take_34 rfl rfl ?_
      refine J_geti (pc := 35) (i := 1) cl5 h1 (by decide) rfl h3 kX7_7 dX7_take_35 ?_
      refine J_iconst (pc := 38) (v := nI 1) dX7_take_38 (by decide) ?_
      first | refine J_iaddN (pc := 39) dX7_take_39 ?_ | refine J_iadd (pc := 39) dX7_take_39 ?_
      refine J_goto (pc := 40) (tgt := 44) dX7_take_40 rfl ?_
      refine J_top ((nI_add _ _).trans (congrArg nI e.symm)) ?_
      refine J_puti (pc := 44) (i := 1) cl5 h1 (by decide) rfl rfl rfl rfl kX7_7 dX7_take_44 ?_
      refine J_aload_n (pc := 47) dX7_take_47 rfl rfl ?_
      refine J_dup (pc := 48) dX7_take_48 rfl ?_
      refine J_geti (pc := 49) (i := 2) cl5 h1 (by decide) rfl (sI_nk (by decide) h4) kX7_13 dX7_take_49 ?_
      refine J_iconst (pc := 52) (v := nI 1) dX7_take_52 (by decide) ?_
      first | refine J_isubN (pc := 53) dX7_take_53 (by omega) ?_ | refine J_isub (pc := 53) dX7_take_53 ?_
      refine J_top (pk_sub (by omega)) ?_
      refine J_puti (pc := 54) (i := 2) cl5 h1 (by decide) rfl rfl rfl rfl kX7_13 dX7_take_54 ?_
      refine J_iload_n (pc := 57) dX7_take_57 rfl rfl ?_
      refine J_iret (pc := 58) dX7_take_58 rfl (by omega) (by omega) ?_
      show if s = 0 then _ else _
      rw [if_neg (by omega)]
      exact ⟨rfl, rfl⟩
  · have hc : s = 0 := by
      have h := (nI_eq (a := s) (b := 0) (by omega) (by omega)).mp hc
      exact h
    refine J_iconst (pc := 7) (v := (-1)) dX7_take_7 (by decide) ?_
    refine J_iret (pc := 8) dX7_take_8 rfl (by omega) (by omega) ?_
    show if s = 0 then _ else _
    rw [if_pos hc]
    exact ⟨rfl, rfl⟩
end
section
def bI (b : Bool) : Int32 := if b then 1 else 0
theorem bI_t : bI true = 1 := rfl
theorem bI_f : bI false = 0 := rfl
theorem bI_n (b : Bool) : narrow .boolean (.int (bI b)) = .int (bI b) := by cases b <;> rfl
theorem bI_v (b : Bool) : vp_nar .boolean (bI b) = bI b := by cases b <;> rfl
theorem bI_nI (b : Bool) : bI b = nI (if b then 1 else 0) := by cases b <;> rfl
theorem bI_1 : bI true = nI 1 := rfl
theorem bI_0 : bI false = nI 0 := rfl
section JN
variable {l : Launch} {g : jG} {me : jM} {hgt mc ms : Nat} {Q : Option Value → jS → Prop} {pc : Nat} {lv : List (Nat × Value)} {rest : List Value} {S : jS} {nc ns : Nat}
theorem J_iaddN {a b : Nat} (hdg : decode me.2.1 pc = .ok (.iadd, 1)) (k : J l g me hgt mc ms Q (pc + 1) lv (.int (nI (a + b)) :: rest) S nc ns) : J l g me hgt mc ms Q pc lv (.int (nI b) :: .int (nI a) :: rest) S nc ns := J_iadd hdg (by rw [nI_add]; exact k)
theorem J_isubN {a b : Nat} (hdg : decode me.2.1 pc = .ok (.isub, 1)) (h : b ≤ a) (k : J l g me hgt mc ms Q (pc + 1) lv (.int (nI (a - b)) :: rest) S nc ns) : J l g me hgt mc ms Q pc lv (.int (nI b) :: .int (nI a) :: rest) S nc ns := J_isub hdg (by rw [pk_sub h]; exact k)
theorem J_imulN {a b : Nat} (hdg : decode me.2.1 pc = .ok (.imul, 1)) (k : J l g me hgt mc ms Q (pc + 1) lv (.int (nI (a * b)) :: rest) S nc ns) : J l g me hgt mc ms Q pc lv (.int (nI b) :: .int (nI a) :: rest) S nc ns := J_imul hdg (by rw [pk_mul]; exact k)
theorem J_idivN {a b : Nat} (hdg : decode me.2.1 pc = .ok (.idiv, 1)) (ha : a < 2 ^ 31) (h0 : 0 < b) (hb : b < 2 ^ 31) (k : J l g me hgt mc ms Q (pc + 1) lv (.int (nI (a / b)) :: rest) S nc ns) : J l g me hgt mc ms Q pc lv (.int (nI b) :: .int (nI a) :: rest) S nc ns := J_idiv hdg (nI_ne0 h0 hb) (by rw [pk_div ha h0 hb]; exact k)
theorem J_iremN {a b : Nat} (hdg : decode me.2.1 pc = .ok (.irem, 1)) (ha : a < 2 ^ 31) (h0 : 0 < b) (hb : b < 2 ^ 31) (k : J l g me hgt mc ms Q (pc + 1) lv (.int (nI (a % b)) :: rest) S nc ns) : J l g me hgt mc ms Q pc lv (.int (nI b) :: .int (nI a) :: rest) S nc ns := J_irem hdg (nI_ne0 h0 hb) (by rw [pk_rem ha h0 hb]; exact k)
theorem J_icmp_ltN {a b : Nat} {off : Int} {tgt : Nat} (hdg : decode me.2.1 pc = .ok (.if_icmp .lt off, 3)) (ht : (pc : Int) + off = (tgt : Int)) (ha : a < 2 ^ 31) (hb : b < 2 ^ 31) (kt : a < b → J l g me hgt mc ms Q tgt lv rest S nc ns) (kf : b ≤ a → J l g me hgt mc ms Q (pc + 3) lv rest S nc ns) : J l g me hgt mc ms Q pc lv (.int (nI b) :: .int (nI a) :: rest) S nc ns := J_icmp_lt hdg ht (fun z => kt ((nI_ltI ha hb).mp z)) (fun z => kf (Nat.not_lt.mp (fun w => z ((nI_ltI ha hb).mpr w))))
theorem J_icmp_geN {a b : Nat} {off : Int} {tgt : Nat} (hdg : decode me.2.1 pc = .ok (.if_icmp .ge off, 3)) (ht : (pc : Int) + off = (tgt : Int)) (ha : a < 2 ^ 31) (hb : b < 2 ^ 31) (kt : b ≤ a → J l g me hgt mc ms Q tgt lv rest S nc ns) (kf : a < b → J l g me hgt mc ms Q (pc + 3) lv rest S nc ns) : J l g me hgt mc ms Q pc lv (.int (nI b) :: .int (nI a) :: rest) S nc ns := J_icmp_ge hdg ht (fun z => kt ((nI_leI hb ha).mp z)) (fun z => kf (Nat.not_le.mp (fun w => z ((nI_leI hb ha).mpr w))))
theorem J_icmp_gtN {a b : Nat} {off : Int} {tgt : Nat} (hdg : decode me.2.1 pc = .ok (.if_icmp .gt off, 3)) (ht : (pc : Int) + off = (tgt : Int)) (ha : a < 2 ^ 31) (hb : b < 2 ^ 31) (kt : b < a → J l g me hgt mc ms Q tgt lv rest S nc ns) (kf : a ≤ b → J l g me hgt mc ms Q (pc + 3) lv rest S nc ns) : J l g me hgt mc ms Q pc lv (.int (nI b) :: .int (nI a) :: rest) S nc ns := J_icmp_gt hdg ht (fun z => kt ((nI_ltI hb ha).mp z)) (fun z => kf (Nat.not_lt.mp (fun w => z ((nI_ltI hb ha).mpr w))))
theorem J_icmp_leN {a b : Nat} {off : Int} {tgt : Nat} (hdg : decode me.2.1 pc = .ok (.if_icmp .le off, 3)) (ht : (pc : Int) + off = (tgt : Int)) (ha : a < 2 ^ 31) (hb : b < 2 ^ 31) (kt : a ≤ b → J l g me hgt mc ms Q tgt lv rest S nc ns) (kf : b < a → J l g me hgt mc ms Q (pc + 3) lv rest S nc ns) : J l g me hgt mc ms Q pc lv (.int (nI b) :: .int (nI a) :: rest) S nc ns := J_icmp_le hdg ht (fun z => kt ((nI_leI ha hb).mp z)) (fun z => kf (Nat.not_le.mp (fun w => z ((nI_leI ha hb).mpr w))))
theorem J_icmp_eqN {a b : Nat} {off : Int} {tgt : Nat} (hdg : decode me.2.1 pc = .ok (.if_icmp .eq off, 3)) (ht : (pc : Int) + off = (tgt : Int)) (ha : a < 2 ^ 31) (hb : b < 2 ^ 31) (kt : a = b → J l g me hgt mc ms Q tgt lv rest S nc ns) (kf : a ≠ b → J l g me hgt mc ms Q (pc + 3) lv rest S nc ns) : J l g me hgt mc ms Q pc lv (.int (nI b) :: .int (nI a) :: rest) S nc ns := J_icmp_eq hdg ht (fun z => kt ((nI_eq ha hb).mp z)) (fun z => kf (fun w => z ((nI_eq ha hb).mpr w)))
theorem J_icmp_neN {a b : Nat} {off : Int} {tgt : Nat} (hdg : decode me.2.1 pc = .ok (.if_icmp .ne off, 3)) (ht : (pc : Int) + off = (tgt : Int)) (ha : a < 2 ^ 31) (hb : b < 2 ^ 31) (kt : a ≠ b → J l g me hgt mc ms Q tgt lv rest S nc ns) (kf : a = b → J l g me hgt mc ms Q (pc + 3) lv rest S nc ns) : J l g me hgt mc ms Q pc lv (.int (nI b) :: .int (nI a) :: rest) S nc ns := J_icmp_ne hdg ht (fun z => kt (fun w => z ((nI_eq ha hb).mpr w))) (fun z => kf ((nI_eq ha hb).mp z))
theorem J_if_eqN {a : Nat} {off : Int} {tgt : Nat} (hdg : decode me.2.1 pc = .ok (.ifCond .eq off, 3)) (ht : (pc : Int) + off = (tgt : Int)) (ha : a < 2 ^ 31) (kt : a = 0 → J l g me hgt mc ms Q tgt lv rest S nc ns) (kf : a ≠ 0 → J l g me hgt mc ms Q (pc + 3) lv rest S nc ns) : J l g me hgt mc ms Q pc lv (.int (nI a) :: rest) S nc ns := J_if_eq hdg ht (fun w => kt ((nI_eq (b := 0) ha (by decide)).mp w)) (fun w => kf (fun v => w ((nI_eq (b := 0) ha (by decide)).mpr v)))
theorem J_if_neN {a : Nat} {off : Int} {tgt : Nat} (hdg : decode me.2.1 pc = .ok (.ifCond .ne off, 3)) (ht : (pc : Int) + off = (tgt : Int)) (ha : a < 2 ^ 31) (kt : a ≠ 0 → J l g me hgt mc ms Q tgt lv rest S nc ns) (kf : a = 0 → J l g me hgt mc ms Q (pc + 3) lv rest S nc ns) : J l g me hgt mc ms Q pc lv (.int (nI a) :: rest) S nc ns := J_if_ne hdg ht (fun w => kt (fun v => w ((nI_eq (b := 0) ha (by decide)).mpr v))) (fun w => kf ((nI_eq (b := 0) ha (by decide)).mp w))
theorem J_if_ltN {a : Nat} {off : Int} {tgt : Nat} (hdg : decode me.2.1 pc = .ok (.ifCond .lt off, 3)) (ht : (pc : Int) + off = (tgt : Int)) (ha : a < 2 ^ 31) (kf : J l g me hgt mc ms Q (pc + 3) lv rest S nc ns) : J l g me hgt mc ms Q pc lv (.int (nI a) :: rest) S nc ns := J_if_lt hdg ht (fun w => absurd w (nI_pos ha)) (fun _ => kf)
theorem J_if_geN {a : Nat} {off : Int} {tgt : Nat} (hdg : decode me.2.1 pc = .ok (.ifCond .ge off, 3)) (ht : (pc : Int) + off = (tgt : Int)) (ha : a < 2 ^ 31) (kt : J l g me hgt mc ms Q tgt lv rest S nc ns) : J l g me hgt mc ms Q pc lv (.int (nI a) :: rest) S nc ns := J_if_ge hdg ht (fun _ => kt) (fun w => absurd (nI_pos' ha) w)
theorem J_if_gtN {a : Nat} {off : Int} {tgt : Nat} (hdg : decode me.2.1 pc = .ok (.ifCond .gt off, 3)) (ht : (pc : Int) + off = (tgt : Int)) (ha : a < 2 ^ 31) (kt : 0 < a → J l g me hgt mc ms Q tgt lv rest S nc ns) (kf : a = 0 → J l g me hgt mc ms Q (pc + 3) lv rest S nc ns) : J l g me hgt mc ms Q pc lv (.int (nI a) :: rest) S nc ns := J_if_gt hdg ht (fun w => kt ((nI_ltI (a := 0) (by decide) ha).mp w)) (fun w => kf (Nat.eq_zero_of_not_pos (fun v => w ((nI_ltI (a := 0) (by decide) ha).mpr v))))
theorem J_if_leN {a : Nat} {off : Int} {tgt : Nat} (hdg : decode me.2.1 pc = .ok (.ifCond .le off, 3)) (ht : (pc : Int) + off = (tgt : Int)) (ha : a < 2 ^ 31) (kt : a = 0 → J l g me hgt mc ms Q tgt lv rest S nc ns) (kf : 0 < a → J l g me hgt mc ms Q (pc + 3) lv rest S nc ns) : J l g me hgt mc ms Q pc lv (.int (nI a) :: rest) S nc ns := J_if_le hdg ht (fun w => kt (Nat.le_zero.mp ((nI_leI (b := 0) ha (by decide)).mp w))) (fun w => kf (Nat.pos_of_ne_zero (fun v => w ((nI_leI (b := 0) ha (by decide)).mpr (Nat.le_of_eq v)))))
theorem J_if_eqB {b : Bool} {off : Int} {tgt : Nat} (hdg : decode me.2.1 pc = .ok (.ifCond .eq off, 3)) (ht : (pc : Int) + off = (tgt : Int)) (kt : b = false → J l g me hgt mc ms Q tgt lv rest S nc ns) (kf : b = true → J l g me hgt mc ms Q (pc + 3) lv rest S nc ns) : J l g me hgt mc ms Q pc lv (.int (bI b) :: rest) S nc ns := J_if_eq hdg ht (fun w => kt (by cases b with | false => rfl | true => cases w)) (fun w => kf (by cases b with | false => exact absurd rfl w | true => rfl))
theorem J_if_neB {b : Bool} {off : Int} {tgt : Nat} (hdg : decode me.2.1 pc = .ok (.ifCond .ne off, 3)) (ht : (pc : Int) + off = (tgt : Int)) (kt : b = true → J l g me hgt mc ms Q tgt lv rest S nc ns) (kf : b = false → J l g me hgt mc ms Q (pc + 3) lv rest S nc ns) : J l g me hgt mc ms Q pc lv (.int (bI b) :: rest) S nc ns := J_if_ne hdg ht (fun w => kt (by cases b with | false => exact absurd rfl w | true => rfl)) (fun w => kf (by cases b with | false => rfl | true => cases w))
end JN
end
section
/-! THE MATHEMATICAL STATE of the net, one for both sides.
xV X f i: number f of thing i. f: 0 clock, 1 how many messages, 2 dropped, 3 lost, 4 to lose (link), 5 priority of what is on a link, 6 off (spine), 7 chosen last (leaf); of a message: 8 from, 9 to, 10 length, 11 mode, 12 state, 13 next, 14 permitted, 15 level, 16 quiet, 17 tries, 18 ended, 19 known, 20 executed, 21 granted, 22 silence, 23 asks, 24 arrival, 25 since; of a host: 26 arrivals, 27 sent, 28 how many chosen, 29 chosen (3 h + k), 30 finishes, 31 finished (64 h + j); 32: the reference's own code of a throw.
xL X q: rows of packets (kind, message, count): q < 96 the queue 4 link + priority, 96 + h what is due at host h, 200 + link what is on the link.
xB X w m i: sets: w 0 wanted, 1 in. -/
abbrev XS : Type := (Nat → Nat → Nat) × (Nat → List (Nat × Nat × Nat)) × (Nat → Nat → Nat → Bool)
def xV (X : XS) (f i : Nat) : Nat := X.1 f i
def xL (X : XS) (q : Nat) : List (Nat × Nat × Nat) := X.2.1 q
def xB (X : XS) (w m i : Nat) : Bool := X.2.2 w m i
def yV (X : XS) (f i v : Nat) : XS := (fun f' i' => if f' = f ∧ i' = i then v else X.1 f' i', X.2)
def yL (X : XS) (q : Nat) (l : List (Nat × Nat × Nat)) : XS := (X.1, fun q' => if q' = q then l else X.2.1 q', X.2.2)
def yB (X : XS) (w m i : Nat) (b : Bool) : XS := (X.1, X.2.1, fun w' m' i' => if w' = w ∧ m' = m ∧ i' = i then b else X.2.2 w' m' i')
def yC (X : XS) (w m : Nat) : XS := (X.1, X.2.1, fun w' m' i' => if w' = w ∧ m' = m then false else X.2.2 w' m' i')
theorem xV_yV (X : XS) (f i v f' i' : Nat) : xV (yV X f i v) f' i' = if f' = f ∧ i' = i then v else xV X f' i' := rfl
theorem xV_yL (X : XS) (q : Nat) (l : List (Nat × Nat × Nat)) : xV (yL X q l) = xV X := rfl
theorem xV_yB (X : XS) (w m i : Nat) (b : Bool) : xV (yB X w m i b) = xV X := rfl
theorem xV_yC (X : XS) (w m : Nat) : xV (yC X w m) = xV X := rfl
theorem xL_yV (X : XS) (f i v : Nat) : xL (yV X f i v) = xL X := rfl
theorem xL_yL (X : XS) (q : Nat) (l : List (Nat × Nat × Nat)) (q' : Nat) : xL (yL X q l) q' = if q' = q then l else xL X q' := rfl
theorem xL_yB (X : XS) (w m i : Nat) (b : Bool) : xL (yB X w m i b) = xL X := rfl
theorem xL_yC (X : XS) (w m : Nat) : xL (yC X w m) = xL X := rfl
theorem xB_yV (X : XS) (f i v : Nat) : xB (yV X f i v) = xB X := rfl
theorem xB_yL (X : XS) (q : Nat) (l : List (Nat × Nat × Nat)) : xB (yL X q l) = xB X := rfl
theorem xB_yB (X : XS) (w m i : Nat) (b : Bool) (w' m' i' : Nat) : xB (yB X w m i b) w' m' i' = if w' = w ∧ m' = m ∧ i' = i then b else xB X w' m' i' := rfl
theorem xB_yC (X : XS) (w m : Nat) (w' m' i' : Nat) : xB (yC X w m) w' m' i' = if w' = w ∧ m' = m then false else xB X w' m' i' := rfl
theorem xV_nf {X : XS} {f i v f' : Nat} (h : f' ≠ f) : xV (yV X f i v) f' = xV X f' := funext fun i' => by rw [xV_yV, if_neg (fun z => h z.1)]
/-- for i = 0 .. n - 1 -/
def x_for (n : Nat) (f : XS → Nat → XS) (X : XS) : XS := match n with
  | 0 => X
  | n + 1 => f (x_for n f X) n
/-- how many i below n have f -/
def cnt (f : Nat → Bool) : Nat → Nat
  | 0 => 0
  | n + 1 => cnt f n + if f n then 1 else 0
/-- the least i below n with f, else n -/
def lst (f : Nat → Bool) : Nat → Nat
  | 0 => 0
  | n + 1 => if lst f n < n then lst f n else if f n then n else n + 1
def x_drop (X : XS) : XS := yV X 2 0 (xV X 2 0 + 1)
def x_goal (X : XS) (k m : Nat) : Nat := if k = 0 then xV X 9 m else xV X 8 m
def x_enter (X : XS) (link : Nat) (e : Nat × Nat × Nat) (p : Nat) : XS :=
  if 0 < xV X 4 link then yV (yV X 4 link (xV X 4 link - 1)) 3 0 (xV X 3 0 + 1) else yV (yL X (200 + link) [e]) 5 link p
def x_line (X : XS) (link : Nat) (e : Nat × Nat × Nat) (p : Nat) : XS :=
  if (xL X (4 * link + p)).length = 8 then x_drop X else yL X (4 * link + p) (xL X (4 * link + p) ++ [e])
def x_spine (X : XS) (leaf : Nat) : Nat := if xV X 6 0 = 1 then 1 else if xV X 6 1 = 1 then 0 else 1 - xV X 7 leaf
def x_atLeaf (X : XS) (leaf : Nat) (e : Nat × Nat × Nat) (p : Nat) : XS :=
  if x_goal X e.1 e.2.1 / 4 = leaf then x_line X (8 + 6 * leaf + x_goal X e.1 e.2.1 % 4) e p
  else if xV X 6 0 = 1 ∧ xV X 6 1 = 1 then x_drop X
  else x_line (yV X 7 leaf (x_spine X leaf)) (8 + 6 * leaf + 4 + x_spine X leaf) e p
def x_due (X : XS) (h : Nat) (e : Nat × Nat × Nat) : XS := if (xL X (96 + h)).length = 24 then X else yL X (96 + h) (xL X (96 + h) ++ [e])
def x_missing (X : XS) (m : Nat) : Nat := cnt (fun i => !xB X 1 m i) (xV X 10 m)
def x_forget (X : XS) (m : Nat) : XS := yC (yV X 19 m 0) 1 m
/-- DATA that comes to one that is known: the packet is in -/
def x_take (X : XS) (m c : Nat) : XS := yB (yV (yV X 22 m 0) 23 m 0) 1 m c true
/-- the receiver begins to know it -/
def x_know (X : XS) (m : Nat) : XS := yV (yV (yV (yV X 19 m 1) 26 (xV X 9 m) (xV X 26 (xV X 9 m) + 1)) 24 m (xV X 26 (xV X 9 m) + 1)) 21 m (if xV X 10 m < 4 then xV X 10 m else 4)
/-- all are in: it is finished -/
def x_finish (X : XS) (m : Nat) : XS := yV (yV (yV (yV (yV X 19 m 2) 20 m (xV X 20 m + 1)) 25 m (xV X 0 0)) 31 (64 * xV X 9 m + xV X 30 (xV X 9 m) % 64) m) 30 (xV X 9 m) (xV X 30 (xV X 9 m) + 1)
def x_data (X : XS) (m c : Nat) : XS :=
  if xV X 19 m = 2 then x_due X (xV X 9 m) (3, m, 0)
  else if 0 < x_missing (x_take (if xV X 19 m = 0 then x_know X m else X) m c) m then x_take (if xV X 19 m = 0 then x_know X m else X) m c
  else x_due (x_finish (x_take (if xV X 19 m = 0 then x_know X m else X) m c) m) (xV X 9 m) (3, m, 0)
def x_listen (X : XS) (h m : Nat) : XS :=
  if xV X 22 m + 1 < 16 then yV X 22 m (xV X 22 m + 1)
  else if xV X 23 m + 1 = 8 then x_forget (yV (yV X 22 m 0) 23 m (xV X 23 m + 1)) m
  else x_due (yV (yV X 22 m 0) 23 m (xV X 23 m + 1)) h (2, m, 64 * xV X 21 m + lst (fun i => !xB X 1 m i) 60)
def x_listens (X : XS) (h n : Nat) : XS := x_for n (fun Y x => if xV Y 9 x = h ∧ xV Y 19 x = 1 then x_listen Y h x else Y) X
def x_forgets (X : XS) (h n : Nat) : XS := x_for n (fun Y x => if xV Y 9 x = h ∧ (xV Y 19 x = 2 ∧ xV Y 11 x = 1 ∧ nI 30 ≤ nI (xV Y 0 0) - nI (xV Y 25 x)) then x_forget Y x else Y) X
def x_ahead (X : XS) (x y : Nat) : Bool := if x_missing X x ≠ x_missing X y then x_missing X x < x_missing X y else xV X 24 x < xV X 24 y
def x_chosen (X : XS) (h x : Nat) : Bool := cnt (fun k => xV X 29 (3 * h + k) = x) (xV X 28 h) ≠ 0
/-- of those below n: the one that is ahead of all that aren't chosen yet -/
def x_best (X : XS) (h : Nat) : Nat → Option Nat
  | 0 => none
  | n + 1 => if xV X 9 n = h ∧ xV X 19 n = 1 ∧ x_chosen X h n = false ∧ (∀ y, x_best X h n = some y → x_ahead X n y = true) then some n else x_best X h n
def x_target (X : XS) (m : Nat) : Nat := if xV X 10 m - x_missing X m + 6 < xV X 10 m then xV X 10 m - x_missing X m + 6 else xV X 10 m
def x_pick (X : XS) (h k m : Nat) : XS :=
  if x_target X m ≤ xV X 21 m then yV (yV X 29 (3 * h + k) m) 28 h (xV X 28 h + 1)
  else x_due (yV (yV (yV X 29 (3 * h + k) m) 28 h (xV X 28 h + 1)) 21 m (x_target X m)) h (1, m, 4 * x_target X m + 1 + k)
def x_picks (X : XS) (h : Nat) : Nat → XS
  | 0 => X
  | k + 1 => match x_best (x_picks X h k) h (xV X 1 0) with
    | none => x_picks X h k
    | some m => x_pick (x_picks X h k) h k m
def x_receive (X : XS) (h : Nat) : XS := x_picks (yV (x_forgets (x_listens X h (xV X 1 0)) h (xV X 1 0)) 28 h 0) h 3
def x_want (X : XS) (m i : Nat) : XS := if i < xV X 13 m then yB X 0 m i true else X
def x_answer (X : XS) (k m c : Nat) : XS :=
  if xV X 12 m ≠ 0 then X
  else if k = 1 then yV (yV (yV (yV X 16 m 0) 17 m 0) 14 m (if c / 4 > xV X 14 m then c / 4 else xV X 14 m)) 15 m (c % 4)
  else if k = 2 then x_want (yV (yV (yV X 16 m 0) 17 m 0) 14 m (if c / 64 > xV X 14 m then c / 64 else xV X 14 m)) m (c % 64)
  else yV (yV (yV (yV X 16 m 0) 17 m 0) 12 m 1) 18 m (xV X 0 0)
def x_least (X : XS) (m : Nat) : Nat := lst (xB X 0 m) 60
def x_left (X : XS) (m : Nat) : Nat := xV X 10 m - xV X 13 m + cnt (xB X 0 m) 60
def x_watch1 (X : XS) (x : Nat) : XS :=
  if xV X 16 x + 1 < 40 then yV X 16 x (xV X 16 x + 1)
  else if xV X 17 x + 1 = 6 then yV (yV (yV (yV X 16 x 0) 17 x (xV X 17 x + 1)) 12 x 2) 18 x (xV X 0 0)
  else x_want (yV (yV X 16 x 0) 17 x (xV X 17 x + 1)) x 0
def x_watch (X : XS) (h n : Nat) : XS := x_for n (fun Y x => if xV Y 8 x = h ∧ xV Y 12 x = 0 then x_watch1 Y x else Y) X
def x_can (X : XS) (h x : Nat) : Bool := decide (xV X 8 x = h) && decide (xV X 12 x = 0) && (decide (x_least X x < 60) || decide (xV X 13 x < xV X 14 x))
def x_short (X : XS) (h : Nat) : Nat → Option Nat
  | 0 => none
  | n + 1 => if x_can X h n = true ∧ (∀ y, x_short X h n = some y → x_left X n < x_left X y) then some n else x_short X h n
/-- the lengths of the latest 16 messages that began at h -/
def x_lens (X : XS) (h : Nat) : List Nat := ((List.range (xV X 1 0)).filter (fun x => xV X 8 x = h)).map (fun x => xV X 10 x)
def x_late (X : XS) (h : Nat) : List Nat := (x_lens X h).drop ((x_lens X h).length - 16)
def cle (ls : List Nat) (v : Nat) : Nat := (ls.filter (fun x => x ≤ v)).length
def x_cut (X : XS) (h t : Nat) : Nat := if x_late X h = [] then 0 else lst (fun v => t * (x_late X h).length / 3 < cle (x_late X h) v) 61
def x_prio (X : XS) (h m i : Nat) : Nat := if 4 ≤ i then xV X 15 m else if xV X 10 m ≤ x_cut X h 1 then 1 else if xV X 10 m ≤ x_cut X h 2 then 2 else 3
def x_takePlace (X : XS) (m : Nat) : XS := if x_least X m < 60 then yB X 0 m (x_least X m) false else yV X 13 m (xV X 13 m + 1)
def x_place (X : XS) (m : Nat) : Nat := if x_least X m < 60 then x_least X m else xV X 13 m
def x_sent1 (X : XS) (h : Nat) : XS := yV X 27 h (xV X 27 h + 1)
def x_send (X : XS) (h : Nat) : XS := match xL X (96 + h) with
  | e :: t => x_enter (x_sent1 (yL X (96 + h) t) h) h e 0
  | [] => match x_short X h (xV X 1 0) with
    | none => X
    | some m => x_enter (x_sent1 (x_takePlace X m) h) h (0, m, x_place X m) (x_prio X h m (x_place X m))
def x_arrive (X : XS) (link : Nat) : XS := match xL X (200 + link) with
  | [] => X
  | e :: _ =>
    if link < 8 then x_atLeaf (yL X (200 + link) []) (link / 4) e (xV X 5 link)
    else if 20 ≤ link then x_atLeaf (yL X (200 + link) []) ((link - 20) % 2) e (xV X 5 link)
    else if 4 ≤ (link - 8) % 6 then
      (if xV X 6 ((link - 8) % 6 - 4) = 1 then x_drop (yL X (200 + link) []) else x_line (yL X (200 + link) []) (20 + 2 * ((link - 8) % 6 - 4) + x_goal X e.1 e.2.1 / 4) e (xV X 5 link))
    else if e.1 = 0 then x_data (yL X (200 + link) []) e.2.1 e.2.2
    else x_answer (yL X (200 + link) []) e.1 e.2.1 e.2.2
def x_firstQ (X : XS) (link : Nat) : Nat := lst (fun p => (xL X (4 * link + p)).length ≠ 0) 4
def x_serve (X : XS) (link : Nat) : XS :=
  if 20 ≤ link ∧ xV X 6 ((link - 20) / 2) = 1 then X
  else match xL X (4 * link + x_firstQ X link) with
    | [] => X
    | e :: t => if x_firstQ X link = 4 then X else x_enter (yL X (4 * link + x_firstQ X link) t) link e (x_firstQ X link)
def x_host (X : XS) (h : Nat) : XS := x_send (x_watch (x_receive X h) h (xV X 1 0)) h
def x_slot1 (X : XS) : XS := x_for 8 x_host (x_for 16 (fun Y j => x_serve Y (8 + j)) (x_for 24 x_arrive (yV X 0 0 (xV X 0 0 + 1))))
def x_slots (X : XS) (n : Nat) : XS := x_for n (fun Y _ => x_slot1 Y) X
def x_begin (X : XS) (a b n m : Nat) : XS :=
  yV (yV (yV (yV (yV (yV (yV X 1 0 (xV X 1 0 + 1)) 8 (xV X 1 0) a) 9 (xV X 1 0) b) 10 (xV X 1 0) n) 11 (xV X 1 0) m) 14 (xV X 1 0) (if n < 4 then n else 4)) 15 (xV X 1 0) 3
end
section
/-! what always holds of the mathematical state -/
def okE (X : XS) (e : Nat × Nat × Nat) : Prop := e.1 < 4 ∧ e.2.1 < xV X 1 0 ∧ e.2.2 < 4096 ∧ (e.1 = 0 → e.2.2 < xV X 10 e.2.1) ∧ (e.1 = 1 → e.2.2 / 4 ≤ xV X 10 e.2.1) ∧ (e.1 = 2 → e.2.2 / 64 ≤ xV X 10 e.2.1)
def okNum (X : XS) : Prop := xV X 1 0 ≤ 48 ∧ (∀ k, k < 24 → xV X 4 k ≤ 100 ∧ xV X 5 k ≤ 3) ∧ ∀ s, s < 2 → xV X 6 s ≤ 1 ∧ xV X 7 s ≤ 1
def okMsg (X : XS) : Prop := ∀ m, m < 48 → (xV X 8 m < 8 ∧ xV X 9 m < 8 ∧ xV X 10 m ≤ 60 ∧ xV X 11 m ≤ 1) ∧ (xV X 12 m ≤ 2 ∧ xV X 13 m ≤ xV X 10 m ∧ xV X 14 m ≤ xV X 10 m ∧ xV X 15 m ≤ 3 ∧ xV X 16 m < 40 ∧ xV X 17 m < 6) ∧ (xV X 19 m ≤ 2 ∧ xV X 21 m ≤ xV X 10 m ∧ xV X 22 m < 16 ∧ xV X 23 m < 8)
def okLen (X : XS) : Prop := ∀ m, m < xV X 1 0 → 1 ≤ xV X 10 m
def okSet (X : XS) : Prop := ∀ m, (∀ i, xB X 0 m i = true → i < xV X 13 m) ∧ (∀ i, xB X 1 m i = true → i < xV X 10 m) ∧ (xV X 19 m = 1 → 0 < x_missing X m) ∧ (xV X 19 m = 0 → ∀ i, xB X 1 m i = false)
def okNew (X : XS) : Prop := ∀ m, xV X 1 0 ≤ m → (∀ f, 8 ≤ f → f < 26 → xV X f m = 0) ∧ ∀ w i, xB X w m i = false
def okList (X : XS) : Prop := (∀ q, ∀ e ∈ xL X q, okE X e) ∧ (∀ q, q < 96 → (xL X q).length ≤ 8) ∧ (∀ h, h < 8 → (xL X (96 + h)).length ≤ 24) ∧ ∀ k, k < 24 → (xL X (200 + k)).length ≤ 1
def okHost (X : XS) : Prop := (∀ h, h < 8 → xV X 28 h ≤ 3 ∧ (∀ k, k < xV X 28 h → xV X 29 (3 * h + k) < xV X 1 0)) ∧ ∀ i, i < 512 → xV X 31 i < 48
/-- arrivals and finishes stay below T; arrivals of known messages of a host differ -/
def okArr (X : XS) (T : Nat) : Prop := (∀ h, h < 8 → xV X 26 h ≤ T ∧ xV X 30 h ≤ T) ∧ (∀ m, m < xV X 1 0 → xV X 24 m ≤ xV X 26 (xV X 9 m)) ∧ ∀ m m', m < xV X 1 0 → m' < xV X 1 0 → xV X 9 m = xV X 9 m' → xV X 19 m ≠ 0 → xV X 19 m' ≠ 0 → xV X 24 m = xV X 24 m' → m = m'
def xOK (X : XS) : Prop := okNum X ∧ okMsg X ∧ okLen X ∧ okSet X ∧ okNew X ∧ okList X ∧ okHost X
theorem xOK.many {X : XS} (h : xOK X) : xV X 1 0 ≤ 48 := h.1.1
theorem xOK.link {X : XS} (h : xOK X) {k : Nat} (hk : k < 24) : xV X 4 k ≤ 100 ∧ xV X 5 k ≤ 3 := h.1.2.1 k hk
theorem xOK.sp {X : XS} (h : xOK X) {s : Nat} (hs : s < 2) : xV X 6 s ≤ 1 ∧ xV X 7 s ≤ 1 := h.1.2.2 s hs
theorem xOK.msg {X : XS} (h : xOK X) {m : Nat} (hm : m < 48) : (xV X 8 m < 8 ∧ xV X 9 m < 8 ∧ xV X 10 m ≤ 60 ∧ xV X 11 m ≤ 1) ∧ (xV X 12 m ≤ 2 ∧ xV X 13 m ≤ xV X 10 m ∧ xV X 14 m ≤ xV X 10 m ∧ xV X 15 m ≤ 3 ∧ xV X 16 m < 40 ∧ xV X 17 m < 6) ∧ (xV X 19 m ≤ 2 ∧ xV X 21 m ≤ xV X 10 m ∧ xV X 22 m < 16 ∧ xV X 23 m < 8) := h.2.1 m hm
theorem xOK.len {X : XS} (h : xOK X) {m : Nat} (hm : m < xV X 1 0) : 1 ≤ xV X 10 m := h.2.2.1 m hm
theorem xOK.set {X : XS} (h : xOK X) (m : Nat) : (∀ i, xB X 0 m i = true → i < xV X 13 m) ∧ (∀ i, xB X 1 m i = true → i < xV X 10 m) ∧ (xV X 19 m = 1 → 0 < x_missing X m) ∧ (xV X 19 m = 0 → ∀ i, xB X 1 m i = false) := h.2.2.2.1 m
theorem xOK.new {X : XS} (h : xOK X) {m : Nat} (hm : xV X 1 0 ≤ m) : (∀ f, 8 ≤ f → f < 26 → xV X f m = 0) ∧ ∀ w i, xB X w m i = false := h.2.2.2.2.1 m hm
theorem xOK.list {X : XS} (h : xOK X) : okList X := h.2.2.2.2.2.1
theorem xOK.host {X : XS} (h : xOK X) {a : Nat} (ha : a < 8) : xV X 28 a ≤ 3 ∧ (∀ k, k < xV X 28 a → xV X 29 (3 * a + k) < xV X 1 0) := h.2.2.2.2.2.2.1 a ha
theorem xOK.fin {X : XS} (h : xOK X) {i : Nat} (hi : i < 512) : xV X 31 i < 48 := h.2.2.2.2.2.2.2 i hi
theorem cnt_le (f : Nat → Bool) : ∀ n, cnt f n ≤ n
  | 0 => Nat.le_refl _
  | n + 1 => by
    have := cnt_le f n
    unfold cnt
    split <;> omega
theorem lst_le (f : Nat → Bool) : ∀ n, lst f n ≤ n
  | 0 => Nat.le_refl _
  | n + 1 => by
    have := lst_le f n
    unfold lst
    split
    · omega
    · split <;> omega
theorem lst_is {f : Nat → Bool} : ∀ {n : Nat}, lst f n < n → f (lst f n) = true
  | 0, h => absurd h (Nat.not_lt_zero _)
  | n + 1, h => by
    unfold lst at h ⊢
    by_cases h1 : lst f n < n
    · rw [if_pos h1]
      exact lst_is h1
    · rw [if_neg h1] at h ⊢
      by_cases h2 : f n = true
      · rw [if_pos h2]
        exact h2
      · rw [if_neg h2] at h
        omega
theorem lst_no {f : Nat → Bool} : ∀ {n i : Nat}, i < lst f n → f i = false
  | 0, i, h => absurd h (Nat.not_lt_zero _)
  | n + 1, i, h => by
    unfold lst at h
    by_cases h1 : lst f n < n
    · rw [if_pos h1] at h
      exact lst_no h
    · rw [if_neg h1] at h
      have e : lst f n = n := Nat.le_antisymm (lst_le f n) (Nat.not_lt.mp h1)
      by_cases h2 : f n = true
      · rw [if_pos h2] at h
        exact lst_no (n := n) (by omega)
      · rw [if_neg h2] at h
        by_cases hi : i = n
        · subst hi
          exact Bool.eq_false_iff.mpr h2
        · exact lst_no (n := n) (by omega)
theorem lst_of {f : Nat → Bool} {n i : Nat} (hi : i < n) (hf : f i = true) (hno : ∀ j, j < i → f j = false) : lst f n = i := by
  have h1 : lst f n ≤ i := Nat.not_lt.mp (fun h => by rw [lst_no h] at hf; cases hf)
  have h2 := lst_is (f := f) (n := n) (by omega)
  by_cases h3 : lst f n = i
  · exact h3
  · rw [hno _ (by omega)] at h2
    cases h2
theorem lst_none {f : Nat → Bool} {n : Nat} (hno : ∀ j, j < n → f j = false) : lst f n = n := by
  have h1 := lst_le f n
  by_cases h : lst f n < n
  · have := lst_is h
    rw [hno _ h] at this
    cases this
  · omega
theorem cnt_0 {f : Nat → Bool} : ∀ {n : Nat}, (∀ i, i < n → f i = false) → cnt f n = 0
  | 0, _ => rfl
  | n + 1, h => by
    unfold cnt
    rw [cnt_0 (fun i hi => h i (by omega)), h n (by omega)]
    rfl
theorem cnt_pos {f : Nat → Bool} : ∀ {n i : Nat}, i < n → f i = true → 0 < cnt f n
  | n + 1, i, hi, h => by
    unfold cnt
    by_cases e : i = n
    · subst e
      rw [h]
      simp
    · have := cnt_pos (f := f) (n := n) (i := i) (by omega) h
      omega
end
section
theorem xOK.setL {X : XS} (h : xOK X) (q : Nat) (l : List (Nat × Nat × Nat)) (he : ∀ e ∈ l, okE X e) (hq : q < 96 → l.length ≤ 8) (hd : ∀ a, a < 8 → q = 96 + a → l.length ≤ 24) (hk : ∀ k, k < 24 → q = 200 + k → l.length ≤ 1) : xOK (yL X q l) := by
  obtain ⟨h1, h2, h3, h4, h5, ⟨l1, l2, l3, l4⟩, h7⟩ := h
  refine ⟨h1, h2, h3, h4, h5, ⟨fun q' e hm => ?_, fun q' hq' => ?_, fun a ha => ?_, fun k hk' => ?_⟩, h7⟩
  · rw [xL_yL] at hm
    by_cases z : q' = q
    · rw [if_pos z] at hm
      exact he e hm
    · rw [if_neg z] at hm
      exact l1 q' e hm
  · rw [xL_yL]
    by_cases z : q' = q
    · rw [if_pos z]
      exact hq (z ▸ hq')
    · rw [if_neg z]
      exact l2 q' hq'
  · rw [xL_yL]
    by_cases z : 96 + a = q
    · rw [if_pos z]
      exact hd a ha z.symm
    · rw [if_neg z]
      exact l3 a ha
  · rw [xL_yL]
    by_cases z : 200 + k = q
    · rw [if_pos z]
      exact hk k hk' z.symm
    · rw [if_neg z]
      exact l4 k hk'
theorem xOK.clrL {X : XS} (h : xOK X) (q : Nat) : xOK (yL X q []) := h.setL q [] (fun e he => by cases he) (fun _ => Nat.zero_le _) (fun _ _ _ => Nat.zero_le _) (fun _ _ _ => Nat.zero_le _)
end
section
theorem dec1 (j : Nat) : nI (j + 1) + Int32.ofInt (-1) = nI j := pk_m1 j
/-! cutoffs by counting -/
theorem cnt_congr {f f' : Nat → Bool} : ∀ {n : Nat}, (∀ i, i < n → f i = f' i) → cnt f n = cnt f' n
  | 0, _ => rfl
  | n + 1, h => by
    unfold cnt
    rw [cnt_congr (fun i hi => h i (by omega)), h n (by omega)]
theorem cnt_add {f f' f2 : Nat → Bool} (h : ∀ i, (if f i then 1 else 0) = (if f' i then 1 else 0) + (if f2 i then (1 : Nat) else 0)) : ∀ n, cnt f n = cnt f' n + cnt f2 n
  | 0 => rfl
  | n + 1 => by
    unfold cnt
    rw [cnt_add h n, h n]
    omega
theorem cnt_mono {f f' : Nat → Bool} (h : ∀ i, f i = true → f' i = true) : ∀ n, cnt f n ≤ cnt f' n
  | 0 => Nat.le_refl _
  | n + 1 => by
    have := cnt_mono h n
    unfold cnt
    by_cases hf : f n = true
    · rw [hf, h n hf]
      simp
      exact this
    · rw [if_neg hf]
      omega
theorem cnt_le_n {f : Nat → Bool} {a n : Nat} (h : a ≤ n) : cnt f a ≤ cnt f n := by
  induction n with
  | zero => rw [Nat.le_zero.mp h]; exact Nat.le_refl _
  | succ n ih =>
    by_cases e : a = n + 1
    · rw [e]
      exact Nat.le_refl _
    · have := ih (by omega)
      show cnt f a ≤ cnt f n + _
      omega
/-- the j-th that has f -/
theorem cnt_nth {f : Nat → Bool} : ∀ {n j : Nat}, j < cnt f n → ∃ x, x < n ∧ f x = true ∧ cnt f x = j
  | 0, j, h => absurd h (Nat.not_lt_zero _)
  | n + 1, j, h => by
    by_cases h1 : j < cnt f n
    · obtain ⟨x, hx, e⟩ := cnt_nth h1
      exact ⟨x, by omega, e⟩
    · unfold cnt at h
      by_cases hf : f n = true
      · rw [if_pos hf] at h
        exact ⟨n, by omega, hf, by omega⟩
      · rw [if_neg hf] at h
        omega
theorem cnt_lt {f : Nat → Bool} {x n : Nat} (hx : x < n) (hf : f x = true) : cnt f x < cnt f n := by
  have h1 : cnt f (x + 1) = cnt f x + 1 := by
    show cnt f x + (if f x then 1 else 0) = _
    rw [hf]
    rfl
  have := cnt_le_n (f := f) (a := x + 1) (n := n) hx
  omega
theorem cnt_list (p : Nat → Bool) (q : Nat → Nat) (v : Nat) : ∀ n, cle (((List.range n).filter p).map q) v = cnt (fun y => p y && decide (q y ≤ v)) n
  | 0 => rfl
  | n + 1 => by
    have ih := cnt_list p q v n
    rw [List.range_succ, List.filter_append, List.map_append]
    unfold cle at ih ⊢
    rw [List.filter_append, List.length_append, ih]
    show _ = cnt _ n + _
    congr 1
    by_cases hp : p n = true
    · by_cases hq : q n ≤ v
      · simp [hp, hq]
      · simp [hp, hq]
    · simp [hp]
theorem cnt_len (p : Nat → Bool) : ∀ n, ((List.range n).filter p).length = cnt p n
  | 0 => rfl
  | n + 1 => by
    rw [List.range_succ, List.filter_append, List.length_append, cnt_len p n]
    show _ = cnt p n + _
    congr 1
    by_cases hp : p n = true
    · simp [hp]
    · simp [hp]
/-- the window of messages from h that begin at number f -/
def win (X : XS) (h f : Nat) : Nat → Bool := fun y => decide (f ≤ y) && decide (xV X 8 y = h)
def x_rank (X : XS) (h f x : Nat) : Nat → Bool := fun y => win X h f y && (decide (xV X 10 y < xV X 10 x) || (decide (xV X 10 y = xV X 10 x) && decide (y < x)))
theorem filter_split {p : Nat → Bool} {f : Nat} : ∀ {n : Nat}, f ≤ n → (List.range n).filter p = (List.range f).filter p ++ (List.range n).filter (fun y => decide (f ≤ y) && p y)
  | n, h => by
    induction n with
    | zero =>
      rw [Nat.le_zero.mp h]
      rfl
    | succ n ih =>
      by_cases e : f = n + 1
      · subst e
        rw [show (List.range (n + 1)).filter (fun y => decide (n + 1 ≤ y) && p y) = [] from ?_, List.append_nil]
        apply List.filter_eq_nil_iff.mpr
        intro y hy
        have := List.mem_range.mp hy
        simp
        omega
      · have hf : f ≤ n := by omega
        rw [List.range_succ, List.filter_append, List.filter_append, ih hf, List.append_assoc]
        congr 2
        by_cases hp : p n = true
        · simp [hp, hf]
        · simp [hp]
theorem late_win {X : XS} {h f : Nat} (hf : f ≤ xV X 1 0) (h0 : f = 0 ∨ cnt (win X h f) (xV X 1 0) = 16) (h16 : cnt (win X h f) (xV X 1 0) ≤ 16) : x_late X h = ((List.range (xV X 1 0)).filter (win X h f)).map (fun x => xV X 10 x) := by
  have hs : x_lens X h = ((List.range f).filter (fun x => decide (xV X 8 x = h))).map (fun x => xV X 10 x) ++ ((List.range (xV X 1 0)).filter (win X h f)).map (fun x => xV X 10 x) := by
    unfold x_lens win
    rw [filter_split (p := fun x => decide (xV X 8 x = h)) hf, List.map_append]
  have hl : (((List.range (xV X 1 0)).filter (win X h f)).map (fun x => xV X 10 x)).length = cnt (win X h f) (xV X 1 0) := by
    rw [List.length_map, cnt_len]
  unfold x_late
  rw [hs, List.length_append, hl]
  rcases h0 with rfl | h0
  · rw [show (List.range 0).filter (fun x => decide (xV X 8 x = h)) = [] from rfl, List.map_nil, List.nil_append]
    rw [show ([] : List Nat).length + cnt (win X h 0) (xV X 1 0) - 16 = 0 by simp; omega]
    rfl
  · rw [h0, Nat.add_sub_cancel, List.drop_left]
theorem rank_split (X : XS) (h f x n : Nat) (hx : x ≤ n) : cnt (x_rank X h f x) n = cnt (fun y => win X h f y && decide (xV X 10 y < xV X 10 x)) n + cnt (fun y => win X h f y && decide (xV X 10 y = xV X 10 x)) x := by
  rw [cnt_add (f := x_rank X h f x) (f' := fun y => win X h f y && decide (xV X 10 y < xV X 10 x)) (f2 := fun y => win X h f y && decide (xV X 10 y = xV X 10 x) && decide (y < x))]
  · congr 1
    induction n with
    | zero => rw [Nat.le_zero.mp hx]; rfl
    | succ n ih =>
      by_cases e : x = n + 1
      · subst e
        exact cnt_congr (fun i hi => by simp [hi])
      · rw [← ih (by omega)]
        show cnt _ n + _ = cnt _ n
        rw [if_neg (by simp; omega)]
        rfl
  · intro i
    unfold x_rank
    by_cases hw : win X h f i = true
    · by_cases h1 : xV X 10 i < xV X 10 x
      · have h2 : ¬ xV X 10 i = xV X 10 x := by omega
        simp [hw, h1, h2]
      · by_cases h2 : xV X 10 i = xV X 10 x
        · simp [hw, h2]
        · simp [hw, h1, h2]
    · simp [hw]
theorem cut_of {X : XS} {h f t x : Nat} (hlate : x_late X h = ((List.range (xV X 1 0)).filter (win X h f)).map (fun x => xV X 10 x)) (hx : x < xV X 1 0) (hw : win X h f x = true) (hl : xV X 10 x ≤ 60) (hr : cnt (x_rank X h f x) (xV X 1 0) = t * cnt (win X h f) (xV X 1 0) / 3) : x_cut X h t = xV X 10 x := by
  have hne : x_late X h ≠ [] := by
    rw [hlate]
    intro z
    have h1 : ((List.range (xV X 1 0)).filter (win X h f)).length = 0 := by
      rw [← List.length_map (f := fun x => xV X 10 x), z]
      rfl
    rw [cnt_len] at h1
    have := cnt_pos hx hw
    omega
  have hc : (x_late X h).length = cnt (win X h f) (xV X 1 0) := by rw [hlate, List.length_map, cnt_len]
  unfold x_cut
  rw [if_neg hne, hc, ← hr, rank_split X h f x _ (Nat.le_of_lt hx)]
  have hle : ∀ v, cle (x_late X h) v = cnt (fun y => win X h f y && decide (xV X 10 y ≤ v)) (xV X 1 0) := fun v => by rw [hlate, cnt_list]
  refine lst_of (by omega) ?_ ?_
  · apply decide_eq_true
    rw [hle, cnt_add (f := fun y => win X h f y && decide (xV X 10 y ≤ xV X 10 x)) (f' := fun y => win X h f y && decide (xV X 10 y < xV X 10 x)) (f2 := fun y => win X h f y && decide (xV X 10 y = xV X 10 x))]
    · have := cnt_lt (f := fun y => win X h f y && decide (xV X 10 y = xV X 10 x)) hx (by simp [hw])
      omega
    · intro i
      by_cases h1 : win X h f i = true
      · by_cases h2 : xV X 10 i < xV X 10 x
        · have h3 : ¬ xV X 10 i = xV X 10 x := by omega
          have h4 : xV X 10 i ≤ xV X 10 x := by omega
          simp [h1, h2, h3, h4]
        · by_cases h3 : xV X 10 i = xV X 10 x
          · simp [h1, h3]
          · have h4 : ¬ xV X 10 i ≤ xV X 10 x := by omega
            simp [h1, h2, h3, h4]
      · simp [h1]
  · intro v hv
    apply decide_eq_false
    rw [hle]
    have := cnt_mono (f := fun y => win X h f y && decide (xV X 10 y ≤ v)) (f' := fun y => win X h f y && decide (xV X 10 y < xV X 10 x)) (fun i hi => by
      simp at hi ⊢
      exact ⟨hi.1, by omega⟩) (xV X 1 0)
    omega
theorem cut_ex {X : XS} {h f k : Nat} (hl : ∀ x, x < xV X 1 0 → xV X 10 x ≤ 60) (hk : k < cnt (win X h f) (xV X 1 0)) : ∃ x, x < xV X 1 0 ∧ win X h f x = true ∧ cnt (x_rank X h f x) (xV X 1 0) = k := by
  have h60 : cnt (fun y => win X h f y && decide (xV X 10 y ≤ 60)) (xV X 1 0) = cnt (win X h f) (xV X 1 0) := cnt_congr (fun i hi => by simp [hl i hi])
  have hlt : lst (fun v => decide (k < cnt (fun y => win X h f y && decide (xV X 10 y ≤ v)) (xV X 1 0))) 61 < 61 := by
    by_cases z : lst (fun v => decide (k < cnt (fun y => win X h f y && decide (xV X 10 y ≤ v)) (xV X 1 0))) 61 < 61
    · exact z
    · have hz : lst (fun v => decide (k < cnt (fun y => win X h f y && decide (xV X 10 y ≤ v)) (xV X 1 0))) 61 = 61 := Nat.le_antisymm (lst_le _ _) (Nat.not_lt.mp z)
      have h1 := lst_no (f := fun v => decide (k < cnt (fun y => win X h f y && decide (xV X 10 y ≤ v)) (xV X 1 0))) (n := 61) (i := 60) (by omega)
      have h1 := of_decide_eq_false h1
      omega
  have hv := of_decide_eq_true (lst_is hlt)
  have hno : ∀ v, v < lst (fun v => decide (k < cnt (fun y => win X h f y && decide (xV X 10 y ≤ v)) (xV X 1 0))) 61 → ¬ k < cnt (fun y => win X h f y && decide (xV X 10 y ≤ v)) (xV X 1 0) := fun v hv => of_decide_eq_false (lst_no (f := fun v => decide (k < cnt (fun y => win X h f y && decide (xV X 10 y ≤ v)) (xV X 1 0))) (n := 61) hv)
  generalize lst (fun v => decide (k < cnt (fun y => win X h f y && decide (xV X 10 y ≤ v)) (xV X 1 0))) 61 = v at hlt hv hno
  have hA : cnt (fun y => win X h f y && decide (xV X 10 y < v)) (xV X 1 0) ≤ k := by
    cases v with
    | zero =>
      rw [cnt_0 (fun i _ => by simp)]
      exact Nat.zero_le _
    | succ v =>
      have := hno v (by omega)
      rw [cnt_congr (f' := fun y => win X h f y && decide (xV X 10 y ≤ v)) (fun i _ => by congr 1; exact decide_eq_decide.mpr (by omega))]
      omega
  have hE : cnt (fun y => win X h f y && decide (xV X 10 y ≤ v)) (xV X 1 0) = cnt (fun y => win X h f y && decide (xV X 10 y < v)) (xV X 1 0) + cnt (fun y => win X h f y && decide (xV X 10 y = v)) (xV X 1 0) := cnt_add (fun i => by
    by_cases h1 : win X h f i = true
    · by_cases h2 : xV X 10 i < v
      · have h3 : ¬ xV X 10 i = v := by omega
        have h4 : xV X 10 i ≤ v := by omega
        simp [h1, h2, h3, h4]
      · by_cases h3 : xV X 10 i = v
        · simp [h1, h3]
        · have h4 : ¬ xV X 10 i ≤ v := by omega
          simp [h1, h2, h3, h4]
    · simp [h1]) _
  obtain ⟨x, hx, hf, hc⟩ := cnt_nth (f := fun y => win X h f y && decide (xV X 10 y = v)) (n := xV X 1 0) (j := k - cnt (fun y => win X h f y && decide (xV X 10 y < v)) (xV X 1 0)) (by omega)
  simp only [Bool.and_eq_true, decide_eq_true_eq] at hf
  refine ⟨x, hx, hf.1, ?_⟩
  rw [rank_split X h f x _ (Nat.le_of_lt hx), hf.2, hc]
  omega
end
section
/-! THE REFERENCE's memory: the object at b, its arrays at ad k (k the field), what they hold of X -/
/-- which field of the reference holds number f -/
def mK : Nat → Nat := fun f => match f with
  | 4 => 7
  | 5 => 6
  | 6 => 12
  | 7 => 13
  | 8 => 16
  | 9 => 17
  | 10 => 18
  | 11 => 19
  | 12 => 20
  | 13 => 21
  | 14 => 22
  | 15 => 23
  | 16 => 24
  | 17 => 25
  | 18 => 26
  | 19 => 28
  | 20 => 29
  | 21 => 30
  | 22 => 31
  | 23 => 32
  | 24 => 33
  | 25 => 34
  | 26 => 36
  | 27 => 41
  | 28 => 43
  | 29 => 42
  | 30 => 44
  | 31 => 45
  | _ => 0
def mAttr (f : Nat) : Bool := (decide (4 ≤ f) && decide (f < 32)) && !(f == 6)
/-- the length of the array in field k -/
def mLn : Nat → Nat := fun k => match k with
  | 8 => 96
  | 9 => 768
  | 10 => 768
  | 11 => 768
  | 12 => 2
  | 13 => 2
  | 27 => 2880
  | 35 => 2880
  | 36 => 8
  | 37 => 8
  | 38 => 192
  | 39 => 192
  | 40 => 192
  | 41 => 8
  | 42 => 24
  | 43 => 8
  | 44 => 8
  | 45 => 512
  | 3 => 24
  | 4 => 24
  | 5 => 24
  | 6 => 24
  | 7 => 24
  | _ => 48
def mArr (k : Nat) : Bool := (decide (3 ≤ k) && decide (k < 46)) && (!(k == 14) && !(k == 15))
def mKd (k : Nat) : Nat := if k = 12 ∨ k = 27 ∨ k = 35 then 10 else 9
/-- the shape: it stays for ever -/
def mShape (S : jS) (b : Nat) (ad : Nat → Nat) : Prop := sAt S 8 b ∧ (∀ k, mArr k = true → sP S 8 b k = some (ad k)) ∧ (∀ k, mArr k = true → aAt S (mKd k) (ad k) (mLn k)) ∧ ∀ k k', mArr k = true → mArr k' = true → ad k = ad k' → k = k'
/-- what it holds -/
def mNum (S : jS) (ad : Nat → Nat) (X : XS) : Prop := ∀ f, mAttr f = true → ∀ i, i < mLn (mK f) → sI S 9 (ad (mK f)) i = nI (xV X f i)
def mSca (S : jS) (b : Nat) (X : XS) : Prop := sI S 8 b 1 = nI (xV X 0 0) ∧ sI S 8 b 2 = nI (xV X 1 0) ∧ sI S 8 b 14 = nI (xV X 2 0) ∧ sI S 8 b 15 = nI (xV X 3 0) ∧ sI S 8 b 0 = nI (xV X 32 0)
def mOff (S : jS) (ad : Nat → Nat) (X : XS) : Prop := ∀ s, s < 2 → sI S 10 (ad 12) s = nI (xV X 6 s)
def mSet (S : jS) (ad : Nat → Nat) (X : XS) : Prop := ∀ m, m < 48 → ∀ i, i < 60 → sI S 10 (ad 27) (60 * m + i) = bI (xB X 0 m i) ∧ sI S 10 (ad 35) (60 * m + i) = bI (xB X 1 m i)
def mLnk (S : jS) (ad : Nat → Nat) (X : XS) : Prop := ∀ k, k < 24 → (xL X (200 + k) = [] → sI S 9 (ad 3) k = -1) ∧ ∀ e t, xL X (200 + k) = e :: t → sI S 9 (ad 3) k = nI e.1 ∧ sI S 9 (ad 4) k = nI e.2.1 ∧ sI S 9 (ad 5) k = nI e.2.2
def mQue (S : jS) (ad : Nat → Nat) (X : XS) : Prop := ∀ q, q < 96 → (xL X q).length ≤ 8 ∧ sI S 9 (ad 8) q = nI (xL X q).length ∧ ∀ i e, (xL X q)[i]? = some e → sI S 9 (ad 9) (8 * q + i) = nI e.1 ∧ sI S 9 (ad 10) (8 * q + i) = nI e.2.1 ∧ sI S 9 (ad 11) (8 * q + i) = nI e.2.2
def mDue (S : jS) (ad : Nat → Nat) (X : XS) : Prop := ∀ h, h < 8 → (xL X (96 + h)).length ≤ 24 ∧ sI S 9 (ad 37) h = nI (xL X (96 + h)).length ∧ ∀ i e, (xL X (96 + h))[i]? = some e → sI S 9 (ad 38) (24 * h + i) = nI e.1 ∧ sI S 9 (ad 39) (24 * h + i) = nI e.2.1 ∧ sI S 9 (ad 40) (24 * h + i) = nI e.2.2
def WM (S : jS) (b : Nat) (ad : Nat → Nat) (X : XS) : Prop := mShape S b ad ∧ mNum S ad X ∧ mSca S b X ∧ mOff S ad X ∧ mSet S ad X ∧ mLnk S ad X ∧ mQue S ad X ∧ mDue S ad X
theorem WM.o {S : jS} {b : Nat} {ad : Nat → Nat} {X : XS} (h : WM S b ad X) : sAt S 8 b := h.1.1
theorem WM.r {S : jS} {b : Nat} {ad : Nat → Nat} {X : XS} (h : WM S b ad X) (k : Nat) (hk : mArr k = true) : sP S 8 b k = some (ad k) := h.1.2.1 k hk
theorem WM.a {S : jS} {b : Nat} {ad : Nat → Nat} {X : XS} (h : WM S b ad X) (k : Nat) (hk : mArr k = true) : aAt S (mKd k) (ad k) (mLn k) := h.1.2.2.1 k hk
theorem WM.ne {S : jS} {b : Nat} {ad : Nat → Nat} {X : XS} (h : WM S b ad X) {k k' : Nat} (hk : mArr k = true) (hk' : mArr k' = true) (hn : k ≠ k') : ad k ≠ ad k' := fun e => hn (h.1.2.2.2 k k' hk hk' e)
theorem WM.v {S : jS} {b : Nat} {ad : Nat → Nat} {X : XS} (h : WM S b ad X) (f : Nat) (hf : mAttr f = true) {i : Nat} (hi : i < mLn (mK f)) : sI S 9 (ad (mK f)) i = nI (xV X f i) := h.2.1 f hf i hi
theorem mK_arr : ∀ f, f < 32 → mAttr f = true → mArr (mK f) = true ∧ mKd (mK f) = 9 := by decide
theorem mK_inj : ∀ f, f < 32 → ∀ f', f' < 32 → mAttr f = true → mAttr f' = true → mK f = mK f' → f = f' := by decide
theorem mAttr_lt {f : Nat} (h : mAttr f = true) : f < 32 := by
  unfold mAttr at h
  simp only [Bool.and_eq_true, decide_eq_true_eq] at h
  exact h.1.2
theorem mK_oth : ∀ f, f < 32 → mAttr f = true → ∀ k, k ∈ [3, 4, 5, 8, 9, 10, 11, 37, 38, 39, 40] → k ≠ mK f := by decide
theorem mAttr_ge {f : Nat} (h : mAttr f = true) : 4 ≤ f := by
  unfold mAttr at h
  simp only [Bool.and_eq_true, decide_eq_true_eq] at h
  exact h.1.1
/-- writing at kind 9, field k, changes nothing of another field -/
theorem WM.oth {S : jS} {b : Nat} {ad : Nat → Nat} {X : XS} (h : WM S b ad X) {k k' i j : Nat} {v : Int32} (hk : mArr k = true) (hk' : mArr k' = true) (hn : k' ≠ k) : sI (uI S 9 (ad k) i v) 9 (ad k') j = sI S 9 (ad k') j := sI_na (h.ne hk' hk hn) rfl
/-- a number of an array is written -/
theorem WM.wV {S : jS} {b : Nat} {ad : Nat → Nat} {X : XS} (h : WM S b ad X) (f : Nat) (hf : mAttr f = true) (i v : Nat) : WM (uI S 9 (ad (mK f)) i (nI v)) b ad (yV X f i v) := by
  have h32 := mAttr_lt hf
  obtain ⟨ha, -⟩ := mK_arr f h32 hf
  have no := mK_oth f h32 hf
  refine ⟨h.1, ?_, ?_, ?_, ?_, ?_, ?_, ?_⟩
  · intro f' hf' j hj
    have h32' := mAttr_lt hf'
    by_cases e : f' = f
    · subst e
      rw [sI_uI, xV_yV]
      by_cases ej : j = i
      · simp [ej]
      · simp only [ej, and_false, if_false]
        exact h.2.1 f' hf' j hj
    · have hne : mK f' ≠ mK f := fun z => e (mK_inj f' h32' f h32 hf' hf z)
      rw [h.oth ha (mK_arr f' h32' hf').1 hne, xV_nf e]
      exact h.2.1 f' hf' j hj
  · have hn : ∀ c, c < 4 → c ≠ f := fun c hc e => by have := mAttr_ge hf; omega
    obtain ⟨s1, s2, s3, s4, s5⟩ := h.2.2.1
    unfold mSca
    rw [xV_nf (hn 0 (by decide)), xV_nf (hn 1 (by decide)), xV_nf (hn 2 (by decide)), xV_nf (hn 3 (by decide)), xV_nf (show 32 ≠ f by omega)]
    exact ⟨sI_nc (by decide) s1, sI_nc (by decide) s2, sI_nc (by decide) s3, sI_nc (by decide) s4, sI_nc (by decide) s5⟩
  · intro s hs
    rw [xV_nf (fun e => by subst e; revert hf; decide)]
    exact sI_nc (by decide) (h.2.2.2.1 s hs)
  · intro m hm j hj
    exact ⟨sI_nc (by decide) (h.2.2.2.2.1 m hm j hj).1, sI_nc (by decide) (h.2.2.2.2.1 m hm j hj).2⟩
  · intro k hk
    have := h.2.2.2.2.2.1 k hk
    rw [h.oth ha rfl (no 3 (by decide)), h.oth ha rfl (no 4 (by decide)), h.oth ha rfl (no 5 (by decide))]
    exact this
  · intro q hq
    have := h.2.2.2.2.2.2.1 q hq
    refine ⟨this.1, by rw [h.oth ha rfl (no 8 (by decide))]; exact this.2.1, fun j e he => ?_⟩
    rw [h.oth ha rfl (no 9 (by decide)), h.oth ha rfl (no 10 (by decide)), h.oth ha rfl (no 11 (by decide))]
    exact this.2.2 j e he
  · intro q hq
    have := h.2.2.2.2.2.2.2 q hq
    refine ⟨this.1, by rw [h.oth ha rfl (no 37 (by decide))]; exact this.2.1, fun j e he => ?_⟩
    rw [h.oth ha rfl (no 38 (by decide)), h.oth ha rfl (no 39 (by decide)), h.oth ha rfl (no 40 (by decide))]
    exact this.2.2 j e he
/-- a number of the object itself is written: clock, how many, dropped, lost -/
theorem WM.wS {S : jS} {b : Nat} {ad : Nat → Nat} {X : XS} (h : WM S b ad X) (k f v : Nat) (hk : (k, f) = (1, 0) ∨ (k, f) = (2, 1) ∨ (k, f) = (14, 2) ∨ (k, f) = (15, 3) ∨ (k, f) = (0, 32)) : WM (uI S 8 b k (nI v)) b ad (yV X f 0 v) := by
  have hf : f < 4 ∨ f = 32 := by rcases hk with e | e | e | e | e <;> cases e <;> decide
  refine ⟨h.1, ?_, ?_, ?_, ?_, ?_, ?_, ?_⟩
  · intro f' hf' j hj
    rw [xV_nf (by have := mAttr_ge hf'; have := mAttr_lt hf'; omega)]
    exact sI_nc (by decide) (h.2.1 f' hf' j hj)
  · obtain ⟨s1, s2, s3, s4, s5⟩ := h.2.2.1
    unfold mSca
    rcases hk with e | e | e | e | e <;> cases e <;> simp [sI_uI, xV_yV, s1, s2, s3, s4, s5]
  · intro s hs
    rw [xV_nf (by omega)]
    exact sI_nc (by decide) (h.2.2.2.1 s hs)
  · intro m hm j hj
    exact ⟨sI_nc (by decide) (h.2.2.2.2.1 m hm j hj).1, sI_nc (by decide) (h.2.2.2.2.1 m hm j hj).2⟩
  · intro k hk
    have := h.2.2.2.2.2.1 k hk
    exact ⟨fun e => sI_nc (by decide) (this.1 e), fun e t he => ⟨sI_nc (by decide) (this.2 e t he).1, sI_nc (by decide) (this.2 e t he).2.1, sI_nc (by decide) (this.2 e t he).2.2⟩⟩
  · intro q hq
    have := h.2.2.2.2.2.2.1 q hq
    exact ⟨this.1, sI_nc (by decide) this.2.1, fun j e he => ⟨sI_nc (by decide) (this.2.2 j e he).1, sI_nc (by decide) (this.2.2 j e he).2.1, sI_nc (by decide) (this.2.2 j e he).2.2⟩⟩
  · intro q hq
    have := h.2.2.2.2.2.2.2 q hq
    exact ⟨this.1, sI_nc (by decide) this.2.1, fun j e he => ⟨sI_nc (by decide) (this.2.2 j e he).1, sI_nc (by decide) (this.2.2 j e he).2.1, sI_nc (by decide) (this.2.2 j e he).2.2⟩⟩
end
section
section JMR
variable {l : Launch} {g : jG} {me : jM} {hgt mc ms : Nat} {Q : Option Value → jS → Prop} {pc : Nat} {lv : List (Nat × Value)} {rest : List Value} {S : jS} {nc ns : Nat} {b : Nat} {ad : Nat → Nat} {X : XS}
theorem mLn_lt (k : Nat) : mLn k < 2 ^ 31 := by
  unfold mLn
  split <;> decide
/-- a number of an array is read -/
theorem J_mld (hW : WM S b ad X) (f : Nat) (hf : mAttr f = true) {n : Nat} {i : Int32} (hi : i = nI n) (hn : n < mLn (mK f)) (hdg : decode me.2.1 pc = .ok (.iaload, 1)) (k : J l g me hgt mc ms Q (pc + 1) lv (.int (nI (xV X f n)) :: rest) S nc ns) : J l g me hgt mc ms Q pc lv (.int i :: .ref (ad (mK f)) :: rest) S nc ns := by
  have h := mK_arr f (mAttr_lt hf) hf
  have ha := hW.a (mK f) h.1
  rw [h.2] at ha
  exact J_iald ha hi hn (mLn_lt _) (hW.v f hf hn) hdg k
/-- a number of an array is written -/
theorem J_mst (hW : WM S b ad X) (f : Nat) (hf : mAttr f = true) {n v : Nat} {i x : Int32} (hi : i = nI n) (hn : n < mLn (mK f)) (hx : x = nI v) (hdg : decode me.2.1 pc = .ok (.iastore, 1)) (k : WM (uI S 9 (ad (mK f)) n (nI v)) b ad (yV X f n v) → J l g me hgt mc ms Q (pc + 1) lv rest (uI S 9 (ad (mK f)) n (nI v)) nc ns) : J l g me hgt mc ms Q pc lv (.int x :: .int i :: .ref (ad (mK f)) :: rest) S nc ns := by
  have h := mK_arr f (mAttr_lt hf) hf
  have ha := hW.a (mK f) h.1
  rw [h.2] at ha
  subst hx
  exact J_iast ha hi hn (mLn_lt _) hdg (k (hW.wV f hf n v))
theorem J_mss (hW : WM S b ad X) (i f : Nat) {v idx : Nat} {x : Int32} (hk : (i, f) = (1, 0) ∨ (i, f) = (2, 1) ∨ (i, f) = (14, 2) ∨ (i, f) = (15, 3) ∨ (i, f) = (0, 32)) (hx : x = nI v) (hw : Cond.fieldLink me.1.cls idx (TX10 i).1 (TX10 i).2.1 (TX10 i).2.2.1 ∈ T0) (hdg : decode me.2.1 pc = .ok (.putfield idx, 3)) (k : WM (uI S 8 b i (nI v)) b ad (yV X f 0 v) → J l g me hgt mc ms Q (pc + 3) lv rest (uI S 8 b i (nI v)) nc ns) : J l g me hgt mc ms Q pc lv (.int x :: .ref b :: rest) S nc ns := by
  subst hx
  have h := hW.wS i f v hk
  rcases hk with e | e | e | e | e <;> cases e <;> exact J_puti cl8 hW.o (by decide) rfl rfl rfl rfl hw hdg (k h)
end JMR
end
section
/-! rows of packets in the reference's arrays -/
def mOnly (ad : Nat → Nat) (ks : List Nat) (S S' : jS) : Prop := S'.1 = S.1 ∧ S'.2.1 = S.2.1 ∧ sP S' = sP S ∧ sN S' = sN S ∧ sI S' 8 = sI S 8 ∧ sI S' 10 = sI S 10 ∧ ∀ k, mArr k = true → k ∉ ks → sI S' 9 (ad k) = sI S 9 (ad k)
theorem mOnly.rf {ad : Nat → Nat} {ks : List Nat} {S : jS} : mOnly ad ks S S := ⟨rfl, rfl, rfl, rfl, rfl, rfl, fun _ _ _ => rfl⟩
theorem sl_c {S : jS} {c a k c' : Nat} {v : Int32} (h : c' ≠ c) : sI (uI S c a k v) c' = sI S c' := funext fun a' => funext fun k' => by rw [sI_uI, if_neg (fun z => h z.1)]
theorem sl_a {S : jS} {c a k c' a' : Nat} {v : Int32} (h : a' ≠ a) : sI (uI S c a k v) c' a' = sI S c' a' := funext fun k' => by rw [sI_uI, if_neg (fun z => h z.2.1)]
theorem sl_s {S : jS} {c a k : Nat} {v : Int32} : sI (uI S c a k v) c a = upd (sI S c a) k v := funext fun k' => by simp [sI_uI, upd]
theorem mOnly.wr {ad : Nat → Nat} {ks : List Nat} {S S' : jS} (h : mOnly ad ks S S') {b : Nat} {X : XS} (hW : WM S b ad X) {k i : Nat} {v : Int32} (hk : mArr k = true) (hks : k ∈ ks) : mOnly ad ks S (uI S' 9 (ad k) i v) := by
  obtain ⟨h1, h2, h3, h4, h5, h6, h7⟩ := h
  refine ⟨h1, h2, h3, h4, (sl_c (by decide)).trans h5, (sl_c (by decide)).trans h6, fun k' hk' hn => ?_⟩
  rw [sl_a (hW.ne hk' hk (fun e => hn (e ▸ hks)))]
  exact h7 k' hk' hn
theorem mOnly.shape {ad : Nat → Nat} {ks : List Nat} {S S' : jS} {b : Nat} (h : mOnly ad ks S S') (hs : mShape S b ad) : mShape S' b ad := by
  obtain ⟨h1, h2, h3, h4, -⟩ := h
  have hat : ∀ c a, sAt S c a → sAt S' c a := fun c a z => ⟨by rw [h1]; exact z.1, by rw [h2]; exact z.2⟩
  exact ⟨hat _ _ hs.1, fun k hk => by rw [h3]; exact hs.2.1 k hk, fun k hk => ⟨hat _ _ (hs.2.2.1 k hk).1, by rw [h4]; exact (hs.2.2.1 k hk).2⟩, hs.2.2.2⟩
abbrev mLs : List Nat := [3, 4, 5, 8, 9, 10, 11, 37, 38, 39, 40]
theorem WM.lists {S S' : jS} {b : Nat} {ad : Nat → Nat} {X X' : XS} (h : WM S b ad X) (hs : mOnly ad mLs S S') (hx : xV X' = xV X) (hb : xB X' = xB X) (h1 : mLnk S' ad X') (h2 : mQue S' ad X') (h3 : mDue S' ad X') : WM S' b ad X' := by
  have hsh := hs.shape h.1
  obtain ⟨-, -, -, -, e8, e10, e9⟩ := hs
  refine ⟨hsh, fun f hf i hi => ?_, ?_, fun s hs => by rw [e10, hx]; exact h.2.2.2.1 s hs, fun m hm i hi => by rw [e10, hb]; exact h.2.2.2.2.1 m hm i hi, h1, h2, h3⟩
  · rw [e9 _ (mK_arr f (mAttr_lt hf) hf).1 (fun z => mK_oth f (mAttr_lt hf) hf _ z rfl), hx]
    exact h.2.1 f hf i hi
  · unfold mSca
    rw [e8, hx]
    exact h.2.2.1
theorem mLnk.keep {S S' : jS} {ad : Nat → Nat} {X X' : XS} (h : mLnk S ad X) (e3 : sI S' 9 (ad 3) = sI S 9 (ad 3)) (e4 : sI S' 9 (ad 4) = sI S 9 (ad 4)) (e5 : sI S' 9 (ad 5) = sI S 9 (ad 5)) (hx : ∀ k, k < 24 → xL X' (200 + k) = xL X (200 + k)) : mLnk S' ad X' := fun k hk => by
  rw [e3, e4, e5, hx k hk]
  exact h k hk
theorem mQue.keep {S S' : jS} {ad : Nat → Nat} {X X' : XS} (h : mQue S ad X) (e8 : sI S' 9 (ad 8) = sI S 9 (ad 8)) (e9 : sI S' 9 (ad 9) = sI S 9 (ad 9)) (e10 : sI S' 9 (ad 10) = sI S 9 (ad 10)) (e11 : sI S' 9 (ad 11) = sI S 9 (ad 11)) (hx : ∀ q, q < 96 → xL X' q = xL X q) : mQue S' ad X' := fun q hq => by
  rw [e8, e9, e10, e11, hx q hq]
  exact h q hq
theorem mDue.keep {S S' : jS} {ad : Nat → Nat} {X X' : XS} (h : mDue S ad X) (e8 : sI S' 9 (ad 37) = sI S 9 (ad 37)) (e9 : sI S' 9 (ad 38) = sI S 9 (ad 38)) (e10 : sI S' 9 (ad 39) = sI S 9 (ad 39)) (e11 : sI S' 9 (ad 40) = sI S 9 (ad 40)) (hx : ∀ q, q < 8 → xL X' (96 + q) = xL X (96 + q)) : mDue S' ad X' := fun q hq => by
  rw [e8, e9, e10, e11, hx q hq]
  exact h q hq
/-- the link is empty -/
theorem WM.wL0 {S : jS} {b : Nat} {ad : Nat → Nat} {X : XS} (h : WM S b ad X) (k : Nat) : WM (uI S 9 (ad 3) k (-1)) b ad (yL X (200 + k) []) := by
  have hs : mOnly ad mLs S (uI S 9 (ad 3) k (-1)) := mOnly.rf.wr h rfl (by decide)
  refine h.lists hs rfl rfl ?_ (mQue.keep h.2.2.2.2.2.2.1 ?_ ?_ ?_ ?_ ?_) (mDue.keep h.2.2.2.2.2.2.2 ?_ ?_ ?_ ?_ ?_)
  · intro j hj
    have := h.2.2.2.2.2.1 j hj
    by_cases e : j = k
    · subst e
      refine ⟨fun _ => by rw [sI_same], fun e t he => ?_⟩
      rw [xL_yL, if_pos rfl] at he
      cases he
    · rw [xL_yL, if_neg (by omega), h.oth (k := 3) (k' := 4) rfl rfl (by decide), h.oth (k := 3) (k' := 5) rfl rfl (by decide), sI_nk e rfl]
      exact this
  all_goals first | exact sl_a (h.ne rfl rfl (by decide)) | (intro q hq; rw [xL_yL, if_neg (by omega)])
/-- a packet on the link -/
theorem WM.wL1 {S : jS} {b : Nat} {ad : Nat → Nat} {X : XS} (h : WM S b ad X) (k : Nat) (e : Nat × Nat × Nat) : WM (uI (uI (uI S 9 (ad 3) k (nI e.1)) 9 (ad 4) k (nI e.2.1)) 9 (ad 5) k (nI e.2.2)) b ad (yL X (200 + k) [e]) := by
  have hs : mOnly ad mLs S (uI (uI (uI S 9 (ad 3) k (nI e.1)) 9 (ad 4) k (nI e.2.1)) 9 (ad 5) k (nI e.2.2)) := ((mOnly.rf.wr h rfl (by decide)).wr h rfl (by decide)).wr h rfl (by decide)
  have n34 := h.ne (k := 3) (k' := 4) rfl rfl (by decide)
  have n35 := h.ne (k := 3) (k' := 5) rfl rfl (by decide)
  have n45 := h.ne (k := 4) (k' := 5) rfl rfl (by decide)
  refine h.lists hs rfl rfl ?_ (mQue.keep h.2.2.2.2.2.2.1 ?_ ?_ ?_ ?_ ?_) (mDue.keep h.2.2.2.2.2.2.2 ?_ ?_ ?_ ?_ ?_)
  · intro j hj
    have := h.2.2.2.2.2.1 j hj
    by_cases ej : j = k
    · subst ej
      refine ⟨fun z => ?_, fun e' t he => ?_⟩
      · rw [xL_yL, if_pos rfl] at z
        cases z
      · rw [xL_yL, if_pos rfl] at he
        cases he
        exact ⟨sI_na n35 (sI_na n34 (sI_same _ _ _ _ _)), sI_na n45 (sI_same _ _ _ _ _), sI_same _ _ _ _ _⟩
    · rw [xL_yL, if_neg (by omega), sI_nk ej (sI_nk ej (sI_nk ej rfl)), sI_nk ej (sI_nk ej (sI_nk ej rfl)), sI_nk ej (sI_nk ej (sI_nk ej rfl))]
      exact this
  all_goals first | (rw [sl_a (h.ne rfl rfl (by decide)), sl_a (h.ne rfl rfl (by decide)), sl_a (h.ne rfl rfl (by decide))]; done) | (intro q hq; rw [xL_yL, if_neg (by omega)])
/-- one more behind a queue -/
theorem WM.wQ1 {S : jS} {b : Nat} {ad : Nat → Nat} {X : XS} (h : WM S b ad X) (q : Nat) (hq : q < 96) (hl : (xL X (q)).length < 8) (e : Nat × Nat × Nat) {n : Nat} (hn : n = 8 * q + (xL X (q)).length) : WM (uI (uI (uI (uI S 9 (ad 9) n (nI e.1)) 9 (ad 10) n (nI e.2.1)) 9 (ad 11) n (nI e.2.2)) 9 (ad 8) q (nI ((xL X (q)).length + 1))) b ad (yL X (q) (xL X (q) ++ [e])) := by
  subst hn
  have nkw := h.ne (k := 9) (k' := 8) rfl rfl (by decide)
  have naw := h.ne (k := 10) (k' := 8) rfl rfl (by decide)
  have ncw := h.ne (k := 11) (k' := 8) rfl rfl (by decide)
  have nka := h.ne (k := 9) (k' := 10) rfl rfl (by decide)
  have nkc := h.ne (k := 9) (k' := 11) rfl rfl (by decide)
  have nac := h.ne (k := 10) (k' := 11) rfl rfl (by decide)
  have key : mQue (uI (uI (uI (uI S 9 (ad 9) (8 * q + (xL X (q)).length) (nI e.1)) 9 (ad 10) (8 * q + (xL X (q)).length) (nI e.2.1)) 9 (ad 11) (8 * q + (xL X (q)).length) (nI e.2.2)) 9 (ad 8) q (nI ((xL X (q)).length + 1))) ad (yL X (q) (xL X (q) ++ [e])) := by
    intro j hj
    have this := h.2.2.2.2.2.2.1 j hj
    by_cases ej : j = q
    · subst ej
      rw [xL_yL, if_pos rfl]
      refine ⟨by rw [List.length_append]; show _ + 1 ≤ _; omega, by rw [sI_same, List.length_append]; rfl, fun i e' he => ?_⟩
      rw [List.getElem?_append] at he
      by_cases hi : i < (xL X (j)).length
      · rw [if_pos hi] at he
        have ne : 8 * j + i ≠ 8 * j + (xL X (j)).length := by omega
        have t := this.2.2 i e' he
        exact ⟨sI_na nkw (sI_na nkc (sI_na nka (sI_nk ne t.1))), sI_na naw (sI_na nac (sI_nk ne (sI_na nka.symm t.2.1))), sI_na ncw (sI_nk ne (sI_na nac.symm (sI_na nkc.symm t.2.2)))⟩
      · rw [if_neg hi] at he
        have hi0 : i - (xL X (j)).length = 0 := by
          cases hz : i - (xL X (j)).length with
          | zero => rfl
          | succ n => rw [hz] at he; simp at he
        rw [hi0] at he
        cases he
        have : i = (xL X (j)).length := by omega
        subst this
        exact ⟨sI_na nkw (sI_na nkc (sI_na nka (sI_same _ _ _ _ _))), sI_na naw (sI_na nac (sI_same _ _ _ _ _)), sI_na ncw (sI_same _ _ _ _ _)⟩
    · rw [xL_yL, if_neg (by omega)]
      refine ⟨this.1, sI_nk ej (sI_na ncw.symm (sI_na naw.symm (sI_na nkw.symm this.2.1))), fun i e' he => ?_⟩
      have hi : i < (xL X (j)).length := (List.getElem?_eq_some_iff.mp he).1
      have h8 := this.1
      have ne : 8 * j + i ≠ 8 * q + (xL X (q)).length := by omega
      have t := this.2.2 i e' he
      exact ⟨sI_na nkw (sI_na nkc (sI_na nka (sI_nk ne t.1))), sI_na naw (sI_na nac (sI_nk ne (sI_na nka.symm t.2.1))), sI_na ncw (sI_nk ne (sI_na nac.symm (sI_na nkc.symm t.2.2)))⟩
  refine h.lists ((((mOnly.rf.wr h rfl (by decide)).wr h rfl (by decide)).wr h rfl (by decide)).wr h rfl (by decide)) rfl rfl (mLnk.keep h.2.2.2.2.2.1 ?_ ?_ ?_ ?_) key (mDue.keep h.2.2.2.2.2.2.2 ?_ ?_ ?_ ?_ ?_)
  all_goals first | (rw [sl_a (h.ne rfl rfl (by decide)), sl_a (h.ne rfl rfl (by decide)), sl_a (h.ne rfl rfl (by decide)), sl_a (h.ne rfl rfl (by decide))]; done) | (intro z hz; rw [xL_yL, if_neg (by omega)])
/-- one more behind the row of what is due -/
theorem WM.wD1 {S : jS} {b : Nat} {ad : Nat → Nat} {X : XS} (h : WM S b ad X) (q : Nat) (hq : q < 8) (hl : (xL X (96 + q)).length < 24) (e : Nat × Nat × Nat) {n : Nat} (hn : n = 24 * q + (xL X (96 + q)).length) : WM (uI (uI (uI (uI S 9 (ad 38) n (nI e.1)) 9 (ad 39) n (nI e.2.1)) 9 (ad 40) n (nI e.2.2)) 9 (ad 37) q (nI ((xL X (96 + q)).length + 1))) b ad (yL X (96 + q) (xL X (96 + q) ++ [e])) := by
  subst hn
  have nkw := h.ne (k := 38) (k' := 37) rfl rfl (by decide)
  have naw := h.ne (k := 39) (k' := 37) rfl rfl (by decide)
  have ncw := h.ne (k := 40) (k' := 37) rfl rfl (by decide)
  have nka := h.ne (k := 38) (k' := 39) rfl rfl (by decide)
  have nkc := h.ne (k := 38) (k' := 40) rfl rfl (by decide)
  have nac := h.ne (k := 39) (k' := 40) rfl rfl (by decide)
  have key : mDue (uI (uI (uI (uI S 9 (ad 38) (24 * q + (xL X (96 + q)).length) (nI e.1)) 9 (ad 39) (24 * q + (xL X (96 + q)).length) (nI e.2.1)) 9 (ad 40) (24 * q + (xL X (96 + q)).length) (nI e.2.2)) 9 (ad 37) q (nI ((xL X (96 + q)).length + 1))) ad (yL X (96 + q) (xL X (96 + q) ++ [e])) := by
    intro j hj
    have this := h.2.2.2.2.2.2.2 j hj
    by_cases ej : j = q
    · subst ej
      rw [xL_yL, if_pos rfl]
      refine ⟨by rw [List.length_append]; show _ + 1 ≤ _; omega, by rw [sI_same, List.length_append]; rfl, fun i e' he => ?_⟩
      rw [List.getElem?_append] at he
      by_cases hi : i < (xL X (96 + j)).length
      · rw [if_pos hi] at he
        have ne : 24 * j + i ≠ 24 * j + (xL X (96 + j)).length := by omega
        have t := this.2.2 i e' he
        exact ⟨sI_na nkw (sI_na nkc (sI_na nka (sI_nk ne t.1))), sI_na naw (sI_na nac (sI_nk ne (sI_na nka.symm t.2.1))), sI_na ncw (sI_nk ne (sI_na nac.symm (sI_na nkc.symm t.2.2)))⟩
      · rw [if_neg hi] at he
        have hi0 : i - (xL X (96 + j)).length = 0 := by
          cases hz : i - (xL X (96 + j)).length with
          | zero => rfl
          | succ n => rw [hz] at he; simp at he
        rw [hi0] at he
        cases he
        have : i = (xL X (96 + j)).length := by omega
        subst this
        exact ⟨sI_na nkw (sI_na nkc (sI_na nka (sI_same _ _ _ _ _))), sI_na naw (sI_na nac (sI_same _ _ _ _ _)), sI_na ncw (sI_same _ _ _ _ _)⟩
    · rw [xL_yL, if_neg (by omega)]
      refine ⟨this.1, sI_nk ej (sI_na ncw.symm (sI_na naw.symm (sI_na nkw.symm this.2.1))), fun i e' he => ?_⟩
      have hi : i < (xL X (96 + j)).length := (List.getElem?_eq_some_iff.mp he).1
      have h8 := this.1
      have ne : 24 * j + i ≠ 24 * q + (xL X (96 + q)).length := by omega
      have t := this.2.2 i e' he
      exact ⟨sI_na nkw (sI_na nkc (sI_na nka (sI_nk ne t.1))), sI_na naw (sI_na nac (sI_nk ne (sI_na nka.symm t.2.1))), sI_na ncw (sI_nk ne (sI_na nac.symm (sI_na nkc.symm t.2.2)))⟩
  refine h.lists ((((mOnly.rf.wr h rfl (by decide)).wr h rfl (by decide)).wr h rfl (by decide)).wr h rfl (by decide)) rfl rfl (mLnk.keep h.2.2.2.2.2.1 ?_ ?_ ?_ ?_) (mQue.keep h.2.2.2.2.2.2.1 ?_ ?_ ?_ ?_ ?_) key
  all_goals first | (rw [sl_a (h.ne rfl rfl (by decide)), sl_a (h.ne rfl rfl (by decide)), sl_a (h.ne rfl rfl (by decide)), sl_a (h.ne rfl rfl (by decide))]; done) | (intro z hz; rw [xL_yL, if_neg (by omega)])
end
section
/-! the reference's methods: rows of packets -/
abbrev mPost (b : Nat) (ad : Nat → Nat) (X : XS) : Option Value → jS → Prop := fun r S' => r = none ∧ WM S' b ad X
set_option maxRecDepth 100000 in
theorem cm_goal (l : Launch) (g : jG) (hgt : Nat) {S : jS} {b : Nat} {ad : Nat → Nat} {X : XS} {k m : Nat} (hW : WM S b ad X) (hk : k < 4) (hm : m < 48) : CT l g mX10_goal hgt 0 0 [.ref b, .int (nI k), .int (nI m)] S (jPure (.int (nI (x_goal X k m))) S) := by
  refine CT_of qX10_goal (Nat.le_of_ble_eq_true rfl) ?_
  refine J_iload_n (pc := 0) dX10_goal_0 rfl rfl ?_
  refine J_if_neN (pc := 1) (tgt := 13) dX10_goal_1 rfl (by omega) (fun hc => ?_) (fun hc => ?_)
  · refine J_aload_n (pc := 13) dX10_goal_13 rfl rfl ?_
    refine J_getr (pc := 14) (i := 16) cl8 hW.o (by decide) rfl (hW.r 16 rfl) kX10_44 dX10_goal_14 ?_
    refine J_iload_n (pc := 17) dX10_goal_17 rfl rfl ?_
    refine J_mld (pc := 18) hW 8 rfl rfl (by show _ < 48; omega) dX10_goal_18 ?_
    refine J_iret (pc := 19) dX10_goal_19 rfl (by omega) (by omega) ?_
    exact ⟨by rw [x_goal, if_neg hc], rfl⟩
  · refine J_aload_n (pc := 4) dX10_goal_4 rfl rfl ?_
    refine J_getr (pc := 5) (i := 17) cl8 hW.o (by decide) rfl (hW.r 17 rfl) kX10_47 dX10_goal_5 ?_
    refine J_iload_n (pc := 8) dX10_goal_8 rfl rfl ?_
    refine J_mld (pc := 9) hW 9 rfl rfl (by show _ < 48; omega) dX10_goal_9 ?_
    refine J_goto (pc := 10) (tgt := 19) dX10_goal_10 rfl ?_
    refine J_iret (pc := 19) dX10_goal_19 rfl (by omega) (by omega) ?_
    exact ⟨by rw [x_goal, if_pos hc], rfl⟩
set_option maxRecDepth 100000 in
theorem cm_enter (l : Launch) (g : jG) (hgt : Nat) {S : jS} {b : Nat} {ad : Nat → Nat} {X : XS} {link k m c p : Nat} (hW : WM S b ad X) (h1 : xV X 4 link ≤ 100) (hl : link < 24) : CT l g mX10_enter hgt 0 0 [.ref b, .int (nI link), .int (nI k), .int (nI m), .int (nI c), .int (nI p)] S (mPost b ad (x_enter X link (k, m, c) p)) := by
  refine CT_of qX10_enter (Nat.le_of_ble_eq_true rfl) ?_
  refine J_aload_n (pc := 0) dX10_enter_0 rfl rfl ?_
  refine J_getr (pc := 1) (i := 7) cl8 hW.o (by decide) rfl (hW.r 7 rfl) kX10_22 dX10_enter_1 ?_
  refine J_iload_n (pc := 4) dX10_enter_4 rfl rfl ?_
  refine J_mld (pc := 5) hW 4 rfl rfl (by show _ < 24; omega) dX10_enter_5 ?_
  refine J_if_leN (pc := 6) (tgt := 30) dX10_enter_6 rfl (by omega) (fun hc => ?_) (fun hc => ?_)
  · refine J_aload_n (pc := 30) dX10_enter_30 rfl rfl ?_
    refine J_getr (pc := 31) (i := 3) cl8 hW.o (by decide) rfl (hW.r 3 rfl) kX10_7 dX10_enter_31 ?_
    refine J_iload_n (pc := 34) dX10_enter_34 rfl rfl ?_
    refine J_iload_n (pc := 35) dX10_enter_35 rfl rfl ?_
    refine J_iast (pc := 36) (hW.a 3 rfl) rfl hl (by first | omega | exact mLn_lt _) dX10_enter_36 ?_
    refine J_aload_n (pc := 37) dX10_enter_37 rfl rfl ?_
    refine J_getr (pc := 38) (i := 4) cl8 hW.o (by decide) rfl (hW.r 4 rfl) kX10_13 dX10_enter_38 ?_
    refine J_iload_n (pc := 41) dX10_enter_41 rfl rfl ?_
    refine J_iload_n (pc := 42) dX10_enter_42 rfl rfl ?_
    refine J_iast (pc := 43) (hW.a 4 rfl) rfl hl (by first | omega | exact mLn_lt _) dX10_enter_43 ?_
    refine J_aload_n (pc := 44) dX10_enter_44 rfl rfl ?_
    refine J_getr (pc := 45) (i := 5) cl8 hW.o (by decide) rfl (hW.r 5 rfl) kX10_16 dX10_enter_45 ?_
    refine J_iload_n (pc := 48) dX10_enter_48 rfl rfl ?_
    refine J_iload (pc := 49) dX10_enter_49 rfl ?_
    refine J_iast (pc := 51) (hW.a 5 rfl) rfl hl (by first | omega | exact mLn_lt _) dX10_enter_51 ?_
    have hW := hW.wL1 link (k, m, c)
    refine J_aload_n (pc := 52) dX10_enter_52 rfl rfl ?_
    refine J_getr (pc := 53) (i := 6) cl8 hW.o (by decide) rfl (hW.r 6 rfl) kX10_19 dX10_enter_53 ?_
    refine J_iload_n (pc := 56) dX10_enter_56 rfl rfl ?_
    refine J_iload (pc := 57) dX10_enter_57 rfl ?_
    refine J_mst (pc := 59) hW 5 rfl rfl (by show _ < 24; omega) rfl dX10_enter_59 (fun hW => ?_)
    refine J_vret (pc := 60) dX10_enter_60 rfl (by omega) (by omega) ?_
    exact ⟨rfl, by rw [x_enter, if_neg (by omega)]; exact hW⟩
  · refine J_aload_n (pc := 9) dX10_enter_9 rfl rfl ?_
    refine J_getr (pc := 10) (i := 7) cl8 hW.o (by decide) rfl (hW.r 7 rfl) kX10_22 dX10_enter_10 ?_
    refine J_iload_n (pc := 13) dX10_enter_13 rfl rfl ?_
    refine J_dup2_11 (pc := 14) dX10_enter_14 rfl rfl ?_
    refine J_mld (pc := 15) hW 4 rfl rfl (by show _ < 24; omega) dX10_enter_15 ?_
    refine J_iconst (pc := 16) (v := nI 1) dX10_enter_16 (by decide) ?_
    first | refine J_isubN (pc := 17) dX10_enter_17 (by omega) ?_ | refine J_isub (pc := 17) dX10_enter_17 ?_
    refine J_mst (pc := 18) hW 4 rfl rfl (by show _ < 24; omega) rfl dX10_enter_18 (fun hW => ?_)
    refine J_aload_n (pc := 19) dX10_enter_19 rfl rfl ?_
    refine J_dup (pc := 20) dX10_enter_20 rfl ?_
    refine J_geti (pc := 21) (i := 15) cl8 hW.o (by decide) rfl hW.2.2.1.2.2.2.1 kX10_141 dX10_enter_21 ?_
    refine J_iconst (pc := 24) (v := nI 1) dX10_enter_24 (by decide) ?_
    first | refine J_iaddN (pc := 25) dX10_enter_25 ?_ | refine J_iadd (pc := 25) dX10_enter_25 ?_
    refine J_mss (pc := 26) hW 15 3 (by decide) rfl kX10_141 dX10_enter_26 (fun hW => ?_)
    refine J_vret (pc := 29) dX10_enter_29 rfl (by omega) (by omega) ?_
    exact ⟨rfl, by rw [x_enter, if_pos (by omega)]; exact hW⟩
set_option maxRecDepth 100000 in
theorem cm_line (l : Launch) (g : jG) (hgt : Nat) {S : jS} {b : Nat} {ad : Nat → Nat} {X : XS} {link k m c p : Nat} (hW : WM S b ad X) (hl : link < 24) (hp : p < 4) : CT l g mX10_line hgt 0 0 [.ref b, .int (nI link), .int (nI k), .int (nI m), .int (nI c), .int (nI p)] S (mPost b ad (x_line X link (k, m, c) p)) := by
  have hq : 4 * link + p < 96 := by omega
  obtain ⟨h8, hw, -⟩ := hW.2.2.2.2.2.2.1 _ hq
  refine CT_of qX10_line (Nat.le_of_ble_eq_true rfl) ?_
  refine J_iconst (pc := 0) (v := nI 4) dX10_line_0 (by decide) ?_
  refine J_iload_n (pc := 1) dX10_line_1 rfl rfl ?_
  first | refine J_imulN (pc := 2) dX10_line_2 ?_ | refine J_imul (pc := 2) dX10_line_2 ?_
  refine J_iload (pc := 3) dX10_line_3 rfl ?_
  first | refine J_iaddN (pc := 5) dX10_line_5 ?_ | refine J_iadd (pc := 5) dX10_line_5 ?_
  refine J_istore (pc := 6) dX10_line_6 (by decide) ?_
  refine J_aload_n (pc := 8) dX10_line_8 rfl rfl ?_
  refine J_getr (pc := 9) (i := 8) cl8 hW.o (by decide) rfl (hW.r 8 rfl) kX10_25 dX10_line_9 ?_
  refine J_iload (pc := 12) dX10_line_12 rfl ?_
  refine J_iald (pc := 14) (hW.a 8 rfl) rfl hq (by first | omega | exact mLn_lt _) hw dX10_line_14 ?_
  refine J_bipush (pc := 15) (v := nI 8) dX10_line_15 (by decide) ?_
  refine J_icmp_neN (pc := 17) (tgt := 31) dX10_line_17 rfl (by omega) (by omega) (fun hc => ?_) (fun hc => ?_)
  · have hlt : (xL X (4 * link + p)).length < 8 := by omega
    refine J_bipush (pc := 31) (v := nI 8) dX10_line_31 (by decide) ?_
    refine J_iload (pc := 33) dX10_line_33 rfl ?_
    first | refine J_imulN (pc := 35) dX10_line_35 ?_ | refine J_imul (pc := 35) dX10_line_35 ?_
    refine J_aload_n (pc := 36) dX10_line_36 rfl rfl ?_
    refine J_getr (pc := 37) (i := 8) cl8 hW.o (by decide) rfl (hW.r 8 rfl) kX10_25 dX10_line_37 ?_
    refine J_iload (pc := 40) dX10_line_40 rfl ?_
    refine J_iald (pc := 42) (hW.a 8 rfl) rfl hq (by first | omega | exact mLn_lt _) hw dX10_line_42 ?_
    first | refine J_iaddN (pc := 43) dX10_line_43 ?_ | refine J_iadd (pc := 43) dX10_line_43 ?_
    refine J_istore (pc := 44) dX10_line_44 (by decide) ?_
    refine J_aload_n (pc := 46) dX10_line_46 rfl rfl ?_
    refine J_getr (pc := 47) (i := 9) cl8 hW.o (by decide) rfl (hW.r 9 rfl) kX10_28 dX10_line_47 ?_
    refine J_iload (pc := 50) dX10_line_50 rfl ?_
    refine J_iload_n (pc := 52) dX10_line_52 rfl rfl ?_
    refine J_iast (pc := 53) (hW.a 9 rfl) rfl (show _ < 768 by omega) (by first | omega | exact mLn_lt _) dX10_line_53 ?_
    refine J_aload_n (pc := 54) dX10_line_54 rfl rfl ?_
    refine J_getr (pc := 55) (i := 10) cl8 hW.o (by decide) rfl (hW.r 10 rfl) kX10_31 dX10_line_55 ?_
    refine J_iload (pc := 58) dX10_line_58 rfl ?_
    refine J_iload_n (pc := 60) dX10_line_60 rfl rfl ?_
    refine J_iast (pc := 61) (hW.a 10 rfl) rfl (show _ < 768 by omega) (by first | omega | exact mLn_lt _) dX10_line_61 ?_
    refine J_aload_n (pc := 62) dX10_line_62 rfl rfl ?_
    refine J_getr (pc := 63) (i := 11) cl8 hW.o (by decide) rfl (hW.r 11 rfl) kX10_34 dX10_line_63 ?_
    refine J_iload (pc := 66) dX10_line_66 rfl ?_
    refine J_iload (pc := 68) dX10_line_68 rfl ?_
    refine J_iast (pc := 70) (hW.a 11 rfl) rfl (show _ < 768 by omega) (by first | omega | exact mLn_lt _) dX10_line_70 ?_
    have n1 := hW.ne (k := 9) (k' := 8) rfl rfl (by decide)
    have n2 := hW.ne (k := 10) (k' := 8) rfl rfl (by decide)
    have n3 := hW.ne (k := 11) (k' := 8) rfl rfl (by decide)
    refine J_aload_n (pc := 71) dX10_line_71 rfl rfl ?_
    refine J_getr (pc := 72) (i := 8) cl8 hW.o (by decide) rfl (hW.r 8 rfl) kX10_25 dX10_line_72 ?_
    refine J_iload (pc := 75) dX10_line_75 rfl ?_
    refine J_dup2_11 (pc := 77) dX10_line_77 rfl rfl ?_
    refine J_iald (pc := 78) (hW.a 8 rfl) rfl hq (by first | omega | exact mLn_lt _) (sI_na n3.symm (sI_na n2.symm (sI_na n1.symm hw))) dX10_line_78 ?_
    refine J_iconst (pc := 79) (v := nI 1) dX10_line_79 (by decide) ?_
    first | refine J_iaddN (pc := 80) dX10_line_80 ?_ | refine J_iadd (pc := 80) dX10_line_80 ?_
    refine J_iast (pc := 81) (hW.a 8 rfl) rfl hq (by first | omega | exact mLn_lt _) dX10_line_81 ?_
    have hW := hW.wQ1 _ hq hlt (k, m, c) rfl
    refine J_vret (pc := 82) dX10_line_82 rfl (by omega) (by omega) ?_
    exact ⟨rfl, by rw [x_line, if_neg hc]; exact hW⟩
  · refine J_aload_n (pc := 20) dX10_line_20 rfl rfl ?_
    refine J_dup (pc := 21) dX10_line_21 rfl ?_
    refine J_geti (pc := 22) (i := 14) cl8 hW.o (by decide) rfl hW.2.2.1.2.2.1 kX10_144 dX10_line_22 ?_
    refine J_iconst (pc := 25) (v := nI 1) dX10_line_25 (by decide) ?_
    first | refine J_iaddN (pc := 26) dX10_line_26 ?_ | refine J_iadd (pc := 26) dX10_line_26 ?_
    refine J_mss (pc := 27) hW 14 2 (by decide) rfl kX10_144 dX10_line_27 (fun hW => ?_)
    refine J_vret (pc := 30) dX10_line_30 rfl (by omega) (by omega) ?_
    exact ⟨rfl, by rw [x_line, if_pos hc]; exact hW⟩
set_option maxRecDepth 100000 in
theorem cm_becomeDue (l : Launch) (g : jG) (hgt : Nat) {S : jS} {b : Nat} {ad : Nat → Nat} {X : XS} {h k m c : Nat} (hW : WM S b ad X) (hh : h < 8) : CT l g mX10_becomeDue hgt 0 0 [.ref b, .int (nI h), .int (nI k), .int (nI m), .int (nI c)] S (mPost b ad (x_due X h (k, m, c))) := by
  obtain ⟨h8, hw, -⟩ := hW.2.2.2.2.2.2.2 h hh
  refine CT_of qX10_becomeDue (Nat.le_of_ble_eq_true rfl) ?_
  refine J_aload_n (pc := 0) dX10_becomeDue_0 rfl rfl ?_
  refine J_getr (pc := 1) (i := 37) cl8 hW.o (by decide) rfl (hW.r 37 rfl) kX10_107 dX10_becomeDue_1 ?_
  refine J_iload_n (pc := 4) dX10_becomeDue_4 rfl rfl ?_
  refine J_iald (pc := 5) (hW.a 37 rfl) rfl hh (by first | omega | exact mLn_lt _) hw dX10_becomeDue_5 ?_
  refine J_bipush (pc := 6) (v := nI 24) dX10_becomeDue_6 (by decide) ?_
  refine J_icmp_neN (pc := 8) (tgt := 12) dX10_becomeDue_8 rfl (by omega) (by omega) (fun hc => ?_) (fun hc => ?_)
  · have hlt : (xL X (96 + h)).length < 24 := by omega
    refine J_bipush (pc := 12) (v := nI 24) dX10_becomeDue_12 (by decide) ?_
    refine J_iload_n (pc := 14) dX10_becomeDue_14 rfl rfl ?_
    first | refine J_imulN (pc := 15) dX10_becomeDue_15 ?_ | refine J_imul (pc := 15) dX10_becomeDue_15 ?_
    refine J_aload_n (pc := 16) dX10_becomeDue_16 rfl rfl ?_
    refine J_getr (pc := 17) (i := 37) cl8 hW.o (by decide) rfl (hW.r 37 rfl) kX10_107 dX10_becomeDue_17 ?_
    refine J_iload_n (pc := 20) dX10_becomeDue_20 rfl rfl ?_
    refine J_iald (pc := 21) (hW.a 37 rfl) rfl hh (by first | omega | exact mLn_lt _) hw dX10_becomeDue_21 ?_
    first | refine J_iaddN (pc := 22) dX10_becomeDue_22 ?_ | refine J_iadd (pc := 22) dX10_becomeDue_22 ?_
    refine J_istore (pc := 23) dX10_becomeDue_23 (by decide) ?_
    refine J_aload_n (pc := 25) dX10_becomeDue_25 rfl rfl ?_
    refine J_getr (pc := 26) (i := 38) cl8 hW.o (by decide) rfl (hW.r 38 rfl) kX10_110 dX10_becomeDue_26 ?_
    refine J_iload (pc := 29) dX10_becomeDue_29 rfl ?_
    refine J_iload_n (pc := 31) dX10_becomeDue_31 rfl rfl ?_
    refine J_iast (pc := 32) (hW.a 38 rfl) rfl (show _ < 192 by omega) (by first | omega | exact mLn_lt _) dX10_becomeDue_32 ?_
    refine J_aload_n (pc := 33) dX10_becomeDue_33 rfl rfl ?_
    refine J_getr (pc := 34) (i := 39) cl8 hW.o (by decide) rfl (hW.r 39 rfl) kX10_113 dX10_becomeDue_34 ?_
    refine J_iload (pc := 37) dX10_becomeDue_37 rfl ?_
    refine J_iload_n (pc := 39) dX10_becomeDue_39 rfl rfl ?_
    refine J_iast (pc := 40) (hW.a 39 rfl) rfl (show _ < 192 by omega) (by first | omega | exact mLn_lt _) dX10_becomeDue_40 ?_
    refine J_aload_n (pc := 41) dX10_becomeDue_41 rfl rfl ?_
    refine J_getr (pc := 42) (i := 40) cl8 hW.o (by decide) rfl (hW.r 40 rfl) kX10_116 dX10_becomeDue_42 ?_
    refine J_iload (pc := 45) dX10_becomeDue_45 rfl ?_
    refine J_iload (pc := 47) dX10_becomeDue_47 rfl ?_
    refine J_iast (pc := 49) (hW.a 40 rfl) rfl (show _ < 192 by omega) (by first | omega | exact mLn_lt _) dX10_becomeDue_49 ?_
    have n1 := hW.ne (k := 38) (k' := 37) rfl rfl (by decide)
    have n2 := hW.ne (k := 39) (k' := 37) rfl rfl (by decide)
    have n3 := hW.ne (k := 40) (k' := 37) rfl rfl (by decide)
    refine J_aload_n (pc := 50) dX10_becomeDue_50 rfl rfl ?_
    refine J_getr (pc := 51) (i := 37) cl8 hW.o (by decide) rfl (hW.r 37 rfl) kX10_107 dX10_becomeDue_51 ?_
    refine J_iload_n (pc := 54) dX10_becomeDue_54 rfl rfl ?_
    refine J_dup2_11 (pc := 55) dX10_becomeDue_55 rfl rfl ?_
    refine J_iald (pc := 56) (hW.a 37 rfl) rfl hh (by first | omega | exact mLn_lt _) (sI_na n3.symm (sI_na n2.symm (sI_na n1.symm hw))) dX10_becomeDue_56 ?_
    refine J_iconst (pc := 57) (v := nI 1) dX10_becomeDue_57 (by decide) ?_
    first | refine J_iaddN (pc := 58) dX10_becomeDue_58 ?_ | refine J_iadd (pc := 58) dX10_becomeDue_58 ?_
    refine J_iast (pc := 59) (hW.a 37 rfl) rfl hh (by first | omega | exact mLn_lt _) dX10_becomeDue_59 ?_
    have hW := hW.wD1 _ hh hlt (k, m, c) rfl
    refine J_vret (pc := 60) dX10_becomeDue_60 rfl (by omega) (by omega) ?_
    exact ⟨rfl, by rw [x_due, if_neg hc]; exact hW⟩
  · refine J_vret (pc := 11) dX10_becomeDue_11 rfl (by omega) (by omega) ?_
    exact ⟨rfl, by rw [x_due, if_pos hc]; exact hW⟩
end
section
theorem down {P : Nat → Prop} (n : Nat) (h0 : P n) (hs : ∀ i, i < n → P (i + 1) → P i) : ∀ i, i ≤ n → P i := by
  intro i hi
  obtain ⟨d, rfl⟩ : ∃ d, n = i + d := ⟨n - i, by omega⟩
  induction d generalizing i with
  | zero => exact h0
  | succ d ih => exact hs i (by omega) (ih (i + 1) (by rw [show i + 1 + d = i + (d + 1) by omega]; exact h0) (by rw [show i + 1 + d = i + (d + 1) by omega]; exact hs) (by omega))
def lvIn (lv : List (Nat × Value)) : List (Nat × Value) → Prop
  | [] => True
  | q :: t => lv.lookup q.1 = some q.2 ∧ lvIn lv t
theorem lvIn_mem {lv : List (Nat × Value)} : ∀ {l : List (Nat × Value)}, lvIn lv l → ∀ q ∈ l, q ∈ lv
  | [], _, q, hq => by cases hq
  | p :: t, h, q, hq => by
    rcases List.mem_cons.mp hq with rfl | hq
    · exact mem_lookup h.1
    · exact lvIn_mem h.2 q hq
section JLV
variable {l : Launch} {g : jG} {me : jM} {hgt mc ms : Nat} {Q : Option Value → jS → Prop} {pc : Nat} {lv lv' : List (Nat × Value)} {st : List Value} {S : jS} {nc ns : Nat}
theorem J_lv (h : lvIn lv lv') (k : J l g me hgt mc ms Q pc lv' st S nc ns) : J l g me hgt mc ms Q pc lv st S nc ns := fun zA zp ze zs zm za zb zt zc zH zo zl zh zv zw => k zA zp ze zs zm za zb zt zc zH zo zl zh zv ⟨zw.1, zw.2.1, fun q hq => zw.2.2 q (lvIn_mem h q hq)⟩
theorem J_lvk (k : J l g me hgt mc ms Q pc lv' st S nc ns) (h : lvIn lv lv') : J l g me hgt mc ms Q pc lv st S nc ns := J_lv h k
theorem J_Q {Q' : Option Value → jS → Prop} (h : ∀ r S', Q' r S' → Q r S') (k : J l g me hgt mc ms Q' pc lv st S nc ns) : J l g me hgt mc ms Q pc lv st S nc ns := by
  intro zA zp ze zs zm za zb zt zc zH zo zl zh zv zw T hT X
  obtain ⟨t, a, o, b1, b2, b3, b4⟩ := k zA zp ze zs zm za zb zt zc zH zo zl zh zv zw T hT X
  obtain ⟨⟨r, S', e1, e2, e3⟩, e4⟩ := b3
  exact ⟨t, a, o, b1, b2, ⟨⟨r, S', e1, h r S' e2, e3⟩, e4⟩, b4⟩
end JLV
theorem WM.b0 {S : jS} {b : Nat} {ad : Nat → Nat} {X : XS} (h : WM S b ad X) {m i : Nat} (hm : m < 48) (hi : i < 60) : sI S 10 (ad 27) (60 * m + i) = bI (xB X 0 m i) := (h.2.2.2.2.1 m hm i hi).1
theorem WM.b1 {S : jS} {b : Nat} {ad : Nat → Nat} {X : XS} (h : WM S b ad X) {m i : Nat} (hm : m < 48) (hi : i < 60) : sI S 10 (ad 35) (60 * m + i) = bI (xB X 1 m i) := (h.2.2.2.2.1 m hm i hi).2
theorem WM.congB {S : jS} {b : Nat} {ad : Nat → Nat} {X X' : XS} (h : WM S b ad X) (hv : xV X' = xV X) (hl : xL X' = xL X) (hb : ∀ w m i, i < 60 → xB X' w m i = xB X w m i) : WM S b ad X' := by
  refine ⟨h.1, fun f hf i hi => by rw [hv]; exact h.2.1 f hf i hi, ?_, fun s hs => by rw [hv]; exact h.2.2.2.1 s hs, fun m hm i hi => by rw [hb 0 m i hi, hb 1 m i hi]; exact h.2.2.2.2.1 m hm i hi, fun k hk => by rw [hl]; exact h.2.2.2.2.2.1 k hk, fun k hk => by rw [hl]; exact h.2.2.2.2.2.2.1 k hk, fun k hk => by rw [hl]; exact h.2.2.2.2.2.2.2 k hk⟩
  unfold mSca
  rw [hv]
  exact h.2.2.1
/-- a set's place is written -/
theorem WM.wB {S : jS} {b : Nat} {ad : Nat → Nat} {X : XS} (h : WM S b ad X) (w k : Nat) (hk : (w, k) = (0, 27) ∨ (w, k) = (1, 35)) (m i : Nat) (hi : i < 60) (v : Bool) : WM (uI S 10 (ad k) (60 * m + i) (bI v)) b ad (yB X w m i v) := by
  have n1 := h.ne (k := 12) (k' := 27) rfl rfl (by decide)
  have n2 := h.ne (k := 12) (k' := 35) rfl rfl (by decide)
  have n3 := h.ne (k := 27) (k' := 35) rfl rfl (by decide)
  refine ⟨h.1, fun f' hf' j hj => sI_nc (by decide) (h.2.1 f' hf' j hj), ?_, ?_, ?_, ?_, ?_, ?_⟩
  · obtain ⟨s1, s2, s3, s4, s5⟩ := h.2.2.1
    exact ⟨sI_nc (by decide) s1, sI_nc (by decide) s2, sI_nc (by decide) s3, sI_nc (by decide) s4, sI_nc (by decide) s5⟩
  · intro s hs
    rcases hk with e | e <;> cases e
    · exact sI_na n1 (h.2.2.2.1 s hs)
    · exact sI_na n2 (h.2.2.2.1 s hs)
  · intro m' hm' j hj
    have t := h.2.2.2.2.1 m' hm' j hj
    rw [xB_yB, xB_yB]
    have e0 : (60 * m' + j = 60 * m + i) ↔ (m' = m ∧ j = i) := by constructor <;> intro z <;> omega
    rcases hk with e | e <;> cases e
    · refine ⟨?_, by rw [if_neg (fun z => by cases z.1)]; exact sI_na n3.symm t.2⟩
      rw [sI_uI]
      by_cases z : m' = m ∧ j = i
      · rw [if_pos ⟨rfl, rfl, e0.mpr z⟩, if_pos ⟨rfl, z⟩]
      · rw [if_neg (fun y => z (e0.mp y.2.2)), if_neg (fun y => z y.2)]
        exact t.1
    · refine ⟨by rw [if_neg (fun z => by cases z.1)]; exact sI_na n3 t.1, ?_⟩
      rw [sI_uI]
      by_cases z : m' = m ∧ j = i
      · rw [if_pos ⟨rfl, rfl, e0.mpr z⟩, if_pos ⟨rfl, z⟩]
      · rw [if_neg (fun y => z (e0.mp y.2.2)), if_neg (fun y => z y.2)]
        exact t.2
  · intro k' hk'
    have := h.2.2.2.2.2.1 k' hk'
    exact ⟨fun e => sI_nc (by decide) (this.1 e), fun e t he => ⟨sI_nc (by decide) (this.2 e t he).1, sI_nc (by decide) (this.2 e t he).2.1, sI_nc (by decide) (this.2 e t he).2.2⟩⟩
  · intro q hq
    have := h.2.2.2.2.2.2.1 q hq
    exact ⟨this.1, sI_nc (by decide) this.2.1, fun j e he => ⟨sI_nc (by decide) (this.2.2 j e he).1, sI_nc (by decide) (this.2.2 j e he).2.1, sI_nc (by decide) (this.2.2 j e he).2.2⟩⟩
  · intro q hq
    have := h.2.2.2.2.2.2.2 q hq
    exact ⟨this.1, sI_nc (by decide) this.2.1, fun j e he => ⟨sI_nc (by decide) (this.2.2 j e he).1, sI_nc (by decide) (this.2.2 j e he).2.1, sI_nc (by decide) (this.2.2 j e he).2.2⟩⟩
set_option maxRecDepth 100000 in
theorem cm_missing (l : Launch) (g : jG) (hgt : Nat) {S : jS} {b : Nat} {ad : Nat → Nat} {X : XS} {m : Nat} (hW : WM S b ad X) (hI : xV X 10 m ≤ 60) (hm : m < 48) : CT l g mX10_missing hgt 0 0 [.ref b, .int (nI m)] S (jPure (.int (nI (x_missing X m))) S) := by
  refine CT_of qX10_missing (Nat.le_of_ble_eq_true rfl) ?_
  refine J_iconst (pc := 0) (v := nI 0) dX10_missing_0 (by decide) ?_
  refine J_istore_n (pc := 1) dX10_missing_1 rfl (by decide) ?_
  refine J_iconst (pc := 2) (v := nI 0) dX10_missing_2 (by decide) ?_
  refine J_istore_n (pc := 3) dX10_missing_3 rfl (by decide) ?_
  have loop : ∀ i, i ≤ xV X 10 m → J l g mX10_missing hgt 0 0 (jPure (.int (nI (x_missing X m))) S) 4 [(3, .int (nI i)), (2, .int (nI (cnt (fun i => !xB X 1 m i) i))), (0, .ref b), (1, .int (nI m))] [] S 0 0 := by
    refine down _ ?_ ?_
    · refine J_iload_n (pc := 4) dX10_missing_4 rfl rfl ?_
      refine J_aload_n (pc := 5) dX10_missing_5 rfl rfl ?_
      refine J_getr (pc := 6) (i := 18) cl8 hW.o (by decide) rfl (hW.r 18 rfl) kX10_50 dX10_missing_6 ?_
      refine J_iload_n (pc := 9) dX10_missing_9 rfl rfl ?_
      refine J_mld (pc := 10) hW 10 rfl rfl (by show _ < 48; omega) dX10_missing_10 ?_
      refine J_icmp_geN (pc := 11) (tgt := 42) dX10_missing_11 rfl (by omega) (by omega) (fun hc => ?_) (fun hc => ?_)
      · refine J_iload_n (pc := 42) dX10_missing_42 rfl rfl ?_
        refine J_iret (pc := 43) dX10_missing_43 rfl (by omega) (by omega) ?_
        exact ⟨rfl, rfl⟩
      · omega
    · intro i hi ih
      refine J_iload_n (pc := 4) dX10_missing_4 rfl rfl ?_
      refine J_aload_n (pc := 5) dX10_missing_5 rfl rfl ?_
      refine J_getr (pc := 6) (i := 18) cl8 hW.o (by decide) rfl (hW.r 18 rfl) kX10_50 dX10_missing_6 ?_
      refine J_iload_n (pc := 9) dX10_missing_9 rfl rfl ?_
      refine J_mld (pc := 10) hW 10 rfl rfl (by show _ < 48; omega) dX10_missing_10 ?_
      refine J_icmp_geN (pc := 11) (tgt := 42) dX10_missing_11 rfl (by omega) (by omega) (fun hc => ?_) (fun hc => ?_)
      · omega
      · have e : cnt (fun i => !xB X 1 m i) (i + 1) = cnt (fun i => !xB X 1 m i) i + if !xB X 1 m i then 1 else 0 := rfl
        refine J_iload_n (pc := 14) dX10_missing_14 rfl rfl ?_
        refine J_aload_n (pc := 15) dX10_missing_15 rfl rfl ?_
        refine J_getr (pc := 16) (i := 35) cl8 hW.o (by decide) rfl (hW.r 35 rfl) kX10_101 dX10_missing_16 ?_
        refine J_bipush (pc := 19) (v := nI 60) dX10_missing_19 (by decide) ?_
        refine J_iload_n (pc := 21) dX10_missing_21 rfl rfl ?_
        first | refine J_imulN (pc := 22) dX10_missing_22 ?_ | refine J_imul (pc := 22) dX10_missing_22 ?_
        refine J_iload_n (pc := 23) dX10_missing_23 rfl rfl ?_
        first | refine J_iaddN (pc := 24) dX10_missing_24 ?_ | refine J_iadd (pc := 24) dX10_missing_24 ?_
        refine J_zald (pc := 25) (hW.a 35 rfl) rfl (show _ < 2880 by omega) (by first | omega | exact mLn_lt _) (hW.b1 hm (by omega)) dX10_missing_25 ?_
        refine J_if_eqB (pc := 26) (tgt := 33) dX10_missing_26 rfl (fun hc => ?_) (fun hc => ?_)
        · refine J_iconst (pc := 33) (v := nI 1) dX10_missing_33 (by decide) ?_
          first | refine J_iaddN (pc := 34) dX10_missing_34 ?_ | refine J_iadd (pc := 34) dX10_missing_34 ?_
          refine J_istore_n (pc := 35) dX10_missing_35 rfl (by decide) ?_
          refine J_iinc (pc := 36) dX10_missing_36 rfl (inc1 _) (by decide) ?_
          refine J_goto (pc := 39) (tgt := 4) dX10_missing_39 rfl ?_
          rw [hc] at e
          refine J_lv ?_ ih
          exact ⟨rfl, by rw [e]; rfl, rfl, rfl, trivial⟩
        · refine J_iconst (pc := 29) (v := nI 0) dX10_missing_29 (by decide) ?_
          refine J_goto (pc := 30) (tgt := 34) dX10_missing_30 rfl ?_
          first | refine J_iaddN (pc := 34) dX10_missing_34 ?_ | refine J_iadd (pc := 34) dX10_missing_34 ?_
          refine J_istore_n (pc := 35) dX10_missing_35 rfl (by decide) ?_
          refine J_iinc (pc := 36) dX10_missing_36 rfl (inc1 _) (by decide) ?_
          refine J_goto (pc := 39) (tgt := 4) dX10_missing_39 rfl ?_
          rw [hc] at e
          refine J_lv ?_ ih
          exact ⟨rfl, by rw [e]; rfl, rfl, rfl, trivial⟩
  exact loop 0 (by omega)
set_option maxRecDepth 100000 in
theorem cm_want2 (l : Launch) (g : jG) (hgt : Nat) {S : jS} {b : Nat} {ad : Nat → Nat} {X : XS} {m i : Nat} (hW : WM S b ad X) (h1 : xV X 13 m ≤ 60) (hm : m < 48) (hi : i < 64) : CT l g mX10_want hgt 0 0 [.ref b, .int (nI m), .int (nI i)] S (mPost b ad (x_want X m i)) := by
  refine CT_of qX10_want (Nat.le_of_ble_eq_true rfl) ?_
  refine J_iload_n (pc := 0) dX10_want_0 rfl rfl ?_
  refine J_aload_n (pc := 1) dX10_want_1 rfl rfl ?_
  refine J_getr (pc := 2) (i := 21) cl8 hW.o (by decide) rfl (hW.r 21 rfl) kX10_59 dX10_want_2 ?_
  refine J_iload_n (pc := 5) dX10_want_5 rfl rfl ?_
  refine J_mld (pc := 6) hW 13 rfl rfl (by show _ < 48; omega) dX10_want_6 ?_
  refine J_icmp_geN (pc := 7) (tgt := 22) dX10_want_7 rfl (by omega) (by omega) (fun hc => ?_) (fun hc => ?_)
  · refine J_vret (pc := 22) dX10_want_22 rfl (by omega) (by omega) ?_
    exact ⟨rfl, by rw [x_want, if_neg (by omega)]; exact hW⟩
  · have h60 : i < 60 := by omega
    refine J_aload_n (pc := 10) dX10_want_10 rfl rfl ?_
    refine J_getr (pc := 11) (i := 27) cl8 hW.o (by decide) rfl (hW.r 27 rfl) kX10_77 dX10_want_11 ?_
    refine J_bipush (pc := 14) (v := nI 60) dX10_want_14 (by decide) ?_
    refine J_iload_n (pc := 16) dX10_want_16 rfl rfl ?_
    first | refine J_imulN (pc := 17) dX10_want_17 ?_ | refine J_imul (pc := 17) dX10_want_17 ?_
    refine J_iload_n (pc := 18) dX10_want_18 rfl rfl ?_
    first | refine J_iaddN (pc := 19) dX10_want_19 ?_ | refine J_iadd (pc := 19) dX10_want_19 ?_
    refine J_iconst (pc := 20) (v := nI 1) dX10_want_20 (by decide) ?_
    refine J_zast (pc := 21) (hW.a 27 rfl) rfl (show _ < 2880 by omega) (by first | omega | exact mLn_lt _) rfl dX10_want_21 ?_
    have hW := hW.wB 0 27 (by decide) m i h60 true
    refine J_vret (pc := 22) dX10_want_22 rfl (by omega) (by omega) ?_
    exact ⟨rfl, by rw [x_want, if_pos (by omega)]; exact hW⟩
theorem cm_want (l : Launch) (g : jG) (hgt : Nat) {S : jS} {b : Nat} {ad : Nat → Nat} {X : XS} {m i : Nat} (hW : WM S b ad X) (hI : xOK X) (hm : m < 48) (hi : i < 64) : CT l g mX10_want hgt 0 0 [.ref b, .int (nI m), .int (nI i)] S (mPost b ad (x_want X m i)) := cm_want2 l g hgt hW (by have := hI.msg hm; omega) hm hi
set_option maxRecDepth 100000 in
theorem cm_least (l : Launch) (g : jG) (hgt : Nat) {S : jS} {b : Nat} {ad : Nat → Nat} {X : XS} {m : Nat} (hW : WM S b ad X) (hm : m < 48) : CT l g mX10_least hgt 0 0 [.ref b, .int (nI m)] S (jPure (.int (if x_least X m < 60 then nI (x_least X m) else -1)) S) := by
  refine CT_of qX10_least (Nat.le_of_ble_eq_true rfl) ?_
  refine J_iconst (pc := 0) (v := nI 0) dX10_least_0 (by decide) ?_
  refine J_istore_n (pc := 1) dX10_least_1 rfl (by decide) ?_
  have loop : ∀ i, i ≤ 60 → (∀ j, j < i → xB X 0 m j = false) → J l g mX10_least hgt 0 0 (jPure (.int (if x_least X m < 60 then nI (x_least X m) else -1)) S) 2 [(2, .int (nI i)), (0, .ref b), (1, .int (nI m))] [] S 0 0 := by
    refine down _ ?_ ?_
    · intro hno
      refine J_iload_n (pc := 2) dX10_least_2 rfl rfl ?_
      refine J_bipush (pc := 3) (v := nI 60) dX10_least_3 (by decide) ?_
      refine J_icmp_geN (pc := 5) (tgt := 30) dX10_least_5 rfl (by omega) (by omega) (fun hc => ?_) (fun hc => ?_)
      · refine J_iconst (pc := 30) (v := (-1)) dX10_least_30 (by decide) ?_
        refine J_iret (pc := 31) dX10_least_31 rfl (by omega) (by omega) ?_
        exact ⟨by rw [x_least, lst_none hno, if_neg (by decide)], rfl⟩
      · omega
    · intro i hi ih hno
      refine J_iload_n (pc := 2) dX10_least_2 rfl rfl ?_
      refine J_bipush (pc := 3) (v := nI 60) dX10_least_3 (by decide) ?_
      refine J_icmp_geN (pc := 5) (tgt := 30) dX10_least_5 rfl (by omega) (by omega) (fun hc => ?_) (fun hc => ?_)
      · omega
      · refine J_aload_n (pc := 8) dX10_least_8 rfl rfl ?_
        refine J_getr (pc := 9) (i := 27) cl8 hW.o (by decide) rfl (hW.r 27 rfl) kX10_77 dX10_least_9 ?_
        refine J_bipush (pc := 12) (v := nI 60) dX10_least_12 (by decide) ?_
        refine J_iload_n (pc := 14) dX10_least_14 rfl rfl ?_
        first | refine J_imulN (pc := 15) dX10_least_15 ?_ | refine J_imul (pc := 15) dX10_least_15 ?_
        refine J_iload_n (pc := 16) dX10_least_16 rfl rfl ?_
        first | refine J_iaddN (pc := 17) dX10_least_17 ?_ | refine J_iadd (pc := 17) dX10_least_17 ?_
        refine J_zald (pc := 18) (hW.a 27 rfl) rfl (show _ < 2880 by omega) (by first | omega | exact mLn_lt _) (hW.b0 hm (by omega)) dX10_least_18 ?_
        refine J_if_eqB (pc := 19) (tgt := 24) dX10_least_19 rfl (fun hc => ?_) (fun hc => ?_)
        · refine J_iinc (pc := 24) dX10_least_24 rfl (inc1 _) (by decide) ?_
          refine J_goto (pc := 27) (tgt := 2) dX10_least_27 rfl ?_
          refine J_lv ?_ (ih (fun j hj => ?_))
          · exact ⟨rfl, rfl, rfl, trivial⟩
          · by_cases e : j = i
            · subst e
              exact hc
            · exact hno j (by omega)
        · refine J_iload_n (pc := 22) dX10_least_22 rfl rfl ?_
          refine J_iret (pc := 23) dX10_least_23 rfl (by omega) (by omega) ?_
          exact ⟨by rw [x_least, lst_of hi hc hno, if_pos hi], rfl⟩
  exact loop 0 (by omega) (fun j hj => absurd hj (Nat.not_lt_zero _))
set_option maxRecDepth 100000 in
theorem cm_left (l : Launch) (g : jG) (hgt : Nat) {S : jS} {b : Nat} {ad : Nat → Nat} {X : XS} {m : Nat} (hW : WM S b ad X) (hI : xOK X) (hm : m < 48) : CT l g mX10_left hgt 0 0 [.ref b, .int (nI m)] S (jPure (.int (nI (x_left X m))) S) := by
  have h1 := hI.msg hm
  refine CT_of qX10_left (Nat.le_of_ble_eq_true rfl) ?_
  refine J_aload_n (pc := 0) dX10_left_0 rfl rfl ?_
  refine J_getr (pc := 1) (i := 18) cl8 hW.o (by decide) rfl (hW.r 18 rfl) kX10_50 dX10_left_1 ?_
  refine J_iload_n (pc := 4) dX10_left_4 rfl rfl ?_
  refine J_mld (pc := 5) hW 10 rfl rfl (by show _ < 48; omega) dX10_left_5 ?_
  refine J_aload_n (pc := 6) dX10_left_6 rfl rfl ?_
  refine J_getr (pc := 7) (i := 21) cl8 hW.o (by decide) rfl (hW.r 21 rfl) kX10_59 dX10_left_7 ?_
  refine J_iload_n (pc := 10) dX10_left_10 rfl rfl ?_
  refine J_mld (pc := 11) hW 13 rfl rfl (by show _ < 48; omega) dX10_left_11 ?_
  first | refine J_isubN (pc := 12) dX10_left_12 (by omega) ?_ | refine J_isub (pc := 12) dX10_left_12 ?_
  refine J_istore_n (pc := 13) dX10_left_13 rfl (by decide) ?_
  refine J_iconst (pc := 14) (v := nI 0) dX10_left_14 (by decide) ?_
  refine J_istore_n (pc := 15) dX10_left_15 rfl (by decide) ?_
  have loop : ∀ i, i ≤ 60 → J l g mX10_left hgt 0 0 (jPure (.int (nI (x_left X m))) S) 16 [(3, .int (nI i)), (2, .int (nI (xV X 10 m - xV X 13 m + cnt (xB X 0 m) i))), (0, .ref b), (1, .int (nI m))] [] S 0 0 := by
    refine down _ ?_ ?_
    · refine J_iload_n (pc := 16) dX10_left_16 rfl rfl ?_
      refine J_bipush (pc := 17) (v := nI 60) dX10_left_17 (by decide) ?_
      refine J_icmp_geN (pc := 19) (tgt := 50) dX10_left_19 rfl (by omega) (by omega) (fun hc => ?_) (fun hc => ?_)
      · refine J_iload_n (pc := 50) dX10_left_50 rfl rfl ?_
        refine J_iret (pc := 51) dX10_left_51 rfl (by omega) (by omega) ?_
        exact ⟨rfl, rfl⟩
      · omega
    · intro i hi ih
      refine J_iload_n (pc := 16) dX10_left_16 rfl rfl ?_
      refine J_bipush (pc := 17) (v := nI 60) dX10_left_17 (by decide) ?_
      refine J_icmp_geN (pc := 19) (tgt := 50) dX10_left_19 rfl (by omega) (by omega) (fun hc => ?_) (fun hc => ?_)
      · omega
      · have e : cnt (xB X 0 m) (i + 1) = cnt (xB X 0 m) i + if xB X 0 m i then 1 else 0 := rfl
        refine J_iload_n (pc := 22) dX10_left_22 rfl rfl ?_
        refine J_aload_n (pc := 23) dX10_left_23 rfl rfl ?_
        refine J_getr (pc := 24) (i := 27) cl8 hW.o (by decide) rfl (hW.r 27 rfl) kX10_77 dX10_left_24 ?_
        refine J_bipush (pc := 27) (v := nI 60) dX10_left_27 (by decide) ?_
        refine J_iload_n (pc := 29) dX10_left_29 rfl rfl ?_
        first | refine J_imulN (pc := 30) dX10_left_30 ?_ | refine J_imul (pc := 30) dX10_left_30 ?_
        refine J_iload_n (pc := 31) dX10_left_31 rfl rfl ?_
        first | refine J_iaddN (pc := 32) dX10_left_32 ?_ | refine J_iadd (pc := 32) dX10_left_32 ?_
        refine J_zald (pc := 33) (hW.a 27 rfl) rfl (show _ < 2880 by omega) (by first | omega | exact mLn_lt _) (hW.b0 hm (by omega)) dX10_left_33 ?_
        refine J_if_eqB (pc := 34) (tgt := 41) dX10_left_34 rfl (fun hc => ?_) (fun hc => ?_)
        · refine J_iconst (pc := 41) (v := nI 0) dX10_left_41 (by decide) ?_
          first | refine J_iaddN (pc := 42) dX10_left_42 ?_ | refine J_iadd (pc := 42) dX10_left_42 ?_
          refine J_istore_n (pc := 43) dX10_left_43 rfl (by decide) ?_
          refine J_iinc (pc := 44) dX10_left_44 rfl (inc1 _) (by decide) ?_
          refine J_goto (pc := 47) (tgt := 16) dX10_left_47 rfl ?_
          rw [hc] at e
          refine J_lv ?_ ih
          exact ⟨rfl, by rw [e]; rfl, rfl, rfl, trivial⟩
        · refine J_iconst (pc := 37) (v := nI 1) dX10_left_37 (by decide) ?_
          refine J_goto (pc := 38) (tgt := 42) dX10_left_38 rfl ?_
          first | refine J_iaddN (pc := 42) dX10_left_42 ?_ | refine J_iadd (pc := 42) dX10_left_42 ?_
          refine J_istore_n (pc := 43) dX10_left_43 rfl (by decide) ?_
          refine J_iinc (pc := 44) dX10_left_44 rfl (inc1 _) (by decide) ?_
          refine J_goto (pc := 47) (tgt := 16) dX10_left_47 rfl ?_
          rw [hc] at e
          refine J_lv ?_ ih
          exact ⟨rfl, by rw [e]; rfl, rfl, rfl, trivial⟩
  exact loop 0 (by omega)
end
section
/-- the places of a set below n are cleared -/
def yCn (X : XS) (w m n : Nat) : XS := (X.1, X.2.1, fun w' m' i' => if w' = w ∧ m' = m ∧ i' < n then false else X.2.2 w' m' i')
theorem yCn_s (X : XS) (w m n : Nat) : yB (yCn X w m n) w m n false = yCn X w m (n + 1) := by
  unfold yB yCn
  simp only [Prod.mk.injEq, true_and]
  funext w' m' i'
  by_cases h1 : w' = w ∧ m' = m
  · by_cases h2 : i' < n
    · simp [h1, h2, Nat.lt_succ_of_lt h2]
    · by_cases h3 : i' = n
      · simp [h1, h3]
      · have h4 : ¬ i' < n + 1 := by omega
        simp [h1, h2, h3, h4]
  · have h2 : ∀ p : Prop, ¬ (w' = w ∧ m' = m ∧ p) := fun p z => h1 ⟨z.1, z.2.1⟩
    simp [h2]
theorem yCn_0 (X : XS) (w m : Nat) : yCn X w m 0 = X := by
  unfold yCn
  simp
set_option maxRecDepth 100000 in
theorem cm_forget (l : Launch) (g : jG) (hgt : Nat) {S : jS} {b : Nat} {ad : Nat → Nat} {X : XS} {m : Nat} (hW : WM S b ad X) (hm : m < 48) : CT l g mX10_forget hgt 0 0 [.ref b, .int (nI m)] S (mPost b ad (x_forget X m)) := by
  refine CT_of qX10_forget (Nat.le_of_ble_eq_true rfl) ?_
  refine J_aload_n (pc := 0) dX10_forget_0 rfl rfl ?_
  refine J_getr (pc := 1) (i := 28) cl8 hW.o (by decide) rfl (hW.r 28 rfl) kX10_80 dX10_forget_1 ?_
  refine J_iload_n (pc := 4) dX10_forget_4 rfl rfl ?_
  refine J_iconst (pc := 5) (v := nI 0) dX10_forget_5 (by decide) ?_
  refine J_mst (pc := 6) hW 19 rfl rfl (by show _ < 48; omega) rfl dX10_forget_6 (fun hW => ?_)
  refine J_iconst (pc := 7) (v := nI 0) dX10_forget_7 (by decide) ?_
  refine J_istore_n (pc := 8) dX10_forget_8 rfl (by decide) ?_
  have loop : ∀ i, i ≤ 60 → ∀ S, WM S b ad (yCn (yV X 19 m 0) 1 m i) → J l g mX10_forget hgt 0 0 (mPost b ad (x_forget X m)) 9 [(2, .int (nI i)), (0, .ref b), (1, .int (nI m))] [] S 0 0 := by
    refine down _ ?_ ?_
    · intro S hW
      refine J_iload_n (pc := 9) dX10_forget_9 rfl rfl ?_
      refine J_bipush (pc := 10) (v := nI 60) dX10_forget_10 (by decide) ?_
      refine J_icmp_geN (pc := 12) (tgt := 33) dX10_forget_12 rfl (by omega) (by omega) (fun hc => ?_) (fun hc => ?_)
      · refine J_vret (pc := 33) dX10_forget_33 rfl (by omega) (by omega) ?_
        refine ⟨rfl, hW.congB rfl rfl (fun w' m' i' hi' => ?_)⟩
        unfold x_forget yCn yC xB
        by_cases h : w' = 1 ∧ m' = m
        · simp [h, hi']
        · have h2 : ∀ p : Prop, ¬ (w' = 1 ∧ m' = m ∧ p) := fun p z => h ⟨z.1, z.2.1⟩
          simp [h, h2]
      · omega
    · intro i hi ih S hW
      refine J_iload_n (pc := 9) dX10_forget_9 rfl rfl ?_
      refine J_bipush (pc := 10) (v := nI 60) dX10_forget_10 (by decide) ?_
      refine J_icmp_geN (pc := 12) (tgt := 33) dX10_forget_12 rfl (by omega) (by omega) (fun hc => ?_) (fun hc => ?_)
      · omega
      · refine J_aload_n (pc := 15) dX10_forget_15 rfl rfl ?_
        refine J_getr (pc := 16) (i := 35) cl8 hW.o (by decide) rfl (hW.r 35 rfl) kX10_101 dX10_forget_16 ?_
        refine J_bipush (pc := 19) (v := nI 60) dX10_forget_19 (by decide) ?_
        refine J_iload_n (pc := 21) dX10_forget_21 rfl rfl ?_
        first | refine J_imulN (pc := 22) dX10_forget_22 ?_ | refine J_imul (pc := 22) dX10_forget_22 ?_
        refine J_iload_n (pc := 23) dX10_forget_23 rfl rfl ?_
        first | refine J_iaddN (pc := 24) dX10_forget_24 ?_ | refine J_iadd (pc := 24) dX10_forget_24 ?_
        refine J_iconst (pc := 25) (v := nI 0) dX10_forget_25 (by decide) ?_
        refine J_zast (pc := 26) (hW.a 35 rfl) rfl (show _ < 2880 by omega) (by first | omega | exact mLn_lt _) rfl dX10_forget_26 ?_
        have hW := hW.wB 1 35 (by decide) m i (by omega) false
        rw [yCn_s] at hW
        refine J_iinc (pc := 27) dX10_forget_27 rfl (inc1 _) (by decide) ?_
        refine J_goto (pc := 30) (tgt := 9) dX10_forget_30 rfl ?_
        exact J_lvk (ih _ hW) ⟨rfl, rfl, rfl, trivial⟩
  exact loop 0 (by omega) _ (by rw [yCn_0]; exact hW)
set_option maxRecDepth 100000 in
theorem cm_isAhead (l : Launch) (g : jG) (hgt : Nat) {S : jS} {b : Nat} {ad : Nat → Nat} {X : XS} {x y : Nat} (hW : WM S b ad X) (hI : xOK X) (hx : x < 48) (hy : y < 48) (hax : xV X 24 x < 2 ^ 31) (hay : xV X 24 y < 2 ^ 31) (hh : 1 ≤ hgt) : CT l g mX10_isAhead hgt 0 0 [.ref b, .int (nI x), .int (nI y)] S (jPure (.int (bI (x_ahead X x y))) S) := by
  have h1 := hI.msg hx
  have h2 := hI.msg hy
  have c1 : x_missing X x ≤ 60 := Nat.le_trans (cnt_le _ _) h1.1.2.2.1
  have c2 : x_missing X y ≤ 60 := Nat.le_trans (cnt_le _ _) h2.1.2.2.1
  refine CT_of qX10_isAhead (Nat.le_of_ble_eq_true rfl) ?_
  refine J_aload_n (pc := 0) dX10_isAhead_0 rfl rfl ?_
  refine J_iload_n (pc := 1) dX10_isAhead_1 rfl rfl ?_
  refine J_callV (pc := 2) (cm_missing l g (hgt - 1) hW h1.1.2.2.1 hx) qX10_missing vX10_missing cl8 rfl hW.o kX10_173 dX10_isAhead_2 rfl rfl (Nat.le_of_ble_eq_true rfl) (by omega) (by omega) (by omega) ?_
  rintro _ _ ⟨rfl, rfl⟩
  refine J_istore_n (pc := 5) dX10_isAhead_5 rfl (by decide) ?_
  refine J_aload_n (pc := 6) dX10_isAhead_6 rfl rfl ?_
  refine J_iload_n (pc := 7) dX10_isAhead_7 rfl rfl ?_
  refine J_callV (pc := 8) (cm_missing l g (hgt - 1) hW h2.1.2.2.1 hy) qX10_missing vX10_missing cl8 rfl hW.o kX10_173 dX10_isAhead_8 rfl rfl (Nat.le_of_ble_eq_true rfl) (by omega) (by omega) (by omega) ?_
  rintro _ _ ⟨rfl, rfl⟩
  refine J_istore (pc := 11) dX10_isAhead_11 (by decide) ?_
  refine J_iload_n (pc := 13) dX10_isAhead_13 rfl rfl ?_
  refine J_iload (pc := 14) dX10_isAhead_14 rfl ?_
  refine J_icmp_eqN (pc := 16) (tgt := 33) dX10_isAhead_16 rfl (by omega) (by omega) (fun hc => ?_) (fun hc => ?_)
  · refine J_aload_n (pc := 33) dX10_isAhead_33 rfl rfl ?_
    refine J_getr (pc := 34) (i := 33) cl8 hW.o (by decide) rfl (hW.r 33 rfl) kX10_95 dX10_isAhead_34 ?_
    refine J_iload_n (pc := 37) dX10_isAhead_37 rfl rfl ?_
    refine J_mld (pc := 38) hW 24 rfl rfl (by show _ < 48; omega) dX10_isAhead_38 ?_
    refine J_aload_n (pc := 39) dX10_isAhead_39 rfl rfl ?_
    refine J_getr (pc := 40) (i := 33) cl8 hW.o (by decide) rfl (hW.r 33 rfl) kX10_95 dX10_isAhead_40 ?_
    refine J_iload_n (pc := 43) dX10_isAhead_43 rfl rfl ?_
    refine J_mld (pc := 44) hW 24 rfl rfl (by show _ < 48; omega) dX10_isAhead_44 ?_
    refine J_icmp_geN (pc := 45) (tgt := 52) dX10_isAhead_45 rfl (by omega) (by omega) (fun hd => ?_) (fun hd => ?_)
    · refine J_iconst (pc := 52) (v := nI 0) dX10_isAhead_52 (by decide) ?_
      refine J_zret (pc := 53) dX10_isAhead_53 rfl rfl (by omega) (by omega) ?_
      exact ⟨by rw [x_ahead, if_neg (by omega), decide_eq_false (by omega)]; rfl, rfl⟩
    · refine J_iconst (pc := 48) (v := nI 1) dX10_isAhead_48 (by decide) ?_
      refine J_goto (pc := 49) (tgt := 53) dX10_isAhead_49 rfl ?_
      refine J_zret (pc := 53) dX10_isAhead_53 rfl rfl (by omega) (by omega) ?_
      exact ⟨by rw [x_ahead, if_neg (by omega), decide_eq_true (by omega)]; rfl, rfl⟩
  · refine J_iload_n (pc := 19) dX10_isAhead_19 rfl rfl ?_
    refine J_iload (pc := 20) dX10_isAhead_20 rfl ?_
    refine J_icmp_geN (pc := 22) (tgt := 29) dX10_isAhead_22 rfl (by omega) (by omega) (fun hd => ?_) (fun hd => ?_)
    · refine J_iconst (pc := 29) (v := nI 0) dX10_isAhead_29 (by decide) ?_
      refine J_goto (pc := 30) (tgt := 53) dX10_isAhead_30 rfl ?_
      refine J_zret (pc := 53) dX10_isAhead_53 rfl rfl (by omega) (by omega) ?_
      exact ⟨by rw [x_ahead, if_pos (by omega), decide_eq_false (by omega)]; rfl, rfl⟩
    · refine J_iconst (pc := 25) (v := nI 1) dX10_isAhead_25 (by decide) ?_
      refine J_goto (pc := 26) (tgt := 53) dX10_isAhead_26 rfl ?_
      refine J_zret (pc := 53) dX10_isAhead_53 rfl rfl (by omega) (by omega) ?_
      exact ⟨by rw [x_ahead, if_pos (by omega), decide_eq_true (by omega)]; rfl, rfl⟩
set_option maxRecDepth 100000 in
theorem cm_isChosen (l : Launch) (g : jG) (hgt : Nat) {S : jS} {b : Nat} {ad : Nat → Nat} {X : XS} {h x : Nat} (hW : WM S b ad X) (hI : xOK X) (hh : h < 8) (hx : x < 48) : CT l g mX10_isChosen hgt 0 0 [.ref b, .int (nI h), .int (nI x)] S (jPure (.int (bI (x_chosen X h x))) S) := by
  obtain ⟨h3, hc48⟩ := hI.host hh
  have h48 := hI.many
  refine CT_of qX10_isChosen (Nat.le_of_ble_eq_true rfl) ?_
  refine J_iconst (pc := 0) (v := nI 0) dX10_isChosen_0 (by decide) ?_
  refine J_istore_n (pc := 1) dX10_isChosen_1 rfl (by decide) ?_
  have loop : ∀ i, i ≤ xV X 28 h → (∀ j, j < i → decide (xV X 29 (3 * h + j) = x) = false) → J l g mX10_isChosen hgt 0 0 (jPure (.int (bI (x_chosen X h x))) S) 2 [(3, .int (nI i)), (0, .ref b), (1, .int (nI h)), (2, .int (nI x))] [] S 0 0 := by
    refine down _ ?_ ?_
    · intro hno
      refine J_iload_n (pc := 2) dX10_isChosen_2 rfl rfl ?_
      refine J_aload_n (pc := 3) dX10_isChosen_3 rfl rfl ?_
      refine J_getr (pc := 4) (i := 43) cl8 hW.o (by decide) rfl (hW.r 43 rfl) kX10_125 dX10_isChosen_4 ?_
      refine J_iload_n (pc := 7) dX10_isChosen_7 rfl rfl ?_
      refine J_mld (pc := 8) hW 28 rfl rfl (by show _ < 8; omega) dX10_isChosen_8 ?_
      refine J_icmp_geN (pc := 9) (tgt := 34) dX10_isChosen_9 rfl (by omega) (by omega) (fun hc => ?_) (fun hc => ?_)
      · refine J_iconst (pc := 34) (v := nI 0) dX10_isChosen_34 (by decide) ?_
        refine J_zret (pc := 35) dX10_isChosen_35 rfl rfl (by omega) (by omega) ?_
        refine ⟨?_, rfl⟩
        rw [x_chosen, cnt_0 hno]
        rfl
      · omega
    · intro i hi ih hno
      have := hc48 i hi
      refine J_iload_n (pc := 2) dX10_isChosen_2 rfl rfl ?_
      refine J_aload_n (pc := 3) dX10_isChosen_3 rfl rfl ?_
      refine J_getr (pc := 4) (i := 43) cl8 hW.o (by decide) rfl (hW.r 43 rfl) kX10_125 dX10_isChosen_4 ?_
      refine J_iload_n (pc := 7) dX10_isChosen_7 rfl rfl ?_
      refine J_mld (pc := 8) hW 28 rfl rfl (by show _ < 8; omega) dX10_isChosen_8 ?_
      refine J_icmp_geN (pc := 9) (tgt := 34) dX10_isChosen_9 rfl (by omega) (by omega) (fun hc => ?_) (fun hc => ?_)
      · omega
      · refine J_aload_n (pc := 12) dX10_isChosen_12 rfl rfl ?_
        refine J_getr (pc := 13) (i := 42) cl8 hW.o (by decide) rfl (hW.r 42 rfl) kX10_122 dX10_isChosen_13 ?_
        refine J_iconst (pc := 16) (v := nI 3) dX10_isChosen_16 (by decide) ?_
        refine J_iload_n (pc := 17) dX10_isChosen_17 rfl rfl ?_
        first | refine J_imulN (pc := 18) dX10_isChosen_18 ?_ | refine J_imul (pc := 18) dX10_isChosen_18 ?_
        refine J_iload_n (pc := 19) dX10_isChosen_19 rfl rfl ?_
        first | refine J_iaddN (pc := 20) dX10_isChosen_20 ?_ | refine J_iadd (pc := 20) dX10_isChosen_20 ?_
        refine J_mld (pc := 21) hW 29 rfl rfl (by show _ < 24; omega) dX10_isChosen_21 ?_
        refine J_iload_n (pc := 22) dX10_isChosen_22 rfl rfl ?_
        refine J_icmp_neN (pc := 23) (tgt := 28) dX10_isChosen_23 rfl (by omega) (by omega) (fun hd => ?_) (fun hd => ?_)
        · refine J_iinc (pc := 28) dX10_isChosen_28 rfl (inc1 _) (by decide) ?_
          refine J_goto (pc := 31) (tgt := 2) dX10_isChosen_31 rfl ?_
          refine J_lv ?_ (ih (fun j hj => ?_))
          · exact ⟨rfl, rfl, rfl, rfl, trivial⟩
          · by_cases e : j = i
            · subst e
              exact decide_eq_false hd
            · exact hno j (by omega)
        · refine J_iconst (pc := 26) (v := nI 1) dX10_isChosen_26 (by decide) ?_
          refine J_zret (pc := 27) dX10_isChosen_27 rfl rfl (by omega) (by omega) ?_
          refine ⟨?_, rfl⟩
          have := cnt_pos (f := fun k => decide (xV X 29 (3 * h + k) = x)) hi (decide_eq_true hd)
          rw [x_chosen, decide_eq_true (by omega)]
          rfl
  exact loop 0 (by omega) (fun j hj => absurd hj (Nat.not_lt_zero _))
set_option maxRecDepth 100000 in
theorem cm_answer (l : Launch) (g : jG) (hgt : Nat) {S : jS} {b : Nat} {ad : Nat → Nat} {X : XS} {k m c : Nat} (hW : WM S b ad X) (hI : xOK X) (hm : m < 48) (hk : k < 4) (hc : c < 4096) (hh : 1 ≤ hgt) : CT l g mX10_answer hgt 0 0 [.ref b, .int (nI k), .int (nI m), .int (nI c)] S (mPost b ad (x_answer X k m c)) := by
  have h1 := hI.msg hm
  refine CT_of qX10_answer (Nat.le_of_ble_eq_true rfl) ?_
  refine J_aload_n (pc := 0) dX10_answer_0 rfl rfl ?_
  refine J_getr (pc := 1) (i := 20) cl8 hW.o (by decide) rfl (hW.r 20 rfl) kX10_56 dX10_answer_1 ?_
  refine J_iload_n (pc := 4) dX10_answer_4 rfl rfl ?_
  refine J_mld (pc := 5) hW 12 rfl rfl (by show _ < 48; omega) dX10_answer_5 ?_
  refine J_if_eqN (pc := 6) (tgt := 10) dX10_answer_6 rfl (by omega) (fun h0 => ?_) (fun h0 => ?_)
  · refine J_aload_n (pc := 10) dX10_answer_10 rfl rfl ?_
    refine J_getr (pc := 11) (i := 24) cl8 hW.o (by decide) rfl (hW.r 24 rfl) kX10_68 dX10_answer_11 ?_
    refine J_iload_n (pc := 14) dX10_answer_14 rfl rfl ?_
    refine J_iconst (pc := 15) (v := nI 0) dX10_answer_15 (by decide) ?_
    refine J_mst (pc := 16) hW 16 rfl rfl (by show _ < 48; omega) rfl dX10_answer_16 (fun hW => ?_)
    refine J_aload_n (pc := 17) dX10_answer_17 rfl rfl ?_
    refine J_getr (pc := 18) (i := 25) cl8 hW.o (by decide) rfl (hW.r 25 rfl) kX10_71 dX10_answer_18 ?_
    refine J_iload_n (pc := 21) dX10_answer_21 rfl rfl ?_
    refine J_iconst (pc := 22) (v := nI 0) dX10_answer_22 (by decide) ?_
    refine J_mst (pc := 23) hW 17 rfl rfl (by show _ < 48; omega) rfl dX10_answer_23 (fun hW => ?_)
    refine J_iload_n (pc := 24) dX10_answer_24 rfl rfl ?_
    refine J_iconst (pc := 25) (v := nI 1) dX10_answer_25 (by decide) ?_
    refine J_icmp_neN (pc := 26) (tgt := 71) dX10_answer_26 rfl (by omega) (by omega) (fun hk1 => ?_) (fun hk1 => ?_)
    · refine J_iload_n (pc := 71) dX10_answer_71 rfl rfl ?_
      refine J_iconst (pc := 72) (v := nI 2) dX10_answer_72 (by decide) ?_
      refine J_icmp_neN (pc := 73) (tgt := 120) dX10_answer_73 rfl (by omega) (by omega) (fun hk2 => ?_) (fun hk2 => ?_)
      · refine J_aload_n (pc := 120) dX10_answer_120 rfl rfl ?_
        refine J_getr (pc := 121) (i := 20) cl8 hW.o (by decide) rfl (hW.r 20 rfl) kX10_56 dX10_answer_121 ?_
        refine J_iload_n (pc := 124) dX10_answer_124 rfl rfl ?_
        refine J_iconst (pc := 125) (v := nI 1) dX10_answer_125 (by decide) ?_
        refine J_mst (pc := 126) hW 12 rfl rfl (by show _ < 48; omega) rfl dX10_answer_126 (fun hW => ?_)
        refine J_aload_n (pc := 127) dX10_answer_127 rfl rfl ?_
        refine J_getr (pc := 128) (i := 26) cl8 hW.o (by decide) rfl (hW.r 26 rfl) kX10_74 dX10_answer_128 ?_
        refine J_iload_n (pc := 131) dX10_answer_131 rfl rfl ?_
        refine J_aload_n (pc := 132) dX10_answer_132 rfl rfl ?_
        refine J_geti (pc := 133) (i := 1) cl8 hW.o (by decide) rfl hW.2.2.1.1 kX10_177 dX10_answer_133 ?_
        refine J_mst (pc := 136) hW 18 rfl rfl (by show _ < 48; omega) rfl dX10_answer_136 (fun hW => ?_)
        refine J_vret (pc := 137) dX10_answer_137 rfl (by omega) (by omega) ?_
        exact ⟨rfl, by rw [x_answer, if_neg (by omega), if_neg hk1, if_neg hk2]; exact hW⟩
      · refine J_aload_n (pc := 76) dX10_answer_76 rfl rfl ?_
        refine J_getr (pc := 77) (i := 22) cl8 hW.o (by decide) rfl (hW.r 22 rfl) kX10_62 dX10_answer_77 ?_
        refine J_iload_n (pc := 80) dX10_answer_80 rfl rfl ?_
        refine J_iload_n (pc := 81) dX10_answer_81 rfl rfl ?_
        refine J_bipush (pc := 82) (v := nI 64) dX10_answer_82 (by decide) ?_
        first | refine J_idivN (pc := 84) dX10_answer_84 (by omega) (by omega) (by omega) ?_ | refine J_idiv (pc := 84) dX10_answer_84 (by decide) ?_
        refine J_aload_n (pc := 85) dX10_answer_85 rfl rfl ?_
        refine J_getr (pc := 86) (i := 22) cl8 hW.o (by decide) rfl (hW.r 22 rfl) kX10_62 dX10_answer_86 ?_
        refine J_iload_n (pc := 89) dX10_answer_89 rfl rfl ?_
        refine J_mld (pc := 90) hW 14 rfl rfl (by show _ < 48; omega) dX10_answer_90 ?_
        simp only [xV_yV, xV_yL, xV_yB, xV_yC, xL_yV, xL_yL, xL_yB, xL_yC, xB_yV, xB_yL, xB_yB, xB_yC, true_and, and_true, and_self, false_and, and_false, reduceIte, Nat.reduceEqDiff, if_true, if_false, reduceCtorEq] 
        refine J_icmp_leN (pc := 91) (tgt := 101) dX10_answer_91 rfl (by omega) (by omega) (fun hp => ?_) (fun hp => ?_)
        · refine J_aload_n (pc := 101) dX10_answer_101 rfl rfl ?_
          refine J_getr (pc := 102) (i := 22) cl8 hW.o (by decide) rfl (hW.r 22 rfl) kX10_62 dX10_answer_102 ?_
          refine J_iload_n (pc := 105) dX10_answer_105 rfl rfl ?_
          refine J_mld (pc := 106) hW 14 rfl rfl (by show _ < 48; omega) dX10_answer_106 ?_
          simp only [xV_yV, xV_yL, xV_yB, xV_yC, xL_yV, xL_yL, xL_yB, xL_yC, xB_yV, xB_yL, xB_yB, xB_yC, true_and, and_true, and_self, false_and, and_false, reduceIte, Nat.reduceEqDiff, if_true, if_false, reduceCtorEq] 
          refine J_mst (pc := 107) hW 14 rfl rfl (by show _ < 48; omega) rfl dX10_answer_107 (fun hW => ?_)
          refine J_aload_n (pc := 108) dX10_answer_108 rfl rfl ?_
          refine J_iload_n (pc := 109) dX10_answer_109 rfl rfl ?_
          refine J_iload_n (pc := 110) dX10_answer_110 rfl rfl ?_
          refine J_bipush (pc := 111) (v := nI 64) dX10_answer_111 (by decide) ?_
          first | refine J_iremN (pc := 113) dX10_answer_113 (by omega) (by omega) (by omega) ?_ | refine J_irem (pc := 113) dX10_answer_113 (by decide) ?_
          have hI2 : (xV X 13 m ≤ 60) := by omega
          refine J_callV (pc := 114) (cm_want2 l g (hgt - 1) (i := c % 64) hW (by simp only [xV_yV]; simp; omega) hm (by omega)) qX10_want vX10_want cl8 rfl hW.o kX10_194 dX10_answer_114 rfl rfl (Nat.le_of_ble_eq_true rfl) (by omega) (by omega) (by omega) ?_
          rintro _ _ ⟨rfl, hW⟩
          refine J_goto (pc := 117) (tgt := 137) dX10_answer_117 rfl ?_
          refine J_vret (pc := 137) dX10_answer_137 rfl (by omega) (by omega) ?_
          exact ⟨rfl, by rw [x_answer, if_neg (by omega), if_neg hk1, if_pos hk2, if_neg (by omega)]; exact hW⟩
        · refine J_iload_n (pc := 94) dX10_answer_94 rfl rfl ?_
          refine J_bipush (pc := 95) (v := nI 64) dX10_answer_95 (by decide) ?_
          first | refine J_idivN (pc := 97) dX10_answer_97 (by omega) (by omega) (by omega) ?_ | refine J_idiv (pc := 97) dX10_answer_97 (by decide) ?_
          refine J_goto (pc := 98) (tgt := 107) dX10_answer_98 rfl ?_
          refine J_mst (pc := 107) hW 14 rfl rfl (by show _ < 48; omega) rfl dX10_answer_107 (fun hW => ?_)
          refine J_aload_n (pc := 108) dX10_answer_108 rfl rfl ?_
          refine J_iload_n (pc := 109) dX10_answer_109 rfl rfl ?_
          refine J_iload_n (pc := 110) dX10_answer_110 rfl rfl ?_
          refine J_bipush (pc := 111) (v := nI 64) dX10_answer_111 (by decide) ?_
          first | refine J_iremN (pc := 113) dX10_answer_113 (by omega) (by omega) (by omega) ?_ | refine J_irem (pc := 113) dX10_answer_113 (by decide) ?_
          refine J_callV (pc := 114) (cm_want2 l g (hgt - 1) (i := c % 64) hW (by simp only [xV_yV]; simp; omega) hm (by omega)) qX10_want vX10_want cl8 rfl hW.o kX10_194 dX10_answer_114 rfl rfl (Nat.le_of_ble_eq_true rfl) (by omega) (by omega) (by omega) ?_
          rintro _ _ ⟨rfl, hW⟩
          refine J_goto (pc := 117) (tgt := 137) dX10_answer_117 rfl ?_
          refine J_vret (pc := 137) dX10_answer_137 rfl (by omega) (by omega) ?_
          exact ⟨rfl, by rw [x_answer, if_neg (by omega), if_neg hk1, if_pos hk2, if_pos (by omega)]; exact hW⟩
    · refine J_aload_n (pc := 29) dX10_answer_29 rfl rfl ?_
      refine J_getr (pc := 30) (i := 22) cl8 hW.o (by decide) rfl (hW.r 22 rfl) kX10_62 dX10_answer_30 ?_
      refine J_iload_n (pc := 33) dX10_answer_33 rfl rfl ?_
      refine J_iload_n (pc := 34) dX10_answer_34 rfl rfl ?_
      refine J_iconst (pc := 35) (v := nI 4) dX10_answer_35 (by decide) ?_
      first | refine J_idivN (pc := 36) dX10_answer_36 (by omega) (by omega) (by omega) ?_ | refine J_idiv (pc := 36) dX10_answer_36 (by decide) ?_
      refine J_aload_n (pc := 37) dX10_answer_37 rfl rfl ?_
      refine J_getr (pc := 38) (i := 22) cl8 hW.o (by decide) rfl (hW.r 22 rfl) kX10_62 dX10_answer_38 ?_
      refine J_iload_n (pc := 41) dX10_answer_41 rfl rfl ?_
      refine J_mld (pc := 42) hW 14 rfl rfl (by show _ < 48; omega) dX10_answer_42 ?_
      simp only [xV_yV, xV_yL, xV_yB, xV_yC, xL_yV, xL_yL, xL_yB, xL_yC, xB_yV, xB_yL, xB_yB, xB_yC, true_and, and_true, and_self, false_and, and_false, reduceIte, Nat.reduceEqDiff, if_true, if_false, reduceCtorEq] 
      refine J_icmp_leN (pc := 43) (tgt := 52) dX10_answer_43 rfl (by omega) (by omega) (fun hp => ?_) (fun hp => ?_)
      · refine J_aload_n (pc := 52) dX10_answer_52 rfl rfl ?_
        refine J_getr (pc := 53) (i := 22) cl8 hW.o (by decide) rfl (hW.r 22 rfl) kX10_62 dX10_answer_53 ?_
        refine J_iload_n (pc := 56) dX10_answer_56 rfl rfl ?_
        refine J_mld (pc := 57) hW 14 rfl rfl (by show _ < 48; omega) dX10_answer_57 ?_
        simp only [xV_yV, xV_yL, xV_yB, xV_yC, xL_yV, xL_yL, xL_yB, xL_yC, xB_yV, xB_yL, xB_yB, xB_yC, true_and, and_true, and_self, false_and, and_false, reduceIte, Nat.reduceEqDiff, if_true, if_false, reduceCtorEq] 
        refine J_mst (pc := 58) hW 14 rfl rfl (by show _ < 48; omega) rfl dX10_answer_58 (fun hW => ?_)
        refine J_aload_n (pc := 59) dX10_answer_59 rfl rfl ?_
        refine J_getr (pc := 60) (i := 23) cl8 hW.o (by decide) rfl (hW.r 23 rfl) kX10_65 dX10_answer_60 ?_
        refine J_iload_n (pc := 63) dX10_answer_63 rfl rfl ?_
        refine J_iload_n (pc := 64) dX10_answer_64 rfl rfl ?_
        refine J_iconst (pc := 65) (v := nI 4) dX10_answer_65 (by decide) ?_
        first | refine J_iremN (pc := 66) dX10_answer_66 (by omega) (by omega) (by omega) ?_ | refine J_irem (pc := 66) dX10_answer_66 (by decide) ?_
        refine J_mst (pc := 67) hW 15 rfl rfl (by show _ < 48; omega) rfl dX10_answer_67 (fun hW => ?_)
        refine J_goto (pc := 68) (tgt := 137) dX10_answer_68 rfl ?_
        refine J_vret (pc := 137) dX10_answer_137 rfl (by omega) (by omega) ?_
        exact ⟨rfl, by rw [x_answer, if_neg (by omega), if_pos hk1, if_neg (by omega)]; exact hW⟩
      · refine J_iload_n (pc := 46) dX10_answer_46 rfl rfl ?_
        refine J_iconst (pc := 47) (v := nI 4) dX10_answer_47 (by decide) ?_
        first | refine J_idivN (pc := 48) dX10_answer_48 (by omega) (by omega) (by omega) ?_ | refine J_idiv (pc := 48) dX10_answer_48 (by decide) ?_
        refine J_goto (pc := 49) (tgt := 58) dX10_answer_49 rfl ?_
        refine J_mst (pc := 58) hW 14 rfl rfl (by show _ < 48; omega) rfl dX10_answer_58 (fun hW => ?_)
        refine J_aload_n (pc := 59) dX10_answer_59 rfl rfl ?_
        refine J_getr (pc := 60) (i := 23) cl8 hW.o (by decide) rfl (hW.r 23 rfl) kX10_65 dX10_answer_60 ?_
        refine J_iload_n (pc := 63) dX10_answer_63 rfl rfl ?_
        refine J_iload_n (pc := 64) dX10_answer_64 rfl rfl ?_
        refine J_iconst (pc := 65) (v := nI 4) dX10_answer_65 (by decide) ?_
        first | refine J_iremN (pc := 66) dX10_answer_66 (by omega) (by omega) (by omega) ?_ | refine J_irem (pc := 66) dX10_answer_66 (by decide) ?_
        refine J_mst (pc := 67) hW 15 rfl rfl (by show _ < 48; omega) rfl dX10_answer_67 (fun hW => ?_)
        refine J_goto (pc := 68) (tgt := 137) dX10_answer_68 rfl ?_
        refine J_vret (pc := 137) dX10_answer_137 rfl (by omega) (by omega) ?_
        exact ⟨rfl, by rw [x_answer, if_neg (by omega), if_pos hk1, if_pos (by omega)]; exact hW⟩
  · refine J_vret (pc := 9) dX10_answer_9 rfl (by omega) (by omega) ?_
    exact ⟨rfl, by rw [x_answer, if_pos h0]; exact hW⟩
end
section
set_option maxRecDepth 100000 in
theorem cm_atLeaf (l : Launch) (g : jG) (hgt : Nat) {S : jS} {b : Nat} {ad : Nat → Nat} {X : XS} {leaf k m c p : Nat} (hW : WM S b ad X) (hI : xOK X) (hlf : leaf < 2) (hk : k < 4) (hm : m < 48) (hp : p < 4) (hh : 1 ≤ hgt) : CT l g mX10_atLeaf hgt 0 0 [.ref b, .int (nI leaf), .int (nI k), .int (nI m), .int (nI c), .int (nI p)] S (mPost b ad (x_atLeaf X leaf (k, m, c) p)) := by
  have h1 := hI.msg hm
  have hg : x_goal X k m < 8 := by unfold x_goal; split <;> omega
  have s0 := hI.sp (s := 0) (by decide)
  have s1 := hI.sp (s := 1) (by decide)
  have hs := (hI.sp hlf).2
  refine CT_of qX10_atLeaf (Nat.le_of_ble_eq_true rfl) ?_
  refine J_aload_n (pc := 0) dX10_atLeaf_0 rfl rfl ?_
  refine J_iload_n (pc := 1) dX10_atLeaf_1 rfl rfl ?_
  refine J_iload_n (pc := 2) dX10_atLeaf_2 rfl rfl ?_
  refine J_callV (pc := 3) (cm_goal l g (hgt - 1) hW hk hm) qX10_goal vX10_goal cl8 rfl hW.o kX10_147 dX10_atLeaf_3 rfl rfl (Nat.le_of_ble_eq_true rfl) (by omega) (by omega) (by omega) ?_
  rintro _ _ ⟨rfl, rfl⟩
  refine J_istore (pc := 6) dX10_atLeaf_6 (by decide) ?_
  refine J_iload (pc := 8) dX10_atLeaf_8 rfl ?_
  refine J_iconst (pc := 10) (v := nI 4) dX10_atLeaf_10 (by decide) ?_
  first | refine J_idivN (pc := 11) dX10_atLeaf_11 (by omega) (by omega) (by omega) ?_ | refine J_idiv (pc := 11) dX10_atLeaf_11 (by decide) ?_
  refine J_iload_n (pc := 12) dX10_atLeaf_12 rfl rfl ?_
  refine J_icmp_neN (pc := 13) (tgt := 39) dX10_atLeaf_13 rfl (by omega) (by omega) (fun hl => ?_) (fun hl => ?_)
  · refine J_aload_n (pc := 39) dX10_atLeaf_39 rfl rfl ?_
    refine J_getr (pc := 40) (i := 12) cl8 hW.o (by decide) rfl (hW.r 12 rfl) kX10_37 dX10_atLeaf_40 ?_
    refine J_iconst (pc := 43) (v := nI 0) dX10_atLeaf_43 (by decide) ?_
    refine J_zald (pc := 44) (hW.a 12 rfl) rfl (by decide) (by first | omega | exact mLn_lt _) (hW.2.2.2.1 0 (by decide)) dX10_atLeaf_44 ?_
    have tail : ∀ s, s < 2 → s = x_spine X leaf → ¬ (xV X 6 0 = 1 ∧ xV X 6 1 = 1) → J l g mX10_atLeaf hgt 0 0 (mPost b ad (x_atLeaf X leaf (k, m, c) p)) 102 [(6, .int (nI (x_goal X k m))), (0, .ref b), (1, .int (nI leaf)), (2, .int (nI k)), (3, .int (nI m)), (4, .int (nI c)), (5, .int (nI p))] [.int (nI s)] S 0 0 := by
      intro s hs2 he hno
      refine J_istore (pc := 102) dX10_atLeaf_102 (by decide) ?_
      refine J_aload_n (pc := 104) dX10_atLeaf_104 rfl rfl ?_
      refine J_getr (pc := 105) (i := 13) cl8 hW.o (by decide) rfl (hW.r 13 rfl) kX10_41 dX10_atLeaf_105 ?_
      refine J_iload_n (pc := 108) dX10_atLeaf_108 rfl rfl ?_
      refine J_iload (pc := 109) dX10_atLeaf_109 rfl ?_
      refine J_mst (pc := 111) hW 7 rfl rfl (by show _ < 2; omega) rfl dX10_atLeaf_111 (fun hW => ?_)
      refine J_aload_n (pc := 112) dX10_atLeaf_112 rfl rfl ?_
      refine J_bipush (pc := 113) (v := nI 8) dX10_atLeaf_113 (by decide) ?_
      refine J_bipush (pc := 115) (v := nI 6) dX10_atLeaf_115 (by decide) ?_
      refine J_iload_n (pc := 117) dX10_atLeaf_117 rfl rfl ?_
      first | refine J_imulN (pc := 118) dX10_atLeaf_118 ?_ | refine J_imul (pc := 118) dX10_atLeaf_118 ?_
      first | refine J_iaddN (pc := 119) dX10_atLeaf_119 ?_ | refine J_iadd (pc := 119) dX10_atLeaf_119 ?_
      refine J_iconst (pc := 120) (v := nI 4) dX10_atLeaf_120 (by decide) ?_
      first | refine J_iaddN (pc := 121) dX10_atLeaf_121 ?_ | refine J_iadd (pc := 121) dX10_atLeaf_121 ?_
      refine J_iload (pc := 122) dX10_atLeaf_122 rfl ?_
      first | refine J_iaddN (pc := 124) dX10_atLeaf_124 ?_ | refine J_iadd (pc := 124) dX10_atLeaf_124 ?_
      refine J_iload_n (pc := 125) dX10_atLeaf_125 rfl rfl ?_
      refine J_iload_n (pc := 126) dX10_atLeaf_126 rfl rfl ?_
      refine J_iload (pc := 127) dX10_atLeaf_127 rfl ?_
      refine J_iload (pc := 129) dX10_atLeaf_129 rfl ?_
      refine J_callV (pc := 131) (cm_line l g (hgt - 1) (k := k) (m := m) (c := c) hW (show 8 + 6 * leaf + 4 + s < 24 by omega) hp) qX10_line vX10_line cl8 rfl hW.o kX10_151 dX10_atLeaf_131 rfl rfl (Nat.le_of_ble_eq_true rfl) (by omega) (by omega) (by omega) ?_
      rintro _ _ ⟨rfl, hW⟩
      refine J_vret (pc := 134) dX10_atLeaf_134 rfl (by omega) (by omega) ?_
      refine ⟨rfl, ?_⟩
      rw [x_atLeaf, if_neg hl, if_neg hno, ← he]
      exact hW
    refine J_if_eqN (pc := 45) (tgt := 68) dX10_atLeaf_45 rfl (by omega) (fun h0 => ?_) (fun h0 => ?_)
    · refine J_aload_n (pc := 68) dX10_atLeaf_68 rfl rfl ?_
      refine J_getr (pc := 69) (i := 12) cl8 hW.o (by decide) rfl (hW.r 12 rfl) kX10_37 dX10_atLeaf_69 ?_
      refine J_iconst (pc := 72) (v := nI 0) dX10_atLeaf_72 (by decide) ?_
      refine J_zald (pc := 73) (hW.a 12 rfl) rfl (by decide) (by first | omega | exact mLn_lt _) (hW.2.2.2.1 0 (by decide)) dX10_atLeaf_73 ?_
      refine J_if_eqN (pc := 74) (tgt := 81) dX10_atLeaf_74 rfl (by omega) (fun h0 => ?_) (fun h0 => ?_)
      · refine J_aload_n (pc := 81) dX10_atLeaf_81 rfl rfl ?_
        refine J_getr (pc := 82) (i := 12) cl8 hW.o (by decide) rfl (hW.r 12 rfl) kX10_37 dX10_atLeaf_82 ?_
        refine J_iconst (pc := 85) (v := nI 1) dX10_atLeaf_85 (by decide) ?_
        refine J_zald (pc := 86) (hW.a 12 rfl) rfl (by decide) (by first | omega | exact mLn_lt _) (hW.2.2.2.1 1 (by decide)) dX10_atLeaf_86 ?_
        refine J_if_eqN (pc := 87) (tgt := 94) dX10_atLeaf_87 rfl (by omega) (fun h2 => ?_) (fun h2 => ?_)
        · refine J_iconst (pc := 94) (v := nI 1) dX10_atLeaf_94 (by decide) ?_
          refine J_aload_n (pc := 95) dX10_atLeaf_95 rfl rfl ?_
          refine J_getr (pc := 96) (i := 13) cl8 hW.o (by decide) rfl (hW.r 13 rfl) kX10_41 dX10_atLeaf_96 ?_
          refine J_iload_n (pc := 99) dX10_atLeaf_99 rfl rfl ?_
          refine J_mld (pc := 100) hW 7 rfl rfl (by show _ < 2; omega) dX10_atLeaf_100 ?_
          first | refine J_isubN (pc := 101) dX10_atLeaf_101 (by omega) ?_ | refine J_isub (pc := 101) dX10_atLeaf_101 ?_
          refine J_lvk (tail (1 - xV X 7 leaf) (by omega) (by rw [x_spine, if_neg (by omega), if_neg (by omega)]) (by omega)) (by exact ⟨rfl, rfl, rfl, rfl, rfl, rfl, rfl, trivial⟩)
        · refine J_iconst (pc := 90) (v := nI 0) dX10_atLeaf_90 (by decide) ?_
          refine J_goto (pc := 91) (tgt := 102) dX10_atLeaf_91 rfl ?_
          refine J_lvk (tail 0 (by omega) (by rw [x_spine, if_neg (by omega), if_pos (by omega)]) (by omega)) (by exact ⟨rfl, rfl, rfl, rfl, rfl, rfl, rfl, trivial⟩)
      · omega
    · refine J_aload_n (pc := 48) dX10_atLeaf_48 rfl rfl ?_
      refine J_getr (pc := 49) (i := 12) cl8 hW.o (by decide) rfl (hW.r 12 rfl) kX10_37 dX10_atLeaf_49 ?_
      refine J_iconst (pc := 52) (v := nI 1) dX10_atLeaf_52 (by decide) ?_
      refine J_zald (pc := 53) (hW.a 12 rfl) rfl (by decide) (by first | omega | exact mLn_lt _) (hW.2.2.2.1 1 (by decide)) dX10_atLeaf_53 ?_
      refine J_if_eqN (pc := 54) (tgt := 68) dX10_atLeaf_54 rfl (by omega) (fun h2 => ?_) (fun h2 => ?_)
      · refine J_aload_n (pc := 68) dX10_atLeaf_68 rfl rfl ?_
        refine J_getr (pc := 69) (i := 12) cl8 hW.o (by decide) rfl (hW.r 12 rfl) kX10_37 dX10_atLeaf_69 ?_
        refine J_iconst (pc := 72) (v := nI 0) dX10_atLeaf_72 (by decide) ?_
        refine J_zald (pc := 73) (hW.a 12 rfl) rfl (by decide) (by first | omega | exact mLn_lt _) (hW.2.2.2.1 0 (by decide)) dX10_atLeaf_73 ?_
        refine J_if_eqN (pc := 74) (tgt := 81) dX10_atLeaf_74 rfl (by omega) (fun h3 => ?_) (fun h3 => ?_)
        · omega
        · refine J_iconst (pc := 77) (v := nI 1) dX10_atLeaf_77 (by decide) ?_
          refine J_goto (pc := 78) (tgt := 102) dX10_atLeaf_78 rfl ?_
          refine J_lvk (tail 1 (by omega) (by rw [x_spine, if_pos (by omega)]) (by omega)) (by exact ⟨rfl, rfl, rfl, rfl, rfl, rfl, rfl, trivial⟩)
      · refine J_aload_n (pc := 57) dX10_atLeaf_57 rfl rfl ?_
        refine J_dup (pc := 58) dX10_atLeaf_58 rfl ?_
        refine J_geti (pc := 59) (i := 14) cl8 hW.o (by decide) rfl hW.2.2.1.2.2.1 kX10_144 dX10_atLeaf_59 ?_
        refine J_iconst (pc := 62) (v := nI 1) dX10_atLeaf_62 (by decide) ?_
        first | refine J_iaddN (pc := 63) dX10_atLeaf_63 ?_ | refine J_iadd (pc := 63) dX10_atLeaf_63 ?_
        refine J_mss (pc := 64) hW 14 2 (by decide) rfl kX10_144 dX10_atLeaf_64 (fun hW => ?_)
        refine J_vret (pc := 67) dX10_atLeaf_67 rfl (by omega) (by omega) ?_
        exact ⟨rfl, by rw [x_atLeaf, if_neg hl, if_pos (by omega)]; exact hW⟩
  · refine J_aload_n (pc := 16) dX10_atLeaf_16 rfl rfl ?_
    refine J_bipush (pc := 17) (v := nI 8) dX10_atLeaf_17 (by decide) ?_
    refine J_bipush (pc := 19) (v := nI 6) dX10_atLeaf_19 (by decide) ?_
    refine J_iload_n (pc := 21) dX10_atLeaf_21 rfl rfl ?_
    first | refine J_imulN (pc := 22) dX10_atLeaf_22 ?_ | refine J_imul (pc := 22) dX10_atLeaf_22 ?_
    first | refine J_iaddN (pc := 23) dX10_atLeaf_23 ?_ | refine J_iadd (pc := 23) dX10_atLeaf_23 ?_
    refine J_iload (pc := 24) dX10_atLeaf_24 rfl ?_
    refine J_iconst (pc := 26) (v := nI 4) dX10_atLeaf_26 (by decide) ?_
    first | refine J_iremN (pc := 27) dX10_atLeaf_27 (by omega) (by omega) (by omega) ?_ | refine J_irem (pc := 27) dX10_atLeaf_27 (by decide) ?_
    first | refine J_iaddN (pc := 28) dX10_atLeaf_28 ?_ | refine J_iadd (pc := 28) dX10_atLeaf_28 ?_
    refine J_iload_n (pc := 29) dX10_atLeaf_29 rfl rfl ?_
    refine J_iload_n (pc := 30) dX10_atLeaf_30 rfl rfl ?_
    refine J_iload (pc := 31) dX10_atLeaf_31 rfl ?_
    refine J_iload (pc := 33) dX10_atLeaf_33 rfl ?_
    refine J_callV (pc := 35) (cm_line l g (hgt - 1) (k := k) (m := m) (c := c) hW (show 8 + 6 * leaf + x_goal X k m % 4 < 24 by omega) hp) qX10_line vX10_line cl8 rfl hW.o kX10_151 dX10_atLeaf_35 rfl rfl (Nat.le_of_ble_eq_true rfl) (by omega) (by omega) (by omega) ?_
    rintro _ _ ⟨rfl, hW⟩
    refine J_vret (pc := 38) dX10_atLeaf_38 rfl (by omega) (by omega) ?_
    exact ⟨rfl, by rw [x_atLeaf, if_pos hl]; exact hW⟩
theorem yV_same (X : XS) (f i a b : Nat) : yV (yV X f i a) f i b = yV X f i b := by
  unfold yV
  simp only [Prod.mk.injEq, and_true]
  funext f' i'
  by_cases h : f' = f ∧ i' = i <;> simp [h]
set_option maxRecDepth 100000 in
theorem cm_listen (l : Launch) (g : jG) (hgt : Nat) {S : jS} {b : Nat} {ad : Nat → Nat} {X : XS} {h m : Nat} (hW : WM S b ad X) (hI : xOK X) (hm : m < 48) (hh8 : h < 8) (hk : xV X 19 m = 1) (hh : 1 ≤ hgt) : CT l g mX10_listen hgt 0 0 [.ref b, .int (nI h), .int (nI m)] S (mPost b ad (x_listen X h m)) := by
  have h1 := hI.msg hm
  refine CT_of qX10_listen (Nat.le_of_ble_eq_true rfl) ?_
  refine J_aload_n (pc := 0) dX10_listen_0 rfl rfl ?_
  refine J_getr (pc := 1) (i := 31) cl8 hW.o (by decide) rfl (hW.r 31 rfl) kX10_89 dX10_listen_1 ?_
  refine J_iload_n (pc := 4) dX10_listen_4 rfl rfl ?_
  refine J_dup2_11 (pc := 5) dX10_listen_5 rfl rfl ?_
  refine J_mld (pc := 6) hW 22 rfl rfl (by show _ < 48; omega) dX10_listen_6 ?_
  refine J_iconst (pc := 7) (v := nI 1) dX10_listen_7 (by decide) ?_
  first | refine J_iaddN (pc := 8) dX10_listen_8 ?_ | refine J_iadd (pc := 8) dX10_listen_8 ?_
  refine J_mst (pc := 9) hW 22 rfl rfl (by show _ < 48; omega) rfl dX10_listen_9 (fun hW => ?_)
  refine J_aload_n (pc := 10) dX10_listen_10 rfl rfl ?_
  refine J_getr (pc := 11) (i := 31) cl8 hW.o (by decide) rfl (hW.r 31 rfl) kX10_89 dX10_listen_11 ?_
  refine J_iload_n (pc := 14) dX10_listen_14 rfl rfl ?_
  refine J_mld (pc := 15) hW 22 rfl rfl (by show _ < 48; omega) dX10_listen_15 ?_
  refine J_bipush (pc := 16) (v := nI 16) dX10_listen_16 (by decide) ?_
  simp only [xV_yV, xV_yL, xV_yB, xV_yC, xL_yV, xL_yL, xL_yB, xL_yC, xB_yV, xB_yL, xB_yB, xB_yC, true_and, and_true, and_self, false_and, and_false, reduceIte, Nat.reduceEqDiff, if_true, if_false, reduceCtorEq] 
  refine J_icmp_geN (pc := 18) (tgt := 22) dX10_listen_18 rfl (by omega) (by omega) (fun h2 => ?_) (fun h2 => ?_)
  · refine J_aload_n (pc := 22) dX10_listen_22 rfl rfl ?_
    refine J_getr (pc := 23) (i := 31) cl8 hW.o (by decide) rfl (hW.r 31 rfl) kX10_89 dX10_listen_23 ?_
    refine J_iload_n (pc := 26) dX10_listen_26 rfl rfl ?_
    refine J_iconst (pc := 27) (v := nI 0) dX10_listen_27 (by decide) ?_
    refine J_mst (pc := 28) hW 22 rfl rfl (by show _ < 48; omega) rfl dX10_listen_28 (fun hW => ?_)
    refine J_aload_n (pc := 29) dX10_listen_29 rfl rfl ?_
    refine J_getr (pc := 30) (i := 32) cl8 hW.o (by decide) rfl (hW.r 32 rfl) kX10_92 dX10_listen_30 ?_
    refine J_iload_n (pc := 33) dX10_listen_33 rfl rfl ?_
    refine J_dup2_11 (pc := 34) dX10_listen_34 rfl rfl ?_
    refine J_mld (pc := 35) hW 23 rfl rfl (by show _ < 48; omega) dX10_listen_35 ?_
    refine J_iconst (pc := 36) (v := nI 1) dX10_listen_36 (by decide) ?_
    first | refine J_iaddN (pc := 37) dX10_listen_37 ?_ | refine J_iadd (pc := 37) dX10_listen_37 ?_
    refine J_mst (pc := 38) hW 23 rfl rfl (by show _ < 48; omega) rfl dX10_listen_38 (fun hW => ?_)
    refine J_aload_n (pc := 39) dX10_listen_39 rfl rfl ?_
    refine J_getr (pc := 40) (i := 32) cl8 hW.o (by decide) rfl (hW.r 32 rfl) kX10_92 dX10_listen_40 ?_
    refine J_iload_n (pc := 43) dX10_listen_43 rfl rfl ?_
    refine J_mld (pc := 44) hW 23 rfl rfl (by show _ < 48; omega) dX10_listen_44 ?_
    refine J_bipush (pc := 45) (v := nI 8) dX10_listen_45 (by decide) ?_
    rw [yV_same] at hW
    simp only [xV_yV, xV_yL, xV_yB, xV_yC, xL_yV, xL_yL, xL_yB, xL_yC, xB_yV, xB_yL, xB_yB, xB_yC, true_and, and_true, and_self, false_and, and_false, reduceIte, Nat.reduceEqDiff, if_true, if_false, reduceCtorEq] at hW ⊢
    refine J_icmp_neN (pc := 47) (tgt := 56) dX10_listen_47 rfl (by omega) (by omega) (fun h3 => ?_) (fun h3 => ?_)
    · refine J_iconst (pc := 56) (v := nI 0) dX10_listen_56 (by decide) ?_
      refine J_istore_n (pc := 57) dX10_listen_57 rfl (by decide) ?_
      have hlt : lst (fun i => !xB X 1 m i) 60 < 60 := by
        by_cases z : lst (fun i => !xB X 1 m i) 60 < 60
        · exact z
        · have hz : lst (fun i => !xB X 1 m i) 60 = 60 := Nat.le_antisymm (lst_le _ _) (Nat.not_lt.mp z)
          have := (hI.set m).2.2.1 hk
          have z0 : cnt (fun i => !xB X 1 m i) (xV X 10 m) = 0 := cnt_0 (fun i hi => lst_no (f := fun i => !xB X 1 m i) (n := 60) (by omega))
          rw [x_missing] at this
          omega
      generalize hS2 : uI (uI (uI S 9 (ad (mK 22)) m (nI (xV X 22 m + 1))) 9 (ad (mK 22)) m (nI 0)) 9 (ad (mK 23)) m (nI (xV X 23 m + 1)) = S2 at hW ⊢
      have loop : ∀ i, i ≤ lst (fun i => !xB X 1 m i) 60 → J l g mX10_listen hgt 0 0 (mPost b ad (x_listen X h m)) 58 [(3, .int (nI i)), (0, .ref b), (1, .int (nI h)), (2, .int (nI m))] [] S2 0 0 := by
        refine down _ ?_ ?_
        · refine J_aload_n (pc := 58) dX10_listen_58 rfl rfl ?_
          refine J_getr (pc := 59) (i := 35) cl8 hW.o (by decide) rfl (hW.r 35 rfl) kX10_101 dX10_listen_59 ?_
          refine J_bipush (pc := 62) (v := nI 60) dX10_listen_62 (by decide) ?_
          refine J_iload_n (pc := 64) dX10_listen_64 rfl rfl ?_
          first | refine J_imulN (pc := 65) dX10_listen_65 ?_ | refine J_imul (pc := 65) dX10_listen_65 ?_
          refine J_iload_n (pc := 66) dX10_listen_66 rfl rfl ?_
          first | refine J_iaddN (pc := 67) dX10_listen_67 ?_ | refine J_iadd (pc := 67) dX10_listen_67 ?_
          refine J_zald (pc := 68) (hW.a 35 rfl) rfl (show _ < 2880 by omega) (by first | omega | exact mLn_lt _) (hW.b1 hm (by omega)) dX10_listen_68 ?_
          simp only [xV_yV, xV_yL, xV_yB, xV_yC, xL_yV, xL_yL, xL_yB, xL_yC, xB_yV, xB_yL, xB_yB, xB_yC, true_and, and_true, and_self, false_and, and_false, reduceIte, Nat.reduceEqDiff, if_true, if_false, reduceCtorEq] 
          refine J_if_eqB (pc := 69) (tgt := 78) dX10_listen_69 rfl (fun h4 => ?_) (fun h4 => ?_)
          · refine J_aload_n (pc := 78) dX10_listen_78 rfl rfl ?_
            refine J_iload_n (pc := 79) dX10_listen_79 rfl rfl ?_
            refine J_iconst (pc := 80) (v := nI 2) dX10_listen_80 (by decide) ?_
            refine J_iload_n (pc := 81) dX10_listen_81 rfl rfl ?_
            refine J_bipush (pc := 82) (v := nI 64) dX10_listen_82 (by decide) ?_
            refine J_aload_n (pc := 84) dX10_listen_84 rfl rfl ?_
            refine J_getr (pc := 85) (i := 30) cl8 hW.o (by decide) rfl (hW.r 30 rfl) kX10_86 dX10_listen_85 ?_
            refine J_iload_n (pc := 88) dX10_listen_88 rfl rfl ?_
            refine J_mld (pc := 89) hW 21 rfl rfl (by show _ < 48; omega) dX10_listen_89 ?_
            simp only [xV_yV, xV_yL, xV_yB, xV_yC, xL_yV, xL_yL, xL_yB, xL_yC, xB_yV, xB_yL, xB_yB, xB_yC, true_and, and_true, and_self, false_and, and_false, reduceIte, Nat.reduceEqDiff, if_true, if_false, reduceCtorEq] 
            first | refine J_imulN (pc := 90) dX10_listen_90 ?_ | refine J_imul (pc := 90) dX10_listen_90 ?_
            refine J_iload_n (pc := 91) dX10_listen_91 rfl rfl ?_
            first | refine J_iaddN (pc := 92) dX10_listen_92 ?_ | refine J_iadd (pc := 92) dX10_listen_92 ?_
            refine J_callV (pc := 93) (cm_becomeDue l g (hgt - 1) (k := 2) (m := m) (c := 64 * xV X 21 m + lst (fun i => !xB X 1 m i) 60) hW hh8) qX10_becomeDue vX10_becomeDue cl8 rfl hW.o kX10_169 dX10_listen_93 rfl rfl (Nat.le_of_ble_eq_true rfl) (by omega) (by omega) (by omega) ?_
            rintro _ _ ⟨rfl, hW⟩
            refine J_vret (pc := 96) dX10_listen_96 rfl (by omega) (by omega) ?_
            refine ⟨rfl, ?_⟩
            rw [x_listen, if_neg (by omega), if_neg h3]
            exact hW
          · have := lst_is hlt
            rw [h4] at this
            cases this
        · intro i hi ih
          refine J_aload_n (pc := 58) dX10_listen_58 rfl rfl ?_
          refine J_getr (pc := 59) (i := 35) cl8 hW.o (by decide) rfl (hW.r 35 rfl) kX10_101 dX10_listen_59 ?_
          refine J_bipush (pc := 62) (v := nI 60) dX10_listen_62 (by decide) ?_
          refine J_iload_n (pc := 64) dX10_listen_64 rfl rfl ?_
          first | refine J_imulN (pc := 65) dX10_listen_65 ?_ | refine J_imul (pc := 65) dX10_listen_65 ?_
          refine J_iload_n (pc := 66) dX10_listen_66 rfl rfl ?_
          first | refine J_iaddN (pc := 67) dX10_listen_67 ?_ | refine J_iadd (pc := 67) dX10_listen_67 ?_
          refine J_zald (pc := 68) (hW.a 35 rfl) rfl (show _ < 2880 by omega) (by first | omega | exact mLn_lt _) (hW.b1 hm (by omega)) dX10_listen_68 ?_
          simp only [xV_yV, xV_yL, xV_yB, xV_yC, xL_yV, xL_yL, xL_yB, xL_yC, xB_yV, xB_yL, xB_yB, xB_yC, true_and, and_true, and_self, false_and, and_false, reduceIte, Nat.reduceEqDiff, if_true, if_false, reduceCtorEq] 
          refine J_if_eqB (pc := 69) (tgt := 78) dX10_listen_69 rfl (fun h4 => ?_) (fun h4 => ?_)
          · have := lst_no hi
            rw [h4] at this
            cases this
          · refine J_iinc (pc := 72) dX10_listen_72 rfl (inc1 _) (by decide) ?_
            refine J_goto (pc := 75) (tgt := 58) dX10_listen_75 rfl ?_
            exact J_lvk ih ⟨rfl, rfl, rfl, rfl, trivial⟩
      exact J_lvk (loop 0 (Nat.zero_le _)) ⟨rfl, rfl, rfl, rfl, trivial⟩
    · refine J_aload_n (pc := 50) dX10_listen_50 rfl rfl ?_
      refine J_iload_n (pc := 51) dX10_listen_51 rfl rfl ?_
      refine J_callV (pc := 52) (cm_forget l g (hgt - 1) hW hm) qX10_forget vX10_forget cl8 rfl hW.o kX10_183 dX10_listen_52 rfl rfl (Nat.le_of_ble_eq_true rfl) (by omega) (by omega) (by omega) ?_
      rintro _ _ ⟨rfl, hW⟩
      refine J_vret (pc := 55) dX10_listen_55 rfl (by omega) (by omega) ?_
      refine ⟨rfl, ?_⟩
      rw [x_listen, if_neg (by omega), if_pos h3]
      exact hW
  · refine J_vret (pc := 21) dX10_listen_21 rfl (by omega) (by omega) ?_
    exact ⟨rfl, by rw [x_listen, if_pos (by omega)]; exact hW⟩
set_option maxRecDepth 100000 in
theorem cm_data (l : Launch) (g : jG) (hgt : Nat) {S : jS} {b : Nat} {ad : Nat → Nat} {X : XS} {m c : Nat} (hW : WM S b ad X) (hI : xOK X) (hm : m < 48) (hc60 : c < 60) (hfin : xV X 30 (xV X 9 m) < 2 ^ 31) (hh : 1 ≤ hgt) : CT l g mX10_data hgt 0 0 [.ref b, .int (nI m), .int (nI c)] S (mPost b ad (x_data X m c)) := by
  have h1 := hI.msg hm
  refine CT_of qX10_data (Nat.le_of_ble_eq_true rfl) ?_
  refine J_aload_n (pc := 0) dX10_data_0 rfl rfl ?_
  refine J_getr (pc := 1) (i := 17) cl8 hW.o (by decide) rfl (hW.r 17 rfl) kX10_47 dX10_data_1 ?_
  refine J_iload_n (pc := 4) dX10_data_4 rfl rfl ?_
  refine J_mld (pc := 5) hW 9 rfl rfl (by show _ < 48; omega) dX10_data_5 ?_
  refine J_istore_n (pc := 6) dX10_data_6 rfl (by decide) ?_
  refine J_aload_n (pc := 7) dX10_data_7 rfl rfl ?_
  refine J_getr (pc := 8) (i := 28) cl8 hW.o (by decide) rfl (hW.r 28 rfl) kX10_80 dX10_data_8 ?_
  refine J_iload_n (pc := 11) dX10_data_11 rfl rfl ?_
  refine J_mld (pc := 12) hW 19 rfl rfl (by show _ < 48; omega) dX10_data_12 ?_
  refine J_iconst (pc := 13) (v := nI 2) dX10_data_13 (by decide) ?_
  refine J_icmp_neN (pc := 14) (tgt := 26) dX10_data_14 rfl (by omega) (by omega) (fun h2 => ?_) (fun h2 => ?_)
  · have tail : ∀ (S : jS) (X0 : XS), WM S b ad X0 → X0 = (if xV X 19 m = 0 then x_know X m else X) → J l g mX10_data hgt 0 0 (mPost b ad (x_data X m c)) 90 [(3, .int (nI (xV X 9 m))), (0, .ref b), (1, .int (nI m)), (2, .int (nI c))] [] S 0 0 := by
      intro S X0 hW hX0
      have e10 : xV X0 10 = xV X 10 := by
        rw [hX0]
        split
        · unfold x_know
          rw [xV_nf (by decide), xV_nf (by decide), xV_nf (by decide), xV_nf (by decide)]
        · rfl
      have e9 : xV X0 9 = xV X 9 := by
        rw [hX0]
        split
        · unfold x_know
          rw [xV_nf (by decide), xV_nf (by decide), xV_nf (by decide), xV_nf (by decide)]
        · rfl
      have e30 : xV X0 30 = xV X 30 := by
        rw [hX0]
        split
        · unfold x_know
          rw [xV_nf (by decide), xV_nf (by decide), xV_nf (by decide), xV_nf (by decide)]
        · rfl
      refine J_aload_n (pc := 90) dX10_data_90 rfl rfl ?_
      refine J_getr (pc := 91) (i := 31) cl8 hW.o (by decide) rfl (hW.r 31 rfl) kX10_89 dX10_data_91 ?_
      refine J_iload_n (pc := 94) dX10_data_94 rfl rfl ?_
      refine J_iconst (pc := 95) (v := nI 0) dX10_data_95 (by decide) ?_
      refine J_mst (pc := 96) hW 22 rfl rfl (by show _ < 48; omega) rfl dX10_data_96 (fun hW => ?_)
      refine J_aload_n (pc := 97) dX10_data_97 rfl rfl ?_
      refine J_getr (pc := 98) (i := 32) cl8 hW.o (by decide) rfl (hW.r 32 rfl) kX10_92 dX10_data_98 ?_
      refine J_iload_n (pc := 101) dX10_data_101 rfl rfl ?_
      refine J_iconst (pc := 102) (v := nI 0) dX10_data_102 (by decide) ?_
      refine J_mst (pc := 103) hW 23 rfl rfl (by show _ < 48; omega) rfl dX10_data_103 (fun hW => ?_)
      refine J_aload_n (pc := 104) dX10_data_104 rfl rfl ?_
      refine J_getr (pc := 105) (i := 35) cl8 hW.o (by decide) rfl (hW.r 35 rfl) kX10_101 dX10_data_105 ?_
      refine J_bipush (pc := 108) (v := nI 60) dX10_data_108 (by decide) ?_
      refine J_iload_n (pc := 110) dX10_data_110 rfl rfl ?_
      first | refine J_imulN (pc := 111) dX10_data_111 ?_ | refine J_imul (pc := 111) dX10_data_111 ?_
      refine J_iload_n (pc := 112) dX10_data_112 rfl rfl ?_
      first | refine J_iaddN (pc := 113) dX10_data_113 ?_ | refine J_iadd (pc := 113) dX10_data_113 ?_
      refine J_iconst (pc := 114) (v := nI 1) dX10_data_114 (by decide) ?_
      refine J_zast (pc := 115) (hW.a 35 rfl) rfl (show _ < 2880 by omega) (by first | omega | exact mLn_lt _) rfl dX10_data_115 ?_
      have hW := hW.wB 1 35 (by decide) m c hc60 true
      have hWt : WM _ b ad (x_take X0 m c) := hW
      clear hW
      have hW := hWt
      have e10t : xV (x_take X0 m c) 10 = xV X 10 := by
        unfold x_take
        rw [xV_yB, xV_nf (by decide), xV_nf (by decide), e10]
      have e9t : xV (x_take X0 m c) 9 = xV X 9 := by
        unfold x_take
        rw [xV_yB, xV_nf (by decide), xV_nf (by decide), e9]
      have e30t : xV (x_take X0 m c) 30 = xV X 30 := by
        unfold x_take
        rw [xV_yB, xV_nf (by decide), xV_nf (by decide), e30]
      have c1 : x_missing (x_take X0 m c) m ≤ 60 := Nat.le_trans (cnt_le _ _) (by rw [e10t]; exact h1.1.2.2.1)
      generalize hXt : x_take X0 m c = Xt at hW c1 e10t e9t e30t
      refine J_aload_n (pc := 116) dX10_data_116 rfl rfl ?_
      refine J_iload_n (pc := 117) dX10_data_117 rfl rfl ?_
      refine J_callV (pc := 118) (cm_missing l g (hgt - 1) hW (by rw [e10t]; exact h1.1.2.2.1) hm) qX10_missing vX10_missing cl8 rfl hW.o kX10_173 dX10_data_118 rfl rfl (Nat.le_of_ble_eq_true rfl) (by omega) (by omega) (by omega) ?_
      rintro _ _ ⟨rfl, rfl⟩
      refine J_if_leN (pc := 121) (tgt := 125) dX10_data_121 rfl (by omega) (fun h3 => ?_) (fun h3 => ?_)
      · refine J_aload_n (pc := 125) dX10_data_125 rfl rfl ?_
        refine J_getr (pc := 126) (i := 28) cl8 hW.o (by decide) rfl (hW.r 28 rfl) kX10_80 dX10_data_126 ?_
        refine J_iload_n (pc := 129) dX10_data_129 rfl rfl ?_
        refine J_iconst (pc := 130) (v := nI 2) dX10_data_130 (by decide) ?_
        refine J_mst (pc := 131) hW 19 rfl rfl (by show _ < 48; omega) rfl dX10_data_131 (fun hW => ?_)
        refine J_aload_n (pc := 132) dX10_data_132 rfl rfl ?_
        refine J_getr (pc := 133) (i := 29) cl8 hW.o (by decide) rfl (hW.r 29 rfl) kX10_83 dX10_data_133 ?_
        refine J_iload_n (pc := 136) dX10_data_136 rfl rfl ?_
        refine J_dup2_11 (pc := 137) dX10_data_137 rfl rfl ?_
        refine J_mld (pc := 138) hW 20 rfl rfl (by show _ < 48; omega) dX10_data_138 ?_
        refine J_iconst (pc := 139) (v := nI 1) dX10_data_139 (by decide) ?_
        first | refine J_iaddN (pc := 140) dX10_data_140 ?_ | refine J_iadd (pc := 140) dX10_data_140 ?_
        refine J_mst (pc := 141) hW 20 rfl rfl (by show _ < 48; omega) rfl dX10_data_141 (fun hW => ?_)
        refine J_aload_n (pc := 142) dX10_data_142 rfl rfl ?_
        refine J_getr (pc := 143) (i := 34) cl8 hW.o (by decide) rfl (hW.r 34 rfl) kX10_98 dX10_data_143 ?_
        refine J_iload_n (pc := 146) dX10_data_146 rfl rfl ?_
        refine J_aload_n (pc := 147) dX10_data_147 rfl rfl ?_
        refine J_geti (pc := 148) (i := 1) cl8 hW.o (by decide) rfl hW.2.2.1.1 kX10_177 dX10_data_148 ?_
        refine J_mst (pc := 151) hW 25 rfl rfl (by show _ < 48; omega) rfl dX10_data_151 (fun hW => ?_)
        refine J_aload_n (pc := 152) dX10_data_152 rfl rfl ?_
        refine J_getr (pc := 153) (i := 45) cl8 hW.o (by decide) rfl (hW.r 45 rfl) kX10_131 dX10_data_153 ?_
        refine J_bipush (pc := 156) (v := nI 64) dX10_data_156 (by decide) ?_
        refine J_iload_n (pc := 158) dX10_data_158 rfl rfl ?_
        first | refine J_imulN (pc := 159) dX10_data_159 ?_ | refine J_imul (pc := 159) dX10_data_159 ?_
        refine J_aload_n (pc := 160) dX10_data_160 rfl rfl ?_
        refine J_getr (pc := 161) (i := 44) cl8 hW.o (by decide) rfl (hW.r 44 rfl) kX10_128 dX10_data_161 ?_
        refine J_iload_n (pc := 164) dX10_data_164 rfl rfl ?_
        refine J_mld (pc := 165) hW 30 rfl rfl (by show _ < 8; omega) dX10_data_165 ?_
        simp only [xV_yV, xV_yL, xV_yB, xV_yC, xL_yV, xL_yL, xL_yB, xL_yC, xB_yV, xB_yL, xB_yB, xB_yC, true_and, and_true, and_self, false_and, and_false, reduceIte, Nat.reduceEqDiff, if_true, if_false, reduceCtorEq] 
        rw [e30t]
        refine J_bipush (pc := 166) (v := nI 64) dX10_data_166 (by decide) ?_
        first | refine J_iremN (pc := 168) dX10_data_168 (by omega) (by omega) (by omega) ?_ | refine J_irem (pc := 168) dX10_data_168 (by decide) ?_
        first | refine J_iaddN (pc := 169) dX10_data_169 ?_ | refine J_iadd (pc := 169) dX10_data_169 ?_
        refine J_iload_n (pc := 170) dX10_data_170 rfl rfl ?_
        refine J_mst (pc := 171) hW 31 rfl rfl (by show _ < 512; omega) rfl dX10_data_171 (fun hW => ?_)
        refine J_aload_n (pc := 172) dX10_data_172 rfl rfl ?_
        refine J_getr (pc := 173) (i := 44) cl8 hW.o (by decide) rfl (hW.r 44 rfl) kX10_128 dX10_data_173 ?_
        refine J_iload_n (pc := 176) dX10_data_176 rfl rfl ?_
        refine J_dup2_11 (pc := 177) dX10_data_177 rfl rfl ?_
        refine J_mld (pc := 178) hW 30 rfl rfl (by show _ < 8; omega) dX10_data_178 ?_
        refine J_iconst (pc := 179) (v := nI 1) dX10_data_179 (by decide) ?_
        first | refine J_iaddN (pc := 180) dX10_data_180 ?_ | refine J_iadd (pc := 180) dX10_data_180 ?_
        refine J_mst (pc := 181) hW 30 rfl rfl (by show _ < 8; omega) rfl dX10_data_181 (fun hW => ?_)
        refine J_aload_n (pc := 182) dX10_data_182 rfl rfl ?_
        refine J_iload_n (pc := 183) dX10_data_183 rfl rfl ?_
        refine J_iconst (pc := 184) (v := nI 3) dX10_data_184 (by decide) ?_
        refine J_iload_n (pc := 185) dX10_data_185 rfl rfl ?_
        refine J_iconst (pc := 186) (v := nI 0) dX10_data_186 (by decide) ?_
        simp only [xV_yV, xV_yL, xV_yB, xV_yC, xL_yV, xL_yL, xL_yB, xL_yC, xB_yV, xB_yL, xB_yB, xB_yC, true_and, and_true, and_self, false_and, and_false, reduceIte, Nat.reduceEqDiff, if_true, if_false, reduceCtorEq] at hW ⊢
        rw [e30t] at hW ⊢
        refine J_callV (pc := 187) (cm_becomeDue l g (hgt - 1) (k := 3) (m := m) (c := 0) hW h1.1.2.1) qX10_becomeDue vX10_becomeDue cl8 rfl hW.o kX10_169 dX10_data_187 rfl rfl (Nat.le_of_ble_eq_true rfl) (by omega) (by omega) (by omega) ?_
        rintro _ _ ⟨rfl, hW⟩
        refine J_vret (pc := 190) dX10_data_190 rfl (by omega) (by omega) ?_
        refine ⟨rfl, ?_⟩
        rw [x_data, if_neg h2, ← hX0, hXt, if_neg (by omega), x_finish, e9t, e30t]
        exact hW
      · refine J_vret (pc := 124) dX10_data_124 rfl (by omega) (by omega) ?_
        refine ⟨rfl, ?_⟩
        rw [x_data, if_neg h2, ← hX0, hXt, if_pos h3]
        exact hW
    refine J_aload_n (pc := 26) dX10_data_26 rfl rfl ?_
    refine J_getr (pc := 27) (i := 28) cl8 hW.o (by decide) rfl (hW.r 28 rfl) kX10_80 dX10_data_27 ?_
    refine J_iload_n (pc := 30) dX10_data_30 rfl rfl ?_
    refine J_mld (pc := 31) hW 19 rfl rfl (by show _ < 48; omega) dX10_data_31 ?_
    refine J_if_neN (pc := 32) (tgt := 90) dX10_data_32 rfl (by omega) (fun h4 => ?_) (fun h4 => ?_)
    · exact J_lvk (tail S X hW (by rw [if_neg h4])) ⟨rfl, rfl, rfl, rfl, trivial⟩
    · refine J_aload_n (pc := 35) dX10_data_35 rfl rfl ?_
      refine J_getr (pc := 36) (i := 28) cl8 hW.o (by decide) rfl (hW.r 28 rfl) kX10_80 dX10_data_36 ?_
      refine J_iload_n (pc := 39) dX10_data_39 rfl rfl ?_
      refine J_iconst (pc := 40) (v := nI 1) dX10_data_40 (by decide) ?_
      refine J_mst (pc := 41) hW 19 rfl rfl (by show _ < 48; omega) rfl dX10_data_41 (fun hW => ?_)
      refine J_aload_n (pc := 42) dX10_data_42 rfl rfl ?_
      refine J_getr (pc := 43) (i := 36) cl8 hW.o (by decide) rfl (hW.r 36 rfl) kX10_104 dX10_data_43 ?_
      refine J_iload_n (pc := 46) dX10_data_46 rfl rfl ?_
      refine J_dup2_11 (pc := 47) dX10_data_47 rfl rfl ?_
      refine J_mld (pc := 48) hW 26 rfl rfl (by show _ < 8; omega) dX10_data_48 ?_
      refine J_iconst (pc := 49) (v := nI 1) dX10_data_49 (by decide) ?_
      first | refine J_iaddN (pc := 50) dX10_data_50 ?_ | refine J_iadd (pc := 50) dX10_data_50 ?_
      refine J_mst (pc := 51) hW 26 rfl rfl (by show _ < 8; omega) rfl dX10_data_51 (fun hW => ?_)
      refine J_aload_n (pc := 52) dX10_data_52 rfl rfl ?_
      refine J_getr (pc := 53) (i := 33) cl8 hW.o (by decide) rfl (hW.r 33 rfl) kX10_95 dX10_data_53 ?_
      refine J_iload_n (pc := 56) dX10_data_56 rfl rfl ?_
      refine J_aload_n (pc := 57) dX10_data_57 rfl rfl ?_
      refine J_getr (pc := 58) (i := 36) cl8 hW.o (by decide) rfl (hW.r 36 rfl) kX10_104 dX10_data_58 ?_
      refine J_iload_n (pc := 61) dX10_data_61 rfl rfl ?_
      refine J_mld (pc := 62) hW 26 rfl rfl (by show _ < 8; omega) dX10_data_62 ?_
      refine J_mst (pc := 63) hW 24 rfl rfl (by show _ < 48; omega) rfl dX10_data_63 (fun hW => ?_)
      refine J_aload_n (pc := 64) dX10_data_64 rfl rfl ?_
      refine J_getr (pc := 65) (i := 30) cl8 hW.o (by decide) rfl (hW.r 30 rfl) kX10_86 dX10_data_65 ?_
      refine J_iload_n (pc := 68) dX10_data_68 rfl rfl ?_
      refine J_aload_n (pc := 69) dX10_data_69 rfl rfl ?_
      refine J_getr (pc := 70) (i := 18) cl8 hW.o (by decide) rfl (hW.r 18 rfl) kX10_50 dX10_data_70 ?_
      refine J_iload_n (pc := 73) dX10_data_73 rfl rfl ?_
      refine J_mld (pc := 74) hW 10 rfl rfl (by show _ < 48; omega) dX10_data_74 ?_
      refine J_iconst (pc := 75) (v := nI 4) dX10_data_75 (by decide) ?_
      simp only [xV_yV, xV_yL, xV_yB, xV_yC, xL_yV, xL_yL, xL_yB, xL_yC, xB_yV, xB_yL, xB_yB, xB_yC, true_and, and_true, and_self, false_and, and_false, reduceIte, Nat.reduceEqDiff, if_true, if_false, reduceCtorEq] at hW ⊢
      refine J_icmp_geN (pc := 76) (tgt := 88) dX10_data_76 rfl (by omega) (by omega) (fun h5 => ?_) (fun h5 => ?_)
      · refine J_iconst (pc := 88) (v := nI 4) dX10_data_88 (by decide) ?_
        refine J_mst (pc := 89) hW 21 rfl rfl (by show _ < 48; omega) rfl dX10_data_89 (fun hW => ?_)
        refine J_lvk (tail _ _ hW ?_) ⟨rfl, rfl, rfl, rfl, trivial⟩
        rw [if_pos h4, x_know, if_neg (by omega)]
      · refine J_aload_n (pc := 79) dX10_data_79 rfl rfl ?_
        refine J_getr (pc := 80) (i := 18) cl8 hW.o (by decide) rfl (hW.r 18 rfl) kX10_50 dX10_data_80 ?_
        refine J_iload_n (pc := 83) dX10_data_83 rfl rfl ?_
        refine J_mld (pc := 84) hW 10 rfl rfl (by show _ < 48; omega) dX10_data_84 ?_
        refine J_goto (pc := 85) (tgt := 89) dX10_data_85 rfl ?_
        simp only [xV_yV, xV_yL, xV_yB, xV_yC, xL_yV, xL_yL, xL_yB, xL_yC, xB_yV, xB_yL, xB_yB, xB_yC, true_and, and_true, and_self, false_and, and_false, reduceIte, Nat.reduceEqDiff, if_true, if_false, reduceCtorEq] at hW ⊢
        refine J_mst (pc := 89) hW 21 rfl rfl (by show _ < 48; omega) rfl dX10_data_89 (fun hW => ?_)
        refine J_lvk (tail _ _ hW ?_) ⟨rfl, rfl, rfl, rfl, trivial⟩
        rw [if_pos h4, x_know, if_pos (by omega)]
  · refine J_aload_n (pc := 17) dX10_data_17 rfl rfl ?_
    refine J_iload_n (pc := 18) dX10_data_18 rfl rfl ?_
    refine J_iconst (pc := 19) (v := nI 3) dX10_data_19 (by decide) ?_
    refine J_iload_n (pc := 20) dX10_data_20 rfl rfl ?_
    refine J_iconst (pc := 21) (v := nI 0) dX10_data_21 (by decide) ?_
    refine J_callV (pc := 22) (cm_becomeDue l g (hgt - 1) (k := 3) (m := m) (c := 0) hW h1.1.2.1) qX10_becomeDue vX10_becomeDue cl8 rfl hW.o kX10_169 dX10_data_22 rfl rfl (Nat.le_of_ble_eq_true rfl) (by omega) (by omega) (by omega) ?_
    rintro _ _ ⟨rfl, hW⟩
    refine J_vret (pc := 25) dX10_data_25 rfl (by omega) (by omega) ?_
    exact ⟨rfl, by rw [x_data, if_pos h2]; exact hW⟩
end
section
/-- of one shape: how many messages, from, to, length, mode -/
def xSm (X Y : XS) : Prop := xV Y 1 = xV X 1 ∧ xV Y 8 = xV X 8 ∧ xV Y 9 = xV X 9 ∧ xV Y 10 = xV X 10 ∧ xV Y 11 = xV X 11
set_option maxRecDepth 100000 in
theorem cm_watch (l : Launch) (g : jG) (hgt : Nat) {S : jS} {b : Nat} {ad : Nat → Nat} {X : XS} {h : Nat} (hW : WM S b ad X) (hI : ∀ i, i ≤ xV X 1 0 → xOK (x_watch X h i) ∧ xSm X (x_watch X h i)) (hh8 : h < 8) (hh : 1 ≤ hgt) : CT l g mX10_watch hgt 0 0 [.ref b, .int (nI h)] S (mPost b ad (x_watch X h (xV X 1 0))) := by
  have h48 : xV X 1 0 ≤ 48 := (hI 0 (Nat.zero_le _)).1.many
  refine CT_of qX10_watch (Nat.le_of_ble_eq_true rfl) ?_
  refine J_iconst (pc := 0) (v := nI 0) dX10_watch_0 (by decide) ?_
  refine J_istore_n (pc := 1) dX10_watch_1 rfl (by decide) ?_
  have loop : ∀ i, i ≤ xV X 1 0 → ∀ S, WM S b ad (x_watch X h i) → J l g mX10_watch hgt 0 0 (mPost b ad (x_watch X h (xV X 1 0))) 2 [(2, .int (nI i)), (0, .ref b), (1, .int (nI h))] [] S 0 0 := by
    refine down _ ?_ ?_
    · intro S hW
      have hN := congrFun (hI _ (Nat.le_refl _)).2.1 0
      refine J_iload_n (pc := 2) dX10_watch_2 rfl rfl ?_
      refine J_aload_n (pc := 3) dX10_watch_3 rfl rfl ?_
      refine J_geti (pc := 4) (i := 2) cl8 hW.o (by decide) rfl hW.2.2.1.2.1 kX10_138 dX10_watch_4 ?_
      rw [hN]
      refine J_icmp_geN (pc := 7) (tgt := 116) dX10_watch_7 rfl (by omega) (by omega) (fun h0 => ?_) (fun h0 => ?_)
      · refine J_vret (pc := 116) dX10_watch_116 rfl (by omega) (by omega) ?_
        exact ⟨rfl, hW⟩
      · omega
    · intro i hi ih S hW
      obtain ⟨hO, hN⟩ := hI i (by omega)
      have hN := congrFun hN.1 0
      have h1 := hO.msg (m := i) (by omega)
      have hs : x_watch X h (i + 1) = if xV (x_watch X h i) 8 i = h ∧ xV (x_watch X h i) 12 i = 0 then x_watch1 (x_watch X h i) i else x_watch X h i := rfl
      generalize x_watch X h i = Y at hW h1 hs hN
      have next : ∀ S', WM S' b ad (x_watch X h (i + 1)) → J l g mX10_watch hgt 0 0 (mPost b ad (x_watch X h (xV X 1 0))) 110 [(2, .int (nI i)), (0, .ref b), (1, .int (nI h))] [] S' 0 0 := by
        intro S' hW'
        refine J_iinc (pc := 110) dX10_watch_110 rfl (inc1 _) (by decide) ?_
        refine J_goto (pc := 113) (tgt := 2) dX10_watch_113 rfl ?_
        exact J_lvk (ih S' hW') ⟨rfl, rfl, rfl, trivial⟩
      refine J_iload_n (pc := 2) dX10_watch_2 rfl rfl ?_
      refine J_aload_n (pc := 3) dX10_watch_3 rfl rfl ?_
      refine J_geti (pc := 4) (i := 2) cl8 hW.o (by decide) rfl hW.2.2.1.2.1 kX10_138 dX10_watch_4 ?_
      rw [hN]
      refine J_icmp_geN (pc := 7) (tgt := 116) dX10_watch_7 rfl (by omega) (by omega) (fun h0 => ?_) (fun h0 => ?_)
      · omega
      · refine J_aload_n (pc := 10) dX10_watch_10 rfl rfl ?_
        refine J_getr (pc := 11) (i := 16) cl8 hW.o (by decide) rfl (hW.r 16 rfl) kX10_44 dX10_watch_11 ?_
        refine J_iload_n (pc := 14) dX10_watch_14 rfl rfl ?_
        refine J_mld (pc := 15) hW 8 rfl rfl (by show _ < 48; omega) dX10_watch_15 ?_
        refine J_iload_n (pc := 16) dX10_watch_16 rfl rfl ?_
        refine J_icmp_neN (pc := 17) (tgt := 110) dX10_watch_17 rfl (by omega) (by omega) (fun h2 => ?_) (fun h2 => ?_)
        · exact next S (by rw [hs, if_neg (fun z => h2 z.1)]; exact hW)
        · refine J_aload_n (pc := 20) dX10_watch_20 rfl rfl ?_
          refine J_getr (pc := 21) (i := 20) cl8 hW.o (by decide) rfl (hW.r 20 rfl) kX10_56 dX10_watch_21 ?_
          refine J_iload_n (pc := 24) dX10_watch_24 rfl rfl ?_
          refine J_mld (pc := 25) hW 12 rfl rfl (by show _ < 48; omega) dX10_watch_25 ?_
          refine J_if_eqN (pc := 26) (tgt := 32) dX10_watch_26 rfl (by omega) (fun h3 => ?_) (fun h3 => ?_)
          · rw [if_pos ⟨h2, h3⟩] at hs
            refine J_aload_n (pc := 32) dX10_watch_32 rfl rfl ?_
            refine J_getr (pc := 33) (i := 24) cl8 hW.o (by decide) rfl (hW.r 24 rfl) kX10_68 dX10_watch_33 ?_
            refine J_iload_n (pc := 36) dX10_watch_36 rfl rfl ?_
            refine J_dup2_11 (pc := 37) dX10_watch_37 rfl rfl ?_
            refine J_mld (pc := 38) hW 16 rfl rfl (by show _ < 48; omega) dX10_watch_38 ?_
            refine J_iconst (pc := 39) (v := nI 1) dX10_watch_39 (by decide) ?_
            first | refine J_iaddN (pc := 40) dX10_watch_40 ?_ | refine J_iadd (pc := 40) dX10_watch_40 ?_
            refine J_mst (pc := 41) hW 16 rfl rfl (by show _ < 48; omega) rfl dX10_watch_41 (fun hW => ?_)
            refine J_aload_n (pc := 42) dX10_watch_42 rfl rfl ?_
            refine J_getr (pc := 43) (i := 24) cl8 hW.o (by decide) rfl (hW.r 24 rfl) kX10_68 dX10_watch_43 ?_
            refine J_iload_n (pc := 46) dX10_watch_46 rfl rfl ?_
            refine J_mld (pc := 47) hW 16 rfl rfl (by show _ < 48; omega) dX10_watch_47 ?_
            refine J_bipush (pc := 48) (v := nI 40) dX10_watch_48 (by decide) ?_
            simp only [xV_yV, xV_yL, xV_yB, xV_yC, xL_yV, xL_yL, xL_yB, xL_yC, xB_yV, xB_yL, xB_yB, xB_yC, true_and, and_true, and_self, false_and, and_false, reduceIte, Nat.reduceEqDiff, if_true, if_false, reduceCtorEq] at hW ⊢
            refine J_icmp_geN (pc := 50) (tgt := 56) dX10_watch_50 rfl (by omega) (by omega) (fun h4 => ?_) (fun h4 => ?_)
            · refine J_aload_n (pc := 56) dX10_watch_56 rfl rfl ?_
              refine J_getr (pc := 57) (i := 24) cl8 hW.o (by decide) rfl (hW.r 24 rfl) kX10_68 dX10_watch_57 ?_
              refine J_iload_n (pc := 60) dX10_watch_60 rfl rfl ?_
              refine J_iconst (pc := 61) (v := nI 0) dX10_watch_61 (by decide) ?_
              refine J_mst (pc := 62) hW 16 rfl rfl (by show _ < 48; omega) rfl dX10_watch_62 (fun hW => ?_)
              refine J_aload_n (pc := 63) dX10_watch_63 rfl rfl ?_
              refine J_getr (pc := 64) (i := 25) cl8 hW.o (by decide) rfl (hW.r 25 rfl) kX10_71 dX10_watch_64 ?_
              refine J_iload_n (pc := 67) dX10_watch_67 rfl rfl ?_
              refine J_dup2_11 (pc := 68) dX10_watch_68 rfl rfl ?_
              refine J_mld (pc := 69) hW 17 rfl rfl (by show _ < 48; omega) dX10_watch_69 ?_
              refine J_iconst (pc := 70) (v := nI 1) dX10_watch_70 (by decide) ?_
              first | refine J_iaddN (pc := 71) dX10_watch_71 ?_ | refine J_iadd (pc := 71) dX10_watch_71 ?_
              refine J_mst (pc := 72) hW 17 rfl rfl (by show _ < 48; omega) rfl dX10_watch_72 (fun hW => ?_)
              refine J_aload_n (pc := 73) dX10_watch_73 rfl rfl ?_
              refine J_getr (pc := 74) (i := 25) cl8 hW.o (by decide) rfl (hW.r 25 rfl) kX10_71 dX10_watch_74 ?_
              refine J_iload_n (pc := 77) dX10_watch_77 rfl rfl ?_
              refine J_mld (pc := 78) hW 17 rfl rfl (by show _ < 48; omega) dX10_watch_78 ?_
              refine J_bipush (pc := 79) (v := nI 6) dX10_watch_79 (by decide) ?_
              rw [yV_same] at hW
              simp only [xV_yV, xV_yL, xV_yB, xV_yC, xL_yV, xL_yL, xL_yB, xL_yC, xB_yV, xB_yL, xB_yB, xB_yC, true_and, and_true, and_self, false_and, and_false, reduceIte, Nat.reduceEqDiff, if_true, if_false, reduceCtorEq] at hW ⊢
              refine J_icmp_neN (pc := 81) (tgt := 104) dX10_watch_81 rfl (by omega) (by omega) (fun h5 => ?_) (fun h5 => ?_)
              · refine J_aload_n (pc := 104) dX10_watch_104 rfl rfl ?_
                refine J_iload_n (pc := 105) dX10_watch_105 rfl rfl ?_
                refine J_iconst (pc := 106) (v := nI 0) dX10_watch_106 (by decide) ?_
                refine J_callV (pc := 107) (cm_want2 l g (hgt - 1) (i := 0) hW (by simp only [xV_yV]; simp; omega) (by omega) (by omega)) qX10_want vX10_want cl8 rfl hW.o kX10_194 dX10_watch_107 rfl rfl (Nat.le_of_ble_eq_true rfl) (by omega) (by omega) (by omega) ?_
                rintro _ _ ⟨rfl, hW⟩
                refine next _ ?_
                rw [hs, x_watch1, if_neg (by omega), if_neg h5]
                exact hW
              · refine J_aload_n (pc := 84) dX10_watch_84 rfl rfl ?_
                refine J_getr (pc := 85) (i := 20) cl8 hW.o (by decide) rfl (hW.r 20 rfl) kX10_56 dX10_watch_85 ?_
                refine J_iload_n (pc := 88) dX10_watch_88 rfl rfl ?_
                refine J_iconst (pc := 89) (v := nI 2) dX10_watch_89 (by decide) ?_
                refine J_mst (pc := 90) hW 12 rfl rfl (by show _ < 48; omega) rfl dX10_watch_90 (fun hW => ?_)
                refine J_aload_n (pc := 91) dX10_watch_91 rfl rfl ?_
                refine J_getr (pc := 92) (i := 26) cl8 hW.o (by decide) rfl (hW.r 26 rfl) kX10_74 dX10_watch_92 ?_
                refine J_iload_n (pc := 95) dX10_watch_95 rfl rfl ?_
                refine J_aload_n (pc := 96) dX10_watch_96 rfl rfl ?_
                refine J_geti (pc := 97) (i := 1) cl8 hW.o (by decide) rfl hW.2.2.1.1 kX10_177 dX10_watch_97 ?_
                refine J_mst (pc := 100) hW 18 rfl rfl (by show _ < 48; omega) rfl dX10_watch_100 (fun hW => ?_)
                refine J_goto (pc := 101) (tgt := 110) dX10_watch_101 rfl ?_
                simp only [xV_yV, xV_yL, xV_yB, xV_yC, xL_yV, xL_yL, xL_yB, xL_yC, xB_yV, xB_yL, xB_yB, xB_yC, true_and, and_true, and_self, false_and, and_false, reduceIte, Nat.reduceEqDiff, if_true, if_false, reduceCtorEq] at hW ⊢
                refine next _ ?_
                rw [hs, x_watch1, if_neg (by omega), if_pos h5]
                exact hW
            · refine J_goto (pc := 53) (tgt := 110) dX10_watch_53 rfl ?_
              refine next _ ?_
              rw [hs, x_watch1, if_pos (by omega)]
              exact hW
          · refine J_goto (pc := 29) (tgt := 110) dX10_watch_29 rfl ?_
            exact next S (by rw [hs, if_neg (fun z => h3 z.2)]; exact hW)
  exact loop 0 (Nat.zero_le _) S hW
end
section
def shf (f : Nat → Int32) (base j : Nat) : Nat → Int32 := fun x => if base ≤ x ∧ x < base + j then f (x + 1) else f x
theorem shf_in {f : Nat → Int32} {base j x : Nat} (h1 : base ≤ x) (h2 : x < base + j) : shf f base j x = f (x + 1) := if_pos ⟨h1, h2⟩
theorem shf_out {f : Nat → Int32} {base j x : Nat} (h : x < base ∨ base + j ≤ x) : shf f base j x = f x := if_neg (by omega)
theorem shf_0 (f : Nat → Int32) (base : Nat) : shf f base 0 = f := funext fun x => shf_out (by omega)
theorem shf_s (f : Nat → Int32) (base j : Nat) : upd (shf f base j) (base + j) (shf f base j (base + j + 1)) = shf f base (j + 1) := by
  funext x
  unfold upd
  rw [shf_out (x := base + j + 1) (by omega)]
  by_cases h : x = base + j
  · subst h
    rw [if_pos rfl, shf_in (by omega) (by omega)]
  · rw [if_neg h]
    by_cases h2 : base ≤ x ∧ x < base + j
    · rw [shf_in h2.1 h2.2, shf_in h2.1 (by omega)]
    · rw [shf_out (by omega), shf_out (by omega)]
theorem WM.wQ0 {S S' : jS} {b : Nat} {ad : Nat → Nat} {X : XS} (h : WM S b ad X) (q : Nat) (hq : q < 96) {e : Nat × Nat × Nat} {t : List (Nat × Nat × Nat)} (hl : xL X (q) = e :: t) (ho : mOnly ad mLs S S') (e0 : ∀ k, mArr k = true → k ≠ 8 → k ≠ 9 → k ≠ 10 → k ≠ 11 → sI S' 9 (ad k) = sI S 9 (ad k)) (ew : sI S' 9 (ad 8) = upd (sI S 9 (ad 8)) q (nI t.length)) (ek : sI S' 9 (ad 9) = shf (sI S 9 (ad 9)) (8 * q) t.length) (ea : sI S' 9 (ad 10) = shf (sI S 9 (ad 10)) (8 * q) t.length) (ec : sI S' 9 (ad 11) = shf (sI S 9 (ad 11)) (8 * q) t.length) : WM S' b ad (yL X (q) t) := by
  have key : mQue S' ad (yL X (q) t) := by
    intro j hj
    have this := h.2.2.2.2.2.2.1 j hj
    by_cases ej : j = q
    · subst ej
      rw [xL_yL, if_pos rfl, ew, ek, ea, ec]
      rw [hl] at this
      refine ⟨by have := this.1; rw [List.length_cons] at this; omega, by simp [upd], fun i e' he => ?_⟩
      have hi : i < t.length := (List.getElem?_eq_some_iff.mp he).1
      have u := this.2.2 (i + 1) e' (by rw [List.getElem?_cons_succ]; exact he)
      rw [shf_in (by omega) (by omega), shf_in (by omega) (by omega), shf_in (by omega) (by omega)]
      exact u
    · rw [xL_yL, if_neg (by omega), ew, ek, ea, ec]
      have h8 := this.1
      have hq8 := (h.2.2.2.2.2.2.1 q hq).1
      rw [hl, List.length_cons] at hq8
      refine ⟨this.1, by simp [upd, ej]; exact this.2.1, fun i e' he => ?_⟩
      have hi : i < (xL X (j)).length := (List.getElem?_eq_some_iff.mp he).1
      rw [shf_out (by omega), shf_out (by omega), shf_out (by omega)]
      exact this.2.2 i e' he
  refine h.lists ho rfl rfl (mLnk.keep h.2.2.2.2.2.1 ?_ ?_ ?_ ?_) key (mDue.keep h.2.2.2.2.2.2.2 ?_ ?_ ?_ ?_ ?_)
  all_goals first | exact e0 _ rfl (by decide) (by decide) (by decide) (by decide) | (intro z hz; rw [xL_yL, if_neg (by omega)])
theorem WM.wD0 {S S' : jS} {b : Nat} {ad : Nat → Nat} {X : XS} (h : WM S b ad X) (q : Nat) (hq : q < 8) {e : Nat × Nat × Nat} {t : List (Nat × Nat × Nat)} (hl : xL X (96 + q) = e :: t) (ho : mOnly ad mLs S S') (e0 : ∀ k, mArr k = true → k ≠ 37 → k ≠ 38 → k ≠ 39 → k ≠ 40 → sI S' 9 (ad k) = sI S 9 (ad k)) (ew : sI S' 9 (ad 37) = upd (sI S 9 (ad 37)) q (nI t.length)) (ek : sI S' 9 (ad 38) = shf (sI S 9 (ad 38)) (24 * q) t.length) (ea : sI S' 9 (ad 39) = shf (sI S 9 (ad 39)) (24 * q) t.length) (ec : sI S' 9 (ad 40) = shf (sI S 9 (ad 40)) (24 * q) t.length) : WM S' b ad (yL X (96 + q) t) := by
  have key : mDue S' ad (yL X (96 + q) t) := by
    intro j hj
    have this := h.2.2.2.2.2.2.2 j hj
    by_cases ej : j = q
    · subst ej
      rw [xL_yL, if_pos rfl, ew, ek, ea, ec]
      rw [hl] at this
      refine ⟨by have := this.1; rw [List.length_cons] at this; omega, by simp [upd], fun i e' he => ?_⟩
      have hi : i < t.length := (List.getElem?_eq_some_iff.mp he).1
      have u := this.2.2 (i + 1) e' (by rw [List.getElem?_cons_succ]; exact he)
      rw [shf_in (by omega) (by omega), shf_in (by omega) (by omega), shf_in (by omega) (by omega)]
      exact u
    · rw [xL_yL, if_neg (by omega), ew, ek, ea, ec]
      have h8 := this.1
      have hq8 := (h.2.2.2.2.2.2.2 q hq).1
      rw [hl, List.length_cons] at hq8
      refine ⟨this.1, by simp [upd, ej]; exact this.2.1, fun i e' he => ?_⟩
      have hi : i < (xL X (96 + j)).length := (List.getElem?_eq_some_iff.mp he).1
      rw [shf_out (by omega), shf_out (by omega), shf_out (by omega)]
      exact this.2.2 i e' he
  refine h.lists ho rfl rfl (mLnk.keep h.2.2.2.2.2.1 ?_ ?_ ?_ ?_) (mQue.keep h.2.2.2.2.2.2.1 ?_ ?_ ?_ ?_ ?_) key
  all_goals first | exact e0 _ rfl (by decide) (by decide) (by decide) (by decide) | (intro z hz; rw [xL_yL, if_neg (by omega)])
theorem mOnly.sub {ad : Nat → Nat} {ks ks' : List Nat} {S S' : jS} (h : mOnly ad ks S S') (hs : ∀ k ∈ ks, k ∈ ks') : mOnly ad ks' S S' := ⟨h.1, h.2.1, h.2.2.1, h.2.2.2.1, h.2.2.2.2.1, h.2.2.2.2.2.1, fun k hk hn => h.2.2.2.2.2.2 k hk (fun z => hn (hs k z))⟩
theorem mOnly.o {ad : Nat → Nat} {ks : List Nat} {S S' : jS} {b : Nat} {X : XS} (h : mOnly ad ks S S') (hW : WM S b ad X) : sAt S' 8 b := (h.shape hW.1).1
theorem mOnly.r {ad : Nat → Nat} {ks : List Nat} {S S' : jS} {b : Nat} {X : XS} (h : mOnly ad ks S S') (hW : WM S b ad X) (k : Nat) (hk : mArr k = true) : sP S' 8 b k = some (ad k) := (h.shape hW.1).2.1 k hk
theorem mOnly.a {ad : Nat → Nat} {ks : List Nat} {S S' : jS} {b : Nat} {X : XS} (h : mOnly ad ks S S') (hW : WM S b ad X) (k : Nat) (hk : mArr k = true) : aAt S' (mKd k) (ad k) (mLn k) := (h.shape hW.1).2.2.1 k hk
set_option maxRecDepth 100000 in
theorem cm_serve (l : Launch) (g : jG) (hgt : Nat) {S : jS} {b : Nat} {ad : Nat → Nat} {X : XS} {link : Nat} (hW : WM S b ad X) (hI : xOK X) (hl8 : 8 ≤ link) (hl : link < 24) (hh : 1 ≤ hgt) : CT l g mX10_serve hgt 0 0 [.ref b, .int (nI link)] S (mPost b ad (x_serve X link)) := by
  refine CT_of qX10_serve (Nat.le_of_ble_eq_true rfl) ?_
  refine J_iload_n (pc := 0) dX10_serve_0 rfl rfl ?_
  refine J_bipush (pc := 1) (v := nI 20) dX10_serve_1 (by decide) ?_
  have tail : ¬ (20 ≤ link ∧ xV X 6 ((link - 20) / 2) = 1) → J l g mX10_serve hgt 0 0 (mPost b ad (x_serve X link)) 21 [(0, .ref b), (1, .int (nI link))] [] S 0 0 := by
    intro hno
    refine J_iconst (pc := 21) (v := nI 0) dX10_serve_21 (by decide) ?_
    refine J_istore_n (pc := 22) dX10_serve_22 rfl (by decide) ?_
    have hp4 : x_firstQ X link ≤ 4 := lst_le _ _
    have after : J l g mX10_serve hgt 0 0 (mPost b ad (x_serve X link)) 47 [(2, .int (nI (x_firstQ X link))), (0, .ref b), (1, .int (nI link))] [] S 0 0 := by
      refine J_iload_n (pc := 47) dX10_serve_47 rfl rfl ?_
      refine J_iconst (pc := 48) (v := nI 4) dX10_serve_48 (by decide) ?_
      refine J_icmp_neN (pc := 49) (tgt := 53) dX10_serve_49 rfl (by omega) (by omega) (fun h0 => ?_) (fun h0 => ?_)
      · have hp : x_firstQ X link < 4 := by omega
        have hne : (xL X (4 * link + x_firstQ X link)).length ≠ 0 := by
          have := lst_is (f := fun p => decide ((xL X (4 * link + p)).length ≠ 0)) (n := 4) hp
          exact of_decide_eq_true this
        have hq : 4 * link + x_firstQ X link < 96 := by omega
        obtain ⟨q8, qw, qe⟩ := hW.2.2.2.2.2.2.1 _ hq
        generalize hpp : x_firstQ X link = p at *
        obtain ⟨e, t, hl2⟩ : ∃ e t, xL X (4 * link + p) = e :: t := by
          cases hz : xL X (4 * link + p) with
          | nil => rw [hz] at hne; exact absurd rfl hne
          | cons e t => exact ⟨e, t, rfl⟩
        have he := qe 0 e (by rw [hl2]; rfl)
        rw [hl2, List.length_cons] at q8 qw
        refine J_iconst (pc := 53) (v := nI 4) dX10_serve_53 (by decide) ?_
        refine J_iload_n (pc := 54) dX10_serve_54 rfl rfl ?_
        first | refine J_imulN (pc := 55) dX10_serve_55 ?_ | refine J_imul (pc := 55) dX10_serve_55 ?_
        refine J_iload_n (pc := 56) dX10_serve_56 rfl rfl ?_
        first | refine J_iaddN (pc := 57) dX10_serve_57 ?_ | refine J_iadd (pc := 57) dX10_serve_57 ?_
        refine J_istore_n (pc := 58) dX10_serve_58 rfl (by decide) ?_
        refine J_aload_n (pc := 59) dX10_serve_59 rfl rfl ?_
        refine J_getr (pc := 60) (i := 9) cl8 hW.o (by decide) rfl (hW.r 9 rfl) kX10_28 dX10_serve_60 ?_
        refine J_bipush (pc := 63) (v := nI 8) dX10_serve_63 (by decide) ?_
        refine J_iload_n (pc := 65) dX10_serve_65 rfl rfl ?_
        first | refine J_imulN (pc := 66) dX10_serve_66 ?_ | refine J_imul (pc := 66) dX10_serve_66 ?_
        refine J_iald (pc := 67) (hW.a 9 rfl) rfl (show _ < 768 by omega) (by first | omega | exact mLn_lt _) he.1 dX10_serve_67 ?_
        refine J_istore (pc := 68) dX10_serve_68 (by decide) ?_
        refine J_aload_n (pc := 70) dX10_serve_70 rfl rfl ?_
        refine J_getr (pc := 71) (i := 10) cl8 hW.o (by decide) rfl (hW.r 10 rfl) kX10_31 dX10_serve_71 ?_
        refine J_bipush (pc := 74) (v := nI 8) dX10_serve_74 (by decide) ?_
        refine J_iload_n (pc := 76) dX10_serve_76 rfl rfl ?_
        first | refine J_imulN (pc := 77) dX10_serve_77 ?_ | refine J_imul (pc := 77) dX10_serve_77 ?_
        refine J_iald (pc := 78) (hW.a 10 rfl) rfl (show _ < 768 by omega) (by first | omega | exact mLn_lt _) he.2.1 dX10_serve_78 ?_
        refine J_istore (pc := 79) dX10_serve_79 (by decide) ?_
        refine J_aload_n (pc := 81) dX10_serve_81 rfl rfl ?_
        refine J_getr (pc := 82) (i := 11) cl8 hW.o (by decide) rfl (hW.r 11 rfl) kX10_34 dX10_serve_82 ?_
        refine J_bipush (pc := 85) (v := nI 8) dX10_serve_85 (by decide) ?_
        refine J_iload_n (pc := 87) dX10_serve_87 rfl rfl ?_
        first | refine J_imulN (pc := 88) dX10_serve_88 ?_ | refine J_imul (pc := 88) dX10_serve_88 ?_
        refine J_iald (pc := 89) (hW.a 11 rfl) rfl (show _ < 768 by omega) (by first | omega | exact mLn_lt _) he.2.2 dX10_serve_89 ?_
        refine J_istore (pc := 90) dX10_serve_90 (by decide) ?_
        refine J_aload_n (pc := 92) dX10_serve_92 rfl rfl ?_
        refine J_getr (pc := 93) (i := 8) cl8 hW.o (by decide) rfl (hW.r 8 rfl) kX10_25 dX10_serve_93 ?_
        refine J_iload_n (pc := 96) dX10_serve_96 rfl rfl ?_
        refine J_dup2_11 (pc := 97) dX10_serve_97 rfl rfl ?_
        refine J_iald (pc := 98) (hW.a 8 rfl) rfl hq (by first | omega | exact mLn_lt _) qw dX10_serve_98 ?_
        refine J_iconst (pc := 99) (v := nI 1) dX10_serve_99 (by decide) ?_
        first | refine J_isubN (pc := 100) dX10_serve_100 (by omega) ?_ | refine J_isub (pc := 100) dX10_serve_100 ?_
        refine J_iast (pc := 101) (hW.a 8 rfl) rfl hq (by first | omega | exact mLn_lt _) dX10_serve_101 ?_
        refine J_bipush (pc := 102) (v := nI 8) dX10_serve_102 (by decide) ?_
        refine J_iload_n (pc := 104) dX10_serve_104 rfl rfl ?_
        first | refine J_imulN (pc := 105) dX10_serve_105 ?_ | refine J_imul (pc := 105) dX10_serve_105 ?_
        refine J_istore (pc := 106) dX10_serve_106 (by decide) ?_
        have sloop : ∀ j, j ≤ t.length → ∀ S2, mOnly ad mLs S S2 → (∀ k, mArr k = true → k ≠ 8 → k ≠ 9 → k ≠ 10 → k ≠ 11 → sI S2 9 (ad k) = sI S 9 (ad k)) → sI S2 9 (ad 8) = upd (sI S 9 (ad 8)) (4 * link + p) (nI t.length) → sI S2 9 (ad 9) = shf (sI S 9 (ad 9)) (8 * (4 * link + p)) j → sI S2 9 (ad 10) = shf (sI S 9 (ad 10)) (8 * (4 * link + p)) j → sI S2 9 (ad 11) = shf (sI S 9 (ad 11)) (8 * (4 * link + p)) j → J l g mX10_serve hgt 0 0 (mPost b ad (x_serve X link)) 108 [(7, .int (nI (8 * (4 * link + p) + j))), (6, .int (nI e.2.2)), (5, .int (nI e.2.1)), (4, .int (nI e.1)), (3, .int (nI (4 * link + p))), (2, .int (nI p)), (0, .ref b), (1, .int (nI link))] [] S2 0 0 := by
          refine down _ ?_ ?_
          · intro S2 hO e0 ew ek ea ec
            have hw2 : sI S2 9 (ad 8) (4 * link + p) = nI t.length := by rw [ew]; simp [upd]
            refine J_iload (pc := 108) dX10_serve_108 rfl ?_
            refine J_bipush (pc := 110) (v := nI 8) dX10_serve_110 (by decide) ?_
            refine J_iload_n (pc := 112) dX10_serve_112 rfl rfl ?_
            first | refine J_imulN (pc := 113) dX10_serve_113 ?_ | refine J_imul (pc := 113) dX10_serve_113 ?_
            refine J_aload_n (pc := 114) dX10_serve_114 rfl rfl ?_
            refine J_getr (pc := 115) (i := 8) cl8 (hO.o hW) (by decide) rfl (hO.r hW 8 rfl) kX10_25 dX10_serve_115 ?_
            refine J_iload_n (pc := 118) dX10_serve_118 rfl rfl ?_
            refine J_iald (pc := 119) (hO.a hW 8 rfl) rfl hq (by first | omega | exact mLn_lt _) hw2 dX10_serve_119 ?_
            first | refine J_iaddN (pc := 120) dX10_serve_120 ?_ | refine J_iadd (pc := 120) dX10_serve_120 ?_
            refine J_icmp_geN (pc := 121) (tgt := 178) dX10_serve_121 rfl (by omega) (by omega) (fun h2 => ?_) (fun h2 => ?_)
            · have hW2 := hW.wQ0 _ hq hl2 hO e0 ew ek ea ec
              refine J_aload_n (pc := 178) dX10_serve_178 rfl rfl ?_
              refine J_iload_n (pc := 179) dX10_serve_179 rfl rfl ?_
              refine J_iload (pc := 180) dX10_serve_180 rfl ?_
              refine J_iload (pc := 182) dX10_serve_182 rfl ?_
              refine J_iload (pc := 184) dX10_serve_184 rfl ?_
              refine J_iload_n (pc := 186) dX10_serve_186 rfl rfl ?_
              refine J_callV (pc := 187) (cm_enter l g (hgt - 1) (k := e.1) (m := e.2.1) (c := e.2.2) (p := p) hW2 (by rw [xV_yL]; exact (hI.link hl).1) hl) qX10_enter vX10_enter cl8 rfl hW2.o kX10_166 dX10_serve_187 rfl rfl (Nat.le_of_ble_eq_true rfl) (by omega) (by omega) (by omega) ?_
              rintro _ _ ⟨rfl, hW⟩
              refine J_vret (pc := 190) dX10_serve_190 rfl (by omega) (by omega) ?_
              refine ⟨rfl, ?_⟩
              rw [x_serve, if_neg hno, hpp, hl2]
              show WM _ b ad (if p = 4 then _ else _)
              rw [if_neg h0]
              exact hW
            · omega
          · intro j hj ih S2 hO e0 ew ek ea ec
            have n1 := hW.ne (k := 9) (k' := 8) rfl rfl (by decide)
            have n2 := hW.ne (k := 10) (k' := 8) rfl rfl (by decide)
            have n3 := hW.ne (k := 11) (k' := 8) rfl rfl (by decide)
            have n4 := hW.ne (k := 9) (k' := 10) rfl rfl (by decide)
            have n5 := hW.ne (k := 9) (k' := 11) rfl rfl (by decide)
            have n6 := hW.ne (k := 10) (k' := 11) rfl rfl (by decide)
            have hw2 : sI S2 9 (ad 8) (4 * link + p) = nI t.length := by rw [ew]; simp [upd]
            refine J_iload (pc := 108) dX10_serve_108 rfl ?_
            refine J_bipush (pc := 110) (v := nI 8) dX10_serve_110 (by decide) ?_
            refine J_iload_n (pc := 112) dX10_serve_112 rfl rfl ?_
            first | refine J_imulN (pc := 113) dX10_serve_113 ?_ | refine J_imul (pc := 113) dX10_serve_113 ?_
            refine J_aload_n (pc := 114) dX10_serve_114 rfl rfl ?_
            refine J_getr (pc := 115) (i := 8) cl8 (hO.o hW) (by decide) rfl (hO.r hW 8 rfl) kX10_25 dX10_serve_115 ?_
            refine J_iload_n (pc := 118) dX10_serve_118 rfl rfl ?_
            refine J_iald (pc := 119) (hO.a hW 8 rfl) rfl hq (by first | omega | exact mLn_lt _) hw2 dX10_serve_119 ?_
            first | refine J_iaddN (pc := 120) dX10_serve_120 ?_ | refine J_iadd (pc := 120) dX10_serve_120 ?_
            refine J_icmp_geN (pc := 121) (tgt := 178) dX10_serve_121 rfl (by omega) (by omega) (fun h2 => ?_) (fun h2 => ?_)
            · omega
            · refine J_aload_n (pc := 124) dX10_serve_124 rfl rfl ?_
              refine J_getr (pc := 125) (i := 9) cl8 (hO.o hW) (by decide) rfl (hO.r hW 9 rfl) kX10_28 dX10_serve_125 ?_
              refine J_iload (pc := 128) dX10_serve_128 rfl ?_
              refine J_aload_n (pc := 130) dX10_serve_130 rfl rfl ?_
              refine J_getr (pc := 131) (i := 9) cl8 (hO.o hW) (by decide) rfl (hO.r hW 9 rfl) kX10_28 dX10_serve_131 ?_
              refine J_iload (pc := 134) dX10_serve_134 rfl ?_
              refine J_iconst (pc := 136) (v := nI 1) dX10_serve_136 (by decide) ?_
              first | refine J_iaddN (pc := 137) dX10_serve_137 ?_ | refine J_iadd (pc := 137) dX10_serve_137 ?_
              refine J_iald (pc := 138) (hO.a hW 9 rfl) rfl (show _ < 768 by omega) (by first | omega | exact mLn_lt _) (congrFun ek _) dX10_serve_138 ?_
              refine J_iast (pc := 139) (hO.a hW 9 rfl) rfl (show _ < 768 by omega) (by first | omega | exact mLn_lt _) dX10_serve_139 ?_
              refine J_aload_n (pc := 140) dX10_serve_140 rfl rfl ?_
              refine J_getr (pc := 141) (i := 10) cl8 (hO.o hW) (by decide) rfl (hO.r hW 10 rfl) kX10_31 dX10_serve_141 ?_
              refine J_iload (pc := 144) dX10_serve_144 rfl ?_
              refine J_aload_n (pc := 146) dX10_serve_146 rfl rfl ?_
              refine J_getr (pc := 147) (i := 10) cl8 (hO.o hW) (by decide) rfl (hO.r hW 10 rfl) kX10_31 dX10_serve_147 ?_
              refine J_iload (pc := 150) dX10_serve_150 rfl ?_
              refine J_iconst (pc := 152) (v := nI 1) dX10_serve_152 (by decide) ?_
              first | refine J_iaddN (pc := 153) dX10_serve_153 ?_ | refine J_iadd (pc := 153) dX10_serve_153 ?_
              refine J_iald (pc := 154) (hO.a hW 10 rfl) rfl (show _ < 768 by omega) (by first | omega | exact mLn_lt _) ((congrFun (sl_a n4.symm) _).trans (congrFun ea _)) dX10_serve_154 ?_
              refine J_iast (pc := 155) (hO.a hW 10 rfl) rfl (show _ < 768 by omega) (by first | omega | exact mLn_lt _) dX10_serve_155 ?_
              refine J_aload_n (pc := 156) dX10_serve_156 rfl rfl ?_
              refine J_getr (pc := 157) (i := 11) cl8 (hO.o hW) (by decide) rfl (hO.r hW 11 rfl) kX10_34 dX10_serve_157 ?_
              refine J_iload (pc := 160) dX10_serve_160 rfl ?_
              refine J_aload_n (pc := 162) dX10_serve_162 rfl rfl ?_
              refine J_getr (pc := 163) (i := 11) cl8 (hO.o hW) (by decide) rfl (hO.r hW 11 rfl) kX10_34 dX10_serve_163 ?_
              refine J_iload (pc := 166) dX10_serve_166 rfl ?_
              refine J_iconst (pc := 168) (v := nI 1) dX10_serve_168 (by decide) ?_
              first | refine J_iaddN (pc := 169) dX10_serve_169 ?_ | refine J_iadd (pc := 169) dX10_serve_169 ?_
              refine J_iald (pc := 170) (hO.a hW 11 rfl) rfl (show _ < 768 by omega) (by first | omega | exact mLn_lt _) ((congrFun (sl_a n6.symm) _).trans ((congrFun (sl_a n5.symm) _).trans (congrFun ec _))) dX10_serve_170 ?_
              refine J_iast (pc := 171) (hO.a hW 11 rfl) rfl (show _ < 768 by omega) (by first | omega | exact mLn_lt _) dX10_serve_171 ?_
              refine J_iinc (pc := 172) dX10_serve_172 rfl (inc1 _) (by decide) ?_
              refine J_goto (pc := 175) (tgt := 108) dX10_serve_175 rfl ?_
              refine J_lvk (ih _ (((hO.wr hW rfl (by decide)).wr hW rfl (by decide)).wr hW rfl (by decide)) ?_ ?_ ?_ ?_ ?_) ⟨rfl, rfl, rfl, rfl, rfl, rfl, rfl, rfl, trivial⟩
              · intro k hk k8 k9 ka kb
                rw [sl_a (hW.ne hk rfl kb), sl_a (hW.ne hk rfl ka), sl_a (hW.ne hk rfl k9)]
                exact e0 k hk k8 k9 ka kb
              · rw [sl_a n3.symm, sl_a n2.symm, sl_a n1.symm]
                exact ew
              · rw [sl_a n5, sl_a n4, sl_s, ek, shf_s]
              · rw [sl_a n6, sl_s, sl_a n4.symm, ea, shf_s]
              · rw [sl_s, sl_a n6.symm, sl_a n5.symm, ec, shf_s]
        refine J_lvk (sloop 0 (Nat.zero_le _) _ (mOnly.rf.wr hW rfl (by decide)) ?_ sl_s ?_ ?_ ?_) ⟨rfl, rfl, rfl, rfl, rfl, rfl, rfl, rfl, trivial⟩
        · intro k hk k8 k9 ka kb
          exact sl_a (hW.ne hk rfl k8)
        · rw [shf_0]; exact sl_a (hW.ne rfl rfl (by decide))
        · rw [shf_0]; exact sl_a (hW.ne rfl rfl (by decide))
        · rw [shf_0]; exact sl_a (hW.ne rfl rfl (by decide))
      · refine J_vret (pc := 52) dX10_serve_52 rfl (by omega) (by omega) ?_
        refine ⟨rfl, ?_⟩
        rw [x_serve, if_neg hno, h0]
        split
        · exact hW
        · rw [if_pos rfl]; exact hW
    have loop : ∀ i, i ≤ x_firstQ X link → J l g mX10_serve hgt 0 0 (mPost b ad (x_serve X link)) 23 [(2, .int (nI i)), (0, .ref b), (1, .int (nI link))] [] S 0 0 := by
      refine down _ ?_ ?_
      · refine J_iload_n (pc := 23) dX10_serve_23 rfl rfl ?_
        refine J_iconst (pc := 24) (v := nI 4) dX10_serve_24 (by decide) ?_
        refine J_icmp_geN (pc := 25) (tgt := 47) dX10_serve_25 rfl (by omega) (by omega) (fun h0 => ?_) (fun h0 => ?_)
        · exact after
        · have hp : x_firstQ X link < 4 := by omega
          obtain ⟨q8, qw, qe⟩ := hW.2.2.2.2.2.2.1 (4 * link + x_firstQ X link) (by omega)
          refine J_aload_n (pc := 28) dX10_serve_28 rfl rfl ?_
          refine J_getr (pc := 29) (i := 8) cl8 hW.o (by decide) rfl (hW.r 8 rfl) kX10_25 dX10_serve_29 ?_
          refine J_iconst (pc := 32) (v := nI 4) dX10_serve_32 (by decide) ?_
          refine J_iload_n (pc := 33) dX10_serve_33 rfl rfl ?_
          first | refine J_imulN (pc := 34) dX10_serve_34 ?_ | refine J_imul (pc := 34) dX10_serve_34 ?_
          refine J_iload_n (pc := 35) dX10_serve_35 rfl rfl ?_
          first | refine J_iaddN (pc := 36) dX10_serve_36 ?_ | refine J_iadd (pc := 36) dX10_serve_36 ?_
          refine J_iald (pc := 37) (hW.a 8 rfl) rfl (show _ < 96 by omega) (by first | omega | exact mLn_lt _) qw dX10_serve_37 ?_
          refine J_if_neN (pc := 38) (tgt := 47) dX10_serve_38 rfl (by omega) (fun h1 => ?_) (fun h1 => ?_)
          · exact after
          · have := lst_is (f := fun p => decide ((xL X (4 * link + p)).length ≠ 0)) (n := 4) hp
            exact absurd h1 (of_decide_eq_true this)
      · intro i hi ih
        obtain ⟨q8, qw, qe⟩ := hW.2.2.2.2.2.2.1 (4 * link + i) (by omega)
        refine J_iload_n (pc := 23) dX10_serve_23 rfl rfl ?_
        refine J_iconst (pc := 24) (v := nI 4) dX10_serve_24 (by decide) ?_
        refine J_icmp_geN (pc := 25) (tgt := 47) dX10_serve_25 rfl (by omega) (by omega) (fun h0 => ?_) (fun h0 => ?_)
        · omega
        · refine J_aload_n (pc := 28) dX10_serve_28 rfl rfl ?_
          refine J_getr (pc := 29) (i := 8) cl8 hW.o (by decide) rfl (hW.r 8 rfl) kX10_25 dX10_serve_29 ?_
          refine J_iconst (pc := 32) (v := nI 4) dX10_serve_32 (by decide) ?_
          refine J_iload_n (pc := 33) dX10_serve_33 rfl rfl ?_
          first | refine J_imulN (pc := 34) dX10_serve_34 ?_ | refine J_imul (pc := 34) dX10_serve_34 ?_
          refine J_iload_n (pc := 35) dX10_serve_35 rfl rfl ?_
          first | refine J_iaddN (pc := 36) dX10_serve_36 ?_ | refine J_iadd (pc := 36) dX10_serve_36 ?_
          refine J_iald (pc := 37) (hW.a 8 rfl) rfl (show _ < 96 by omega) (by first | omega | exact mLn_lt _) qw dX10_serve_37 ?_
          refine J_if_neN (pc := 38) (tgt := 47) dX10_serve_38 rfl (by omega) (fun h1 => ?_) (fun h1 => ?_)
          · have := lst_no (f := fun p => decide ((xL X (4 * link + p)).length ≠ 0)) (n := 4) hi
            exact absurd h1 (fun z => of_decide_eq_false this z)
          · refine J_iinc (pc := 41) dX10_serve_41 rfl (inc1 _) (by decide) ?_
            refine J_goto (pc := 44) (tgt := 23) dX10_serve_44 rfl ?_
            exact J_lvk ih ⟨rfl, rfl, rfl, trivial⟩
    exact J_lvk (loop 0 (Nat.zero_le _)) ⟨rfl, rfl, rfl, trivial⟩
  refine J_icmp_ltN (pc := 3) (tgt := 21) dX10_serve_3 rfl (by omega) (by omega) (fun h0 => ?_) (fun h0 => ?_)
  · exact J_lvk (tail (by omega)) ⟨rfl, rfl, trivial⟩
  · have hs := hI.sp (s := (link - 20) / 2) (by omega)
    refine J_aload_n (pc := 6) dX10_serve_6 rfl rfl ?_
    refine J_getr (pc := 7) (i := 12) cl8 hW.o (by decide) rfl (hW.r 12 rfl) kX10_37 dX10_serve_7 ?_
    refine J_iload_n (pc := 10) dX10_serve_10 rfl rfl ?_
    refine J_bipush (pc := 11) (v := nI 20) dX10_serve_11 (by decide) ?_
    first | refine J_isubN (pc := 13) dX10_serve_13 (by omega) ?_ | refine J_isub (pc := 13) dX10_serve_13 ?_
    refine J_iconst (pc := 14) (v := nI 2) dX10_serve_14 (by decide) ?_
    first | refine J_idivN (pc := 15) dX10_serve_15 (by omega) (by omega) (by omega) ?_ | refine J_idiv (pc := 15) dX10_serve_15 (by decide) ?_
    refine J_zald (pc := 16) (hW.a 12 rfl) rfl (show _ < 2 by omega) (by first | omega | exact mLn_lt _) (hW.2.2.2.1 _ (by omega)) dX10_serve_16 ?_
    refine J_if_eqN (pc := 17) (tgt := 21) dX10_serve_17 rfl (by omega) (fun h1 => ?_) (fun h1 => ?_)
    · exact J_lvk (tail (by omega)) ⟨rfl, rfl, trivial⟩
    · refine J_vret (pc := 20) dX10_serve_20 rfl (by omega) (by omega) ?_
      exact ⟨rfl, by rw [x_serve, if_pos (by omega)]; exact hW⟩
end
section
set_option maxRecDepth 100000 in
theorem cm_arrive (l : Launch) (g : jG) (hgt : Nat) {S : jS} {b : Nat} {ad : Nat → Nat} {X : XS} {link : Nat} {e : Nat × Nat × Nat} {t : List (Nat × Nat × Nat)} (hW : WM S b ad X) (hI : xOK X) (hF : ∀ h, h < 8 → xV X 30 h < 2 ^ 31) (hl : link < 24) (he : xL X (200 + link) = e :: t) (hh : 2 ≤ hgt) : CT l g mX10_arrive hgt 0 0 [.ref b, .int (nI link)] S (mPost b ad (x_arrive X link)) := by
  obtain ⟨v1, v2, v3⟩ := (hW.2.2.2.2.2.1 link hl).2 e t he
  obtain ⟨o1, o2, o3, o4, -⟩ := hI.list.1 (200 + link) e (by rw [he]; exact List.mem_cons_self)
  have h48 := hI.many
  have hm : e.2.1 < 48 := by omega
  have h1 := hI.msg hm
  have hp := (hI.link hl).2
  have hI2 : xOK (yL X (200 + link) []) := hI.clrL _
  have fin : x_arrive X link = (if link < 8 then x_atLeaf (yL X (200 + link) []) (link / 4) e (xV X 5 link)
    else if 20 ≤ link then x_atLeaf (yL X (200 + link) []) ((link - 20) % 2) e (xV X 5 link)
    else if 4 ≤ (link - 8) % 6 then
      (if xV X 6 ((link - 8) % 6 - 4) = 1 then x_drop (yL X (200 + link) []) else x_line (yL X (200 + link) []) (20 + 2 * ((link - 8) % 6 - 4) + x_goal X e.1 e.2.1 / 4) e (xV X 5 link))
    else if e.1 = 0 then x_data (yL X (200 + link) []) e.2.1 e.2.2
    else x_answer (yL X (200 + link) []) e.1 e.2.1 e.2.2) := by
    rw [x_arrive, he]
  refine CT_of qX10_arrive (Nat.le_of_ble_eq_true rfl) ?_
  refine J_aload_n (pc := 0) dX10_arrive_0 rfl rfl ?_
  refine J_getr (pc := 1) (i := 3) cl8 hW.o (by decide) rfl (hW.r 3 rfl) kX10_7 dX10_arrive_1 ?_
  refine J_iload_n (pc := 4) dX10_arrive_4 rfl rfl ?_
  refine J_iald (pc := 5) (hW.a 3 rfl) rfl hl (by first | omega | exact mLn_lt _) v1 dX10_arrive_5 ?_
  refine J_istore_n (pc := 6) dX10_arrive_6 rfl (by decide) ?_
  refine J_aload_n (pc := 7) dX10_arrive_7 rfl rfl ?_
  refine J_getr (pc := 8) (i := 4) cl8 hW.o (by decide) rfl (hW.r 4 rfl) kX10_13 dX10_arrive_8 ?_
  refine J_iload_n (pc := 11) dX10_arrive_11 rfl rfl ?_
  refine J_iald (pc := 12) (hW.a 4 rfl) rfl hl (by first | omega | exact mLn_lt _) v2 dX10_arrive_12 ?_
  refine J_istore_n (pc := 13) dX10_arrive_13 rfl (by decide) ?_
  refine J_aload_n (pc := 14) dX10_arrive_14 rfl rfl ?_
  refine J_getr (pc := 15) (i := 5) cl8 hW.o (by decide) rfl (hW.r 5 rfl) kX10_16 dX10_arrive_15 ?_
  refine J_iload_n (pc := 18) dX10_arrive_18 rfl rfl ?_
  refine J_iald (pc := 19) (hW.a 5 rfl) rfl hl (by first | omega | exact mLn_lt _) v3 dX10_arrive_19 ?_
  refine J_istore (pc := 20) dX10_arrive_20 (by decide) ?_
  refine J_aload_n (pc := 22) dX10_arrive_22 rfl rfl ?_
  refine J_getr (pc := 23) (i := 6) cl8 hW.o (by decide) rfl (hW.r 6 rfl) kX10_19 dX10_arrive_23 ?_
  refine J_iload_n (pc := 26) dX10_arrive_26 rfl rfl ?_
  refine J_mld (pc := 27) hW 5 rfl rfl (by show _ < 24; omega) dX10_arrive_27 ?_
  refine J_istore (pc := 28) dX10_arrive_28 (by decide) ?_
  refine J_aload_n (pc := 30) dX10_arrive_30 rfl rfl ?_
  refine J_getr (pc := 31) (i := 3) cl8 hW.o (by decide) rfl (hW.r 3 rfl) kX10_7 dX10_arrive_31 ?_
  refine J_iload_n (pc := 34) dX10_arrive_34 rfl rfl ?_
  refine J_iconst (pc := 35) (v := (-1)) dX10_arrive_35 (by decide) ?_
  refine J_iast (pc := 36) (hW.a 3 rfl) rfl hl (by first | omega | exact mLn_lt _) dX10_arrive_36 ?_
  have hW := hW.wL0 link
  refine J_iload_n (pc := 37) dX10_arrive_37 rfl rfl ?_
  refine J_bipush (pc := 38) (v := nI 8) dX10_arrive_38 (by decide) ?_
  refine J_icmp_geN (pc := 40) (tgt := 59) dX10_arrive_40 rfl (by omega) (by omega) (fun c1 => ?_) (fun c1 => ?_)
  · refine J_iload_n (pc := 59) dX10_arrive_59 rfl rfl ?_
    refine J_bipush (pc := 60) (v := nI 20) dX10_arrive_60 (by decide) ?_
    refine J_icmp_ltN (pc := 62) (tgt := 84) dX10_arrive_62 rfl (by omega) (by omega) (fun c2 => ?_) (fun c2 => ?_)
    · refine J_iload_n (pc := 84) dX10_arrive_84 rfl rfl ?_
      refine J_bipush (pc := 85) (v := nI 8) dX10_arrive_85 (by decide) ?_
      first | refine J_isubN (pc := 87) dX10_arrive_87 (by omega) ?_ | refine J_isub (pc := 87) dX10_arrive_87 ?_
      refine J_bipush (pc := 88) (v := nI 6) dX10_arrive_88 (by decide) ?_
      first | refine J_iremN (pc := 90) dX10_arrive_90 (by omega) (by omega) (by omega) ?_ | refine J_irem (pc := 90) dX10_arrive_90 (by decide) ?_
      refine J_iconst (pc := 91) (v := nI 4) dX10_arrive_91 (by decide) ?_
      refine J_icmp_ltN (pc := 92) (tgt := 158) dX10_arrive_92 rfl (by omega) (by omega) (fun c3 => ?_) (fun c3 => ?_)
      · rw [if_neg (by omega), if_neg (by omega), if_neg (by omega)] at fin
        refine J_iload_n (pc := 158) dX10_arrive_158 rfl rfl ?_
        refine J_if_neN (pc := 159) (tgt := 172) dX10_arrive_159 rfl (by omega) (fun c4 => ?_) (fun c4 => ?_)
        · rw [if_neg c4] at fin
          refine J_aload_n (pc := 172) dX10_arrive_172 rfl rfl ?_
          refine J_iload_n (pc := 173) dX10_arrive_173 rfl rfl ?_
          refine J_iload_n (pc := 174) dX10_arrive_174 rfl rfl ?_
          refine J_iload (pc := 175) dX10_arrive_175 rfl ?_
          refine J_callV (pc := 177) (cm_answer l g (hgt - 1) hW hI2 hm o1 o3 (by omega)) qX10_answer vX10_answer cl8 rfl hW.o kX10_162 dX10_arrive_177 rfl rfl (Nat.le_of_ble_eq_true rfl) (by omega) (by omega) (by omega) ?_
          rintro _ _ ⟨rfl, hW⟩
          refine J_vret (pc := 180) dX10_arrive_180 rfl (by omega) (by omega) ?_
          exact ⟨rfl, by rw [fin]; exact hW⟩
        · rw [if_pos c4] at fin
          refine J_aload_n (pc := 162) dX10_arrive_162 rfl rfl ?_
          refine J_iload_n (pc := 163) dX10_arrive_163 rfl rfl ?_
          refine J_iload (pc := 164) dX10_arrive_164 rfl ?_
          refine J_callV (pc := 166) (cm_data l g (hgt - 1) hW hI2 hm (by have := o4 c4; omega) (hF _ h1.1.2.1) (by omega)) qX10_data vX10_data cl8 rfl hW.o kX10_158 dX10_arrive_166 rfl rfl (Nat.le_of_ble_eq_true rfl) (by omega) (by omega) (by omega) ?_
          rintro _ _ ⟨rfl, hW⟩
          refine J_goto (pc := 169) (tgt := 180) dX10_arrive_169 rfl ?_
          refine J_vret (pc := 180) dX10_arrive_180 rfl (by omega) (by omega) ?_
          exact ⟨rfl, by rw [fin]; exact hW⟩
      · rw [if_neg (by omega), if_neg (by omega), if_pos (by omega)] at fin
        have hs := hI.sp (s := (link - 8) % 6 - 4) (by omega)
        refine J_iload_n (pc := 95) dX10_arrive_95 rfl rfl ?_
        refine J_bipush (pc := 96) (v := nI 8) dX10_arrive_96 (by decide) ?_
        first | refine J_isubN (pc := 98) dX10_arrive_98 (by omega) ?_ | refine J_isub (pc := 98) dX10_arrive_98 ?_
        refine J_bipush (pc := 99) (v := nI 6) dX10_arrive_99 (by decide) ?_
        first | refine J_iremN (pc := 101) dX10_arrive_101 (by omega) (by omega) (by omega) ?_ | refine J_irem (pc := 101) dX10_arrive_101 (by decide) ?_
        refine J_iconst (pc := 102) (v := nI 4) dX10_arrive_102 (by decide) ?_
        first | refine J_isubN (pc := 103) dX10_arrive_103 (by omega) ?_ | refine J_isub (pc := 103) dX10_arrive_103 ?_
        refine J_istore (pc := 104) dX10_arrive_104 (by decide) ?_
        refine J_aload_n (pc := 106) dX10_arrive_106 rfl rfl ?_
        refine J_getr (pc := 107) (i := 12) cl8 hW.o (by decide) rfl (hW.r 12 rfl) kX10_37 dX10_arrive_107 ?_
        refine J_iload (pc := 110) dX10_arrive_110 rfl ?_
        refine J_zald (pc := 112) (hW.a 12 rfl) rfl (show _ < 2 by omega) (by first | omega | exact mLn_lt _) (hW.2.2.2.1 _ (by omega)) dX10_arrive_112 ?_
        simp only [xV_yV, xV_yL, xV_yB, xV_yC, xL_yV, xL_yL, xL_yB, xL_yC, xB_yV, xB_yL, xB_yB, xB_yC, true_and, and_true, and_self, false_and, and_false, reduceIte, Nat.reduceEqDiff, if_true, if_false, reduceCtorEq] 
        refine J_if_eqN (pc := 113) (tgt := 129) dX10_arrive_113 rfl (by omega) (fun c4 => ?_) (fun c4 => ?_)
        · rw [if_neg (by omega)] at fin
          have hg : x_goal X e.1 e.2.1 < 8 := by unfold x_goal; split <;> omega
          refine J_aload_n (pc := 129) dX10_arrive_129 rfl rfl ?_
          refine J_bipush (pc := 130) (v := nI 20) dX10_arrive_130 (by decide) ?_
          refine J_iconst (pc := 132) (v := nI 2) dX10_arrive_132 (by decide) ?_
          refine J_iload (pc := 133) dX10_arrive_133 rfl ?_
          first | refine J_imulN (pc := 135) dX10_arrive_135 ?_ | refine J_imul (pc := 135) dX10_arrive_135 ?_
          first | refine J_iaddN (pc := 136) dX10_arrive_136 ?_ | refine J_iadd (pc := 136) dX10_arrive_136 ?_
          refine J_aload_n (pc := 137) dX10_arrive_137 rfl rfl ?_
          refine J_iload_n (pc := 138) dX10_arrive_138 rfl rfl ?_
          refine J_iload_n (pc := 139) dX10_arrive_139 rfl rfl ?_
          refine J_callV (pc := 140) (cm_goal l g (hgt - 1) hW o1 hm) qX10_goal vX10_goal cl8 rfl hW.o kX10_147 dX10_arrive_140 rfl rfl (Nat.le_of_ble_eq_true rfl) (by omega) (by omega) (by omega) ?_
          rintro _ _ ⟨rfl, rfl⟩
          rw [show x_goal (yL X (200 + link) []) e.1 e.2.1 = x_goal X e.1 e.2.1 from rfl]
          refine J_iconst (pc := 143) (v := nI 4) dX10_arrive_143 (by decide) ?_
          first | refine J_idivN (pc := 144) dX10_arrive_144 (by omega) (by omega) (by omega) ?_ | refine J_idiv (pc := 144) dX10_arrive_144 (by decide) ?_
          first | refine J_iaddN (pc := 145) dX10_arrive_145 ?_ | refine J_iadd (pc := 145) dX10_arrive_145 ?_
          refine J_iload_n (pc := 146) dX10_arrive_146 rfl rfl ?_
          refine J_iload_n (pc := 147) dX10_arrive_147 rfl rfl ?_
          refine J_iload (pc := 148) dX10_arrive_148 rfl ?_
          refine J_iload (pc := 150) dX10_arrive_150 rfl ?_
          refine J_callV (pc := 152) (cm_line l g (hgt - 1) (k := e.1) (m := e.2.1) (c := e.2.2) (p := xV X 5 link) hW (show 20 + 2 * ((link - 8) % 6 - 4) + x_goal X e.1 e.2.1 / 4 < 24 by omega) (by omega)) qX10_line vX10_line cl8 rfl hW.o kX10_151 dX10_arrive_152 rfl rfl (Nat.le_of_ble_eq_true rfl) (by omega) (by omega) (by omega) ?_
          rintro _ _ ⟨rfl, hW⟩
          refine J_goto (pc := 155) (tgt := 180) dX10_arrive_155 rfl ?_
          refine J_vret (pc := 180) dX10_arrive_180 rfl (by omega) (by omega) ?_
          exact ⟨rfl, by rw [fin]; exact hW⟩
        · rw [if_pos (by omega)] at fin
          refine J_aload_n (pc := 116) dX10_arrive_116 rfl rfl ?_
          refine J_dup (pc := 117) dX10_arrive_117 rfl ?_
          refine J_geti (pc := 118) (i := 14) cl8 hW.o (by decide) rfl hW.2.2.1.2.2.1 kX10_144 dX10_arrive_118 ?_
          refine J_iconst (pc := 121) (v := nI 1) dX10_arrive_121 (by decide) ?_
          first | refine J_iaddN (pc := 122) dX10_arrive_122 ?_ | refine J_iadd (pc := 122) dX10_arrive_122 ?_
          refine J_mss (pc := 123) hW 14 2 (by decide) rfl kX10_144 dX10_arrive_123 (fun hW => ?_)
          refine J_goto (pc := 126) (tgt := 155) dX10_arrive_126 rfl ?_
          refine J_goto (pc := 155) (tgt := 180) dX10_arrive_155 rfl ?_
          refine J_vret (pc := 180) dX10_arrive_180 rfl (by omega) (by omega) ?_
          exact ⟨rfl, by rw [fin]; exact hW⟩
    · rw [if_neg (by omega), if_pos (by omega)] at fin
      refine J_aload_n (pc := 65) dX10_arrive_65 rfl rfl ?_
      refine J_iload_n (pc := 66) dX10_arrive_66 rfl rfl ?_
      refine J_bipush (pc := 67) (v := nI 20) dX10_arrive_67 (by decide) ?_
      first | refine J_isubN (pc := 69) dX10_arrive_69 (by omega) ?_ | refine J_isub (pc := 69) dX10_arrive_69 ?_
      refine J_iconst (pc := 70) (v := nI 2) dX10_arrive_70 (by decide) ?_
      first | refine J_iremN (pc := 71) dX10_arrive_71 (by omega) (by omega) (by omega) ?_ | refine J_irem (pc := 71) dX10_arrive_71 (by decide) ?_
      refine J_iload_n (pc := 72) dX10_arrive_72 rfl rfl ?_
      refine J_iload_n (pc := 73) dX10_arrive_73 rfl rfl ?_
      refine J_iload (pc := 74) dX10_arrive_74 rfl ?_
      refine J_iload (pc := 76) dX10_arrive_76 rfl ?_
      refine J_callV (pc := 78) (cm_atLeaf l g (hgt - 1) (c := e.2.2) (p := xV X 5 link) hW hI2 (show (link - 20) % 2 < 2 by omega) o1 hm (by omega) (by omega)) qX10_atLeaf vX10_atLeaf cl8 rfl hW.o kX10_155 dX10_arrive_78 rfl rfl (Nat.le_of_ble_eq_true rfl) (by omega) (by omega) (by omega) ?_
      rintro _ _ ⟨rfl, hW⟩
      refine J_goto (pc := 81) (tgt := 180) dX10_arrive_81 rfl ?_
      refine J_vret (pc := 180) dX10_arrive_180 rfl (by omega) (by omega) ?_
      exact ⟨rfl, by rw [fin]; exact hW⟩
  · rw [if_pos (by omega)] at fin
    refine J_aload_n (pc := 43) dX10_arrive_43 rfl rfl ?_
    refine J_iload_n (pc := 44) dX10_arrive_44 rfl rfl ?_
    refine J_iconst (pc := 45) (v := nI 4) dX10_arrive_45 (by decide) ?_
    first | refine J_idivN (pc := 46) dX10_arrive_46 (by omega) (by omega) (by omega) ?_ | refine J_idiv (pc := 46) dX10_arrive_46 (by decide) ?_
    refine J_iload_n (pc := 47) dX10_arrive_47 rfl rfl ?_
    refine J_iload_n (pc := 48) dX10_arrive_48 rfl rfl ?_
    refine J_iload (pc := 49) dX10_arrive_49 rfl ?_
    refine J_iload (pc := 51) dX10_arrive_51 rfl ?_
    refine J_callV (pc := 53) (cm_atLeaf l g (hgt - 1) (c := e.2.2) (p := xV X 5 link) hW hI2 (show link / 4 < 2 by omega) o1 hm (by omega) (by omega)) qX10_atLeaf vX10_atLeaf cl8 rfl hW.o kX10_155 dX10_arrive_53 rfl rfl (Nat.le_of_ble_eq_true rfl) (by omega) (by omega) (by omega) ?_
    rintro _ _ ⟨rfl, hW⟩
    refine J_goto (pc := 56) (tgt := 180) dX10_arrive_56 rfl ?_
    refine J_vret (pc := 180) dX10_arrive_180 rfl (by omega) (by omega) ?_
    exact ⟨rfl, by rw [fin]; exact hW⟩
end
section
def oI (o : Option Nat) : Int32 := match o with
  | none => -1
  | some x => nI x
theorem oI_m1 {o : Option Nat} (h : ∀ x, o = some x → x < 2 ^ 31) : oI o = -1 ↔ o = none := by
  cases o with
  | none => exact ⟨fun _ => rfl, fun _ => rfl⟩
  | some x =>
    refine ⟨fun z => ?_, fun z => by cases z⟩
    have h1 : (nI x).toInt = x := nI_toInt (h x rfl)
    have h2 : (nI x).toInt = -1 := by
      rw [show nI x = -1 from z]
      rfl
    omega
theorem x_best_lt {X : XS} {h : Nat} : ∀ {n x : Nat}, x_best X h n = some x → x < n
  | 0, x, e => by cases e
  | n + 1, x, e => by
    unfold x_best at e
    split at e
    · cases e
      omega
    · have := x_best_lt e
      omega
theorem x_picks_stop {X : XS} {h k : Nat} (hn : x_best (x_picks X h k) h (xV X 1 0) = none) : ∀ d, x_picks X h (k + d) = x_picks X h k
  | 0 => rfl
  | d + 1 => by
    have ih := x_picks_stop hn d
    show (match x_best (x_picks X h (k + d)) h (xV X 1 0) with
      | none => x_picks X h (k + d)
      | some m => x_pick (x_picks X h (k + d)) h (k + d) m) = _
    rw [ih, hn]
set_option maxRecDepth 100000 in
theorem jm_listens (l : Launch) (g : jG) (hgt : Nat) {S : jS} {b : Nat} {ad : Nat → Nat} {X : XS} {h : Nat} {Q : Option Value → jS → Prop} (hW : WM S b ad X) (hI : ∀ i, i ≤ xV X 1 0 → xOK (x_listens X h i) ∧ xSm X (x_listens X h i)) (hh8 : h < 8) (hh : 2 ≤ hgt)
    (k : ∀ S', WM S' b ad (x_listens X h (xV X 1 0)) → J l g mX10_receive hgt 0 0 Q 42 [(0, .ref b), (1, .int (nI h))] [] S' 0 0) : J l g mX10_receive hgt 0 0 Q 0 [(0, .ref b), (1, .int (nI h))] [] S 0 0 := by
  have h48 : xV X 1 0 ≤ 48 := (hI 0 (Nat.zero_le _)).1.many
  refine J_iconst (pc := 0) (v := nI 0) dX10_receive_0 (by decide) ?_
  refine J_istore_n (pc := 1) dX10_receive_1 rfl (by decide) ?_
  have loop : ∀ i, i ≤ xV X 1 0 → ∀ S, WM S b ad (x_listens X h i) → J l g mX10_receive hgt 0 0 Q 2 [(2, .int (nI i)), (0, .ref b), (1, .int (nI h))] [] S 0 0 := by
    refine down _ ?_ ?_
    · intro S hW
      have hN := congrFun (hI _ (Nat.le_refl _)).2.1 0
      refine J_iload_n (pc := 2) dX10_receive_2 rfl rfl ?_
      refine J_aload_n (pc := 3) dX10_receive_3 rfl rfl ?_
      refine J_geti (pc := 4) (i := 2) cl8 hW.o (by decide) rfl hW.2.2.1.2.1 kX10_138 dX10_receive_4 ?_
      rw [hN]
      refine J_icmp_geN (pc := 7) (tgt := 42) dX10_receive_7 rfl (by omega) (by omega) (fun h0 => ?_) (fun h0 => ?_)
      · exact J_lvk (k S hW) ⟨rfl, rfl, trivial⟩
      · omega
    · intro i hi ih S hW
      obtain ⟨hO, hN⟩ := hI i (by omega)
      have hN := congrFun hN.1 0
      have h1 := hO.msg (m := i) (by omega)
      have hs : x_listens X h (i + 1) = if xV (x_listens X h i) 9 i = h ∧ xV (x_listens X h i) 19 i = 1 then x_listen (x_listens X h i) h i else x_listens X h i := rfl
      generalize x_listens X h i = Y at hW h1 hs hN hO
      have next : ∀ S', WM S' b ad (x_listens X h (i + 1)) → J l g mX10_receive hgt 0 0 Q 36 [(2, .int (nI i)), (0, .ref b), (1, .int (nI h))] [] S' 0 0 := by
        intro S' hW'
        refine J_iinc (pc := 36) dX10_receive_36 rfl (inc1 _) (by decide) ?_
        refine J_goto (pc := 39) (tgt := 2) dX10_receive_39 rfl ?_
        exact J_lvk (ih S' hW') ⟨rfl, rfl, rfl, trivial⟩
      refine J_iload_n (pc := 2) dX10_receive_2 rfl rfl ?_
      refine J_aload_n (pc := 3) dX10_receive_3 rfl rfl ?_
      refine J_geti (pc := 4) (i := 2) cl8 hW.o (by decide) rfl hW.2.2.1.2.1 kX10_138 dX10_receive_4 ?_
      rw [hN]
      refine J_icmp_geN (pc := 7) (tgt := 42) dX10_receive_7 rfl (by omega) (by omega) (fun h0 => ?_) (fun h0 => ?_)
      · omega
      · refine J_aload_n (pc := 10) dX10_receive_10 rfl rfl ?_
        refine J_getr (pc := 11) (i := 17) cl8 hW.o (by decide) rfl (hW.r 17 rfl) kX10_47 dX10_receive_11 ?_
        refine J_iload_n (pc := 14) dX10_receive_14 rfl rfl ?_
        refine J_mld (pc := 15) hW 9 rfl rfl (by show _ < 48; omega) dX10_receive_15 ?_
        refine J_iload_n (pc := 16) dX10_receive_16 rfl rfl ?_
        refine J_icmp_neN (pc := 17) (tgt := 36) dX10_receive_17 rfl (by omega) (by omega) (fun h2 => ?_) (fun h2 => ?_)
        · exact next S (by rw [hs, if_neg (fun z => h2 z.1)]; exact hW)
        · refine J_aload_n (pc := 20) dX10_receive_20 rfl rfl ?_
          refine J_getr (pc := 21) (i := 28) cl8 hW.o (by decide) rfl (hW.r 28 rfl) kX10_80 dX10_receive_21 ?_
          refine J_iload_n (pc := 24) dX10_receive_24 rfl rfl ?_
          refine J_mld (pc := 25) hW 19 rfl rfl (by show _ < 48; omega) dX10_receive_25 ?_
          refine J_iconst (pc := 26) (v := nI 1) dX10_receive_26 (by decide) ?_
          refine J_icmp_neN (pc := 27) (tgt := 36) dX10_receive_27 rfl (by omega) (by omega) (fun h3 => ?_) (fun h3 => ?_)
          · exact next S (by rw [hs, if_neg (fun z => h3 z.2)]; exact hW)
          · refine J_aload_n (pc := 30) dX10_receive_30 rfl rfl ?_
            refine J_iload_n (pc := 31) dX10_receive_31 rfl rfl ?_
            refine J_iload_n (pc := 32) dX10_receive_32 rfl rfl ?_
            refine J_callV (pc := 33) (cm_listen l g (hgt - 1) hW hO (show i < 48 by omega) hh8 h3 (by omega)) qX10_listen vX10_listen cl8 rfl hW.o kX10_180 dX10_receive_33 rfl rfl (Nat.le_of_ble_eq_true rfl) (by omega) (by omega) (by omega) ?_
            rintro _ _ ⟨rfl, hW⟩
            exact next _ (by rw [hs, if_pos ⟨h2, h3⟩]; exact hW)
  exact loop 0 (Nat.zero_le _) S hW
set_option maxRecDepth 100000 in
theorem jm_forgets (l : Launch) (g : jG) (hgt : Nat) {S : jS} {b : Nat} {ad : Nat → Nat} {X : XS} {h : Nat} {Q : Option Value → jS → Prop} (hW : WM S b ad X) (hI : ∀ i, i ≤ xV X 1 0 → xOK (x_forgets X h i) ∧ xSm X (x_forgets X h i)) (hh8 : h < 8) (hh : 2 ≤ hgt)
    (k : ∀ S', WM S' b ad (x_forgets X h (xV X 1 0)) → J l g mX10_receive hgt 0 0 Q 109 [(0, .ref b), (1, .int (nI h))] [] S' 0 0) : J l g mX10_receive hgt 0 0 Q 42 [(0, .ref b), (1, .int (nI h))] [] S 0 0 := by
  have h48 : xV X 1 0 ≤ 48 := (hI 0 (Nat.zero_le _)).1.many
  refine J_iconst (pc := 42) (v := nI 0) dX10_receive_42 (by decide) ?_
  refine J_istore_n (pc := 43) dX10_receive_43 rfl (by decide) ?_
  have loop : ∀ i, i ≤ xV X 1 0 → ∀ S, WM S b ad (x_forgets X h i) → J l g mX10_receive hgt 0 0 Q 44 [(2, .int (nI i)), (0, .ref b), (1, .int (nI h))] [] S 0 0 := by
    refine down _ ?_ ?_
    · intro S hW
      have hN := congrFun (hI _ (Nat.le_refl _)).2.1 0
      refine J_iload_n (pc := 44) dX10_receive_44 rfl rfl ?_
      refine J_aload_n (pc := 45) dX10_receive_45 rfl rfl ?_
      refine J_geti (pc := 46) (i := 2) cl8 hW.o (by decide) rfl hW.2.2.1.2.1 kX10_138 dX10_receive_46 ?_
      rw [hN]
      refine J_icmp_geN (pc := 49) (tgt := 109) dX10_receive_49 rfl (by omega) (by omega) (fun h0 => ?_) (fun h0 => ?_)
      · exact J_lvk (k S hW) ⟨rfl, rfl, trivial⟩
      · omega
    · intro i hi ih S hW
      obtain ⟨hO, hN⟩ := hI i (by omega)
      have hN := congrFun hN.1 0
      have h1 := hO.msg (m := i) (by omega)
      have hs : x_forgets X h (i + 1) = if xV (x_forgets X h i) 9 i = h ∧ (xV (x_forgets X h i) 19 i = 2 ∧ xV (x_forgets X h i) 11 i = 1 ∧ nI 30 ≤ nI (xV (x_forgets X h i) 0 0) - nI (xV (x_forgets X h i) 25 i)) then x_forget (x_forgets X h i) i else x_forgets X h i := rfl
      generalize x_forgets X h i = Y at hW h1 hs hN hO
      have next : ∀ S', WM S' b ad (x_forgets X h (i + 1)) → J l g mX10_receive hgt 0 0 Q 103 [(2, .int (nI i)), (0, .ref b), (1, .int (nI h))] [] S' 0 0 := by
        intro S' hW'
        refine J_iinc (pc := 103) dX10_receive_103 rfl (inc1 _) (by decide) ?_
        refine J_goto (pc := 106) (tgt := 44) dX10_receive_106 rfl ?_
        exact J_lvk (ih S' hW') ⟨rfl, rfl, rfl, trivial⟩
      refine J_iload_n (pc := 44) dX10_receive_44 rfl rfl ?_
      refine J_aload_n (pc := 45) dX10_receive_45 rfl rfl ?_
      refine J_geti (pc := 46) (i := 2) cl8 hW.o (by decide) rfl hW.2.2.1.2.1 kX10_138 dX10_receive_46 ?_
      rw [hN]
      refine J_icmp_geN (pc := 49) (tgt := 109) dX10_receive_49 rfl (by omega) (by omega) (fun h0 => ?_) (fun h0 => ?_)
      · omega
      · refine J_aload_n (pc := 52) dX10_receive_52 rfl rfl ?_
        refine J_getr (pc := 53) (i := 17) cl8 hW.o (by decide) rfl (hW.r 17 rfl) kX10_47 dX10_receive_53 ?_
        refine J_iload_n (pc := 56) dX10_receive_56 rfl rfl ?_
        refine J_mld (pc := 57) hW 9 rfl rfl (by show _ < 48; omega) dX10_receive_57 ?_
        refine J_iload_n (pc := 58) dX10_receive_58 rfl rfl ?_
        refine J_icmp_neN (pc := 59) (tgt := 103) dX10_receive_59 rfl (by omega) (by omega) (fun h2 => ?_) (fun h2 => ?_)
        · exact next S (by rw [hs, if_neg (fun z => h2 z.1)]; exact hW)
        · refine J_aload_n (pc := 62) dX10_receive_62 rfl rfl ?_
          refine J_getr (pc := 63) (i := 28) cl8 hW.o (by decide) rfl (hW.r 28 rfl) kX10_80 dX10_receive_63 ?_
          refine J_iload_n (pc := 66) dX10_receive_66 rfl rfl ?_
          refine J_mld (pc := 67) hW 19 rfl rfl (by show _ < 48; omega) dX10_receive_67 ?_
          refine J_iconst (pc := 68) (v := nI 2) dX10_receive_68 (by decide) ?_
          refine J_icmp_neN (pc := 69) (tgt := 103) dX10_receive_69 rfl (by omega) (by omega) (fun h3 => ?_) (fun h3 => ?_)
          · exact next S (by rw [hs, if_neg (fun z => h3 z.2.1)]; exact hW)
          · refine J_aload_n (pc := 72) dX10_receive_72 rfl rfl ?_
            refine J_getr (pc := 73) (i := 19) cl8 hW.o (by decide) rfl (hW.r 19 rfl) kX10_53 dX10_receive_73 ?_
            refine J_iload_n (pc := 76) dX10_receive_76 rfl rfl ?_
            refine J_mld (pc := 77) hW 11 rfl rfl (by show _ < 48; omega) dX10_receive_77 ?_
            refine J_iconst (pc := 78) (v := nI 1) dX10_receive_78 (by decide) ?_
            refine J_icmp_neN (pc := 79) (tgt := 103) dX10_receive_79 rfl (by omega) (by omega) (fun h4 => ?_) (fun h4 => ?_)
            · exact next S (by rw [hs, if_neg (fun z => h4 z.2.2.1)]; exact hW)
            · refine J_aload_n (pc := 82) dX10_receive_82 rfl rfl ?_
              refine J_geti (pc := 83) (i := 1) cl8 hW.o (by decide) rfl hW.2.2.1.1 kX10_177 dX10_receive_83 ?_
              refine J_aload_n (pc := 86) dX10_receive_86 rfl rfl ?_
              refine J_getr (pc := 87) (i := 34) cl8 hW.o (by decide) rfl (hW.r 34 rfl) kX10_98 dX10_receive_87 ?_
              refine J_iload_n (pc := 90) dX10_receive_90 rfl rfl ?_
              refine J_mld (pc := 91) hW 25 rfl rfl (by show _ < 48; omega) dX10_receive_91 ?_
              refine J_isub (pc := 92) dX10_receive_92 ?_
              refine J_bipush (pc := 93) (v := nI 30) dX10_receive_93 (by decide) ?_
              refine J_icmp_lt (pc := 95) (tgt := 103) dX10_receive_95 rfl (fun h5 => ?_) (fun h5 => ?_)
              · exact next S (by rw [hs, if_neg (fun z => Int32.not_le.mpr h5 z.2.2.2)]; exact hW)
              · refine J_aload_n (pc := 98) dX10_receive_98 rfl rfl ?_
                refine J_iload_n (pc := 99) dX10_receive_99 rfl rfl ?_
                refine J_callV (pc := 100) (cm_forget l g (hgt - 1) hW (show i < 48 by omega)) qX10_forget vX10_forget cl8 rfl hW.o kX10_183 dX10_receive_100 rfl rfl (Nat.le_of_ble_eq_true rfl) (by omega) (by omega) (by omega) ?_
                rintro _ _ ⟨rfl, hW⟩
                exact next _ (by rw [hs, if_pos ⟨h2, h3, h4, Int32.not_lt.mp h5⟩]; exact hW)
  exact loop 0 (Nat.zero_le _) S hW
end
section
set_option maxRecDepth 100000 in
theorem jm_best (l : Launch) (g : jG) (hgt : Nat) {S : jS} {b : Nat} {ad : Nat → Nat} {Y : XS} {h k : Nat} {Q : Option Value → jS → Prop} (hW : WM S b ad Y) (hO : xOK Y) (hA : ∀ m, m < 48 → xV Y 24 m < 2 ^ 31) (hh8 : h < 8) (hh : 2 ≤ hgt)
    (kk : J l g mX10_receive hgt 0 0 Q 193 [(3, .int (oI (x_best Y h (xV Y 1 0)))), (2, .int (nI k)), (0, .ref b), (1, .int (nI h))] [] S 0 0) : J l g mX10_receive hgt 0 0 Q 123 [(2, .int (nI k)), (0, .ref b), (1, .int (nI h))] [] S 0 0 := by
  have h48 : xV Y 1 0 ≤ 48 := hO.many
  refine J_iconst (pc := 123) (v := (-1)) dX10_receive_123 (by decide) ?_
  refine J_istore_n (pc := 124) dX10_receive_124 rfl (by decide) ?_
  refine J_iconst (pc := 125) (v := nI 0) dX10_receive_125 (by decide) ?_
  refine J_istore (pc := 126) dX10_receive_126 (by decide) ?_
  have loop : ∀ i, i ≤ xV Y 1 0 → J l g mX10_receive hgt 0 0 Q 128 [(4, .int (nI i)), (3, .int (oI (x_best Y h i))), (2, .int (nI k)), (0, .ref b), (1, .int (nI h))] [] S 0 0 := by
    refine down _ ?_ ?_
    · refine J_iload (pc := 128) dX10_receive_128 rfl ?_
      refine J_aload_n (pc := 130) dX10_receive_130 rfl rfl ?_
      refine J_geti (pc := 131) (i := 2) cl8 hW.o (by decide) rfl hW.2.2.1.2.1 kX10_138 dX10_receive_131 ?_
      refine J_icmp_geN (pc := 134) (tgt := 193) dX10_receive_134 rfl (by omega) (by omega) (fun h0 => ?_) (fun h0 => ?_)
      · exact J_lvk kk ⟨rfl, rfl, rfl, rfl, trivial⟩
      · omega
    · intro i hi ih
      have h1 := hO.msg (m := i) (by omega)
      have hs : x_best Y h (i + 1) = if xV Y 9 i = h ∧ xV Y 19 i = 1 ∧ x_chosen Y h i = false ∧ (∀ y, x_best Y h i = some y → x_ahead Y i y = true) then some i else x_best Y h i := rfl
      have next : J l g mX10_receive hgt 0 0 Q 187 [(4, .int (nI i)), (3, .int (oI (x_best Y h (i + 1)))), (2, .int (nI k)), (0, .ref b), (1, .int (nI h))] [] S 0 0 := by
        refine J_iinc (pc := 187) dX10_receive_187 rfl (inc1 _) (by decide) ?_
        refine J_goto (pc := 190) (tgt := 128) dX10_receive_190 rfl ?_
        exact J_lvk ih ⟨rfl, rfl, rfl, rfl, rfl, trivial⟩
      have nxno : ¬ (xV Y 9 i = h ∧ xV Y 19 i = 1 ∧ x_chosen Y h i = false ∧ (∀ y, x_best Y h i = some y → x_ahead Y i y = true)) → J l g mX10_receive hgt 0 0 Q 187 [(4, .int (nI i)), (3, .int (oI (x_best Y h i))), (2, .int (nI k)), (0, .ref b), (1, .int (nI h))] [] S 0 0 := by
        intro z
        rw [if_neg z] at hs
        rw [hs] at next
        exact next
      refine J_iload (pc := 128) dX10_receive_128 rfl ?_
      refine J_aload_n (pc := 130) dX10_receive_130 rfl rfl ?_
      refine J_geti (pc := 131) (i := 2) cl8 hW.o (by decide) rfl hW.2.2.1.2.1 kX10_138 dX10_receive_131 ?_
      refine J_icmp_geN (pc := 134) (tgt := 193) dX10_receive_134 rfl (by omega) (by omega) (fun h0 => ?_) (fun h0 => ?_)
      · omega
      · refine J_aload_n (pc := 137) dX10_receive_137 rfl rfl ?_
        refine J_getr (pc := 138) (i := 17) cl8 hW.o (by decide) rfl (hW.r 17 rfl) kX10_47 dX10_receive_138 ?_
        refine J_iload (pc := 141) dX10_receive_141 rfl ?_
        refine J_mld (pc := 143) hW 9 rfl rfl (by show _ < 48; omega) dX10_receive_143 ?_
        refine J_iload_n (pc := 144) dX10_receive_144 rfl rfl ?_
        refine J_icmp_neN (pc := 145) (tgt := 187) dX10_receive_145 rfl (by omega) (by omega) (fun h2 => ?_) (fun h2 => ?_)
        · exact nxno (fun z => h2 z.1)
        · refine J_aload_n (pc := 148) dX10_receive_148 rfl rfl ?_
          refine J_getr (pc := 149) (i := 28) cl8 hW.o (by decide) rfl (hW.r 28 rfl) kX10_80 dX10_receive_149 ?_
          refine J_iload (pc := 152) dX10_receive_152 rfl ?_
          refine J_mld (pc := 154) hW 19 rfl rfl (by show _ < 48; omega) dX10_receive_154 ?_
          refine J_iconst (pc := 155) (v := nI 1) dX10_receive_155 (by decide) ?_
          refine J_icmp_neN (pc := 156) (tgt := 187) dX10_receive_156 rfl (by omega) (by omega) (fun h3 => ?_) (fun h3 => ?_)
          · exact nxno (fun z => h3 z.2.1)
          · refine J_aload_n (pc := 159) dX10_receive_159 rfl rfl ?_
            refine J_iload_n (pc := 160) dX10_receive_160 rfl rfl ?_
            refine J_iload (pc := 161) dX10_receive_161 rfl ?_
            refine J_callV (pc := 163) (cm_isChosen l g (hgt - 1) hW hO hh8 (show i < 48 by omega)) qX10_isChosen vX10_isChosen cl8 rfl hW.o kX10_187 dX10_receive_163 rfl rfl (Nat.le_of_ble_eq_true rfl) (by omega) (by omega) (by omega) ?_
            rintro _ _ ⟨rfl, rfl⟩
            refine J_if_neB (pc := 166) (tgt := 187) dX10_receive_166 rfl (fun h4 => ?_) (fun h4 => ?_)
            · exact nxno (fun z => by rw [h4] at z; cases z.2.2.1)
            · refine J_iload_n (pc := 169) dX10_receive_169 rfl rfl ?_
              refine J_iconst (pc := 170) (v := (-1)) dX10_receive_170 (by decide) ?_
              have take : (∀ y, x_best Y h i = some y → x_ahead Y i y = true) → J l g mX10_receive hgt 0 0 Q 184 [(4, .int (nI i)), (3, .int (oI (x_best Y h i))), (2, .int (nI k)), (0, .ref b), (1, .int (nI h))] [] S 0 0 := by
                intro z
                rw [if_pos ⟨h2, h3, h4, z⟩] at hs
                rw [hs] at next
                refine J_iload (pc := 184) dX10_receive_184 rfl ?_
                refine J_istore_n (pc := 186) dX10_receive_186 rfl (by decide) ?_
                exact J_lvk next ⟨rfl, rfl, rfl, rfl, rfl, trivial⟩
              refine J_icmp_eq (pc := 171) (tgt := 184) dX10_receive_171 rfl (fun h5 => ?_) (fun h5 => ?_)
              · have h5 := (oI_m1 (fun x hx => by have := x_best_lt hx; omega)).mp h5
                exact take (fun y hy => by rw [h5] at hy; cases hy)
              · cases hb : x_best Y h i with
                | none => rw [hb] at h5; exact absurd rfl h5
                | some y =>
                  have hy := x_best_lt hb
                  rw [hb] at take nxno
                  refine J_aload_n (pc := 174) dX10_receive_174 rfl rfl ?_
                  refine J_iload (pc := 175) dX10_receive_175 rfl ?_
                  refine J_iload_n (pc := 177) dX10_receive_177 rfl rfl ?_
                  refine J_callV (pc := 178) (cm_isAhead l g (hgt - 1) hW hO (show i < 48 by omega) (show y < 48 by omega) (hA i (by omega)) (hA y (by omega)) (by omega)) qX10_isAhead vX10_isAhead cl8 rfl hW.o kX10_191 dX10_receive_178 rfl rfl (Nat.le_of_ble_eq_true rfl) (by omega) (by omega) (by omega) ?_
                  rintro _ _ ⟨rfl, rfl⟩
                  refine J_if_eqB (pc := 181) (tgt := 187) dX10_receive_181 rfl (fun h6 => ?_) (fun h6 => ?_)
                  · exact nxno (fun z => by have := z.2.2.2 y rfl; rw [h6] at this; cases this)
                  · exact take (fun y' hy' => by cases hy'; exact h6)
  exact J_lvk (loop 0 (Nat.zero_le _)) ⟨rfl, rfl, rfl, rfl, rfl, trivial⟩
set_option maxRecDepth 100000 in
theorem jm_picks (l : Launch) (g : jG) (hgt : Nat) {S : jS} {b : Nat} {ad : Nat → Nat} {X : XS} {h : Nat} (hW : WM S b ad X) (hI : ∀ k, k ≤ 3 → xOK (x_picks X h k) ∧ xSm X (x_picks X h k) ∧ ∀ m, m < 48 → xV (x_picks X h k) 24 m < 2 ^ 31) (hh8 : h < 8) (hh : 2 ≤ hgt) : J l g mX10_receive hgt 0 0 (mPost b ad (x_picks X h 3)) 118 [(2, .int (nI 0)), (0, .ref b), (1, .int (nI h))] [] S 0 0 := by
  have loop : ∀ k, k ≤ 3 → ∀ S, WM S b ad (x_picks X h k) → J l g mX10_receive hgt 0 0 (mPost b ad (x_picks X h 3)) 118 [(2, .int (nI k)), (0, .ref b), (1, .int (nI h))] [] S 0 0 := by
    refine down _ ?_ ?_
    · intro S hW
      refine J_iload_n (pc := 118) dX10_receive_118 rfl rfl ?_
      refine J_iconst (pc := 119) (v := nI 3) dX10_receive_119 (by decide) ?_
      refine J_icmp_geN (pc := 120) (tgt := 307) dX10_receive_120 rfl (by omega) (by omega) (fun h0 => ?_) (fun h0 => ?_)
      · refine J_vret (pc := 307) dX10_receive_307 rfl (by omega) (by omega) ?_
        exact ⟨rfl, hW⟩
      · omega
    · intro k hk ih S hW
      obtain ⟨hO, hN, hA⟩ := hI k (by omega)
      have hN1 : xV (x_picks X h k) 1 0 = xV X 1 0 := congrFun hN.1 0
      have hs : x_picks X h (k + 1) = (match x_best (x_picks X h k) h (xV X 1 0) with
        | none => x_picks X h k
        | some m => x_pick (x_picks X h k) h k m) := rfl
      have hstop := x_picks_stop (X := X) (h := h) (k := k)
      rw [← hN1] at hs hstop
      refine J_iload_n (pc := 118) dX10_receive_118 rfl rfl ?_
      refine J_iconst (pc := 119) (v := nI 3) dX10_receive_119 (by decide) ?_
      refine J_icmp_geN (pc := 120) (tgt := 307) dX10_receive_120 rfl (by omega) (by omega) (fun h0 => ?_) (fun h0 => ?_)
      · omega
      · refine jm_best l g hgt hW hO hA hh8 hh ?_
        have h48 : xV (x_picks X h k) 1 0 ≤ 48 := hO.many
        refine J_iload_n (pc := 193) dX10_receive_193 rfl rfl ?_
        refine J_iconst (pc := 194) (v := (-1)) dX10_receive_194 (by decide) ?_
        refine J_icmp_ne (pc := 195) (tgt := 199) dX10_receive_195 rfl (fun h5 => ?_) (fun h5 => ?_)
        · cases hb : x_best (x_picks X h k) h (xV (x_picks X h k) 1 0) with
          | none => rw [hb] at h5; exact absurd rfl h5
          | some m =>
            have hm := x_best_lt hb
            have h1 := hO.msg (m := m) (by omega)
            rw [hb] at hs
            have hs : x_picks X h (k + 1) = x_pick (x_picks X h k) h k m := hs
            have hc3 := (hO.host hh8).1
            clear hstop hb hN hN1 hA
            generalize x_picks X h k = Y at hW hO h1 hs hm h48 hc3
            have hmis : x_missing Y m ≤ xV Y 10 m := cnt_le _ _
            refine J_aload_n (pc := 199) dX10_receive_199 rfl rfl ?_
            refine J_getr (pc := 200) (i := 42) cl8 hW.o (by decide) rfl (hW.r 42 rfl) kX10_122 dX10_receive_200 ?_
            refine J_iconst (pc := 203) (v := nI 3) dX10_receive_203 (by decide) ?_
            refine J_iload_n (pc := 204) dX10_receive_204 rfl rfl ?_
            first | refine J_imulN (pc := 205) dX10_receive_205 ?_ | refine J_imul (pc := 205) dX10_receive_205 ?_
            refine J_iload_n (pc := 206) dX10_receive_206 rfl rfl ?_
            first | refine J_iaddN (pc := 207) dX10_receive_207 ?_ | refine J_iadd (pc := 207) dX10_receive_207 ?_
            refine J_iload_n (pc := 208) dX10_receive_208 rfl rfl ?_
            refine J_mst (pc := 209) hW 29 rfl rfl (by show _ < 24; omega) rfl dX10_receive_209 (fun hW => ?_)
            refine J_aload_n (pc := 210) dX10_receive_210 rfl rfl ?_
            refine J_getr (pc := 211) (i := 43) cl8 hW.o (by decide) rfl (hW.r 43 rfl) kX10_125 dX10_receive_211 ?_
            refine J_iload_n (pc := 214) dX10_receive_214 rfl rfl ?_
            refine J_dup2_11 (pc := 215) dX10_receive_215 rfl rfl ?_
            refine J_mld (pc := 216) hW 28 rfl rfl (by show _ < 8; omega) dX10_receive_216 ?_
            refine J_iconst (pc := 217) (v := nI 1) dX10_receive_217 (by decide) ?_
            first | refine J_iaddN (pc := 218) dX10_receive_218 ?_ | refine J_iadd (pc := 218) dX10_receive_218 ?_
            refine J_mst (pc := 219) hW 28 rfl rfl (by show _ < 8; omega) rfl dX10_receive_219 (fun hW => ?_)
            simp only [xV_yV, xV_yL, xV_yB, xV_yC, xL_yV, xL_yL, xL_yB, xL_yC, xB_yV, xB_yL, xB_yB, xB_yC, true_and, and_true, and_self, false_and, and_false, reduceIte, Nat.reduceEqDiff, if_true, if_false, reduceCtorEq] at hW ⊢
            refine J_aload_n (pc := 220) dX10_receive_220 rfl rfl ?_
            refine J_getr (pc := 221) (i := 18) cl8 hW.o (by decide) rfl (hW.r 18 rfl) kX10_50 dX10_receive_221 ?_
            refine J_iload_n (pc := 224) dX10_receive_224 rfl rfl ?_
            refine J_mld (pc := 225) hW 10 rfl rfl (by show _ < 48; omega) dX10_receive_225 ?_
            refine J_aload_n (pc := 226) dX10_receive_226 rfl rfl ?_
            refine J_iload_n (pc := 227) dX10_receive_227 rfl rfl ?_
            simp only [xV_yV, xV_yL, xV_yB, xV_yC, xL_yV, xL_yL, xL_yB, xL_yC, xB_yV, xB_yL, xB_yB, xB_yC, true_and, and_true, and_self, false_and, and_false, reduceIte, Nat.reduceEqDiff, if_true, if_false, reduceCtorEq] 
            refine J_callV (pc := 228) (cm_missing l g (hgt - 1) hW (by simp only [xV_yV]; simp; omega) (show m < 48 by omega)) qX10_missing vX10_missing cl8 rfl hW.o kX10_173 dX10_receive_228 rfl rfl (Nat.le_of_ble_eq_true rfl) (by omega) (by omega) (by omega) ?_
            rintro _ _ ⟨rfl, rfl⟩
            have em : x_missing (yV (yV Y 29 (3 * h + k) m) 28 h (xV Y 28 h + 1)) m = x_missing Y m := by
              unfold x_missing
              rw [xB_yV, xB_yV, xV_nf (by decide), xV_nf (by decide)]
            rw [em]
            first | refine J_isubN (pc := 231) dX10_receive_231 (by omega) ?_ | refine J_isub (pc := 231) dX10_receive_231 ?_
            refine J_istore (pc := 232) dX10_receive_232 (by decide) ?_
            refine J_iload (pc := 234) dX10_receive_234 rfl ?_
            refine J_bipush (pc := 236) (v := nI 6) dX10_receive_236 (by decide) ?_
            first | refine J_iaddN (pc := 238) dX10_receive_238 ?_ | refine J_iadd (pc := 238) dX10_receive_238 ?_
            refine J_aload_n (pc := 239) dX10_receive_239 rfl rfl ?_
            refine J_getr (pc := 240) (i := 18) cl8 hW.o (by decide) rfl (hW.r 18 rfl) kX10_50 dX10_receive_240 ?_
            refine J_iload_n (pc := 243) dX10_receive_243 rfl rfl ?_
            refine J_mld (pc := 244) hW 10 rfl rfl (by show _ < 48; omega) dX10_receive_244 ?_
            simp only [xV_yV, xV_yL, xV_yB, xV_yC, xL_yV, xL_yL, xL_yB, xL_yC, xB_yV, xB_yL, xB_yB, xB_yC, true_and, and_true, and_self, false_and, and_false, reduceIte, Nat.reduceEqDiff, if_true, if_false, reduceCtorEq] 
            have tgt : ∀ v, v = x_target Y m → J l g mX10_receive hgt 0 0 (mPost b ad (x_picks X h 3)) 262 [(4, .int (nI (xV Y 10 m - x_missing Y m))), (3, .int (nI m)), (2, .int (nI k)), (0, .ref b), (1, .int (nI h))] [.int (nI v)] (uI (uI S 9 (ad (mK 29)) (3 * h + k) (nI m)) 9 (ad (mK 28)) h (nI (xV Y 28 h + 1))) 0 0 := by
              intro v hv
              have hv60 : v ≤ 60 := by
                rw [hv]
                unfold x_target
                split <;> omega
              refine J_istore (pc := 262) dX10_receive_262 (by decide) ?_
              refine J_iload (pc := 264) dX10_receive_264 rfl ?_
              refine J_aload_n (pc := 266) dX10_receive_266 rfl rfl ?_
              refine J_getr (pc := 267) (i := 30) cl8 hW.o (by decide) rfl (hW.r 30 rfl) kX10_86 dX10_receive_267 ?_
              refine J_iload_n (pc := 270) dX10_receive_270 rfl rfl ?_
              refine J_mld (pc := 271) hW 21 rfl rfl (by show _ < 48; omega) dX10_receive_271 ?_
              simp only [xV_yV, xV_yL, xV_yB, xV_yC, xL_yV, xL_yL, xL_yB, xL_yC, xB_yV, xB_yL, xB_yB, xB_yC, true_and, and_true, and_self, false_and, and_false, reduceIte, Nat.reduceEqDiff, if_true, if_false, reduceCtorEq] 
              refine J_icmp_gtN (pc := 272) (tgt := 278) dX10_receive_272 rfl (by omega) (by omega) (fun h6 => ?_) (fun h6 => ?_)
              · refine J_aload_n (pc := 278) dX10_receive_278 rfl rfl ?_
                refine J_getr (pc := 279) (i := 30) cl8 hW.o (by decide) rfl (hW.r 30 rfl) kX10_86 dX10_receive_279 ?_
                refine J_iload_n (pc := 282) dX10_receive_282 rfl rfl ?_
                refine J_iload (pc := 283) dX10_receive_283 rfl ?_
                refine J_mst (pc := 285) hW 21 rfl rfl (by show _ < 48; omega) rfl dX10_receive_285 (fun hW => ?_)
                refine J_aload_n (pc := 286) dX10_receive_286 rfl rfl ?_
                refine J_iload_n (pc := 287) dX10_receive_287 rfl rfl ?_
                refine J_iconst (pc := 288) (v := nI 1) dX10_receive_288 (by decide) ?_
                refine J_iload_n (pc := 289) dX10_receive_289 rfl rfl ?_
                refine J_iconst (pc := 290) (v := nI 4) dX10_receive_290 (by decide) ?_
                refine J_iload (pc := 291) dX10_receive_291 rfl ?_
                first | refine J_imulN (pc := 293) dX10_receive_293 ?_ | refine J_imul (pc := 293) dX10_receive_293 ?_
                refine J_iconst (pc := 294) (v := nI 1) dX10_receive_294 (by decide) ?_
                first | refine J_iaddN (pc := 295) dX10_receive_295 ?_ | refine J_iadd (pc := 295) dX10_receive_295 ?_
                refine J_iload_n (pc := 296) dX10_receive_296 rfl rfl ?_
                first | refine J_iaddN (pc := 297) dX10_receive_297 ?_ | refine J_iadd (pc := 297) dX10_receive_297 ?_
                refine J_callV (pc := 298) (cm_becomeDue l g (hgt - 1) (k := 1) (m := m) (c := 4 * v + 1 + k) hW hh8) qX10_becomeDue vX10_becomeDue cl8 rfl hW.o kX10_169 dX10_receive_298 rfl rfl (Nat.le_of_ble_eq_true rfl) (by omega) (by omega) (by omega) ?_
                rintro _ S' ⟨rfl, hW⟩
                refine J_iinc (pc := 301) dX10_receive_301 rfl (inc1 _) (by decide) ?_
                refine J_goto (pc := 304) (tgt := 118) dX10_receive_304 rfl ?_
                refine J_lvk (ih S' ?_) ⟨rfl, rfl, rfl, trivial⟩
                rw [hs, x_pick, ← hv, if_neg (by omega)]
                exact hW
              · refine J_goto (pc := 275) (tgt := 301) dX10_receive_275 rfl ?_
                refine J_iinc (pc := 301) dX10_receive_301 rfl (inc1 _) (by decide) ?_
                refine J_goto (pc := 304) (tgt := 118) dX10_receive_304 rfl ?_
                refine J_lvk (ih _ ?_) ⟨rfl, rfl, rfl, trivial⟩
                rw [hs, x_pick, ← hv, if_pos (by omega)]
                exact hW
            refine J_icmp_geN (pc := 245) (tgt := 256) dX10_receive_245 rfl (by omega) (by omega) (fun h6 => ?_) (fun h6 => ?_)
            · refine J_aload_n (pc := 256) dX10_receive_256 rfl rfl ?_
              refine J_getr (pc := 257) (i := 18) cl8 hW.o (by decide) rfl (hW.r 18 rfl) kX10_50 dX10_receive_257 ?_
              refine J_iload_n (pc := 260) dX10_receive_260 rfl rfl ?_
              refine J_mld (pc := 261) hW 10 rfl rfl (by show _ < 48; omega) dX10_receive_261 ?_
              simp only [xV_yV, xV_yL, xV_yB, xV_yC, xL_yV, xL_yL, xL_yB, xL_yC, xB_yV, xB_yL, xB_yB, xB_yC, true_and, and_true, and_self, false_and, and_false, reduceIte, Nat.reduceEqDiff, if_true, if_false, reduceCtorEq] 
              exact J_lvk (tgt _ (by rw [x_target, if_neg (by omega)])) ⟨rfl, rfl, rfl, rfl, rfl, trivial⟩
            · refine J_iload (pc := 248) dX10_receive_248 rfl ?_
              refine J_bipush (pc := 250) (v := nI 6) dX10_receive_250 (by decide) ?_
              first | refine J_iaddN (pc := 252) dX10_receive_252 ?_ | refine J_iadd (pc := 252) dX10_receive_252 ?_
              refine J_goto (pc := 253) (tgt := 262) dX10_receive_253 rfl ?_
              exact J_lvk (tgt _ (by rw [x_target, if_pos (by omega)])) ⟨rfl, rfl, rfl, rfl, rfl, trivial⟩
        · have h5 := (oI_m1 (fun x hx => by have := x_best_lt hx; omega)).mp h5
          refine J_vret (pc := 198) dX10_receive_198 rfl (by omega) (by omega) ?_
          refine ⟨rfl, ?_⟩
          have := hstop h5 (3 - k)
          rw [show k + (3 - k) = 3 by omega] at this
          rw [this]
          exact hW
  exact loop 0 (by omega) S hW
/-- what has to hold on the way through a host's work as a receiver -/
def okReceive (X : XS) (h : Nat) : Prop := (∀ i, i ≤ xV X 1 0 → xOK (x_listens X h i) ∧ xSm X (x_listens X h i)) ∧ (∀ i, i ≤ xV X 1 0 → xOK (x_forgets (x_listens X h (xV X 1 0)) h i) ∧ xSm X (x_forgets (x_listens X h (xV X 1 0)) h i)) ∧ (∀ k, k ≤ 3 → xOK (x_picks (yV (x_forgets (x_listens X h (xV X 1 0)) h (xV X 1 0)) 28 h 0) h k) ∧ xSm X (x_picks (yV (x_forgets (x_listens X h (xV X 1 0)) h (xV X 1 0)) 28 h 0) h k) ∧ ∀ m, m < 48 → xV (x_picks (yV (x_forgets (x_listens X h (xV X 1 0)) h (xV X 1 0)) 28 h 0) h k) 24 m < 2 ^ 31)
theorem xSm.tr {X Y Z : XS} (h1 : xSm X Y) (h2 : xSm X Z) : xSm Y Z := ⟨h2.1.trans h1.1.symm, h2.2.1.trans h1.2.1.symm, h2.2.2.1.trans h1.2.2.1.symm, h2.2.2.2.1.trans h1.2.2.2.1.symm, h2.2.2.2.2.trans h1.2.2.2.2.symm⟩
set_option maxRecDepth 100000 in
theorem cm_receive (l : Launch) (g : jG) (hgt : Nat) {S : jS} {b : Nat} {ad : Nat → Nat} {X : XS} {h : Nat} (hW : WM S b ad X) (hI : okReceive X h) (hh8 : h < 8) (hh : 2 ≤ hgt) : CT l g mX10_receive hgt 0 0 [.ref b, .int (nI h)] S (mPost b ad (x_receive X h)) := by
  refine CT_of qX10_receive (Nat.le_of_ble_eq_true rfl) ?_
  have e1 : xV (x_listens X h (xV X 1 0)) 1 0 = xV X 1 0 := congrFun (hI.1 _ (Nat.le_refl _)).2.1 0
  refine jm_listens l g hgt hW hI.1 hh8 hh (fun S1 hW1 => ?_)
  refine jm_forgets l g hgt hW1 (fun i hi => ?_) hh8 hh (fun S2 hW2 => ?_)
  · rw [e1] at hi
    exact ⟨(hI.2.1 i hi).1, (hI.1 _ (Nat.le_refl _)).2.tr (hI.2.1 i hi).2⟩
  · rw [e1] at hW2
    have hW := hW2
    refine J_aload_n (pc := 109) dX10_receive_109 rfl rfl ?_
    refine J_getr (pc := 110) (i := 43) cl8 hW.o (by decide) rfl (hW.r 43 rfl) kX10_125 dX10_receive_110 ?_
    refine J_iload_n (pc := 113) dX10_receive_113 rfl rfl ?_
    refine J_iconst (pc := 114) (v := nI 0) dX10_receive_114 (by decide) ?_
    refine J_mst (pc := 115) hW 28 rfl rfl (by show _ < 8; omega) rfl dX10_receive_115 (fun hW => ?_)
    refine J_iconst (pc := 116) (v := nI 0) dX10_receive_116 (by decide) ?_
    refine J_istore_n (pc := 117) dX10_receive_117 rfl (by decide) ?_
    have hp := jm_picks l g hgt hW (fun k hk => ⟨(hI.2.2 k hk).1, (hI.2.2 0 (by omega)).2.1.tr (hI.2.2 k hk).2.1, (hI.2.2 k hk).2.2⟩) hh8 hh
    exact J_lvk hp ⟨rfl, rfl, rfl, trivial⟩
end
section
set_option maxRecDepth 100000 in
theorem cm_rankOf (l : Launch) (g : jG) (hgt : Nat) {S : jS} {b : Nat} {ad : Nat → Nat} {X : XS} {h f x : Nat} (hW : WM S b ad X) (hI : xOK X) (hh8 : h < 8) (hf : f ≤ xV X 1 0) (hx : x < 48) : CT l g mX10_rankOf hgt 0 0 [.ref b, .int (nI h), .int (nI f), .int (nI x)] S (jPure (.int (nI (cnt (x_rank X h f x) (xV X 1 0)))) S) := by
  have h48 := hI.many
  have hx1 := (hI.msg hx).1
  refine CT_of qX10_rankOf (Nat.le_of_ble_eq_true rfl) ?_
  refine J_iconst (pc := 0) (v := nI 0) dX10_rankOf_0 (by decide) ?_
  refine J_istore (pc := 1) dX10_rankOf_1 (by decide) ?_
  refine J_iload_n (pc := 3) dX10_rankOf_3 rfl rfl ?_
  refine J_istore (pc := 4) dX10_rankOf_4 (by decide) ?_
  have c0 : cnt (x_rank X h f x) f = 0 := cnt_0 (fun i hi => by unfold x_rank win; simp; omega)
  have loop : ∀ i, i ≤ xV X 1 0 → f ≤ i → J l g mX10_rankOf hgt 0 0 (jPure (.int (nI (cnt (x_rank X h f x) (xV X 1 0)))) S) 6 [(5, .int (nI i)), (4, .int (nI (cnt (x_rank X h f x) i))), (0, .ref b), (1, .int (nI h)), (2, .int (nI f)), (3, .int (nI x))] [] S 0 0 := by
    refine down _ ?_ ?_
    · intro _
      refine J_iload (pc := 6) dX10_rankOf_6 rfl ?_
      refine J_aload_n (pc := 8) dX10_rankOf_8 rfl rfl ?_
      refine J_geti (pc := 9) (i := 2) cl8 hW.o (by decide) rfl hW.2.2.1.2.1 kX10_138 dX10_rankOf_9 ?_
      refine J_icmp_geN (pc := 12) (tgt := 80) dX10_rankOf_12 rfl (by omega) (by omega) (fun h0 => ?_) (fun h0 => ?_)
      · refine J_iload (pc := 80) dX10_rankOf_80 rfl ?_
        refine J_iret (pc := 82) dX10_rankOf_82 rfl (by omega) (by omega) ?_
        exact ⟨rfl, rfl⟩
      · omega
    · intro i hi ih hfi
      have ih := ih (by omega)
      have hi1 := (hI.msg (m := i) (by omega)).1
      have e : cnt (x_rank X h f x) (i + 1) = cnt (x_rank X h f x) i + if x_rank X h f x i then 1 else 0 := rfl
      have yes : x_rank X h f x i = true → J l g mX10_rankOf hgt 0 0 (jPure (.int (nI (cnt (x_rank X h f x) (xV X 1 0)))) S) 66 [(5, .int (nI i)), (4, .int (nI (cnt (x_rank X h f x) i))), (0, .ref b), (1, .int (nI h)), (2, .int (nI f)), (3, .int (nI x))] [.int (nI (cnt (x_rank X h f x) i))] S 0 0 := by
        intro z
        rw [z] at e
        refine J_iconst (pc := 66) (v := nI 1) dX10_rankOf_66 (by decide) ?_
        refine J_goto (pc := 67) (tgt := 71) dX10_rankOf_67 rfl ?_
        first | refine J_iaddN (pc := 71) dX10_rankOf_71 ?_ | refine J_iadd (pc := 71) dX10_rankOf_71 ?_
        refine J_istore (pc := 72) dX10_rankOf_72 (by decide) ?_
        refine J_iinc (pc := 74) dX10_rankOf_74 rfl (inc1 _) (by decide) ?_
        refine J_goto (pc := 77) (tgt := 6) dX10_rankOf_77 rfl ?_
        refine J_lvk ih ⟨rfl, ?_, rfl, rfl, rfl, rfl, trivial⟩
        rw [e]; rfl
      have no : x_rank X h f x i = false → J l g mX10_rankOf hgt 0 0 (jPure (.int (nI (cnt (x_rank X h f x) (xV X 1 0)))) S) 70 [(5, .int (nI i)), (4, .int (nI (cnt (x_rank X h f x) i))), (0, .ref b), (1, .int (nI h)), (2, .int (nI f)), (3, .int (nI x))] [.int (nI (cnt (x_rank X h f x) i))] S 0 0 := by
        intro z
        rw [z] at e
        refine J_iconst (pc := 70) (v := nI 0) dX10_rankOf_70 (by decide) ?_
        first | refine J_iaddN (pc := 71) dX10_rankOf_71 ?_ | refine J_iadd (pc := 71) dX10_rankOf_71 ?_
        refine J_istore (pc := 72) dX10_rankOf_72 (by decide) ?_
        refine J_iinc (pc := 74) dX10_rankOf_74 rfl (inc1 _) (by decide) ?_
        refine J_goto (pc := 77) (tgt := 6) dX10_rankOf_77 rfl ?_
        refine J_lvk ih ⟨rfl, ?_, rfl, rfl, rfl, rfl, trivial⟩
        rw [e]; rfl
      refine J_iload (pc := 6) dX10_rankOf_6 rfl ?_
      refine J_aload_n (pc := 8) dX10_rankOf_8 rfl rfl ?_
      refine J_geti (pc := 9) (i := 2) cl8 hW.o (by decide) rfl hW.2.2.1.2.1 kX10_138 dX10_rankOf_9 ?_
      refine J_icmp_geN (pc := 12) (tgt := 80) dX10_rankOf_12 rfl (by omega) (by omega) (fun h0 => ?_) (fun h0 => ?_)
      · omega
      · refine J_iload (pc := 15) dX10_rankOf_15 rfl ?_
        refine J_aload_n (pc := 17) dX10_rankOf_17 rfl rfl ?_
        refine J_getr (pc := 18) (i := 16) cl8 hW.o (by decide) rfl (hW.r 16 rfl) kX10_44 dX10_rankOf_18 ?_
        refine J_iload (pc := 21) dX10_rankOf_21 rfl ?_
        refine J_mld (pc := 23) hW 8 rfl rfl (by show _ < 48; omega) dX10_rankOf_23 ?_
        refine J_iload_n (pc := 24) dX10_rankOf_24 rfl rfl ?_
        refine J_icmp_neN (pc := 25) (tgt := 70) dX10_rankOf_25 rfl (by omega) (by omega) (fun h2 => ?_) (fun h2 => ?_)
        · exact no (by simp [x_rank, win, h2])
        · refine J_aload_n (pc := 28) dX10_rankOf_28 rfl rfl ?_
          refine J_getr (pc := 29) (i := 18) cl8 hW.o (by decide) rfl (hW.r 18 rfl) kX10_50 dX10_rankOf_29 ?_
          refine J_iload (pc := 32) dX10_rankOf_32 rfl ?_
          refine J_mld (pc := 34) hW 10 rfl rfl (by show _ < 48; omega) dX10_rankOf_34 ?_
          refine J_aload_n (pc := 35) dX10_rankOf_35 rfl rfl ?_
          refine J_getr (pc := 36) (i := 18) cl8 hW.o (by decide) rfl (hW.r 18 rfl) kX10_50 dX10_rankOf_36 ?_
          refine J_iload_n (pc := 39) dX10_rankOf_39 rfl rfl ?_
          refine J_mld (pc := 40) hW 10 rfl rfl (by show _ < 48; omega) dX10_rankOf_40 ?_
          refine J_icmp_ltN (pc := 41) (tgt := 66) dX10_rankOf_41 rfl (by omega) (by omega) (fun h3 => ?_) (fun h3 => ?_)
          · exact yes (by simp [x_rank, win, h2, h3, hfi])
          · refine J_aload_n (pc := 44) dX10_rankOf_44 rfl rfl ?_
            refine J_getr (pc := 45) (i := 18) cl8 hW.o (by decide) rfl (hW.r 18 rfl) kX10_50 dX10_rankOf_45 ?_
            refine J_iload (pc := 48) dX10_rankOf_48 rfl ?_
            refine J_mld (pc := 50) hW 10 rfl rfl (by show _ < 48; omega) dX10_rankOf_50 ?_
            refine J_aload_n (pc := 51) dX10_rankOf_51 rfl rfl ?_
            refine J_getr (pc := 52) (i := 18) cl8 hW.o (by decide) rfl (hW.r 18 rfl) kX10_50 dX10_rankOf_52 ?_
            refine J_iload_n (pc := 55) dX10_rankOf_55 rfl rfl ?_
            refine J_mld (pc := 56) hW 10 rfl rfl (by show _ < 48; omega) dX10_rankOf_56 ?_
            refine J_icmp_neN (pc := 57) (tgt := 70) dX10_rankOf_57 rfl (by omega) (by omega) (fun h4 => ?_) (fun h4 => ?_)
            · exact no (by simp [x_rank, win, h4]; omega)
            · refine J_iload (pc := 60) dX10_rankOf_60 rfl ?_
              refine J_iload_n (pc := 62) dX10_rankOf_62 rfl rfl ?_
              refine J_icmp_geN (pc := 63) (tgt := 70) dX10_rankOf_63 rfl (by omega) (by omega) (fun h5 => ?_) (fun h5 => ?_)
              · exact no (by simp [x_rank, win, h4]; omega)
              · exact yes (by simp [x_rank, win, h2, h4, h5, hfi])
  refine J_lvk (loop f hf (Nat.le_refl _)) ⟨rfl, ?_, rfl, rfl, rfl, rfl, trivial⟩
  rw [c0]
  rfl
set_option maxRecDepth 100000 in
theorem cm_cutoff (l : Launch) (g : jG) (hgt : Nat) {S : jS} {b : Nat} {ad : Nat → Nat} {X : XS} {h t : Nat} (hW : WM S b ad X) (hI : xOK X) (hh8 : h < 8) (ht1 : 1 ≤ t) (ht : t < 3) (hh : 1 ≤ hgt) : CT l g mX10_cutoff hgt 0 0 [.ref b, .int (nI h), .int (nI t)] S (jPure (.int (nI (x_cut X h t))) S) := by
  have h48 := hI.many
  refine CT_of qX10_cutoff (Nat.le_of_ble_eq_true rfl) ?_
  refine J_iconst (pc := 0) (v := nI 0) dX10_cutoff_0 (by decide) ?_
  refine J_istore_n (pc := 1) dX10_cutoff_1 rfl (by decide) ?_
  refine J_aload_n (pc := 2) dX10_cutoff_2 rfl rfl ?_
  refine J_geti (pc := 3) (i := 2) cl8 hW.o (by decide) rfl hW.2.2.1.2.1 kX10_138 dX10_cutoff_3 ?_
  refine J_istore (pc := 6) dX10_cutoff_6 (by decide) ?_
  have part2 : ∀ f, f ≤ xV X 1 0 → (f = 0 ∨ cnt (win X h f) (xV X 1 0) = 16) → cnt (win X h f) (xV X 1 0) ≤ 16 → J l g mX10_cutoff hgt 0 0 (jPure (.int (nI (x_cut X h t))) S) 44 [(4, .int (nI f)), (3, .int (nI (cnt (win X h f) (xV X 1 0)))), (0, .ref b), (1, .int (nI h)), (2, .int (nI t))] [] S 0 0 := by
    intro f hf hz h16
    have hlate := late_win hf hz h16
    generalize hc : cnt (win X h f) (xV X 1 0) = c at hz h16
    refine J_iload (pc := 44) dX10_cutoff_44 rfl ?_
    refine J_istore (pc := 46) dX10_cutoff_46 (by decide) ?_
    have loop : ∀ i, i ≤ xV X 1 0 → f ≤ i → (∀ j, f ≤ j → j < i → win X h f j = true → cnt (x_rank X h f j) (xV X 1 0) ≠ t * c / 3) → J l g mX10_cutoff hgt 0 0 (jPure (.int (nI (x_cut X h t))) S) 48 [(5, .int (nI i)), (4, .int (nI f)), (3, .int (nI c)), (0, .ref b), (1, .int (nI h)), (2, .int (nI t))] [] S 0 0 := by
      refine down _ ?_ ?_
      · intro _ hno
        refine J_iload (pc := 48) dX10_cutoff_48 rfl ?_
        refine J_aload_n (pc := 50) dX10_cutoff_50 rfl rfl ?_
        refine J_geti (pc := 51) (i := 2) cl8 hW.o (by decide) rfl hW.2.2.1.2.1 kX10_138 dX10_cutoff_51 ?_
        refine J_icmp_geN (pc := 54) (tgt := 99) dX10_cutoff_54 rfl (by omega) (by omega) (fun h0 => ?_) (fun h0 => ?_)
        · refine J_iconst (pc := 99) (v := nI 0) dX10_cutoff_99 (by decide) ?_
          refine J_iret (pc := 100) dX10_cutoff_100 rfl (by omega) (by omega) ?_
          refine ⟨?_, rfl⟩
          by_cases c0 : c = 0
          · have : x_late X h = [] := by
              apply List.eq_nil_of_length_eq_zero
              rw [hlate, List.length_map, cnt_len, hc, c0]
            rw [x_cut, if_pos this]
          · exfalso
            have hk : t * c / 3 < c := by
              have : t * c ≤ 2 * c := Nat.mul_le_mul_right c (by omega)
              omega
            obtain ⟨x, hx, hw, hr⟩ := cut_ex (X := X) (h := h) (f := f) (k := t * c / 3) (fun x hx => (hI.msg (m := x) (by omega)).1.2.2.1) (by rw [hc]; exact hk)
            exact hno x (by unfold win at hw; simp at hw; exact hw.1) hx hw hr
        · omega
      · intro i hi ih hfi hno
        have hi1 := (hI.msg (m := i) (by omega)).1
        have next : (win X h f i = true → cnt (x_rank X h f i) (xV X 1 0) ≠ t * c / 3) → J l g mX10_cutoff hgt 0 0 (jPure (.int (nI (x_cut X h t))) S) 93 [(5, .int (nI i)), (4, .int (nI f)), (3, .int (nI c)), (0, .ref b), (1, .int (nI h)), (2, .int (nI t))] [] S 0 0 := by
          intro z
          refine J_iinc (pc := 93) dX10_cutoff_93 rfl (inc1 _) (by decide) ?_
          refine J_goto (pc := 96) (tgt := 48) dX10_cutoff_96 rfl ?_
          refine J_lvk (ih (by omega) (fun j h1 h2 h3 => ?_)) ⟨rfl, rfl, rfl, rfl, rfl, rfl, trivial⟩
          by_cases e : j = i
          · subst e
            exact z h3
          · exact hno j h1 (by omega) h3
        refine J_iload (pc := 48) dX10_cutoff_48 rfl ?_
        refine J_aload_n (pc := 50) dX10_cutoff_50 rfl rfl ?_
        refine J_geti (pc := 51) (i := 2) cl8 hW.o (by decide) rfl hW.2.2.1.2.1 kX10_138 dX10_cutoff_51 ?_
        refine J_icmp_geN (pc := 54) (tgt := 99) dX10_cutoff_54 rfl (by omega) (by omega) (fun h0 => ?_) (fun h0 => ?_)
        · omega
        · refine J_aload_n (pc := 57) dX10_cutoff_57 rfl rfl ?_
          refine J_getr (pc := 58) (i := 16) cl8 hW.o (by decide) rfl (hW.r 16 rfl) kX10_44 dX10_cutoff_58 ?_
          refine J_iload (pc := 61) dX10_cutoff_61 rfl ?_
          refine J_mld (pc := 63) hW 8 rfl rfl (by show _ < 48; omega) dX10_cutoff_63 ?_
          refine J_iload_n (pc := 64) dX10_cutoff_64 rfl rfl ?_
          refine J_icmp_neN (pc := 65) (tgt := 93) dX10_cutoff_65 rfl (by omega) (by omega) (fun h2 => ?_) (fun h2 => ?_)
          · exact next (fun z => by unfold win at z; simp at z; exact absurd z.2 h2)
          · have hw : win X h f i = true := by simp [win, h2, hfi]
            have hrl : cnt (x_rank X h f i) (xV X 1 0) ≤ xV X 1 0 := cnt_le _ _
            have htc : t * c ≤ 2 * 16 := Nat.mul_le_mul (by omega) h16
            refine J_aload_n (pc := 68) dX10_cutoff_68 rfl rfl ?_
            refine J_iload_n (pc := 69) dX10_cutoff_69 rfl rfl ?_
            refine J_iload (pc := 70) dX10_cutoff_70 rfl ?_
            refine J_iload (pc := 72) dX10_cutoff_72 rfl ?_
            refine J_callV (pc := 74) (cm_rankOf l g (hgt - 1) hW hI hh8 hf (show i < 48 by omega)) qX10_rankOf vX10_rankOf cl8 rfl hW.o kX10_206 dX10_cutoff_74 rfl rfl (Nat.le_of_ble_eq_true rfl) (by omega) (by omega) (by omega) ?_
            rintro _ _ ⟨rfl, rfl⟩
            refine J_iload_n (pc := 77) dX10_cutoff_77 rfl rfl ?_
            refine J_iload_n (pc := 78) dX10_cutoff_78 rfl rfl ?_
            first | refine J_imulN (pc := 79) dX10_cutoff_79 ?_ | refine J_imul (pc := 79) dX10_cutoff_79 ?_
            refine J_iconst (pc := 80) (v := nI 3) dX10_cutoff_80 (by decide) ?_
            first | refine J_idivN (pc := 81) dX10_cutoff_81 (by omega) (by omega) (by omega) ?_ | refine J_idiv (pc := 81) dX10_cutoff_81 (by decide) ?_
            refine J_icmp_neN (pc := 82) (tgt := 93) dX10_cutoff_82 rfl (by omega) (by omega) (fun h3 => ?_) (fun h3 => ?_)
            · exact next (fun _ => h3)
            · refine J_aload_n (pc := 85) dX10_cutoff_85 rfl rfl ?_
              refine J_getr (pc := 86) (i := 18) cl8 hW.o (by decide) rfl (hW.r 18 rfl) kX10_50 dX10_cutoff_86 ?_
              refine J_iload (pc := 89) dX10_cutoff_89 rfl ?_
              refine J_mld (pc := 91) hW 10 rfl rfl (by show _ < 48; omega) dX10_cutoff_91 ?_
              refine J_iret (pc := 92) dX10_cutoff_92 rfl (by omega) (by omega) ?_
              exact ⟨by rw [cut_of hlate hi hw hi1.2.2.1 (by rw [hc]; exact h3)], rfl⟩
    exact J_lvk (loop f hf (Nat.le_refl _) (fun j h1 h2 => by omega)) ⟨rfl, rfl, rfl, rfl, rfl, rfl, trivial⟩
  have loop1 : ∀ f, f ≤ xV X 1 0 → cnt (win X h f) (xV X 1 0) ≤ 16 → J l g mX10_cutoff hgt 0 0 (jPure (.int (nI (x_cut X h t))) S) 8 [(4, .int (nI f)), (3, .int (nI (cnt (win X h f) (xV X 1 0)))), (0, .ref b), (1, .int (nI h)), (2, .int (nI t))] [] S 0 0 := by
    intro f
    induction f with
    | zero =>
      intro hf h16
      refine J_iload (pc := 8) dX10_cutoff_8 rfl ?_
      refine J_if_leN (pc := 10) (tgt := 44) dX10_cutoff_10 rfl (by omega) (fun h0 => ?_) (fun h0 => ?_)
      · exact part2 0 hf (Or.inl rfl) h16
      · omega
    | succ f ih =>
      intro hf h16
      have hf1 := (hI.msg (m := f) (by omega)).1
      have e : cnt (win X h f) (xV X 1 0) = cnt (win X h (f + 1)) (xV X 1 0) + if xV X 8 f = h then 1 else 0 := by
        rw [cnt_add (f := win X h f) (f' := win X h (f + 1)) (f2 := fun y => decide (y = f) && decide (xV X 8 y = h))]
        · congr 1
          have : ∀ n, f < n → cnt (fun y => decide (y = f) && decide (xV X 8 y = h)) n = if xV X 8 f = h then 1 else 0 := by
            intro n hn
            induction n with
            | zero => omega
            | succ n ihn =>
              show cnt _ n + _ = _
              by_cases en : f = n
              · subst en
                rw [cnt_0 (fun i hi => by simp; omega)]
                simp
              · have en2 : ¬ n = f := by omega
                rw [ihn (by omega)]
                simp [en2]
          exact this _ (by omega)
        · intro i
          unfold win
          by_cases h1 : i = f
          · subst h1
            by_cases h2 : xV X 8 i = h <;> simp [h2] <;> omega
          · by_cases h3 : f ≤ i
            · have h4 : f + 1 ≤ i := by omega
              simp [h1, h3, h4]
            · have h4 : ¬ f + 1 ≤ i := by omega
              simp [h1, h3, h4]
      refine J_iload (pc := 8) dX10_cutoff_8 rfl ?_
      refine J_if_leN (pc := 10) (tgt := 44) dX10_cutoff_10 rfl (by omega) (fun h0 => ?_) (fun h0 => ?_)
      · omega
      · refine J_iload_n (pc := 13) dX10_cutoff_13 rfl rfl ?_
        refine J_bipush (pc := 14) (v := nI 16) dX10_cutoff_14 (by decide) ?_
        refine J_icmp_geN (pc := 16) (tgt := 44) dX10_cutoff_16 rfl (by omega) (by omega) (fun h2 => ?_) (fun h2 => ?_)
        · exact part2 (f + 1) hf (Or.inr (by omega)) h16
        · refine J_iinc (pc := 19) dX10_cutoff_19 rfl (dec1 _) (by decide) ?_
          refine J_iload_n (pc := 22) dX10_cutoff_22 rfl rfl ?_
          refine J_aload_n (pc := 23) dX10_cutoff_23 rfl rfl ?_
          refine J_getr (pc := 24) (i := 16) cl8 hW.o (by decide) rfl (hW.r 16 rfl) kX10_44 dX10_cutoff_24 ?_
          refine J_iload (pc := 27) dX10_cutoff_27 rfl ?_
          refine J_mld (pc := 29) hW 8 rfl rfl (by show _ < 48; omega) dX10_cutoff_29 ?_
          refine J_iload_n (pc := 30) dX10_cutoff_30 rfl rfl ?_
          refine J_icmp_neN (pc := 31) (tgt := 38) dX10_cutoff_31 rfl (by omega) (by omega) (fun h3 => ?_) (fun h3 => ?_)
          · rw [if_neg h3] at e
            refine J_iconst (pc := 38) (v := nI 0) dX10_cutoff_38 (by decide) ?_
            first | refine J_iaddN (pc := 39) dX10_cutoff_39 ?_ | refine J_iadd (pc := 39) dX10_cutoff_39 ?_
            refine J_istore_n (pc := 40) dX10_cutoff_40 rfl (by decide) ?_
            refine J_goto (pc := 41) (tgt := 8) dX10_cutoff_41 rfl ?_
            refine J_lvk (ih (by omega) (by omega)) ⟨rfl, ?_, rfl, rfl, rfl, trivial⟩
            rw [e]; rfl
          · rw [if_pos h3] at e
            refine J_iconst (pc := 34) (v := nI 1) dX10_cutoff_34 (by decide) ?_
            refine J_goto (pc := 35) (tgt := 39) dX10_cutoff_35 rfl ?_
            first | refine J_iaddN (pc := 39) dX10_cutoff_39 ?_ | refine J_iadd (pc := 39) dX10_cutoff_39 ?_
            refine J_istore_n (pc := 40) dX10_cutoff_40 rfl (by decide) ?_
            refine J_goto (pc := 41) (tgt := 8) dX10_cutoff_41 rfl ?_
            refine J_lvk (ih (by omega) (by omega)) ⟨rfl, ?_, rfl, rfl, rfl, trivial⟩
            rw [e]; rfl
  have c0 : cnt (win X h (xV X 1 0)) (xV X 1 0) = 0 := cnt_0 (fun i hi => by unfold win; simp; omega)
  refine J_lvk (loop1 (xV X 1 0) (Nat.le_refl _) (by omega)) ⟨rfl, ?_, rfl, rfl, rfl, trivial⟩
  rw [c0]
  rfl
end
section
set_option maxRecDepth 100000 in
theorem jm_sendDue (l : Launch) (g : jG) (hgt : Nat) {S : jS} {b : Nat} {ad : Nat → Nat} {X : XS} {h : Nat} {e : Nat × Nat × Nat} {t : List (Nat × Nat × Nat)} (hW : WM S b ad X) (hI : xOK X) (hh8 : h < 8) (hl2 : xL X (96 + h) = e :: t) (hh : 1 ≤ hgt) : J l g mX10_send hgt 0 0 (mPost b ad (x_send X h)) 9 [(0, .ref b), (1, .int (nI h))] [] S 0 0 := by
  obtain ⟨q8, qw, qe⟩ := hW.2.2.2.2.2.2.2 h hh8
  have he := qe 0 e (by rw [hl2]; rfl)
  rw [hl2, List.length_cons] at q8 qw
  refine J_bipush (pc := 9) (v := nI 24) dX10_send_9 (by decide) ?_
  refine J_iload_n (pc := 11) dX10_send_11 rfl rfl ?_
  first | refine J_imulN (pc := 12) dX10_send_12 ?_ | refine J_imul (pc := 12) dX10_send_12 ?_
  refine J_istore_n (pc := 13) dX10_send_13 rfl (by decide) ?_
  refine J_aload_n (pc := 14) dX10_send_14 rfl rfl ?_
  refine J_getr (pc := 15) (i := 38) cl8 hW.o (by decide) rfl (hW.r 38 rfl) kX10_110 dX10_send_15 ?_
  refine J_iload_n (pc := 18) dX10_send_18 rfl rfl ?_
  refine J_iald (pc := 19) (hW.a 38 rfl) rfl (show _ < 192 by omega) (by first | omega | exact mLn_lt _) he.1 dX10_send_19 ?_
  refine J_istore_n (pc := 20) dX10_send_20 rfl (by decide) ?_
  refine J_aload_n (pc := 21) dX10_send_21 rfl rfl ?_
  refine J_getr (pc := 22) (i := 39) cl8 hW.o (by decide) rfl (hW.r 39 rfl) kX10_113 dX10_send_22 ?_
  refine J_iload_n (pc := 25) dX10_send_25 rfl rfl ?_
  refine J_iald (pc := 26) (hW.a 39 rfl) rfl (show _ < 192 by omega) (by first | omega | exact mLn_lt _) he.2.1 dX10_send_26 ?_
  refine J_istore (pc := 27) dX10_send_27 (by decide) ?_
  refine J_aload_n (pc := 29) dX10_send_29 rfl rfl ?_
  refine J_getr (pc := 30) (i := 40) cl8 hW.o (by decide) rfl (hW.r 40 rfl) kX10_116 dX10_send_30 ?_
  refine J_iload_n (pc := 33) dX10_send_33 rfl rfl ?_
  refine J_iald (pc := 34) (hW.a 40 rfl) rfl (show _ < 192 by omega) (by first | omega | exact mLn_lt _) he.2.2 dX10_send_34 ?_
  refine J_istore (pc := 35) dX10_send_35 (by decide) ?_
  refine J_aload_n (pc := 37) dX10_send_37 rfl rfl ?_
  refine J_getr (pc := 38) (i := 37) cl8 hW.o (by decide) rfl (hW.r 37 rfl) kX10_107 dX10_send_38 ?_
  refine J_iload_n (pc := 41) dX10_send_41 rfl rfl ?_
  refine J_dup2_11 (pc := 42) dX10_send_42 rfl rfl ?_
  refine J_iald (pc := 43) (hW.a 37 rfl) rfl hh8 (by first | omega | exact mLn_lt _) qw dX10_send_43 ?_
  refine J_iconst (pc := 44) (v := nI 1) dX10_send_44 (by decide) ?_
  first | refine J_isubN (pc := 45) dX10_send_45 (by omega) ?_ | refine J_isub (pc := 45) dX10_send_45 ?_
  refine J_iast (pc := 46) (hW.a 37 rfl) rfl hh8 (by first | omega | exact mLn_lt _) dX10_send_46 ?_
  refine J_iload_n (pc := 47) dX10_send_47 rfl rfl ?_
  refine J_istore (pc := 48) dX10_send_48 (by decide) ?_
  have sloop : ∀ j, j ≤ t.length → ∀ S2, mOnly ad mLs S S2 → (∀ k, mArr k = true → k ≠ 37 → k ≠ 38 → k ≠ 39 → k ≠ 40 → sI S2 9 (ad k) = sI S 9 (ad k)) → sI S2 9 (ad 37) = upd (sI S 9 (ad 37)) h (nI t.length) → sI S2 9 (ad 38) = shf (sI S 9 (ad 38)) (24 * h) j → sI S2 9 (ad 39) = shf (sI S 9 (ad 39)) (24 * h) j → sI S2 9 (ad 40) = shf (sI S 9 (ad 40)) (24 * h) j → J l g mX10_send hgt 0 0 (mPost b ad (x_send X h)) 50 [(6, .int (nI (24 * h + j))), (5, .int (nI e.2.2)), (4, .int (nI e.2.1)), (3, .int (nI e.1)), (2, .int (nI (24 * h))), (0, .ref b), (1, .int (nI h))] [] S2 0 0 := by
    refine down _ ?_ ?_
    · intro S2 hO e0 ew ek ea ec
      have hw2 : sI S2 9 (ad 37) h = nI t.length := by rw [ew]; simp [upd]
      refine J_iload (pc := 50) dX10_send_50 rfl ?_
      refine J_iload_n (pc := 52) dX10_send_52 rfl rfl ?_
      refine J_aload_n (pc := 53) dX10_send_53 rfl rfl ?_
      refine J_getr (pc := 54) (i := 37) cl8 (hO.o hW) (by decide) rfl (hO.r hW 37 rfl) kX10_107 dX10_send_54 ?_
      refine J_iload_n (pc := 57) dX10_send_57 rfl rfl ?_
      refine J_iald (pc := 58) (hO.a hW 37 rfl) rfl hh8 (by first | omega | exact mLn_lt _) hw2 dX10_send_58 ?_
      first | refine J_iaddN (pc := 59) dX10_send_59 ?_ | refine J_iadd (pc := 59) dX10_send_59 ?_
      refine J_icmp_geN (pc := 60) (tgt := 117) dX10_send_60 rfl (by omega) (by omega) (fun h2 => ?_) (fun h2 => ?_)
      · have hW := hW.wD0 _ hh8 hl2 hO e0 ew ek ea ec
        refine J_aload_n (pc := 117) dX10_send_117 rfl rfl ?_
        refine J_getr (pc := 118) (i := 41) cl8 hW.o (by decide) rfl (hW.r 41 rfl) kX10_119 dX10_send_118 ?_
        refine J_iload_n (pc := 121) dX10_send_121 rfl rfl ?_
        refine J_dup2_11 (pc := 122) dX10_send_122 rfl rfl ?_
        refine J_mld (pc := 123) hW 27 rfl rfl (by show _ < 8; omega) dX10_send_123 ?_
        refine J_iconst (pc := 124) (v := nI 1) dX10_send_124 (by decide) ?_
        first | refine J_iaddN (pc := 125) dX10_send_125 ?_ | refine J_iadd (pc := 125) dX10_send_125 ?_
        refine J_mst (pc := 126) hW 27 rfl rfl (by show _ < 8; omega) rfl dX10_send_126 (fun hW => ?_)
        refine J_aload_n (pc := 127) dX10_send_127 rfl rfl ?_
        refine J_iload_n (pc := 128) dX10_send_128 rfl rfl ?_
        refine J_iload_n (pc := 129) dX10_send_129 rfl rfl ?_
        refine J_iload (pc := 130) dX10_send_130 rfl ?_
        refine J_iload (pc := 132) dX10_send_132 rfl ?_
        refine J_iconst (pc := 134) (v := nI 0) dX10_send_134 (by decide) ?_
        refine J_callV (pc := 135) (cm_enter l g (hgt - 1) (k := e.1) (m := e.2.1) (c := e.2.2) (p := 0) hW (by rw [xV_nf (by decide), xV_yL]; exact (hI.link (show h < 24 by omega)).1) (show h < 24 by omega)) qX10_enter vX10_enter cl8 rfl hW.o kX10_166 dX10_send_135 rfl rfl (Nat.le_of_ble_eq_true rfl) (by omega) (by omega) (by omega) ?_
        rintro _ _ ⟨rfl, hW⟩
        refine J_vret (pc := 138) dX10_send_138 rfl (by omega) (by omega) ?_
        refine ⟨rfl, ?_⟩
        rw [x_send, hl2]
        exact hW
      · omega
    · intro j hj ih S2 hO e0 ew ek ea ec
      have n1 := hW.ne (k := 38) (k' := 37) rfl rfl (by decide)
      have n2 := hW.ne (k := 39) (k' := 37) rfl rfl (by decide)
      have n3 := hW.ne (k := 40) (k' := 37) rfl rfl (by decide)
      have n4 := hW.ne (k := 38) (k' := 39) rfl rfl (by decide)
      have n5 := hW.ne (k := 38) (k' := 40) rfl rfl (by decide)
      have n6 := hW.ne (k := 39) (k' := 40) rfl rfl (by decide)
      have hw2 : sI S2 9 (ad 37) h = nI t.length := by rw [ew]; simp [upd]
      refine J_iload (pc := 50) dX10_send_50 rfl ?_
      refine J_iload_n (pc := 52) dX10_send_52 rfl rfl ?_
      refine J_aload_n (pc := 53) dX10_send_53 rfl rfl ?_
      refine J_getr (pc := 54) (i := 37) cl8 (hO.o hW) (by decide) rfl (hO.r hW 37 rfl) kX10_107 dX10_send_54 ?_
      refine J_iload_n (pc := 57) dX10_send_57 rfl rfl ?_
      refine J_iald (pc := 58) (hO.a hW 37 rfl) rfl hh8 (by first | omega | exact mLn_lt _) hw2 dX10_send_58 ?_
      first | refine J_iaddN (pc := 59) dX10_send_59 ?_ | refine J_iadd (pc := 59) dX10_send_59 ?_
      refine J_icmp_geN (pc := 60) (tgt := 117) dX10_send_60 rfl (by omega) (by omega) (fun h2 => ?_) (fun h2 => ?_)
      · omega
      · refine J_aload_n (pc := 63) dX10_send_63 rfl rfl ?_
        refine J_getr (pc := 64) (i := 38) cl8 (hO.o hW) (by decide) rfl (hO.r hW 38 rfl) kX10_110 dX10_send_64 ?_
        refine J_iload (pc := 67) dX10_send_67 rfl ?_
        refine J_aload_n (pc := 69) dX10_send_69 rfl rfl ?_
        refine J_getr (pc := 70) (i := 38) cl8 (hO.o hW) (by decide) rfl (hO.r hW 38 rfl) kX10_110 dX10_send_70 ?_
        refine J_iload (pc := 73) dX10_send_73 rfl ?_
        refine J_iconst (pc := 75) (v := nI 1) dX10_send_75 (by decide) ?_
        first | refine J_iaddN (pc := 76) dX10_send_76 ?_ | refine J_iadd (pc := 76) dX10_send_76 ?_
        refine J_iald (pc := 77) (hO.a hW 38 rfl) rfl (show _ < 192 by omega) (by first | omega | exact mLn_lt _) (congrFun ek _) dX10_send_77 ?_
        refine J_iast (pc := 78) (hO.a hW 38 rfl) rfl (show _ < 192 by omega) (by first | omega | exact mLn_lt _) dX10_send_78 ?_
        refine J_aload_n (pc := 79) dX10_send_79 rfl rfl ?_
        refine J_getr (pc := 80) (i := 39) cl8 (hO.o hW) (by decide) rfl (hO.r hW 39 rfl) kX10_113 dX10_send_80 ?_
        refine J_iload (pc := 83) dX10_send_83 rfl ?_
        refine J_aload_n (pc := 85) dX10_send_85 rfl rfl ?_
        refine J_getr (pc := 86) (i := 39) cl8 (hO.o hW) (by decide) rfl (hO.r hW 39 rfl) kX10_113 dX10_send_86 ?_
        refine J_iload (pc := 89) dX10_send_89 rfl ?_
        refine J_iconst (pc := 91) (v := nI 1) dX10_send_91 (by decide) ?_
        first | refine J_iaddN (pc := 92) dX10_send_92 ?_ | refine J_iadd (pc := 92) dX10_send_92 ?_
        refine J_iald (pc := 93) (hO.a hW 39 rfl) rfl (show _ < 192 by omega) (by first | omega | exact mLn_lt _) ((congrFun (sl_a n4.symm) _).trans (congrFun ea _)) dX10_send_93 ?_
        refine J_iast (pc := 94) (hO.a hW 39 rfl) rfl (show _ < 192 by omega) (by first | omega | exact mLn_lt _) dX10_send_94 ?_
        refine J_aload_n (pc := 95) dX10_send_95 rfl rfl ?_
        refine J_getr (pc := 96) (i := 40) cl8 (hO.o hW) (by decide) rfl (hO.r hW 40 rfl) kX10_116 dX10_send_96 ?_
        refine J_iload (pc := 99) dX10_send_99 rfl ?_
        refine J_aload_n (pc := 101) dX10_send_101 rfl rfl ?_
        refine J_getr (pc := 102) (i := 40) cl8 (hO.o hW) (by decide) rfl (hO.r hW 40 rfl) kX10_116 dX10_send_102 ?_
        refine J_iload (pc := 105) dX10_send_105 rfl ?_
        refine J_iconst (pc := 107) (v := nI 1) dX10_send_107 (by decide) ?_
        first | refine J_iaddN (pc := 108) dX10_send_108 ?_ | refine J_iadd (pc := 108) dX10_send_108 ?_
        refine J_iald (pc := 109) (hO.a hW 40 rfl) rfl (show _ < 192 by omega) (by first | omega | exact mLn_lt _) ((congrFun (sl_a n6.symm) _).trans ((congrFun (sl_a n5.symm) _).trans (congrFun ec _))) dX10_send_109 ?_
        refine J_iast (pc := 110) (hO.a hW 40 rfl) rfl (show _ < 192 by omega) (by first | omega | exact mLn_lt _) dX10_send_110 ?_
        refine J_iinc (pc := 111) dX10_send_111 rfl (inc1 _) (by decide) ?_
        refine J_goto (pc := 114) (tgt := 50) dX10_send_114 rfl ?_
        refine J_lvk (ih _ (((hO.wr hW rfl (by decide)).wr hW rfl (by decide)).wr hW rfl (by decide)) ?_ ?_ ?_ ?_ ?_) ⟨rfl, rfl, rfl, rfl, rfl, rfl, rfl, trivial⟩
        · intro k hk k8 k9 ka kb
          rw [sl_a (hW.ne hk rfl kb), sl_a (hW.ne hk rfl ka), sl_a (hW.ne hk rfl k9)]
          exact e0 k hk k8 k9 ka kb
        · rw [sl_a n3.symm, sl_a n2.symm, sl_a n1.symm]
          exact ew
        · rw [sl_a n5, sl_a n4, sl_s, ek, shf_s]
        · rw [sl_a n6, sl_s, sl_a n4.symm, ea, shf_s]
        · rw [sl_s, sl_a n6.symm, sl_a n5.symm, ec, shf_s]
  refine J_lvk (sloop 0 (Nat.zero_le _) _ (mOnly.rf.wr hW rfl (by decide)) ?_ sl_s ?_ ?_ ?_) ⟨rfl, rfl, rfl, rfl, rfl, rfl, rfl, trivial⟩
  · intro k hk k8 k9 ka kb
    exact sl_a (hW.ne hk rfl k8)
  · rw [shf_0]; exact sl_a (hW.ne rfl rfl (by decide))
  · rw [shf_0]; exact sl_a (hW.ne rfl rfl (by decide))
  · rw [shf_0]; exact sl_a (hW.ne rfl rfl (by decide))
theorem li_m1 {a : Nat} : ((if a < 60 then nI a else -1) = (-1 : Int32)) ↔ ¬ a < 60 := by
  by_cases h : a < 60
  · rw [if_pos h]
    refine ⟨fun z => ?_, fun z => absurd h z⟩
    have h1 : (nI a).toInt = a := nI_toInt (by omega)
    have h2 : (nI a).toInt = -1 := by rw [z]; rfl
    omega
  · rw [if_neg h]
    exact ⟨fun _ => h, fun _ => rfl⟩
theorem x_short_lt {X : XS} {h : Nat} : ∀ {n x : Nat}, x_short X h n = some x → x < n
  | 0, x, e => by cases e
  | n + 1, x, e => by
    unfold x_short at e
    split at e
    · cases e
      omega
    · have := x_short_lt e
      omega
theorem x_left_le {X : XS} {m : Nat} (h : xV X 10 m ≤ 60) : x_left X m ≤ 120 := by
  have := cnt_le (xB X 0 m) 60
  unfold x_left
  omega
set_option maxRecDepth 100000 in
theorem jm_short (l : Launch) (g : jG) (hgt : Nat) {S : jS} {b : Nat} {ad : Nat → Nat} {X : XS} {h : Nat} {Q : Option Value → jS → Prop} (hW : WM S b ad X) (hI : xOK X) (hh8 : h < 8) (hh : 1 ≤ hgt)
    (kk : J l g mX10_send hgt 0 0 Q 232 [(2, .int (oI (x_short X h (xV X 1 0)))), (0, .ref b), (1, .int (nI h))] [] S 0 0) : J l g mX10_send hgt 0 0 Q 139 [(0, .ref b), (1, .int (nI h))] [] S 0 0 := by
  have h48 := hI.many
  refine J_iconst (pc := 139) (v := (-1)) dX10_send_139 (by decide) ?_
  refine J_istore_n (pc := 140) dX10_send_140 rfl (by decide) ?_
  refine J_iconst (pc := 141) (v := nI 0) dX10_send_141 (by decide) ?_
  refine J_istore_n (pc := 142) dX10_send_142 rfl (by decide) ?_
  have loop : ∀ i, i ≤ xV X 1 0 → J l g mX10_send hgt 0 0 Q 143 [(3, .int (nI i)), (2, .int (oI (x_short X h i))), (0, .ref b), (1, .int (nI h))] [] S 0 0 := by
    refine down _ ?_ ?_
    · refine J_iload_n (pc := 143) dX10_send_143 rfl rfl ?_
      refine J_aload_n (pc := 144) dX10_send_144 rfl rfl ?_
      refine J_geti (pc := 145) (i := 2) cl8 hW.o (by decide) rfl hW.2.2.1.2.1 kX10_138 dX10_send_145 ?_
      refine J_icmp_geN (pc := 148) (tgt := 232) dX10_send_148 rfl (by omega) (by omega) (fun h0 => ?_) (fun h0 => ?_)
      · exact J_lvk kk ⟨rfl, rfl, rfl, trivial⟩
      · omega
    · intro i hi ih
      have h1 := hI.msg (m := i) (by omega)
      have hs : x_short X h (i + 1) = if x_can X h i = true ∧ (∀ y, x_short X h i = some y → x_left X i < x_left X y) then some i else x_short X h i := rfl
      have next : J l g mX10_send hgt 0 0 Q 226 [(3, .int (nI i)), (2, .int (oI (x_short X h (i + 1)))), (0, .ref b), (1, .int (nI h))] [] S 0 0 := by
        refine J_iinc (pc := 226) dX10_send_226 rfl (inc1 _) (by decide) ?_
        refine J_goto (pc := 229) (tgt := 143) dX10_send_229 rfl ?_
        exact J_lvk ih ⟨rfl, rfl, rfl, rfl, trivial⟩
      have nxno : ¬ (x_can X h i = true ∧ (∀ y, x_short X h i = some y → x_left X i < x_left X y)) → J l g mX10_send hgt 0 0 Q 226 [(3, .int (nI i)), (2, .int (oI (x_short X h i))), (0, .ref b), (1, .int (nI h))] [] S 0 0 := by
        intro z
        rw [if_neg z] at hs
        rw [hs] at next
        exact next
      have no : x_can X h i = false → J l g mX10_send hgt 0 0 Q 198 [(3, .int (nI i)), (2, .int (oI (x_short X h i))), (0, .ref b), (1, .int (nI h))] [] S 0 0 := by
        intro z
        refine J_iconst (pc := 198) (v := nI 0) dX10_send_198 (by decide) ?_
        refine J_istore (pc := 199) dX10_send_199 (by decide) ?_
        refine J_iload (pc := 201) dX10_send_201 rfl ?_
        refine J_if_eqN (pc := 203) (tgt := 226) dX10_send_203 rfl (by omega) (fun z1 => ?_) (fun z1 => ?_)
        · exact J_lvk (nxno (fun w => by rw [z] at w; cases w.1)) ⟨rfl, rfl, rfl, rfl, trivial⟩
        · exact absurd rfl z1
      have yes : x_can X h i = true → J l g mX10_send hgt 0 0 Q 194 [(3, .int (nI i)), (2, .int (oI (x_short X h i))), (0, .ref b), (1, .int (nI h))] [] S 0 0 := by
        intro z
        refine J_iconst (pc := 194) (v := nI 1) dX10_send_194 (by decide) ?_
        refine J_goto (pc := 195) (tgt := 199) dX10_send_195 rfl ?_
        refine J_istore (pc := 199) dX10_send_199 (by decide) ?_
        refine J_iload (pc := 201) dX10_send_201 rfl ?_
        refine J_if_eqN (pc := 203) (tgt := 226) dX10_send_203 rfl (by omega) (fun z1 => ?_) (fun z1 => ?_)
        · cases z1
        · refine J_iload_n (pc := 206) dX10_send_206 rfl rfl ?_
          refine J_iconst (pc := 207) (v := (-1)) dX10_send_207 (by decide) ?_
          have take : (∀ y, x_short X h i = some y → x_left X i < x_left X y) → J l g mX10_send hgt 0 0 Q 224 [(3, .int (nI i)), (2, .int (oI (x_short X h i))), (0, .ref b), (1, .int (nI h))] [] S 0 0 := by
            intro w
            rw [if_pos ⟨z, w⟩] at hs
            rw [hs] at next
            refine J_iload_n (pc := 224) dX10_send_224 rfl rfl ?_
            refine J_istore_n (pc := 225) dX10_send_225 rfl (by decide) ?_
            exact J_lvk next ⟨rfl, rfl, rfl, rfl, trivial⟩
          refine J_icmp_eq (pc := 208) (tgt := 224) dX10_send_208 rfl (fun h5 => ?_) (fun h5 => ?_)
          · have h5 := (oI_m1 (fun x hx => by have := x_short_lt hx; omega)).mp h5
            exact J_lvk (take (fun y hy => by rw [h5] at hy; cases hy)) ⟨rfl, rfl, rfl, rfl, trivial⟩
          · cases hb : x_short X h i with
            | none => rw [hb] at h5; exact absurd rfl h5
            | some y =>
              have hy := x_short_lt hb
              have l1 := x_left_le (X := X) (m := i) h1.1.2.2.1
              have l2 := x_left_le (X := X) (m := y) (hI.msg (m := y) (by omega)).1.2.2.1
              rw [hb] at take nxno
              refine J_aload_n (pc := 211) dX10_send_211 rfl rfl ?_
              refine J_iload_n (pc := 212) dX10_send_212 rfl rfl ?_
              refine J_callV (pc := 213) (cm_left l g (hgt - 1) hW hI (show i < 48 by omega)) qX10_left vX10_left cl8 rfl hW.o kX10_200 dX10_send_213 rfl rfl (Nat.le_of_ble_eq_true rfl) (by omega) (by omega) (by omega) ?_
              rintro _ _ ⟨rfl, rfl⟩
              refine J_aload_n (pc := 216) dX10_send_216 rfl rfl ?_
              refine J_iload_n (pc := 217) dX10_send_217 rfl rfl ?_
              refine J_callV (pc := 218) (cm_left l g (hgt - 1) hW hI (show y < 48 by omega)) qX10_left vX10_left cl8 rfl hW.o kX10_200 dX10_send_218 rfl rfl (Nat.le_of_ble_eq_true rfl) (by omega) (by omega) (by omega) ?_
              rintro _ _ ⟨rfl, rfl⟩
              refine J_icmp_geN (pc := 221) (tgt := 226) dX10_send_221 rfl (by omega) (by omega) (fun h6 => ?_) (fun h6 => ?_)
              · exact J_lvk (nxno (fun w => by have := w.2 y rfl; omega)) ⟨rfl, rfl, rfl, rfl, trivial⟩
              · exact J_lvk (take (fun y' hy' => by cases hy'; exact h6)) ⟨rfl, rfl, rfl, rfl, trivial⟩
      refine J_iload_n (pc := 143) dX10_send_143 rfl rfl ?_
      refine J_aload_n (pc := 144) dX10_send_144 rfl rfl ?_
      refine J_geti (pc := 145) (i := 2) cl8 hW.o (by decide) rfl hW.2.2.1.2.1 kX10_138 dX10_send_145 ?_
      refine J_icmp_geN (pc := 148) (tgt := 232) dX10_send_148 rfl (by omega) (by omega) (fun h0 => ?_) (fun h0 => ?_)
      · omega
      · refine J_aload_n (pc := 151) dX10_send_151 rfl rfl ?_
        refine J_getr (pc := 152) (i := 16) cl8 hW.o (by decide) rfl (hW.r 16 rfl) kX10_44 dX10_send_152 ?_
        refine J_iload_n (pc := 155) dX10_send_155 rfl rfl ?_
        refine J_mld (pc := 156) hW 8 rfl rfl (by show _ < 48; omega) dX10_send_156 ?_
        refine J_iload_n (pc := 157) dX10_send_157 rfl rfl ?_
        refine J_icmp_neN (pc := 158) (tgt := 198) dX10_send_158 rfl (by omega) (by omega) (fun h2 => ?_) (fun h2 => ?_)
        · exact no (by simp [x_can, h2])
        · refine J_aload_n (pc := 161) dX10_send_161 rfl rfl ?_
          refine J_getr (pc := 162) (i := 20) cl8 hW.o (by decide) rfl (hW.r 20 rfl) kX10_56 dX10_send_162 ?_
          refine J_iload_n (pc := 165) dX10_send_165 rfl rfl ?_
          refine J_mld (pc := 166) hW 12 rfl rfl (by show _ < 48; omega) dX10_send_166 ?_
          refine J_if_neN (pc := 167) (tgt := 198) dX10_send_167 rfl (by omega) (fun h3 => ?_) (fun h3 => ?_)
          · exact no (by simp [x_can, h3])
          · refine J_aload_n (pc := 170) dX10_send_170 rfl rfl ?_
            refine J_iload_n (pc := 171) dX10_send_171 rfl rfl ?_
            refine J_callV (pc := 172) (cm_least l g (hgt - 1) hW (show i < 48 by omega)) qX10_least vX10_least cl8 rfl hW.o kX10_197 dX10_send_172 rfl rfl (Nat.le_of_ble_eq_true rfl) (by omega) (by omega) (by omega) ?_
            rintro _ _ ⟨rfl, rfl⟩
            refine J_iconst (pc := 175) (v := (-1)) dX10_send_175 (by decide) ?_
            refine J_icmp_ne (pc := 176) (tgt := 194) dX10_send_176 rfl (fun h4 => ?_) (fun h4 => ?_)
            · have h4 : x_least X i < 60 := Decidable.byContradiction (fun z => h4 (li_m1.mpr z))
              exact yes (by simp [x_can, h2, h3, h4])
            · have h4 := li_m1.mp h4
              refine J_aload_n (pc := 179) dX10_send_179 rfl rfl ?_
              refine J_getr (pc := 180) (i := 21) cl8 hW.o (by decide) rfl (hW.r 21 rfl) kX10_59 dX10_send_180 ?_
              refine J_iload_n (pc := 183) dX10_send_183 rfl rfl ?_
              refine J_mld (pc := 184) hW 13 rfl rfl (by show _ < 48; omega) dX10_send_184 ?_
              refine J_aload_n (pc := 185) dX10_send_185 rfl rfl ?_
              refine J_getr (pc := 186) (i := 22) cl8 hW.o (by decide) rfl (hW.r 22 rfl) kX10_62 dX10_send_186 ?_
              refine J_iload_n (pc := 189) dX10_send_189 rfl rfl ?_
              refine J_mld (pc := 190) hW 14 rfl rfl (by show _ < 48; omega) dX10_send_190 ?_
              refine J_icmp_geN (pc := 191) (tgt := 198) dX10_send_191 rfl (by omega) (by omega) (fun h5 => ?_) (fun h5 => ?_)
              · exact no (by simp [x_can, h4]; omega)
              · exact yes (by simp [x_can, h2, h3, h5])
  exact J_lvk (loop 0 (Nat.zero_le _)) ⟨rfl, rfl, rfl, rfl, trivial⟩
theorem x_cut_sm {X Y : XS} (h : xSm X Y) (a t : Nat) : x_cut Y a t = x_cut X a t := by
  have e1 : x_lens Y a = x_lens X a := by
    unfold x_lens
    rw [h.1, h.2.1, h.2.2.2.1]
  have e2 : x_late Y a = x_late X a := by
    unfold x_late
    rw [e1]
  unfold x_cut
  rw [e2]
theorem cut_le {X : XS} {a t : Nat} : x_cut X a t ≤ 61 := by
  unfold x_cut
  split
  · omega
  · exact lst_le _ _
theorem xSm_takePlace (X : XS) (m : Nat) : xSm X (x_takePlace X m) := by
  unfold x_takePlace
  split
  · exact ⟨rfl, rfl, rfl, rfl, rfl⟩
  · exact ⟨xV_nf (by decide), xV_nf (by decide), xV_nf (by decide), xV_nf (by decide), xV_nf (by decide)⟩
set_option maxRecDepth 100000 in
theorem cm_send (l : Launch) (g : jG) (hgt : Nat) {S : jS} {b : Nat} {ad : Nat → Nat} {X : XS} {h : Nat} (hW : WM S b ad X) (hI : xOK X) (hT : ∀ m, x_short X h (xV X 1 0) = some m → xOK (x_takePlace X m)) (hh8 : h < 8) (hh : 2 ≤ hgt) : CT l g mX10_send hgt 0 0 [.ref b, .int (nI h)] S (mPost b ad (x_send X h)) := by
  obtain ⟨q8, qw, qe⟩ := hW.2.2.2.2.2.2.2 h hh8
  have h48 := hI.many
  refine CT_of qX10_send (Nat.le_of_ble_eq_true rfl) ?_
  refine J_aload_n (pc := 0) dX10_send_0 rfl rfl ?_
  refine J_getr (pc := 1) (i := 37) cl8 hW.o (by decide) rfl (hW.r 37 rfl) kX10_107 dX10_send_1 ?_
  refine J_iload_n (pc := 4) dX10_send_4 rfl rfl ?_
  refine J_iald (pc := 5) (hW.a 37 rfl) rfl hh8 (by first | omega | exact mLn_lt _) qw dX10_send_5 ?_
  refine J_if_leN (pc := 6) (tgt := 139) dX10_send_6 rfl (by omega) (fun h0 => ?_) (fun h0 => ?_)
  · have hnil : xL X (96 + h) = [] := List.eq_nil_of_length_eq_zero h0
    refine jm_short l g hgt hW hI hh8 (by omega) ?_
    refine J_iload_n (pc := 232) dX10_send_232 rfl rfl ?_
    refine J_iconst (pc := 233) (v := (-1)) dX10_send_233 (by decide) ?_
    refine J_icmp_ne (pc := 234) (tgt := 238) dX10_send_234 rfl (fun h5 => ?_) (fun h5 => ?_)
    · cases hb : x_short X h (xV X 1 0) with
      | none => rw [hb] at h5; exact absurd rfl h5
      | some m =>
        have hm := x_short_lt hb
        have h1 := hI.msg (m := m) (by omega)
        have hI2 := hT m hb
        have hsm := xSm_takePlace X m
        have fin : x_send X h = x_enter (x_sent1 (x_takePlace X m) h) h (0, m, x_place X m) (x_prio X h m (x_place X m)) := by
          rw [x_send, hnil]
          show (match x_short X h (xV X 1 0) with | none => X | some m => _) = _
          rw [hb]
        have hcan : x_place X m < 60 := by
          have : x_can X h m = true := by
            have key : ∀ n, x_short X h n = some m → x_can X h m = true := by
              intro n
              induction n with
              | zero => intro z; cases z
              | succ n ih =>
                intro z
                unfold x_short at z
                split at z
                · rename_i w
                  cases z
                  exact w.1
                · exact ih z
            exact key _ hb
          unfold x_place
          split
          · assumption
          · rename_i w
            simp [x_can, w] at this
            omega
        have tail : ∀ S2, WM S2 b ad (x_takePlace X m) → J l g mX10_send hgt 0 0 (mPost b ad (x_send X h)) 281 [(3, .int (nI (x_place X m))), (2, .int (nI m)), (0, .ref b), (1, .int (nI h))] [] S2 0 0 := by
          intro S2 hW
          have e10 : xV (x_takePlace X m) 10 = xV X 10 := hsm.2.2.2.1
          have e15 : xV (x_takePlace X m) 15 = xV X 15 := by
            unfold x_takePlace
            split
            · rfl
            · exact xV_nf (by decide)
          have e4 : xV (x_takePlace X m) 4 = xV X 4 := by
            unfold x_takePlace
            split
            · rfl
            · exact xV_nf (by decide)
          have ec := x_cut_sm hsm h
          generalize x_takePlace X m = Y at hW hI2 e10 e15 e4 ec fin
          have last : ∀ p, p = x_prio X h m (x_place X m) → J l g mX10_send hgt 0 0 (mPost b ad (x_send X h)) 334 [(3, .int (nI (x_place X m))), (2, .int (nI m)), (0, .ref b), (1, .int (nI h))] [.int (nI p)] S2 0 0 := by
            intro p hp
            refine J_istore (pc := 334) dX10_send_334 (by decide) ?_
            refine J_aload_n (pc := 336) dX10_send_336 rfl rfl ?_
            refine J_getr (pc := 337) (i := 41) cl8 hW.o (by decide) rfl (hW.r 41 rfl) kX10_119 dX10_send_337 ?_
            refine J_iload_n (pc := 340) dX10_send_340 rfl rfl ?_
            refine J_dup2_11 (pc := 341) dX10_send_341 rfl rfl ?_
            refine J_mld (pc := 342) hW 27 rfl rfl (by show _ < 8; omega) dX10_send_342 ?_
            refine J_iconst (pc := 343) (v := nI 1) dX10_send_343 (by decide) ?_
            first | refine J_iaddN (pc := 344) dX10_send_344 ?_ | refine J_iadd (pc := 344) dX10_send_344 ?_
            refine J_mst (pc := 345) hW 27 rfl rfl (by show _ < 8; omega) rfl dX10_send_345 (fun hW => ?_)
            refine J_aload_n (pc := 346) dX10_send_346 rfl rfl ?_
            refine J_iload_n (pc := 347) dX10_send_347 rfl rfl ?_
            refine J_iconst (pc := 348) (v := nI 0) dX10_send_348 (by decide) ?_
            refine J_iload_n (pc := 349) dX10_send_349 rfl rfl ?_
            refine J_iload_n (pc := 350) dX10_send_350 rfl rfl ?_
            refine J_iload (pc := 351) dX10_send_351 rfl ?_
            refine J_callV (pc := 353) (cm_enter l g (hgt - 1) (k := 0) (m := m) (c := x_place X m) (p := p) hW (by rw [xV_nf (by decide), e4]; exact (hI.link (show h < 24 by omega)).1) (show h < 24 by omega)) qX10_enter vX10_enter cl8 rfl hW.o kX10_166 dX10_send_353 rfl rfl (Nat.le_of_ble_eq_true rfl) (by omega) (by omega) (by omega) ?_
            rintro _ _ ⟨rfl, hW⟩
            refine J_vret (pc := 356) dX10_send_356 rfl (by omega) (by omega) ?_
            refine ⟨rfl, ?_⟩
            rw [fin, ← hp]
            exact hW
          have c1 : x_cut X h 1 ≤ 61 := cut_le
          have c2 : x_cut X h 2 ≤ 61 := cut_le
          refine J_iload_n (pc := 281) dX10_send_281 rfl rfl ?_
          refine J_iconst (pc := 282) (v := nI 4) dX10_send_282 (by decide) ?_
          refine J_icmp_ltN (pc := 283) (tgt := 295) dX10_send_283 rfl (by omega) (by omega) (fun h6 => ?_) (fun h6 => ?_)
          · refine J_aload_n (pc := 295) dX10_send_295 rfl rfl ?_
            refine J_getr (pc := 296) (i := 18) cl8 hW.o (by decide) rfl (hW.r 18 rfl) kX10_50 dX10_send_296 ?_
            refine J_iload_n (pc := 299) dX10_send_299 rfl rfl ?_
            refine J_mld (pc := 300) hW 10 rfl rfl (by show _ < 48; omega) dX10_send_300 ?_
            refine J_aload_n (pc := 301) dX10_send_301 rfl rfl ?_
            refine J_iload_n (pc := 302) dX10_send_302 rfl rfl ?_
            refine J_iconst (pc := 303) (v := nI 1) dX10_send_303 (by decide) ?_
            refine J_callV (pc := 304) (cm_cutoff l g (hgt - 1) hW hI2 hh8 (by decide) (show 1 < 3 by decide) (by omega)) qX10_cutoff vX10_cutoff cl8 rfl hW.o kX10_203 dX10_send_304 rfl rfl (Nat.le_of_ble_eq_true rfl) (by omega) (by omega) (by omega) ?_
            rintro _ _ ⟨rfl, rfl⟩
            rw [ec, e10]
            refine J_icmp_gtN (pc := 307) (tgt := 314) dX10_send_307 rfl (by omega) (by omega) (fun h7 => ?_) (fun h7 => ?_)
            · refine J_aload_n (pc := 314) dX10_send_314 rfl rfl ?_
              refine J_getr (pc := 315) (i := 18) cl8 hW.o (by decide) rfl (hW.r 18 rfl) kX10_50 dX10_send_315 ?_
              refine J_iload_n (pc := 318) dX10_send_318 rfl rfl ?_
              refine J_mld (pc := 319) hW 10 rfl rfl (by show _ < 48; omega) dX10_send_319 ?_
              refine J_aload_n (pc := 320) dX10_send_320 rfl rfl ?_
              refine J_iload_n (pc := 321) dX10_send_321 rfl rfl ?_
              refine J_iconst (pc := 322) (v := nI 2) dX10_send_322 (by decide) ?_
              refine J_callV (pc := 323) (cm_cutoff l g (hgt - 1) hW hI2 hh8 (by decide) (show 2 < 3 by decide) (by omega)) qX10_cutoff vX10_cutoff cl8 rfl hW.o kX10_203 dX10_send_323 rfl rfl (Nat.le_of_ble_eq_true rfl) (by omega) (by omega) (by omega) ?_
              rintro _ _ ⟨rfl, rfl⟩
              rw [ec, e10]
              refine J_icmp_gtN (pc := 326) (tgt := 333) dX10_send_326 rfl (by omega) (by omega) (fun h8 => ?_) (fun h8 => ?_)
              · refine J_iconst (pc := 333) (v := nI 3) dX10_send_333 (by decide) ?_
                exact last 3 (by rw [x_prio, if_neg (by omega), if_neg (by omega), if_neg (by omega)])
              · refine J_iconst (pc := 329) (v := nI 2) dX10_send_329 (by decide) ?_
                refine J_goto (pc := 330) (tgt := 334) dX10_send_330 rfl ?_
                exact last 2 (by rw [x_prio, if_neg (by omega), if_neg (by omega), if_pos (by omega)])
            · refine J_iconst (pc := 310) (v := nI 1) dX10_send_310 (by decide) ?_
              refine J_goto (pc := 311) (tgt := 334) dX10_send_311 rfl ?_
              exact last 1 (by rw [x_prio, if_neg (by omega), if_pos (by omega)])
          · refine J_aload_n (pc := 286) dX10_send_286 rfl rfl ?_
            refine J_getr (pc := 287) (i := 23) cl8 hW.o (by decide) rfl (hW.r 23 rfl) kX10_65 dX10_send_287 ?_
            refine J_iload_n (pc := 290) dX10_send_290 rfl rfl ?_
            refine J_mld (pc := 291) hW 15 rfl rfl (by show _ < 48; omega) dX10_send_291 ?_
            refine J_goto (pc := 292) (tgt := 334) dX10_send_292 rfl ?_
            rw [e15]
            exact last _ (by rw [x_prio, if_pos (by omega)])
        refine J_aload_n (pc := 238) dX10_send_238 rfl rfl ?_
        refine J_iload_n (pc := 239) dX10_send_239 rfl rfl ?_
        refine J_callV (pc := 240) (cm_least l g (hgt - 1) hW (show m < 48 by omega)) qX10_least vX10_least cl8 rfl hW.o kX10_197 dX10_send_240 rfl rfl (Nat.le_of_ble_eq_true rfl) (by omega) (by omega) (by omega) ?_
        rintro _ _ ⟨rfl, rfl⟩
        refine J_istore_n (pc := 243) dX10_send_243 rfl (by decide) ?_
        refine J_iload_n (pc := 244) dX10_send_244 rfl rfl ?_
        refine J_iconst (pc := 245) (v := (-1)) dX10_send_245 (by decide) ?_
        refine J_icmp_ne (pc := 246) (tgt := 269) dX10_send_246 rfl (fun h4 => ?_) (fun h4 => ?_)
        · have h4 : x_least X m < 60 := Decidable.byContradiction (fun z => h4 (li_m1.mpr z))
          rw [if_pos h4]
          refine J_aload_n (pc := 269) dX10_send_269 rfl rfl ?_
          refine J_getr (pc := 270) (i := 27) cl8 hW.o (by decide) rfl (hW.r 27 rfl) kX10_77 dX10_send_270 ?_
          refine J_bipush (pc := 273) (v := nI 60) dX10_send_273 (by decide) ?_
          refine J_iload_n (pc := 275) dX10_send_275 rfl rfl ?_
          first | refine J_imulN (pc := 276) dX10_send_276 ?_ | refine J_imul (pc := 276) dX10_send_276 ?_
          refine J_iload_n (pc := 277) dX10_send_277 rfl rfl ?_
          first | refine J_iaddN (pc := 278) dX10_send_278 ?_ | refine J_iadd (pc := 278) dX10_send_278 ?_
          refine J_iconst (pc := 279) (v := nI 0) dX10_send_279 (by decide) ?_
          refine J_zast (pc := 280) (hW.a 27 rfl) rfl (show _ < 2880 by omega) (by first | omega | exact mLn_lt _) rfl dX10_send_280 ?_
          have hW := hW.wB 0 27 (by decide) m (x_least X m) h4 false
          have ep : x_place X m = x_least X m := by rw [x_place, if_pos h4]
          refine J_lvk (tail _ (by rw [x_takePlace, if_pos h4]; exact hW)) ⟨by rw [ep]; rfl, rfl, rfl, rfl, trivial⟩
        · have h4 := li_m1.mp h4
          refine J_aload_n (pc := 249) dX10_send_249 rfl rfl ?_
          refine J_getr (pc := 250) (i := 21) cl8 hW.o (by decide) rfl (hW.r 21 rfl) kX10_59 dX10_send_250 ?_
          refine J_iload_n (pc := 253) dX10_send_253 rfl rfl ?_
          refine J_mld (pc := 254) hW 13 rfl rfl (by show _ < 48; omega) dX10_send_254 ?_
          refine J_istore_n (pc := 255) dX10_send_255 rfl (by decide) ?_
          refine J_aload_n (pc := 256) dX10_send_256 rfl rfl ?_
          refine J_getr (pc := 257) (i := 21) cl8 hW.o (by decide) rfl (hW.r 21 rfl) kX10_59 dX10_send_257 ?_
          refine J_iload_n (pc := 260) dX10_send_260 rfl rfl ?_
          refine J_dup2_11 (pc := 261) dX10_send_261 rfl rfl ?_
          refine J_mld (pc := 262) hW 13 rfl rfl (by show _ < 48; omega) dX10_send_262 ?_
          refine J_iconst (pc := 263) (v := nI 1) dX10_send_263 (by decide) ?_
          first | refine J_iaddN (pc := 264) dX10_send_264 ?_ | refine J_iadd (pc := 264) dX10_send_264 ?_
          refine J_mst (pc := 265) hW 13 rfl rfl (by show _ < 48; omega) rfl dX10_send_265 (fun hW => ?_)
          refine J_goto (pc := 266) (tgt := 281) dX10_send_266 rfl ?_
          have ep : x_place X m = xV X 13 m := by rw [x_place, if_neg h4]
          refine J_lvk (tail _ (by rw [x_takePlace, if_neg h4]; exact hW)) ⟨by rw [ep]; rfl, rfl, rfl, rfl, trivial⟩
    · have h5 := (oI_m1 (fun x hx => by have := x_short_lt hx; omega)).mp h5
      refine J_vret (pc := 237) dX10_send_237 rfl (by omega) (by omega) ?_
      refine ⟨rfl, ?_⟩
      rw [x_send, hnil]
      show WM _ b ad (match x_short X h (xV X 1 0) with | none => X | some m => _)
      rw [h5]
      exact hW
  · cases hz : xL X (96 + h) with
    | nil => rw [hz] at h0; exact absurd h0 (by decide)
    | cons e t => exact jm_sendDue l g hgt hW hI hh8 hz (by omega)
end
section
theorem x_slots_s (X : XS) (k : Nat) : x_slots X (k + 1) = x_slot1 (x_slots X k) := by
  unfold x_slots
  rw [x_for]
def sA (X : XS) (i : Nat) : XS := x_for i x_arrive (yV X 0 0 (xV X 0 0 + 1))
def sB (X : XS) (j : Nat) : XS := x_for j (fun Y j => x_serve Y (8 + j)) (sA X 24)
def sC (X : XS) (h : Nat) : XS := x_for h x_host (sB X 16)
/-- what has to hold on the way through a host's work -/
def okHostW (X : XS) (h : Nat) : Prop := okReceive X h ∧ xSm X (x_receive X h) ∧ (∀ i, i ≤ xV X 1 0 → xOK (x_watch (x_receive X h) h i) ∧ xSm (x_receive X h) (x_watch (x_receive X h) h i)) ∧ ∀ m, x_short (x_watch (x_receive X h) h (xV X 1 0)) h (xV (x_watch (x_receive X h) h (xV X 1 0)) 1 0) = some m → xOK (x_takePlace (x_watch (x_receive X h) h (xV X 1 0)) m)
/-- what has to hold on the way through a slot -/
def okSlot1 (X : XS) : Prop := (∀ i, i ≤ 24 → xOK (sA X i) ∧ ∀ h, h < 8 → xV (sA X i) 30 h < 2 ^ 31) ∧ (∀ j, j ≤ 16 → xOK (sB X j)) ∧ ∀ h, h < 8 → okHostW (sC X h) h
set_option maxRecDepth 100000 in
theorem jm_host (l : Launch) (g : jG) (hgt : Nat) {S : jS} {b : Nat} {ad : Nat → Nat} {X : XS} {h : Nat} {Q : Option Value → jS → Prop} {lv : List (Nat × Value)} (hlv : lvIn lv [(3, .int (nI h)), (0, .ref b)]) (hW : WM S b ad X) (hI : okHostW X h) (hh8 : h < 8) (hh : 3 ≤ hgt)
    (kk : ∀ S', WM S' b ad (x_host X h) → J l g mX10_slot hgt 0 0 Q 119 lv [] S' 0 0) : J l g mX10_slot hgt 0 0 Q 104 lv [] S 0 0 := by
  obtain ⟨i1, i2, i3, i4⟩ := hI
  refine J_aload_n (pc := 104) dX10_slot_104 rfl hlv.2.1 ?_
  refine J_iload_n (pc := 105) dX10_slot_105 rfl hlv.1 ?_
  refine J_callV (pc := 106) (cm_receive l g (hgt - 1) hW i1 hh8 (by omega)) qX10_receive vX10_receive cl8 rfl hW.o kX10_216 dX10_slot_106 rfl rfl (Nat.le_of_ble_eq_true rfl) (by omega) (by omega) (by omega) ?_
  rintro _ _ ⟨rfl, hW⟩
  refine J_aload_n (pc := 109) dX10_slot_109 rfl hlv.2.1 ?_
  refine J_iload_n (pc := 110) dX10_slot_110 rfl hlv.1 ?_
  have e1 : xV (x_receive X h) 1 0 = xV X 1 0 := congrFun i2.1 0
  rw [← e1] at i3 i4
  refine J_callV (pc := 111) (cm_watch l g (hgt - 1) hW i3 hh8 (by omega)) qX10_watch vX10_watch cl8 rfl hW.o kX10_219 dX10_slot_111 rfl rfl (Nat.le_of_ble_eq_true rfl) (by omega) (by omega) (by omega) ?_
  rintro _ _ ⟨rfl, hW⟩
  refine J_aload_n (pc := 114) dX10_slot_114 rfl hlv.2.1 ?_
  refine J_iload_n (pc := 115) dX10_slot_115 rfl hlv.1 ?_
  refine J_callV (pc := 116) (cm_send l g (hgt - 1) hW (i3 _ (Nat.le_refl _)).1 i4 hh8 (by omega)) qX10_send vX10_send cl8 rfl hW.o kX10_222 dX10_slot_116 rfl rfl (Nat.le_of_ble_eq_true rfl) (by omega) (by omega) (by omega) ?_
  rintro _ S' ⟨rfl, hW⟩
  refine kk S' ?_
  rw [x_host, ← e1]
  exact hW
set_option maxRecDepth 100000 in
theorem jm_slot1 (l : Launch) (g : jG) (hgt : Nat) {S : jS} {b : Nat} {ad : Nat → Nat} {X : XS} {k n : Nat} {Q : Option Value → jS → Prop} (hW : WM S b ad X) (hI : okSlot1 X) (hh : 4 ≤ hgt)
    (kk : ∀ S', WM S' b ad (x_slot1 X) → J l g mX10_slot hgt 0 0 Q 125 [(2, .int (nI k)), (0, .ref b), (1, .int (nI n))] [] S' 0 0) : J l g mX10_slot hgt 0 0 Q 37 [(2, .int (nI k)), (0, .ref b), (1, .int (nI n))] [] S 0 0 := by
  obtain ⟨iA, iB, iC⟩ := hI
  have partC : ∀ h, h ≤ 8 → ∀ S, WM S b ad (sC X h) → J l g mX10_slot hgt 0 0 Q 98 [(3, .int (nI h)), (2, .int (nI k)), (0, .ref b), (1, .int (nI n))] [] S 0 0 := by
    refine down _ ?_ ?_
    · intro S hW
      refine J_iload_n (pc := 98) dX10_slot_98 rfl rfl ?_
      refine J_bipush (pc := 99) (v := nI 8) dX10_slot_99 (by decide) ?_
      refine J_icmp_geN (pc := 101) (tgt := 125) dX10_slot_101 rfl (by omega) (by omega) (fun h0 => ?_) (fun h0 => ?_)
      · exact J_lvk (kk S hW) ⟨rfl, rfl, rfl, trivial⟩
      · omega
    · intro h h8 ih S hW
      refine J_iload_n (pc := 98) dX10_slot_98 rfl rfl ?_
      refine J_bipush (pc := 99) (v := nI 8) dX10_slot_99 (by decide) ?_
      refine J_icmp_geN (pc := 101) (tgt := 125) dX10_slot_101 rfl (by omega) (by omega) (fun h0 => ?_) (fun h0 => ?_)
      · omega
      · refine jm_host l g hgt ⟨rfl, rfl, trivial⟩ hW (iC h h8) h8 (by omega) (fun S' hW => ?_)
        refine J_iinc (pc := 119) dX10_slot_119 rfl (inc1 _) (by decide) ?_
        refine J_goto (pc := 122) (tgt := 98) dX10_slot_122 rfl ?_
        exact J_lvk (ih S' hW) ⟨rfl, rfl, rfl, rfl, trivial⟩
  have partB : ∀ j, j ≤ 16 → ∀ S, WM S b ad (sB X j) → J l g mX10_slot hgt 0 0 Q 79 [(3, .int (nI (8 + j))), (2, .int (nI k)), (0, .ref b), (1, .int (nI n))] [] S 0 0 := by
    refine down _ ?_ ?_
    · intro S hW
      refine J_iload_n (pc := 79) dX10_slot_79 rfl rfl ?_
      refine J_bipush (pc := 80) (v := nI 24) dX10_slot_80 (by decide) ?_
      refine J_icmp_geN (pc := 82) (tgt := 96) dX10_slot_82 rfl (by omega) (by omega) (fun h0 => ?_) (fun h0 => ?_)
      · refine J_iconst (pc := 96) (v := nI 0) dX10_slot_96 (by decide) ?_
        refine J_istore_n (pc := 97) dX10_slot_97 rfl (by decide) ?_
        exact J_lvk (partC 0 (by omega) S hW) ⟨rfl, rfl, rfl, rfl, trivial⟩
      · omega
    · intro j hj ih S hW
      refine J_iload_n (pc := 79) dX10_slot_79 rfl rfl ?_
      refine J_bipush (pc := 80) (v := nI 24) dX10_slot_80 (by decide) ?_
      refine J_icmp_geN (pc := 82) (tgt := 96) dX10_slot_82 rfl (by omega) (by omega) (fun h0 => ?_) (fun h0 => ?_)
      · omega
      · refine J_aload_n (pc := 85) dX10_slot_85 rfl rfl ?_
        refine J_iload_n (pc := 86) dX10_slot_86 rfl rfl ?_
        refine J_callV (pc := 87) (cm_serve l g (hgt - 1) hW (iB j (by omega)) (show 8 ≤ 8 + j by omega) (by omega) (by omega)) qX10_serve vX10_serve cl8 rfl hW.o kX10_213 dX10_slot_87 rfl rfl (Nat.le_of_ble_eq_true rfl) (by omega) (by omega) (by omega) ?_
        rintro _ S' ⟨rfl, hW⟩
        refine J_iinc (pc := 90) dX10_slot_90 rfl (inc1 _) (by decide) ?_
        refine J_goto (pc := 93) (tgt := 79) dX10_slot_93 rfl ?_
        exact J_lvk (ih S' hW) ⟨rfl, rfl, rfl, rfl, trivial⟩
  have partA : ∀ i, i ≤ 24 → ∀ S, WM S b ad (sA X i) → J l g mX10_slot hgt 0 0 Q 49 [(3, .int (nI i)), (2, .int (nI k)), (0, .ref b), (1, .int (nI n))] [] S 0 0 := by
    refine down _ ?_ ?_
    · intro S hW
      refine J_iload_n (pc := 49) dX10_slot_49 rfl rfl ?_
      refine J_bipush (pc := 50) (v := nI 24) dX10_slot_50 (by decide) ?_
      refine J_icmp_geN (pc := 52) (tgt := 76) dX10_slot_52 rfl (by omega) (by omega) (fun h0 => ?_) (fun h0 => ?_)
      · refine J_bipush (pc := 76) (v := nI 8) dX10_slot_76 (by decide) ?_
        refine J_istore_n (pc := 78) dX10_slot_78 rfl (by decide) ?_
        exact J_lvk (partB 0 (by omega) S hW) ⟨rfl, rfl, rfl, rfl, trivial⟩
      · omega
    · intro i hi ih S hW
      have hs : sA X (i + 1) = x_arrive (sA X i) i := rfl
      obtain ⟨hO, hF⟩ := iA i (by omega)
      have hlk := hW.2.2.2.2.2.1 i hi
      have next : ∀ S', WM S' b ad (sA X (i + 1)) → J l g mX10_slot hgt 0 0 Q 70 [(3, .int (nI i)), (2, .int (nI k)), (0, .ref b), (1, .int (nI n))] [] S' 0 0 := by
        intro S' hW'
        refine J_iinc (pc := 70) dX10_slot_70 rfl (inc1 _) (by decide) ?_
        refine J_goto (pc := 73) (tgt := 49) dX10_slot_73 rfl ?_
        exact J_lvk (ih S' hW') ⟨rfl, rfl, rfl, rfl, trivial⟩
      refine J_iload_n (pc := 49) dX10_slot_49 rfl rfl ?_
      refine J_bipush (pc := 50) (v := nI 24) dX10_slot_50 (by decide) ?_
      refine J_icmp_geN (pc := 52) (tgt := 76) dX10_slot_52 rfl (by omega) (by omega) (fun h0 => ?_) (fun h0 => ?_)
      · omega
      · cases hl : xL (sA X i) (200 + i) with
        | nil =>
          refine J_aload_n (pc := 55) dX10_slot_55 rfl rfl ?_
          refine J_getr (pc := 56) (i := 3) cl8 hW.o (by decide) rfl (hW.r 3 rfl) kX10_7 dX10_slot_56 ?_
          refine J_iload_n (pc := 59) dX10_slot_59 rfl rfl ?_
          refine J_iald (pc := 60) (hW.a 3 rfl) rfl hi (by first | omega | exact mLn_lt _) (hlk.1 hl) dX10_slot_60 ?_
          refine J_iconst (pc := 61) (v := (-1)) dX10_slot_61 (by decide) ?_
          refine J_icmp_eq (pc := 62) (tgt := 70) dX10_slot_62 rfl (fun _ => ?_) (fun hc9 => absurd (rfl) hc9)
          refine next S ?_
          rw [hs, x_arrive, hl]
          exact hW
        | cons e t =>
          have ho := hO.list.1 _ e (by rw [hl]; exact List.mem_cons_self)
          refine J_aload_n (pc := 55) dX10_slot_55 rfl rfl ?_
          refine J_getr (pc := 56) (i := 3) cl8 hW.o (by decide) rfl (hW.r 3 rfl) kX10_7 dX10_slot_56 ?_
          refine J_iload_n (pc := 59) dX10_slot_59 rfl rfl ?_
          refine J_iald (pc := 60) (hW.a 3 rfl) rfl hi (by first | omega | exact mLn_lt _) (hlk.2 e t hl).1 dX10_slot_60 ?_
          refine J_iconst (pc := 61) (v := (-1)) dX10_slot_61 (by decide) ?_
          refine J_icmp_eq (pc := 62) (tgt := 70) dX10_slot_62 rfl (fun hc9 => absurd hc9 ((fun z => by have := (oI_m1 (o := some e.1) (fun x hx => by cases hx; have := ho.1; omega)).mp z; cases this))) (fun _ => ?_)
          refine J_aload_n (pc := 65) dX10_slot_65 rfl rfl ?_
          refine J_iload_n (pc := 66) dX10_slot_66 rfl rfl ?_
          refine J_callV (pc := 67) (cm_arrive l g (hgt - 1) hW hO hF hi hl (by omega)) qX10_arrive vX10_arrive cl8 rfl hW.o kX10_210 dX10_slot_67 rfl rfl (Nat.le_of_ble_eq_true rfl) (by omega) (by omega) (by omega) ?_
          rintro _ S' ⟨rfl, hW⟩
          exact next S' hW
  refine J_aload_n (pc := 37) dX10_slot_37 rfl rfl ?_
  refine J_dup (pc := 38) dX10_slot_38 rfl ?_
  refine J_geti (pc := 39) (i := 1) cl8 hW.o (by decide) rfl hW.2.2.1.1 kX10_177 dX10_slot_39 ?_
  refine J_iconst (pc := 42) (v := nI 1) dX10_slot_42 (by decide) ?_
  first | refine J_iaddN (pc := 43) dX10_slot_43 ?_ | refine J_iadd (pc := 43) dX10_slot_43 ?_
  refine J_mss (pc := 44) hW 1 0 (by decide) rfl kX10_177 dX10_slot_44 (fun hW => ?_)
  refine J_iconst (pc := 47) (v := nI 0) dX10_slot_47 (by decide) ?_
  refine J_istore_n (pc := 48) dX10_slot_48 rfl (by decide) ?_
  exact J_lvk (partA 0 (by omega) _ hW) ⟨rfl, rfl, rfl, rfl, trivial⟩
set_option maxRecDepth 100000 in
theorem cm_slot (l : Launch) (g : jG) (hgt : Nat) {S : jS} {b : Nat} {ad : Nat → Nat} {X : XS} {n : Nat} (hW : WM S b ad X) (h1 : 1 ≤ n) (h2 : n ≤ 200) (hI : ∀ k, k < n → okSlot1 (x_slots (yV X 32 0 0) k)) (hh : 4 ≤ hgt) : CT l g mX10_slot hgt 0 0 [.ref b, .int (nI n)] S (fun r S' => r = some (.int (nI (xV (x_slots (yV X 32 0 0) n) 0 0))) ∧ WM S' b ad (x_slots (yV X 32 0 0) n)) := by
  refine CT_of qX10_slot (Nat.le_of_ble_eq_true rfl) ?_
  refine J_aload_n (pc := 0) dX10_slot_0 rfl rfl ?_
  refine J_iload_n (pc := 1) dX10_slot_1 rfl rfl ?_
  refine J_iconst (pc := 2) (v := nI 1) dX10_slot_2 (by decide) ?_
  refine J_icmp_ltN (pc := 3) (tgt := 13) dX10_slot_3 rfl (by omega) (by omega) (fun h0 => ?_) (fun h0 => ?_)
  · omega
  · refine J_iload_n (pc := 6) dX10_slot_6 rfl rfl ?_
    refine J_sipush (pc := 7) (v := nI 200) dX10_slot_7 (by decide) ?_
    refine J_icmp_leN (pc := 10) (tgt := 17) dX10_slot_10 rfl (by omega) (by omega) (fun h0 => ?_) (fun h0 => ?_)
    · refine J_iconst (pc := 17) (v := nI 0) dX10_slot_17 (by decide) ?_
      refine J_mss (pc := 18) hW 0 32 (by decide) rfl kX10_134 dX10_slot_18 (fun hW => ?_)
      refine J_aload_n (pc := 21) dX10_slot_21 rfl rfl ?_
      refine J_geti (pc := 22) (i := 0) cl8 hW.o (by decide) rfl hW.2.2.1.2.2.2.2 kX10_134 dX10_slot_22 ?_
      simp only [xV_yV, xV_yL, xV_yB, xV_yC, xL_yV, xL_yL, xL_yB, xL_yC, xB_yV, xB_yL, xB_yB, xB_yC, true_and, and_true, and_self, false_and, and_false, reduceIte, Nat.reduceEqDiff, if_true, if_false, reduceCtorEq] 
      refine J_if_eqN (pc := 25) (tgt := 30) dX10_slot_25 rfl (by omega) (fun h0 => ?_) (fun h0 => ?_)
      · refine J_iconst (pc := 30) (v := nI 0) dX10_slot_30 (by decide) ?_
        refine J_istore_n (pc := 31) dX10_slot_31 rfl (by decide) ?_
        have loop : ∀ k, k ≤ n → ∀ S, WM S b ad (x_slots (yV X 32 0 0) k) → J l g mX10_slot hgt 0 0 (fun r S' => r = some (.int (nI (xV (x_slots (yV X 32 0 0) n) 0 0))) ∧ WM S' b ad (x_slots (yV X 32 0 0) n)) 32 [(2, .int (nI k)), (0, .ref b), (1, .int (nI n))] [] S 0 0 := by
          refine down _ ?_ ?_
          · intro S hW
            refine J_iload_n (pc := 32) dX10_slot_32 rfl rfl ?_
            refine J_iload_n (pc := 33) dX10_slot_33 rfl rfl ?_
            refine J_icmp_geN (pc := 34) (tgt := 131) dX10_slot_34 rfl (by omega) (by omega) (fun h5 => ?_) (fun h5 => ?_)
            · refine J_aload_n (pc := 131) dX10_slot_131 rfl rfl ?_
              refine J_geti (pc := 132) (i := 1) cl8 hW.o (by decide) rfl hW.2.2.1.1 kX10_177 dX10_slot_132 ?_
              refine J_iret (pc := 135) dX10_slot_135 rfl (by omega) (by omega) ?_
              exact ⟨rfl, hW⟩
            · omega
          · intro k hk ih S hW
            refine J_iload_n (pc := 32) dX10_slot_32 rfl rfl ?_
            refine J_iload_n (pc := 33) dX10_slot_33 rfl rfl ?_
            refine J_icmp_geN (pc := 34) (tgt := 131) dX10_slot_34 rfl (by omega) (by omega) (fun h5 => ?_) (fun h5 => ?_)
            · omega
            · refine jm_slot1 l g hgt hW (hI k hk) hh (fun S' hW => ?_)
              rw [← x_slots_s] at hW
              refine J_iinc (pc := 125) dX10_slot_125 rfl (inc1 _) (by decide) ?_
              refine J_goto (pc := 128) (tgt := 32) dX10_slot_128 rfl ?_
              exact J_lvk (ih S' hW) ⟨rfl, rfl, rfl, trivial⟩
        exact J_lvk (loop 0 (Nat.zero_le _) _ hW) ⟨rfl, rfl, rfl, trivial⟩
      · exact absurd rfl h0
    · omega
set_option maxRecDepth 100000 in
theorem cm_slotBad (l : Launch) (g : jG) (hgt : Nat) {S : jS} {b : Nat} {ad : Nat → Nat} {X : XS} {n : Int32} (hW : WM S b ad X) (h1 : n < nI 1 ∨ nI 200 < n) : CT l g mX10_slot hgt 0 0 [.ref b, .int n] S (fun r S' => WM S' b ad (yV X 32 0 1) ∧ r = some (.int 0)) := by
  have fin : J l g mX10_slot hgt 0 0 (fun r S' => WM S' b ad (yV X 32 0 1) ∧ r = some (.int 0)) 13 [(0, .ref b), (1, .int n)] [.ref b] S 0 0 := by
    refine J_iconst (pc := 13) (v := nI 1) dX10_slot_13 (by decide) ?_
    refine J_goto (pc := 14) (tgt := 18) dX10_slot_14 rfl ?_
    refine J_mss (pc := 18) hW 0 32 (by decide) rfl kX10_134 dX10_slot_18 (fun hW => ?_)
    refine J_aload_n (pc := 21) dX10_slot_21 rfl rfl ?_
    refine J_geti (pc := 22) (i := 0) cl8 hW.o (by decide) rfl hW.2.2.1.2.2.2.2 kX10_134 dX10_slot_22 ?_
    simp only [xV_yV, xV_yL, xV_yB, xV_yC, xL_yV, xL_yL, xL_yB, xL_yC, xB_yV, xB_yL, xB_yB, xB_yC, true_and, and_true, and_self, false_and, and_false, reduceIte, Nat.reduceEqDiff, if_true, if_false, reduceCtorEq] 
    refine J_if_eqN (pc := 25) (tgt := 30) dX10_slot_25 rfl (by omega) (fun h0 => ?_) (fun h0 => ?_)
    · cases h0
    · refine J_iconst (pc := 28) (v := nI 0) dX10_slot_28 (by decide) ?_
      refine J_iret (pc := 29) dX10_slot_29 rfl (by omega) (by omega) ?_
      exact ⟨hW, rfl⟩
  refine CT_of qX10_slot (Nat.le_of_ble_eq_true rfl) ?_
  refine J_aload_n (pc := 0) dX10_slot_0 rfl rfl ?_
  refine J_iload_n (pc := 1) dX10_slot_1 rfl rfl ?_
  refine J_iconst (pc := 2) (v := nI 1) dX10_slot_2 (by decide) ?_
  refine J_icmp_lt (pc := 3) (tgt := 13) dX10_slot_3 rfl (fun h0 => ?_) (fun h0 => ?_)
  · exact fin
  · refine J_iload_n (pc := 6) dX10_slot_6 rfl rfl ?_
    refine J_sipush (pc := 7) (v := nI 200) dX10_slot_7 (by decide) ?_
    refine J_icmp_le (pc := 10) (tgt := 17) dX10_slot_10 rfl (fun h2 => ?_) (fun h2 => ?_)
    · exact absurd h2 (by rcases h1 with z | z; (· exact absurd z h0); (· exact Int32.not_le.mpr z))
    · exact fin
set_option maxRecDepth 100000 in
theorem cm_thrown (l : Launch) (g : jG) (hgt : Nat) {S : jS} {b : Nat} {ad : Nat → Nat} {X : XS} (hW : WM S b ad X) : CT l g mX10_thrown hgt 0 0 [.ref b] S (jPure (.int (nI (xV X 32 0))) S) := by
  refine CT_of qX10_thrown (Nat.le_of_ble_eq_true rfl) ?_
  refine J_aload_n (pc := 0) dX10_thrown_0 rfl rfl ?_
  refine J_geti (pc := 1) (i := 0) cl8 hW.o (by decide) rfl hW.2.2.1.2.2.2.2 kX10_134 dX10_thrown_1 ?_
  refine J_iret (pc := 4) dX10_thrown_4 rfl (by omega) (by omega) ?_
  exact ⟨rfl, rfl⟩
end
section
theorem zz_look : True := trivial
end
