section
-- ===== PART A: goes FIRST, ahead of the names: the tables' words, and 'selects' of the private methods out of them =====
/-- a private method of a class that the tables say can be made, by its rows of tables_1 -/
def lw_okq (q : MethodName × Nat) : Prop := (q.1.cls ≠ "java/lang/invoke/MethodHandle" ∧ q.1.cls ≠ "java/lang/invoke/VarHandle") ∧ Cond.instantiable q.1.cls q.2 ∈ tables_1 ∧ Cond.privateMethod q.1 ∈ tables_1 ∧ Cond.instanceMethod q.1 ∈ tables_1
theorem lw_p0 : lw_okq (⟨"BetsOnBets", "taken", "(LBetsOnBets$Row;II)I"⟩, 11) := ⟨⟨by decide +kernel, by decide +kernel⟩, List.mem_of_getElem? (i := 22) (by decide +kernel), List.mem_of_getElem? (i := 206) (by decide +kernel), List.mem_of_getElem? (i := 207) (by decide +kernel)⟩
theorem lw_p1 : lw_okq (⟨"BetsOnBets", "refused", "(I)I"⟩, 11) := ⟨⟨by decide +kernel, by decide +kernel⟩, List.mem_of_getElem? (i := 22) (by decide +kernel), List.mem_of_getElem? (i := 210) (by decide +kernel), List.mem_of_getElem? (i := 211) (by decide +kernel)⟩
theorem lw_p2 : lw_okq (⟨"BetsOnBets$Reader", "oneOf", "(Ljava/lang/String;)I"⟩, 4) := ⟨⟨by decide +kernel, by decide +kernel⟩, List.mem_of_getElem? (i := 49) (by decide +kernel), List.mem_of_getElem? (i := 245) (by decide +kernel), List.mem_of_getElem? (i := 246) (by decide +kernel)⟩
theorem lw_p3 : lw_okq (⟨"BetsOnBets$Reader", "nextIn", "(Ljava/lang/String;)I"⟩, 4) := ⟨⟨by decide +kernel, by decide +kernel⟩, List.mem_of_getElem? (i := 49) (by decide +kernel), List.mem_of_getElem? (i := 249) (by decide +kernel), List.mem_of_getElem? (i := 250) (by decide +kernel)⟩
theorem lw_p4 : lw_okq (⟨"BetsOnBets$Reader", "oneOrTwoDigits", "()I"⟩, 4) := ⟨⟨by decide +kernel, by decide +kernel⟩, List.mem_of_getElem? (i := 49) (by decide +kernel), List.mem_of_getElem? (i := 345) (by decide +kernel), List.mem_of_getElem? (i := 346) (by decide +kernel)⟩
theorem lw_p5 : lw_okq (⟨"BetsOnBets$Reader", "readBet", "()V"⟩, 4) := ⟨⟨by decide +kernel, by decide +kernel⟩, List.mem_of_getElem? (i := 49) (by decide +kernel), List.mem_of_getElem? (i := 351) (by decide +kernel), List.mem_of_getElem? (i := 352) (by decide +kernel)⟩
theorem lw_p6 : lw_okq (⟨"BetsOnBets$Reader", "readMark", "()I"⟩, 4) := ⟨⟨by decide +kernel, by decide +kernel⟩, List.mem_of_getElem? (i := 49) (by decide +kernel), List.mem_of_getElem? (i := 356) (by decide +kernel), List.mem_of_getElem? (i := 357) (by decide +kernel)⟩
theorem lw_p7 : lw_okq (⟨"BetsOnBets", "innTold", "()I"⟩, 11) := ⟨⟨by decide +kernel, by decide +kernel⟩, List.mem_of_getElem? (i := 22) (by decide +kernel), List.mem_of_getElem? (i := 363) (by decide +kernel), List.mem_of_getElem? (i := 364) (by decide +kernel)⟩
theorem lw_p8 : lw_okq (⟨"BetsOnBets$Book", "comesHappening", "(I)Z"⟩, 5) := ⟨⟨by decide +kernel, by decide +kernel⟩, List.mem_of_getElem? (i := 70) (by decide +kernel), List.mem_of_getElem? (i := 382) (by decide +kernel), List.mem_of_getElem? (i := 383) (by decide +kernel)⟩
theorem lw_p9 : lw_okq (⟨"BetsOnBets$Book", "comesBet", "([I)Z"⟩, 5) := ⟨⟨by decide +kernel, by decide +kernel⟩, List.mem_of_getElem? (i := 70) (by decide +kernel), List.mem_of_getElem? (i := 386) (by decide +kernel), List.mem_of_getElem? (i := 387) (by decide +kernel)⟩
theorem lw_p10 : lw_okq (⟨"BetsOnBets$Book", "isRight", "([I)Z"⟩, 5) := ⟨⟨by decide +kernel, by decide +kernel⟩, List.mem_of_getElem? (i := 70) (by decide +kernel), List.mem_of_getElem? (i := 390) (by decide +kernel), List.mem_of_getElem? (i := 391) (by decide +kernel)⟩
theorem lw_p11 : lw_okq (⟨"BetsOnBets$Book", "isMark", "(I)Z"⟩, 5) := ⟨⟨by decide +kernel, by decide +kernel⟩, List.mem_of_getElem? (i := 70) (by decide +kernel), List.mem_of_getElem? (i := 394) (by decide +kernel), List.mem_of_getElem? (i := 395) (by decide +kernel)⟩
theorem lw_p12 : lw_okq (⟨"BetsOnBets$Book", "comesFund", "(II)Z"⟩, 5) := ⟨⟨by decide +kernel, by decide +kernel⟩, List.mem_of_getElem? (i := 70) (by decide +kernel), List.mem_of_getElem? (i := 405) (by decide +kernel), List.mem_of_getElem? (i := 406) (by decide +kernel)⟩
theorem lw_p13 : lw_okq (⟨"BetsOnBets$Ways", "findOf", "(LBetsOnBets$Book;I)V"⟩, 5) := ⟨⟨by decide +kernel, by decide +kernel⟩, List.mem_of_getElem? (i := 98) (by decide +kernel), List.mem_of_getElem? (i := 421) (by decide +kernel), List.mem_of_getElem? (i := 422) (by decide +kernel)⟩
theorem lw_p14 : lw_okq (⟨"BetsOnBets$Ways", "isWay", "(LBetsOnBets$Book;II)Z"⟩, 5) := ⟨⟨by decide +kernel, by decide +kernel⟩, List.mem_of_getElem? (i := 98) (by decide +kernel), List.mem_of_getElem? (i := 425) (by decide +kernel), List.mem_of_getElem? (i := 426) (by decide +kernel)⟩
theorem lw_p15 : lw_okq (⟨"BetsOnBets$Ways", "kindOf", "(I)LBetsOnBets$Bet;"⟩, 5) := ⟨⟨by decide +kernel, by decide +kernel⟩, List.mem_of_getElem? (i := 98) (by decide +kernel), List.mem_of_getElem? (i := 433) (by decide +kernel), List.mem_of_getElem? (i := 434) (by decide +kernel)⟩
def lw_privs_1 : List (MethodName × Nat) := [(⟨"BetsOnBets", "taken", "(LBetsOnBets$Row;II)I"⟩, 11), (⟨"BetsOnBets", "refused", "(I)I"⟩, 11), (⟨"BetsOnBets$Reader", "oneOf", "(Ljava/lang/String;)I"⟩, 4), (⟨"BetsOnBets$Reader", "nextIn", "(Ljava/lang/String;)I"⟩, 4), (⟨"BetsOnBets$Reader", "oneOrTwoDigits", "()I"⟩, 4), (⟨"BetsOnBets$Reader", "readBet", "()V"⟩, 4), (⟨"BetsOnBets$Reader", "readMark", "()I"⟩, 4), (⟨"BetsOnBets", "innTold", "()I"⟩, 11), (⟨"BetsOnBets$Book", "comesHappening", "(I)Z"⟩, 5), (⟨"BetsOnBets$Book", "comesBet", "([I)Z"⟩, 5), (⟨"BetsOnBets$Book", "isRight", "([I)Z"⟩, 5), (⟨"BetsOnBets$Book", "isMark", "(I)Z"⟩, 5), (⟨"BetsOnBets$Book", "comesFund", "(II)Z"⟩, 5), (⟨"BetsOnBets$Ways", "findOf", "(LBetsOnBets$Book;I)V"⟩, 5), (⟨"BetsOnBets$Ways", "isWay", "(LBetsOnBets$Book;II)Z"⟩, 5), (⟨"BetsOnBets$Ways", "kindOf", "(I)LBetsOnBets$Bet;"⟩, 5)]
theorem lw_r1 : ∀ q ∈ lw_privs_1, lw_okq q := List.forall_mem_cons.mpr ⟨lw_p0, List.forall_mem_cons.mpr ⟨lw_p1, List.forall_mem_cons.mpr ⟨lw_p2, List.forall_mem_cons.mpr ⟨lw_p3, List.forall_mem_cons.mpr ⟨lw_p4, List.forall_mem_cons.mpr ⟨lw_p5, List.forall_mem_cons.mpr ⟨lw_p6, List.forall_mem_cons.mpr ⟨lw_p7, List.forall_mem_cons.mpr ⟨lw_p8, List.forall_mem_cons.mpr ⟨lw_p9, List.forall_mem_cons.mpr ⟨lw_p10, List.forall_mem_cons.mpr ⟨lw_p11, List.forall_mem_cons.mpr ⟨lw_p12, List.forall_mem_cons.mpr ⟨lw_p13, List.forall_mem_cons.mpr ⟨lw_p14, List.forall_mem_cons.mpr ⟨lw_p15, fun _ h => absurd h List.not_mem_nil⟩⟩⟩⟩⟩⟩⟩⟩⟩⟩⟩⟩⟩⟩⟩⟩
theorem lw_p16 : lw_okq (⟨"BetsOnBets", "refusedFar", "(I)I"⟩, 11) := ⟨⟨by decide +kernel, by decide +kernel⟩, List.mem_of_getElem? (i := 22) (by decide +kernel), List.mem_of_getElem? (i := 531) (by decide +kernel), List.mem_of_getElem? (i := 532) (by decide +kernel)⟩
theorem lw_p17 : lw_okq (⟨"BetsOnBets", "purseOf", "(LBetsOnBets$Book;II)I"⟩, 11) := ⟨⟨by decide +kernel, by decide +kernel⟩, List.mem_of_getElem? (i := 22) (by decide +kernel), List.mem_of_getElem? (i := 536) (by decide +kernel), List.mem_of_getElem? (i := 537) (by decide +kernel)⟩
theorem lw_p18 : lw_okq (⟨"BetsOnBets", "bettorsGain", "(LBetsOnBets$Book;II)I"⟩, 11) := ⟨⟨by decide +kernel, by decide +kernel⟩, List.mem_of_getElem? (i := 22) (by decide +kernel), List.mem_of_getElem? (i := 540) (by decide +kernel), List.mem_of_getElem? (i := 541) (by decide +kernel)⟩
theorem lw_p19 : lw_okq (⟨"BetsOnBets", "meanOf", "(LBetsOnBets$Book;I)I"⟩, 11) := ⟨⟨by decide +kernel, by decide +kernel⟩, List.mem_of_getElem? (i := 22) (by decide +kernel), List.mem_of_getElem? (i := 548) (by decide +kernel), List.mem_of_getElem? (i := 549) (by decide +kernel)⟩
theorem lw_p20 : lw_okq (⟨"BetsOnBets", "extreme", "(III)I"⟩, 11) := ⟨⟨by decide +kernel, by decide +kernel⟩, List.mem_of_getElem? (i := 22) (by decide +kernel), List.mem_of_getElem? (i := 572) (by decide +kernel), List.mem_of_getElem? (i := 573) (by decide +kernel)⟩
theorem lw_p21 : lw_okq (⟨"BetsOnBets", "extremeEnd", "(LBetsOnBets$Book;II)I"⟩, 11) := ⟨⟨by decide +kernel, by decide +kernel⟩, List.mem_of_getElem? (i := 22) (by decide +kernel), List.mem_of_getElem? (i := 576) (by decide +kernel), List.mem_of_getElem? (i := 577) (by decide +kernel)⟩
theorem lw_p22 : lw_okq (⟨"BetsOnBets", "worstOf", "(LBetsOnBets$Book;I)I"⟩, 11) := ⟨⟨by decide +kernel, by decide +kernel⟩, List.mem_of_getElem? (i := 22) (by decide +kernel), List.mem_of_getElem? (i := 604) (by decide +kernel), List.mem_of_getElem? (i := 605) (by decide +kernel)⟩
theorem lw_p23 : lw_okq (⟨"BetsOnBets", "mostGroups", "(I)I"⟩, 11) := ⟨⟨by decide +kernel, by decide +kernel⟩, List.mem_of_getElem? (i := 22) (by decide +kernel), List.mem_of_getElem? (i := 620) (by decide +kernel), List.mem_of_getElem? (i := 621) (by decide +kernel)⟩
theorem lw_p24 : lw_okq (⟨"BetsOnBets", "firstUnlike", "(I)I"⟩, 11) := ⟨⟨by decide +kernel, by decide +kernel⟩, List.mem_of_getElem? (i := 22) (by decide +kernel), List.mem_of_getElem? (i := 664) (by decide +kernel), List.mem_of_getElem? (i := 665) (by decide +kernel)⟩
theorem lw_p25 : lw_okq (⟨"BetsOnBetsModel", "refuse", "(I)I"⟩, 15) := ⟨⟨by decide +kernel, by decide +kernel⟩, List.mem_of_getElem? (i := 706) (by decide +kernel), List.mem_of_getElem? (i := 765) (by decide +kernel), List.mem_of_getElem? (i := 766) (by decide +kernel)⟩
theorem lw_p26 : lw_okq (⟨"BetsOnBetsModel", "reads", "()I"⟩, 15) := ⟨⟨by decide +kernel, by decide +kernel⟩, List.mem_of_getElem? (i := 706) (by decide +kernel), List.mem_of_getElem? (i := 773) (by decide +kernel), List.mem_of_getElem? (i := 774) (by decide +kernel)⟩
theorem lw_p27 : lw_okq (⟨"BetsOnBetsModel", "readsStatement", "()Z"⟩, 15) := ⟨⟨by decide +kernel, by decide +kernel⟩, List.mem_of_getElem? (i := 706) (by decide +kernel), List.mem_of_getElem? (i := 777) (by decide +kernel), List.mem_of_getElem? (i := 778) (by decide +kernel)⟩
theorem lw_p28 : lw_okq (⟨"BetsOnBetsModel", "sign", "()I"⟩, 15) := ⟨⟨by decide +kernel, by decide +kernel⟩, List.mem_of_getElem? (i := 706) (by decide +kernel), List.mem_of_getElem? (i := 781) (by decide +kernel), List.mem_of_getElem? (i := 782) (by decide +kernel)⟩
theorem lw_p29 : lw_okq (⟨"BetsOnBetsModel", "readsNumber", "(II)Z"⟩, 15) := ⟨⟨by decide +kernel, by decide +kernel⟩, List.mem_of_getElem? (i := 706) (by decide +kernel), List.mem_of_getElem? (i := 785) (by decide +kernel), List.mem_of_getElem? (i := 786) (by decide +kernel)⟩
theorem lw_p30 : lw_okq (⟨"BetsOnBetsModel", "readsKind", "()Z"⟩, 15) := ⟨⟨by decide +kernel, by decide +kernel⟩, List.mem_of_getElem? (i := 706) (by decide +kernel), List.mem_of_getElem? (i := 792) (by decide +kernel), List.mem_of_getElem? (i := 793) (by decide +kernel)⟩
theorem lw_p31 : lw_okq (⟨"BetsOnBetsModel", "readsMark", "(I)Z"⟩, 15) := ⟨⟨by decide +kernel, by decide +kernel⟩, List.mem_of_getElem? (i := 706) (by decide +kernel), List.mem_of_getElem? (i := 799) (by decide +kernel), List.mem_of_getElem? (i := 800) (by decide +kernel)⟩
def lw_privs_2 : List (MethodName × Nat) := [(⟨"BetsOnBets", "refusedFar", "(I)I"⟩, 11), (⟨"BetsOnBets", "purseOf", "(LBetsOnBets$Book;II)I"⟩, 11), (⟨"BetsOnBets", "bettorsGain", "(LBetsOnBets$Book;II)I"⟩, 11), (⟨"BetsOnBets", "meanOf", "(LBetsOnBets$Book;I)I"⟩, 11), (⟨"BetsOnBets", "extreme", "(III)I"⟩, 11), (⟨"BetsOnBets", "extremeEnd", "(LBetsOnBets$Book;II)I"⟩, 11), (⟨"BetsOnBets", "worstOf", "(LBetsOnBets$Book;I)I"⟩, 11), (⟨"BetsOnBets", "mostGroups", "(I)I"⟩, 11), (⟨"BetsOnBets", "firstUnlike", "(I)I"⟩, 11), (⟨"BetsOnBetsModel", "refuse", "(I)I"⟩, 15), (⟨"BetsOnBetsModel", "reads", "()I"⟩, 15), (⟨"BetsOnBetsModel", "readsStatement", "()Z"⟩, 15), (⟨"BetsOnBetsModel", "sign", "()I"⟩, 15), (⟨"BetsOnBetsModel", "readsNumber", "(II)Z"⟩, 15), (⟨"BetsOnBetsModel", "readsKind", "()Z"⟩, 15), (⟨"BetsOnBetsModel", "readsMark", "(I)Z"⟩, 15)]
theorem lw_r2 : ∀ q ∈ lw_privs_2, lw_okq q := List.forall_mem_cons.mpr ⟨lw_p16, List.forall_mem_cons.mpr ⟨lw_p17, List.forall_mem_cons.mpr ⟨lw_p18, List.forall_mem_cons.mpr ⟨lw_p19, List.forall_mem_cons.mpr ⟨lw_p20, List.forall_mem_cons.mpr ⟨lw_p21, List.forall_mem_cons.mpr ⟨lw_p22, List.forall_mem_cons.mpr ⟨lw_p23, List.forall_mem_cons.mpr ⟨lw_p24, List.forall_mem_cons.mpr ⟨lw_p25, List.forall_mem_cons.mpr ⟨lw_p26, List.forall_mem_cons.mpr ⟨lw_p27, List.forall_mem_cons.mpr ⟨lw_p28, List.forall_mem_cons.mpr ⟨lw_p29, List.forall_mem_cons.mpr ⟨lw_p30, List.forall_mem_cons.mpr ⟨lw_p31, fun _ h => absurd h List.not_mem_nil⟩⟩⟩⟩⟩⟩⟩⟩⟩⟩⟩⟩⟩⟩⟩⟩
theorem lw_p32 : lw_okq (⟨"BetsOnBetsModel", "takes", "(I)Z"⟩, 15) := ⟨⟨by decide +kernel, by decide +kernel⟩, List.mem_of_getElem? (i := 706) (by decide +kernel), List.mem_of_getElem? (i := 803) (by decide +kernel), List.mem_of_getElem? (i := 804) (by decide +kernel)⟩
theorem lw_p33 : lw_okq (⟨"BetsOnBetsModel", "comes", "(I)Z"⟩, 15) := ⟨⟨by decide +kernel, by decide +kernel⟩, List.mem_of_getElem? (i := 706) (by decide +kernel), List.mem_of_getElem? (i := 810) (by decide +kernel), List.mem_of_getElem? (i := 811) (by decide +kernel)⟩
theorem lw_p34 : lw_okq (⟨"BetsOnBetsModel", "isMark", "(I)Z"⟩, 15) := ⟨⟨by decide +kernel, by decide +kernel⟩, List.mem_of_getElem? (i := 706) (by decide +kernel), List.mem_of_getElem? (i := 814) (by decide +kernel), List.mem_of_getElem? (i := 815) (by decide +kernel)⟩
theorem lw_p35 : lw_okq (⟨"BetsOnBetsModel", "isBet", "(I)Z"⟩, 15) := ⟨⟨by decide +kernel, by decide +kernel⟩, List.mem_of_getElem? (i := 706) (by decide +kernel), List.mem_of_getElem? (i := 829) (by decide +kernel), List.mem_of_getElem? (i := 830) (by decide +kernel)⟩
theorem lw_p36 : lw_okq (⟨"BetsOnBetsModel", "get", "(II)I"⟩, 15) := ⟨⟨by decide +kernel, by decide +kernel⟩, List.mem_of_getElem? (i := 706) (by decide +kernel), List.mem_of_getElem? (i := 833) (by decide +kernel), List.mem_of_getElem? (i := 834) (by decide +kernel)⟩
theorem lw_p37 : lw_okq (⟨"BetsOnBetsModel", "isEnd", "(I)Z"⟩, 15) := ⟨⟨by decide +kernel, by decide +kernel⟩, List.mem_of_getElem? (i := 706) (by decide +kernel), List.mem_of_getElem? (i := 849) (by decide +kernel), List.mem_of_getElem? (i := 850) (by decide +kernel)⟩
theorem lw_p38 : lw_okq (⟨"BetsOnBetsModel", "ends", "()I"⟩, 15) := ⟨⟨by decide +kernel, by decide +kernel⟩, List.mem_of_getElem? (i := 706) (by decide +kernel), List.mem_of_getElem? (i := 853) (by decide +kernel), List.mem_of_getElem? (i := 854) (by decide +kernel)⟩
theorem lw_p39 : lw_okq (⟨"BetsOnBetsModel", "findsWays", "(I)V"⟩, 15) := ⟨⟨by decide +kernel, by decide +kernel⟩, List.mem_of_getElem? (i := 706) (by decide +kernel), List.mem_of_getElem? (i := 857) (by decide +kernel), List.mem_of_getElem? (i := 858) (by decide +kernel)⟩
theorem lw_p40 : lw_okq (⟨"BetsOnBetsModel", "isWay", "(II)Z"⟩, 15) := ⟨⟨by decide +kernel, by decide +kernel⟩, List.mem_of_getElem? (i := 706) (by decide +kernel), List.mem_of_getElem? (i := 861) (by decide +kernel), List.mem_of_getElem? (i := 862) (by decide +kernel)⟩
theorem lw_p41 : lw_okq (⟨"BetsOnBetsModel", "isWonBy", "(III)Z"⟩, 15) := ⟨⟨by decide +kernel, by decide +kernel⟩, List.mem_of_getElem? (i := 706) (by decide +kernel), List.mem_of_getElem? (i := 865) (by decide +kernel), List.mem_of_getElem? (i := 866) (by decide +kernel)⟩
theorem lw_p42 : lw_okq (⟨"BetsOnBetsModel", "standingOf", "(I)I"⟩, 15) := ⟨⟨by decide +kernel, by decide +kernel⟩, List.mem_of_getElem? (i := 706) (by decide +kernel), List.mem_of_getElem? (i := 876) (by decide +kernel), List.mem_of_getElem? (i := 877) (by decide +kernel)⟩
theorem lw_p43 : lw_okq (⟨"BetsOnBetsModel", "purseOf", "(II)I"⟩, 15) := ⟨⟨by decide +kernel, by decide +kernel⟩, List.mem_of_getElem? (i := 706) (by decide +kernel), List.mem_of_getElem? (i := 884) (by decide +kernel), List.mem_of_getElem? (i := 885) (by decide +kernel)⟩
theorem lw_p44 : lw_okq (⟨"BetsOnBetsModel", "meanOf", "(I)I"⟩, 15) := ⟨⟨by decide +kernel, by decide +kernel⟩, List.mem_of_getElem? (i := 706) (by decide +kernel), List.mem_of_getElem? (i := 893) (by decide +kernel), List.mem_of_getElem? (i := 894) (by decide +kernel)⟩
theorem lw_p45 : lw_okq (⟨"BetsOnBetsModel", "weightOf", "(I)J"⟩, 15) := ⟨⟨by decide +kernel, by decide +kernel⟩, List.mem_of_getElem? (i := 706) (by decide +kernel), List.mem_of_getElem? (i := 897) (by decide +kernel), List.mem_of_getElem? (i := 898) (by decide +kernel)⟩
theorem lw_p46 : lw_okq (⟨"BetsOnBetsModel", "wholeWeight", "()J"⟩, 15) := ⟨⟨by decide +kernel, by decide +kernel⟩, List.mem_of_getElem? (i := 706) (by decide +kernel), List.mem_of_getElem? (i := 902) (by decide +kernel), List.mem_of_getElem? (i := 903) (by decide +kernel)⟩
theorem lw_p47 : lw_okq (⟨"BetsOnBetsModel", "wrong", "(II)I"⟩, 15) := ⟨⟨by decide +kernel, by decide +kernel⟩, List.mem_of_getElem? (i := 706) (by decide +kernel), List.mem_of_getElem? (i := 910) (by decide +kernel), List.mem_of_getElem? (i := 911) (by decide +kernel)⟩
def lw_privs_3 : List (MethodName × Nat) := [(⟨"BetsOnBetsModel", "takes", "(I)Z"⟩, 15), (⟨"BetsOnBetsModel", "comes", "(I)Z"⟩, 15), (⟨"BetsOnBetsModel", "isMark", "(I)Z"⟩, 15), (⟨"BetsOnBetsModel", "isBet", "(I)Z"⟩, 15), (⟨"BetsOnBetsModel", "get", "(II)I"⟩, 15), (⟨"BetsOnBetsModel", "isEnd", "(I)Z"⟩, 15), (⟨"BetsOnBetsModel", "ends", "()I"⟩, 15), (⟨"BetsOnBetsModel", "findsWays", "(I)V"⟩, 15), (⟨"BetsOnBetsModel", "isWay", "(II)Z"⟩, 15), (⟨"BetsOnBetsModel", "isWonBy", "(III)Z"⟩, 15), (⟨"BetsOnBetsModel", "standingOf", "(I)I"⟩, 15), (⟨"BetsOnBetsModel", "purseOf", "(II)I"⟩, 15), (⟨"BetsOnBetsModel", "meanOf", "(I)I"⟩, 15), (⟨"BetsOnBetsModel", "weightOf", "(I)J"⟩, 15), (⟨"BetsOnBetsModel", "wholeWeight", "()J"⟩, 15), (⟨"BetsOnBetsModel", "wrong", "(II)I"⟩, 15)]
theorem lw_r3 : ∀ q ∈ lw_privs_3, lw_okq q := List.forall_mem_cons.mpr ⟨lw_p32, List.forall_mem_cons.mpr ⟨lw_p33, List.forall_mem_cons.mpr ⟨lw_p34, List.forall_mem_cons.mpr ⟨lw_p35, List.forall_mem_cons.mpr ⟨lw_p36, List.forall_mem_cons.mpr ⟨lw_p37, List.forall_mem_cons.mpr ⟨lw_p38, List.forall_mem_cons.mpr ⟨lw_p39, List.forall_mem_cons.mpr ⟨lw_p40, List.forall_mem_cons.mpr ⟨lw_p41, List.forall_mem_cons.mpr ⟨lw_p42, List.forall_mem_cons.mpr ⟨lw_p43, List.forall_mem_cons.mpr ⟨lw_p44, List.forall_mem_cons.mpr ⟨lw_p45, List.forall_mem_cons.mpr ⟨lw_p46, List.forall_mem_cons.mpr ⟨lw_p47, fun _ h => absurd h List.not_mem_nil⟩⟩⟩⟩⟩⟩⟩⟩⟩⟩⟩⟩⟩⟩⟩⟩
theorem lw_p48 : lw_okq (⟨"BetsOnBetsModel", "worstEnd", "(I)I"⟩, 15) := ⟨⟨by decide +kernel, by decide +kernel⟩, List.mem_of_getElem? (i := 706) (by decide +kernel), List.mem_of_getElem? (i := 914) (by decide +kernel), List.mem_of_getElem? (i := 915) (by decide +kernel)⟩
theorem lw_p49 : lw_okq (⟨"BetsOnBetsModel", "bestEnd", "(I)I"⟩, 15) := ⟨⟨by decide +kernel, by decide +kernel⟩, List.mem_of_getElem? (i := 706) (by decide +kernel), List.mem_of_getElem? (i := 922) (by decide +kernel), List.mem_of_getElem? (i := 923) (by decide +kernel)⟩
theorem lw_p50 : lw_okq (⟨"BetsOnBetsModel", "groups", "(II)I"⟩, 15) := ⟨⟨by decide +kernel, by decide +kernel⟩, List.mem_of_getElem? (i := 706) (by decide +kernel), List.mem_of_getElem? (i := 957) (by decide +kernel), List.mem_of_getElem? (i := 958) (by decide +kernel)⟩
theorem lw_p51 : lw_okq (⟨"BetsOnBetsModel", "sumOf", "(II)I"⟩, 15) := ⟨⟨by decide +kernel, by decide +kernel⟩, List.mem_of_getElem? (i := 706) (by decide +kernel), List.mem_of_getElem? (i := 961) (by decide +kernel), List.mem_of_getElem? (i := 962) (by decide +kernel)⟩
theorem lw_p52 : lw_okq (⟨"BetsOnBetsModel", "marked", "(I)I"⟩, 15) := ⟨⟨by decide +kernel, by decide +kernel⟩, List.mem_of_getElem? (i := 706) (by decide +kernel), List.mem_of_getElem? (i := 973) (by decide +kernel), List.mem_of_getElem? (i := 974) (by decide +kernel)⟩
theorem lw_p53 : lw_okq (⟨"BetsOnBetsModel", "wrongIn", "(I)I"⟩, 15) := ⟨⟨by decide +kernel, by decide +kernel⟩, List.mem_of_getElem? (i := 706) (by decide +kernel), List.mem_of_getElem? (i := 985) (by decide +kernel), List.mem_of_getElem? (i := 986) (by decide +kernel)⟩
def lw_privs_4 : List (MethodName × Nat) := [(⟨"BetsOnBetsModel", "worstEnd", "(I)I"⟩, 15), (⟨"BetsOnBetsModel", "bestEnd", "(I)I"⟩, 15), (⟨"BetsOnBetsModel", "groups", "(II)I"⟩, 15), (⟨"BetsOnBetsModel", "sumOf", "(II)I"⟩, 15), (⟨"BetsOnBetsModel", "marked", "(I)I"⟩, 15), (⟨"BetsOnBetsModel", "wrongIn", "(I)I"⟩, 15)]
theorem lw_r4 : ∀ q ∈ lw_privs_4, lw_okq q := List.forall_mem_cons.mpr ⟨lw_p48, List.forall_mem_cons.mpr ⟨lw_p49, List.forall_mem_cons.mpr ⟨lw_p50, List.forall_mem_cons.mpr ⟨lw_p51, List.forall_mem_cons.mpr ⟨lw_p52, List.forall_mem_cons.mpr ⟨lw_p53, fun _ h => absurd h List.not_mem_nil⟩⟩⟩⟩⟩⟩
def lw_privs : List (MethodName × Nat) := lw_privs_1 ++ (lw_privs_2 ++ (lw_privs_3 ++ (lw_privs_4)))
def lw_tbl : List Cond := k2_sels lw_privs ++ tables_1
theorem lw_privs_ok : ∀ q ∈ lw_privs, lw_okq q := by
  show ∀ q ∈ lw_privs_1 ++ (lw_privs_2 ++ (lw_privs_3 ++ (lw_privs_4))), lw_okq q
  exact List.forall_mem_append.mpr ⟨lw_r1, List.forall_mem_append.mpr ⟨lw_r2, List.forall_mem_append.mpr ⟨lw_r3, lw_r4⟩⟩⟩
end
section
def RX0 : String := "BetsOnBets$Against"
def TX0 : u_T := fun k => match k with
  | _ => ("", "", "", false)
def tyX0 : Nat → FieldType := fun k => match k with
  | _ => .int
abbrev wsX00 : List Cond := u_ws RX0 TX0 0
theorem nmX0 : ∀ a, a < 0 → ∀ b, b < 0 → a ≠ b → (TX0 a).2.1 ≠ (TX0 b).2.1 := by decide +kernel
theorem tyX0_ok : ∀ k, k < 0 → parseFieldDescriptor (TX0 k).2.2.1 = some (tyX0 k) := by decide +kernel
abbrev cX0_init : ByteArray := prog_2_method_1_code
def yX0_init : MethodName := ⟨RX0, "<init>", "()V"⟩
abbrev cX0_isWonBy : ByteArray := prog_2_method_2_code
def yX0_isWonBy : MethodName := ⟨RX0, "isWonBy", "(ZZ)Z"⟩
def RX1 : String := "BetsOnBets$Bet"
def TX1 : u_T := fun k => match k with
  | _ => ("", "", "", false)
def tyX1 : Nat → FieldType := fun k => match k with
  | _ => .int
abbrev wsX10 : List Cond := u_ws RX1 TX1 0
theorem nmX1 : ∀ a, a < 0 → ∀ b, b < 0 → a ≠ b → (TX1 a).2.1 ≠ (TX1 b).2.1 := by decide +kernel
theorem tyX1_ok : ∀ k, k < 0 → parseFieldDescriptor (TX1 k).2.2.1 = some (tyX1 k) := by decide +kernel
abbrev cX1_init : ByteArray := prog_3_method_1_code
def yX1_init : MethodName := ⟨RX1, "<init>", "()V"⟩
abbrev cX1_looksAtBoth : ByteArray := prog_3_method_3_code
def yX1_looksAtBoth : MethodName := ⟨RX1, "looksAtBoth", "()Z"⟩
def RX2 : String := "BetsOnBets$Book"
def TX2 : u_T := fun k => match k with
  | 0 => ("BetsOnBets$Book", "chances", "[I", true)
  | 1 => ("BetsOnBets$Book", "numbers", "[I", true)
  | 2 => ("BetsOnBets$Book", "funds", "[I", true)
  | 3 => ("BetsOnBets$Book", "happenings", "I", false)
  | _ => ("BetsOnBets$Book", "bets", "I", false)
def tyX2 : Nat → FieldType := fun k => match k with
  | 0 => .array .int
  | 1 => .array .int
  | 2 => .array .int
  | 3 => .int
  | _ => .int
abbrev wsX20 : List Cond := u_ws RX2 TX2 5
theorem nmX2 : ∀ a, a < 5 → ∀ b, b < 5 → a ≠ b → (TX2 a).2.1 ≠ (TX2 b).2.1 := by decide +kernel
theorem tyX2_ok : ∀ k, k < 5 → parseFieldDescriptor (TX2 k).2.2.1 = some (tyX2 k) := by decide +kernel
abbrev cX2_init : ByteArray := prog_4_method_1_code
def yX2_init : MethodName := ⟨RX2, "<init>", "()V"⟩
abbrev cX2_takeFrom : ByteArray := prog_4_method_2_code
def yX2_takeFrom : MethodName := ⟨RX2, "takeFrom", "(LBetsOnBets$Book;)V"⟩
abbrev cX2_comes : ByteArray := prog_4_method_3_code
def yX2_comes : MethodName := ⟨RX2, "comes", "(I[I)Z"⟩
abbrev cX2_comesHappening : ByteArray := prog_4_method_4_code
def yX2_comesHappening : MethodName := ⟨RX2, "comesHappening", "(I)Z"⟩
abbrev cX2_comesBet : ByteArray := prog_4_method_5_code
def yX2_comesBet : MethodName := ⟨RX2, "comesBet", "([I)Z"⟩
abbrev cX2_comesFund : ByteArray := prog_4_method_6_code
def yX2_comesFund : MethodName := ⟨RX2, "comesFund", "(II)Z"⟩
abbrev cX2_isRight : ByteArray := prog_4_method_7_code
def yX2_isRight : MethodName := ⟨RX2, "isRight", "([I)Z"⟩
abbrev cX2_isMark : ByteArray := prog_4_method_8_code
def yX2_isMark : MethodName := ⟨RX2, "isMark", "(I)Z"⟩
abbrev cX2_hasBet : ByteArray := prog_4_method_9_code
def yX2_hasBet : MethodName := ⟨RX2, "hasBet", "(I)Z"⟩
abbrev cX2_hasEnd : ByteArray := prog_4_method_10_code
def yX2_hasEnd : MethodName := ⟨RX2, "hasEnd", "(I)Z"⟩
abbrev cX2_ends : ByteArray := prog_4_method_11_code
def yX2_ends : MethodName := ⟨RX2, "ends", "()I"⟩
abbrev cX2_chanceOf : ByteArray := prog_4_method_12_code
def yX2_chanceOf : MethodName := ⟨RX2, "chanceOf", "(I)I"⟩
abbrev cX2_numberOf : ByteArray := prog_4_method_13_code
def yX2_numberOf : MethodName := ⟨RX2, "numberOf", "(II)I"⟩
abbrev cX2_change : ByteArray := prog_4_method_14_code
def yX2_change : MethodName := ⟨RX2, "change", "(III)V"⟩
abbrev cX2_fundOf : ByteArray := prog_4_method_15_code
def yX2_fundOf : MethodName := ⟨RX2, "fundOf", "(I)I"⟩
abbrev cX2_changeFund : ByteArray := prog_4_method_16_code
def yX2_changeFund : MethodName := ⟨RX2, "changeFund", "(II)V"⟩
abbrev cX2_allStakes : ByteArray := prog_4_method_17_code
def yX2_allStakes : MethodName := ⟨RX2, "allStakes", "()I"⟩
abbrev cX2_weightOf : ByteArray := prog_4_method_18_code
def yX2_weightOf : MethodName := ⟨RX2, "weightOf", "(I)J"⟩
abbrev cX2_wholeWeight : ByteArray := prog_4_method_19_code
def yX2_wholeWeight : MethodName := ⟨RX2, "wholeWeight", "()J"⟩
def RX3 : String := "BetsOnBets$Both"
def TX3 : u_T := fun k => match k with
  | _ => ("", "", "", false)
def tyX3 : Nat → FieldType := fun k => match k with
  | _ => .int
abbrev wsX30 : List Cond := u_ws RX3 TX3 0
theorem nmX3 : ∀ a, a < 0 → ∀ b, b < 0 → a ≠ b → (TX3 a).2.1 ≠ (TX3 b).2.1 := by decide +kernel
theorem tyX3_ok : ∀ k, k < 0 → parseFieldDescriptor (TX3 k).2.2.1 = some (tyX3 k) := by decide +kernel
abbrev cX3_init : ByteArray := prog_5_method_1_code
def yX3_init : MethodName := ⟨RX3, "<init>", "()V"⟩
abbrev cX3_isWonBy : ByteArray := prog_5_method_2_code
def yX3_isWonBy : MethodName := ⟨RX3, "isWonBy", "(ZZ)Z"⟩
abbrev cX3_looksAtBoth : ByteArray := prog_5_method_3_code
def yX3_looksAtBoth : MethodName := ⟨RX3, "looksAtBoth", "()Z"⟩
def RX4 : String := "BetsOnBets$Either"
def TX4 : u_T := fun k => match k with
  | _ => ("", "", "", false)
def tyX4 : Nat → FieldType := fun k => match k with
  | _ => .int
abbrev wsX40 : List Cond := u_ws RX4 TX4 0
theorem nmX4 : ∀ a, a < 0 → ∀ b, b < 0 → a ≠ b → (TX4 a).2.1 ≠ (TX4 b).2.1 := by decide +kernel
theorem tyX4_ok : ∀ k, k < 0 → parseFieldDescriptor (TX4 k).2.2.1 = some (tyX4 k) := by decide +kernel
abbrev cX4_init : ByteArray := prog_6_method_1_code
def yX4_init : MethodName := ⟨RX4, "<init>", "()V"⟩
abbrev cX4_isWonBy : ByteArray := prog_6_method_2_code
def yX4_isWonBy : MethodName := ⟨RX4, "isWonBy", "(ZZ)Z"⟩
def RX5 : String := "BetsOnBets$Neither"
def TX5 : u_T := fun k => match k with
  | _ => ("", "", "", false)
def tyX5 : Nat → FieldType := fun k => match k with
  | _ => .int
abbrev wsX50 : List Cond := u_ws RX5 TX5 0
theorem nmX5 : ∀ a, a < 0 → ∀ b, b < 0 → a ≠ b → (TX5 a).2.1 ≠ (TX5 b).2.1 := by decide +kernel
theorem tyX5_ok : ∀ k, k < 0 → parseFieldDescriptor (TX5 k).2.2.1 = some (tyX5 k) := by decide +kernel
abbrev cX5_init : ByteArray := prog_7_method_1_code
def yX5_init : MethodName := ⟨RX5, "<init>", "()V"⟩
abbrev cX5_isWonBy : ByteArray := prog_7_method_2_code
def yX5_isWonBy : MethodName := ⟨RX5, "isWonBy", "(ZZ)Z"⟩
def RX6 : String := "BetsOnBets$One"
def TX6 : u_T := fun k => match k with
  | _ => ("", "", "", false)
def tyX6 : Nat → FieldType := fun k => match k with
  | _ => .int
abbrev wsX60 : List Cond := u_ws RX6 TX6 0
theorem nmX6 : ∀ a, a < 0 → ∀ b, b < 0 → a ≠ b → (TX6 a).2.1 ≠ (TX6 b).2.1 := by decide +kernel
theorem tyX6_ok : ∀ k, k < 0 → parseFieldDescriptor (TX6 k).2.2.1 = some (tyX6 k) := by decide +kernel
abbrev cX6_init : ByteArray := prog_8_method_1_code
def yX6_init : MethodName := ⟨RX6, "<init>", "()V"⟩
abbrev cX6_isWonBy : ByteArray := prog_8_method_2_code
def yX6_isWonBy : MethodName := ⟨RX6, "isWonBy", "(ZZ)Z"⟩
def RX7 : String := "BetsOnBets$Plain"
def TX7 : u_T := fun k => match k with
  | _ => ("", "", "", false)
def tyX7 : Nat → FieldType := fun k => match k with
  | _ => .int
abbrev wsX70 : List Cond := u_ws RX7 TX7 0
theorem nmX7 : ∀ a, a < 0 → ∀ b, b < 0 → a ≠ b → (TX7 a).2.1 ≠ (TX7 b).2.1 := by decide +kernel
theorem tyX7_ok : ∀ k, k < 0 → parseFieldDescriptor (TX7 k).2.2.1 = some (tyX7 k) := by decide +kernel
abbrev cX7_init : ByteArray := prog_9_method_1_code
def yX7_init : MethodName := ⟨RX7, "<init>", "()V"⟩
abbrev cX7_isWonBy : ByteArray := prog_9_method_2_code
def yX7_isWonBy : MethodName := ⟨RX7, "isWonBy", "(ZZ)Z"⟩
abbrev cX7_looksAtBoth : ByteArray := prog_9_method_3_code
def yX7_looksAtBoth : MethodName := ⟨RX7, "looksAtBoth", "()Z"⟩
def RX8 : String := "BetsOnBets$Reader"
def TX8 : u_T := fun k => match k with
  | 0 => ("BetsOnBets$Reader", "letters", "LBetsOnBets$Row;", true)
  | 1 => ("BetsOnBets$Reader", "numbers", "[I", true)
  | 2 => ("BetsOnBets$Reader", "place", "I", false)
  | _ => ("BetsOnBets$Reader", "isStuck", "Z", false)
def tyX8 : Nat → FieldType := fun k => match k with
  | 0 => .object "BetsOnBets$Row"
  | 1 => .array .int
  | 2 => .int
  | _ => .boolean
abbrev wsX80 : List Cond := u_ws RX8 TX8 4
theorem nmX8 : ∀ a, a < 4 → ∀ b, b < 4 → a ≠ b → (TX8 a).2.1 ≠ (TX8 b).2.1 := by decide +kernel
theorem tyX8_ok : ∀ k, k < 4 → parseFieldDescriptor (TX8 k).2.2.1 = some (tyX8 k) := by decide +kernel
abbrev cX8_init : ByteArray := prog_10_method_1_code
def yX8_init : MethodName := ⟨RX8, "<init>", "(LBetsOnBets$Row;)V"⟩
abbrev cX8_begin : ByteArray := prog_10_method_2_code
def yX8_begin : MethodName := ⟨RX8, "begin", "()V"⟩
abbrev cX8_goesOn : ByteArray := prog_10_method_3_code
def yX8_goesOn : MethodName := ⟨RX8, "goesOn", "()Z"⟩
abbrev cX8_faultPlace : ByteArray := prog_10_method_4_code
def yX8_faultPlace : MethodName := ⟨RX8, "faultPlace", "()I"⟩
abbrev cX8_readStatement : ByteArray := prog_10_method_5_code
def yX8_readStatement : MethodName := ⟨RX8, "readStatement", "()I"⟩
abbrev cX8_readBet : ByteArray := prog_10_method_6_code
def yX8_readBet : MethodName := ⟨RX8, "readBet", "()V"⟩
abbrev cX8_readMark : ByteArray := prog_10_method_7_code
def yX8_readMark : MethodName := ⟨RX8, "readMark", "()I"⟩
abbrev cX8_oneOrTwoDigits : ByteArray := prog_10_method_8_code
def yX8_oneOrTwoDigits : MethodName := ⟨RX8, "oneOrTwoDigits", "()I"⟩
abbrev cX8_oneOf : ByteArray := prog_10_method_9_code
def yX8_oneOf : MethodName := ⟨RX8, "oneOf", "(Ljava/lang/String;)I"⟩
abbrev cX8_nextIn : ByteArray := prog_10_method_10_code
def yX8_nextIn : MethodName := ⟨RX8, "nextIn", "(Ljava/lang/String;)I"⟩
def RX9 : String := "BetsOnBets$Row"
def TX9 : u_T := fun k => match k with
  | 0 => ("BetsOnBets$Row", "held", "[I", true)
  | _ => ("BetsOnBets$Row", "size", "I", false)
def tyX9 : Nat → FieldType := fun k => match k with
  | 0 => .array .int
  | _ => .int
abbrev wsX90 : List Cond := u_ws RX9 TX9 2
theorem nmX9 : ∀ a, a < 2 → ∀ b, b < 2 → a ≠ b → (TX9 a).2.1 ≠ (TX9 b).2.1 := by decide +kernel
theorem tyX9_ok : ∀ k, k < 2 → parseFieldDescriptor (TX9 k).2.2.1 = some (tyX9 k) := by decide +kernel
abbrev cX9_init : ByteArray := prog_11_method_1_code
def yX9_init : MethodName := ⟨RX9, "<init>", "(I)V"⟩
abbrev cX9_isFull : ByteArray := prog_11_method_2_code
def yX9_isFull : MethodName := ⟨RX9, "isFull", "()Z"⟩
abbrev cX9_add : ByteArray := prog_11_method_3_code
def yX9_add : MethodName := ⟨RX9, "add", "(I)V"⟩
abbrev cX9_get : ByteArray := prog_11_method_4_code
def yX9_get : MethodName := ⟨RX9, "get", "(I)I"⟩
abbrev cX9_clear : ByteArray := prog_11_method_5_code
def yX9_clear : MethodName := ⟨RX9, "clear", "()V"⟩
def RX10 : String := "BetsOnBets$Ways"
def TX10 : u_T := fun k => match k with
  | 0 => ("BetsOnBets$Ways", "kinds", "[LBetsOnBets$Bet;", true)
  | 1 => ("BetsOnBets$Ways", "many", "[I", true)
  | 2 => ("BetsOnBets$Ways", "firsts", "[I", true)
  | 3 => ("BetsOnBets$Ways", "wons", "[I", true)
  | _ => ("BetsOnBets$Ways", "open", "[I", true)
def tyX10 : Nat → FieldType := fun k => match k with
  | 0 => .array (.object "BetsOnBets$Bet")
  | 1 => .array .int
  | 2 => .array .int
  | 3 => .array .int
  | _ => .array .int
abbrev wsX100 : List Cond := u_ws RX10 TX10 5
theorem nmX10 : ∀ a, a < 5 → ∀ b, b < 5 → a ≠ b → (TX10 a).2.1 ≠ (TX10 b).2.1 := by decide +kernel
theorem tyX10_ok : ∀ k, k < 5 → parseFieldDescriptor (TX10 k).2.2.1 = some (tyX10 k) := by decide +kernel
abbrev cX10_init : ByteArray := prog_12_method_1_code
def yX10_init : MethodName := ⟨RX10, "<init>", "()V"⟩
abbrev cX10_find : ByteArray := prog_12_method_2_code
def yX10_find : MethodName := ⟨RX10, "find", "(LBetsOnBets$Book;)V"⟩
abbrev cX10_findOf : ByteArray := prog_12_method_3_code
def yX10_findOf : MethodName := ⟨RX10, "findOf", "(LBetsOnBets$Book;I)V"⟩
abbrev cX10_isWay : ByteArray := prog_12_method_4_code
def yX10_isWay : MethodName := ⟨RX10, "isWay", "(LBetsOnBets$Book;II)Z"⟩
abbrev cX10_isSo : ByteArray := prog_12_method_5_code
def yX10_isSo : MethodName := ⟨RX10, "isSo", "(III)Z"⟩
abbrev cX10_kindOf : ByteArray := prog_12_method_6_code
def yX10_kindOf : MethodName := ⟨RX10, "kindOf", "(I)LBetsOnBets$Bet;"⟩
abbrev cX10_howMany : ByteArray := prog_12_method_7_code
def yX10_howMany : MethodName := ⟨RX10, "howMany", "(I)I"⟩
abbrev cX10_firstOf : ByteArray := prog_12_method_8_code
def yX10_firstOf : MethodName := ⟨RX10, "firstOf", "(I)I"⟩
abbrev cX10_voidIn : ByteArray := prog_12_method_9_code
def yX10_voidIn : MethodName := ⟨RX10, "voidIn", "(I)I"⟩
abbrev cX10_standingOf : ByteArray := prog_12_method_10_code
def yX10_standingOf : MethodName := ⟨RX10, "standingOf", "(II)I"⟩
abbrev cX10_lookedAt : ByteArray := prog_12_method_11_code
def yX10_lookedAt : MethodName := ⟨RX10, "lookedAt", "(LBetsOnBets$Book;I)I"⟩
abbrev cX10_betBit : ByteArray := prog_12_method_12_code
def yX10_betBit : MethodName := ⟨RX10, "betBit", "(LBetsOnBets$Book;I)I"⟩
def RX11 : String := "BetsOnBets"
def TX11 : u_T := fun k => match k with
  | 0 => ("BetsOnBets", "letters", "LBetsOnBets$Row;", true)
  | 1 => ("BetsOnBets", "seen", "LBetsOnBets$Row;", true)
  | 2 => ("BetsOnBets", "reader", "LBetsOnBets$Reader;", true)
  | 3 => ("BetsOnBets", "told", "LBetsOnBets$Book;", true)
  | 4 => ("BetsOnBets", "trial", "LBetsOnBets$Book;", true)
  | 5 => ("BetsOnBets", "kept", "LBetsOnBets$Book;", true)
  | 6 => ("BetsOnBets", "allWays", "LBetsOnBets$Ways;", true)
  | 7 => ("BetsOnBets", "refusals", "[I", true)
  | 8 => ("BetsOnBets", "groups", "[I", true)
  | 9 => ("BetsOnBets", "reached", "[I", true)
  | _ => ("BetsOnBets", "isKept", "Z", false)
def tyX11 : Nat → FieldType := fun k => match k with
  | 0 => .object "BetsOnBets$Row"
  | 1 => .object "BetsOnBets$Row"
  | 2 => .object "BetsOnBets$Reader"
  | 3 => .object "BetsOnBets$Book"
  | 4 => .object "BetsOnBets$Book"
  | 5 => .object "BetsOnBets$Book"
  | 6 => .object "BetsOnBets$Ways"
  | 7 => .array .int
  | 8 => .array .int
  | 9 => .array .int
  | _ => .boolean
abbrev wsX110 : List Cond := u_ws RX11 TX11 11
theorem nmX11 : ∀ a, a < 11 → ∀ b, b < 11 → a ≠ b → (TX11 a).2.1 ≠ (TX11 b).2.1 := by decide +kernel
theorem tyX11_ok : ∀ k, k < 11 → parseFieldDescriptor (TX11 k).2.2.1 = some (tyX11 k) := by decide +kernel
abbrev cX11_init : ByteArray := prog_1_method_1_code
def yX11_init : MethodName := ⟨RX11, "<init>", "()V"⟩
abbrev cX11_letter : ByteArray := prog_1_method_2_code
def yX11_letter : MethodName := ⟨RX11, "letter", "(I)I"⟩
abbrev cX11_inn : ByteArray := prog_1_method_3_code
def yX11_inn : MethodName := ⟨RX11, "inn", "()I"⟩
abbrev cX11_chance : ByteArray := prog_1_method_4_code
def yX11_chance : MethodName := ⟨RX11, "chance", "(I)I"⟩
abbrev cX11_bet : ByteArray := prog_1_method_5_code
def yX11_bet : MethodName := ⟨RX11, "bet", "(II)I"⟩
abbrev cX11_set : ByteArray := prog_1_method_6_code
def yX11_set : MethodName := ⟨RX11, "set", "(III)I"⟩
abbrev cX11_fund : ByteArray := prog_1_method_7_code
def yX11_fund : MethodName := ⟨RX11, "fund", "(II)I"⟩
abbrev cX11_ways : ByteArray := prog_1_method_8_code
def yX11_ways : MethodName := ⟨RX11, "ways", "(II)I"⟩
abbrev cX11_standing : ByteArray := prog_1_method_9_code
def yX11_standing : MethodName := ⟨RX11, "standing", "(II)I"⟩
abbrev cX11_purse : ByteArray := prog_1_method_10_code
def yX11_purse : MethodName := ⟨RX11, "purse", "(II)I"⟩
abbrev cX11_mean : ByteArray := prog_1_method_11_code
def yX11_mean : MethodName := ⟨RX11, "mean", "(I)I"⟩
abbrev cX11_worst : ByteArray := prog_1_method_12_code
def yX11_worst : MethodName := ⟨RX11, "worst", "(II)I"⟩
abbrev cX11_best : ByteArray := prog_1_method_13_code
def yX11_best : MethodName := ⟨RX11, "best", "(II)I"⟩
abbrev cX11_sure : ByteArray := prog_1_method_14_code
def yX11_sure : MethodName := ⟨RX11, "sure", "(I)I"⟩
abbrev cX11_likely : ByteArray := prog_1_method_15_code
def yX11_likely : MethodName := ⟨RX11, "likely", "(I)I"⟩
abbrev cX11_voids : ByteArray := prog_1_method_16_code
def yX11_voids : MethodName := ⟨RX11, "voids", "()I"⟩
abbrev cX11_sparing : ByteArray := prog_1_method_17_code
def yX11_sparing : MethodName := ⟨RX11, "sparing", "(I)I"⟩
abbrev cX11_safeOdds : ByteArray := prog_1_method_18_code
def yX11_safeOdds : MethodName := ⟨RX11, "safeOdds", "(I)I"⟩
abbrev cX11_host : ByteArray := prog_1_method_19_code
def yX11_host : MethodName := ⟨RX11, "host", "()I"⟩
abbrev cX11_settling : ByteArray := prog_1_method_20_code
def yX11_settling : MethodName := ⟨RX11, "settling", "(I)I"⟩
abbrev cX11_cannotPay : ByteArray := prog_1_method_21_code
def yX11_cannotPay : MethodName := ⟨RX11, "cannotPay", "(I)I"⟩
abbrev cX11_rings : ByteArray := prog_1_method_22_code
def yX11_rings : MethodName := ⟨RX11, "rings", "()I"⟩
abbrev cX11_row : ByteArray := prog_1_method_23_code
def yX11_row : MethodName := ⟨RX11, "row", "(I)I"⟩
abbrev cX11_fitting : ByteArray := prog_1_method_24_code
def yX11_fitting : MethodName := ⟨RX11, "fitting", "(I)I"⟩
abbrev cX11_judge : ByteArray := prog_1_method_25_code
def yX11_judge : MethodName := ⟨RX11, "judge", "(I)I"⟩
abbrev cX11_seeds : ByteArray := prog_1_method_26_code
def yX11_seeds : MethodName := ⟨RX11, "seeds", "(III)I"⟩
abbrev cX11_image : ByteArray := prog_1_method_27_code
def yX11_image : MethodName := ⟨RX11, "image", "()I"⟩
abbrev cX11_on : ByteArray := prog_1_method_28_code
def yX11_on : MethodName := ⟨RX11, "on", "()I"⟩
abbrev cX11_count : ByteArray := prog_1_method_29_code
def yX11_count : MethodName := ⟨RX11, "count", "(I)I"⟩
abbrev cX11_innTold : ByteArray := prog_1_method_30_code
def yX11_innTold : MethodName := ⟨RX11, "innTold", "()I"⟩
abbrev cX11_taken : ByteArray := prog_1_method_31_code
def yX11_taken : MethodName := ⟨RX11, "taken", "(LBetsOnBets$Row;II)I"⟩
abbrev cX11_extreme : ByteArray := prog_1_method_32_code
def yX11_extreme : MethodName := ⟨RX11, "extreme", "(III)I"⟩
abbrev cX11_purseOf : ByteArray := prog_1_method_33_code
def yX11_purseOf : MethodName := ⟨RX11, "purseOf", "(LBetsOnBets$Book;II)I"⟩
abbrev cX11_bettorsGain : ByteArray := prog_1_method_34_code
def yX11_bettorsGain : MethodName := ⟨RX11, "bettorsGain", "(LBetsOnBets$Book;II)I"⟩
abbrev cX11_meanOf : ByteArray := prog_1_method_35_code
def yX11_meanOf : MethodName := ⟨RX11, "meanOf", "(LBetsOnBets$Book;I)I"⟩
abbrev cX11_inHundredths : ByteArray := prog_1_method_36_code
def yX11_inHundredths : MethodName := ⟨RX11, "inHundredths", "(LBetsOnBets$Book;J)I"⟩
abbrev cX11_extremeEnd : ByteArray := prog_1_method_37_code
def yX11_extremeEnd : MethodName := ⟨RX11, "extremeEnd", "(LBetsOnBets$Book;II)I"⟩
abbrev cX11_worstOf : ByteArray := prog_1_method_38_code
def yX11_worstOf : MethodName := ⟨RX11, "worstOf", "(LBetsOnBets$Book;I)I"⟩
abbrev cX11_mostGroups : ByteArray := prog_1_method_39_code
def yX11_mostGroups : MethodName := ⟨RX11, "mostGroups", "(I)I"⟩
abbrev cX11_firstUnlike : ByteArray := prog_1_method_40_code
def yX11_firstUnlike : MethodName := ⟨RX11, "firstUnlike", "(I)I"⟩
abbrev cX11_drawBy : ByteArray := prog_1_method_41_code
def yX11_drawBy : MethodName := ⟨RX11, "drawBy", "(I)I"⟩
abbrev cX11_refused : ByteArray := prog_1_method_42_code
def yX11_refused : MethodName := ⟨RX11, "refused", "(I)I"⟩
abbrev cX11_refusedFar : ByteArray := prog_1_method_43_code
def yX11_refusedFar : MethodName := ⟨RX11, "refusedFar", "(I)I"⟩
abbrev cX11_isPerson : ByteArray := prog_1_method_44_code
def yX11_isPerson : MethodName := ⟨RX11, "isPerson", "(I)Z"⟩
abbrev cX11_has : ByteArray := prog_1_method_45_code
def yX11_has : MethodName := ⟨RX11, "has", "(II)Z"⟩
abbrev cX11_at : ByteArray := prog_1_method_46_code
def yX11_at : MethodName := ⟨RX11, "at", "([II)I"⟩
abbrev cX11_put : ByteArray := prog_1_method_47_code
def yX11_put : MethodName := ⟨RX11, "put", "([III)V"⟩
abbrev cX11_copy : ByteArray := prog_1_method_48_code
def yX11_copy : MethodName := ⟨RX11, "copy", "([I[I)V"⟩
def RX12 : String := "BetsOnBetsModel"
def TX12 : u_T := fun k => match k with
  | 0 => ("BetsOnBetsModel", "refusals", "[I", true)
  | 1 => ("BetsOnBetsModel", "s", "[I", true)
  | 2 => ("BetsOnBetsModel", "image", "[I", true)
  | 3 => ("BetsOnBetsModel", "read", "[I", true)
  | 4 => ("BetsOnBetsModel", "isImage", "Z", false)
  | 5 => ("BetsOnBetsModel", "tape", "[I", true)
  | 6 => ("BetsOnBetsModel", "told", "[I", true)
  | 7 => ("BetsOnBetsModel", "taped", "I", false)
  | 8 => ("BetsOnBetsModel", "at", "I", false)
  | 9 => ("BetsOnBetsModel", "ways", "I", false)
  | 10 => ("BetsOnBetsModel", "firstWay", "I", false)
  | 11 => ("BetsOnBetsModel", "some", "I", false)
  | 12 => ("BetsOnBetsModel", "all", "I", false)
  | 13 => ("BetsOnBetsModel", "row", "[I", true)
  | _ => ("BetsOnBetsModel", "rowed", "I", false)
def tyX12 : Nat → FieldType := fun k => match k with
  | 0 => .array .int
  | 1 => .array .int
  | 2 => .array .int
  | 3 => .array .int
  | 4 => .boolean
  | 5 => .array .int
  | 6 => .array .int
  | 7 => .int
  | 8 => .int
  | 9 => .int
  | 10 => .int
  | 11 => .int
  | 12 => .int
  | 13 => .array .int
  | _ => .int
abbrev wsX120 : List Cond := u_ws RX12 TX12 15
theorem nmX12 : ∀ a, a < 15 → ∀ b, b < 15 → a ≠ b → (TX12 a).2.1 ≠ (TX12 b).2.1 := by decide +kernel
theorem tyX12_ok : ∀ k, k < 15 → parseFieldDescriptor (TX12 k).2.2.1 = some (tyX12 k) := by decide +kernel
abbrev cX12_init : ByteArray := prog_14_method_1_code
def yX12_init : MethodName := ⟨RX12, "<init>", "()V"⟩
abbrev cX12_refuse : ByteArray := prog_14_method_2_code
def yX12_refuse : MethodName := ⟨RX12, "refuse", "(I)I"⟩
abbrev cX12_isIn : ByteArray := prog_14_method_3_code
def yX12_isIn : MethodName := ⟨RX12, "isIn", "(II)Z"⟩
abbrev cX12_within : ByteArray := prog_14_method_4_code
def yX12_within : MethodName := ⟨RX12, "within", "(III)I"⟩
abbrev cX12_copies : ByteArray := prog_14_method_5_code
def yX12_copies : MethodName := ⟨RX12, "copies", "([I[I)V"⟩
abbrev cX12_bits : ByteArray := prog_14_method_6_code
def yX12_bits : MethodName := ⟨RX12, "bits", "(I)I"⟩
abbrev cX12_isBet : ByteArray := prog_14_method_7_code
def yX12_isBet : MethodName := ⟨RX12, "isBet", "(I)Z"⟩
abbrev cX12_isPerson : ByteArray := prog_14_method_8_code
def yX12_isPerson : MethodName := ⟨RX12, "isPerson", "(I)Z"⟩
abbrev cX12_ends : ByteArray := prog_14_method_9_code
def yX12_ends : MethodName := ⟨RX12, "ends", "()I"⟩
abbrev cX12_isEnd : ByteArray := prog_14_method_10_code
def yX12_isEnd : MethodName := ⟨RX12, "isEnd", "(I)Z"⟩
abbrev cX12_get : ByteArray := prog_14_method_11_code
def yX12_get : MethodName := ⟨RX12, "get", "(II)I"⟩
abbrev cX12_letter : ByteArray := prog_14_method_12_code
def yX12_letter : MethodName := ⟨RX12, "letter", "(I)I"⟩
abbrev cX12_sign : ByteArray := prog_14_method_13_code
def yX12_sign : MethodName := ⟨RX12, "sign", "()I"⟩
abbrev cX12_takes : ByteArray := prog_14_method_14_code
def yX12_takes : MethodName := ⟨RX12, "takes", "(I)Z"⟩
abbrev cX12_readsNumber : ByteArray := prog_14_method_15_code
def yX12_readsNumber : MethodName := ⟨RX12, "readsNumber", "(II)Z"⟩
abbrev cX12_kindOf : ByteArray := prog_14_method_16_code
def yX12_kindOf : MethodName := ⟨RX12, "kindOf", "(I)I"⟩
abbrev cX12_readsKind : ByteArray := prog_14_method_17_code
def yX12_readsKind : MethodName := ⟨RX12, "readsKind", "()Z"⟩
abbrev cX12_readsMark : ByteArray := prog_14_method_18_code
def yX12_readsMark : MethodName := ⟨RX12, "readsMark", "(I)Z"⟩
abbrev cX12_readsStatement : ByteArray := prog_14_method_19_code
def yX12_readsStatement : MethodName := ⟨RX12, "readsStatement", "()Z"⟩
abbrev cX12_isMark : ByteArray := prog_14_method_20_code
def yX12_isMark : MethodName := ⟨RX12, "isMark", "(I)Z"⟩
abbrev cX12_comes : ByteArray := prog_14_method_21_code
def yX12_comes : MethodName := ⟨RX12, "comes", "(I)Z"⟩
abbrev cX12_reads : ByteArray := prog_14_method_22_code
def yX12_reads : MethodName := ⟨RX12, "reads", "()I"⟩
abbrev cX12_inn : ByteArray := prog_14_method_23_code
def yX12_inn : MethodName := ⟨RX12, "inn", "()I"⟩
abbrev cX12_chance : ByteArray := prog_14_method_24_code
def yX12_chance : MethodName := ⟨RX12, "chance", "(I)I"⟩
abbrev cX12_bet : ByteArray := prog_14_method_25_code
def yX12_bet : MethodName := ⟨RX12, "bet", "(II)I"⟩
abbrev cX12_set : ByteArray := prog_14_method_26_code
def yX12_set : MethodName := ⟨RX12, "set", "(III)I"⟩
abbrev cX12_fund : ByteArray := prog_14_method_27_code
def yX12_fund : MethodName := ⟨RX12, "fund", "(II)I"⟩
abbrev cX12_isSo : ByteArray := prog_14_method_28_code
def yX12_isSo : MethodName := ⟨RX12, "isSo", "(III)Z"⟩
abbrev cX12_isWonBy : ByteArray := prog_14_method_29_code
def yX12_isWonBy : MethodName := ⟨RX12, "isWonBy", "(III)Z"⟩
abbrev cX12_isWay : ByteArray := prog_14_method_30_code
def yX12_isWay : MethodName := ⟨RX12, "isWay", "(II)Z"⟩
abbrev cX12_findsWays : ByteArray := prog_14_method_31_code
def yX12_findsWays : MethodName := ⟨RX12, "findsWays", "(I)V"⟩
abbrev cX12_ways : ByteArray := prog_14_method_32_code
def yX12_ways : MethodName := ⟨RX12, "ways", "(II)I"⟩
abbrev cX12_standingOf : ByteArray := prog_14_method_33_code
def yX12_standingOf : MethodName := ⟨RX12, "standingOf", "(I)I"⟩
abbrev cX12_standing : ByteArray := prog_14_method_34_code
def yX12_standing : MethodName := ⟨RX12, "standing", "(II)I"⟩
abbrev cX12_purseOf : ByteArray := prog_14_method_35_code
def yX12_purseOf : MethodName := ⟨RX12, "purseOf", "(II)I"⟩
abbrev cX12_purse : ByteArray := prog_14_method_36_code
def yX12_purse : MethodName := ⟨RX12, "purse", "(II)I"⟩
abbrev cX12_weightOf : ByteArray := prog_14_method_37_code
def yX12_weightOf : MethodName := ⟨RX12, "weightOf", "(I)J"⟩
abbrev cX12_wholeWeight : ByteArray := prog_14_method_38_code
def yX12_wholeWeight : MethodName := ⟨RX12, "wholeWeight", "()J"⟩
abbrev cX12_meanOf : ByteArray := prog_14_method_39_code
def yX12_meanOf : MethodName := ⟨RX12, "meanOf", "(I)I"⟩
abbrev cX12_mean : ByteArray := prog_14_method_40_code
def yX12_mean : MethodName := ⟨RX12, "mean", "(I)I"⟩
abbrev cX12_worstEnd : ByteArray := prog_14_method_41_code
def yX12_worstEnd : MethodName := ⟨RX12, "worstEnd", "(I)I"⟩
abbrev cX12_bestEnd : ByteArray := prog_14_method_42_code
def yX12_bestEnd : MethodName := ⟨RX12, "bestEnd", "(I)I"⟩
abbrev cX12_wrong : ByteArray := prog_14_method_43_code
def yX12_wrong : MethodName := ⟨RX12, "wrong", "(II)I"⟩
abbrev cX12_worst : ByteArray := prog_14_method_44_code
def yX12_worst : MethodName := ⟨RX12, "worst", "(II)I"⟩
abbrev cX12_best : ByteArray := prog_14_method_45_code
def yX12_best : MethodName := ⟨RX12, "best", "(II)I"⟩
abbrev cX12_sure : ByteArray := prog_14_method_46_code
def yX12_sure : MethodName := ⟨RX12, "sure", "(I)I"⟩
abbrev cX12_likely : ByteArray := prog_14_method_47_code
def yX12_likely : MethodName := ⟨RX12, "likely", "(I)I"⟩
abbrev cX12_voids : ByteArray := prog_14_method_48_code
def yX12_voids : MethodName := ⟨RX12, "voids", "()I"⟩
abbrev cX12_sparing : ByteArray := prog_14_method_49_code
def yX12_sparing : MethodName := ⟨RX12, "sparing", "(I)I"⟩
abbrev cX12_safeOdds : ByteArray := prog_14_method_50_code
def yX12_safeOdds : MethodName := ⟨RX12, "safeOdds", "(I)I"⟩
abbrev cX12_host : ByteArray := prog_14_method_51_code
def yX12_host : MethodName := ⟨RX12, "host", "()I"⟩
abbrev cX12_sumOf : ByteArray := prog_14_method_52_code
def yX12_sumOf : MethodName := ⟨RX12, "sumOf", "(II)I"⟩
abbrev cX12_groups : ByteArray := prog_14_method_53_code
def yX12_groups : MethodName := ⟨RX12, "groups", "(II)I"⟩
abbrev cX12_settling : ByteArray := prog_14_method_54_code
def yX12_settling : MethodName := ⟨RX12, "settling", "(I)I"⟩
abbrev cX12_cannotPay : ByteArray := prog_14_method_55_code
def yX12_cannotPay : MethodName := ⟨RX12, "cannotPay", "(I)I"⟩
abbrev cX12_marked : ByteArray := prog_14_method_56_code
def yX12_marked : MethodName := ⟨RX12, "marked", "(I)I"⟩
abbrev cX12_rings : ByteArray := prog_14_method_57_code
def yX12_rings : MethodName := ⟨RX12, "rings", "()I"⟩
abbrev cX12_row : ByteArray := prog_14_method_58_code
def yX12_row : MethodName := ⟨RX12, "row", "(I)I"⟩
abbrev cX12_wrongIn : ByteArray := prog_14_method_59_code
def yX12_wrongIn : MethodName := ⟨RX12, "wrongIn", "(I)I"⟩
abbrev cX12_fitting : ByteArray := prog_14_method_60_code
def yX12_fitting : MethodName := ⟨RX12, "fitting", "(I)I"⟩
abbrev cX12_judge : ByteArray := prog_14_method_61_code
def yX12_judge : MethodName := ⟨RX12, "judge", "(I)I"⟩
abbrev cX12_seeds : ByteArray := prog_14_method_62_code
def yX12_seeds : MethodName := ⟨RX12, "seeds", "(III)I"⟩
abbrev cX12_image : ByteArray := prog_14_method_63_code
def yX12_image : MethodName := ⟨RX12, "image", "()I"⟩
abbrev cX12_on : ByteArray := prog_14_method_64_code
def yX12_on : MethodName := ⟨RX12, "on", "()I"⟩
abbrev cX12_count : ByteArray := prog_14_method_65_code
def yX12_count : MethodName := ⟨RX12, "count", "(I)I"⟩
def RJ11 : String := "java/lang/Character"
def TJ11 : u_T := fun k => match k with
  | _ => ("", "", "", false)
def tyJ11 : Nat → FieldType := fun k => match k with
  | _ => .int
abbrev wsJ110 : List Cond := u_ws RJ11 TJ11 0
theorem nmJ11 : ∀ a, a < 0 → ∀ b, b < 0 → a ≠ b → (TJ11 a).2.1 ≠ (TJ11 b).2.1 := by decide +kernel
theorem tyJ11_ok : ∀ k, k < 0 → parseFieldDescriptor (TJ11 k).2.2.1 = some (tyJ11 k) := by decide +kernel
abbrev cJ11_isValidCodePoint_9a6ad : ByteArray := prog_15_method_11_code
def yJ11_isValidCodePoint_9a6ad : MethodName := ⟨RJ11, "isValidCodePoint", "(I)Z"⟩
abbrev cJ11_highSurrogate_5068e : ByteArray := prog_15_method_28_code
def yJ11_highSurrogate_5068e : MethodName := ⟨RJ11, "highSurrogate", "(I)C"⟩
abbrev cJ11_lowSurrogate_5068e : ByteArray := prog_15_method_29_code
def yJ11_lowSurrogate_5068e : MethodName := ⟨RJ11, "lowSurrogate", "(I)C"⟩
def RJ6 : String := "java/lang/Integer"
def TJ6 : u_T := fun k => match k with
  | _ => ("", "", "", false)
def tyJ6 : Nat → FieldType := fun k => match k with
  | _ => .int
abbrev wsJ60 : List Cond := u_ws RJ6 TJ6 0
theorem nmJ6 : ∀ a, a < 0 → ∀ b, b < 0 → a ≠ b → (TJ6 a).2.1 ≠ (TJ6 b).2.1 := by decide +kernel
theorem tyJ6_ok : ∀ k, k < 0 → parseFieldDescriptor (TJ6 k).2.2.1 = some (tyJ6 k) := by decide +kernel
abbrev cJ6_bitCount_0f7a4 : ByteArray := prog_16_method_49_code
def yJ6_bitCount_0f7a4 : MethodName := ⟨RJ6, "bitCount", "(I)I"⟩
def RJ9 : String := "java/lang/Math"
def TJ9 : u_T := fun k => match k with
  | _ => ("", "", "", false)
def tyJ9 : Nat → FieldType := fun k => match k with
  | _ => .int
abbrev wsJ90 : List Cond := u_ws RJ9 TJ9 0
theorem nmJ9 : ∀ a, a < 0 → ∀ b, b < 0 → a ≠ b → (TJ9 a).2.1 ≠ (TJ9 b).2.1 := by decide +kernel
theorem tyJ9_ok : ∀ k, k < 0 → parseFieldDescriptor (TJ9 k).2.2.1 = some (tyJ9 k) := by decide +kernel
abbrev cJ9_max_7cf53 : ByteArray := prog_17_method_65_code
def yJ9_max_7cf53 : MethodName := ⟨RJ9, "max", "(II)I"⟩
abbrev cJ9_min_7cf53 : ByteArray := prog_17_method_69_code
def yJ9_min_7cf53 : MethodName := ⟨RJ9, "min", "(II)I"⟩
def RJ0 : String := "java/lang/String"
def TJ0 : u_T := fun k => match k with
  | _ => ("", "", "", false)
def tyJ0 : Nat → FieldType := fun k => match k with
  | _ => .int
abbrev wsJ00 : List Cond := u_ws RJ0 TJ0 0
theorem nmJ0 : ∀ a, a < 0 → ∀ b, b < 0 → a ≠ b → (TJ0 a).2.1 ≠ (TJ0 b).2.1 := by decide +kernel
theorem tyJ0_ok : ∀ k, k < 0 → parseFieldDescriptor (TJ0 k).2.2.1 = some (tyJ0 k) := by decide +kernel
abbrev cJ0_length_8abf5 : ByteArray := prog_18_method_54_code
def yJ0_length_8abf5 : MethodName := ⟨RJ0, "length", "()I"⟩
abbrev cJ0_indexOf_0f7a4 : ByteArray := prog_18_method_79_code
def yJ0_indexOf_0f7a4 : MethodName := ⟨RJ0, "indexOf", "(I)I"⟩
abbrev cJ0_indexOf_7cf53 : ByteArray := prog_18_method_80_code
def yJ0_indexOf_7cf53 : MethodName := ⟨RJ0, "indexOf", "(II)I"⟩
abbrev cJ0_coder_7d493 : ByteArray := prog_18_method_152_code
def yJ0_coder_7d493 : MethodName := ⟨RJ0, "coder", "()B"⟩
abbrev cJ0_isLatin1_aae02 : ByteArray := prog_18_method_154_code
def yJ0_isLatin1_aae02 : MethodName := ⟨RJ0, "isLatin1", "()Z"⟩
abbrev cJ0_checkBoundsBeginEnd_23922 : ByteArray := prog_18_method_158_code
def yJ0_checkBoundsBeginEnd_23922 : MethodName := ⟨RJ0, "checkBoundsBeginEnd", "(III)V"⟩
def RJ1 : String := "java/lang/StringLatin1"
def TJ1 : u_T := fun k => match k with
  | _ => ("", "", "", false)
def tyJ1 : Nat → FieldType := fun k => match k with
  | _ => .int
abbrev wsJ10 : List Cond := u_ws RJ1 TJ1 0
theorem nmJ1 : ∀ a, a < 0 → ∀ b, b < 0 → a ≠ b → (TJ1 a).2.1 ≠ (TJ1 b).2.1 := by decide +kernel
theorem tyJ1_ok : ∀ k, k < 0 → parseFieldDescriptor (TJ1 k).2.2.1 = some (tyJ1 k) := by decide +kernel
abbrev cJ1_canEncode_9a6ad : ByteArray := prog_19_method_4_code
def yJ1_canEncode_9a6ad : MethodName := ⟨RJ1, "canEncode", "(I)Z"⟩
abbrev cJ1_indexOf_4cfef : ByteArray := prog_19_method_22_code
def yJ1_indexOf_4cfef : MethodName := ⟨RJ1, "indexOf", "([BIII)I"⟩
abbrev cJ1_indexOfChar_4cfef : ByteArray := prog_19_method_23_code
def yJ1_indexOfChar_4cfef : MethodName := ⟨RJ1, "indexOfChar", "([BIII)I"⟩
def RJ2 : String := "java/lang/StringUTF16"
def TJ2 : u_T := fun k => match k with
  | _ => ("", "", "", false)
def tyJ2 : Nat → FieldType := fun k => match k with
  | _ => .int
abbrev wsJ20 : List Cond := u_ws RJ2 TJ2 0
theorem nmJ2 : ∀ a, a < 0 → ∀ b, b < 0 → a ≠ b → (TJ2 a).2.1 ≠ (TJ2 b).2.1 := by decide +kernel
theorem tyJ2_ok : ∀ k, k < 0 → parseFieldDescriptor (TJ2 k).2.2.1 = some (tyJ2 k) := by decide +kernel
abbrev cJ2_getChar_3b067 : ByteArray := prog_20_method_5_code
def yJ2_getChar_3b067 : MethodName := ⟨RJ2, "getChar", "([BI)C"⟩
abbrev cJ2_length_9d52b : ByteArray := prog_20_method_6_code
def yJ2_length_9d52b : MethodName := ⟨RJ2, "length", "([B)I"⟩
abbrev cJ2_indexOf_4cfef : ByteArray := prog_20_method_40_code
def yJ2_indexOf_4cfef : MethodName := ⟨RJ2, "indexOf", "([BIII)I"⟩
abbrev cJ2_indexOfChar_4cfef : ByteArray := prog_20_method_47_code
def yJ2_indexOfChar_4cfef : MethodName := ⟨RJ2, "indexOfChar", "([BIII)I"⟩
abbrev cJ2_indexOfCharUnsafe_4cfef : ByteArray := prog_20_method_48_code
def yJ2_indexOfCharUnsafe_4cfef : MethodName := ⟨RJ2, "indexOfCharUnsafe", "([BIII)I"⟩
abbrev cJ2_indexOfSupplementary_4cfef : ByteArray := prog_20_method_49_code
def yJ2_indexOfSupplementary_4cfef : MethodName := ⟨RJ2, "indexOfSupplementary", "([BIII)I"⟩
abbrev cJ2_checkBoundsBeginEnd_d044e : ByteArray := prog_20_method_93_code
def yJ2_checkBoundsBeginEnd_d044e : MethodName := ⟨RJ2, "checkBoundsBeginEnd", "(II[B)V"⟩
def RJ3 : String := "jdk/internal/util/Preconditions"
def TJ3 : u_T := fun k => match k with
  | _ => ("", "", "", false)
def tyJ3 : Nat → FieldType := fun k => match k with
  | _ => .int
abbrev wsJ30 : List Cond := u_ws RJ3 TJ3 0
theorem nmJ3 : ∀ a, a < 0 → ∀ b, b < 0 → a ≠ b → (TJ3 a).2.1 ≠ (TJ3 b).2.1 := by decide +kernel
theorem tyJ3_ok : ∀ k, k < 0 → parseFieldDescriptor (TJ3 k).2.2.1 = some (tyJ3 k) := by decide +kernel
abbrev cJ3_checkFromToIndex_8c36e : ByteArray := prog_21_method_12_code
def yJ3_checkFromToIndex_8c36e : MethodName := ⟨RJ3, "checkFromToIndex", "(IIILjava/util/function/BiFunction;)I"⟩
def RL : String := "BetsOnBetsLaw"
abbrev cL_law : ByteArray := code
def yL_law : MethodName := ⟨RL, "law", "([I)Z"⟩
abbrev vwCl : List vw_C := [(RX0, TX0, 0), (RX2, TX2, 5), (RX3, TX3, 0), (RX4, TX4, 0), (RX5, TX5, 0), (RX6, TX6, 0), (RX7, TX7, 0), (RX8, TX8, 4), (RX9, TX9, 2), (RX10, TX10, 5), (RX11, TX11, 11), (RX12, TX12, 15)]
end
section
theorem dX12_init_0 : decode cX12_init 0 = .ok (.aload_n 0, 1) := by decide +kernel
theorem dX12_init_1 : decode cX12_init 1 = .ok (.invokespecial 1, 3) := by decide +kernel
theorem dX12_init_4 : decode cX12_init 4 = .ok (.aload_n 0, 1) := by decide +kernel
theorem dX12_init_5 : decode cX12_init 5 = .ok (.bipush 7, 2) := by decide +kernel
theorem dX12_init_7 : decode cX12_init 7 = .ok (.newarray .int, 2) := by decide +kernel
theorem dX12_init_9 : decode cX12_init 9 = .ok (.putfield 7, 3) := by decide +kernel
theorem dX12_init_12 : decode cX12_init 12 = .ok (.aload_n 0, 1) := by decide +kernel
theorem dX12_init_13 : decode cX12_init 13 = .ok (.bipush 52, 2) := by decide +kernel
theorem dX12_init_15 : decode cX12_init 15 = .ok (.newarray .int, 2) := by decide +kernel
theorem dX12_init_17 : decode cX12_init 17 = .ok (.putfield 13, 3) := by decide +kernel
theorem dX12_init_20 : decode cX12_init 20 = .ok (.aload_n 0, 1) := by decide +kernel
theorem dX12_init_21 : decode cX12_init 21 = .ok (.bipush 52, 2) := by decide +kernel
theorem dX12_init_23 : decode cX12_init 23 = .ok (.newarray .int, 2) := by decide +kernel
theorem dX12_init_25 : decode cX12_init 25 = .ok (.putfield 16, 3) := by decide +kernel
theorem dX12_init_28 : decode cX12_init 28 = .ok (.aload_n 0, 1) := by decide +kernel
theorem dX12_init_29 : decode cX12_init 29 = .ok (.bipush 52, 2) := by decide +kernel
theorem dX12_init_31 : decode cX12_init 31 = .ok (.newarray .int, 2) := by decide +kernel
theorem dX12_init_33 : decode cX12_init 33 = .ok (.putfield 19, 3) := by decide +kernel
theorem dX12_init_36 : decode cX12_init 36 = .ok (.aload_n 0, 1) := by decide +kernel
theorem dX12_init_37 : decode cX12_init 37 = .ok (.bipush 80, 2) := by decide +kernel
theorem dX12_init_39 : decode cX12_init 39 = .ok (.newarray .int, 2) := by decide +kernel
theorem dX12_init_41 : decode cX12_init 41 = .ok (.putfield 22, 3) := by decide +kernel
theorem dX12_init_44 : decode cX12_init 44 = .ok (.aload_n 0, 1) := by decide +kernel
theorem dX12_init_45 : decode cX12_init 45 = .ok (.bipush 7, 2) := by decide +kernel
theorem dX12_init_47 : decode cX12_init 47 = .ok (.newarray .int, 2) := by decide +kernel
theorem dX12_init_49 : decode cX12_init 49 = .ok (.putfield 25, 3) := by decide +kernel
theorem dX12_init_52 : decode cX12_init 52 = .ok (.aload_n 0, 1) := by decide +kernel
theorem dX12_init_53 : decode cX12_init 53 = .ok (.iconst 4, 1) := by decide +kernel
theorem dX12_init_54 : decode cX12_init 54 = .ok (.newarray .int, 2) := by decide +kernel
theorem dX12_init_56 : decode cX12_init 56 = .ok (.putfield 28, 3) := by decide +kernel
theorem dX12_init_59 : decode cX12_init 59 = .ok (.iconst 0, 1) := by decide +kernel
theorem dX12_init_60 : decode cX12_init 60 = .ok (.istore_n 1, 1) := by decide +kernel
theorem dX12_init_61 : decode cX12_init 61 = .ok (.iload_n 1, 1) := by decide +kernel
theorem dX12_init_62 : decode cX12_init 62 = .ok (.iconst 4, 1) := by decide +kernel
theorem dX12_init_63 : decode cX12_init 63 = .ok (.if_icmp .ge 20, 3) := by decide +kernel
theorem dX12_init_66 : decode cX12_init 66 = .ok (.aload_n 0, 1) := by decide +kernel
theorem dX12_init_67 : decode cX12_init 67 = .ok (.getfield 13, 3) := by decide +kernel
theorem dX12_init_70 : decode cX12_init 70 = .ok (.bipush 6, 2) := by decide +kernel
theorem dX12_init_72 : decode cX12_init 72 = .ok (.iload_n 1, 1) := by decide +kernel
theorem dX12_init_73 : decode cX12_init 73 = .ok (.iadd, 1) := by decide +kernel
theorem dX12_init_74 : decode cX12_init 74 = .ok (.bipush 50, 2) := by decide +kernel
theorem dX12_init_76 : decode cX12_init 76 = .ok (.iastore, 1) := by decide +kernel
theorem dX12_init_77 : decode cX12_init 77 = .ok (.iinc 1 1, 3) := by decide +kernel
theorem dX12_init_80 : decode cX12_init 80 = .ok (.goto (-19), 3) := by decide +kernel
theorem dX12_init_83 : decode cX12_init 83 = .ok (.return_, 1) := by decide +kernel
theorem dX12_refuse_0 : decode cX12_refuse 0 = .ok (.aload_n 0, 1) := by decide +kernel
theorem dX12_refuse_1 : decode cX12_refuse 1 = .ok (.getfield 7, 3) := by decide +kernel
theorem dX12_refuse_4 : decode cX12_refuse 4 = .ok (.iload_n 1, 1) := by decide +kernel
theorem dX12_refuse_5 : decode cX12_refuse 5 = .ok (.ineg, 1) := by decide +kernel
theorem dX12_refuse_6 : decode cX12_refuse 6 = .ok (.dup2, 1) := by decide +kernel
theorem dX12_refuse_7 : decode cX12_refuse 7 = .ok (.iaload, 1) := by decide +kernel
theorem dX12_refuse_8 : decode cX12_refuse 8 = .ok (.iconst 1, 1) := by decide +kernel
theorem dX12_refuse_9 : decode cX12_refuse 9 = .ok (.iadd, 1) := by decide +kernel
theorem dX12_refuse_10 : decode cX12_refuse 10 = .ok (.iastore, 1) := by decide +kernel
theorem dX12_refuse_11 : decode cX12_refuse 11 = .ok (.iload_n 1, 1) := by decide +kernel
theorem dX12_refuse_12 : decode cX12_refuse 12 = .ok (.ireturn, 1) := by decide +kernel
theorem dX12_isIn_0 : decode cX12_isIn 0 = .ok (.iload_n 0, 1) := by decide +kernel
theorem dX12_isIn_1 : decode cX12_isIn 1 = .ok (.ifCond .lt 12, 3) := by decide +kernel
theorem dX12_isIn_4 : decode cX12_isIn 4 = .ok (.iload_n 0, 1) := by decide +kernel
theorem dX12_isIn_5 : decode cX12_isIn 5 = .ok (.iload_n 1, 1) := by decide +kernel
theorem dX12_isIn_6 : decode cX12_isIn 6 = .ok (.if_icmp .ge 7, 3) := by decide +kernel
theorem dX12_isIn_9 : decode cX12_isIn 9 = .ok (.iconst 1, 1) := by decide +kernel
theorem dX12_isIn_10 : decode cX12_isIn 10 = .ok (.goto 4, 3) := by decide +kernel
theorem dX12_isIn_13 : decode cX12_isIn 13 = .ok (.iconst 0, 1) := by decide +kernel
theorem dX12_isIn_14 : decode cX12_isIn 14 = .ok (.ireturn, 1) := by decide +kernel
theorem dX12_within_0 : decode cX12_within 0 = .ok (.iload_n 0, 1) := by decide +kernel
theorem dX12_within_1 : decode cX12_within 1 = .ok (.iload_n 1, 1) := by decide +kernel
theorem dX12_within_2 : decode cX12_within 2 = .ok (.if_icmp .ge 8, 3) := by decide +kernel
theorem dX12_within_5 : decode cX12_within 5 = .ok (.bipush (-4), 2) := by decide +kernel
theorem dX12_within_7 : decode cX12_within 7 = .ok (.goto 14, 3) := by decide +kernel
theorem dX12_within_10 : decode cX12_within 10 = .ok (.iload_n 0, 1) := by decide +kernel
theorem dX12_within_11 : decode cX12_within 11 = .ok (.iload_n 2, 1) := by decide +kernel
theorem dX12_within_12 : decode cX12_within 12 = .ok (.if_icmp .le 8, 3) := by decide +kernel
theorem dX12_within_15 : decode cX12_within 15 = .ok (.bipush (-6), 2) := by decide +kernel
theorem dX12_within_17 : decode cX12_within 17 = .ok (.goto 4, 3) := by decide +kernel
theorem dX12_within_20 : decode cX12_within 20 = .ok (.iconst 0, 1) := by decide +kernel
theorem dX12_within_21 : decode cX12_within 21 = .ok (.ireturn, 1) := by decide +kernel
theorem dX12_copies_0 : decode cX12_copies 0 = .ok (.iconst 0, 1) := by decide +kernel
theorem dX12_copies_1 : decode cX12_copies 1 = .ok (.istore_n 2, 1) := by decide +kernel
theorem dX12_copies_2 : decode cX12_copies 2 = .ok (.iload_n 2, 1) := by decide +kernel
theorem dX12_copies_3 : decode cX12_copies 3 = .ok (.bipush 52, 2) := by decide +kernel
theorem dX12_copies_5 : decode cX12_copies 5 = .ok (.if_icmp .ge 15, 3) := by decide +kernel
theorem dX12_copies_8 : decode cX12_copies 8 = .ok (.aload_n 1, 1) := by decide +kernel
theorem dX12_copies_9 : decode cX12_copies 9 = .ok (.iload_n 2, 1) := by decide +kernel
theorem dX12_copies_10 : decode cX12_copies 10 = .ok (.aload_n 0, 1) := by decide +kernel
theorem dX12_copies_11 : decode cX12_copies 11 = .ok (.iload_n 2, 1) := by decide +kernel
theorem dX12_copies_12 : decode cX12_copies 12 = .ok (.iaload, 1) := by decide +kernel
theorem dX12_copies_13 : decode cX12_copies 13 = .ok (.iastore, 1) := by decide +kernel
theorem dX12_copies_14 : decode cX12_copies 14 = .ok (.iinc 2 1, 3) := by decide +kernel
theorem dX12_copies_17 : decode cX12_copies 17 = .ok (.goto (-15), 3) := by decide +kernel
theorem dX12_copies_20 : decode cX12_copies 20 = .ok (.return_, 1) := by decide +kernel
theorem dX12_bits_0 : decode cX12_bits 0 = .ok (.iconst 0, 1) := by decide +kernel
theorem dX12_bits_1 : decode cX12_bits 1 = .ok (.istore_n 1, 1) := by decide +kernel
theorem dX12_bits_2 : decode cX12_bits 2 = .ok (.iload_n 0, 1) := by decide +kernel
theorem dX12_bits_3 : decode cX12_bits 3 = .ok (.istore_n 2, 1) := by decide +kernel
theorem dX12_bits_4 : decode cX12_bits 4 = .ok (.iload_n 2, 1) := by decide +kernel
theorem dX12_bits_5 : decode cX12_bits 5 = .ok (.ifCond .le 16, 3) := by decide +kernel
theorem dX12_bits_8 : decode cX12_bits 8 = .ok (.iload_n 1, 1) := by decide +kernel
theorem dX12_bits_9 : decode cX12_bits 9 = .ok (.iload_n 2, 1) := by decide +kernel
theorem dX12_bits_10 : decode cX12_bits 10 = .ok (.iconst 1, 1) := by decide +kernel
theorem dX12_bits_11 : decode cX12_bits 11 = .ok (.iand, 1) := by decide +kernel
theorem dX12_bits_12 : decode cX12_bits 12 = .ok (.iadd, 1) := by decide +kernel
theorem dX12_bits_13 : decode cX12_bits 13 = .ok (.istore_n 1, 1) := by decide +kernel
theorem dX12_bits_14 : decode cX12_bits 14 = .ok (.iload_n 2, 1) := by decide +kernel
theorem dX12_bits_15 : decode cX12_bits 15 = .ok (.iconst 1, 1) := by decide +kernel
theorem dX12_bits_16 : decode cX12_bits 16 = .ok (.ishr, 1) := by decide +kernel
theorem dX12_bits_17 : decode cX12_bits 17 = .ok (.istore_n 2, 1) := by decide +kernel
theorem dX12_bits_18 : decode cX12_bits 18 = .ok (.goto (-14), 3) := by decide +kernel
theorem dX12_bits_21 : decode cX12_bits 21 = .ok (.iload_n 1, 1) := by decide +kernel
theorem dX12_bits_22 : decode cX12_bits 22 = .ok (.ireturn, 1) := by decide +kernel
theorem dX12_isBet_0 : decode cX12_isBet 0 = .ok (.iload_n 1, 1) := by decide +kernel
theorem dX12_isBet_1 : decode cX12_isBet 1 = .ok (.aload_n 0, 1) := by decide +kernel
theorem dX12_isBet_2 : decode cX12_isBet 2 = .ok (.getfield 13, 3) := by decide +kernel
theorem dX12_isBet_5 : decode cX12_isBet 5 = .ok (.iconst 1, 1) := by decide +kernel
theorem dX12_isBet_6 : decode cX12_isBet 6 = .ok (.iaload, 1) := by decide +kernel
theorem dX12_isBet_7 : decode cX12_isBet 7 = .ok (.invokestatic 31, 3) := by decide +kernel
theorem dX12_isBet_10 : decode cX12_isBet 10 = .ok (.ireturn, 1) := by decide +kernel
theorem dX12_isPerson_0 : decode cX12_isPerson 0 = .ok (.iload_n 0, 1) := by decide +kernel
theorem dX12_isPerson_1 : decode cX12_isPerson 1 = .ok (.iconst 4, 1) := by decide +kernel
theorem dX12_isPerson_2 : decode cX12_isPerson 2 = .ok (.invokestatic 31, 3) := by decide +kernel
theorem dX12_isPerson_5 : decode cX12_isPerson 5 = .ok (.ireturn, 1) := by decide +kernel
theorem dX12_ends_0 : decode cX12_ends 0 = .ok (.iconst 1, 1) := by decide +kernel
theorem dX12_ends_1 : decode cX12_ends 1 = .ok (.aload_n 0, 1) := by decide +kernel
theorem dX12_ends_2 : decode cX12_ends 2 = .ok (.getfield 13, 3) := by decide +kernel
theorem dX12_ends_5 : decode cX12_ends 5 = .ok (.iconst 0, 1) := by decide +kernel
theorem dX12_ends_6 : decode cX12_ends 6 = .ok (.iaload, 1) := by decide +kernel
theorem dX12_ends_7 : decode cX12_ends 7 = .ok (.ishl, 1) := by decide +kernel
theorem dX12_ends_8 : decode cX12_ends 8 = .ok (.ireturn, 1) := by decide +kernel
theorem dX12_isEnd_0 : decode cX12_isEnd 0 = .ok (.iload_n 1, 1) := by decide +kernel
theorem dX12_isEnd_1 : decode cX12_isEnd 1 = .ok (.aload_n 0, 1) := by decide +kernel
theorem dX12_isEnd_2 : decode cX12_isEnd 2 = .ok (.invokevirtual 35, 3) := by decide +kernel
theorem dX12_isEnd_5 : decode cX12_isEnd 5 = .ok (.invokestatic 31, 3) := by decide +kernel
theorem dX12_isEnd_8 : decode cX12_isEnd 8 = .ok (.ireturn, 1) := by decide +kernel
theorem dX12_get_0 : decode cX12_get 0 = .ok (.aload_n 0, 1) := by decide +kernel
theorem dX12_get_1 : decode cX12_get 1 = .ok (.getfield 13, 3) := by decide +kernel
theorem dX12_get_4 : decode cX12_get 4 = .ok (.bipush 10, 2) := by decide +kernel
theorem dX12_get_6 : decode cX12_get 6 = .ok (.bipush 7, 2) := by decide +kernel
theorem dX12_get_8 : decode cX12_get 8 = .ok (.iload_n 1, 1) := by decide +kernel
theorem dX12_get_9 : decode cX12_get 9 = .ok (.imul, 1) := by decide +kernel
theorem dX12_get_10 : decode cX12_get 10 = .ok (.iadd, 1) := by decide +kernel
theorem dX12_get_11 : decode cX12_get 11 = .ok (.iload_n 2, 1) := by decide +kernel
theorem dX12_get_12 : decode cX12_get 12 = .ok (.iadd, 1) := by decide +kernel
theorem dX12_get_13 : decode cX12_get 13 = .ok (.iaload, 1) := by decide +kernel
theorem dX12_get_14 : decode cX12_get 14 = .ok (.ireturn, 1) := by decide +kernel
theorem dX12_letter_0 : decode cX12_letter 0 = .ok (.iload_n 1, 1) := by decide +kernel
theorem dX12_letter_1 : decode cX12_letter 1 = .ok (.iconst 0, 1) := by decide +kernel
theorem dX12_letter_2 : decode cX12_letter 2 = .ok (.sipush 255, 3) := by decide +kernel
theorem dX12_letter_5 : decode cX12_letter 5 = .ok (.invokestatic 39, 3) := by decide +kernel
theorem dX12_letter_8 : decode cX12_letter 8 = .ok (.istore_n 2, 1) := by decide +kernel
theorem dX12_letter_9 : decode cX12_letter 9 = .ok (.iload_n 2, 1) := by decide +kernel
theorem dX12_letter_10 : decode cX12_letter 10 = .ok (.ifCond .ne 15, 3) := by decide +kernel
theorem dX12_letter_13 : decode cX12_letter 13 = .ok (.aload_n 0, 1) := by decide +kernel
theorem dX12_letter_14 : decode cX12_letter 14 = .ok (.getfield 43, 3) := by decide +kernel
theorem dX12_letter_17 : decode cX12_letter 17 = .ok (.bipush 80, 2) := by decide +kernel
theorem dX12_letter_19 : decode cX12_letter 19 = .ok (.if_icmp .ne 6, 3) := by decide +kernel
theorem dX12_letter_22 : decode cX12_letter 22 = .ok (.bipush (-6), 2) := by decide +kernel
theorem dX12_letter_24 : decode cX12_letter 24 = .ok (.istore_n 2, 1) := by decide +kernel
theorem dX12_letter_25 : decode cX12_letter 25 = .ok (.iload_n 2, 1) := by decide +kernel
theorem dX12_letter_26 : decode cX12_letter 26 = .ok (.ifCond .eq 9, 3) := by decide +kernel
theorem dX12_letter_29 : decode cX12_letter 29 = .ok (.aload_n 0, 1) := by decide +kernel
theorem dX12_letter_30 : decode cX12_letter 30 = .ok (.iload_n 2, 1) := by decide +kernel
theorem dX12_letter_31 : decode cX12_letter 31 = .ok (.invokevirtual 47, 3) := by decide +kernel
theorem dX12_letter_34 : decode cX12_letter 34 = .ok (.ireturn, 1) := by decide +kernel
theorem dX12_letter_35 : decode cX12_letter 35 = .ok (.aload_n 0, 1) := by decide +kernel
theorem dX12_letter_36 : decode cX12_letter 36 = .ok (.getfield 22, 3) := by decide +kernel
theorem dX12_letter_39 : decode cX12_letter 39 = .ok (.aload_n 0, 1) := by decide +kernel
theorem dX12_letter_40 : decode cX12_letter 40 = .ok (.getfield 43, 3) := by decide +kernel
theorem dX12_letter_43 : decode cX12_letter 43 = .ok (.iload_n 1, 1) := by decide +kernel
theorem dX12_letter_44 : decode cX12_letter 44 = .ok (.iastore, 1) := by decide +kernel
theorem dX12_letter_45 : decode cX12_letter 45 = .ok (.aload_n 0, 1) := by decide +kernel
theorem dX12_letter_46 : decode cX12_letter 46 = .ok (.dup, 1) := by decide +kernel
theorem dX12_letter_47 : decode cX12_letter 47 = .ok (.getfield 43, 3) := by decide +kernel
theorem dX12_letter_50 : decode cX12_letter 50 = .ok (.iconst 1, 1) := by decide +kernel
theorem dX12_letter_51 : decode cX12_letter 51 = .ok (.iadd, 1) := by decide +kernel
theorem dX12_letter_52 : decode cX12_letter 52 = .ok (.putfield 43, 3) := by decide +kernel
theorem dX12_letter_55 : decode cX12_letter 55 = .ok (.aload_n 0, 1) := by decide +kernel
theorem dX12_letter_56 : decode cX12_letter 56 = .ok (.getfield 43, 3) := by decide +kernel
theorem dX12_letter_59 : decode cX12_letter 59 = .ok (.ireturn, 1) := by decide +kernel
theorem dX12_sign_0 : decode cX12_sign 0 = .ok (.aload_n 0, 1) := by decide +kernel
theorem dX12_sign_1 : decode cX12_sign 1 = .ok (.getfield 51, 3) := by decide +kernel
theorem dX12_sign_4 : decode cX12_sign 4 = .ok (.aload_n 0, 1) := by decide +kernel
theorem dX12_sign_5 : decode cX12_sign 5 = .ok (.getfield 43, 3) := by decide +kernel
theorem dX12_sign_8 : decode cX12_sign 8 = .ok (.if_icmp .ge 15, 3) := by decide +kernel
theorem dX12_sign_11 : decode cX12_sign 11 = .ok (.aload_n 0, 1) := by decide +kernel
theorem dX12_sign_12 : decode cX12_sign 12 = .ok (.getfield 22, 3) := by decide +kernel
theorem dX12_sign_15 : decode cX12_sign 15 = .ok (.aload_n 0, 1) := by decide +kernel
theorem dX12_sign_16 : decode cX12_sign 16 = .ok (.getfield 51, 3) := by decide +kernel
theorem dX12_sign_19 : decode cX12_sign 19 = .ok (.iaload, 1) := by decide +kernel
theorem dX12_sign_20 : decode cX12_sign 20 = .ok (.goto 4, 3) := by decide +kernel
theorem dX12_sign_23 : decode cX12_sign 23 = .ok (.iconst (-1), 1) := by decide +kernel
theorem dX12_sign_24 : decode cX12_sign 24 = .ok (.ireturn, 1) := by decide +kernel
theorem dX12_takes_0 : decode cX12_takes 0 = .ok (.aload_n 0, 1) := by decide +kernel
theorem dX12_takes_1 : decode cX12_takes 1 = .ok (.invokevirtual 54, 3) := by decide +kernel
theorem dX12_takes_4 : decode cX12_takes 4 = .ok (.iload_n 1, 1) := by decide +kernel
theorem dX12_takes_5 : decode cX12_takes 5 = .ok (.if_icmp .eq 5, 3) := by decide +kernel
theorem dX12_takes_8 : decode cX12_takes 8 = .ok (.iconst 0, 1) := by decide +kernel
theorem dX12_takes_9 : decode cX12_takes 9 = .ok (.ireturn, 1) := by decide +kernel
theorem dX12_takes_10 : decode cX12_takes 10 = .ok (.aload_n 0, 1) := by decide +kernel
theorem dX12_takes_11 : decode cX12_takes 11 = .ok (.dup, 1) := by decide +kernel
theorem dX12_takes_12 : decode cX12_takes 12 = .ok (.getfield 51, 3) := by decide +kernel
theorem dX12_takes_15 : decode cX12_takes 15 = .ok (.iconst 1, 1) := by decide +kernel
theorem dX12_takes_16 : decode cX12_takes 16 = .ok (.iadd, 1) := by decide +kernel
theorem dX12_takes_17 : decode cX12_takes 17 = .ok (.putfield 51, 3) := by decide +kernel
theorem dX12_takes_20 : decode cX12_takes 20 = .ok (.iconst 1, 1) := by decide +kernel
theorem dX12_takes_21 : decode cX12_takes 21 = .ok (.ireturn, 1) := by decide +kernel
theorem dX12_readsNumber_0 : decode cX12_readsNumber 0 = .ok (.aload_n 0, 1) := by decide +kernel
theorem dX12_readsNumber_1 : decode cX12_readsNumber 1 = .ok (.getfield 25, 3) := by decide +kernel
theorem dX12_readsNumber_4 : decode cX12_readsNumber 4 = .ok (.iload_n 1, 1) := by decide +kernel
theorem dX12_readsNumber_5 : decode cX12_readsNumber 5 = .ok (.iconst 0, 1) := by decide +kernel
theorem dX12_readsNumber_6 : decode cX12_readsNumber 6 = .ok (.iastore, 1) := by decide +kernel
theorem dX12_readsNumber_7 : decode cX12_readsNumber 7 = .ok (.iconst 0, 1) := by decide +kernel
theorem dX12_readsNumber_8 : decode cX12_readsNumber 8 = .ok (.istore_n 3, 1) := by decide +kernel
theorem dX12_readsNumber_9 : decode cX12_readsNumber 9 = .ok (.iload_n 3, 1) := by decide +kernel
theorem dX12_readsNumber_10 : decode cX12_readsNumber 10 = .ok (.iload_n 2, 1) := by decide +kernel
theorem dX12_readsNumber_11 : decode cX12_readsNumber 11 = .ok (.if_icmp .ge 57, 3) := by decide +kernel
theorem dX12_readsNumber_14 : decode cX12_readsNumber 14 = .ok (.aload_n 0, 1) := by decide +kernel
theorem dX12_readsNumber_15 : decode cX12_readsNumber 15 = .ok (.invokevirtual 54, 3) := by decide +kernel
theorem dX12_readsNumber_18 : decode cX12_readsNumber 18 = .ok (.bipush 48, 2) := by decide +kernel
theorem dX12_readsNumber_20 : decode cX12_readsNumber 20 = .ok (.isub, 1) := by decide +kernel
theorem dX12_readsNumber_21 : decode cX12_readsNumber 21 = .ok (.bipush 10, 2) := by decide +kernel
theorem dX12_readsNumber_23 : decode cX12_readsNumber 23 = .ok (.invokestatic 31, 3) := by decide +kernel
theorem dX12_readsNumber_26 : decode cX12_readsNumber 26 = .ok (.ifCond .eq 42, 3) := by decide +kernel
theorem dX12_readsNumber_29 : decode cX12_readsNumber 29 = .ok (.aload_n 0, 1) := by decide +kernel
theorem dX12_readsNumber_30 : decode cX12_readsNumber 30 = .ok (.getfield 25, 3) := by decide +kernel
theorem dX12_readsNumber_33 : decode cX12_readsNumber 33 = .ok (.iload_n 1, 1) := by decide +kernel
theorem dX12_readsNumber_34 : decode cX12_readsNumber 34 = .ok (.bipush 10, 2) := by decide +kernel
theorem dX12_readsNumber_36 : decode cX12_readsNumber 36 = .ok (.aload_n 0, 1) := by decide +kernel
theorem dX12_readsNumber_37 : decode cX12_readsNumber 37 = .ok (.getfield 25, 3) := by decide +kernel
theorem dX12_readsNumber_40 : decode cX12_readsNumber 40 = .ok (.iload_n 1, 1) := by decide +kernel
theorem dX12_readsNumber_41 : decode cX12_readsNumber 41 = .ok (.iaload, 1) := by decide +kernel
theorem dX12_readsNumber_42 : decode cX12_readsNumber 42 = .ok (.imul, 1) := by decide +kernel
theorem dX12_readsNumber_43 : decode cX12_readsNumber 43 = .ok (.aload_n 0, 1) := by decide +kernel
theorem dX12_readsNumber_44 : decode cX12_readsNumber 44 = .ok (.invokevirtual 54, 3) := by decide +kernel
theorem dX12_readsNumber_47 : decode cX12_readsNumber 47 = .ok (.iadd, 1) := by decide +kernel
theorem dX12_readsNumber_48 : decode cX12_readsNumber 48 = .ok (.bipush 48, 2) := by decide +kernel
theorem dX12_readsNumber_50 : decode cX12_readsNumber 50 = .ok (.isub, 1) := by decide +kernel
theorem dX12_readsNumber_51 : decode cX12_readsNumber 51 = .ok (.iastore, 1) := by decide +kernel
theorem dX12_readsNumber_52 : decode cX12_readsNumber 52 = .ok (.aload_n 0, 1) := by decide +kernel
theorem dX12_readsNumber_53 : decode cX12_readsNumber 53 = .ok (.dup, 1) := by decide +kernel
theorem dX12_readsNumber_54 : decode cX12_readsNumber 54 = .ok (.getfield 51, 3) := by decide +kernel
theorem dX12_readsNumber_57 : decode cX12_readsNumber 57 = .ok (.iconst 1, 1) := by decide +kernel
theorem dX12_readsNumber_58 : decode cX12_readsNumber 58 = .ok (.iadd, 1) := by decide +kernel
theorem dX12_readsNumber_59 : decode cX12_readsNumber 59 = .ok (.putfield 51, 3) := by decide +kernel
theorem dX12_readsNumber_62 : decode cX12_readsNumber 62 = .ok (.iinc 3 1, 3) := by decide +kernel
theorem dX12_readsNumber_65 : decode cX12_readsNumber 65 = .ok (.goto (-56), 3) := by decide +kernel
theorem dX12_readsNumber_68 : decode cX12_readsNumber 68 = .ok (.iload_n 3, 1) := by decide +kernel
theorem dX12_readsNumber_69 : decode cX12_readsNumber 69 = .ok (.ifCond .le 7, 3) := by decide +kernel
theorem dX12_readsNumber_72 : decode cX12_readsNumber 72 = .ok (.iconst 1, 1) := by decide +kernel
theorem dX12_readsNumber_73 : decode cX12_readsNumber 73 = .ok (.goto 4, 3) := by decide +kernel
theorem dX12_readsNumber_76 : decode cX12_readsNumber 76 = .ok (.iconst 0, 1) := by decide +kernel
theorem dX12_readsNumber_77 : decode cX12_readsNumber 77 = .ok (.ireturn, 1) := by decide +kernel
theorem dX12_kindOf_0 : decode cX12_kindOf 0 = .ok (.iload_n 0, 1) := by decide +kernel
theorem dX12_kindOf_1 : decode cX12_kindOf 1 = .ok (.lookupswitch 71 #[(97, 61), (101, 65), (110, 69), (111, 63), (112, 59), (120, 67)], 59) := by decide +kernel
theorem dX12_kindOf_60 : decode cX12_kindOf 60 = .ok (.iconst 0, 1) := by decide +kernel
theorem dX12_kindOf_61 : decode cX12_kindOf 61 = .ok (.ireturn, 1) := by decide +kernel
theorem dX12_kindOf_62 : decode cX12_kindOf 62 = .ok (.iconst 1, 1) := by decide +kernel
theorem dX12_kindOf_63 : decode cX12_kindOf 63 = .ok (.ireturn, 1) := by decide +kernel
theorem dX12_kindOf_64 : decode cX12_kindOf 64 = .ok (.iconst 2, 1) := by decide +kernel
theorem dX12_kindOf_65 : decode cX12_kindOf 65 = .ok (.ireturn, 1) := by decide +kernel
theorem dX12_kindOf_66 : decode cX12_kindOf 66 = .ok (.iconst 3, 1) := by decide +kernel
theorem dX12_kindOf_67 : decode cX12_kindOf 67 = .ok (.ireturn, 1) := by decide +kernel
theorem dX12_kindOf_68 : decode cX12_kindOf 68 = .ok (.iconst 4, 1) := by decide +kernel
theorem dX12_kindOf_69 : decode cX12_kindOf 69 = .ok (.ireturn, 1) := by decide +kernel
theorem dX12_kindOf_70 : decode cX12_kindOf 70 = .ok (.iconst 5, 1) := by decide +kernel
theorem dX12_kindOf_71 : decode cX12_kindOf 71 = .ok (.ireturn, 1) := by decide +kernel
theorem dX12_kindOf_72 : decode cX12_kindOf 72 = .ok (.bipush (-9), 2) := by decide +kernel
theorem dX12_kindOf_74 : decode cX12_kindOf 74 = .ok (.ireturn, 1) := by decide +kernel
theorem dX12_readsKind_0 : decode cX12_readsKind 0 = .ok (.aload_n 0, 1) := by decide +kernel
theorem dX12_readsKind_1 : decode cX12_readsKind 1 = .ok (.getfield 25, 3) := by decide +kernel
theorem dX12_readsKind_4 : decode cX12_readsKind 4 = .ok (.iconst 0, 1) := by decide +kernel
theorem dX12_readsKind_5 : decode cX12_readsKind 5 = .ok (.aload_n 0, 1) := by decide +kernel
theorem dX12_readsKind_6 : decode cX12_readsKind 6 = .ok (.invokevirtual 54, 3) := by decide +kernel
theorem dX12_readsKind_9 : decode cX12_readsKind 9 = .ok (.invokestatic 57, 3) := by decide +kernel
theorem dX12_readsKind_12 : decode cX12_readsKind 12 = .ok (.iastore, 1) := by decide +kernel
theorem dX12_readsKind_13 : decode cX12_readsKind 13 = .ok (.aload_n 0, 1) := by decide +kernel
theorem dX12_readsKind_14 : decode cX12_readsKind 14 = .ok (.getfield 25, 3) := by decide +kernel
theorem dX12_readsKind_17 : decode cX12_readsKind 17 = .ok (.iconst 0, 1) := by decide +kernel
theorem dX12_readsKind_18 : decode cX12_readsKind 18 = .ok (.iaload, 1) := by decide +kernel
theorem dX12_readsKind_19 : decode cX12_readsKind 19 = .ok (.ifCond .ge 5, 3) := by decide +kernel
theorem dX12_readsKind_22 : decode cX12_readsKind 22 = .ok (.iconst 0, 1) := by decide +kernel
theorem dX12_readsKind_23 : decode cX12_readsKind 23 = .ok (.ireturn, 1) := by decide +kernel
theorem dX12_readsKind_24 : decode cX12_readsKind 24 = .ok (.aload_n 0, 1) := by decide +kernel
theorem dX12_readsKind_25 : decode cX12_readsKind 25 = .ok (.dup, 1) := by decide +kernel
theorem dX12_readsKind_26 : decode cX12_readsKind 26 = .ok (.getfield 51, 3) := by decide +kernel
theorem dX12_readsKind_29 : decode cX12_readsKind 29 = .ok (.iconst 1, 1) := by decide +kernel
theorem dX12_readsKind_30 : decode cX12_readsKind 30 = .ok (.iadd, 1) := by decide +kernel
theorem dX12_readsKind_31 : decode cX12_readsKind 31 = .ok (.putfield 51, 3) := by decide +kernel
theorem dX12_readsKind_34 : decode cX12_readsKind 34 = .ok (.iconst 1, 1) := by decide +kernel
theorem dX12_readsKind_35 : decode cX12_readsKind 35 = .ok (.ireturn, 1) := by decide +kernel
theorem dX12_readsMark_0 : decode cX12_readsMark 0 = .ok (.aload_n 0, 1) := by decide +kernel
theorem dX12_readsMark_1 : decode cX12_readsMark 1 = .ok (.invokevirtual 54, 3) := by decide +kernel
theorem dX12_readsMark_4 : decode cX12_readsMark 4 = .ok (.bipush 98, 2) := by decide +kernel
theorem dX12_readsMark_6 : decode cX12_readsMark 6 = .ok (.if_icmp .ne 7, 3) := by decide +kernel
theorem dX12_readsMark_9 : decode cX12_readsMark 9 = .ok (.iconst 1, 1) := by decide +kernel
theorem dX12_readsMark_10 : decode cX12_readsMark 10 = .ok (.goto 4, 3) := by decide +kernel
theorem dX12_readsMark_13 : decode cX12_readsMark 13 = .ok (.iconst 0, 1) := by decide +kernel
theorem dX12_readsMark_14 : decode cX12_readsMark 14 = .ok (.istore_n 2, 1) := by decide +kernel
theorem dX12_readsMark_15 : decode cX12_readsMark 15 = .ok (.iload_n 2, 1) := by decide +kernel
theorem dX12_readsMark_16 : decode cX12_readsMark 16 = .ok (.ifCond .ne 14, 3) := by decide +kernel
theorem dX12_readsMark_19 : decode cX12_readsMark 19 = .ok (.aload_n 0, 1) := by decide +kernel
theorem dX12_readsMark_20 : decode cX12_readsMark 20 = .ok (.invokevirtual 54, 3) := by decide +kernel
theorem dX12_readsMark_23 : decode cX12_readsMark 23 = .ok (.bipush 104, 2) := by decide +kernel
theorem dX12_readsMark_25 : decode cX12_readsMark 25 = .ok (.if_icmp .eq 5, 3) := by decide +kernel
theorem dX12_readsMark_28 : decode cX12_readsMark 28 = .ok (.iconst 0, 1) := by decide +kernel
theorem dX12_readsMark_29 : decode cX12_readsMark 29 = .ok (.ireturn, 1) := by decide +kernel
theorem dX12_readsMark_30 : decode cX12_readsMark 30 = .ok (.aload_n 0, 1) := by decide +kernel
theorem dX12_readsMark_31 : decode cX12_readsMark 31 = .ok (.dup, 1) := by decide +kernel
theorem dX12_readsMark_32 : decode cX12_readsMark 32 = .ok (.getfield 51, 3) := by decide +kernel
theorem dX12_readsMark_35 : decode cX12_readsMark 35 = .ok (.iconst 1, 1) := by decide +kernel
theorem dX12_readsMark_36 : decode cX12_readsMark 36 = .ok (.iadd, 1) := by decide +kernel
theorem dX12_readsMark_37 : decode cX12_readsMark 37 = .ok (.putfield 51, 3) := by decide +kernel
theorem dX12_readsMark_40 : decode cX12_readsMark 40 = .ok (.aload_n 0, 1) := by decide +kernel
theorem dX12_readsMark_41 : decode cX12_readsMark 41 = .ok (.iload_n 1, 1) := by decide +kernel
theorem dX12_readsMark_42 : decode cX12_readsMark 42 = .ok (.iconst 1, 1) := by decide +kernel
theorem dX12_readsMark_43 : decode cX12_readsMark 43 = .ok (.invokevirtual 60, 3) := by decide +kernel
theorem dX12_readsMark_46 : decode cX12_readsMark 46 = .ok (.ifCond .ne 5, 3) := by decide +kernel
theorem dX12_readsMark_49 : decode cX12_readsMark 49 = .ok (.iconst 0, 1) := by decide +kernel
theorem dX12_readsMark_50 : decode cX12_readsMark 50 = .ok (.ireturn, 1) := by decide +kernel
theorem dX12_readsMark_51 : decode cX12_readsMark 51 = .ok (.aload_n 0, 1) := by decide +kernel
theorem dX12_readsMark_52 : decode cX12_readsMark 52 = .ok (.getfield 25, 3) := by decide +kernel
theorem dX12_readsMark_55 : decode cX12_readsMark 55 = .ok (.iload_n 1, 1) := by decide +kernel
theorem dX12_readsMark_56 : decode cX12_readsMark 56 = .ok (.dup2, 1) := by decide +kernel
theorem dX12_readsMark_57 : decode cX12_readsMark 57 = .ok (.iaload, 1) := by decide +kernel
theorem dX12_readsMark_58 : decode cX12_readsMark 58 = .ok (.iload_n 2, 1) := by decide +kernel
theorem dX12_readsMark_59 : decode cX12_readsMark 59 = .ok (.ifCond .eq 8, 3) := by decide +kernel
theorem dX12_readsMark_62 : decode cX12_readsMark 62 = .ok (.bipush 10, 2) := by decide +kernel
theorem dX12_readsMark_64 : decode cX12_readsMark 64 = .ok (.goto 4, 3) := by decide +kernel
theorem dX12_readsMark_67 : decode cX12_readsMark 67 = .ok (.iconst 0, 1) := by decide +kernel
theorem dX12_readsMark_68 : decode cX12_readsMark 68 = .ok (.iadd, 1) := by decide +kernel
theorem dX12_readsMark_69 : decode cX12_readsMark 69 = .ok (.iastore, 1) := by decide +kernel
theorem dX12_readsMark_70 : decode cX12_readsMark 70 = .ok (.iconst 1, 1) := by decide +kernel
theorem dX12_readsMark_71 : decode cX12_readsMark 71 = .ok (.ireturn, 1) := by decide +kernel
theorem dX12_readsStatement_0 : decode cX12_readsStatement 0 = .ok (.aload_n 0, 1) := by decide +kernel
theorem dX12_readsStatement_1 : decode cX12_readsStatement 1 = .ok (.invokevirtual 54, 3) := by decide +kernel
theorem dX12_readsStatement_4 : decode cX12_readsStatement 4 = .ok (.istore_n 1, 1) := by decide +kernel
theorem dX12_readsStatement_5 : decode cX12_readsStatement 5 = .ok (.iconst 0, 1) := by decide +kernel
theorem dX12_readsStatement_6 : decode cX12_readsStatement 6 = .ok (.istore_n 2, 1) := by decide +kernel
theorem dX12_readsStatement_7 : decode cX12_readsStatement 7 = .ok (.aload_n 0, 1) := by decide +kernel
theorem dX12_readsStatement_8 : decode cX12_readsStatement 8 = .ok (.dup, 1) := by decide +kernel
theorem dX12_readsStatement_9 : decode cX12_readsStatement 9 = .ok (.getfield 51, 3) := by decide +kernel
theorem dX12_readsStatement_12 : decode cX12_readsStatement 12 = .ok (.iconst 1, 1) := by decide +kernel
theorem dX12_readsStatement_13 : decode cX12_readsStatement 13 = .ok (.iadd, 1) := by decide +kernel
theorem dX12_readsStatement_14 : decode cX12_readsStatement 14 = .ok (.putfield 51, 3) := by decide +kernel
theorem dX12_readsStatement_17 : decode cX12_readsStatement 17 = .ok (.iload_n 1, 1) := by decide +kernel
theorem dX12_readsStatement_18 : decode cX12_readsStatement 18 = .ok (.lookupswitch 158 #[(98, 44), (102, 122), (104, 34)], 34) := by decide +kernel
theorem dX12_readsStatement_52 : decode cX12_readsStatement 52 = .ok (.aload_n 0, 1) := by decide +kernel
theorem dX12_readsStatement_53 : decode cX12_readsStatement 53 = .ok (.iconst 0, 1) := by decide +kernel
theorem dX12_readsStatement_54 : decode cX12_readsStatement 54 = .ok (.iconst 2, 1) := by decide +kernel
theorem dX12_readsStatement_55 : decode cX12_readsStatement 55 = .ok (.invokevirtual 60, 3) := by decide +kernel
theorem dX12_readsStatement_58 : decode cX12_readsStatement 58 = .ok (.istore_n 2, 1) := by decide +kernel
theorem dX12_readsStatement_59 : decode cX12_readsStatement 59 = .ok (.goto 129, 3) := by decide +kernel
theorem dX12_readsStatement_62 : decode cX12_readsStatement 62 = .ok (.aload_n 0, 1) := by decide +kernel
theorem dX12_readsStatement_63 : decode cX12_readsStatement 63 = .ok (.invokevirtual 63, 3) := by decide +kernel
theorem dX12_readsStatement_66 : decode cX12_readsStatement 66 = .ok (.ifCond .eq 69, 3) := by decide +kernel
theorem dX12_readsStatement_69 : decode cX12_readsStatement 69 = .ok (.aload_n 0, 1) := by decide +kernel
theorem dX12_readsStatement_70 : decode cX12_readsStatement 70 = .ok (.iconst 1, 1) := by decide +kernel
theorem dX12_readsStatement_71 : decode cX12_readsStatement 71 = .ok (.invokevirtual 67, 3) := by decide +kernel
theorem dX12_readsStatement_74 : decode cX12_readsStatement 74 = .ok (.ifCond .eq 61, 3) := by decide +kernel
theorem dX12_readsStatement_77 : decode cX12_readsStatement 77 = .ok (.aload_n 0, 1) := by decide +kernel
theorem dX12_readsStatement_78 : decode cX12_readsStatement 78 = .ok (.iconst 2, 1) := by decide +kernel
theorem dX12_readsStatement_79 : decode cX12_readsStatement 79 = .ok (.invokevirtual 67, 3) := by decide +kernel
theorem dX12_readsStatement_82 : decode cX12_readsStatement 82 = .ok (.ifCond .eq 53, 3) := by decide +kernel
theorem dX12_readsStatement_85 : decode cX12_readsStatement 85 = .ok (.aload_n 0, 1) := by decide +kernel
theorem dX12_readsStatement_86 : decode cX12_readsStatement 86 = .ok (.iconst 3, 1) := by decide +kernel
theorem dX12_readsStatement_87 : decode cX12_readsStatement 87 = .ok (.iconst 2, 1) := by decide +kernel
theorem dX12_readsStatement_88 : decode cX12_readsStatement 88 = .ok (.invokevirtual 60, 3) := by decide +kernel
theorem dX12_readsStatement_91 : decode cX12_readsStatement 91 = .ok (.ifCond .eq 44, 3) := by decide +kernel
theorem dX12_readsStatement_94 : decode cX12_readsStatement 94 = .ok (.aload_n 0, 1) := by decide +kernel
theorem dX12_readsStatement_95 : decode cX12_readsStatement 95 = .ok (.bipush 44, 2) := by decide +kernel
theorem dX12_readsStatement_97 : decode cX12_readsStatement 97 = .ok (.invokevirtual 71, 3) := by decide +kernel
theorem dX12_readsStatement_100 : decode cX12_readsStatement 100 = .ok (.ifCond .eq 35, 3) := by decide +kernel
theorem dX12_readsStatement_103 : decode cX12_readsStatement 103 = .ok (.aload_n 0, 1) := by decide +kernel
theorem dX12_readsStatement_104 : decode cX12_readsStatement 104 = .ok (.iconst 4, 1) := by decide +kernel
theorem dX12_readsStatement_105 : decode cX12_readsStatement 105 = .ok (.iconst 1, 1) := by decide +kernel
theorem dX12_readsStatement_106 : decode cX12_readsStatement 106 = .ok (.invokevirtual 60, 3) := by decide +kernel
theorem dX12_readsStatement_109 : decode cX12_readsStatement 109 = .ok (.ifCond .eq 26, 3) := by decide +kernel
theorem dX12_readsStatement_112 : decode cX12_readsStatement 112 = .ok (.aload_n 0, 1) := by decide +kernel
theorem dX12_readsStatement_113 : decode cX12_readsStatement 113 = .ok (.iconst 5, 1) := by decide +kernel
theorem dX12_readsStatement_114 : decode cX12_readsStatement 114 = .ok (.iconst 1, 1) := by decide +kernel
theorem dX12_readsStatement_115 : decode cX12_readsStatement 115 = .ok (.invokevirtual 60, 3) := by decide +kernel
theorem dX12_readsStatement_118 : decode cX12_readsStatement 118 = .ok (.ifCond .eq 17, 3) := by decide +kernel
theorem dX12_readsStatement_121 : decode cX12_readsStatement 121 = .ok (.aload_n 0, 1) := by decide +kernel
theorem dX12_readsStatement_122 : decode cX12_readsStatement 122 = .ok (.bipush 6, 2) := by decide +kernel
theorem dX12_readsStatement_124 : decode cX12_readsStatement 124 = .ok (.iconst 1, 1) := by decide +kernel
theorem dX12_readsStatement_125 : decode cX12_readsStatement 125 = .ok (.invokevirtual 60, 3) := by decide +kernel
theorem dX12_readsStatement_128 : decode cX12_readsStatement 128 = .ok (.ifCond .eq 7, 3) := by decide +kernel
theorem dX12_readsStatement_131 : decode cX12_readsStatement 131 = .ok (.iconst 1, 1) := by decide +kernel
theorem dX12_readsStatement_132 : decode cX12_readsStatement 132 = .ok (.goto 4, 3) := by decide +kernel
theorem dX12_readsStatement_135 : decode cX12_readsStatement 135 = .ok (.iconst 0, 1) := by decide +kernel
theorem dX12_readsStatement_136 : decode cX12_readsStatement 136 = .ok (.istore_n 2, 1) := by decide +kernel
theorem dX12_readsStatement_137 : decode cX12_readsStatement 137 = .ok (.goto 51, 3) := by decide +kernel
theorem dX12_readsStatement_140 : decode cX12_readsStatement 140 = .ok (.aload_n 0, 1) := by decide +kernel
theorem dX12_readsStatement_141 : decode cX12_readsStatement 141 = .ok (.iconst 0, 1) := by decide +kernel
theorem dX12_readsStatement_142 : decode cX12_readsStatement 142 = .ok (.iconst 1, 1) := by decide +kernel
theorem dX12_readsStatement_143 : decode cX12_readsStatement 143 = .ok (.invokevirtual 60, 3) := by decide +kernel
theorem dX12_readsStatement_146 : decode cX12_readsStatement 146 = .ok (.ifCond .eq 25, 3) := by decide +kernel
theorem dX12_readsStatement_149 : decode cX12_readsStatement 149 = .ok (.aload_n 0, 1) := by decide +kernel
theorem dX12_readsStatement_150 : decode cX12_readsStatement 150 = .ok (.bipush 44, 2) := by decide +kernel
theorem dX12_readsStatement_152 : decode cX12_readsStatement 152 = .ok (.invokevirtual 71, 3) := by decide +kernel
theorem dX12_readsStatement_155 : decode cX12_readsStatement 155 = .ok (.ifCond .eq 16, 3) := by decide +kernel
theorem dX12_readsStatement_158 : decode cX12_readsStatement 158 = .ok (.aload_n 0, 1) := by decide +kernel
theorem dX12_readsStatement_159 : decode cX12_readsStatement 159 = .ok (.iconst 1, 1) := by decide +kernel
theorem dX12_readsStatement_160 : decode cX12_readsStatement 160 = .ok (.iconst 2, 1) := by decide +kernel
theorem dX12_readsStatement_161 : decode cX12_readsStatement 161 = .ok (.invokevirtual 60, 3) := by decide +kernel
theorem dX12_readsStatement_164 : decode cX12_readsStatement 164 = .ok (.ifCond .eq 7, 3) := by decide +kernel
theorem dX12_readsStatement_167 : decode cX12_readsStatement 167 = .ok (.iconst 1, 1) := by decide +kernel
theorem dX12_readsStatement_168 : decode cX12_readsStatement 168 = .ok (.goto 4, 3) := by decide +kernel
theorem dX12_readsStatement_171 : decode cX12_readsStatement 171 = .ok (.iconst 0, 1) := by decide +kernel
theorem dX12_readsStatement_172 : decode cX12_readsStatement 172 = .ok (.istore_n 2, 1) := by decide +kernel
theorem dX12_readsStatement_173 : decode cX12_readsStatement 173 = .ok (.goto 15, 3) := by decide +kernel
theorem dX12_readsStatement_176 : decode cX12_readsStatement 176 = .ok (.aload_n 0, 1) := by decide +kernel
theorem dX12_readsStatement_177 : decode cX12_readsStatement 177 = .ok (.dup, 1) := by decide +kernel
theorem dX12_readsStatement_178 : decode cX12_readsStatement 178 = .ok (.getfield 51, 3) := by decide +kernel
theorem dX12_readsStatement_181 : decode cX12_readsStatement 181 = .ok (.iconst 1, 1) := by decide +kernel
theorem dX12_readsStatement_182 : decode cX12_readsStatement 182 = .ok (.isub, 1) := by decide +kernel
theorem dX12_readsStatement_183 : decode cX12_readsStatement 183 = .ok (.putfield 51, 3) := by decide +kernel
theorem dX12_readsStatement_186 : decode cX12_readsStatement 186 = .ok (.iconst 0, 1) := by decide +kernel
theorem dX12_readsStatement_187 : decode cX12_readsStatement 187 = .ok (.ireturn, 1) := by decide +kernel
theorem dX12_readsStatement_188 : decode cX12_readsStatement 188 = .ok (.iload_n 2, 1) := by decide +kernel
theorem dX12_readsStatement_189 : decode cX12_readsStatement 189 = .ok (.ifCond .eq 16, 3) := by decide +kernel
theorem dX12_readsStatement_192 : decode cX12_readsStatement 192 = .ok (.aload_n 0, 1) := by decide +kernel
theorem dX12_readsStatement_193 : decode cX12_readsStatement 193 = .ok (.bipush 59, 2) := by decide +kernel
theorem dX12_readsStatement_195 : decode cX12_readsStatement 195 = .ok (.invokevirtual 71, 3) := by decide +kernel
theorem dX12_readsStatement_198 : decode cX12_readsStatement 198 = .ok (.ifCond .eq 7, 3) := by decide +kernel
theorem dX12_readsStatement_201 : decode cX12_readsStatement 201 = .ok (.iconst 1, 1) := by decide +kernel
theorem dX12_readsStatement_202 : decode cX12_readsStatement 202 = .ok (.goto 4, 3) := by decide +kernel
theorem dX12_readsStatement_205 : decode cX12_readsStatement 205 = .ok (.iconst 0, 1) := by decide +kernel
theorem dX12_readsStatement_206 : decode cX12_readsStatement 206 = .ok (.ireturn, 1) := by decide +kernel
theorem dX12_isMark_0 : decode cX12_isMark 0 = .ok (.iload_n 1, 1) := by decide +kernel
theorem dX12_isMark_1 : decode cX12_isMark 1 = .ok (.bipush 10, 2) := by decide +kernel
theorem dX12_isMark_3 : decode cX12_isMark 3 = .ok (.if_icmp .ge 21, 3) := by decide +kernel
theorem dX12_isMark_6 : decode cX12_isMark 6 = .ok (.iload_n 1, 1) := by decide +kernel
theorem dX12_isMark_7 : decode cX12_isMark 7 = .ok (.aload_n 0, 1) := by decide +kernel
theorem dX12_isMark_8 : decode cX12_isMark 8 = .ok (.getfield 19, 3) := by decide +kernel
theorem dX12_isMark_11 : decode cX12_isMark 11 = .ok (.iconst 0, 1) := by decide +kernel
theorem dX12_isMark_12 : decode cX12_isMark 12 = .ok (.iaload, 1) := by decide +kernel
theorem dX12_isMark_13 : decode cX12_isMark 13 = .ok (.if_icmp .ge 7, 3) := by decide +kernel
theorem dX12_isMark_16 : decode cX12_isMark 16 = .ok (.iconst 1, 1) := by decide +kernel
theorem dX12_isMark_17 : decode cX12_isMark 17 = .ok (.goto 18, 3) := by decide +kernel
theorem dX12_isMark_20 : decode cX12_isMark 20 = .ok (.iconst 0, 1) := by decide +kernel
theorem dX12_isMark_21 : decode cX12_isMark 21 = .ok (.goto 14, 3) := by decide +kernel
theorem dX12_isMark_24 : decode cX12_isMark 24 = .ok (.iload_n 1, 1) := by decide +kernel
theorem dX12_isMark_25 : decode cX12_isMark 25 = .ok (.bipush 16, 2) := by decide +kernel
theorem dX12_isMark_27 : decode cX12_isMark 27 = .ok (.if_icmp .ge 7, 3) := by decide +kernel
theorem dX12_isMark_30 : decode cX12_isMark 30 = .ok (.iconst 1, 1) := by decide +kernel
theorem dX12_isMark_31 : decode cX12_isMark 31 = .ok (.goto 4, 3) := by decide +kernel
theorem dX12_isMark_34 : decode cX12_isMark 34 = .ok (.iconst 0, 1) := by decide +kernel
theorem dX12_isMark_35 : decode cX12_isMark 35 = .ok (.ireturn, 1) := by decide +kernel
theorem dX12_comes_0 : decode cX12_comes 0 = .ok (.iload_n 1, 1) := by decide +kernel
theorem dX12_comes_1 : decode cX12_comes 1 = .ok (.lookupswitch 230 #[(98, 80), (104, 27)], 27) := by decide +kernel
theorem dX12_comes_28 : decode cX12_comes 28 = .ok (.aload_n 0, 1) := by decide +kernel
theorem dX12_comes_29 : decode cX12_comes 29 = .ok (.getfield 25, 3) := by decide +kernel
theorem dX12_comes_32 : decode cX12_comes 32 = .ok (.iconst 0, 1) := by decide +kernel
theorem dX12_comes_33 : decode cX12_comes 33 = .ok (.iaload, 1) := by decide +kernel
theorem dX12_comes_34 : decode cX12_comes 34 = .ok (.iconst 1, 1) := by decide +kernel
theorem dX12_comes_35 : decode cX12_comes 35 = .ok (.if_icmp .lt 13, 3) := by decide +kernel
theorem dX12_comes_38 : decode cX12_comes 38 = .ok (.aload_n 0, 1) := by decide +kernel
theorem dX12_comes_39 : decode cX12_comes 39 = .ok (.getfield 19, 3) := by decide +kernel
theorem dX12_comes_42 : decode cX12_comes 42 = .ok (.iconst 0, 1) := by decide +kernel
theorem dX12_comes_43 : decode cX12_comes 43 = .ok (.iaload, 1) := by decide +kernel
theorem dX12_comes_44 : decode cX12_comes 44 = .ok (.iconst 4, 1) := by decide +kernel
theorem dX12_comes_45 : decode cX12_comes 45 = .ok (.if_icmp .ne 5, 3) := by decide +kernel
theorem dX12_comes_48 : decode cX12_comes 48 = .ok (.iconst 0, 1) := by decide +kernel
theorem dX12_comes_49 : decode cX12_comes 49 = .ok (.ireturn, 1) := by decide +kernel
theorem dX12_comes_50 : decode cX12_comes 50 = .ok (.aload_n 0, 1) := by decide +kernel
theorem dX12_comes_51 : decode cX12_comes 51 = .ok (.getfield 19, 3) := by decide +kernel
theorem dX12_comes_54 : decode cX12_comes 54 = .ok (.iconst 2, 1) := by decide +kernel
theorem dX12_comes_55 : decode cX12_comes 55 = .ok (.aload_n 0, 1) := by decide +kernel
theorem dX12_comes_56 : decode cX12_comes 56 = .ok (.getfield 19, 3) := by decide +kernel
theorem dX12_comes_59 : decode cX12_comes 59 = .ok (.iconst 0, 1) := by decide +kernel
theorem dX12_comes_60 : decode cX12_comes 60 = .ok (.iaload, 1) := by decide +kernel
theorem dX12_comes_61 : decode cX12_comes 61 = .ok (.iadd, 1) := by decide +kernel
theorem dX12_comes_62 : decode cX12_comes 62 = .ok (.aload_n 0, 1) := by decide +kernel
theorem dX12_comes_63 : decode cX12_comes 63 = .ok (.getfield 25, 3) := by decide +kernel
theorem dX12_comes_66 : decode cX12_comes 66 = .ok (.iconst 0, 1) := by decide +kernel
theorem dX12_comes_67 : decode cX12_comes 67 = .ok (.iaload, 1) := by decide +kernel
theorem dX12_comes_68 : decode cX12_comes 68 = .ok (.iastore, 1) := by decide +kernel
theorem dX12_comes_69 : decode cX12_comes 69 = .ok (.aload_n 0, 1) := by decide +kernel
theorem dX12_comes_70 : decode cX12_comes 70 = .ok (.getfield 19, 3) := by decide +kernel
theorem dX12_comes_73 : decode cX12_comes 73 = .ok (.iconst 0, 1) := by decide +kernel
theorem dX12_comes_74 : decode cX12_comes 74 = .ok (.dup2, 1) := by decide +kernel
theorem dX12_comes_75 : decode cX12_comes 75 = .ok (.iaload, 1) := by decide +kernel
theorem dX12_comes_76 : decode cX12_comes 76 = .ok (.iconst 1, 1) := by decide +kernel
theorem dX12_comes_77 : decode cX12_comes 77 = .ok (.iadd, 1) := by decide +kernel
theorem dX12_comes_78 : decode cX12_comes 78 = .ok (.iastore, 1) := by decide +kernel
theorem dX12_comes_79 : decode cX12_comes 79 = .ok (.iconst 1, 1) := by decide +kernel
theorem dX12_comes_80 : decode cX12_comes 80 = .ok (.ireturn, 1) := by decide +kernel
theorem dX12_comes_81 : decode cX12_comes 81 = .ok (.aload_n 0, 1) := by decide +kernel
theorem dX12_comes_82 : decode cX12_comes 82 = .ok (.aload_n 0, 1) := by decide +kernel
theorem dX12_comes_83 : decode cX12_comes 83 = .ok (.getfield 25, 3) := by decide +kernel
theorem dX12_comes_86 : decode cX12_comes 86 = .ok (.iconst 1, 1) := by decide +kernel
theorem dX12_comes_87 : decode cX12_comes 87 = .ok (.iaload, 1) := by decide +kernel
theorem dX12_comes_88 : decode cX12_comes 88 = .ok (.invokevirtual 74, 3) := by decide +kernel
theorem dX12_comes_91 : decode cX12_comes 91 = .ok (.ifCond .eq 81, 3) := by decide +kernel
theorem dX12_comes_94 : decode cX12_comes 94 = .ok (.aload_n 0, 1) := by decide +kernel
theorem dX12_comes_95 : decode cX12_comes 95 = .ok (.aload_n 0, 1) := by decide +kernel
theorem dX12_comes_96 : decode cX12_comes 96 = .ok (.getfield 25, 3) := by decide +kernel
theorem dX12_comes_99 : decode cX12_comes 99 = .ok (.iconst 2, 1) := by decide +kernel
theorem dX12_comes_100 : decode cX12_comes 100 = .ok (.iaload, 1) := by decide +kernel
theorem dX12_comes_101 : decode cX12_comes 101 = .ok (.invokevirtual 74, 3) := by decide +kernel
theorem dX12_comes_104 : decode cX12_comes 104 = .ok (.ifCond .eq 68, 3) := by decide +kernel
theorem dX12_comes_107 : decode cX12_comes 107 = .ok (.aload_n 0, 1) := by decide +kernel
theorem dX12_comes_108 : decode cX12_comes 108 = .ok (.getfield 25, 3) := by decide +kernel
theorem dX12_comes_111 : decode cX12_comes 111 = .ok (.iconst 3, 1) := by decide +kernel
theorem dX12_comes_112 : decode cX12_comes 112 = .ok (.iaload, 1) := by decide +kernel
theorem dX12_comes_113 : decode cX12_comes 113 = .ok (.ifCond .le 59, 3) := by decide +kernel
theorem dX12_comes_116 : decode cX12_comes 116 = .ok (.aload_n 0, 1) := by decide +kernel
theorem dX12_comes_117 : decode cX12_comes 117 = .ok (.getfield 25, 3) := by decide +kernel
theorem dX12_comes_120 : decode cX12_comes 120 = .ok (.iconst 5, 1) := by decide +kernel
theorem dX12_comes_121 : decode cX12_comes 121 = .ok (.iaload, 1) := by decide +kernel
theorem dX12_comes_122 : decode cX12_comes 122 = .ok (.invokestatic 77, 3) := by decide +kernel
theorem dX12_comes_125 : decode cX12_comes 125 = .ok (.ifCond .eq 47, 3) := by decide +kernel
theorem dX12_comes_128 : decode cX12_comes 128 = .ok (.aload_n 0, 1) := by decide +kernel
theorem dX12_comes_129 : decode cX12_comes 129 = .ok (.getfield 25, 3) := by decide +kernel
theorem dX12_comes_132 : decode cX12_comes 132 = .ok (.bipush 6, 2) := by decide +kernel
theorem dX12_comes_134 : decode cX12_comes 134 = .ok (.iaload, 1) := by decide +kernel
theorem dX12_comes_135 : decode cX12_comes 135 = .ok (.invokestatic 77, 3) := by decide +kernel
theorem dX12_comes_138 : decode cX12_comes 138 = .ok (.ifCond .eq 34, 3) := by decide +kernel
theorem dX12_comes_141 : decode cX12_comes 141 = .ok (.aload_n 0, 1) := by decide +kernel
theorem dX12_comes_142 : decode cX12_comes 142 = .ok (.getfield 25, 3) := by decide +kernel
theorem dX12_comes_145 : decode cX12_comes 145 = .ok (.iconst 5, 1) := by decide +kernel
theorem dX12_comes_146 : decode cX12_comes 146 = .ok (.iaload, 1) := by decide +kernel
theorem dX12_comes_147 : decode cX12_comes 147 = .ok (.aload_n 0, 1) := by decide +kernel
theorem dX12_comes_148 : decode cX12_comes 148 = .ok (.getfield 25, 3) := by decide +kernel
theorem dX12_comes_151 : decode cX12_comes 151 = .ok (.bipush 6, 2) := by decide +kernel
theorem dX12_comes_153 : decode cX12_comes 153 = .ok (.iaload, 1) := by decide +kernel
theorem dX12_comes_154 : decode cX12_comes 154 = .ok (.if_icmp .eq 18, 3) := by decide +kernel
theorem dX12_comes_157 : decode cX12_comes 157 = .ok (.aload_n 0, 1) := by decide +kernel
theorem dX12_comes_158 : decode cX12_comes 158 = .ok (.getfield 19, 3) := by decide +kernel
theorem dX12_comes_161 : decode cX12_comes 161 = .ok (.iconst 1, 1) := by decide +kernel
theorem dX12_comes_162 : decode cX12_comes 162 = .ok (.iaload, 1) := by decide +kernel
theorem dX12_comes_163 : decode cX12_comes 163 = .ok (.bipush 6, 2) := by decide +kernel
theorem dX12_comes_165 : decode cX12_comes 165 = .ok (.if_icmp .ge 7, 3) := by decide +kernel
theorem dX12_comes_168 : decode cX12_comes 168 = .ok (.iconst 1, 1) := by decide +kernel
theorem dX12_comes_169 : decode cX12_comes 169 = .ok (.goto 4, 3) := by decide +kernel
theorem dX12_comes_172 : decode cX12_comes 172 = .ok (.iconst 0, 1) := by decide +kernel
theorem dX12_comes_173 : decode cX12_comes 173 = .ok (.istore_n 2, 1) := by decide +kernel
theorem dX12_comes_174 : decode cX12_comes 174 = .ok (.iload_n 2, 1) := by decide +kernel
theorem dX12_comes_175 : decode cX12_comes 175 = .ok (.ifCond .ne 5, 3) := by decide +kernel
theorem dX12_comes_178 : decode cX12_comes 178 = .ok (.iconst 0, 1) := by decide +kernel
theorem dX12_comes_179 : decode cX12_comes 179 = .ok (.ireturn, 1) := by decide +kernel
theorem dX12_comes_180 : decode cX12_comes 180 = .ok (.iconst 0, 1) := by decide +kernel
theorem dX12_comes_181 : decode cX12_comes 181 = .ok (.istore_n 3, 1) := by decide +kernel
theorem dX12_comes_182 : decode cX12_comes 182 = .ok (.iload_n 3, 1) := by decide +kernel
theorem dX12_comes_183 : decode cX12_comes 183 = .ok (.bipush 7, 2) := by decide +kernel
theorem dX12_comes_185 : decode cX12_comes 185 = .ok (.if_icmp .ge 34, 3) := by decide +kernel
theorem dX12_comes_188 : decode cX12_comes 188 = .ok (.aload_n 0, 1) := by decide +kernel
theorem dX12_comes_189 : decode cX12_comes 189 = .ok (.getfield 19, 3) := by decide +kernel
theorem dX12_comes_192 : decode cX12_comes 192 = .ok (.bipush 10, 2) := by decide +kernel
theorem dX12_comes_194 : decode cX12_comes 194 = .ok (.bipush 7, 2) := by decide +kernel
theorem dX12_comes_196 : decode cX12_comes 196 = .ok (.aload_n 0, 1) := by decide +kernel
theorem dX12_comes_197 : decode cX12_comes 197 = .ok (.getfield 19, 3) := by decide +kernel
theorem dX12_comes_200 : decode cX12_comes 200 = .ok (.iconst 1, 1) := by decide +kernel
theorem dX12_comes_201 : decode cX12_comes 201 = .ok (.iaload, 1) := by decide +kernel
theorem dX12_comes_202 : decode cX12_comes 202 = .ok (.imul, 1) := by decide +kernel
theorem dX12_comes_203 : decode cX12_comes 203 = .ok (.iadd, 1) := by decide +kernel
theorem dX12_comes_204 : decode cX12_comes 204 = .ok (.iload_n 3, 1) := by decide +kernel
theorem dX12_comes_205 : decode cX12_comes 205 = .ok (.iadd, 1) := by decide +kernel
theorem dX12_comes_206 : decode cX12_comes 206 = .ok (.aload_n 0, 1) := by decide +kernel
theorem dX12_comes_207 : decode cX12_comes 207 = .ok (.getfield 25, 3) := by decide +kernel
theorem dX12_comes_210 : decode cX12_comes 210 = .ok (.iload_n 3, 1) := by decide +kernel
theorem dX12_comes_211 : decode cX12_comes 211 = .ok (.iaload, 1) := by decide +kernel
theorem dX12_comes_212 : decode cX12_comes 212 = .ok (.iastore, 1) := by decide +kernel
theorem dX12_comes_213 : decode cX12_comes 213 = .ok (.iinc 3 1, 3) := by decide +kernel
theorem dX12_comes_216 : decode cX12_comes 216 = .ok (.goto (-34), 3) := by decide +kernel
theorem dX12_comes_219 : decode cX12_comes 219 = .ok (.aload_n 0, 1) := by decide +kernel
theorem dX12_comes_220 : decode cX12_comes 220 = .ok (.getfield 19, 3) := by decide +kernel
theorem dX12_comes_223 : decode cX12_comes 223 = .ok (.iconst 1, 1) := by decide +kernel
theorem dX12_comes_224 : decode cX12_comes 224 = .ok (.dup2, 1) := by decide +kernel
theorem dX12_comes_225 : decode cX12_comes 225 = .ok (.iaload, 1) := by decide +kernel
theorem dX12_comes_226 : decode cX12_comes 226 = .ok (.iconst 1, 1) := by decide +kernel
theorem dX12_comes_227 : decode cX12_comes 227 = .ok (.iadd, 1) := by decide +kernel
theorem dX12_comes_228 : decode cX12_comes 228 = .ok (.iastore, 1) := by decide +kernel
theorem dX12_comes_229 : decode cX12_comes 229 = .ok (.iconst 1, 1) := by decide +kernel
theorem dX12_comes_230 : decode cX12_comes 230 = .ok (.ireturn, 1) := by decide +kernel
theorem dX12_comes_231 : decode cX12_comes 231 = .ok (.aload_n 0, 1) := by decide +kernel
theorem dX12_comes_232 : decode cX12_comes 232 = .ok (.getfield 25, 3) := by decide +kernel
theorem dX12_comes_235 : decode cX12_comes 235 = .ok (.iconst 0, 1) := by decide +kernel
theorem dX12_comes_236 : decode cX12_comes 236 = .ok (.iaload, 1) := by decide +kernel
theorem dX12_comes_237 : decode cX12_comes 237 = .ok (.invokestatic 77, 3) := by decide +kernel
theorem dX12_comes_240 : decode cX12_comes 240 = .ok (.ifCond .ne 5, 3) := by decide +kernel
theorem dX12_comes_243 : decode cX12_comes 243 = .ok (.iconst 0, 1) := by decide +kernel
theorem dX12_comes_244 : decode cX12_comes 244 = .ok (.ireturn, 1) := by decide +kernel
theorem dX12_comes_245 : decode cX12_comes 245 = .ok (.aload_n 0, 1) := by decide +kernel
theorem dX12_comes_246 : decode cX12_comes 246 = .ok (.getfield 19, 3) := by decide +kernel
theorem dX12_comes_249 : decode cX12_comes 249 = .ok (.bipush 6, 2) := by decide +kernel
theorem dX12_comes_251 : decode cX12_comes 251 = .ok (.aload_n 0, 1) := by decide +kernel
theorem dX12_comes_252 : decode cX12_comes 252 = .ok (.getfield 25, 3) := by decide +kernel
theorem dX12_comes_255 : decode cX12_comes 255 = .ok (.iconst 0, 1) := by decide +kernel
theorem dX12_comes_256 : decode cX12_comes 256 = .ok (.iaload, 1) := by decide +kernel
theorem dX12_comes_257 : decode cX12_comes 257 = .ok (.iadd, 1) := by decide +kernel
theorem dX12_comes_258 : decode cX12_comes 258 = .ok (.aload_n 0, 1) := by decide +kernel
theorem dX12_comes_259 : decode cX12_comes 259 = .ok (.getfield 25, 3) := by decide +kernel
theorem dX12_comes_262 : decode cX12_comes 262 = .ok (.iconst 1, 1) := by decide +kernel
theorem dX12_comes_263 : decode cX12_comes 263 = .ok (.iaload, 1) := by decide +kernel
theorem dX12_comes_264 : decode cX12_comes 264 = .ok (.iastore, 1) := by decide +kernel
theorem dX12_comes_265 : decode cX12_comes 265 = .ok (.iconst 1, 1) := by decide +kernel
theorem dX12_comes_266 : decode cX12_comes 266 = .ok (.ireturn, 1) := by decide +kernel
theorem dX12_reads_0 : decode cX12_reads 0 = .ok (.aload_n 0, 1) := by decide +kernel
theorem dX12_reads_1 : decode cX12_reads 1 = .ok (.iconst 0, 1) := by decide +kernel
theorem dX12_reads_2 : decode cX12_reads 2 = .ok (.putfield 51, 3) := by decide +kernel
theorem dX12_reads_5 : decode cX12_reads 5 = .ok (.iconst 0, 1) := by decide +kernel
theorem dX12_reads_6 : decode cX12_reads 6 = .ok (.istore_n 1, 1) := by decide +kernel
theorem dX12_reads_7 : decode cX12_reads 7 = .ok (.aload_n 0, 1) := by decide +kernel
theorem dX12_reads_8 : decode cX12_reads 8 = .ok (.invokevirtual 80, 3) := by decide +kernel
theorem dX12_reads_11 : decode cX12_reads 11 = .ok (.ifCond .ne 12, 3) := by decide +kernel
theorem dX12_reads_14 : decode cX12_reads 14 = .ok (.sipush (-1000), 3) := by decide +kernel
theorem dX12_reads_17 : decode cX12_reads 17 = .ok (.aload_n 0, 1) := by decide +kernel
theorem dX12_reads_18 : decode cX12_reads 18 = .ok (.getfield 51, 3) := by decide +kernel
theorem dX12_reads_21 : decode cX12_reads 21 = .ok (.isub, 1) := by decide +kernel
theorem dX12_reads_22 : decode cX12_reads 22 = .ok (.ireturn, 1) := by decide +kernel
theorem dX12_reads_23 : decode cX12_reads 23 = .ok (.iinc 1 1, 3) := by decide +kernel
theorem dX12_reads_26 : decode cX12_reads 26 = .ok (.aload_n 0, 1) := by decide +kernel
theorem dX12_reads_27 : decode cX12_reads 27 = .ok (.getfield 51, 3) := by decide +kernel
theorem dX12_reads_30 : decode cX12_reads 30 = .ok (.aload_n 0, 1) := by decide +kernel
theorem dX12_reads_31 : decode cX12_reads 31 = .ok (.getfield 43, 3) := by decide +kernel
theorem dX12_reads_34 : decode cX12_reads 34 = .ok (.if_icmp .lt (-27), 3) := by decide +kernel
theorem dX12_reads_37 : decode cX12_reads 37 = .ok (.aload_n 0, 1) := by decide +kernel
theorem dX12_reads_38 : decode cX12_reads 38 = .ok (.getfield 13, 3) := by decide +kernel
theorem dX12_reads_41 : decode cX12_reads 41 = .ok (.aload_n 0, 1) := by decide +kernel
theorem dX12_reads_42 : decode cX12_reads 42 = .ok (.getfield 19, 3) := by decide +kernel
theorem dX12_reads_45 : decode cX12_reads 45 = .ok (.invokestatic 83, 3) := by decide +kernel
theorem dX12_reads_48 : decode cX12_reads 48 = .ok (.aload_n 0, 1) := by decide +kernel
theorem dX12_reads_49 : decode cX12_reads 49 = .ok (.iconst 0, 1) := by decide +kernel
theorem dX12_reads_50 : decode cX12_reads 50 = .ok (.putfield 51, 3) := by decide +kernel
theorem dX12_reads_53 : decode cX12_reads 53 = .ok (.aload_n 0, 1) := by decide +kernel
theorem dX12_reads_54 : decode cX12_reads 54 = .ok (.getfield 51, 3) := by decide +kernel
theorem dX12_reads_57 : decode cX12_reads 57 = .ok (.aload_n 0, 1) := by decide +kernel
theorem dX12_reads_58 : decode cX12_reads 58 = .ok (.getfield 43, 3) := by decide +kernel
theorem dX12_reads_61 : decode cX12_reads 61 = .ok (.if_icmp .ge 36, 3) := by decide +kernel
theorem dX12_reads_64 : decode cX12_reads 64 = .ok (.aload_n 0, 1) := by decide +kernel
theorem dX12_reads_65 : decode cX12_reads 65 = .ok (.getfield 51, 3) := by decide +kernel
theorem dX12_reads_68 : decode cX12_reads 68 = .ok (.istore_n 2, 1) := by decide +kernel
theorem dX12_reads_69 : decode cX12_reads 69 = .ok (.aload_n 0, 1) := by decide +kernel
theorem dX12_reads_70 : decode cX12_reads 70 = .ok (.invokevirtual 54, 3) := by decide +kernel
theorem dX12_reads_73 : decode cX12_reads 73 = .ok (.istore_n 3, 1) := by decide +kernel
theorem dX12_reads_74 : decode cX12_reads 74 = .ok (.aload_n 0, 1) := by decide +kernel
theorem dX12_reads_75 : decode cX12_reads 75 = .ok (.invokevirtual 80, 3) := by decide +kernel
theorem dX12_reads_78 : decode cX12_reads 78 = .ok (.istore 4, 2) := by decide +kernel
theorem dX12_reads_80 : decode cX12_reads 80 = .ok (.aload_n 0, 1) := by decide +kernel
theorem dX12_reads_81 : decode cX12_reads 81 = .ok (.iload_n 3, 1) := by decide +kernel
theorem dX12_reads_82 : decode cX12_reads 82 = .ok (.invokevirtual 87, 3) := by decide +kernel
theorem dX12_reads_85 : decode cX12_reads 85 = .ok (.ifCond .ne 9, 3) := by decide +kernel
theorem dX12_reads_88 : decode cX12_reads 88 = .ok (.sipush (-2000), 3) := by decide +kernel
theorem dX12_reads_91 : decode cX12_reads 91 = .ok (.iload_n 2, 1) := by decide +kernel
theorem dX12_reads_92 : decode cX12_reads 92 = .ok (.isub, 1) := by decide +kernel
theorem dX12_reads_93 : decode cX12_reads 93 = .ok (.ireturn, 1) := by decide +kernel
theorem dX12_reads_94 : decode cX12_reads 94 = .ok (.goto (-41), 3) := by decide +kernel
theorem dX12_reads_97 : decode cX12_reads 97 = .ok (.aload_n 0, 1) := by decide +kernel
theorem dX12_reads_98 : decode cX12_reads 98 = .ok (.getfield 19, 3) := by decide +kernel
theorem dX12_reads_101 : decode cX12_reads 101 = .ok (.aload_n 0, 1) := by decide +kernel
theorem dX12_reads_102 : decode cX12_reads 102 = .ok (.getfield 13, 3) := by decide +kernel
theorem dX12_reads_105 : decode cX12_reads 105 = .ok (.invokestatic 83, 3) := by decide +kernel
theorem dX12_reads_108 : decode cX12_reads 108 = .ok (.iload_n 1, 1) := by decide +kernel
theorem dX12_reads_109 : decode cX12_reads 109 = .ok (.ireturn, 1) := by decide +kernel
theorem dX12_inn_0 : decode cX12_inn 0 = .ok (.aload_n 0, 1) := by decide +kernel
theorem dX12_inn_1 : decode cX12_inn 1 = .ok (.invokevirtual 90, 3) := by decide +kernel
theorem dX12_inn_4 : decode cX12_inn 4 = .ok (.istore_n 1, 1) := by decide +kernel
theorem dX12_inn_5 : decode cX12_inn 5 = .ok (.aload_n 0, 1) := by decide +kernel
theorem dX12_inn_6 : decode cX12_inn 6 = .ok (.iconst 0, 1) := by decide +kernel
theorem dX12_inn_7 : decode cX12_inn 7 = .ok (.putfield 43, 3) := by decide +kernel
theorem dX12_inn_10 : decode cX12_inn 10 = .ok (.iload_n 1, 1) := by decide +kernel
theorem dX12_inn_11 : decode cX12_inn 11 = .ok (.ireturn, 1) := by decide +kernel
theorem dX12_chance_0 : decode cX12_chance 0 = .ok (.iload_n 1, 1) := by decide +kernel
theorem dX12_chance_1 : decode cX12_chance 1 = .ok (.aload_n 0, 1) := by decide +kernel
theorem dX12_chance_2 : decode cX12_chance 2 = .ok (.getfield 13, 3) := by decide +kernel
theorem dX12_chance_5 : decode cX12_chance 5 = .ok (.iconst 0, 1) := by decide +kernel
theorem dX12_chance_6 : decode cX12_chance 6 = .ok (.iaload, 1) := by decide +kernel
theorem dX12_chance_7 : decode cX12_chance 7 = .ok (.invokestatic 31, 3) := by decide +kernel
theorem dX12_chance_10 : decode cX12_chance 10 = .ok (.ifCond .eq 14, 3) := by decide +kernel
theorem dX12_chance_13 : decode cX12_chance 13 = .ok (.aload_n 0, 1) := by decide +kernel
theorem dX12_chance_14 : decode cX12_chance 14 = .ok (.getfield 13, 3) := by decide +kernel
theorem dX12_chance_17 : decode cX12_chance 17 = .ok (.iconst 2, 1) := by decide +kernel
theorem dX12_chance_18 : decode cX12_chance 18 = .ok (.iload_n 1, 1) := by decide +kernel
theorem dX12_chance_19 : decode cX12_chance 19 = .ok (.iadd, 1) := by decide +kernel
theorem dX12_chance_20 : decode cX12_chance 20 = .ok (.iaload, 1) := by decide +kernel
theorem dX12_chance_21 : decode cX12_chance 21 = .ok (.goto 8, 3) := by decide +kernel
theorem dX12_chance_24 : decode cX12_chance 24 = .ok (.aload_n 0, 1) := by decide +kernel
theorem dX12_chance_25 : decode cX12_chance 25 = .ok (.iconst (-1), 1) := by decide +kernel
theorem dX12_chance_26 : decode cX12_chance 26 = .ok (.invokevirtual 47, 3) := by decide +kernel
theorem dX12_chance_29 : decode cX12_chance 29 = .ok (.ireturn, 1) := by decide +kernel
theorem dX12_bet_0 : decode cX12_bet 0 = .ok (.aload_n 0, 1) := by decide +kernel
theorem dX12_bet_1 : decode cX12_bet 1 = .ok (.iload_n 1, 1) := by decide +kernel
theorem dX12_bet_2 : decode cX12_bet 2 = .ok (.invokevirtual 93, 3) := by decide +kernel
theorem dX12_bet_5 : decode cX12_bet 5 = .ok (.ifCond .ne 11, 3) := by decide +kernel
theorem dX12_bet_8 : decode cX12_bet 8 = .ok (.aload_n 0, 1) := by decide +kernel
theorem dX12_bet_9 : decode cX12_bet 9 = .ok (.iconst (-1), 1) := by decide +kernel
theorem dX12_bet_10 : decode cX12_bet 10 = .ok (.invokevirtual 47, 3) := by decide +kernel
theorem dX12_bet_13 : decode cX12_bet 13 = .ok (.goto 27, 3) := by decide +kernel
theorem dX12_bet_16 : decode cX12_bet 16 = .ok (.iload_n 2, 1) := by decide +kernel
theorem dX12_bet_17 : decode cX12_bet 17 = .ok (.bipush 7, 2) := by decide +kernel
theorem dX12_bet_19 : decode cX12_bet 19 = .ok (.invokestatic 31, 3) := by decide +kernel
theorem dX12_bet_22 : decode cX12_bet 22 = .ok (.ifCond .eq 12, 3) := by decide +kernel
theorem dX12_bet_25 : decode cX12_bet 25 = .ok (.aload_n 0, 1) := by decide +kernel
theorem dX12_bet_26 : decode cX12_bet 26 = .ok (.iload_n 1, 1) := by decide +kernel
theorem dX12_bet_27 : decode cX12_bet 27 = .ok (.iload_n 2, 1) := by decide +kernel
theorem dX12_bet_28 : decode cX12_bet 28 = .ok (.invokevirtual 96, 3) := by decide +kernel
theorem dX12_bet_31 : decode cX12_bet 31 = .ok (.goto 9, 3) := by decide +kernel
theorem dX12_bet_34 : decode cX12_bet 34 = .ok (.aload_n 0, 1) := by decide +kernel
theorem dX12_bet_35 : decode cX12_bet 35 = .ok (.bipush (-2), 2) := by decide +kernel
theorem dX12_bet_37 : decode cX12_bet 37 = .ok (.invokevirtual 47, 3) := by decide +kernel
theorem dX12_bet_40 : decode cX12_bet 40 = .ok (.ireturn, 1) := by decide +kernel
theorem dX12_set_0 : decode cX12_set 0 = .ok (.aload_n 0, 1) := by decide +kernel
theorem dX12_set_1 : decode cX12_set 1 = .ok (.iload_n 1, 1) := by decide +kernel
theorem dX12_set_2 : decode cX12_set 2 = .ok (.invokevirtual 93, 3) := by decide +kernel
theorem dX12_set_5 : decode cX12_set 5 = .ok (.ifCond .ne 7, 3) := by decide +kernel
theorem dX12_set_8 : decode cX12_set 8 = .ok (.iconst (-1), 1) := by decide +kernel
theorem dX12_set_9 : decode cX12_set 9 = .ok (.goto 40, 3) := by decide +kernel
theorem dX12_set_12 : decode cX12_set 12 = .ok (.iload_n 2, 1) := by decide +kernel
theorem dX12_set_13 : decode cX12_set 13 = .ok (.iconst 2, 1) := by decide +kernel
theorem dX12_set_14 : decode cX12_set 14 = .ok (.invokestatic 31, 3) := by decide +kernel
theorem dX12_set_17 : decode cX12_set 17 = .ok (.ifCond .ne 8, 3) := by decide +kernel
theorem dX12_set_20 : decode cX12_set 20 = .ok (.bipush (-2), 2) := by decide +kernel
theorem dX12_set_22 : decode cX12_set 22 = .ok (.goto 27, 3) := by decide +kernel
theorem dX12_set_25 : decode cX12_set 25 = .ok (.iload_n 3, 1) := by decide +kernel
theorem dX12_set_26 : decode cX12_set 26 = .ok (.iload_n 2, 1) := by decide +kernel
theorem dX12_set_27 : decode cX12_set 27 = .ok (.ifCond .ne 7, 3) := by decide +kernel
theorem dX12_set_30 : decode cX12_set 30 = .ok (.iconst 1, 1) := by decide +kernel
theorem dX12_set_31 : decode cX12_set 31 = .ok (.goto 4, 3) := by decide +kernel
theorem dX12_set_34 : decode cX12_set 34 = .ok (.iconst 0, 1) := by decide +kernel
theorem dX12_set_35 : decode cX12_set 35 = .ok (.iload_n 2, 1) := by decide +kernel
theorem dX12_set_36 : decode cX12_set 36 = .ok (.ifCond .ne 8, 3) := by decide +kernel
theorem dX12_set_39 : decode cX12_set 39 = .ok (.bipush 99, 2) := by decide +kernel
theorem dX12_set_41 : decode cX12_set 41 = .ok (.goto 5, 3) := by decide +kernel
theorem dX12_set_44 : decode cX12_set 44 = .ok (.bipush 9, 2) := by decide +kernel
theorem dX12_set_46 : decode cX12_set 46 = .ok (.invokestatic 39, 3) := by decide +kernel
theorem dX12_set_49 : decode cX12_set 49 = .ok (.istore 4, 2) := by decide +kernel
theorem dX12_set_51 : decode cX12_set 51 = .ok (.iload 4, 2) := by decide +kernel
theorem dX12_set_53 : decode cX12_set 53 = .ok (.ifCond .eq 10, 3) := by decide +kernel
theorem dX12_set_56 : decode cX12_set 56 = .ok (.aload_n 0, 1) := by decide +kernel
theorem dX12_set_57 : decode cX12_set 57 = .ok (.iload 4, 2) := by decide +kernel
theorem dX12_set_59 : decode cX12_set 59 = .ok (.invokevirtual 47, 3) := by decide +kernel
theorem dX12_set_62 : decode cX12_set 62 = .ok (.ireturn, 1) := by decide +kernel
theorem dX12_set_63 : decode cX12_set 63 = .ok (.aload_n 0, 1) := by decide +kernel
theorem dX12_set_64 : decode cX12_set 64 = .ok (.iload_n 1, 1) := by decide +kernel
theorem dX12_set_65 : decode cX12_set 65 = .ok (.iconst 3, 1) := by decide +kernel
theorem dX12_set_66 : decode cX12_set 66 = .ok (.iload_n 2, 1) := by decide +kernel
theorem dX12_set_67 : decode cX12_set 67 = .ok (.iadd, 1) := by decide +kernel
theorem dX12_set_68 : decode cX12_set 68 = .ok (.invokevirtual 96, 3) := by decide +kernel
theorem dX12_set_71 : decode cX12_set 71 = .ok (.istore 5, 2) := by decide +kernel
theorem dX12_set_73 : decode cX12_set 73 = .ok (.aload_n 0, 1) := by decide +kernel
theorem dX12_set_74 : decode cX12_set 74 = .ok (.getfield 13, 3) := by decide +kernel
theorem dX12_set_77 : decode cX12_set 77 = .ok (.bipush 10, 2) := by decide +kernel
theorem dX12_set_79 : decode cX12_set 79 = .ok (.bipush 7, 2) := by decide +kernel
theorem dX12_set_81 : decode cX12_set 81 = .ok (.iload_n 1, 1) := by decide +kernel
theorem dX12_set_82 : decode cX12_set 82 = .ok (.imul, 1) := by decide +kernel
theorem dX12_set_83 : decode cX12_set 83 = .ok (.iadd, 1) := by decide +kernel
theorem dX12_set_84 : decode cX12_set 84 = .ok (.iconst 3, 1) := by decide +kernel
theorem dX12_set_85 : decode cX12_set 85 = .ok (.iadd, 1) := by decide +kernel
theorem dX12_set_86 : decode cX12_set 86 = .ok (.iload_n 2, 1) := by decide +kernel
theorem dX12_set_87 : decode cX12_set 87 = .ok (.iadd, 1) := by decide +kernel
theorem dX12_set_88 : decode cX12_set 88 = .ok (.iload_n 3, 1) := by decide +kernel
theorem dX12_set_89 : decode cX12_set 89 = .ok (.iastore, 1) := by decide +kernel
theorem dX12_set_90 : decode cX12_set 90 = .ok (.iload 5, 2) := by decide +kernel
theorem dX12_set_92 : decode cX12_set 92 = .ok (.ireturn, 1) := by decide +kernel
theorem dX12_fund_0 : decode cX12_fund 0 = .ok (.iload_n 1, 1) := by decide +kernel
theorem dX12_fund_1 : decode cX12_fund 1 = .ok (.invokestatic 77, 3) := by decide +kernel
theorem dX12_fund_4 : decode cX12_fund 4 = .ok (.ifCond .eq 13, 3) := by decide +kernel
theorem dX12_fund_7 : decode cX12_fund 7 = .ok (.iload_n 2, 1) := by decide +kernel
theorem dX12_fund_8 : decode cX12_fund 8 = .ok (.iconst 0, 1) := by decide +kernel
theorem dX12_fund_9 : decode cX12_fund 9 = .ok (.bipush 99, 2) := by decide +kernel
theorem dX12_fund_11 : decode cX12_fund 11 = .ok (.invokestatic 39, 3) := by decide +kernel
theorem dX12_fund_14 : decode cX12_fund 14 = .ok (.goto 4, 3) := by decide +kernel
theorem dX12_fund_17 : decode cX12_fund 17 = .ok (.iconst (-1), 1) := by decide +kernel
theorem dX12_fund_18 : decode cX12_fund 18 = .ok (.istore_n 3, 1) := by decide +kernel
theorem dX12_fund_19 : decode cX12_fund 19 = .ok (.iload_n 3, 1) := by decide +kernel
theorem dX12_fund_20 : decode cX12_fund 20 = .ok (.ifCond .eq 9, 3) := by decide +kernel
theorem dX12_fund_23 : decode cX12_fund 23 = .ok (.aload_n 0, 1) := by decide +kernel
theorem dX12_fund_24 : decode cX12_fund 24 = .ok (.iload_n 3, 1) := by decide +kernel
theorem dX12_fund_25 : decode cX12_fund 25 = .ok (.invokevirtual 47, 3) := by decide +kernel
theorem dX12_fund_28 : decode cX12_fund 28 = .ok (.ireturn, 1) := by decide +kernel
theorem dX12_fund_29 : decode cX12_fund 29 = .ok (.aload_n 0, 1) := by decide +kernel
theorem dX12_fund_30 : decode cX12_fund 30 = .ok (.getfield 13, 3) := by decide +kernel
theorem dX12_fund_33 : decode cX12_fund 33 = .ok (.bipush 6, 2) := by decide +kernel
theorem dX12_fund_35 : decode cX12_fund 35 = .ok (.iload_n 1, 1) := by decide +kernel
theorem dX12_fund_36 : decode cX12_fund 36 = .ok (.iadd, 1) := by decide +kernel
theorem dX12_fund_37 : decode cX12_fund 37 = .ok (.iaload, 1) := by decide +kernel
theorem dX12_fund_38 : decode cX12_fund 38 = .ok (.istore 4, 2) := by decide +kernel
theorem dX12_fund_40 : decode cX12_fund 40 = .ok (.aload_n 0, 1) := by decide +kernel
theorem dX12_fund_41 : decode cX12_fund 41 = .ok (.getfield 13, 3) := by decide +kernel
theorem dX12_fund_44 : decode cX12_fund 44 = .ok (.bipush 6, 2) := by decide +kernel
theorem dX12_fund_46 : decode cX12_fund 46 = .ok (.iload_n 1, 1) := by decide +kernel
theorem dX12_fund_47 : decode cX12_fund 47 = .ok (.iadd, 1) := by decide +kernel
theorem dX12_fund_48 : decode cX12_fund 48 = .ok (.iload_n 2, 1) := by decide +kernel
theorem dX12_fund_49 : decode cX12_fund 49 = .ok (.iastore, 1) := by decide +kernel
theorem dX12_fund_50 : decode cX12_fund 50 = .ok (.iload 4, 2) := by decide +kernel
theorem dX12_fund_52 : decode cX12_fund 52 = .ok (.ireturn, 1) := by decide +kernel
theorem dX12_isSo_0 : decode cX12_isSo 0 = .ok (.iload_n 0, 1) := by decide +kernel
theorem dX12_isSo_1 : decode cX12_isSo 1 = .ok (.bipush 10, 2) := by decide +kernel
theorem dX12_isSo_3 : decode cX12_isSo 3 = .ok (.if_icmp .ge 20, 3) := by decide +kernel
theorem dX12_isSo_6 : decode cX12_isSo 6 = .ok (.iload_n 1, 1) := by decide +kernel
theorem dX12_isSo_7 : decode cX12_isSo 7 = .ok (.iload_n 0, 1) := by decide +kernel
theorem dX12_isSo_8 : decode cX12_isSo 8 = .ok (.ishr, 1) := by decide +kernel
theorem dX12_isSo_9 : decode cX12_isSo 9 = .ok (.iconst 1, 1) := by decide +kernel
theorem dX12_isSo_10 : decode cX12_isSo 10 = .ok (.iand, 1) := by decide +kernel
theorem dX12_isSo_11 : decode cX12_isSo 11 = .ok (.iconst 1, 1) := by decide +kernel
theorem dX12_isSo_12 : decode cX12_isSo 12 = .ok (.if_icmp .ne 7, 3) := by decide +kernel
theorem dX12_isSo_15 : decode cX12_isSo 15 = .ok (.iconst 1, 1) := by decide +kernel
theorem dX12_isSo_16 : decode cX12_isSo 16 = .ok (.goto 24, 3) := by decide +kernel
theorem dX12_isSo_19 : decode cX12_isSo 19 = .ok (.iconst 0, 1) := by decide +kernel
theorem dX12_isSo_20 : decode cX12_isSo 20 = .ok (.goto 20, 3) := by decide +kernel
theorem dX12_isSo_23 : decode cX12_isSo 23 = .ok (.iload_n 2, 1) := by decide +kernel
theorem dX12_isSo_24 : decode cX12_isSo 24 = .ok (.iload_n 0, 1) := by decide +kernel
theorem dX12_isSo_25 : decode cX12_isSo 25 = .ok (.bipush 10, 2) := by decide +kernel
theorem dX12_isSo_27 : decode cX12_isSo 27 = .ok (.isub, 1) := by decide +kernel
theorem dX12_isSo_28 : decode cX12_isSo 28 = .ok (.ishr, 1) := by decide +kernel
theorem dX12_isSo_29 : decode cX12_isSo 29 = .ok (.iconst 1, 1) := by decide +kernel
theorem dX12_isSo_30 : decode cX12_isSo 30 = .ok (.iand, 1) := by decide +kernel
theorem dX12_isSo_31 : decode cX12_isSo 31 = .ok (.iconst 1, 1) := by decide +kernel
theorem dX12_isSo_32 : decode cX12_isSo 32 = .ok (.if_icmp .ne 7, 3) := by decide +kernel
theorem dX12_isSo_35 : decode cX12_isSo 35 = .ok (.iconst 1, 1) := by decide +kernel
theorem dX12_isSo_36 : decode cX12_isSo 36 = .ok (.goto 4, 3) := by decide +kernel
theorem dX12_isSo_39 : decode cX12_isSo 39 = .ok (.iconst 0, 1) := by decide +kernel
theorem dX12_isSo_40 : decode cX12_isSo 40 = .ok (.ireturn, 1) := by decide +kernel
theorem dX12_isWonBy_0 : decode cX12_isWonBy 0 = .ok (.aload_n 0, 1) := by decide +kernel
theorem dX12_isWonBy_1 : decode cX12_isWonBy 1 = .ok (.iload_n 1, 1) := by decide +kernel
theorem dX12_isWonBy_2 : decode cX12_isWonBy 2 = .ok (.iconst 1, 1) := by decide +kernel
theorem dX12_isWonBy_3 : decode cX12_isWonBy 3 = .ok (.invokevirtual 96, 3) := by decide +kernel
theorem dX12_isWonBy_6 : decode cX12_isWonBy 6 = .ok (.iload_n 2, 1) := by decide +kernel
theorem dX12_isWonBy_7 : decode cX12_isWonBy 7 = .ok (.iload_n 3, 1) := by decide +kernel
theorem dX12_isWonBy_8 : decode cX12_isWonBy 8 = .ok (.invokestatic 100, 3) := by decide +kernel
theorem dX12_isWonBy_11 : decode cX12_isWonBy 11 = .ok (.istore 4, 2) := by decide +kernel
theorem dX12_isWonBy_13 : decode cX12_isWonBy 13 = .ok (.aload_n 0, 1) := by decide +kernel
theorem dX12_isWonBy_14 : decode cX12_isWonBy 14 = .ok (.iload_n 1, 1) := by decide +kernel
theorem dX12_isWonBy_15 : decode cX12_isWonBy 15 = .ok (.iconst 2, 1) := by decide +kernel
theorem dX12_isWonBy_16 : decode cX12_isWonBy 16 = .ok (.invokevirtual 96, 3) := by decide +kernel
theorem dX12_isWonBy_19 : decode cX12_isWonBy 19 = .ok (.iload_n 2, 1) := by decide +kernel
theorem dX12_isWonBy_20 : decode cX12_isWonBy 20 = .ok (.iload_n 3, 1) := by decide +kernel
theorem dX12_isWonBy_21 : decode cX12_isWonBy 21 = .ok (.invokestatic 100, 3) := by decide +kernel
theorem dX12_isWonBy_24 : decode cX12_isWonBy 24 = .ok (.istore 5, 2) := by decide +kernel
theorem dX12_isWonBy_26 : decode cX12_isWonBy 26 = .ok (.aload_n 0, 1) := by decide +kernel
theorem dX12_isWonBy_27 : decode cX12_isWonBy 27 = .ok (.iload_n 1, 1) := by decide +kernel
theorem dX12_isWonBy_28 : decode cX12_isWonBy 28 = .ok (.iconst 0, 1) := by decide +kernel
theorem dX12_isWonBy_29 : decode cX12_isWonBy 29 = .ok (.invokevirtual 96, 3) := by decide +kernel
theorem dX12_isWonBy_32 : decode cX12_isWonBy 32 = .ok (.tableswitch 108 1 5 #[36, 47, 63, 79, 92], 36) := by decide +kernel
theorem dX12_isWonBy_68 : decode cX12_isWonBy 68 = .ok (.iload 4, 2) := by decide +kernel
theorem dX12_isWonBy_70 : decode cX12_isWonBy 70 = .ok (.ifCond .ne 7, 3) := by decide +kernel
theorem dX12_isWonBy_73 : decode cX12_isWonBy 73 = .ok (.iconst 1, 1) := by decide +kernel
theorem dX12_isWonBy_74 : decode cX12_isWonBy 74 = .ok (.goto 4, 3) := by decide +kernel
theorem dX12_isWonBy_77 : decode cX12_isWonBy 77 = .ok (.iconst 0, 1) := by decide +kernel
theorem dX12_isWonBy_78 : decode cX12_isWonBy 78 = .ok (.ireturn, 1) := by decide +kernel
theorem dX12_isWonBy_79 : decode cX12_isWonBy 79 = .ok (.iload 4, 2) := by decide +kernel
theorem dX12_isWonBy_81 : decode cX12_isWonBy 81 = .ok (.ifCond .eq 12, 3) := by decide +kernel
theorem dX12_isWonBy_84 : decode cX12_isWonBy 84 = .ok (.iload 5, 2) := by decide +kernel
theorem dX12_isWonBy_86 : decode cX12_isWonBy 86 = .ok (.ifCond .eq 7, 3) := by decide +kernel
theorem dX12_isWonBy_89 : decode cX12_isWonBy 89 = .ok (.iconst 1, 1) := by decide +kernel
theorem dX12_isWonBy_90 : decode cX12_isWonBy 90 = .ok (.goto 4, 3) := by decide +kernel
theorem dX12_isWonBy_93 : decode cX12_isWonBy 93 = .ok (.iconst 0, 1) := by decide +kernel
theorem dX12_isWonBy_94 : decode cX12_isWonBy 94 = .ok (.ireturn, 1) := by decide +kernel
theorem dX12_isWonBy_95 : decode cX12_isWonBy 95 = .ok (.iload 4, 2) := by decide +kernel
theorem dX12_isWonBy_97 : decode cX12_isWonBy 97 = .ok (.ifCond .ne 8, 3) := by decide +kernel
theorem dX12_isWonBy_100 : decode cX12_isWonBy 100 = .ok (.iload 5, 2) := by decide +kernel
theorem dX12_isWonBy_102 : decode cX12_isWonBy 102 = .ok (.ifCond .eq 7, 3) := by decide +kernel
theorem dX12_isWonBy_105 : decode cX12_isWonBy 105 = .ok (.iconst 1, 1) := by decide +kernel
theorem dX12_isWonBy_106 : decode cX12_isWonBy 106 = .ok (.goto 4, 3) := by decide +kernel
theorem dX12_isWonBy_109 : decode cX12_isWonBy 109 = .ok (.iconst 0, 1) := by decide +kernel
theorem dX12_isWonBy_110 : decode cX12_isWonBy 110 = .ok (.ireturn, 1) := by decide +kernel
theorem dX12_isWonBy_111 : decode cX12_isWonBy 111 = .ok (.iload 4, 2) := by decide +kernel
theorem dX12_isWonBy_113 : decode cX12_isWonBy 113 = .ok (.iload 5, 2) := by decide +kernel
theorem dX12_isWonBy_115 : decode cX12_isWonBy 115 = .ok (.if_icmp .eq 7, 3) := by decide +kernel
theorem dX12_isWonBy_118 : decode cX12_isWonBy 118 = .ok (.iconst 1, 1) := by decide +kernel
theorem dX12_isWonBy_119 : decode cX12_isWonBy 119 = .ok (.goto 4, 3) := by decide +kernel
theorem dX12_isWonBy_122 : decode cX12_isWonBy 122 = .ok (.iconst 0, 1) := by decide +kernel
theorem dX12_isWonBy_123 : decode cX12_isWonBy 123 = .ok (.ireturn, 1) := by decide +kernel
theorem dX12_isWonBy_124 : decode cX12_isWonBy 124 = .ok (.iload 4, 2) := by decide +kernel
theorem dX12_isWonBy_126 : decode cX12_isWonBy 126 = .ok (.ifCond .ne 12, 3) := by decide +kernel
theorem dX12_isWonBy_129 : decode cX12_isWonBy 129 = .ok (.iload 5, 2) := by decide +kernel
theorem dX12_isWonBy_131 : decode cX12_isWonBy 131 = .ok (.ifCond .ne 7, 3) := by decide +kernel
theorem dX12_isWonBy_134 : decode cX12_isWonBy 134 = .ok (.iconst 1, 1) := by decide +kernel
theorem dX12_isWonBy_135 : decode cX12_isWonBy 135 = .ok (.goto 4, 3) := by decide +kernel
theorem dX12_isWonBy_138 : decode cX12_isWonBy 138 = .ok (.iconst 0, 1) := by decide +kernel
theorem dX12_isWonBy_139 : decode cX12_isWonBy 139 = .ok (.ireturn, 1) := by decide +kernel
theorem dX12_isWonBy_140 : decode cX12_isWonBy 140 = .ok (.iload 4, 2) := by decide +kernel
theorem dX12_isWonBy_142 : decode cX12_isWonBy 142 = .ok (.ireturn, 1) := by decide +kernel
theorem dX12_isWay_0 : decode cX12_isWay 0 = .ok (.iconst 0, 1) := by decide +kernel
theorem dX12_isWay_1 : decode cX12_isWay 1 = .ok (.istore_n 3, 1) := by decide +kernel
theorem dX12_isWay_2 : decode cX12_isWay 2 = .ok (.iload_n 3, 1) := by decide +kernel
theorem dX12_isWay_3 : decode cX12_isWay 3 = .ok (.aload_n 0, 1) := by decide +kernel
theorem dX12_isWay_4 : decode cX12_isWay 4 = .ok (.getfield 13, 3) := by decide +kernel
theorem dX12_isWay_7 : decode cX12_isWay 7 = .ok (.iconst 1, 1) := by decide +kernel
theorem dX12_isWay_8 : decode cX12_isWay 8 = .ok (.iaload, 1) := by decide +kernel
theorem dX12_isWay_9 : decode cX12_isWay 9 = .ok (.if_icmp .ge 35, 3) := by decide +kernel
theorem dX12_isWay_12 : decode cX12_isWay 12 = .ok (.aload_n 0, 1) := by decide +kernel
theorem dX12_isWay_13 : decode cX12_isWay 13 = .ok (.iload_n 3, 1) := by decide +kernel
theorem dX12_isWay_14 : decode cX12_isWay 14 = .ok (.iload_n 1, 1) := by decide +kernel
theorem dX12_isWay_15 : decode cX12_isWay 15 = .ok (.iload_n 2, 1) := by decide +kernel
theorem dX12_isWay_16 : decode cX12_isWay 16 = .ok (.invokevirtual 104, 3) := by decide +kernel
theorem dX12_isWay_19 : decode cX12_isWay 19 = .ok (.iload_n 2, 1) := by decide +kernel
theorem dX12_isWay_20 : decode cX12_isWay 20 = .ok (.iload_n 3, 1) := by decide +kernel
theorem dX12_isWay_21 : decode cX12_isWay 21 = .ok (.ishr, 1) := by decide +kernel
theorem dX12_isWay_22 : decode cX12_isWay 22 = .ok (.iconst 1, 1) := by decide +kernel
theorem dX12_isWay_23 : decode cX12_isWay 23 = .ok (.iand, 1) := by decide +kernel
theorem dX12_isWay_24 : decode cX12_isWay 24 = .ok (.iconst 1, 1) := by decide +kernel
theorem dX12_isWay_25 : decode cX12_isWay 25 = .ok (.if_icmp .ne 7, 3) := by decide +kernel
theorem dX12_isWay_28 : decode cX12_isWay 28 = .ok (.iconst 1, 1) := by decide +kernel
theorem dX12_isWay_29 : decode cX12_isWay 29 = .ok (.goto 4, 3) := by decide +kernel
theorem dX12_isWay_32 : decode cX12_isWay 32 = .ok (.iconst 0, 1) := by decide +kernel
theorem dX12_isWay_33 : decode cX12_isWay 33 = .ok (.if_icmp .eq 5, 3) := by decide +kernel
theorem dX12_isWay_36 : decode cX12_isWay 36 = .ok (.iconst 0, 1) := by decide +kernel
theorem dX12_isWay_37 : decode cX12_isWay 37 = .ok (.ireturn, 1) := by decide +kernel
theorem dX12_isWay_38 : decode cX12_isWay 38 = .ok (.iinc 3 1, 3) := by decide +kernel
theorem dX12_isWay_41 : decode cX12_isWay 41 = .ok (.goto (-39), 3) := by decide +kernel
theorem dX12_isWay_44 : decode cX12_isWay 44 = .ok (.iconst 1, 1) := by decide +kernel
theorem dX12_isWay_45 : decode cX12_isWay 45 = .ok (.ireturn, 1) := by decide +kernel
theorem dX12_findsWays_0 : decode cX12_findsWays 0 = .ok (.aload_n 0, 1) := by decide +kernel
theorem dX12_findsWays_1 : decode cX12_findsWays 1 = .ok (.iconst 0, 1) := by decide +kernel
theorem dX12_findsWays_2 : decode cX12_findsWays 2 = .ok (.putfield 107, 3) := by decide +kernel
theorem dX12_findsWays_5 : decode cX12_findsWays 5 = .ok (.aload_n 0, 1) := by decide +kernel
theorem dX12_findsWays_6 : decode cX12_findsWays 6 = .ok (.bipush (-9), 2) := by decide +kernel
theorem dX12_findsWays_8 : decode cX12_findsWays 8 = .ok (.putfield 110, 3) := by decide +kernel
theorem dX12_findsWays_11 : decode cX12_findsWays 11 = .ok (.aload_n 0, 1) := by decide +kernel
theorem dX12_findsWays_12 : decode cX12_findsWays 12 = .ok (.iconst 0, 1) := by decide +kernel
theorem dX12_findsWays_13 : decode cX12_findsWays 13 = .ok (.putfield 113, 3) := by decide +kernel
theorem dX12_findsWays_16 : decode cX12_findsWays 16 = .ok (.aload_n 0, 1) := by decide +kernel
theorem dX12_findsWays_17 : decode cX12_findsWays 17 = .ok (.iconst 1, 1) := by decide +kernel
theorem dX12_findsWays_18 : decode cX12_findsWays 18 = .ok (.aload_n 0, 1) := by decide +kernel
theorem dX12_findsWays_19 : decode cX12_findsWays 19 = .ok (.getfield 13, 3) := by decide +kernel
theorem dX12_findsWays_22 : decode cX12_findsWays 22 = .ok (.iconst 1, 1) := by decide +kernel
theorem dX12_findsWays_23 : decode cX12_findsWays 23 = .ok (.iaload, 1) := by decide +kernel
theorem dX12_findsWays_24 : decode cX12_findsWays 24 = .ok (.ishl, 1) := by decide +kernel
theorem dX12_findsWays_25 : decode cX12_findsWays 25 = .ok (.iconst 1, 1) := by decide +kernel
theorem dX12_findsWays_26 : decode cX12_findsWays 26 = .ok (.isub, 1) := by decide +kernel
theorem dX12_findsWays_27 : decode cX12_findsWays 27 = .ok (.putfield 116, 3) := by decide +kernel
theorem dX12_findsWays_30 : decode cX12_findsWays 30 = .ok (.iconst 0, 1) := by decide +kernel
theorem dX12_findsWays_31 : decode cX12_findsWays 31 = .ok (.istore_n 2, 1) := by decide +kernel
theorem dX12_findsWays_32 : decode cX12_findsWays 32 = .ok (.iload_n 2, 1) := by decide +kernel
theorem dX12_findsWays_33 : decode cX12_findsWays 33 = .ok (.iconst 1, 1) := by decide +kernel
theorem dX12_findsWays_34 : decode cX12_findsWays 34 = .ok (.aload_n 0, 1) := by decide +kernel
theorem dX12_findsWays_35 : decode cX12_findsWays 35 = .ok (.getfield 13, 3) := by decide +kernel
theorem dX12_findsWays_38 : decode cX12_findsWays 38 = .ok (.iconst 1, 1) := by decide +kernel
theorem dX12_findsWays_39 : decode cX12_findsWays 39 = .ok (.iaload, 1) := by decide +kernel
theorem dX12_findsWays_40 : decode cX12_findsWays 40 = .ok (.ishl, 1) := by decide +kernel
theorem dX12_findsWays_41 : decode cX12_findsWays 41 = .ok (.if_icmp .ge 70, 3) := by decide +kernel
theorem dX12_findsWays_44 : decode cX12_findsWays 44 = .ok (.aload_n 0, 1) := by decide +kernel
theorem dX12_findsWays_45 : decode cX12_findsWays 45 = .ok (.iload_n 1, 1) := by decide +kernel
theorem dX12_findsWays_46 : decode cX12_findsWays 46 = .ok (.iload_n 2, 1) := by decide +kernel
theorem dX12_findsWays_47 : decode cX12_findsWays 47 = .ok (.invokevirtual 119, 3) := by decide +kernel
theorem dX12_findsWays_50 : decode cX12_findsWays 50 = .ok (.ifCond .ne 6, 3) := by decide +kernel
theorem dX12_findsWays_53 : decode cX12_findsWays 53 = .ok (.goto 52, 3) := by decide +kernel
theorem dX12_findsWays_56 : decode cX12_findsWays 56 = .ok (.aload_n 0, 1) := by decide +kernel
theorem dX12_findsWays_57 : decode cX12_findsWays 57 = .ok (.dup, 1) := by decide +kernel
theorem dX12_findsWays_58 : decode cX12_findsWays 58 = .ok (.getfield 107, 3) := by decide +kernel
theorem dX12_findsWays_61 : decode cX12_findsWays 61 = .ok (.iconst 1, 1) := by decide +kernel
theorem dX12_findsWays_62 : decode cX12_findsWays 62 = .ok (.iadd, 1) := by decide +kernel
theorem dX12_findsWays_63 : decode cX12_findsWays 63 = .ok (.putfield 107, 3) := by decide +kernel
theorem dX12_findsWays_66 : decode cX12_findsWays 66 = .ok (.aload_n 0, 1) := by decide +kernel
theorem dX12_findsWays_67 : decode cX12_findsWays 67 = .ok (.aload_n 0, 1) := by decide +kernel
theorem dX12_findsWays_68 : decode cX12_findsWays 68 = .ok (.getfield 110, 3) := by decide +kernel
theorem dX12_findsWays_71 : decode cX12_findsWays 71 = .ok (.ifCond .ge 7, 3) := by decide +kernel
theorem dX12_findsWays_74 : decode cX12_findsWays 74 = .ok (.iload_n 2, 1) := by decide +kernel
theorem dX12_findsWays_75 : decode cX12_findsWays 75 = .ok (.goto 7, 3) := by decide +kernel
theorem dX12_findsWays_78 : decode cX12_findsWays 78 = .ok (.aload_n 0, 1) := by decide +kernel
theorem dX12_findsWays_79 : decode cX12_findsWays 79 = .ok (.getfield 110, 3) := by decide +kernel
theorem dX12_findsWays_82 : decode cX12_findsWays 82 = .ok (.putfield 110, 3) := by decide +kernel
theorem dX12_findsWays_85 : decode cX12_findsWays 85 = .ok (.aload_n 0, 1) := by decide +kernel
theorem dX12_findsWays_86 : decode cX12_findsWays 86 = .ok (.dup, 1) := by decide +kernel
theorem dX12_findsWays_87 : decode cX12_findsWays 87 = .ok (.getfield 113, 3) := by decide +kernel
theorem dX12_findsWays_90 : decode cX12_findsWays 90 = .ok (.iload_n 2, 1) := by decide +kernel
theorem dX12_findsWays_91 : decode cX12_findsWays 91 = .ok (.ior, 1) := by decide +kernel
theorem dX12_findsWays_92 : decode cX12_findsWays 92 = .ok (.putfield 113, 3) := by decide +kernel
theorem dX12_findsWays_95 : decode cX12_findsWays 95 = .ok (.aload_n 0, 1) := by decide +kernel
theorem dX12_findsWays_96 : decode cX12_findsWays 96 = .ok (.dup, 1) := by decide +kernel
theorem dX12_findsWays_97 : decode cX12_findsWays 97 = .ok (.getfield 116, 3) := by decide +kernel
theorem dX12_findsWays_100 : decode cX12_findsWays 100 = .ok (.iload_n 2, 1) := by decide +kernel
theorem dX12_findsWays_101 : decode cX12_findsWays 101 = .ok (.iand, 1) := by decide +kernel
theorem dX12_findsWays_102 : decode cX12_findsWays 102 = .ok (.putfield 116, 3) := by decide +kernel
theorem dX12_findsWays_105 : decode cX12_findsWays 105 = .ok (.iinc 2 1, 3) := by decide +kernel
theorem dX12_findsWays_108 : decode cX12_findsWays 108 = .ok (.goto (-76), 3) := by decide +kernel
theorem dX12_findsWays_111 : decode cX12_findsWays 111 = .ok (.return_, 1) := by decide +kernel
theorem dX12_ways_0 : decode cX12_ways 0 = .ok (.aload_n 0, 1) := by decide +kernel
theorem dX12_ways_1 : decode cX12_ways 1 = .ok (.iload_n 1, 1) := by decide +kernel
theorem dX12_ways_2 : decode cX12_ways 2 = .ok (.invokevirtual 122, 3) := by decide +kernel
theorem dX12_ways_5 : decode cX12_ways 5 = .ok (.ifCond .ne 7, 3) := by decide +kernel
theorem dX12_ways_8 : decode cX12_ways 8 = .ok (.iconst (-1), 1) := by decide +kernel
theorem dX12_ways_9 : decode cX12_ways 9 = .ok (.goto 17, 3) := by decide +kernel
theorem dX12_ways_12 : decode cX12_ways 12 = .ok (.iload_n 2, 1) := by decide +kernel
theorem dX12_ways_13 : decode cX12_ways 13 = .ok (.iconst 2, 1) := by decide +kernel
theorem dX12_ways_14 : decode cX12_ways 14 = .ok (.invokestatic 31, 3) := by decide +kernel
theorem dX12_ways_17 : decode cX12_ways 17 = .ok (.ifCond .eq 7, 3) := by decide +kernel
theorem dX12_ways_20 : decode cX12_ways 20 = .ok (.iconst 0, 1) := by decide +kernel
theorem dX12_ways_21 : decode cX12_ways 21 = .ok (.goto 5, 3) := by decide +kernel
theorem dX12_ways_24 : decode cX12_ways 24 = .ok (.bipush (-2), 2) := by decide +kernel
theorem dX12_ways_26 : decode cX12_ways 26 = .ok (.istore_n 3, 1) := by decide +kernel
theorem dX12_ways_27 : decode cX12_ways 27 = .ok (.iload_n 3, 1) := by decide +kernel
theorem dX12_ways_28 : decode cX12_ways 28 = .ok (.ifCond .eq 9, 3) := by decide +kernel
theorem dX12_ways_31 : decode cX12_ways 31 = .ok (.aload_n 0, 1) := by decide +kernel
theorem dX12_ways_32 : decode cX12_ways 32 = .ok (.iload_n 3, 1) := by decide +kernel
theorem dX12_ways_33 : decode cX12_ways 33 = .ok (.invokevirtual 47, 3) := by decide +kernel
theorem dX12_ways_36 : decode cX12_ways 36 = .ok (.ireturn, 1) := by decide +kernel
theorem dX12_ways_37 : decode cX12_ways 37 = .ok (.aload_n 0, 1) := by decide +kernel
theorem dX12_ways_38 : decode cX12_ways 38 = .ok (.iload_n 1, 1) := by decide +kernel
theorem dX12_ways_39 : decode cX12_ways 39 = .ok (.invokevirtual 125, 3) := by decide +kernel
theorem dX12_ways_42 : decode cX12_ways 42 = .ok (.iload_n 2, 1) := by decide +kernel
theorem dX12_ways_43 : decode cX12_ways 43 = .ok (.ifCond .ne 10, 3) := by decide +kernel
theorem dX12_ways_46 : decode cX12_ways 46 = .ok (.aload_n 0, 1) := by decide +kernel
theorem dX12_ways_47 : decode cX12_ways 47 = .ok (.getfield 107, 3) := by decide +kernel
theorem dX12_ways_50 : decode cX12_ways 50 = .ok (.goto 7, 3) := by decide +kernel
theorem dX12_ways_53 : decode cX12_ways 53 = .ok (.aload_n 0, 1) := by decide +kernel
theorem dX12_ways_54 : decode cX12_ways 54 = .ok (.getfield 110, 3) := by decide +kernel
theorem dX12_ways_57 : decode cX12_ways 57 = .ok (.ireturn, 1) := by decide +kernel
theorem dX12_standingOf_0 : decode cX12_standingOf 0 = .ok (.aload_n 0, 1) := by decide +kernel
theorem dX12_standingOf_1 : decode cX12_standingOf 1 = .ok (.getfield 107, 3) := by decide +kernel
theorem dX12_standingOf_4 : decode cX12_standingOf 4 = .ok (.ifCond .ne 7, 3) := by decide +kernel
theorem dX12_standingOf_7 : decode cX12_standingOf 7 = .ok (.iconst 2, 1) := by decide +kernel
theorem dX12_standingOf_8 : decode cX12_standingOf 8 = .ok (.goto 35, 3) := by decide +kernel
theorem dX12_standingOf_11 : decode cX12_standingOf 11 = .ok (.aload_n 0, 1) := by decide +kernel
theorem dX12_standingOf_12 : decode cX12_standingOf 12 = .ok (.getfield 116, 3) := by decide +kernel
theorem dX12_standingOf_15 : decode cX12_standingOf 15 = .ok (.iload_n 1, 1) := by decide +kernel
theorem dX12_standingOf_16 : decode cX12_standingOf 16 = .ok (.ishr, 1) := by decide +kernel
theorem dX12_standingOf_17 : decode cX12_standingOf 17 = .ok (.iconst 1, 1) := by decide +kernel
theorem dX12_standingOf_18 : decode cX12_standingOf 18 = .ok (.iand, 1) := by decide +kernel
theorem dX12_standingOf_19 : decode cX12_standingOf 19 = .ok (.iconst 1, 1) := by decide +kernel
theorem dX12_standingOf_20 : decode cX12_standingOf 20 = .ok (.if_icmp .ne 7, 3) := by decide +kernel
theorem dX12_standingOf_23 : decode cX12_standingOf 23 = .ok (.iconst 1, 1) := by decide +kernel
theorem dX12_standingOf_24 : decode cX12_standingOf 24 = .ok (.goto 19, 3) := by decide +kernel
theorem dX12_standingOf_27 : decode cX12_standingOf 27 = .ok (.aload_n 0, 1) := by decide +kernel
theorem dX12_standingOf_28 : decode cX12_standingOf 28 = .ok (.getfield 113, 3) := by decide +kernel
theorem dX12_standingOf_31 : decode cX12_standingOf 31 = .ok (.iload_n 1, 1) := by decide +kernel
theorem dX12_standingOf_32 : decode cX12_standingOf 32 = .ok (.ishr, 1) := by decide +kernel
theorem dX12_standingOf_33 : decode cX12_standingOf 33 = .ok (.iconst 1, 1) := by decide +kernel
theorem dX12_standingOf_34 : decode cX12_standingOf 34 = .ok (.iand, 1) := by decide +kernel
theorem dX12_standingOf_35 : decode cX12_standingOf 35 = .ok (.ifCond .ne 7, 3) := by decide +kernel
theorem dX12_standingOf_38 : decode cX12_standingOf 38 = .ok (.iconst 0, 1) := by decide +kernel
theorem dX12_standingOf_39 : decode cX12_standingOf 39 = .ok (.goto 4, 3) := by decide +kernel
theorem dX12_standingOf_42 : decode cX12_standingOf 42 = .ok (.iconst 2, 1) := by decide +kernel
theorem dX12_standingOf_43 : decode cX12_standingOf 43 = .ok (.ireturn, 1) := by decide +kernel
theorem dX12_standing_0 : decode cX12_standing 0 = .ok (.aload_n 0, 1) := by decide +kernel
theorem dX12_standing_1 : decode cX12_standing 1 = .ok (.iload_n 1, 1) := by decide +kernel
theorem dX12_standing_2 : decode cX12_standing 2 = .ok (.invokevirtual 93, 3) := by decide +kernel
theorem dX12_standing_5 : decode cX12_standing 5 = .ok (.ifCond .eq 11, 3) := by decide +kernel
theorem dX12_standing_8 : decode cX12_standing 8 = .ok (.aload_n 0, 1) := by decide +kernel
theorem dX12_standing_9 : decode cX12_standing 9 = .ok (.iload_n 2, 1) := by decide +kernel
theorem dX12_standing_10 : decode cX12_standing 10 = .ok (.invokevirtual 122, 3) := by decide +kernel
theorem dX12_standing_13 : decode cX12_standing 13 = .ok (.ifCond .ne 9, 3) := by decide +kernel
theorem dX12_standing_16 : decode cX12_standing 16 = .ok (.aload_n 0, 1) := by decide +kernel
theorem dX12_standing_17 : decode cX12_standing 17 = .ok (.iconst (-1), 1) := by decide +kernel
theorem dX12_standing_18 : decode cX12_standing 18 = .ok (.invokevirtual 47, 3) := by decide +kernel
theorem dX12_standing_21 : decode cX12_standing 21 = .ok (.ireturn, 1) := by decide +kernel
theorem dX12_standing_22 : decode cX12_standing 22 = .ok (.aload_n 0, 1) := by decide +kernel
theorem dX12_standing_23 : decode cX12_standing 23 = .ok (.iload_n 2, 1) := by decide +kernel
theorem dX12_standing_24 : decode cX12_standing 24 = .ok (.invokevirtual 125, 3) := by decide +kernel
theorem dX12_standing_27 : decode cX12_standing 27 = .ok (.aload_n 0, 1) := by decide +kernel
theorem dX12_standing_28 : decode cX12_standing 28 = .ok (.iload_n 1, 1) := by decide +kernel
theorem dX12_standing_29 : decode cX12_standing 29 = .ok (.invokevirtual 129, 3) := by decide +kernel
theorem dX12_standing_32 : decode cX12_standing 32 = .ok (.ireturn, 1) := by decide +kernel
theorem dX12_purseOf_0 : decode cX12_purseOf 0 = .ok (.aload_n 0, 1) := by decide +kernel
theorem dX12_purseOf_1 : decode cX12_purseOf 1 = .ok (.iload_n 2, 1) := by decide +kernel
theorem dX12_purseOf_2 : decode cX12_purseOf 2 = .ok (.invokevirtual 125, 3) := by decide +kernel
theorem dX12_purseOf_5 : decode cX12_purseOf 5 = .ok (.iconst 0, 1) := by decide +kernel
theorem dX12_purseOf_6 : decode cX12_purseOf 6 = .ok (.istore_n 3, 1) := by decide +kernel
theorem dX12_purseOf_7 : decode cX12_purseOf 7 = .ok (.iconst 0, 1) := by decide +kernel
theorem dX12_purseOf_8 : decode cX12_purseOf 8 = .ok (.istore 4, 2) := by decide +kernel
theorem dX12_purseOf_10 : decode cX12_purseOf 10 = .ok (.iload 4, 2) := by decide +kernel
theorem dX12_purseOf_12 : decode cX12_purseOf 12 = .ok (.aload_n 0, 1) := by decide +kernel
theorem dX12_purseOf_13 : decode cX12_purseOf 13 = .ok (.getfield 13, 3) := by decide +kernel
theorem dX12_purseOf_16 : decode cX12_purseOf 16 = .ok (.iconst 1, 1) := by decide +kernel
theorem dX12_purseOf_17 : decode cX12_purseOf 17 = .ok (.iaload, 1) := by decide +kernel
theorem dX12_purseOf_18 : decode cX12_purseOf 18 = .ok (.if_icmp .ge 101, 3) := by decide +kernel
theorem dX12_purseOf_21 : decode cX12_purseOf 21 = .ok (.aload_n 0, 1) := by decide +kernel
theorem dX12_purseOf_22 : decode cX12_purseOf 22 = .ok (.iload 4, 2) := by decide +kernel
theorem dX12_purseOf_24 : decode cX12_purseOf 24 = .ok (.iconst 5, 1) := by decide +kernel
theorem dX12_purseOf_25 : decode cX12_purseOf 25 = .ok (.invokevirtual 96, 3) := by decide +kernel
theorem dX12_purseOf_28 : decode cX12_purseOf 28 = .ok (.iload_n 1, 1) := by decide +kernel
theorem dX12_purseOf_29 : decode cX12_purseOf 29 = .ok (.if_icmp .ne 7, 3) := by decide +kernel
theorem dX12_purseOf_32 : decode cX12_purseOf 32 = .ok (.iconst 1, 1) := by decide +kernel
theorem dX12_purseOf_33 : decode cX12_purseOf 33 = .ok (.goto 20, 3) := by decide +kernel
theorem dX12_purseOf_36 : decode cX12_purseOf 36 = .ok (.aload_n 0, 1) := by decide +kernel
theorem dX12_purseOf_37 : decode cX12_purseOf 37 = .ok (.iload 4, 2) := by decide +kernel
theorem dX12_purseOf_39 : decode cX12_purseOf 39 = .ok (.bipush 6, 2) := by decide +kernel
theorem dX12_purseOf_41 : decode cX12_purseOf 41 = .ok (.invokevirtual 96, 3) := by decide +kernel
theorem dX12_purseOf_44 : decode cX12_purseOf 44 = .ok (.iload_n 1, 1) := by decide +kernel
theorem dX12_purseOf_45 : decode cX12_purseOf 45 = .ok (.if_icmp .ne 7, 3) := by decide +kernel
theorem dX12_purseOf_48 : decode cX12_purseOf 48 = .ok (.iconst (-1), 1) := by decide +kernel
theorem dX12_purseOf_49 : decode cX12_purseOf 49 = .ok (.goto 4, 3) := by decide +kernel
theorem dX12_purseOf_52 : decode cX12_purseOf 52 = .ok (.iconst 0, 1) := by decide +kernel
theorem dX12_purseOf_53 : decode cX12_purseOf 53 = .ok (.istore 5, 2) := by decide +kernel
theorem dX12_purseOf_55 : decode cX12_purseOf 55 = .ok (.aload_n 0, 1) := by decide +kernel
theorem dX12_purseOf_56 : decode cX12_purseOf 56 = .ok (.iload 4, 2) := by decide +kernel
theorem dX12_purseOf_58 : decode cX12_purseOf 58 = .ok (.invokevirtual 129, 3) := by decide +kernel
theorem dX12_purseOf_61 : decode cX12_purseOf 61 = .ok (.istore 6, 2) := by decide +kernel
theorem dX12_purseOf_63 : decode cX12_purseOf 63 = .ok (.iload_n 3, 1) := by decide +kernel
theorem dX12_purseOf_64 : decode cX12_purseOf 64 = .ok (.iload 6, 2) := by decide +kernel
theorem dX12_purseOf_66 : decode cX12_purseOf 66 = .ok (.iconst 1, 1) := by decide +kernel
theorem dX12_purseOf_67 : decode cX12_purseOf 67 = .ok (.if_icmp .ne 24, 3) := by decide +kernel
theorem dX12_purseOf_70 : decode cX12_purseOf 70 = .ok (.iload 5, 2) := by decide +kernel
theorem dX12_purseOf_72 : decode cX12_purseOf 72 = .ok (.aload_n 0, 1) := by decide +kernel
theorem dX12_purseOf_73 : decode cX12_purseOf 73 = .ok (.iload 4, 2) := by decide +kernel
theorem dX12_purseOf_75 : decode cX12_purseOf 75 = .ok (.iconst 3, 1) := by decide +kernel
theorem dX12_purseOf_76 : decode cX12_purseOf 76 = .ok (.invokevirtual 96, 3) := by decide +kernel
theorem dX12_purseOf_79 : decode cX12_purseOf 79 = .ok (.imul, 1) := by decide +kernel
theorem dX12_purseOf_80 : decode cX12_purseOf 80 = .ok (.aload_n 0, 1) := by decide +kernel
theorem dX12_purseOf_81 : decode cX12_purseOf 81 = .ok (.iload 4, 2) := by decide +kernel
theorem dX12_purseOf_83 : decode cX12_purseOf 83 = .ok (.iconst 4, 1) := by decide +kernel
theorem dX12_purseOf_84 : decode cX12_purseOf 84 = .ok (.invokevirtual 96, 3) := by decide +kernel
theorem dX12_purseOf_87 : decode cX12_purseOf 87 = .ok (.imul, 1) := by decide +kernel
theorem dX12_purseOf_88 : decode cX12_purseOf 88 = .ok (.goto 23, 3) := by decide +kernel
theorem dX12_purseOf_91 : decode cX12_purseOf 91 = .ok (.iload 6, 2) := by decide +kernel
theorem dX12_purseOf_93 : decode cX12_purseOf 93 = .ok (.ifCond .ne 17, 3) := by decide +kernel
theorem dX12_purseOf_96 : decode cX12_purseOf 96 = .ok (.iload 5, 2) := by decide +kernel
theorem dX12_purseOf_98 : decode cX12_purseOf 98 = .ok (.ineg, 1) := by decide +kernel
theorem dX12_purseOf_99 : decode cX12_purseOf 99 = .ok (.aload_n 0, 1) := by decide +kernel
theorem dX12_purseOf_100 : decode cX12_purseOf 100 = .ok (.iload 4, 2) := by decide +kernel
theorem dX12_purseOf_102 : decode cX12_purseOf 102 = .ok (.iconst 3, 1) := by decide +kernel
theorem dX12_purseOf_103 : decode cX12_purseOf 103 = .ok (.invokevirtual 96, 3) := by decide +kernel
theorem dX12_purseOf_106 : decode cX12_purseOf 106 = .ok (.imul, 1) := by decide +kernel
theorem dX12_purseOf_107 : decode cX12_purseOf 107 = .ok (.goto 4, 3) := by decide +kernel
theorem dX12_purseOf_110 : decode cX12_purseOf 110 = .ok (.iconst 0, 1) := by decide +kernel
theorem dX12_purseOf_111 : decode cX12_purseOf 111 = .ok (.iadd, 1) := by decide +kernel
theorem dX12_purseOf_112 : decode cX12_purseOf 112 = .ok (.istore_n 3, 1) := by decide +kernel
theorem dX12_purseOf_113 : decode cX12_purseOf 113 = .ok (.iinc 4 1, 3) := by decide +kernel
theorem dX12_purseOf_116 : decode cX12_purseOf 116 = .ok (.goto (-106), 3) := by decide +kernel
theorem dX12_purseOf_119 : decode cX12_purseOf 119 = .ok (.iload_n 3, 1) := by decide +kernel
theorem dX12_purseOf_120 : decode cX12_purseOf 120 = .ok (.ireturn, 1) := by decide +kernel
theorem dX12_purse_0 : decode cX12_purse 0 = .ok (.iload_n 1, 1) := by decide +kernel
theorem dX12_purse_1 : decode cX12_purse 1 = .ok (.invokestatic 77, 3) := by decide +kernel
theorem dX12_purse_4 : decode cX12_purse 4 = .ok (.ifCond .eq 20, 3) := by decide +kernel
theorem dX12_purse_7 : decode cX12_purse 7 = .ok (.aload_n 0, 1) := by decide +kernel
theorem dX12_purse_8 : decode cX12_purse 8 = .ok (.iload_n 2, 1) := by decide +kernel
theorem dX12_purse_9 : decode cX12_purse 9 = .ok (.invokevirtual 122, 3) := by decide +kernel
theorem dX12_purse_12 : decode cX12_purse 12 = .ok (.ifCond .eq 12, 3) := by decide +kernel
theorem dX12_purse_15 : decode cX12_purse 15 = .ok (.aload_n 0, 1) := by decide +kernel
theorem dX12_purse_16 : decode cX12_purse 16 = .ok (.iload_n 1, 1) := by decide +kernel
theorem dX12_purse_17 : decode cX12_purse 17 = .ok (.iload_n 2, 1) := by decide +kernel
theorem dX12_purse_18 : decode cX12_purse 18 = .ok (.invokevirtual 132, 3) := by decide +kernel
theorem dX12_purse_21 : decode cX12_purse 21 = .ok (.goto 11, 3) := by decide +kernel
theorem dX12_purse_24 : decode cX12_purse 24 = .ok (.ldc 135, 2) := by decide +kernel
theorem dX12_purse_26 : decode cX12_purse 26 = .ok (.aload_n 0, 1) := by decide +kernel
theorem dX12_purse_27 : decode cX12_purse 27 = .ok (.iconst (-1), 1) := by decide +kernel
theorem dX12_purse_28 : decode cX12_purse 28 = .ok (.invokevirtual 47, 3) := by decide +kernel
theorem dX12_purse_31 : decode cX12_purse 31 = .ok (.isub, 1) := by decide +kernel
theorem dX12_purse_32 : decode cX12_purse 32 = .ok (.ireturn, 1) := by decide +kernel
theorem dX12_weightOf_0 : decode cX12_weightOf 0 = .ok (.lconst 1, 1) := by decide +kernel
theorem dX12_weightOf_1 : decode cX12_weightOf 1 = .ok (.lstore_n 2, 1) := by decide +kernel
theorem dX12_weightOf_2 : decode cX12_weightOf 2 = .ok (.iconst 0, 1) := by decide +kernel
theorem dX12_weightOf_3 : decode cX12_weightOf 3 = .ok (.istore 4, 2) := by decide +kernel
theorem dX12_weightOf_5 : decode cX12_weightOf 5 = .ok (.iload 4, 2) := by decide +kernel
theorem dX12_weightOf_7 : decode cX12_weightOf 7 = .ok (.aload_n 0, 1) := by decide +kernel
theorem dX12_weightOf_8 : decode cX12_weightOf 8 = .ok (.getfield 13, 3) := by decide +kernel
theorem dX12_weightOf_11 : decode cX12_weightOf 11 = .ok (.iconst 0, 1) := by decide +kernel
theorem dX12_weightOf_12 : decode cX12_weightOf 12 = .ok (.iaload, 1) := by decide +kernel
theorem dX12_weightOf_13 : decode cX12_weightOf 13 = .ok (.if_icmp .ge 48, 3) := by decide +kernel
theorem dX12_weightOf_16 : decode cX12_weightOf 16 = .ok (.lload_n 2, 1) := by decide +kernel
theorem dX12_weightOf_17 : decode cX12_weightOf 17 = .ok (.iload_n 1, 1) := by decide +kernel
theorem dX12_weightOf_18 : decode cX12_weightOf 18 = .ok (.iload 4, 2) := by decide +kernel
theorem dX12_weightOf_20 : decode cX12_weightOf 20 = .ok (.ishr, 1) := by decide +kernel
theorem dX12_weightOf_21 : decode cX12_weightOf 21 = .ok (.iconst 1, 1) := by decide +kernel
theorem dX12_weightOf_22 : decode cX12_weightOf 22 = .ok (.iand, 1) := by decide +kernel
theorem dX12_weightOf_23 : decode cX12_weightOf 23 = .ok (.iconst 1, 1) := by decide +kernel
theorem dX12_weightOf_24 : decode cX12_weightOf 24 = .ok (.if_icmp .ne 16, 3) := by decide +kernel
theorem dX12_weightOf_27 : decode cX12_weightOf 27 = .ok (.aload_n 0, 1) := by decide +kernel
theorem dX12_weightOf_28 : decode cX12_weightOf 28 = .ok (.getfield 13, 3) := by decide +kernel
theorem dX12_weightOf_31 : decode cX12_weightOf 31 = .ok (.iconst 2, 1) := by decide +kernel
theorem dX12_weightOf_32 : decode cX12_weightOf 32 = .ok (.iload 4, 2) := by decide +kernel
theorem dX12_weightOf_34 : decode cX12_weightOf 34 = .ok (.iadd, 1) := by decide +kernel
theorem dX12_weightOf_35 : decode cX12_weightOf 35 = .ok (.iaload, 1) := by decide +kernel
theorem dX12_weightOf_36 : decode cX12_weightOf 36 = .ok (.i2l, 1) := by decide +kernel
theorem dX12_weightOf_37 : decode cX12_weightOf 37 = .ok (.goto 16, 3) := by decide +kernel
theorem dX12_weightOf_40 : decode cX12_weightOf 40 = .ok (.bipush 100, 2) := by decide +kernel
theorem dX12_weightOf_42 : decode cX12_weightOf 42 = .ok (.aload_n 0, 1) := by decide +kernel
theorem dX12_weightOf_43 : decode cX12_weightOf 43 = .ok (.getfield 13, 3) := by decide +kernel
theorem dX12_weightOf_46 : decode cX12_weightOf 46 = .ok (.iconst 2, 1) := by decide +kernel
theorem dX12_weightOf_47 : decode cX12_weightOf 47 = .ok (.iload 4, 2) := by decide +kernel
theorem dX12_weightOf_49 : decode cX12_weightOf 49 = .ok (.iadd, 1) := by decide +kernel
theorem dX12_weightOf_50 : decode cX12_weightOf 50 = .ok (.iaload, 1) := by decide +kernel
theorem dX12_weightOf_51 : decode cX12_weightOf 51 = .ok (.isub, 1) := by decide +kernel
theorem dX12_weightOf_52 : decode cX12_weightOf 52 = .ok (.i2l, 1) := by decide +kernel
theorem dX12_weightOf_53 : decode cX12_weightOf 53 = .ok (.lmul, 1) := by decide +kernel
theorem dX12_weightOf_54 : decode cX12_weightOf 54 = .ok (.lstore_n 2, 1) := by decide +kernel
theorem dX12_weightOf_55 : decode cX12_weightOf 55 = .ok (.iinc 4 1, 3) := by decide +kernel
theorem dX12_weightOf_58 : decode cX12_weightOf 58 = .ok (.goto (-53), 3) := by decide +kernel
theorem dX12_weightOf_61 : decode cX12_weightOf 61 = .ok (.lload_n 2, 1) := by decide +kernel
theorem dX12_weightOf_62 : decode cX12_weightOf 62 = .ok (.lreturn, 1) := by decide +kernel
theorem dX12_wholeWeight_0 : decode cX12_wholeWeight 0 = .ok (.lconst 1, 1) := by decide +kernel
theorem dX12_wholeWeight_1 : decode cX12_wholeWeight 1 = .ok (.lstore_n 1, 1) := by decide +kernel
theorem dX12_wholeWeight_2 : decode cX12_wholeWeight 2 = .ok (.iconst 0, 1) := by decide +kernel
theorem dX12_wholeWeight_3 : decode cX12_wholeWeight 3 = .ok (.istore_n 3, 1) := by decide +kernel
theorem dX12_wholeWeight_4 : decode cX12_wholeWeight 4 = .ok (.iload_n 3, 1) := by decide +kernel
theorem dX12_wholeWeight_5 : decode cX12_wholeWeight 5 = .ok (.aload_n 0, 1) := by decide +kernel
theorem dX12_wholeWeight_6 : decode cX12_wholeWeight 6 = .ok (.getfield 13, 3) := by decide +kernel
theorem dX12_wholeWeight_9 : decode cX12_wholeWeight 9 = .ok (.iconst 0, 1) := by decide +kernel
theorem dX12_wholeWeight_10 : decode cX12_wholeWeight 10 = .ok (.iaload, 1) := by decide +kernel
theorem dX12_wholeWeight_11 : decode cX12_wholeWeight 11 = .ok (.if_icmp .ge 15, 3) := by decide +kernel
theorem dX12_wholeWeight_14 : decode cX12_wholeWeight 14 = .ok (.lload_n 1, 1) := by decide +kernel
theorem dX12_wholeWeight_15 : decode cX12_wholeWeight 15 = .ok (.ldc2_w 136, 3) := by decide +kernel
theorem dX12_wholeWeight_18 : decode cX12_wholeWeight 18 = .ok (.lmul, 1) := by decide +kernel
theorem dX12_wholeWeight_19 : decode cX12_wholeWeight 19 = .ok (.lstore_n 1, 1) := by decide +kernel
theorem dX12_wholeWeight_20 : decode cX12_wholeWeight 20 = .ok (.iinc 3 1, 3) := by decide +kernel
theorem dX12_wholeWeight_23 : decode cX12_wholeWeight 23 = .ok (.goto (-19), 3) := by decide +kernel
theorem dX12_wholeWeight_26 : decode cX12_wholeWeight 26 = .ok (.lload_n 1, 1) := by decide +kernel
theorem dX12_wholeWeight_27 : decode cX12_wholeWeight 27 = .ok (.lreturn, 1) := by decide +kernel
theorem dX12_meanOf_0 : decode cX12_meanOf 0 = .ok (.lconst 0, 1) := by decide +kernel
theorem dX12_meanOf_1 : decode cX12_meanOf 1 = .ok (.lstore_n 2, 1) := by decide +kernel
theorem dX12_meanOf_2 : decode cX12_meanOf 2 = .ok (.iconst 0, 1) := by decide +kernel
theorem dX12_meanOf_3 : decode cX12_meanOf 3 = .ok (.istore 4, 2) := by decide +kernel
theorem dX12_meanOf_5 : decode cX12_meanOf 5 = .ok (.iload 4, 2) := by decide +kernel
theorem dX12_meanOf_7 : decode cX12_meanOf 7 = .ok (.aload_n 0, 1) := by decide +kernel
theorem dX12_meanOf_8 : decode cX12_meanOf 8 = .ok (.invokevirtual 35, 3) := by decide +kernel
theorem dX12_meanOf_11 : decode cX12_meanOf 11 = .ok (.if_icmp .ge 27, 3) := by decide +kernel
theorem dX12_meanOf_14 : decode cX12_meanOf 14 = .ok (.lload_n 2, 1) := by decide +kernel
theorem dX12_meanOf_15 : decode cX12_meanOf 15 = .ok (.aload_n 0, 1) := by decide +kernel
theorem dX12_meanOf_16 : decode cX12_meanOf 16 = .ok (.iload 4, 2) := by decide +kernel
theorem dX12_meanOf_18 : decode cX12_meanOf 18 = .ok (.invokevirtual 138, 3) := by decide +kernel
theorem dX12_meanOf_21 : decode cX12_meanOf 21 = .ok (.aload_n 0, 1) := by decide +kernel
theorem dX12_meanOf_22 : decode cX12_meanOf 22 = .ok (.iload_n 1, 1) := by decide +kernel
theorem dX12_meanOf_23 : decode cX12_meanOf 23 = .ok (.iload 4, 2) := by decide +kernel
theorem dX12_meanOf_25 : decode cX12_meanOf 25 = .ok (.invokevirtual 132, 3) := by decide +kernel
theorem dX12_meanOf_28 : decode cX12_meanOf 28 = .ok (.i2l, 1) := by decide +kernel
theorem dX12_meanOf_29 : decode cX12_meanOf 29 = .ok (.lmul, 1) := by decide +kernel
theorem dX12_meanOf_30 : decode cX12_meanOf 30 = .ok (.ladd, 1) := by decide +kernel
theorem dX12_meanOf_31 : decode cX12_meanOf 31 = .ok (.lstore_n 2, 1) := by decide +kernel
theorem dX12_meanOf_32 : decode cX12_meanOf 32 = .ok (.iinc 4 1, 3) := by decide +kernel
theorem dX12_meanOf_35 : decode cX12_meanOf 35 = .ok (.goto (-30), 3) := by decide +kernel
theorem dX12_meanOf_38 : decode cX12_meanOf 38 = .ok (.ldc2_w 136, 3) := by decide +kernel
theorem dX12_meanOf_41 : decode cX12_meanOf 41 = .ok (.lload_n 2, 1) := by decide +kernel
theorem dX12_meanOf_42 : decode cX12_meanOf 42 = .ok (.lmul, 1) := by decide +kernel
theorem dX12_meanOf_43 : decode cX12_meanOf 43 = .ok (.aload_n 0, 1) := by decide +kernel
theorem dX12_meanOf_44 : decode cX12_meanOf 44 = .ok (.invokevirtual 142, 3) := by decide +kernel
theorem dX12_meanOf_47 : decode cX12_meanOf 47 = .ok (.ldiv, 1) := by decide +kernel
theorem dX12_meanOf_48 : decode cX12_meanOf 48 = .ok (.l2i, 1) := by decide +kernel
theorem dX12_meanOf_49 : decode cX12_meanOf 49 = .ok (.ireturn, 1) := by decide +kernel
theorem dX12_mean_0 : decode cX12_mean 0 = .ok (.iload_n 1, 1) := by decide +kernel
theorem dX12_mean_1 : decode cX12_mean 1 = .ok (.invokestatic 77, 3) := by decide +kernel
theorem dX12_mean_4 : decode cX12_mean 4 = .ok (.ifCond .eq 11, 3) := by decide +kernel
theorem dX12_mean_7 : decode cX12_mean 7 = .ok (.aload_n 0, 1) := by decide +kernel
theorem dX12_mean_8 : decode cX12_mean 8 = .ok (.iload_n 1, 1) := by decide +kernel
theorem dX12_mean_9 : decode cX12_mean 9 = .ok (.invokevirtual 146, 3) := by decide +kernel
theorem dX12_mean_12 : decode cX12_mean 12 = .ok (.goto 11, 3) := by decide +kernel
theorem dX12_mean_15 : decode cX12_mean 15 = .ok (.ldc 135, 2) := by decide +kernel
theorem dX12_mean_17 : decode cX12_mean 17 = .ok (.aload_n 0, 1) := by decide +kernel
theorem dX12_mean_18 : decode cX12_mean 18 = .ok (.iconst (-1), 1) := by decide +kernel
theorem dX12_mean_19 : decode cX12_mean 19 = .ok (.invokevirtual 47, 3) := by decide +kernel
theorem dX12_mean_22 : decode cX12_mean 22 = .ok (.isub, 1) := by decide +kernel
theorem dX12_mean_23 : decode cX12_mean 23 = .ok (.ireturn, 1) := by decide +kernel
theorem dX12_worstEnd_0 : decode cX12_worstEnd 0 = .ok (.iconst 0, 1) := by decide +kernel
theorem dX12_worstEnd_1 : decode cX12_worstEnd 1 = .ok (.istore_n 2, 1) := by decide +kernel
theorem dX12_worstEnd_2 : decode cX12_worstEnd 2 = .ok (.iconst 1, 1) := by decide +kernel
theorem dX12_worstEnd_3 : decode cX12_worstEnd 3 = .ok (.istore_n 3, 1) := by decide +kernel
theorem dX12_worstEnd_4 : decode cX12_worstEnd 4 = .ok (.iload_n 3, 1) := by decide +kernel
theorem dX12_worstEnd_5 : decode cX12_worstEnd 5 = .ok (.aload_n 0, 1) := by decide +kernel
theorem dX12_worstEnd_6 : decode cX12_worstEnd 6 = .ok (.invokevirtual 35, 3) := by decide +kernel
theorem dX12_worstEnd_9 : decode cX12_worstEnd 9 = .ok (.if_icmp .ge 26, 3) := by decide +kernel
theorem dX12_worstEnd_12 : decode cX12_worstEnd 12 = .ok (.aload_n 0, 1) := by decide +kernel
theorem dX12_worstEnd_13 : decode cX12_worstEnd 13 = .ok (.iload_n 1, 1) := by decide +kernel
theorem dX12_worstEnd_14 : decode cX12_worstEnd 14 = .ok (.iload_n 3, 1) := by decide +kernel
theorem dX12_worstEnd_15 : decode cX12_worstEnd 15 = .ok (.invokevirtual 132, 3) := by decide +kernel
theorem dX12_worstEnd_18 : decode cX12_worstEnd 18 = .ok (.aload_n 0, 1) := by decide +kernel
theorem dX12_worstEnd_19 : decode cX12_worstEnd 19 = .ok (.iload_n 1, 1) := by decide +kernel
theorem dX12_worstEnd_20 : decode cX12_worstEnd 20 = .ok (.iload_n 2, 1) := by decide +kernel
theorem dX12_worstEnd_21 : decode cX12_worstEnd 21 = .ok (.invokevirtual 132, 3) := by decide +kernel
theorem dX12_worstEnd_24 : decode cX12_worstEnd 24 = .ok (.if_icmp .ge 5, 3) := by decide +kernel
theorem dX12_worstEnd_27 : decode cX12_worstEnd 27 = .ok (.iload_n 3, 1) := by decide +kernel
theorem dX12_worstEnd_28 : decode cX12_worstEnd 28 = .ok (.istore_n 2, 1) := by decide +kernel
theorem dX12_worstEnd_29 : decode cX12_worstEnd 29 = .ok (.iinc 3 1, 3) := by decide +kernel
theorem dX12_worstEnd_32 : decode cX12_worstEnd 32 = .ok (.goto (-28), 3) := by decide +kernel
theorem dX12_worstEnd_35 : decode cX12_worstEnd 35 = .ok (.iload_n 2, 1) := by decide +kernel
theorem dX12_worstEnd_36 : decode cX12_worstEnd 36 = .ok (.ireturn, 1) := by decide +kernel
theorem dX12_bestEnd_0 : decode cX12_bestEnd 0 = .ok (.iconst 0, 1) := by decide +kernel
theorem dX12_bestEnd_1 : decode cX12_bestEnd 1 = .ok (.istore_n 2, 1) := by decide +kernel
theorem dX12_bestEnd_2 : decode cX12_bestEnd 2 = .ok (.iconst 1, 1) := by decide +kernel
theorem dX12_bestEnd_3 : decode cX12_bestEnd 3 = .ok (.istore_n 3, 1) := by decide +kernel
theorem dX12_bestEnd_4 : decode cX12_bestEnd 4 = .ok (.iload_n 3, 1) := by decide +kernel
theorem dX12_bestEnd_5 : decode cX12_bestEnd 5 = .ok (.aload_n 0, 1) := by decide +kernel
theorem dX12_bestEnd_6 : decode cX12_bestEnd 6 = .ok (.invokevirtual 35, 3) := by decide +kernel
theorem dX12_bestEnd_9 : decode cX12_bestEnd 9 = .ok (.if_icmp .ge 26, 3) := by decide +kernel
theorem dX12_bestEnd_12 : decode cX12_bestEnd 12 = .ok (.aload_n 0, 1) := by decide +kernel
theorem dX12_bestEnd_13 : decode cX12_bestEnd 13 = .ok (.iload_n 1, 1) := by decide +kernel
theorem dX12_bestEnd_14 : decode cX12_bestEnd 14 = .ok (.iload_n 3, 1) := by decide +kernel
theorem dX12_bestEnd_15 : decode cX12_bestEnd 15 = .ok (.invokevirtual 132, 3) := by decide +kernel
theorem dX12_bestEnd_18 : decode cX12_bestEnd 18 = .ok (.aload_n 0, 1) := by decide +kernel
theorem dX12_bestEnd_19 : decode cX12_bestEnd 19 = .ok (.iload_n 1, 1) := by decide +kernel
theorem dX12_bestEnd_20 : decode cX12_bestEnd 20 = .ok (.iload_n 2, 1) := by decide +kernel
theorem dX12_bestEnd_21 : decode cX12_bestEnd 21 = .ok (.invokevirtual 132, 3) := by decide +kernel
theorem dX12_bestEnd_24 : decode cX12_bestEnd 24 = .ok (.if_icmp .le 5, 3) := by decide +kernel
theorem dX12_bestEnd_27 : decode cX12_bestEnd 27 = .ok (.iload_n 3, 1) := by decide +kernel
theorem dX12_bestEnd_28 : decode cX12_bestEnd 28 = .ok (.istore_n 2, 1) := by decide +kernel
theorem dX12_bestEnd_29 : decode cX12_bestEnd 29 = .ok (.iinc 3 1, 3) := by decide +kernel
theorem dX12_bestEnd_32 : decode cX12_bestEnd 32 = .ok (.goto (-28), 3) := by decide +kernel
theorem dX12_bestEnd_35 : decode cX12_bestEnd 35 = .ok (.iload_n 2, 1) := by decide +kernel
theorem dX12_bestEnd_36 : decode cX12_bestEnd 36 = .ok (.ireturn, 1) := by decide +kernel
theorem dX12_wrong_0 : decode cX12_wrong 0 = .ok (.iload_n 1, 1) := by decide +kernel
theorem dX12_wrong_1 : decode cX12_wrong 1 = .ok (.invokestatic 77, 3) := by decide +kernel
theorem dX12_wrong_4 : decode cX12_wrong 4 = .ok (.ifCond .ne 7, 3) := by decide +kernel
theorem dX12_wrong_7 : decode cX12_wrong 7 = .ok (.iconst (-1), 1) := by decide +kernel
theorem dX12_wrong_8 : decode cX12_wrong 8 = .ok (.goto 17, 3) := by decide +kernel
theorem dX12_wrong_11 : decode cX12_wrong 11 = .ok (.iload_n 2, 1) := by decide +kernel
theorem dX12_wrong_12 : decode cX12_wrong 12 = .ok (.iconst 2, 1) := by decide +kernel
theorem dX12_wrong_13 : decode cX12_wrong 13 = .ok (.invokestatic 31, 3) := by decide +kernel
theorem dX12_wrong_16 : decode cX12_wrong 16 = .ok (.ifCond .eq 7, 3) := by decide +kernel
theorem dX12_wrong_19 : decode cX12_wrong 19 = .ok (.iconst 0, 1) := by decide +kernel
theorem dX12_wrong_20 : decode cX12_wrong 20 = .ok (.goto 5, 3) := by decide +kernel
theorem dX12_wrong_23 : decode cX12_wrong 23 = .ok (.bipush (-2), 2) := by decide +kernel
theorem dX12_wrong_25 : decode cX12_wrong 25 = .ok (.ireturn, 1) := by decide +kernel
theorem dX12_worst_0 : decode cX12_worst 0 = .ok (.aload_n 0, 1) := by decide +kernel
theorem dX12_worst_1 : decode cX12_worst 1 = .ok (.iload_n 1, 1) := by decide +kernel
theorem dX12_worst_2 : decode cX12_worst 2 = .ok (.iload_n 2, 1) := by decide +kernel
theorem dX12_worst_3 : decode cX12_worst 3 = .ok (.invokevirtual 149, 3) := by decide +kernel
theorem dX12_worst_6 : decode cX12_worst 6 = .ok (.istore_n 3, 1) := by decide +kernel
theorem dX12_worst_7 : decode cX12_worst 7 = .ok (.iload_n 3, 1) := by decide +kernel
theorem dX12_worst_8 : decode cX12_worst 8 = .ok (.ifCond .eq 12, 3) := by decide +kernel
theorem dX12_worst_11 : decode cX12_worst 11 = .ok (.ldc 135, 2) := by decide +kernel
theorem dX12_worst_13 : decode cX12_worst 13 = .ok (.aload_n 0, 1) := by decide +kernel
theorem dX12_worst_14 : decode cX12_worst 14 = .ok (.iload_n 3, 1) := by decide +kernel
theorem dX12_worst_15 : decode cX12_worst 15 = .ok (.invokevirtual 47, 3) := by decide +kernel
theorem dX12_worst_18 : decode cX12_worst 18 = .ok (.isub, 1) := by decide +kernel
theorem dX12_worst_19 : decode cX12_worst 19 = .ok (.ireturn, 1) := by decide +kernel
theorem dX12_worst_20 : decode cX12_worst 20 = .ok (.aload_n 0, 1) := by decide +kernel
theorem dX12_worst_21 : decode cX12_worst 21 = .ok (.iload_n 1, 1) := by decide +kernel
theorem dX12_worst_22 : decode cX12_worst 22 = .ok (.invokevirtual 152, 3) := by decide +kernel
theorem dX12_worst_25 : decode cX12_worst 25 = .ok (.istore 4, 2) := by decide +kernel
theorem dX12_worst_27 : decode cX12_worst 27 = .ok (.iload_n 2, 1) := by decide +kernel
theorem dX12_worst_28 : decode cX12_worst 28 = .ok (.ifCond .ne 13, 3) := by decide +kernel
theorem dX12_worst_31 : decode cX12_worst 31 = .ok (.aload_n 0, 1) := by decide +kernel
theorem dX12_worst_32 : decode cX12_worst 32 = .ok (.iload_n 1, 1) := by decide +kernel
theorem dX12_worst_33 : decode cX12_worst 33 = .ok (.iload 4, 2) := by decide +kernel
theorem dX12_worst_35 : decode cX12_worst 35 = .ok (.invokevirtual 132, 3) := by decide +kernel
theorem dX12_worst_38 : decode cX12_worst 38 = .ok (.goto 5, 3) := by decide +kernel
theorem dX12_worst_41 : decode cX12_worst 41 = .ok (.iload 4, 2) := by decide +kernel
theorem dX12_worst_43 : decode cX12_worst 43 = .ok (.ireturn, 1) := by decide +kernel
theorem dX12_best_0 : decode cX12_best 0 = .ok (.aload_n 0, 1) := by decide +kernel
theorem dX12_best_1 : decode cX12_best 1 = .ok (.iload_n 1, 1) := by decide +kernel
theorem dX12_best_2 : decode cX12_best 2 = .ok (.iload_n 2, 1) := by decide +kernel
theorem dX12_best_3 : decode cX12_best 3 = .ok (.invokevirtual 149, 3) := by decide +kernel
theorem dX12_best_6 : decode cX12_best 6 = .ok (.istore_n 3, 1) := by decide +kernel
theorem dX12_best_7 : decode cX12_best 7 = .ok (.iload_n 3, 1) := by decide +kernel
theorem dX12_best_8 : decode cX12_best 8 = .ok (.ifCond .eq 12, 3) := by decide +kernel
theorem dX12_best_11 : decode cX12_best 11 = .ok (.ldc 135, 2) := by decide +kernel
theorem dX12_best_13 : decode cX12_best 13 = .ok (.aload_n 0, 1) := by decide +kernel
theorem dX12_best_14 : decode cX12_best 14 = .ok (.iload_n 3, 1) := by decide +kernel
theorem dX12_best_15 : decode cX12_best 15 = .ok (.invokevirtual 47, 3) := by decide +kernel
theorem dX12_best_18 : decode cX12_best 18 = .ok (.isub, 1) := by decide +kernel
theorem dX12_best_19 : decode cX12_best 19 = .ok (.ireturn, 1) := by decide +kernel
theorem dX12_best_20 : decode cX12_best 20 = .ok (.aload_n 0, 1) := by decide +kernel
theorem dX12_best_21 : decode cX12_best 21 = .ok (.iload_n 1, 1) := by decide +kernel
theorem dX12_best_22 : decode cX12_best 22 = .ok (.invokevirtual 155, 3) := by decide +kernel
theorem dX12_best_25 : decode cX12_best 25 = .ok (.istore 4, 2) := by decide +kernel
theorem dX12_best_27 : decode cX12_best 27 = .ok (.iload_n 2, 1) := by decide +kernel
theorem dX12_best_28 : decode cX12_best 28 = .ok (.ifCond .ne 13, 3) := by decide +kernel
theorem dX12_best_31 : decode cX12_best 31 = .ok (.aload_n 0, 1) := by decide +kernel
theorem dX12_best_32 : decode cX12_best 32 = .ok (.iload_n 1, 1) := by decide +kernel
theorem dX12_best_33 : decode cX12_best 33 = .ok (.iload 4, 2) := by decide +kernel
theorem dX12_best_35 : decode cX12_best 35 = .ok (.invokevirtual 132, 3) := by decide +kernel
theorem dX12_best_38 : decode cX12_best 38 = .ok (.goto 5, 3) := by decide +kernel
theorem dX12_best_41 : decode cX12_best 41 = .ok (.iload 4, 2) := by decide +kernel
theorem dX12_best_43 : decode cX12_best 43 = .ok (.ireturn, 1) := by decide +kernel
theorem dX12_sure_0 : decode cX12_sure 0 = .ok (.iload_n 1, 1) := by decide +kernel
theorem dX12_sure_1 : decode cX12_sure 1 = .ok (.invokestatic 77, 3) := by decide +kernel
theorem dX12_sure_4 : decode cX12_sure 4 = .ok (.ifCond .ne 9, 3) := by decide +kernel
theorem dX12_sure_7 : decode cX12_sure 7 = .ok (.aload_n 0, 1) := by decide +kernel
theorem dX12_sure_8 : decode cX12_sure 8 = .ok (.iconst (-1), 1) := by decide +kernel
theorem dX12_sure_9 : decode cX12_sure 9 = .ok (.invokevirtual 47, 3) := by decide +kernel
theorem dX12_sure_12 : decode cX12_sure 12 = .ok (.ireturn, 1) := by decide +kernel
theorem dX12_sure_13 : decode cX12_sure 13 = .ok (.aload_n 0, 1) := by decide +kernel
theorem dX12_sure_14 : decode cX12_sure 14 = .ok (.iload_n 1, 1) := by decide +kernel
theorem dX12_sure_15 : decode cX12_sure 15 = .ok (.aload_n 0, 1) := by decide +kernel
theorem dX12_sure_16 : decode cX12_sure 16 = .ok (.iload_n 1, 1) := by decide +kernel
theorem dX12_sure_17 : decode cX12_sure 17 = .ok (.invokevirtual 152, 3) := by decide +kernel
theorem dX12_sure_20 : decode cX12_sure 20 = .ok (.invokevirtual 132, 3) := by decide +kernel
theorem dX12_sure_23 : decode cX12_sure 23 = .ok (.ifCond .lt 20, 3) := by decide +kernel
theorem dX12_sure_26 : decode cX12_sure 26 = .ok (.aload_n 0, 1) := by decide +kernel
theorem dX12_sure_27 : decode cX12_sure 27 = .ok (.iload_n 1, 1) := by decide +kernel
theorem dX12_sure_28 : decode cX12_sure 28 = .ok (.aload_n 0, 1) := by decide +kernel
theorem dX12_sure_29 : decode cX12_sure 29 = .ok (.iload_n 1, 1) := by decide +kernel
theorem dX12_sure_30 : decode cX12_sure 30 = .ok (.invokevirtual 155, 3) := by decide +kernel
theorem dX12_sure_33 : decode cX12_sure 33 = .ok (.invokevirtual 132, 3) := by decide +kernel
theorem dX12_sure_36 : decode cX12_sure 36 = .ok (.ifCond .le 7, 3) := by decide +kernel
theorem dX12_sure_39 : decode cX12_sure 39 = .ok (.iconst 1, 1) := by decide +kernel
theorem dX12_sure_40 : decode cX12_sure 40 = .ok (.goto 4, 3) := by decide +kernel
theorem dX12_sure_43 : decode cX12_sure 43 = .ok (.iconst 0, 1) := by decide +kernel
theorem dX12_sure_44 : decode cX12_sure 44 = .ok (.ireturn, 1) := by decide +kernel
theorem dX12_likely_0 : decode cX12_likely 0 = .ok (.iload_n 1, 1) := by decide +kernel
theorem dX12_likely_1 : decode cX12_likely 1 = .ok (.invokestatic 77, 3) := by decide +kernel
theorem dX12_likely_4 : decode cX12_likely 4 = .ok (.ifCond .ne 9, 3) := by decide +kernel
theorem dX12_likely_7 : decode cX12_likely 7 = .ok (.aload_n 0, 1) := by decide +kernel
theorem dX12_likely_8 : decode cX12_likely 8 = .ok (.iconst (-1), 1) := by decide +kernel
theorem dX12_likely_9 : decode cX12_likely 9 = .ok (.invokevirtual 47, 3) := by decide +kernel
theorem dX12_likely_12 : decode cX12_likely 12 = .ok (.ireturn, 1) := by decide +kernel
theorem dX12_likely_13 : decode cX12_likely 13 = .ok (.lconst 0, 1) := by decide +kernel
theorem dX12_likely_14 : decode cX12_likely 14 = .ok (.lstore_n 2, 1) := by decide +kernel
theorem dX12_likely_15 : decode cX12_likely 15 = .ok (.iconst 0, 1) := by decide +kernel
theorem dX12_likely_16 : decode cX12_likely 16 = .ok (.istore 4, 2) := by decide +kernel
theorem dX12_likely_18 : decode cX12_likely 18 = .ok (.iload 4, 2) := by decide +kernel
theorem dX12_likely_20 : decode cX12_likely 20 = .ok (.aload_n 0, 1) := by decide +kernel
theorem dX12_likely_21 : decode cX12_likely 21 = .ok (.invokevirtual 35, 3) := by decide +kernel
theorem dX12_likely_24 : decode cX12_likely 24 = .ok (.if_icmp .ge 32, 3) := by decide +kernel
theorem dX12_likely_27 : decode cX12_likely 27 = .ok (.lload_n 2, 1) := by decide +kernel
theorem dX12_likely_28 : decode cX12_likely 28 = .ok (.aload_n 0, 1) := by decide +kernel
theorem dX12_likely_29 : decode cX12_likely 29 = .ok (.iload_n 1, 1) := by decide +kernel
theorem dX12_likely_30 : decode cX12_likely 30 = .ok (.iload 4, 2) := by decide +kernel
theorem dX12_likely_32 : decode cX12_likely 32 = .ok (.invokevirtual 132, 3) := by decide +kernel
theorem dX12_likely_35 : decode cX12_likely 35 = .ok (.ifCond .le 12, 3) := by decide +kernel
theorem dX12_likely_38 : decode cX12_likely 38 = .ok (.aload_n 0, 1) := by decide +kernel
theorem dX12_likely_39 : decode cX12_likely 39 = .ok (.iload 4, 2) := by decide +kernel
theorem dX12_likely_41 : decode cX12_likely 41 = .ok (.invokevirtual 138, 3) := by decide +kernel
theorem dX12_likely_44 : decode cX12_likely 44 = .ok (.goto 4, 3) := by decide +kernel
theorem dX12_likely_47 : decode cX12_likely 47 = .ok (.lconst 0, 1) := by decide +kernel
theorem dX12_likely_48 : decode cX12_likely 48 = .ok (.ladd, 1) := by decide +kernel
theorem dX12_likely_49 : decode cX12_likely 49 = .ok (.lstore_n 2, 1) := by decide +kernel
theorem dX12_likely_50 : decode cX12_likely 50 = .ok (.iinc 4 1, 3) := by decide +kernel
theorem dX12_likely_53 : decode cX12_likely 53 = .ok (.goto (-35), 3) := by decide +kernel
theorem dX12_likely_56 : decode cX12_likely 56 = .ok (.ldc2_w 136, 3) := by decide +kernel
theorem dX12_likely_59 : decode cX12_likely 59 = .ok (.lload_n 2, 1) := by decide +kernel
theorem dX12_likely_60 : decode cX12_likely 60 = .ok (.lmul, 1) := by decide +kernel
theorem dX12_likely_61 : decode cX12_likely 61 = .ok (.aload_n 0, 1) := by decide +kernel
theorem dX12_likely_62 : decode cX12_likely 62 = .ok (.invokevirtual 142, 3) := by decide +kernel
theorem dX12_likely_65 : decode cX12_likely 65 = .ok (.ldiv, 1) := by decide +kernel
theorem dX12_likely_66 : decode cX12_likely 66 = .ok (.l2i, 1) := by decide +kernel
theorem dX12_likely_67 : decode cX12_likely 67 = .ok (.ireturn, 1) := by decide +kernel
theorem dX12_voids_0 : decode cX12_voids 0 = .ok (.iconst 0, 1) := by decide +kernel
theorem dX12_voids_1 : decode cX12_voids 1 = .ok (.istore_n 1, 1) := by decide +kernel
theorem dX12_voids_2 : decode cX12_voids 2 = .ok (.iconst 0, 1) := by decide +kernel
theorem dX12_voids_3 : decode cX12_voids 3 = .ok (.istore_n 2, 1) := by decide +kernel
theorem dX12_voids_4 : decode cX12_voids 4 = .ok (.iload_n 2, 1) := by decide +kernel
theorem dX12_voids_5 : decode cX12_voids 5 = .ok (.aload_n 0, 1) := by decide +kernel
theorem dX12_voids_6 : decode cX12_voids 6 = .ok (.invokevirtual 35, 3) := by decide +kernel
theorem dX12_voids_9 : decode cX12_voids 9 = .ok (.if_icmp .ge 47, 3) := by decide +kernel
theorem dX12_voids_12 : decode cX12_voids 12 = .ok (.aload_n 0, 1) := by decide +kernel
theorem dX12_voids_13 : decode cX12_voids 13 = .ok (.iload_n 2, 1) := by decide +kernel
theorem dX12_voids_14 : decode cX12_voids 14 = .ok (.invokevirtual 125, 3) := by decide +kernel
theorem dX12_voids_17 : decode cX12_voids 17 = .ok (.iconst 0, 1) := by decide +kernel
theorem dX12_voids_18 : decode cX12_voids 18 = .ok (.istore_n 3, 1) := by decide +kernel
theorem dX12_voids_19 : decode cX12_voids 19 = .ok (.iload_n 3, 1) := by decide +kernel
theorem dX12_voids_20 : decode cX12_voids 20 = .ok (.aload_n 0, 1) := by decide +kernel
theorem dX12_voids_21 : decode cX12_voids 21 = .ok (.getfield 13, 3) := by decide +kernel
theorem dX12_voids_24 : decode cX12_voids 24 = .ok (.iconst 1, 1) := by decide +kernel
theorem dX12_voids_25 : decode cX12_voids 25 = .ok (.iaload, 1) := by decide +kernel
theorem dX12_voids_26 : decode cX12_voids 26 = .ok (.if_icmp .ge 24, 3) := by decide +kernel
theorem dX12_voids_29 : decode cX12_voids 29 = .ok (.aload_n 0, 1) := by decide +kernel
theorem dX12_voids_30 : decode cX12_voids 30 = .ok (.iload_n 3, 1) := by decide +kernel
theorem dX12_voids_31 : decode cX12_voids 31 = .ok (.invokevirtual 129, 3) := by decide +kernel
theorem dX12_voids_34 : decode cX12_voids 34 = .ok (.iconst 2, 1) := by decide +kernel
theorem dX12_voids_35 : decode cX12_voids 35 = .ok (.if_icmp .ne 9, 3) := by decide +kernel
theorem dX12_voids_38 : decode cX12_voids 38 = .ok (.iload_n 1, 1) := by decide +kernel
theorem dX12_voids_39 : decode cX12_voids 39 = .ok (.iconst 1, 1) := by decide +kernel
theorem dX12_voids_40 : decode cX12_voids 40 = .ok (.iload_n 3, 1) := by decide +kernel
theorem dX12_voids_41 : decode cX12_voids 41 = .ok (.ishl, 1) := by decide +kernel
theorem dX12_voids_42 : decode cX12_voids 42 = .ok (.ior, 1) := by decide +kernel
theorem dX12_voids_43 : decode cX12_voids 43 = .ok (.istore_n 1, 1) := by decide +kernel
theorem dX12_voids_44 : decode cX12_voids 44 = .ok (.iinc 3 1, 3) := by decide +kernel
theorem dX12_voids_47 : decode cX12_voids 47 = .ok (.goto (-28), 3) := by decide +kernel
theorem dX12_voids_50 : decode cX12_voids 50 = .ok (.iinc 2 1, 3) := by decide +kernel
theorem dX12_voids_53 : decode cX12_voids 53 = .ok (.goto (-49), 3) := by decide +kernel
theorem dX12_voids_56 : decode cX12_voids 56 = .ok (.iload_n 1, 1) := by decide +kernel
theorem dX12_voids_57 : decode cX12_voids 57 = .ok (.ireturn, 1) := by decide +kernel
theorem dX12_sparing_0 : decode cX12_sparing 0 = .ok (.iload_n 1, 1) := by decide +kernel
theorem dX12_sparing_1 : decode cX12_sparing 1 = .ok (.invokestatic 77, 3) := by decide +kernel
theorem dX12_sparing_4 : decode cX12_sparing 4 = .ok (.ifCond .ne 9, 3) := by decide +kernel
theorem dX12_sparing_7 : decode cX12_sparing 7 = .ok (.aload_n 0, 1) := by decide +kernel
theorem dX12_sparing_8 : decode cX12_sparing 8 = .ok (.iconst (-1), 1) := by decide +kernel
theorem dX12_sparing_9 : decode cX12_sparing 9 = .ok (.invokevirtual 47, 3) := by decide +kernel
theorem dX12_sparing_12 : decode cX12_sparing 12 = .ok (.ireturn, 1) := by decide +kernel
theorem dX12_sparing_13 : decode cX12_sparing 13 = .ok (.aload_n 0, 1) := by decide +kernel
theorem dX12_sparing_14 : decode cX12_sparing 14 = .ok (.iload_n 1, 1) := by decide +kernel
theorem dX12_sparing_15 : decode cX12_sparing 15 = .ok (.aload_n 0, 1) := by decide +kernel
theorem dX12_sparing_16 : decode cX12_sparing 16 = .ok (.iload_n 1, 1) := by decide +kernel
theorem dX12_sparing_17 : decode cX12_sparing 17 = .ok (.invokevirtual 152, 3) := by decide +kernel
theorem dX12_sparing_20 : decode cX12_sparing 20 = .ok (.invokevirtual 132, 3) := by decide +kernel
theorem dX12_sparing_23 : decode cX12_sparing 23 = .ok (.istore_n 2, 1) := by decide +kernel
theorem dX12_sparing_24 : decode cX12_sparing 24 = .ok (.bipush (-9), 2) := by decide +kernel
theorem dX12_sparing_26 : decode cX12_sparing 26 = .ok (.istore_n 3, 1) := by decide +kernel
theorem dX12_sparing_27 : decode cX12_sparing 27 = .ok (.iconst 0, 1) := by decide +kernel
theorem dX12_sparing_28 : decode cX12_sparing 28 = .ok (.istore 4, 2) := by decide +kernel
theorem dX12_sparing_30 : decode cX12_sparing 30 = .ok (.iload 4, 2) := by decide +kernel
theorem dX12_sparing_32 : decode cX12_sparing 32 = .ok (.aload_n 0, 1) := by decide +kernel
theorem dX12_sparing_33 : decode cX12_sparing 33 = .ok (.getfield 13, 3) := by decide +kernel
theorem dX12_sparing_36 : decode cX12_sparing 36 = .ok (.iconst 1, 1) := by decide +kernel
theorem dX12_sparing_37 : decode cX12_sparing 37 = .ok (.iaload, 1) := by decide +kernel
theorem dX12_sparing_38 : decode cX12_sparing 38 = .ok (.if_icmp .ge 111, 3) := by decide +kernel
theorem dX12_sparing_41 : decode cX12_sparing 41 = .ok (.aload_n 0, 1) := by decide +kernel
theorem dX12_sparing_42 : decode cX12_sparing 42 = .ok (.iload 4, 2) := by decide +kernel
theorem dX12_sparing_44 : decode cX12_sparing 44 = .ok (.iconst 5, 1) := by decide +kernel
theorem dX12_sparing_45 : decode cX12_sparing 45 = .ok (.invokevirtual 96, 3) := by decide +kernel
theorem dX12_sparing_48 : decode cX12_sparing 48 = .ok (.iload_n 1, 1) := by decide +kernel
theorem dX12_sparing_49 : decode cX12_sparing 49 = .ok (.if_icmp .eq 6, 3) := by decide +kernel
theorem dX12_sparing_52 : decode cX12_sparing 52 = .ok (.goto 91, 3) := by decide +kernel
theorem dX12_sparing_55 : decode cX12_sparing 55 = .ok (.bipush 10, 2) := by decide +kernel
theorem dX12_sparing_57 : decode cX12_sparing 57 = .ok (.bipush 7, 2) := by decide +kernel
theorem dX12_sparing_59 : decode cX12_sparing 59 = .ok (.iload 4, 2) := by decide +kernel
theorem dX12_sparing_61 : decode cX12_sparing 61 = .ok (.imul, 1) := by decide +kernel
theorem dX12_sparing_62 : decode cX12_sparing 62 = .ok (.iadd, 1) := by decide +kernel
theorem dX12_sparing_63 : decode cX12_sparing 63 = .ok (.iconst 3, 1) := by decide +kernel
theorem dX12_sparing_64 : decode cX12_sparing 64 = .ok (.iadd, 1) := by decide +kernel
theorem dX12_sparing_65 : decode cX12_sparing 65 = .ok (.istore 5, 2) := by decide +kernel
theorem dX12_sparing_67 : decode cX12_sparing 67 = .ok (.aload_n 0, 1) := by decide +kernel
theorem dX12_sparing_68 : decode cX12_sparing 68 = .ok (.getfield 13, 3) := by decide +kernel
theorem dX12_sparing_71 : decode cX12_sparing 71 = .ok (.iload 5, 2) := by decide +kernel
theorem dX12_sparing_73 : decode cX12_sparing 73 = .ok (.iaload, 1) := by decide +kernel
theorem dX12_sparing_74 : decode cX12_sparing 74 = .ok (.istore 6, 2) := by decide +kernel
theorem dX12_sparing_76 : decode cX12_sparing 76 = .ok (.iconst 0, 1) := by decide +kernel
theorem dX12_sparing_77 : decode cX12_sparing 77 = .ok (.istore 7, 2) := by decide +kernel
theorem dX12_sparing_79 : decode cX12_sparing 79 = .ok (.iload 7, 2) := by decide +kernel
theorem dX12_sparing_81 : decode cX12_sparing 81 = .ok (.bipush 99, 2) := by decide +kernel
theorem dX12_sparing_83 : decode cX12_sparing 83 = .ok (.if_icmp .gt 51, 3) := by decide +kernel
theorem dX12_sparing_86 : decode cX12_sparing 86 = .ok (.aload_n 0, 1) := by decide +kernel
theorem dX12_sparing_87 : decode cX12_sparing 87 = .ok (.getfield 13, 3) := by decide +kernel
theorem dX12_sparing_90 : decode cX12_sparing 90 = .ok (.iload 5, 2) := by decide +kernel
theorem dX12_sparing_92 : decode cX12_sparing 92 = .ok (.iload 7, 2) := by decide +kernel
theorem dX12_sparing_94 : decode cX12_sparing 94 = .ok (.iastore, 1) := by decide +kernel
theorem dX12_sparing_95 : decode cX12_sparing 95 = .ok (.aload_n 0, 1) := by decide +kernel
theorem dX12_sparing_96 : decode cX12_sparing 96 = .ok (.iload_n 1, 1) := by decide +kernel
theorem dX12_sparing_97 : decode cX12_sparing 97 = .ok (.aload_n 0, 1) := by decide +kernel
theorem dX12_sparing_98 : decode cX12_sparing 98 = .ok (.iload_n 1, 1) := by decide +kernel
theorem dX12_sparing_99 : decode cX12_sparing 99 = .ok (.invokevirtual 152, 3) := by decide +kernel
theorem dX12_sparing_102 : decode cX12_sparing 102 = .ok (.invokevirtual 132, 3) := by decide +kernel
theorem dX12_sparing_105 : decode cX12_sparing 105 = .ok (.istore 8, 2) := by decide +kernel
theorem dX12_sparing_107 : decode cX12_sparing 107 = .ok (.iload 8, 2) := by decide +kernel
theorem dX12_sparing_109 : decode cX12_sparing 109 = .ok (.iload_n 2, 1) := by decide +kernel
theorem dX12_sparing_110 : decode cX12_sparing 110 = .ok (.if_icmp .gt 6, 3) := by decide +kernel
theorem dX12_sparing_113 : decode cX12_sparing 113 = .ok (.goto 15, 3) := by decide +kernel
theorem dX12_sparing_116 : decode cX12_sparing 116 = .ok (.iload 8, 2) := by decide +kernel
theorem dX12_sparing_118 : decode cX12_sparing 118 = .ok (.istore_n 2, 1) := by decide +kernel
theorem dX12_sparing_119 : decode cX12_sparing 119 = .ok (.bipush 100, 2) := by decide +kernel
theorem dX12_sparing_121 : decode cX12_sparing 121 = .ok (.iload 4, 2) := by decide +kernel
theorem dX12_sparing_123 : decode cX12_sparing 123 = .ok (.imul, 1) := by decide +kernel
theorem dX12_sparing_124 : decode cX12_sparing 124 = .ok (.iload 7, 2) := by decide +kernel
theorem dX12_sparing_126 : decode cX12_sparing 126 = .ok (.iadd, 1) := by decide +kernel
theorem dX12_sparing_127 : decode cX12_sparing 127 = .ok (.istore_n 3, 1) := by decide +kernel
theorem dX12_sparing_128 : decode cX12_sparing 128 = .ok (.iinc 7 1, 3) := by decide +kernel
theorem dX12_sparing_131 : decode cX12_sparing 131 = .ok (.goto (-52), 3) := by decide +kernel
theorem dX12_sparing_134 : decode cX12_sparing 134 = .ok (.aload_n 0, 1) := by decide +kernel
theorem dX12_sparing_135 : decode cX12_sparing 135 = .ok (.getfield 13, 3) := by decide +kernel
theorem dX12_sparing_138 : decode cX12_sparing 138 = .ok (.iload 5, 2) := by decide +kernel
theorem dX12_sparing_140 : decode cX12_sparing 140 = .ok (.iload 6, 2) := by decide +kernel
theorem dX12_sparing_142 : decode cX12_sparing 142 = .ok (.iastore, 1) := by decide +kernel
theorem dX12_sparing_143 : decode cX12_sparing 143 = .ok (.iinc 4 1, 3) := by decide +kernel
theorem dX12_sparing_146 : decode cX12_sparing 146 = .ok (.goto (-116), 3) := by decide +kernel
theorem dX12_sparing_149 : decode cX12_sparing 149 = .ok (.iload_n 3, 1) := by decide +kernel
theorem dX12_sparing_150 : decode cX12_sparing 150 = .ok (.ireturn, 1) := by decide +kernel
theorem dX12_safeOdds_0 : decode cX12_safeOdds 0 = .ok (.aload_n 0, 1) := by decide +kernel
theorem dX12_safeOdds_1 : decode cX12_safeOdds 1 = .ok (.iload_n 1, 1) := by decide +kernel
theorem dX12_safeOdds_2 : decode cX12_safeOdds 2 = .ok (.invokevirtual 93, 3) := by decide +kernel
theorem dX12_safeOdds_5 : decode cX12_safeOdds 5 = .ok (.ifCond .ne 9, 3) := by decide +kernel
theorem dX12_safeOdds_8 : decode cX12_safeOdds 8 = .ok (.aload_n 0, 1) := by decide +kernel
theorem dX12_safeOdds_9 : decode cX12_safeOdds 9 = .ok (.iconst (-1), 1) := by decide +kernel
theorem dX12_safeOdds_10 : decode cX12_safeOdds 10 = .ok (.invokevirtual 47, 3) := by decide +kernel
theorem dX12_safeOdds_13 : decode cX12_safeOdds 13 = .ok (.ireturn, 1) := by decide +kernel
theorem dX12_safeOdds_14 : decode cX12_safeOdds 14 = .ok (.bipush 10, 2) := by decide +kernel
theorem dX12_safeOdds_16 : decode cX12_safeOdds 16 = .ok (.bipush 7, 2) := by decide +kernel
theorem dX12_safeOdds_18 : decode cX12_safeOdds 18 = .ok (.iload_n 1, 1) := by decide +kernel
theorem dX12_safeOdds_19 : decode cX12_safeOdds 19 = .ok (.imul, 1) := by decide +kernel
theorem dX12_safeOdds_20 : decode cX12_safeOdds 20 = .ok (.iadd, 1) := by decide +kernel
theorem dX12_safeOdds_21 : decode cX12_safeOdds 21 = .ok (.iconst 4, 1) := by decide +kernel
theorem dX12_safeOdds_22 : decode cX12_safeOdds 22 = .ok (.iadd, 1) := by decide +kernel
theorem dX12_safeOdds_23 : decode cX12_safeOdds 23 = .ok (.istore_n 2, 1) := by decide +kernel
theorem dX12_safeOdds_24 : decode cX12_safeOdds 24 = .ok (.aload_n 0, 1) := by decide +kernel
theorem dX12_safeOdds_25 : decode cX12_safeOdds 25 = .ok (.getfield 13, 3) := by decide +kernel
theorem dX12_safeOdds_28 : decode cX12_safeOdds 28 = .ok (.iload_n 2, 1) := by decide +kernel
theorem dX12_safeOdds_29 : decode cX12_safeOdds 29 = .ok (.iaload, 1) := by decide +kernel
theorem dX12_safeOdds_30 : decode cX12_safeOdds 30 = .ok (.istore_n 3, 1) := by decide +kernel
theorem dX12_safeOdds_31 : decode cX12_safeOdds 31 = .ok (.bipush (-9), 2) := by decide +kernel
theorem dX12_safeOdds_33 : decode cX12_safeOdds 33 = .ok (.istore 4, 2) := by decide +kernel
theorem dX12_safeOdds_35 : decode cX12_safeOdds 35 = .ok (.bipush 9, 2) := by decide +kernel
theorem dX12_safeOdds_37 : decode cX12_safeOdds 37 = .ok (.istore 5, 2) := by decide +kernel
theorem dX12_safeOdds_39 : decode cX12_safeOdds 39 = .ok (.iload 5, 2) := by decide +kernel
theorem dX12_safeOdds_41 : decode cX12_safeOdds 41 = .ok (.ifCond .lt 45, 3) := by decide +kernel
theorem dX12_safeOdds_44 : decode cX12_safeOdds 44 = .ok (.iload 4, 2) := by decide +kernel
theorem dX12_safeOdds_46 : decode cX12_safeOdds 46 = .ok (.ifCond .ge 40, 3) := by decide +kernel
theorem dX12_safeOdds_49 : decode cX12_safeOdds 49 = .ok (.aload_n 0, 1) := by decide +kernel
theorem dX12_safeOdds_50 : decode cX12_safeOdds 50 = .ok (.getfield 13, 3) := by decide +kernel
theorem dX12_safeOdds_53 : decode cX12_safeOdds 53 = .ok (.iload_n 2, 1) := by decide +kernel
theorem dX12_safeOdds_54 : decode cX12_safeOdds 54 = .ok (.iload 5, 2) := by decide +kernel
theorem dX12_safeOdds_56 : decode cX12_safeOdds 56 = .ok (.iastore, 1) := by decide +kernel
theorem dX12_safeOdds_57 : decode cX12_safeOdds 57 = .ok (.aload_n 0, 1) := by decide +kernel
theorem dX12_safeOdds_58 : decode cX12_safeOdds 58 = .ok (.aload_n 0, 1) := by decide +kernel
theorem dX12_safeOdds_59 : decode cX12_safeOdds 59 = .ok (.iload_n 1, 1) := by decide +kernel
theorem dX12_safeOdds_60 : decode cX12_safeOdds 60 = .ok (.bipush 6, 2) := by decide +kernel
theorem dX12_safeOdds_62 : decode cX12_safeOdds 62 = .ok (.invokevirtual 96, 3) := by decide +kernel
theorem dX12_safeOdds_65 : decode cX12_safeOdds 65 = .ok (.invokevirtual 146, 3) := by decide +kernel
theorem dX12_safeOdds_68 : decode cX12_safeOdds 68 = .ok (.ifCond .lt 8, 3) := by decide +kernel
theorem dX12_safeOdds_71 : decode cX12_safeOdds 71 = .ok (.iload 5, 2) := by decide +kernel
theorem dX12_safeOdds_73 : decode cX12_safeOdds 73 = .ok (.goto 5, 3) := by decide +kernel
theorem dX12_safeOdds_76 : decode cX12_safeOdds 76 = .ok (.bipush (-9), 2) := by decide +kernel
theorem dX12_safeOdds_78 : decode cX12_safeOdds 78 = .ok (.istore 4, 2) := by decide +kernel
theorem dX12_safeOdds_80 : decode cX12_safeOdds 80 = .ok (.iinc 5 (-1), 3) := by decide +kernel
theorem dX12_safeOdds_83 : decode cX12_safeOdds 83 = .ok (.goto (-44), 3) := by decide +kernel
theorem dX12_safeOdds_86 : decode cX12_safeOdds 86 = .ok (.aload_n 0, 1) := by decide +kernel
theorem dX12_safeOdds_87 : decode cX12_safeOdds 87 = .ok (.getfield 13, 3) := by decide +kernel
theorem dX12_safeOdds_90 : decode cX12_safeOdds 90 = .ok (.iload_n 2, 1) := by decide +kernel
theorem dX12_safeOdds_91 : decode cX12_safeOdds 91 = .ok (.iload_n 3, 1) := by decide +kernel
theorem dX12_safeOdds_92 : decode cX12_safeOdds 92 = .ok (.iastore, 1) := by decide +kernel
theorem dX12_safeOdds_93 : decode cX12_safeOdds 93 = .ok (.iload 4, 2) := by decide +kernel
theorem dX12_safeOdds_95 : decode cX12_safeOdds 95 = .ok (.ireturn, 1) := by decide +kernel
theorem dX12_host_0 : decode cX12_host 0 = .ok (.iconst 0, 1) := by decide +kernel
theorem dX12_host_1 : decode cX12_host 1 = .ok (.istore_n 1, 1) := by decide +kernel
theorem dX12_host_2 : decode cX12_host 2 = .ok (.iconst 1, 1) := by decide +kernel
theorem dX12_host_3 : decode cX12_host 3 = .ok (.istore_n 2, 1) := by decide +kernel
theorem dX12_host_4 : decode cX12_host 4 = .ok (.iload_n 2, 1) := by decide +kernel
theorem dX12_host_5 : decode cX12_host 5 = .ok (.iconst 4, 1) := by decide +kernel
theorem dX12_host_6 : decode cX12_host 6 = .ok (.if_icmp .ge 24, 3) := by decide +kernel
theorem dX12_host_9 : decode cX12_host 9 = .ok (.aload_n 0, 1) := by decide +kernel
theorem dX12_host_10 : decode cX12_host 10 = .ok (.iload_n 2, 1) := by decide +kernel
theorem dX12_host_11 : decode cX12_host 11 = .ok (.invokevirtual 146, 3) := by decide +kernel
theorem dX12_host_14 : decode cX12_host 14 = .ok (.aload_n 0, 1) := by decide +kernel
theorem dX12_host_15 : decode cX12_host 15 = .ok (.iload_n 1, 1) := by decide +kernel
theorem dX12_host_16 : decode cX12_host 16 = .ok (.invokevirtual 146, 3) := by decide +kernel
theorem dX12_host_19 : decode cX12_host 19 = .ok (.if_icmp .le 5, 3) := by decide +kernel
theorem dX12_host_22 : decode cX12_host 22 = .ok (.iload_n 2, 1) := by decide +kernel
theorem dX12_host_23 : decode cX12_host 23 = .ok (.istore_n 1, 1) := by decide +kernel
theorem dX12_host_24 : decode cX12_host 24 = .ok (.iinc 2 1, 3) := by decide +kernel
theorem dX12_host_27 : decode cX12_host 27 = .ok (.goto (-23), 3) := by decide +kernel
theorem dX12_host_30 : decode cX12_host 30 = .ok (.iload_n 1, 1) := by decide +kernel
theorem dX12_host_31 : decode cX12_host 31 = .ok (.ireturn, 1) := by decide +kernel
theorem dX12_sumOf_0 : decode cX12_sumOf 0 = .ok (.iconst 0, 1) := by decide +kernel
theorem dX12_sumOf_1 : decode cX12_sumOf 1 = .ok (.istore_n 3, 1) := by decide +kernel
theorem dX12_sumOf_2 : decode cX12_sumOf 2 = .ok (.iconst 0, 1) := by decide +kernel
theorem dX12_sumOf_3 : decode cX12_sumOf 3 = .ok (.istore 4, 2) := by decide +kernel
theorem dX12_sumOf_5 : decode cX12_sumOf 5 = .ok (.iload 4, 2) := by decide +kernel
theorem dX12_sumOf_7 : decode cX12_sumOf 7 = .ok (.iconst 4, 1) := by decide +kernel
theorem dX12_sumOf_8 : decode cX12_sumOf 8 = .ok (.if_icmp .ge 33, 3) := by decide +kernel
theorem dX12_sumOf_11 : decode cX12_sumOf 11 = .ok (.iload_n 3, 1) := by decide +kernel
theorem dX12_sumOf_12 : decode cX12_sumOf 12 = .ok (.iload_n 1, 1) := by decide +kernel
theorem dX12_sumOf_13 : decode cX12_sumOf 13 = .ok (.iload 4, 2) := by decide +kernel
theorem dX12_sumOf_15 : decode cX12_sumOf 15 = .ok (.ishr, 1) := by decide +kernel
theorem dX12_sumOf_16 : decode cX12_sumOf 16 = .ok (.iconst 1, 1) := by decide +kernel
theorem dX12_sumOf_17 : decode cX12_sumOf 17 = .ok (.iand, 1) := by decide +kernel
theorem dX12_sumOf_18 : decode cX12_sumOf 18 = .ok (.iconst 1, 1) := by decide +kernel
theorem dX12_sumOf_19 : decode cX12_sumOf 19 = .ok (.if_icmp .ne 13, 3) := by decide +kernel
theorem dX12_sumOf_22 : decode cX12_sumOf 22 = .ok (.aload_n 0, 1) := by decide +kernel
theorem dX12_sumOf_23 : decode cX12_sumOf 23 = .ok (.iload 4, 2) := by decide +kernel
theorem dX12_sumOf_25 : decode cX12_sumOf 25 = .ok (.iload_n 2, 1) := by decide +kernel
theorem dX12_sumOf_26 : decode cX12_sumOf 26 = .ok (.invokevirtual 132, 3) := by decide +kernel
theorem dX12_sumOf_29 : decode cX12_sumOf 29 = .ok (.goto 4, 3) := by decide +kernel
theorem dX12_sumOf_32 : decode cX12_sumOf 32 = .ok (.iconst 0, 1) := by decide +kernel
theorem dX12_sumOf_33 : decode cX12_sumOf 33 = .ok (.iadd, 1) := by decide +kernel
theorem dX12_sumOf_34 : decode cX12_sumOf 34 = .ok (.istore_n 3, 1) := by decide +kernel
theorem dX12_sumOf_35 : decode cX12_sumOf 35 = .ok (.iinc 4 1, 3) := by decide +kernel
theorem dX12_sumOf_38 : decode cX12_sumOf 38 = .ok (.goto (-33), 3) := by decide +kernel
theorem dX12_sumOf_41 : decode cX12_sumOf 41 = .ok (.iload_n 3, 1) := by decide +kernel
theorem dX12_sumOf_42 : decode cX12_sumOf 42 = .ok (.ireturn, 1) := by decide +kernel
theorem dX12_groups_0 : decode cX12_groups 0 = .ok (.iload_n 1, 1) := by decide +kernel
theorem dX12_groups_1 : decode cX12_groups 1 = .ok (.ifCond .ne 5, 3) := by decide +kernel
theorem dX12_groups_4 : decode cX12_groups 4 = .ok (.iconst 0, 1) := by decide +kernel
theorem dX12_groups_5 : decode cX12_groups 5 = .ok (.ireturn, 1) := by decide +kernel
theorem dX12_groups_6 : decode cX12_groups 6 = .ok (.iload_n 1, 1) := by decide +kernel
theorem dX12_groups_7 : decode cX12_groups 7 = .ok (.iload_n 1, 1) := by decide +kernel
theorem dX12_groups_8 : decode cX12_groups 8 = .ok (.ineg, 1) := by decide +kernel
theorem dX12_groups_9 : decode cX12_groups 9 = .ok (.iand, 1) := by decide +kernel
theorem dX12_groups_10 : decode cX12_groups 10 = .ok (.istore_n 3, 1) := by decide +kernel
theorem dX12_groups_11 : decode cX12_groups 11 = .ok (.iconst 1, 1) := by decide +kernel
theorem dX12_groups_12 : decode cX12_groups 12 = .ok (.istore 4, 2) := by decide +kernel
theorem dX12_groups_14 : decode cX12_groups 14 = .ok (.iload_n 1, 1) := by decide +kernel
theorem dX12_groups_15 : decode cX12_groups 15 = .ok (.istore 5, 2) := by decide +kernel
theorem dX12_groups_17 : decode cX12_groups 17 = .ok (.iload 5, 2) := by decide +kernel
theorem dX12_groups_19 : decode cX12_groups 19 = .ok (.ifCond .le 71, 3) := by decide +kernel
theorem dX12_groups_22 : decode cX12_groups 22 = .ok (.iload 5, 2) := by decide +kernel
theorem dX12_groups_24 : decode cX12_groups 24 = .ok (.iload_n 3, 1) := by decide +kernel
theorem dX12_groups_25 : decode cX12_groups 25 = .ok (.iand, 1) := by decide +kernel
theorem dX12_groups_26 : decode cX12_groups 26 = .ok (.ifCond .eq 53, 3) := by decide +kernel
theorem dX12_groups_29 : decode cX12_groups 29 = .ok (.iload 5, 2) := by decide +kernel
theorem dX12_groups_31 : decode cX12_groups 31 = .ok (.iload_n 1, 1) := by decide +kernel
theorem dX12_groups_32 : decode cX12_groups 32 = .ok (.if_icmp .eq 47, 3) := by decide +kernel
theorem dX12_groups_35 : decode cX12_groups 35 = .ok (.aload_n 0, 1) := by decide +kernel
theorem dX12_groups_36 : decode cX12_groups 36 = .ok (.iload 5, 2) := by decide +kernel
theorem dX12_groups_38 : decode cX12_groups 38 = .ok (.iload_n 2, 1) := by decide +kernel
theorem dX12_groups_39 : decode cX12_groups 39 = .ok (.invokevirtual 158, 3) := by decide +kernel
theorem dX12_groups_42 : decode cX12_groups 42 = .ok (.ifCond .eq 6, 3) := by decide +kernel
theorem dX12_groups_45 : decode cX12_groups 45 = .ok (.goto 34, 3) := by decide +kernel
theorem dX12_groups_48 : decode cX12_groups 48 = .ok (.iconst 1, 1) := by decide +kernel
theorem dX12_groups_49 : decode cX12_groups 49 = .ok (.aload_n 0, 1) := by decide +kernel
theorem dX12_groups_50 : decode cX12_groups 50 = .ok (.iload_n 1, 1) := by decide +kernel
theorem dX12_groups_51 : decode cX12_groups 51 = .ok (.iload 5, 2) := by decide +kernel
theorem dX12_groups_53 : decode cX12_groups 53 = .ok (.iconst (-1), 1) := by decide +kernel
theorem dX12_groups_54 : decode cX12_groups 54 = .ok (.ixor, 1) := by decide +kernel
theorem dX12_groups_55 : decode cX12_groups 55 = .ok (.iand, 1) := by decide +kernel
theorem dX12_groups_56 : decode cX12_groups 56 = .ok (.iload_n 2, 1) := by decide +kernel
theorem dX12_groups_57 : decode cX12_groups 57 = .ok (.invokevirtual 161, 3) := by decide +kernel
theorem dX12_groups_60 : decode cX12_groups 60 = .ok (.iadd, 1) := by decide +kernel
theorem dX12_groups_61 : decode cX12_groups 61 = .ok (.istore 6, 2) := by decide +kernel
theorem dX12_groups_63 : decode cX12_groups 63 = .ok (.iload 6, 2) := by decide +kernel
theorem dX12_groups_65 : decode cX12_groups 65 = .ok (.iload 4, 2) := by decide +kernel
theorem dX12_groups_67 : decode cX12_groups 67 = .ok (.if_icmp .le 8, 3) := by decide +kernel
theorem dX12_groups_70 : decode cX12_groups 70 = .ok (.iload 6, 2) := by decide +kernel
theorem dX12_groups_72 : decode cX12_groups 72 = .ok (.goto 5, 3) := by decide +kernel
theorem dX12_groups_75 : decode cX12_groups 75 = .ok (.iload 4, 2) := by decide +kernel
theorem dX12_groups_77 : decode cX12_groups 77 = .ok (.istore 4, 2) := by decide +kernel
theorem dX12_groups_79 : decode cX12_groups 79 = .ok (.iload 5, 2) := by decide +kernel
theorem dX12_groups_81 : decode cX12_groups 81 = .ok (.iconst 1, 1) := by decide +kernel
theorem dX12_groups_82 : decode cX12_groups 82 = .ok (.isub, 1) := by decide +kernel
theorem dX12_groups_83 : decode cX12_groups 83 = .ok (.iload_n 1, 1) := by decide +kernel
theorem dX12_groups_84 : decode cX12_groups 84 = .ok (.iand, 1) := by decide +kernel
theorem dX12_groups_85 : decode cX12_groups 85 = .ok (.istore 5, 2) := by decide +kernel
theorem dX12_groups_87 : decode cX12_groups 87 = .ok (.goto (-70), 3) := by decide +kernel
theorem dX12_groups_90 : decode cX12_groups 90 = .ok (.iload 4, 2) := by decide +kernel
theorem dX12_groups_92 : decode cX12_groups 92 = .ok (.ireturn, 1) := by decide +kernel
theorem dX12_settling_0 : decode cX12_settling 0 = .ok (.aload_n 0, 1) := by decide +kernel
theorem dX12_settling_1 : decode cX12_settling 1 = .ok (.iload_n 1, 1) := by decide +kernel
theorem dX12_settling_2 : decode cX12_settling 2 = .ok (.invokevirtual 122, 3) := by decide +kernel
theorem dX12_settling_5 : decode cX12_settling 5 = .ok (.ifCond .ne 9, 3) := by decide +kernel
theorem dX12_settling_8 : decode cX12_settling 8 = .ok (.aload_n 0, 1) := by decide +kernel
theorem dX12_settling_9 : decode cX12_settling 9 = .ok (.iconst (-1), 1) := by decide +kernel
theorem dX12_settling_10 : decode cX12_settling 10 = .ok (.invokevirtual 47, 3) := by decide +kernel
theorem dX12_settling_13 : decode cX12_settling 13 = .ok (.ireturn, 1) := by decide +kernel
theorem dX12_settling_14 : decode cX12_settling 14 = .ok (.iconst 0, 1) := by decide +kernel
theorem dX12_settling_15 : decode cX12_settling 15 = .ok (.istore_n 2, 1) := by decide +kernel
theorem dX12_settling_16 : decode cX12_settling 16 = .ok (.iconst 0, 1) := by decide +kernel
theorem dX12_settling_17 : decode cX12_settling 17 = .ok (.istore_n 3, 1) := by decide +kernel
theorem dX12_settling_18 : decode cX12_settling 18 = .ok (.iload_n 3, 1) := by decide +kernel
theorem dX12_settling_19 : decode cX12_settling 19 = .ok (.iconst 4, 1) := by decide +kernel
theorem dX12_settling_20 : decode cX12_settling 20 = .ok (.if_icmp .ge 28, 3) := by decide +kernel
theorem dX12_settling_23 : decode cX12_settling 23 = .ok (.iload_n 2, 1) := by decide +kernel
theorem dX12_settling_24 : decode cX12_settling 24 = .ok (.aload_n 0, 1) := by decide +kernel
theorem dX12_settling_25 : decode cX12_settling 25 = .ok (.iload_n 3, 1) := by decide +kernel
theorem dX12_settling_26 : decode cX12_settling 26 = .ok (.iload_n 1, 1) := by decide +kernel
theorem dX12_settling_27 : decode cX12_settling 27 = .ok (.invokevirtual 132, 3) := by decide +kernel
theorem dX12_settling_30 : decode cX12_settling 30 = .ok (.ifCond .eq 9, 3) := by decide +kernel
theorem dX12_settling_33 : decode cX12_settling 33 = .ok (.iconst 1, 1) := by decide +kernel
theorem dX12_settling_34 : decode cX12_settling 34 = .ok (.iload_n 3, 1) := by decide +kernel
theorem dX12_settling_35 : decode cX12_settling 35 = .ok (.ishl, 1) := by decide +kernel
theorem dX12_settling_36 : decode cX12_settling 36 = .ok (.goto 4, 3) := by decide +kernel
theorem dX12_settling_39 : decode cX12_settling 39 = .ok (.iconst 0, 1) := by decide +kernel
theorem dX12_settling_40 : decode cX12_settling 40 = .ok (.ior, 1) := by decide +kernel
theorem dX12_settling_41 : decode cX12_settling 41 = .ok (.istore_n 2, 1) := by decide +kernel
theorem dX12_settling_42 : decode cX12_settling 42 = .ok (.iinc 3 1, 3) := by decide +kernel
theorem dX12_settling_45 : decode cX12_settling 45 = .ok (.goto (-27), 3) := by decide +kernel
theorem dX12_settling_48 : decode cX12_settling 48 = .ok (.iload_n 2, 1) := by decide +kernel
theorem dX12_settling_49 : decode cX12_settling 49 = .ok (.invokestatic 164, 3) := by decide +kernel
theorem dX12_settling_52 : decode cX12_settling 52 = .ok (.aload_n 0, 1) := by decide +kernel
theorem dX12_settling_53 : decode cX12_settling 53 = .ok (.iload_n 2, 1) := by decide +kernel
theorem dX12_settling_54 : decode cX12_settling 54 = .ok (.iload_n 1, 1) := by decide +kernel
theorem dX12_settling_55 : decode cX12_settling 55 = .ok (.invokevirtual 161, 3) := by decide +kernel
theorem dX12_settling_58 : decode cX12_settling 58 = .ok (.isub, 1) := by decide +kernel
theorem dX12_settling_59 : decode cX12_settling 59 = .ok (.ireturn, 1) := by decide +kernel
theorem dX12_cannotPay_0 : decode cX12_cannotPay 0 = .ok (.aload_n 0, 1) := by decide +kernel
theorem dX12_cannotPay_1 : decode cX12_cannotPay 1 = .ok (.iload_n 1, 1) := by decide +kernel
theorem dX12_cannotPay_2 : decode cX12_cannotPay 2 = .ok (.invokevirtual 122, 3) := by decide +kernel
theorem dX12_cannotPay_5 : decode cX12_cannotPay 5 = .ok (.ifCond .ne 9, 3) := by decide +kernel
theorem dX12_cannotPay_8 : decode cX12_cannotPay 8 = .ok (.aload_n 0, 1) := by decide +kernel
theorem dX12_cannotPay_9 : decode cX12_cannotPay 9 = .ok (.iconst (-1), 1) := by decide +kernel
theorem dX12_cannotPay_10 : decode cX12_cannotPay 10 = .ok (.invokevirtual 47, 3) := by decide +kernel
theorem dX12_cannotPay_13 : decode cX12_cannotPay 13 = .ok (.ireturn, 1) := by decide +kernel
theorem dX12_cannotPay_14 : decode cX12_cannotPay 14 = .ok (.iconst 0, 1) := by decide +kernel
theorem dX12_cannotPay_15 : decode cX12_cannotPay 15 = .ok (.istore_n 2, 1) := by decide +kernel
theorem dX12_cannotPay_16 : decode cX12_cannotPay 16 = .ok (.iconst 0, 1) := by decide +kernel
theorem dX12_cannotPay_17 : decode cX12_cannotPay 17 = .ok (.istore_n 3, 1) := by decide +kernel
theorem dX12_cannotPay_18 : decode cX12_cannotPay 18 = .ok (.iload_n 3, 1) := by decide +kernel
theorem dX12_cannotPay_19 : decode cX12_cannotPay 19 = .ok (.iconst 4, 1) := by decide +kernel
theorem dX12_cannotPay_20 : decode cX12_cannotPay 20 = .ok (.if_icmp .ge 38, 3) := by decide +kernel
theorem dX12_cannotPay_23 : decode cX12_cannotPay 23 = .ok (.iload_n 2, 1) := by decide +kernel
theorem dX12_cannotPay_24 : decode cX12_cannotPay 24 = .ok (.aload_n 0, 1) := by decide +kernel
theorem dX12_cannotPay_25 : decode cX12_cannotPay 25 = .ok (.iload_n 3, 1) := by decide +kernel
theorem dX12_cannotPay_26 : decode cX12_cannotPay 26 = .ok (.iload_n 1, 1) := by decide +kernel
theorem dX12_cannotPay_27 : decode cX12_cannotPay 27 = .ok (.invokevirtual 132, 3) := by decide +kernel
theorem dX12_cannotPay_30 : decode cX12_cannotPay 30 = .ok (.ineg, 1) := by decide +kernel
theorem dX12_cannotPay_31 : decode cX12_cannotPay 31 = .ok (.aload_n 0, 1) := by decide +kernel
theorem dX12_cannotPay_32 : decode cX12_cannotPay 32 = .ok (.getfield 13, 3) := by decide +kernel
theorem dX12_cannotPay_35 : decode cX12_cannotPay 35 = .ok (.bipush 6, 2) := by decide +kernel
theorem dX12_cannotPay_37 : decode cX12_cannotPay 37 = .ok (.iload_n 3, 1) := by decide +kernel
theorem dX12_cannotPay_38 : decode cX12_cannotPay 38 = .ok (.iadd, 1) := by decide +kernel
theorem dX12_cannotPay_39 : decode cX12_cannotPay 39 = .ok (.iaload, 1) := by decide +kernel
theorem dX12_cannotPay_40 : decode cX12_cannotPay 40 = .ok (.if_icmp .le 9, 3) := by decide +kernel
theorem dX12_cannotPay_43 : decode cX12_cannotPay 43 = .ok (.iconst 1, 1) := by decide +kernel
theorem dX12_cannotPay_44 : decode cX12_cannotPay 44 = .ok (.iload_n 3, 1) := by decide +kernel
theorem dX12_cannotPay_45 : decode cX12_cannotPay 45 = .ok (.ishl, 1) := by decide +kernel
theorem dX12_cannotPay_46 : decode cX12_cannotPay 46 = .ok (.goto 4, 3) := by decide +kernel
theorem dX12_cannotPay_49 : decode cX12_cannotPay 49 = .ok (.iconst 0, 1) := by decide +kernel
theorem dX12_cannotPay_50 : decode cX12_cannotPay 50 = .ok (.ior, 1) := by decide +kernel
theorem dX12_cannotPay_51 : decode cX12_cannotPay 51 = .ok (.istore_n 2, 1) := by decide +kernel
theorem dX12_cannotPay_52 : decode cX12_cannotPay 52 = .ok (.iinc 3 1, 3) := by decide +kernel
theorem dX12_cannotPay_55 : decode cX12_cannotPay 55 = .ok (.goto (-37), 3) := by decide +kernel
theorem dX12_cannotPay_58 : decode cX12_cannotPay 58 = .ok (.iload_n 2, 1) := by decide +kernel
theorem dX12_cannotPay_59 : decode cX12_cannotPay 59 = .ok (.ireturn, 1) := by decide +kernel
theorem dX12_marked_0 : decode cX12_marked 0 = .ok (.iconst 0, 1) := by decide +kernel
theorem dX12_marked_1 : decode cX12_marked 1 = .ok (.istore_n 2, 1) := by decide +kernel
theorem dX12_marked_2 : decode cX12_marked 2 = .ok (.iconst 1, 1) := by decide +kernel
theorem dX12_marked_3 : decode cX12_marked 3 = .ok (.istore_n 3, 1) := by decide +kernel
theorem dX12_marked_4 : decode cX12_marked 4 = .ok (.iload_n 3, 1) := by decide +kernel
theorem dX12_marked_5 : decode cX12_marked 5 = .ok (.aload_n 0, 1) := by decide +kernel
theorem dX12_marked_6 : decode cX12_marked 6 = .ok (.iload_n 1, 1) := by decide +kernel
theorem dX12_marked_7 : decode cX12_marked 7 = .ok (.iconst 0, 1) := by decide +kernel
theorem dX12_marked_8 : decode cX12_marked 8 = .ok (.invokevirtual 96, 3) := by decide +kernel
theorem dX12_marked_11 : decode cX12_marked 11 = .ok (.iconst 2, 1) := by decide +kernel
theorem dX12_marked_12 : decode cX12_marked 12 = .ok (.if_icmp .ge 7, 3) := by decide +kernel
theorem dX12_marked_15 : decode cX12_marked 15 = .ok (.iconst 1, 1) := by decide +kernel
theorem dX12_marked_16 : decode cX12_marked 16 = .ok (.goto 4, 3) := by decide +kernel
theorem dX12_marked_19 : decode cX12_marked 19 = .ok (.iconst 2, 1) := by decide +kernel
theorem dX12_marked_20 : decode cX12_marked 20 = .ok (.if_icmp .gt 50, 3) := by decide +kernel
theorem dX12_marked_23 : decode cX12_marked 23 = .ok (.aload_n 0, 1) := by decide +kernel
theorem dX12_marked_24 : decode cX12_marked 24 = .ok (.iload_n 1, 1) := by decide +kernel
theorem dX12_marked_25 : decode cX12_marked 25 = .ok (.iload_n 3, 1) := by decide +kernel
theorem dX12_marked_26 : decode cX12_marked 26 = .ok (.invokevirtual 96, 3) := by decide +kernel
theorem dX12_marked_29 : decode cX12_marked 29 = .ok (.bipush 10, 2) := by decide +kernel
theorem dX12_marked_31 : decode cX12_marked 31 = .ok (.if_icmp .lt 33, 3) := by decide +kernel
theorem dX12_marked_34 : decode cX12_marked 34 = .ok (.aload_n 0, 1) := by decide +kernel
theorem dX12_marked_35 : decode cX12_marked 35 = .ok (.aload_n 0, 1) := by decide +kernel
theorem dX12_marked_36 : decode cX12_marked 36 = .ok (.iload_n 1, 1) := by decide +kernel
theorem dX12_marked_37 : decode cX12_marked 37 = .ok (.iload_n 3, 1) := by decide +kernel
theorem dX12_marked_38 : decode cX12_marked 38 = .ok (.invokevirtual 96, 3) := by decide +kernel
theorem dX12_marked_41 : decode cX12_marked 41 = .ok (.bipush 10, 2) := by decide +kernel
theorem dX12_marked_43 : decode cX12_marked 43 = .ok (.isub, 1) := by decide +kernel
theorem dX12_marked_44 : decode cX12_marked 44 = .ok (.invokevirtual 93, 3) := by decide +kernel
theorem dX12_marked_47 : decode cX12_marked 47 = .ok (.ifCond .eq 17, 3) := by decide +kernel
theorem dX12_marked_50 : decode cX12_marked 50 = .ok (.iload_n 2, 1) := by decide +kernel
theorem dX12_marked_51 : decode cX12_marked 51 = .ok (.iconst 1, 1) := by decide +kernel
theorem dX12_marked_52 : decode cX12_marked 52 = .ok (.aload_n 0, 1) := by decide +kernel
theorem dX12_marked_53 : decode cX12_marked 53 = .ok (.iload_n 1, 1) := by decide +kernel
theorem dX12_marked_54 : decode cX12_marked 54 = .ok (.iload_n 3, 1) := by decide +kernel
theorem dX12_marked_55 : decode cX12_marked 55 = .ok (.invokevirtual 96, 3) := by decide +kernel
theorem dX12_marked_58 : decode cX12_marked 58 = .ok (.bipush 10, 2) := by decide +kernel
theorem dX12_marked_60 : decode cX12_marked 60 = .ok (.isub, 1) := by decide +kernel
theorem dX12_marked_61 : decode cX12_marked 61 = .ok (.ishl, 1) := by decide +kernel
theorem dX12_marked_62 : decode cX12_marked 62 = .ok (.ior, 1) := by decide +kernel
theorem dX12_marked_63 : decode cX12_marked 63 = .ok (.istore_n 2, 1) := by decide +kernel
theorem dX12_marked_64 : decode cX12_marked 64 = .ok (.iinc 3 1, 3) := by decide +kernel
theorem dX12_marked_67 : decode cX12_marked 67 = .ok (.goto (-63), 3) := by decide +kernel
theorem dX12_marked_70 : decode cX12_marked 70 = .ok (.iload_n 2, 1) := by decide +kernel
theorem dX12_marked_71 : decode cX12_marked 71 = .ok (.ireturn, 1) := by decide +kernel
theorem dX12_rings_0 : decode cX12_rings 0 = .ok (.iconst 0, 1) := by decide +kernel
theorem dX12_rings_1 : decode cX12_rings 1 = .ok (.istore_n 1, 1) := by decide +kernel
theorem dX12_rings_2 : decode cX12_rings 2 = .ok (.iconst 0, 1) := by decide +kernel
theorem dX12_rings_3 : decode cX12_rings 3 = .ok (.istore_n 2, 1) := by decide +kernel
theorem dX12_rings_4 : decode cX12_rings 4 = .ok (.iload_n 2, 1) := by decide +kernel
theorem dX12_rings_5 : decode cX12_rings 5 = .ok (.aload_n 0, 1) := by decide +kernel
theorem dX12_rings_6 : decode cX12_rings 6 = .ok (.getfield 13, 3) := by decide +kernel
theorem dX12_rings_9 : decode cX12_rings 9 = .ok (.iconst 1, 1) := by decide +kernel
theorem dX12_rings_10 : decode cX12_rings 10 = .ok (.iaload, 1) := by decide +kernel
theorem dX12_rings_11 : decode cX12_rings 11 = .ok (.if_icmp .ge 78, 3) := by decide +kernel
theorem dX12_rings_14 : decode cX12_rings 14 = .ok (.aload_n 0, 1) := by decide +kernel
theorem dX12_rings_15 : decode cX12_rings 15 = .ok (.iload_n 2, 1) := by decide +kernel
theorem dX12_rings_16 : decode cX12_rings 16 = .ok (.invokevirtual 167, 3) := by decide +kernel
theorem dX12_rings_19 : decode cX12_rings 19 = .ok (.istore_n 3, 1) := by decide +kernel
theorem dX12_rings_20 : decode cX12_rings 20 = .ok (.iconst 0, 1) := by decide +kernel
theorem dX12_rings_21 : decode cX12_rings 21 = .ok (.istore 4, 2) := by decide +kernel
theorem dX12_rings_23 : decode cX12_rings 23 = .ok (.iload 4, 2) := by decide +kernel
theorem dX12_rings_25 : decode cX12_rings 25 = .ok (.bipush 6, 2) := by decide +kernel
theorem dX12_rings_27 : decode cX12_rings 27 = .ok (.if_icmp .ge 48, 3) := by decide +kernel
theorem dX12_rings_30 : decode cX12_rings 30 = .ok (.iconst 0, 1) := by decide +kernel
theorem dX12_rings_31 : decode cX12_rings 31 = .ok (.istore 5, 2) := by decide +kernel
theorem dX12_rings_33 : decode cX12_rings 33 = .ok (.iload 5, 2) := by decide +kernel
theorem dX12_rings_35 : decode cX12_rings 35 = .ok (.aload_n 0, 1) := by decide +kernel
theorem dX12_rings_36 : decode cX12_rings 36 = .ok (.getfield 13, 3) := by decide +kernel
theorem dX12_rings_39 : decode cX12_rings 39 = .ok (.iconst 1, 1) := by decide +kernel
theorem dX12_rings_40 : decode cX12_rings 40 = .ok (.iaload, 1) := by decide +kernel
theorem dX12_rings_41 : decode cX12_rings 41 = .ok (.if_icmp .ge 28, 3) := by decide +kernel
theorem dX12_rings_44 : decode cX12_rings 44 = .ok (.iload_n 3, 1) := by decide +kernel
theorem dX12_rings_45 : decode cX12_rings 45 = .ok (.iload 5, 2) := by decide +kernel
theorem dX12_rings_47 : decode cX12_rings 47 = .ok (.ishr, 1) := by decide +kernel
theorem dX12_rings_48 : decode cX12_rings 48 = .ok (.iconst 1, 1) := by decide +kernel
theorem dX12_rings_49 : decode cX12_rings 49 = .ok (.iand, 1) := by decide +kernel
theorem dX12_rings_50 : decode cX12_rings 50 = .ok (.iconst 1, 1) := by decide +kernel
theorem dX12_rings_51 : decode cX12_rings 51 = .ok (.if_icmp .ne 12, 3) := by decide +kernel
theorem dX12_rings_54 : decode cX12_rings 54 = .ok (.iload_n 3, 1) := by decide +kernel
theorem dX12_rings_55 : decode cX12_rings 55 = .ok (.aload_n 0, 1) := by decide +kernel
theorem dX12_rings_56 : decode cX12_rings 56 = .ok (.iload 5, 2) := by decide +kernel
theorem dX12_rings_58 : decode cX12_rings 58 = .ok (.invokevirtual 167, 3) := by decide +kernel
theorem dX12_rings_61 : decode cX12_rings 61 = .ok (.ior, 1) := by decide +kernel
theorem dX12_rings_62 : decode cX12_rings 62 = .ok (.istore_n 3, 1) := by decide +kernel
theorem dX12_rings_63 : decode cX12_rings 63 = .ok (.iinc 5 1, 3) := by decide +kernel
theorem dX12_rings_66 : decode cX12_rings 66 = .ok (.goto (-33), 3) := by decide +kernel
theorem dX12_rings_69 : decode cX12_rings 69 = .ok (.iinc 4 1, 3) := by decide +kernel
theorem dX12_rings_72 : decode cX12_rings 72 = .ok (.goto (-49), 3) := by decide +kernel
theorem dX12_rings_75 : decode cX12_rings 75 = .ok (.iload_n 1, 1) := by decide +kernel
theorem dX12_rings_76 : decode cX12_rings 76 = .ok (.iload_n 3, 1) := by decide +kernel
theorem dX12_rings_77 : decode cX12_rings 77 = .ok (.iconst 1, 1) := by decide +kernel
theorem dX12_rings_78 : decode cX12_rings 78 = .ok (.iload_n 2, 1) := by decide +kernel
theorem dX12_rings_79 : decode cX12_rings 79 = .ok (.ishl, 1) := by decide +kernel
theorem dX12_rings_80 : decode cX12_rings 80 = .ok (.iand, 1) := by decide +kernel
theorem dX12_rings_81 : decode cX12_rings 81 = .ok (.ior, 1) := by decide +kernel
theorem dX12_rings_82 : decode cX12_rings 82 = .ok (.istore_n 1, 1) := by decide +kernel
theorem dX12_rings_83 : decode cX12_rings 83 = .ok (.iinc 2 1, 3) := by decide +kernel
theorem dX12_rings_86 : decode cX12_rings 86 = .ok (.goto (-82), 3) := by decide +kernel
theorem dX12_rings_89 : decode cX12_rings 89 = .ok (.iload_n 1, 1) := by decide +kernel
theorem dX12_rings_90 : decode cX12_rings 90 = .ok (.ireturn, 1) := by decide +kernel
theorem dX12_row_0 : decode cX12_row 0 = .ok (.iload_n 1, 1) := by decide +kernel
theorem dX12_row_1 : decode cX12_row 1 = .ok (.iconst 0, 1) := by decide +kernel
theorem dX12_row_2 : decode cX12_row 2 = .ok (.sipush 999, 3) := by decide +kernel
theorem dX12_row_5 : decode cX12_row 5 = .ok (.invokestatic 39, 3) := by decide +kernel
theorem dX12_row_8 : decode cX12_row 8 = .ok (.istore_n 2, 1) := by decide +kernel
theorem dX12_row_9 : decode cX12_row 9 = .ok (.iload_n 2, 1) := by decide +kernel
theorem dX12_row_10 : decode cX12_row 10 = .ok (.ifCond .ne 14, 3) := by decide +kernel
theorem dX12_row_13 : decode cX12_row 13 = .ok (.aload_n 0, 1) := by decide +kernel
theorem dX12_row_14 : decode cX12_row 14 = .ok (.getfield 170, 3) := by decide +kernel
theorem dX12_row_17 : decode cX12_row 17 = .ok (.iconst 4, 1) := by decide +kernel
theorem dX12_row_18 : decode cX12_row 18 = .ok (.if_icmp .ne 6, 3) := by decide +kernel
theorem dX12_row_21 : decode cX12_row 21 = .ok (.bipush (-6), 2) := by decide +kernel
theorem dX12_row_23 : decode cX12_row 23 = .ok (.istore_n 2, 1) := by decide +kernel
theorem dX12_row_24 : decode cX12_row 24 = .ok (.iload_n 2, 1) := by decide +kernel
theorem dX12_row_25 : decode cX12_row 25 = .ok (.ifCond .eq 9, 3) := by decide +kernel
theorem dX12_row_28 : decode cX12_row 28 = .ok (.aload_n 0, 1) := by decide +kernel
theorem dX12_row_29 : decode cX12_row 29 = .ok (.iload_n 2, 1) := by decide +kernel
theorem dX12_row_30 : decode cX12_row 30 = .ok (.invokevirtual 47, 3) := by decide +kernel
theorem dX12_row_33 : decode cX12_row 33 = .ok (.ireturn, 1) := by decide +kernel
theorem dX12_row_34 : decode cX12_row 34 = .ok (.aload_n 0, 1) := by decide +kernel
theorem dX12_row_35 : decode cX12_row 35 = .ok (.getfield 28, 3) := by decide +kernel
theorem dX12_row_38 : decode cX12_row 38 = .ok (.aload_n 0, 1) := by decide +kernel
theorem dX12_row_39 : decode cX12_row 39 = .ok (.getfield 170, 3) := by decide +kernel
theorem dX12_row_42 : decode cX12_row 42 = .ok (.iload_n 1, 1) := by decide +kernel
theorem dX12_row_43 : decode cX12_row 43 = .ok (.iastore, 1) := by decide +kernel
theorem dX12_row_44 : decode cX12_row 44 = .ok (.aload_n 0, 1) := by decide +kernel
theorem dX12_row_45 : decode cX12_row 45 = .ok (.dup, 1) := by decide +kernel
theorem dX12_row_46 : decode cX12_row 46 = .ok (.getfield 170, 3) := by decide +kernel
theorem dX12_row_49 : decode cX12_row 49 = .ok (.iconst 1, 1) := by decide +kernel
theorem dX12_row_50 : decode cX12_row 50 = .ok (.iadd, 1) := by decide +kernel
theorem dX12_row_51 : decode cX12_row 51 = .ok (.putfield 170, 3) := by decide +kernel
theorem dX12_row_54 : decode cX12_row 54 = .ok (.aload_n 0, 1) := by decide +kernel
theorem dX12_row_55 : decode cX12_row 55 = .ok (.getfield 170, 3) := by decide +kernel
theorem dX12_row_58 : decode cX12_row 58 = .ok (.ireturn, 1) := by decide +kernel
theorem dX12_wrongIn_0 : decode cX12_wrongIn 0 = .ok (.iconst 0, 1) := by decide +kernel
theorem dX12_wrongIn_1 : decode cX12_wrongIn 1 = .ok (.istore_n 2, 1) := by decide +kernel
theorem dX12_wrongIn_2 : decode cX12_wrongIn 2 = .ok (.iload_n 2, 1) := by decide +kernel
theorem dX12_wrongIn_3 : decode cX12_wrongIn 3 = .ok (.aload_n 0, 1) := by decide +kernel
theorem dX12_wrongIn_4 : decode cX12_wrongIn 4 = .ok (.getfield 170, 3) := by decide +kernel
theorem dX12_wrongIn_7 : decode cX12_wrongIn 7 = .ok (.if_icmp .ge 30, 3) := by decide +kernel
theorem dX12_wrongIn_10 : decode cX12_wrongIn 10 = .ok (.aload_n 0, 1) := by decide +kernel
theorem dX12_wrongIn_11 : decode cX12_wrongIn 11 = .ok (.getfield 28, 3) := by decide +kernel
theorem dX12_wrongIn_14 : decode cX12_wrongIn 14 = .ok (.iload_n 2, 1) := by decide +kernel
theorem dX12_wrongIn_15 : decode cX12_wrongIn 15 = .ok (.iaload, 1) := by decide +kernel
theorem dX12_wrongIn_16 : decode cX12_wrongIn 16 = .ok (.aload_n 0, 1) := by decide +kernel
theorem dX12_wrongIn_17 : decode cX12_wrongIn 17 = .ok (.iload_n 2, 1) := by decide +kernel
theorem dX12_wrongIn_18 : decode cX12_wrongIn 18 = .ok (.iload_n 1, 1) := by decide +kernel
theorem dX12_wrongIn_19 : decode cX12_wrongIn 19 = .ok (.invokevirtual 132, 3) := by decide +kernel
theorem dX12_wrongIn_22 : decode cX12_wrongIn 22 = .ok (.sipush 500, 3) := by decide +kernel
theorem dX12_wrongIn_25 : decode cX12_wrongIn 25 = .ok (.iadd, 1) := by decide +kernel
theorem dX12_wrongIn_26 : decode cX12_wrongIn 26 = .ok (.if_icmp .eq 5, 3) := by decide +kernel
theorem dX12_wrongIn_29 : decode cX12_wrongIn 29 = .ok (.iload_n 2, 1) := by decide +kernel
theorem dX12_wrongIn_30 : decode cX12_wrongIn 30 = .ok (.ireturn, 1) := by decide +kernel
theorem dX12_wrongIn_31 : decode cX12_wrongIn 31 = .ok (.iinc 2 1, 3) := by decide +kernel
theorem dX12_wrongIn_34 : decode cX12_wrongIn 34 = .ok (.goto (-32), 3) := by decide +kernel
theorem dX12_wrongIn_37 : decode cX12_wrongIn 37 = .ok (.bipush (-9), 2) := by decide +kernel
theorem dX12_wrongIn_39 : decode cX12_wrongIn 39 = .ok (.ireturn, 1) := by decide +kernel
theorem dX12_fitting_0 : decode cX12_fitting 0 = .ok (.iload_n 1, 1) := by decide +kernel
theorem dX12_fitting_1 : decode cX12_fitting 1 = .ok (.iconst 2, 1) := by decide +kernel
theorem dX12_fitting_2 : decode cX12_fitting 2 = .ok (.invokestatic 31, 3) := by decide +kernel
theorem dX12_fitting_5 : decode cX12_fitting 5 = .ok (.ifCond .ne 10, 3) := by decide +kernel
theorem dX12_fitting_8 : decode cX12_fitting 8 = .ok (.aload_n 0, 1) := by decide +kernel
theorem dX12_fitting_9 : decode cX12_fitting 9 = .ok (.bipush (-2), 2) := by decide +kernel
theorem dX12_fitting_11 : decode cX12_fitting 11 = .ok (.invokevirtual 47, 3) := by decide +kernel
theorem dX12_fitting_14 : decode cX12_fitting 14 = .ok (.ireturn, 1) := by decide +kernel
theorem dX12_fitting_15 : decode cX12_fitting 15 = .ok (.iconst 0, 1) := by decide +kernel
theorem dX12_fitting_16 : decode cX12_fitting 16 = .ok (.istore_n 2, 1) := by decide +kernel
theorem dX12_fitting_17 : decode cX12_fitting 17 = .ok (.iconst 0, 1) := by decide +kernel
theorem dX12_fitting_18 : decode cX12_fitting 18 = .ok (.istore_n 3, 1) := by decide +kernel
theorem dX12_fitting_19 : decode cX12_fitting 19 = .ok (.iload_n 3, 1) := by decide +kernel
theorem dX12_fitting_20 : decode cX12_fitting 20 = .ok (.aload_n 0, 1) := by decide +kernel
theorem dX12_fitting_21 : decode cX12_fitting 21 = .ok (.invokevirtual 35, 3) := by decide +kernel
theorem dX12_fitting_24 : decode cX12_fitting 24 = .ok (.if_icmp .ge 27, 3) := by decide +kernel
theorem dX12_fitting_27 : decode cX12_fitting 27 = .ok (.iload_n 2, 1) := by decide +kernel
theorem dX12_fitting_28 : decode cX12_fitting 28 = .ok (.aload_n 0, 1) := by decide +kernel
theorem dX12_fitting_29 : decode cX12_fitting 29 = .ok (.iload_n 3, 1) := by decide +kernel
theorem dX12_fitting_30 : decode cX12_fitting 30 = .ok (.invokevirtual 173, 3) := by decide +kernel
theorem dX12_fitting_33 : decode cX12_fitting 33 = .ok (.ifCond .ge 9, 3) := by decide +kernel
theorem dX12_fitting_36 : decode cX12_fitting 36 = .ok (.iconst 1, 1) := by decide +kernel
theorem dX12_fitting_37 : decode cX12_fitting 37 = .ok (.iload_n 3, 1) := by decide +kernel
theorem dX12_fitting_38 : decode cX12_fitting 38 = .ok (.ishl, 1) := by decide +kernel
theorem dX12_fitting_39 : decode cX12_fitting 39 = .ok (.goto 4, 3) := by decide +kernel
theorem dX12_fitting_42 : decode cX12_fitting 42 = .ok (.iconst 0, 1) := by decide +kernel
theorem dX12_fitting_43 : decode cX12_fitting 43 = .ok (.ior, 1) := by decide +kernel
theorem dX12_fitting_44 : decode cX12_fitting 44 = .ok (.istore_n 2, 1) := by decide +kernel
theorem dX12_fitting_45 : decode cX12_fitting 45 = .ok (.iinc 3 1, 3) := by decide +kernel
theorem dX12_fitting_48 : decode cX12_fitting 48 = .ok (.goto (-29), 3) := by decide +kernel
theorem dX12_fitting_51 : decode cX12_fitting 51 = .ok (.iload_n 1, 1) := by decide +kernel
theorem dX12_fitting_52 : decode cX12_fitting 52 = .ok (.ifCond .ne 7, 3) := by decide +kernel
theorem dX12_fitting_55 : decode cX12_fitting 55 = .ok (.iload_n 2, 1) := by decide +kernel
theorem dX12_fitting_56 : decode cX12_fitting 56 = .ok (.goto 7, 3) := by decide +kernel
theorem dX12_fitting_59 : decode cX12_fitting 59 = .ok (.iload_n 2, 1) := by decide +kernel
theorem dX12_fitting_60 : decode cX12_fitting 60 = .ok (.invokestatic 164, 3) := by decide +kernel
theorem dX12_fitting_63 : decode cX12_fitting 63 = .ok (.ireturn, 1) := by decide +kernel
theorem dX12_judge_0 : decode cX12_judge 0 = .ok (.aload_n 0, 1) := by decide +kernel
theorem dX12_judge_1 : decode cX12_judge 1 = .ok (.iload_n 1, 1) := by decide +kernel
theorem dX12_judge_2 : decode cX12_judge 2 = .ok (.invokevirtual 122, 3) := by decide +kernel
theorem dX12_judge_5 : decode cX12_judge 5 = .ok (.ifCond .ne 9, 3) := by decide +kernel
theorem dX12_judge_8 : decode cX12_judge 8 = .ok (.aload_n 0, 1) := by decide +kernel
theorem dX12_judge_9 : decode cX12_judge 9 = .ok (.iconst (-1), 1) := by decide +kernel
theorem dX12_judge_10 : decode cX12_judge 10 = .ok (.invokevirtual 47, 3) := by decide +kernel
theorem dX12_judge_13 : decode cX12_judge 13 = .ok (.ireturn, 1) := by decide +kernel
theorem dX12_judge_14 : decode cX12_judge 14 = .ok (.aload_n 0, 1) := by decide +kernel
theorem dX12_judge_15 : decode cX12_judge 15 = .ok (.iload_n 1, 1) := by decide +kernel
theorem dX12_judge_16 : decode cX12_judge 16 = .ok (.invokevirtual 173, 3) := by decide +kernel
theorem dX12_judge_19 : decode cX12_judge 19 = .ok (.istore_n 2, 1) := by decide +kernel
theorem dX12_judge_20 : decode cX12_judge 20 = .ok (.aload_n 0, 1) := by decide +kernel
theorem dX12_judge_21 : decode cX12_judge 21 = .ok (.iconst 0, 1) := by decide +kernel
theorem dX12_judge_22 : decode cX12_judge 22 = .ok (.putfield 170, 3) := by decide +kernel
theorem dX12_judge_25 : decode cX12_judge 25 = .ok (.iload_n 2, 1) := by decide +kernel
theorem dX12_judge_26 : decode cX12_judge 26 = .ok (.ireturn, 1) := by decide +kernel
theorem dX12_seeds_0 : decode cX12_seeds 0 = .ok (.iload_n 3, 1) := by decide +kernel
theorem dX12_seeds_1 : decode cX12_seeds 1 = .ok (.invokestatic 77, 3) := by decide +kernel
theorem dX12_seeds_4 : decode cX12_seeds 4 = .ok (.ifCond .ne 7, 3) := by decide +kernel
theorem dX12_seeds_7 : decode cX12_seeds 7 = .ok (.iconst (-1), 1) := by decide +kernel
theorem dX12_seeds_8 : decode cX12_seeds 8 = .ok (.goto 10, 3) := by decide +kernel
theorem dX12_seeds_11 : decode cX12_seeds 11 = .ok (.iload_n 1, 1) := by decide +kernel
theorem dX12_seeds_12 : decode cX12_seeds 12 = .ok (.iconst 1, 1) := by decide +kernel
theorem dX12_seeds_13 : decode cX12_seeds 13 = .ok (.bipush 30, 2) := by decide +kernel
theorem dX12_seeds_15 : decode cX12_seeds 15 = .ok (.invokestatic 39, 3) := by decide +kernel
theorem dX12_seeds_18 : decode cX12_seeds 18 = .ok (.istore 4, 2) := by decide +kernel
theorem dX12_seeds_20 : decode cX12_seeds 20 = .ok (.iload 4, 2) := by decide +kernel
theorem dX12_seeds_22 : decode cX12_seeds 22 = .ok (.ifCond .eq 13, 3) := by decide +kernel
theorem dX12_seeds_25 : decode cX12_seeds 25 = .ok (.ldc 135, 2) := by decide +kernel
theorem dX12_seeds_27 : decode cX12_seeds 27 = .ok (.aload_n 0, 1) := by decide +kernel
theorem dX12_seeds_28 : decode cX12_seeds 28 = .ok (.iload 4, 2) := by decide +kernel
theorem dX12_seeds_30 : decode cX12_seeds 30 = .ok (.invokevirtual 47, 3) := by decide +kernel
theorem dX12_seeds_33 : decode cX12_seeds 33 = .ok (.isub, 1) := by decide +kernel
theorem dX12_seeds_34 : decode cX12_seeds 34 = .ok (.ireturn, 1) := by decide +kernel
theorem dX12_seeds_35 : decode cX12_seeds 35 = .ok (.iload_n 2, 1) := by decide +kernel
theorem dX12_seeds_36 : decode cX12_seeds 36 = .ok (.istore 5, 2) := by decide +kernel
theorem dX12_seeds_38 : decode cX12_seeds 38 = .ok (.iconst 0, 1) := by decide +kernel
theorem dX12_seeds_39 : decode cX12_seeds 39 = .ok (.istore 6, 2) := by decide +kernel
theorem dX12_seeds_41 : decode cX12_seeds 41 = .ok (.iconst 0, 1) := by decide +kernel
theorem dX12_seeds_42 : decode cX12_seeds 42 = .ok (.istore 7, 2) := by decide +kernel
theorem dX12_seeds_44 : decode cX12_seeds 44 = .ok (.iload 7, 2) := by decide +kernel
theorem dX12_seeds_46 : decode cX12_seeds 46 = .ok (.iload_n 1, 1) := by decide +kernel
theorem dX12_seeds_47 : decode cX12_seeds 47 = .ok (.if_icmp .ge 91, 3) := by decide +kernel
theorem dX12_seeds_50 : decode cX12_seeds 50 = .ok (.iconst 0, 1) := by decide +kernel
theorem dX12_seeds_51 : decode cX12_seeds 51 = .ok (.istore 8, 2) := by decide +kernel
theorem dX12_seeds_53 : decode cX12_seeds 53 = .ok (.iconst 0, 1) := by decide +kernel
theorem dX12_seeds_54 : decode cX12_seeds 54 = .ok (.istore 9, 2) := by decide +kernel
theorem dX12_seeds_56 : decode cX12_seeds 56 = .ok (.iload 9, 2) := by decide +kernel
theorem dX12_seeds_58 : decode cX12_seeds 58 = .ok (.aload_n 0, 1) := by decide +kernel
theorem dX12_seeds_59 : decode cX12_seeds 59 = .ok (.getfield 13, 3) := by decide +kernel
theorem dX12_seeds_62 : decode cX12_seeds 62 = .ok (.iconst 0, 1) := by decide +kernel
theorem dX12_seeds_63 : decode cX12_seeds 63 = .ok (.iaload, 1) := by decide +kernel
theorem dX12_seeds_64 : decode cX12_seeds 64 = .ok (.if_icmp .ge 56, 3) := by decide +kernel
theorem dX12_seeds_67 : decode cX12_seeds 67 = .ok (.iload 5, 2) := by decide +kernel
theorem dX12_seeds_69 : decode cX12_seeds 69 = .ok (.ldc 176, 2) := by decide +kernel
theorem dX12_seeds_71 : decode cX12_seeds 71 = .ok (.imul, 1) := by decide +kernel
theorem dX12_seeds_72 : decode cX12_seeds 72 = .ok (.ldc 177, 2) := by decide +kernel
theorem dX12_seeds_74 : decode cX12_seeds 74 = .ok (.iadd, 1) := by decide +kernel
theorem dX12_seeds_75 : decode cX12_seeds 75 = .ok (.istore 5, 2) := by decide +kernel
theorem dX12_seeds_77 : decode cX12_seeds 77 = .ok (.iload 8, 2) := by decide +kernel
theorem dX12_seeds_79 : decode cX12_seeds 79 = .ok (.iload 5, 2) := by decide +kernel
theorem dX12_seeds_81 : decode cX12_seeds 81 = .ok (.ldc 178, 2) := by decide +kernel
theorem dX12_seeds_83 : decode cX12_seeds 83 = .ok (.iand, 1) := by decide +kernel
theorem dX12_seeds_84 : decode cX12_seeds 84 = .ok (.sipush 256, 3) := by decide +kernel
theorem dX12_seeds_87 : decode cX12_seeds 87 = .ok (.idiv, 1) := by decide +kernel
theorem dX12_seeds_88 : decode cX12_seeds 88 = .ok (.bipush 100, 2) := by decide +kernel
theorem dX12_seeds_90 : decode cX12_seeds 90 = .ok (.irem, 1) := by decide +kernel
theorem dX12_seeds_91 : decode cX12_seeds 91 = .ok (.aload_n 0, 1) := by decide +kernel
theorem dX12_seeds_92 : decode cX12_seeds 92 = .ok (.getfield 13, 3) := by decide +kernel
theorem dX12_seeds_95 : decode cX12_seeds 95 = .ok (.iconst 2, 1) := by decide +kernel
theorem dX12_seeds_96 : decode cX12_seeds 96 = .ok (.iload 9, 2) := by decide +kernel
theorem dX12_seeds_98 : decode cX12_seeds 98 = .ok (.iadd, 1) := by decide +kernel
theorem dX12_seeds_99 : decode cX12_seeds 99 = .ok (.iaload, 1) := by decide +kernel
theorem dX12_seeds_100 : decode cX12_seeds 100 = .ok (.if_icmp .ge 10, 3) := by decide +kernel
theorem dX12_seeds_103 : decode cX12_seeds 103 = .ok (.iconst 1, 1) := by decide +kernel
theorem dX12_seeds_104 : decode cX12_seeds 104 = .ok (.iload 9, 2) := by decide +kernel
theorem dX12_seeds_106 : decode cX12_seeds 106 = .ok (.ishl, 1) := by decide +kernel
theorem dX12_seeds_107 : decode cX12_seeds 107 = .ok (.goto 4, 3) := by decide +kernel
theorem dX12_seeds_110 : decode cX12_seeds 110 = .ok (.iconst 0, 1) := by decide +kernel
theorem dX12_seeds_111 : decode cX12_seeds 111 = .ok (.ior, 1) := by decide +kernel
theorem dX12_seeds_112 : decode cX12_seeds 112 = .ok (.istore 8, 2) := by decide +kernel
theorem dX12_seeds_114 : decode cX12_seeds 114 = .ok (.iinc 9 1, 3) := by decide +kernel
theorem dX12_seeds_117 : decode cX12_seeds 117 = .ok (.goto (-61), 3) := by decide +kernel
theorem dX12_seeds_120 : decode cX12_seeds 120 = .ok (.iload 6, 2) := by decide +kernel
theorem dX12_seeds_122 : decode cX12_seeds 122 = .ok (.aload_n 0, 1) := by decide +kernel
theorem dX12_seeds_123 : decode cX12_seeds 123 = .ok (.iload_n 3, 1) := by decide +kernel
theorem dX12_seeds_124 : decode cX12_seeds 124 = .ok (.iload 8, 2) := by decide +kernel
theorem dX12_seeds_126 : decode cX12_seeds 126 = .ok (.invokevirtual 132, 3) := by decide +kernel
theorem dX12_seeds_129 : decode cX12_seeds 129 = .ok (.iadd, 1) := by decide +kernel
theorem dX12_seeds_130 : decode cX12_seeds 130 = .ok (.istore 6, 2) := by decide +kernel
theorem dX12_seeds_132 : decode cX12_seeds 132 = .ok (.iinc 7 1, 3) := by decide +kernel
theorem dX12_seeds_135 : decode cX12_seeds 135 = .ok (.goto (-91), 3) := by decide +kernel
theorem dX12_seeds_138 : decode cX12_seeds 138 = .ok (.iload 6, 2) := by decide +kernel
theorem dX12_seeds_140 : decode cX12_seeds 140 = .ok (.ireturn, 1) := by decide +kernel
theorem dX12_image_0 : decode cX12_image 0 = .ok (.aload_n 0, 1) := by decide +kernel
theorem dX12_image_1 : decode cX12_image 1 = .ok (.getfield 13, 3) := by decide +kernel
theorem dX12_image_4 : decode cX12_image 4 = .ok (.aload_n 0, 1) := by decide +kernel
theorem dX12_image_5 : decode cX12_image 5 = .ok (.getfield 16, 3) := by decide +kernel
theorem dX12_image_8 : decode cX12_image 8 = .ok (.invokestatic 83, 3) := by decide +kernel
theorem dX12_image_11 : decode cX12_image 11 = .ok (.aload_n 0, 1) := by decide +kernel
theorem dX12_image_12 : decode cX12_image 12 = .ok (.iconst 1, 1) := by decide +kernel
theorem dX12_image_13 : decode cX12_image 13 = .ok (.putfield 179, 3) := by decide +kernel
theorem dX12_image_16 : decode cX12_image 16 = .ok (.aload_n 0, 1) := by decide +kernel
theorem dX12_image_17 : decode cX12_image 17 = .ok (.getfield 13, 3) := by decide +kernel
theorem dX12_image_20 : decode cX12_image 20 = .ok (.iconst 1, 1) := by decide +kernel
theorem dX12_image_21 : decode cX12_image 21 = .ok (.iaload, 1) := by decide +kernel
theorem dX12_image_22 : decode cX12_image 22 = .ok (.ireturn, 1) := by decide +kernel
theorem dX12_on_0 : decode cX12_on 0 = .ok (.aload_n 0, 1) := by decide +kernel
theorem dX12_on_1 : decode cX12_on 1 = .ok (.getfield 179, 3) := by decide +kernel
theorem dX12_on_4 : decode cX12_on 4 = .ok (.ifCond .ne 10, 3) := by decide +kernel
theorem dX12_on_7 : decode cX12_on 7 = .ok (.aload_n 0, 1) := by decide +kernel
theorem dX12_on_8 : decode cX12_on 8 = .ok (.bipush (-3), 2) := by decide +kernel
theorem dX12_on_10 : decode cX12_on 10 = .ok (.invokevirtual 47, 3) := by decide +kernel
theorem dX12_on_13 : decode cX12_on 13 = .ok (.ireturn, 1) := by decide +kernel
theorem dX12_on_14 : decode cX12_on 14 = .ok (.aload_n 0, 1) := by decide +kernel
theorem dX12_on_15 : decode cX12_on 15 = .ok (.getfield 16, 3) := by decide +kernel
theorem dX12_on_18 : decode cX12_on 18 = .ok (.aload_n 0, 1) := by decide +kernel
theorem dX12_on_19 : decode cX12_on 19 = .ok (.getfield 13, 3) := by decide +kernel
theorem dX12_on_22 : decode cX12_on 22 = .ok (.invokestatic 83, 3) := by decide +kernel
theorem dX12_on_25 : decode cX12_on 25 = .ok (.aload_n 0, 1) := by decide +kernel
theorem dX12_on_26 : decode cX12_on 26 = .ok (.getfield 13, 3) := by decide +kernel
theorem dX12_on_29 : decode cX12_on 29 = .ok (.iconst 1, 1) := by decide +kernel
theorem dX12_on_30 : decode cX12_on 30 = .ok (.iaload, 1) := by decide +kernel
theorem dX12_on_31 : decode cX12_on 31 = .ok (.ireturn, 1) := by decide +kernel
theorem dX12_count_0 : decode cX12_count 0 = .ok (.iload_n 1, 1) := by decide +kernel
theorem dX12_count_1 : decode cX12_count 1 = .ok (.bipush 10, 2) := by decide +kernel
theorem dX12_count_3 : decode cX12_count 3 = .ok (.if_icmp .le 19, 3) := by decide +kernel
theorem dX12_count_6 : decode cX12_count 6 = .ok (.iload_n 1, 1) := by decide +kernel
theorem dX12_count_7 : decode cX12_count 7 = .ok (.bipush 17, 2) := by decide +kernel
theorem dX12_count_9 : decode cX12_count 9 = .ok (.if_icmp .ge 13, 3) := by decide +kernel
theorem dX12_count_12 : decode cX12_count 12 = .ok (.aload_n 0, 1) := by decide +kernel
theorem dX12_count_13 : decode cX12_count 13 = .ok (.getfield 7, 3) := by decide +kernel
theorem dX12_count_16 : decode cX12_count 16 = .ok (.iload_n 1, 1) := by decide +kernel
theorem dX12_count_17 : decode cX12_count 17 = .ok (.bipush 10, 2) := by decide +kernel
theorem dX12_count_19 : decode cX12_count 19 = .ok (.isub, 1) := by decide +kernel
theorem dX12_count_20 : decode cX12_count 20 = .ok (.iaload, 1) := by decide +kernel
theorem dX12_count_21 : decode cX12_count 21 = .ok (.ireturn, 1) := by decide +kernel
theorem dX12_count_22 : decode cX12_count 22 = .ok (.iconst 0, 1) := by decide +kernel
theorem dX12_count_23 : decode cX12_count 23 = .ok (.istore_n 2, 1) := by decide +kernel
theorem dX12_count_24 : decode cX12_count 24 = .ok (.iload_n 1, 1) := by decide +kernel
theorem dX12_count_25 : decode cX12_count 25 = .ok (.tableswitch 90 0 5 #[39, 39, 46, 51, 80, 85], 39) := by decide +kernel
theorem dX12_count_64 : decode cX12_count 64 = .ok (.aload_n 0, 1) := by decide +kernel
theorem dX12_count_65 : decode cX12_count 65 = .ok (.getfield 13, 3) := by decide +kernel
theorem dX12_count_68 : decode cX12_count 68 = .ok (.iload_n 1, 1) := by decide +kernel
theorem dX12_count_69 : decode cX12_count 69 = .ok (.iaload, 1) := by decide +kernel
theorem dX12_count_70 : decode cX12_count 70 = .ok (.ireturn, 1) := by decide +kernel
theorem dX12_count_71 : decode cX12_count 71 = .ok (.aload_n 0, 1) := by decide +kernel
theorem dX12_count_72 : decode cX12_count 72 = .ok (.invokevirtual 35, 3) := by decide +kernel
theorem dX12_count_75 : decode cX12_count 75 = .ok (.ireturn, 1) := by decide +kernel
theorem dX12_count_76 : decode cX12_count 76 = .ok (.iconst 0, 1) := by decide +kernel
theorem dX12_count_77 : decode cX12_count 77 = .ok (.istore_n 3, 1) := by decide +kernel
theorem dX12_count_78 : decode cX12_count 78 = .ok (.iload_n 3, 1) := by decide +kernel
theorem dX12_count_79 : decode cX12_count 79 = .ok (.aload_n 0, 1) := by decide +kernel
theorem dX12_count_80 : decode cX12_count 80 = .ok (.getfield 13, 3) := by decide +kernel
theorem dX12_count_83 : decode cX12_count 83 = .ok (.iconst 1, 1) := by decide +kernel
theorem dX12_count_84 : decode cX12_count 84 = .ok (.iaload, 1) := by decide +kernel
theorem dX12_count_85 : decode cX12_count 85 = .ok (.if_icmp .ge 18, 3) := by decide +kernel
theorem dX12_count_88 : decode cX12_count 88 = .ok (.iload_n 2, 1) := by decide +kernel
theorem dX12_count_89 : decode cX12_count 89 = .ok (.aload_n 0, 1) := by decide +kernel
theorem dX12_count_90 : decode cX12_count 90 = .ok (.iload_n 3, 1) := by decide +kernel
theorem dX12_count_91 : decode cX12_count 91 = .ok (.iconst 3, 1) := by decide +kernel
theorem dX12_count_92 : decode cX12_count 92 = .ok (.invokevirtual 96, 3) := by decide +kernel
theorem dX12_count_95 : decode cX12_count 95 = .ok (.iadd, 1) := by decide +kernel
theorem dX12_count_96 : decode cX12_count 96 = .ok (.istore_n 2, 1) := by decide +kernel
theorem dX12_count_97 : decode cX12_count 97 = .ok (.iinc 3 1, 3) := by decide +kernel
theorem dX12_count_100 : decode cX12_count 100 = .ok (.goto (-22), 3) := by decide +kernel
theorem dX12_count_103 : decode cX12_count 103 = .ok (.iload_n 2, 1) := by decide +kernel
theorem dX12_count_104 : decode cX12_count 104 = .ok (.ireturn, 1) := by decide +kernel
theorem dX12_count_105 : decode cX12_count 105 = .ok (.aload_n 0, 1) := by decide +kernel
theorem dX12_count_106 : decode cX12_count 106 = .ok (.getfield 170, 3) := by decide +kernel
theorem dX12_count_109 : decode cX12_count 109 = .ok (.ireturn, 1) := by decide +kernel
theorem dX12_count_110 : decode cX12_count 110 = .ok (.aload_n 0, 1) := by decide +kernel
theorem dX12_count_111 : decode cX12_count 111 = .ok (.getfield 43, 3) := by decide +kernel
theorem dX12_count_114 : decode cX12_count 114 = .ok (.ireturn, 1) := by decide +kernel
theorem dX12_count_115 : decode cX12_count 115 = .ok (.bipush (-9), 2) := by decide +kernel
theorem dX12_count_117 : decode cX12_count 117 = .ok (.ireturn, 1) := by decide +kernel
end
section
theorem dX11_init_0 : decode cX11_init 0 = .ok (.aload_n 0, 1) := by decide +kernel
theorem dX11_init_1 : decode cX11_init 1 = .ok (.invokespecial 1, 3) := by decide +kernel
theorem dX11_init_4 : decode cX11_init 4 = .ok (.aload_n 0, 1) := by decide +kernel
theorem dX11_init_5 : decode cX11_init 5 = .ok (.new 7, 3) := by decide +kernel
theorem dX11_init_8 : decode cX11_init 8 = .ok (.dup, 1) := by decide +kernel
theorem dX11_init_9 : decode cX11_init 9 = .ok (.bipush 80, 2) := by decide +kernel
theorem dX11_init_11 : decode cX11_init 11 = .ok (.invokespecial 11, 3) := by decide +kernel
theorem dX11_init_14 : decode cX11_init 14 = .ok (.putfield 14, 3) := by decide +kernel
theorem dX11_init_17 : decode cX11_init 17 = .ok (.aload_n 0, 1) := by decide +kernel
theorem dX11_init_18 : decode cX11_init 18 = .ok (.new 7, 3) := by decide +kernel
theorem dX11_init_21 : decode cX11_init 21 = .ok (.dup, 1) := by decide +kernel
theorem dX11_init_22 : decode cX11_init 22 = .ok (.iconst 4, 1) := by decide +kernel
theorem dX11_init_23 : decode cX11_init 23 = .ok (.invokespecial 11, 3) := by decide +kernel
theorem dX11_init_26 : decode cX11_init 26 = .ok (.putfield 18, 3) := by decide +kernel
theorem dX11_init_29 : decode cX11_init 29 = .ok (.aload_n 0, 1) := by decide +kernel
theorem dX11_init_30 : decode cX11_init 30 = .ok (.new 21, 3) := by decide +kernel
theorem dX11_init_33 : decode cX11_init 33 = .ok (.dup, 1) := by decide +kernel
theorem dX11_init_34 : decode cX11_init 34 = .ok (.aload_n 0, 1) := by decide +kernel
theorem dX11_init_35 : decode cX11_init 35 = .ok (.getfield 14, 3) := by decide +kernel
theorem dX11_init_38 : decode cX11_init 38 = .ok (.invokespecial 23, 3) := by decide +kernel
theorem dX11_init_41 : decode cX11_init 41 = .ok (.putfield 26, 3) := by decide +kernel
theorem dX11_init_44 : decode cX11_init 44 = .ok (.aload_n 0, 1) := by decide +kernel
theorem dX11_init_45 : decode cX11_init 45 = .ok (.new 30, 3) := by decide +kernel
theorem dX11_init_48 : decode cX11_init 48 = .ok (.dup, 1) := by decide +kernel
theorem dX11_init_49 : decode cX11_init 49 = .ok (.invokespecial 32, 3) := by decide +kernel
theorem dX11_init_52 : decode cX11_init 52 = .ok (.putfield 33, 3) := by decide +kernel
theorem dX11_init_55 : decode cX11_init 55 = .ok (.aload_n 0, 1) := by decide +kernel
theorem dX11_init_56 : decode cX11_init 56 = .ok (.new 30, 3) := by decide +kernel
theorem dX11_init_59 : decode cX11_init 59 = .ok (.dup, 1) := by decide +kernel
theorem dX11_init_60 : decode cX11_init 60 = .ok (.invokespecial 32, 3) := by decide +kernel
theorem dX11_init_63 : decode cX11_init 63 = .ok (.putfield 37, 3) := by decide +kernel
theorem dX11_init_66 : decode cX11_init 66 = .ok (.aload_n 0, 1) := by decide +kernel
theorem dX11_init_67 : decode cX11_init 67 = .ok (.new 30, 3) := by decide +kernel
theorem dX11_init_70 : decode cX11_init 70 = .ok (.dup, 1) := by decide +kernel
theorem dX11_init_71 : decode cX11_init 71 = .ok (.invokespecial 32, 3) := by decide +kernel
theorem dX11_init_74 : decode cX11_init 74 = .ok (.putfield 40, 3) := by decide +kernel
theorem dX11_init_77 : decode cX11_init 77 = .ok (.aload_n 0, 1) := by decide +kernel
theorem dX11_init_78 : decode cX11_init 78 = .ok (.new 43, 3) := by decide +kernel
theorem dX11_init_81 : decode cX11_init 81 = .ok (.dup, 1) := by decide +kernel
theorem dX11_init_82 : decode cX11_init 82 = .ok (.invokespecial 45, 3) := by decide +kernel
theorem dX11_init_85 : decode cX11_init 85 = .ok (.putfield 46, 3) := by decide +kernel
theorem dX11_init_88 : decode cX11_init 88 = .ok (.aload_n 0, 1) := by decide +kernel
theorem dX11_init_89 : decode cX11_init 89 = .ok (.bipush 7, 2) := by decide +kernel
theorem dX11_init_91 : decode cX11_init 91 = .ok (.newarray .int, 2) := by decide +kernel
theorem dX11_init_93 : decode cX11_init 93 = .ok (.putfield 50, 3) := by decide +kernel
theorem dX11_init_96 : decode cX11_init 96 = .ok (.aload_n 0, 1) := by decide +kernel
theorem dX11_init_97 : decode cX11_init 97 = .ok (.bipush 16, 2) := by decide +kernel
theorem dX11_init_99 : decode cX11_init 99 = .ok (.newarray .int, 2) := by decide +kernel
theorem dX11_init_101 : decode cX11_init 101 = .ok (.putfield 54, 3) := by decide +kernel
theorem dX11_init_104 : decode cX11_init 104 = .ok (.aload_n 0, 1) := by decide +kernel
theorem dX11_init_105 : decode cX11_init 105 = .ok (.bipush 6, 2) := by decide +kernel
theorem dX11_init_107 : decode cX11_init 107 = .ok (.newarray .int, 2) := by decide +kernel
theorem dX11_init_109 : decode cX11_init 109 = .ok (.putfield 57, 3) := by decide +kernel
theorem dX11_init_112 : decode cX11_init 112 = .ok (.aload_n 0, 1) := by decide +kernel
theorem dX11_init_113 : decode cX11_init 113 = .ok (.iconst 0, 1) := by decide +kernel
theorem dX11_init_114 : decode cX11_init 114 = .ok (.putfield 60, 3) := by decide +kernel
theorem dX11_init_117 : decode cX11_init 117 = .ok (.return_, 1) := by decide +kernel
theorem dX11_letter_0 : decode cX11_letter 0 = .ok (.aload_n 0, 1) := by decide +kernel
theorem dX11_letter_1 : decode cX11_letter 1 = .ok (.aload_n 0, 1) := by decide +kernel
theorem dX11_letter_2 : decode cX11_letter 2 = .ok (.getfield 14, 3) := by decide +kernel
theorem dX11_letter_5 : decode cX11_letter 5 = .ok (.iload_n 1, 1) := by decide +kernel
theorem dX11_letter_6 : decode cX11_letter 6 = .ok (.sipush 255, 3) := by decide +kernel
theorem dX11_letter_9 : decode cX11_letter 9 = .ok (.invokevirtual 64, 3) := by decide +kernel
theorem dX11_letter_12 : decode cX11_letter 12 = .ok (.ireturn, 1) := by decide +kernel
theorem dX11_inn_0 : decode cX11_inn 0 = .ok (.aload_n 0, 1) := by decide +kernel
theorem dX11_inn_1 : decode cX11_inn 1 = .ok (.getfield 26, 3) := by decide +kernel
theorem dX11_inn_4 : decode cX11_inn 4 = .ok (.invokevirtual 68, 3) := by decide +kernel
theorem dX11_inn_7 : decode cX11_inn 7 = .ok (.istore_n 1, 1) := by decide +kernel
theorem dX11_inn_8 : decode cX11_inn 8 = .ok (.iload_n 1, 1) := by decide +kernel
theorem dX11_inn_9 : decode cX11_inn 9 = .ok (.ifCond .lt 11, 3) := by decide +kernel
theorem dX11_inn_12 : decode cX11_inn 12 = .ok (.sipush (-1000), 3) := by decide +kernel
theorem dX11_inn_15 : decode cX11_inn 15 = .ok (.iload_n 1, 1) := by decide +kernel
theorem dX11_inn_16 : decode cX11_inn 16 = .ok (.isub, 1) := by decide +kernel
theorem dX11_inn_17 : decode cX11_inn 17 = .ok (.goto 7, 3) := by decide +kernel
theorem dX11_inn_20 : decode cX11_inn 20 = .ok (.aload_n 0, 1) := by decide +kernel
theorem dX11_inn_21 : decode cX11_inn 21 = .ok (.invokevirtual 72, 3) := by decide +kernel
theorem dX11_inn_24 : decode cX11_inn 24 = .ok (.istore_n 2, 1) := by decide +kernel
theorem dX11_inn_25 : decode cX11_inn 25 = .ok (.aload_n 0, 1) := by decide +kernel
theorem dX11_inn_26 : decode cX11_inn 26 = .ok (.getfield 14, 3) := by decide +kernel
theorem dX11_inn_29 : decode cX11_inn 29 = .ok (.invokevirtual 75, 3) := by decide +kernel
theorem dX11_inn_32 : decode cX11_inn 32 = .ok (.iload_n 2, 1) := by decide +kernel
theorem dX11_inn_33 : decode cX11_inn 33 = .ok (.ireturn, 1) := by decide +kernel
theorem dX11_chance_0 : decode cX11_chance 0 = .ok (.iload_n 1, 1) := by decide +kernel
theorem dX11_chance_1 : decode cX11_chance 1 = .ok (.ifCond .lt 14, 3) := by decide +kernel
theorem dX11_chance_4 : decode cX11_chance 4 = .ok (.iload_n 1, 1) := by decide +kernel
theorem dX11_chance_5 : decode cX11_chance 5 = .ok (.aload_n 0, 1) := by decide +kernel
theorem dX11_chance_6 : decode cX11_chance 6 = .ok (.getfield 33, 3) := by decide +kernel
theorem dX11_chance_9 : decode cX11_chance 9 = .ok (.getfield 78, 3) := by decide +kernel
theorem dX11_chance_12 : decode cX11_chance 12 = .ok (.if_icmp .lt 9, 3) := by decide +kernel
theorem dX11_chance_15 : decode cX11_chance 15 = .ok (.aload_n 0, 1) := by decide +kernel
theorem dX11_chance_16 : decode cX11_chance 16 = .ok (.iconst (-1), 1) := by decide +kernel
theorem dX11_chance_17 : decode cX11_chance 17 = .ok (.invokevirtual 82, 3) := by decide +kernel
theorem dX11_chance_20 : decode cX11_chance 20 = .ok (.ireturn, 1) := by decide +kernel
theorem dX11_chance_21 : decode cX11_chance 21 = .ok (.aload_n 0, 1) := by decide +kernel
theorem dX11_chance_22 : decode cX11_chance 22 = .ok (.getfield 33, 3) := by decide +kernel
theorem dX11_chance_25 : decode cX11_chance 25 = .ok (.iload_n 1, 1) := by decide +kernel
theorem dX11_chance_26 : decode cX11_chance 26 = .ok (.invokevirtual 86, 3) := by decide +kernel
theorem dX11_chance_29 : decode cX11_chance 29 = .ok (.ireturn, 1) := by decide +kernel
theorem dX11_bet_0 : decode cX11_bet 0 = .ok (.aload_n 0, 1) := by decide +kernel
theorem dX11_bet_1 : decode cX11_bet 1 = .ok (.getfield 33, 3) := by decide +kernel
theorem dX11_bet_4 : decode cX11_bet 4 = .ok (.iload_n 1, 1) := by decide +kernel
theorem dX11_bet_5 : decode cX11_bet 5 = .ok (.invokevirtual 89, 3) := by decide +kernel
theorem dX11_bet_8 : decode cX11_bet 8 = .ok (.ifCond .ne 9, 3) := by decide +kernel
theorem dX11_bet_11 : decode cX11_bet 11 = .ok (.aload_n 0, 1) := by decide +kernel
theorem dX11_bet_12 : decode cX11_bet 12 = .ok (.iconst (-1), 1) := by decide +kernel
theorem dX11_bet_13 : decode cX11_bet 13 = .ok (.invokevirtual 82, 3) := by decide +kernel
theorem dX11_bet_16 : decode cX11_bet 16 = .ok (.ireturn, 1) := by decide +kernel
theorem dX11_bet_17 : decode cX11_bet 17 = .ok (.iload_n 2, 1) := by decide +kernel
theorem dX11_bet_18 : decode cX11_bet 18 = .ok (.ifCond .lt 9, 3) := by decide +kernel
theorem dX11_bet_21 : decode cX11_bet 21 = .ok (.iload_n 2, 1) := by decide +kernel
theorem dX11_bet_22 : decode cX11_bet 22 = .ok (.bipush 6, 2) := by decide +kernel
theorem dX11_bet_24 : decode cX11_bet 24 = .ok (.if_icmp .le 10, 3) := by decide +kernel
theorem dX11_bet_27 : decode cX11_bet 27 = .ok (.aload_n 0, 1) := by decide +kernel
theorem dX11_bet_28 : decode cX11_bet 28 = .ok (.bipush (-2), 2) := by decide +kernel
theorem dX11_bet_30 : decode cX11_bet 30 = .ok (.invokevirtual 82, 3) := by decide +kernel
theorem dX11_bet_33 : decode cX11_bet 33 = .ok (.ireturn, 1) := by decide +kernel
theorem dX11_bet_34 : decode cX11_bet 34 = .ok (.aload_n 0, 1) := by decide +kernel
theorem dX11_bet_35 : decode cX11_bet 35 = .ok (.getfield 33, 3) := by decide +kernel
theorem dX11_bet_38 : decode cX11_bet 38 = .ok (.iload_n 1, 1) := by decide +kernel
theorem dX11_bet_39 : decode cX11_bet 39 = .ok (.iload_n 2, 1) := by decide +kernel
theorem dX11_bet_40 : decode cX11_bet 40 = .ok (.invokevirtual 93, 3) := by decide +kernel
theorem dX11_bet_43 : decode cX11_bet 43 = .ok (.ireturn, 1) := by decide +kernel
theorem dX11_set_0 : decode cX11_set 0 = .ok (.aload_n 0, 1) := by decide +kernel
theorem dX11_set_1 : decode cX11_set 1 = .ok (.getfield 33, 3) := by decide +kernel
theorem dX11_set_4 : decode cX11_set 4 = .ok (.iload_n 1, 1) := by decide +kernel
theorem dX11_set_5 : decode cX11_set 5 = .ok (.invokevirtual 89, 3) := by decide +kernel
theorem dX11_set_8 : decode cX11_set 8 = .ok (.ifCond .ne 9, 3) := by decide +kernel
theorem dX11_set_11 : decode cX11_set 11 = .ok (.aload_n 0, 1) := by decide +kernel
theorem dX11_set_12 : decode cX11_set 12 = .ok (.iconst (-1), 1) := by decide +kernel
theorem dX11_set_13 : decode cX11_set 13 = .ok (.invokevirtual 82, 3) := by decide +kernel
theorem dX11_set_16 : decode cX11_set 16 = .ok (.ireturn, 1) := by decide +kernel
theorem dX11_set_17 : decode cX11_set 17 = .ok (.iload_n 2, 1) := by decide +kernel
theorem dX11_set_18 : decode cX11_set 18 = .ok (.ifCond .eq 15, 3) := by decide +kernel
theorem dX11_set_21 : decode cX11_set 21 = .ok (.iload_n 2, 1) := by decide +kernel
theorem dX11_set_22 : decode cX11_set 22 = .ok (.iconst 1, 1) := by decide +kernel
theorem dX11_set_23 : decode cX11_set 23 = .ok (.if_icmp .eq 10, 3) := by decide +kernel
theorem dX11_set_26 : decode cX11_set 26 = .ok (.aload_n 0, 1) := by decide +kernel
theorem dX11_set_27 : decode cX11_set 27 = .ok (.bipush (-2), 2) := by decide +kernel
theorem dX11_set_29 : decode cX11_set 29 = .ok (.invokevirtual 82, 3) := by decide +kernel
theorem dX11_set_32 : decode cX11_set 32 = .ok (.ireturn, 1) := by decide +kernel
theorem dX11_set_33 : decode cX11_set 33 = .ok (.iload_n 2, 1) := by decide +kernel
theorem dX11_set_34 : decode cX11_set 34 = .ok (.ifCond .ne 7, 3) := by decide +kernel
theorem dX11_set_37 : decode cX11_set 37 = .ok (.iconst 1, 1) := by decide +kernel
theorem dX11_set_38 : decode cX11_set 38 = .ok (.goto 4, 3) := by decide +kernel
theorem dX11_set_41 : decode cX11_set 41 = .ok (.iconst 0, 1) := by decide +kernel
theorem dX11_set_42 : decode cX11_set 42 = .ok (.istore 4, 2) := by decide +kernel
theorem dX11_set_44 : decode cX11_set 44 = .ok (.iload_n 3, 1) := by decide +kernel
theorem dX11_set_45 : decode cX11_set 45 = .ok (.iload 4, 2) := by decide +kernel
theorem dX11_set_47 : decode cX11_set 47 = .ok (.ifCond .eq 7, 3) := by decide +kernel
theorem dX11_set_50 : decode cX11_set 50 = .ok (.iconst 1, 1) := by decide +kernel
theorem dX11_set_51 : decode cX11_set 51 = .ok (.goto 4, 3) := by decide +kernel
theorem dX11_set_54 : decode cX11_set 54 = .ok (.iconst 0, 1) := by decide +kernel
theorem dX11_set_55 : decode cX11_set 55 = .ok (.if_icmp .ge 10, 3) := by decide +kernel
theorem dX11_set_58 : decode cX11_set 58 = .ok (.aload_n 0, 1) := by decide +kernel
theorem dX11_set_59 : decode cX11_set 59 = .ok (.bipush (-4), 2) := by decide +kernel
theorem dX11_set_61 : decode cX11_set 61 = .ok (.invokevirtual 82, 3) := by decide +kernel
theorem dX11_set_64 : decode cX11_set 64 = .ok (.ireturn, 1) := by decide +kernel
theorem dX11_set_65 : decode cX11_set 65 = .ok (.iload_n 3, 1) := by decide +kernel
theorem dX11_set_66 : decode cX11_set 66 = .ok (.iload 4, 2) := by decide +kernel
theorem dX11_set_68 : decode cX11_set 68 = .ok (.ifCond .eq 8, 3) := by decide +kernel
theorem dX11_set_71 : decode cX11_set 71 = .ok (.bipush 99, 2) := by decide +kernel
theorem dX11_set_73 : decode cX11_set 73 = .ok (.goto 5, 3) := by decide +kernel
theorem dX11_set_76 : decode cX11_set 76 = .ok (.bipush 9, 2) := by decide +kernel
theorem dX11_set_78 : decode cX11_set 78 = .ok (.if_icmp .le 10, 3) := by decide +kernel
theorem dX11_set_81 : decode cX11_set 81 = .ok (.aload_n 0, 1) := by decide +kernel
theorem dX11_set_82 : decode cX11_set 82 = .ok (.bipush (-6), 2) := by decide +kernel
theorem dX11_set_84 : decode cX11_set 84 = .ok (.invokevirtual 82, 3) := by decide +kernel
theorem dX11_set_87 : decode cX11_set 87 = .ok (.ireturn, 1) := by decide +kernel
theorem dX11_set_88 : decode cX11_set 88 = .ok (.iload 4, 2) := by decide +kernel
theorem dX11_set_90 : decode cX11_set 90 = .ok (.ifCond .eq 7, 3) := by decide +kernel
theorem dX11_set_93 : decode cX11_set 93 = .ok (.iconst 3, 1) := by decide +kernel
theorem dX11_set_94 : decode cX11_set 94 = .ok (.goto 4, 3) := by decide +kernel
theorem dX11_set_97 : decode cX11_set 97 = .ok (.iconst 4, 1) := by decide +kernel
theorem dX11_set_98 : decode cX11_set 98 = .ok (.istore 5, 2) := by decide +kernel
theorem dX11_set_100 : decode cX11_set 100 = .ok (.aload_n 0, 1) := by decide +kernel
theorem dX11_set_101 : decode cX11_set 101 = .ok (.getfield 33, 3) := by decide +kernel
theorem dX11_set_104 : decode cX11_set 104 = .ok (.iload_n 1, 1) := by decide +kernel
theorem dX11_set_105 : decode cX11_set 105 = .ok (.iload 5, 2) := by decide +kernel
theorem dX11_set_107 : decode cX11_set 107 = .ok (.invokevirtual 93, 3) := by decide +kernel
theorem dX11_set_110 : decode cX11_set 110 = .ok (.istore 6, 2) := by decide +kernel
theorem dX11_set_112 : decode cX11_set 112 = .ok (.aload_n 0, 1) := by decide +kernel
theorem dX11_set_113 : decode cX11_set 113 = .ok (.getfield 33, 3) := by decide +kernel
theorem dX11_set_116 : decode cX11_set 116 = .ok (.iload_n 1, 1) := by decide +kernel
theorem dX11_set_117 : decode cX11_set 117 = .ok (.iload 5, 2) := by decide +kernel
theorem dX11_set_119 : decode cX11_set 119 = .ok (.iload_n 3, 1) := by decide +kernel
theorem dX11_set_120 : decode cX11_set 120 = .ok (.invokevirtual 97, 3) := by decide +kernel
theorem dX11_set_123 : decode cX11_set 123 = .ok (.iload 6, 2) := by decide +kernel
theorem dX11_set_125 : decode cX11_set 125 = .ok (.ireturn, 1) := by decide +kernel
theorem dX11_fund_0 : decode cX11_fund 0 = .ok (.iload_n 1, 1) := by decide +kernel
theorem dX11_fund_1 : decode cX11_fund 1 = .ok (.invokestatic 101, 3) := by decide +kernel
theorem dX11_fund_4 : decode cX11_fund 4 = .ok (.ifCond .ne 9, 3) := by decide +kernel
theorem dX11_fund_7 : decode cX11_fund 7 = .ok (.aload_n 0, 1) := by decide +kernel
theorem dX11_fund_8 : decode cX11_fund 8 = .ok (.iconst (-1), 1) := by decide +kernel
theorem dX11_fund_9 : decode cX11_fund 9 = .ok (.invokevirtual 82, 3) := by decide +kernel
theorem dX11_fund_12 : decode cX11_fund 12 = .ok (.ireturn, 1) := by decide +kernel
theorem dX11_fund_13 : decode cX11_fund 13 = .ok (.iload_n 2, 1) := by decide +kernel
theorem dX11_fund_14 : decode cX11_fund 14 = .ok (.ifCond .ge 10, 3) := by decide +kernel
theorem dX11_fund_17 : decode cX11_fund 17 = .ok (.aload_n 0, 1) := by decide +kernel
theorem dX11_fund_18 : decode cX11_fund 18 = .ok (.bipush (-4), 2) := by decide +kernel
theorem dX11_fund_20 : decode cX11_fund 20 = .ok (.invokevirtual 82, 3) := by decide +kernel
theorem dX11_fund_23 : decode cX11_fund 23 = .ok (.ireturn, 1) := by decide +kernel
theorem dX11_fund_24 : decode cX11_fund 24 = .ok (.iload_n 2, 1) := by decide +kernel
theorem dX11_fund_25 : decode cX11_fund 25 = .ok (.bipush 99, 2) := by decide +kernel
theorem dX11_fund_27 : decode cX11_fund 27 = .ok (.if_icmp .le 10, 3) := by decide +kernel
theorem dX11_fund_30 : decode cX11_fund 30 = .ok (.aload_n 0, 1) := by decide +kernel
theorem dX11_fund_31 : decode cX11_fund 31 = .ok (.bipush (-6), 2) := by decide +kernel
theorem dX11_fund_33 : decode cX11_fund 33 = .ok (.invokevirtual 82, 3) := by decide +kernel
theorem dX11_fund_36 : decode cX11_fund 36 = .ok (.ireturn, 1) := by decide +kernel
theorem dX11_fund_37 : decode cX11_fund 37 = .ok (.aload_n 0, 1) := by decide +kernel
theorem dX11_fund_38 : decode cX11_fund 38 = .ok (.getfield 33, 3) := by decide +kernel
theorem dX11_fund_41 : decode cX11_fund 41 = .ok (.iload_n 1, 1) := by decide +kernel
theorem dX11_fund_42 : decode cX11_fund 42 = .ok (.invokevirtual 104, 3) := by decide +kernel
theorem dX11_fund_45 : decode cX11_fund 45 = .ok (.istore_n 3, 1) := by decide +kernel
theorem dX11_fund_46 : decode cX11_fund 46 = .ok (.aload_n 0, 1) := by decide +kernel
theorem dX11_fund_47 : decode cX11_fund 47 = .ok (.getfield 33, 3) := by decide +kernel
theorem dX11_fund_50 : decode cX11_fund 50 = .ok (.iload_n 1, 1) := by decide +kernel
theorem dX11_fund_51 : decode cX11_fund 51 = .ok (.iload_n 2, 1) := by decide +kernel
theorem dX11_fund_52 : decode cX11_fund 52 = .ok (.invokevirtual 107, 3) := by decide +kernel
theorem dX11_fund_55 : decode cX11_fund 55 = .ok (.iload_n 3, 1) := by decide +kernel
theorem dX11_fund_56 : decode cX11_fund 56 = .ok (.ireturn, 1) := by decide +kernel
theorem dX11_ways_0 : decode cX11_ways 0 = .ok (.aload_n 0, 1) := by decide +kernel
theorem dX11_ways_1 : decode cX11_ways 1 = .ok (.getfield 33, 3) := by decide +kernel
theorem dX11_ways_4 : decode cX11_ways 4 = .ok (.iload_n 1, 1) := by decide +kernel
theorem dX11_ways_5 : decode cX11_ways 5 = .ok (.invokevirtual 111, 3) := by decide +kernel
theorem dX11_ways_8 : decode cX11_ways 8 = .ok (.ifCond .ne 9, 3) := by decide +kernel
theorem dX11_ways_11 : decode cX11_ways 11 = .ok (.aload_n 0, 1) := by decide +kernel
theorem dX11_ways_12 : decode cX11_ways 12 = .ok (.iconst (-1), 1) := by decide +kernel
theorem dX11_ways_13 : decode cX11_ways 13 = .ok (.invokevirtual 82, 3) := by decide +kernel
theorem dX11_ways_16 : decode cX11_ways 16 = .ok (.ireturn, 1) := by decide +kernel
theorem dX11_ways_17 : decode cX11_ways 17 = .ok (.iload_n 2, 1) := by decide +kernel
theorem dX11_ways_18 : decode cX11_ways 18 = .ok (.ifCond .eq 15, 3) := by decide +kernel
theorem dX11_ways_21 : decode cX11_ways 21 = .ok (.iload_n 2, 1) := by decide +kernel
theorem dX11_ways_22 : decode cX11_ways 22 = .ok (.iconst 1, 1) := by decide +kernel
theorem dX11_ways_23 : decode cX11_ways 23 = .ok (.if_icmp .eq 10, 3) := by decide +kernel
theorem dX11_ways_26 : decode cX11_ways 26 = .ok (.aload_n 0, 1) := by decide +kernel
theorem dX11_ways_27 : decode cX11_ways 27 = .ok (.bipush (-2), 2) := by decide +kernel
theorem dX11_ways_29 : decode cX11_ways 29 = .ok (.invokevirtual 82, 3) := by decide +kernel
theorem dX11_ways_32 : decode cX11_ways 32 = .ok (.ireturn, 1) := by decide +kernel
theorem dX11_ways_33 : decode cX11_ways 33 = .ok (.iload_n 2, 1) := by decide +kernel
theorem dX11_ways_34 : decode cX11_ways 34 = .ok (.ifCond .ne 14, 3) := by decide +kernel
theorem dX11_ways_37 : decode cX11_ways 37 = .ok (.aload_n 0, 1) := by decide +kernel
theorem dX11_ways_38 : decode cX11_ways 38 = .ok (.getfield 46, 3) := by decide +kernel
theorem dX11_ways_41 : decode cX11_ways 41 = .ok (.iload_n 1, 1) := by decide +kernel
theorem dX11_ways_42 : decode cX11_ways 42 = .ok (.invokevirtual 114, 3) := by decide +kernel
theorem dX11_ways_45 : decode cX11_ways 45 = .ok (.goto 11, 3) := by decide +kernel
theorem dX11_ways_48 : decode cX11_ways 48 = .ok (.aload_n 0, 1) := by decide +kernel
theorem dX11_ways_49 : decode cX11_ways 49 = .ok (.getfield 46, 3) := by decide +kernel
theorem dX11_ways_52 : decode cX11_ways 52 = .ok (.iload_n 1, 1) := by decide +kernel
theorem dX11_ways_53 : decode cX11_ways 53 = .ok (.invokevirtual 117, 3) := by decide +kernel
theorem dX11_ways_56 : decode cX11_ways 56 = .ok (.ireturn, 1) := by decide +kernel
theorem dX11_standing_0 : decode cX11_standing 0 = .ok (.aload_n 0, 1) := by decide +kernel
theorem dX11_standing_1 : decode cX11_standing 1 = .ok (.getfield 33, 3) := by decide +kernel
theorem dX11_standing_4 : decode cX11_standing 4 = .ok (.iload_n 1, 1) := by decide +kernel
theorem dX11_standing_5 : decode cX11_standing 5 = .ok (.invokevirtual 89, 3) := by decide +kernel
theorem dX11_standing_8 : decode cX11_standing 8 = .ok (.ifCond .eq 14, 3) := by decide +kernel
theorem dX11_standing_11 : decode cX11_standing 11 = .ok (.aload_n 0, 1) := by decide +kernel
theorem dX11_standing_12 : decode cX11_standing 12 = .ok (.getfield 33, 3) := by decide +kernel
theorem dX11_standing_15 : decode cX11_standing 15 = .ok (.iload_n 2, 1) := by decide +kernel
theorem dX11_standing_16 : decode cX11_standing 16 = .ok (.invokevirtual 111, 3) := by decide +kernel
theorem dX11_standing_19 : decode cX11_standing 19 = .ok (.ifCond .ne 9, 3) := by decide +kernel
theorem dX11_standing_22 : decode cX11_standing 22 = .ok (.aload_n 0, 1) := by decide +kernel
theorem dX11_standing_23 : decode cX11_standing 23 = .ok (.iconst (-1), 1) := by decide +kernel
theorem dX11_standing_24 : decode cX11_standing 24 = .ok (.invokevirtual 82, 3) := by decide +kernel
theorem dX11_standing_27 : decode cX11_standing 27 = .ok (.ireturn, 1) := by decide +kernel
theorem dX11_standing_28 : decode cX11_standing 28 = .ok (.aload_n 0, 1) := by decide +kernel
theorem dX11_standing_29 : decode cX11_standing 29 = .ok (.getfield 46, 3) := by decide +kernel
theorem dX11_standing_32 : decode cX11_standing 32 = .ok (.iload_n 1, 1) := by decide +kernel
theorem dX11_standing_33 : decode cX11_standing 33 = .ok (.iload_n 2, 1) := by decide +kernel
theorem dX11_standing_34 : decode cX11_standing 34 = .ok (.invokevirtual 120, 3) := by decide +kernel
theorem dX11_standing_37 : decode cX11_standing 37 = .ok (.ireturn, 1) := by decide +kernel
theorem dX11_purse_0 : decode cX11_purse 0 = .ok (.iload_n 1, 1) := by decide +kernel
theorem dX11_purse_1 : decode cX11_purse 1 = .ok (.invokestatic 101, 3) := by decide +kernel
theorem dX11_purse_4 : decode cX11_purse 4 = .ok (.ifCond .eq 14, 3) := by decide +kernel
theorem dX11_purse_7 : decode cX11_purse 7 = .ok (.aload_n 0, 1) := by decide +kernel
theorem dX11_purse_8 : decode cX11_purse 8 = .ok (.getfield 33, 3) := by decide +kernel
theorem dX11_purse_11 : decode cX11_purse 11 = .ok (.iload_n 2, 1) := by decide +kernel
theorem dX11_purse_12 : decode cX11_purse 12 = .ok (.invokevirtual 111, 3) := by decide +kernel
theorem dX11_purse_15 : decode cX11_purse 15 = .ok (.ifCond .ne 9, 3) := by decide +kernel
theorem dX11_purse_18 : decode cX11_purse 18 = .ok (.aload_n 0, 1) := by decide +kernel
theorem dX11_purse_19 : decode cX11_purse 19 = .ok (.iconst (-1), 1) := by decide +kernel
theorem dX11_purse_20 : decode cX11_purse 20 = .ok (.invokevirtual 123, 3) := by decide +kernel
theorem dX11_purse_23 : decode cX11_purse 23 = .ok (.ireturn, 1) := by decide +kernel
theorem dX11_purse_24 : decode cX11_purse 24 = .ok (.aload_n 0, 1) := by decide +kernel
theorem dX11_purse_25 : decode cX11_purse 25 = .ok (.aload_n 0, 1) := by decide +kernel
theorem dX11_purse_26 : decode cX11_purse 26 = .ok (.getfield 33, 3) := by decide +kernel
theorem dX11_purse_29 : decode cX11_purse 29 = .ok (.iload_n 1, 1) := by decide +kernel
theorem dX11_purse_30 : decode cX11_purse 30 = .ok (.iload_n 2, 1) := by decide +kernel
theorem dX11_purse_31 : decode cX11_purse 31 = .ok (.invokevirtual 126, 3) := by decide +kernel
theorem dX11_purse_34 : decode cX11_purse 34 = .ok (.ireturn, 1) := by decide +kernel
theorem dX11_mean_0 : decode cX11_mean 0 = .ok (.iload_n 1, 1) := by decide +kernel
theorem dX11_mean_1 : decode cX11_mean 1 = .ok (.invokestatic 101, 3) := by decide +kernel
theorem dX11_mean_4 : decode cX11_mean 4 = .ok (.ifCond .eq 15, 3) := by decide +kernel
theorem dX11_mean_7 : decode cX11_mean 7 = .ok (.aload_n 0, 1) := by decide +kernel
theorem dX11_mean_8 : decode cX11_mean 8 = .ok (.aload_n 0, 1) := by decide +kernel
theorem dX11_mean_9 : decode cX11_mean 9 = .ok (.getfield 33, 3) := by decide +kernel
theorem dX11_mean_12 : decode cX11_mean 12 = .ok (.iload_n 1, 1) := by decide +kernel
theorem dX11_mean_13 : decode cX11_mean 13 = .ok (.invokevirtual 130, 3) := by decide +kernel
theorem dX11_mean_16 : decode cX11_mean 16 = .ok (.goto 8, 3) := by decide +kernel
theorem dX11_mean_19 : decode cX11_mean 19 = .ok (.aload_n 0, 1) := by decide +kernel
theorem dX11_mean_20 : decode cX11_mean 20 = .ok (.iconst (-1), 1) := by decide +kernel
theorem dX11_mean_21 : decode cX11_mean 21 = .ok (.invokevirtual 123, 3) := by decide +kernel
theorem dX11_mean_24 : decode cX11_mean 24 = .ok (.ireturn, 1) := by decide +kernel
theorem dX11_worst_0 : decode cX11_worst 0 = .ok (.aload_n 0, 1) := by decide +kernel
theorem dX11_worst_1 : decode cX11_worst 1 = .ok (.iload_n 1, 1) := by decide +kernel
theorem dX11_worst_2 : decode cX11_worst 2 = .ok (.iload_n 2, 1) := by decide +kernel
theorem dX11_worst_3 : decode cX11_worst 3 = .ok (.iconst (-1), 1) := by decide +kernel
theorem dX11_worst_4 : decode cX11_worst 4 = .ok (.invokevirtual 134, 3) := by decide +kernel
theorem dX11_worst_7 : decode cX11_worst 7 = .ok (.ireturn, 1) := by decide +kernel
theorem dX11_best_0 : decode cX11_best 0 = .ok (.aload_n 0, 1) := by decide +kernel
theorem dX11_best_1 : decode cX11_best 1 = .ok (.iload_n 1, 1) := by decide +kernel
theorem dX11_best_2 : decode cX11_best 2 = .ok (.iload_n 2, 1) := by decide +kernel
theorem dX11_best_3 : decode cX11_best 3 = .ok (.iconst 1, 1) := by decide +kernel
theorem dX11_best_4 : decode cX11_best 4 = .ok (.invokevirtual 134, 3) := by decide +kernel
theorem dX11_best_7 : decode cX11_best 7 = .ok (.ireturn, 1) := by decide +kernel
theorem dX11_sure_0 : decode cX11_sure 0 = .ok (.iload_n 1, 1) := by decide +kernel
theorem dX11_sure_1 : decode cX11_sure 1 = .ok (.invokestatic 101, 3) := by decide +kernel
theorem dX11_sure_4 : decode cX11_sure 4 = .ok (.ifCond .ne 9, 3) := by decide +kernel
theorem dX11_sure_7 : decode cX11_sure 7 = .ok (.aload_n 0, 1) := by decide +kernel
theorem dX11_sure_8 : decode cX11_sure 8 = .ok (.iconst (-1), 1) := by decide +kernel
theorem dX11_sure_9 : decode cX11_sure 9 = .ok (.invokevirtual 82, 3) := by decide +kernel
theorem dX11_sure_12 : decode cX11_sure 12 = .ok (.ireturn, 1) := by decide +kernel
theorem dX11_sure_13 : decode cX11_sure 13 = .ok (.aload_n 0, 1) := by decide +kernel
theorem dX11_sure_14 : decode cX11_sure 14 = .ok (.aload_n 0, 1) := by decide +kernel
theorem dX11_sure_15 : decode cX11_sure 15 = .ok (.getfield 33, 3) := by decide +kernel
theorem dX11_sure_18 : decode cX11_sure 18 = .ok (.iload_n 1, 1) := by decide +kernel
theorem dX11_sure_19 : decode cX11_sure 19 = .ok (.aload_n 0, 1) := by decide +kernel
theorem dX11_sure_20 : decode cX11_sure 20 = .ok (.aload_n 0, 1) := by decide +kernel
theorem dX11_sure_21 : decode cX11_sure 21 = .ok (.getfield 33, 3) := by decide +kernel
theorem dX11_sure_24 : decode cX11_sure 24 = .ok (.iload_n 1, 1) := by decide +kernel
theorem dX11_sure_25 : decode cX11_sure 25 = .ok (.iconst (-1), 1) := by decide +kernel
theorem dX11_sure_26 : decode cX11_sure 26 = .ok (.invokevirtual 138, 3) := by decide +kernel
theorem dX11_sure_29 : decode cX11_sure 29 = .ok (.invokevirtual 126, 3) := by decide +kernel
theorem dX11_sure_32 : decode cX11_sure 32 = .ok (.ifCond .lt 7, 3) := by decide +kernel
theorem dX11_sure_35 : decode cX11_sure 35 = .ok (.iconst 1, 1) := by decide +kernel
theorem dX11_sure_36 : decode cX11_sure 36 = .ok (.goto 4, 3) := by decide +kernel
theorem dX11_sure_39 : decode cX11_sure 39 = .ok (.iconst 0, 1) := by decide +kernel
theorem dX11_sure_40 : decode cX11_sure 40 = .ok (.istore_n 2, 1) := by decide +kernel
theorem dX11_sure_41 : decode cX11_sure 41 = .ok (.aload_n 0, 1) := by decide +kernel
theorem dX11_sure_42 : decode cX11_sure 42 = .ok (.aload_n 0, 1) := by decide +kernel
theorem dX11_sure_43 : decode cX11_sure 43 = .ok (.getfield 33, 3) := by decide +kernel
theorem dX11_sure_46 : decode cX11_sure 46 = .ok (.iload_n 1, 1) := by decide +kernel
theorem dX11_sure_47 : decode cX11_sure 47 = .ok (.aload_n 0, 1) := by decide +kernel
theorem dX11_sure_48 : decode cX11_sure 48 = .ok (.aload_n 0, 1) := by decide +kernel
theorem dX11_sure_49 : decode cX11_sure 49 = .ok (.getfield 33, 3) := by decide +kernel
theorem dX11_sure_52 : decode cX11_sure 52 = .ok (.iload_n 1, 1) := by decide +kernel
theorem dX11_sure_53 : decode cX11_sure 53 = .ok (.iconst 1, 1) := by decide +kernel
theorem dX11_sure_54 : decode cX11_sure 54 = .ok (.invokevirtual 138, 3) := by decide +kernel
theorem dX11_sure_57 : decode cX11_sure 57 = .ok (.invokevirtual 126, 3) := by decide +kernel
theorem dX11_sure_60 : decode cX11_sure 60 = .ok (.ifCond .le 7, 3) := by decide +kernel
theorem dX11_sure_63 : decode cX11_sure 63 = .ok (.iconst 1, 1) := by decide +kernel
theorem dX11_sure_64 : decode cX11_sure 64 = .ok (.goto 4, 3) := by decide +kernel
theorem dX11_sure_67 : decode cX11_sure 67 = .ok (.iconst 0, 1) := by decide +kernel
theorem dX11_sure_68 : decode cX11_sure 68 = .ok (.istore_n 3, 1) := by decide +kernel
theorem dX11_sure_69 : decode cX11_sure 69 = .ok (.iload_n 2, 1) := by decide +kernel
theorem dX11_sure_70 : decode cX11_sure 70 = .ok (.ifCond .eq 11, 3) := by decide +kernel
theorem dX11_sure_73 : decode cX11_sure 73 = .ok (.iload_n 3, 1) := by decide +kernel
theorem dX11_sure_74 : decode cX11_sure 74 = .ok (.ifCond .eq 7, 3) := by decide +kernel
theorem dX11_sure_77 : decode cX11_sure 77 = .ok (.iconst 1, 1) := by decide +kernel
theorem dX11_sure_78 : decode cX11_sure 78 = .ok (.goto 4, 3) := by decide +kernel
theorem dX11_sure_81 : decode cX11_sure 81 = .ok (.iconst 0, 1) := by decide +kernel
theorem dX11_sure_82 : decode cX11_sure 82 = .ok (.ireturn, 1) := by decide +kernel
theorem dX11_likely_0 : decode cX11_likely 0 = .ok (.iload_n 1, 1) := by decide +kernel
theorem dX11_likely_1 : decode cX11_likely 1 = .ok (.invokestatic 101, 3) := by decide +kernel
theorem dX11_likely_4 : decode cX11_likely 4 = .ok (.ifCond .ne 9, 3) := by decide +kernel
theorem dX11_likely_7 : decode cX11_likely 7 = .ok (.aload_n 0, 1) := by decide +kernel
theorem dX11_likely_8 : decode cX11_likely 8 = .ok (.iconst (-1), 1) := by decide +kernel
theorem dX11_likely_9 : decode cX11_likely 9 = .ok (.invokevirtual 82, 3) := by decide +kernel
theorem dX11_likely_12 : decode cX11_likely 12 = .ok (.ireturn, 1) := by decide +kernel
theorem dX11_likely_13 : decode cX11_likely 13 = .ok (.aload_n 0, 1) := by decide +kernel
theorem dX11_likely_14 : decode cX11_likely 14 = .ok (.getfield 33, 3) := by decide +kernel
theorem dX11_likely_17 : decode cX11_likely 17 = .ok (.invokevirtual 141, 3) := by decide +kernel
theorem dX11_likely_20 : decode cX11_likely 20 = .ok (.istore_n 2, 1) := by decide +kernel
theorem dX11_likely_21 : decode cX11_likely 21 = .ok (.lconst 0, 1) := by decide +kernel
theorem dX11_likely_22 : decode cX11_likely 22 = .ok (.lstore_n 3, 1) := by decide +kernel
theorem dX11_likely_23 : decode cX11_likely 23 = .ok (.iconst 0, 1) := by decide +kernel
theorem dX11_likely_24 : decode cX11_likely 24 = .ok (.istore 5, 2) := by decide +kernel
theorem dX11_likely_26 : decode cX11_likely 26 = .ok (.iload 5, 2) := by decide +kernel
theorem dX11_likely_28 : decode cX11_likely 28 = .ok (.iload_n 2, 1) := by decide +kernel
theorem dX11_likely_29 : decode cX11_likely 29 = .ok (.if_icmp .ge 35, 3) := by decide +kernel
theorem dX11_likely_32 : decode cX11_likely 32 = .ok (.aload_n 0, 1) := by decide +kernel
theorem dX11_likely_33 : decode cX11_likely 33 = .ok (.aload_n 0, 1) := by decide +kernel
theorem dX11_likely_34 : decode cX11_likely 34 = .ok (.getfield 33, 3) := by decide +kernel
theorem dX11_likely_37 : decode cX11_likely 37 = .ok (.iload_n 1, 1) := by decide +kernel
theorem dX11_likely_38 : decode cX11_likely 38 = .ok (.iload 5, 2) := by decide +kernel
theorem dX11_likely_40 : decode cX11_likely 40 = .ok (.invokevirtual 126, 3) := by decide +kernel
theorem dX11_likely_43 : decode cX11_likely 43 = .ok (.ifCond .le 15, 3) := by decide +kernel
theorem dX11_likely_46 : decode cX11_likely 46 = .ok (.lload_n 3, 1) := by decide +kernel
theorem dX11_likely_47 : decode cX11_likely 47 = .ok (.aload_n 0, 1) := by decide +kernel
theorem dX11_likely_48 : decode cX11_likely 48 = .ok (.getfield 33, 3) := by decide +kernel
theorem dX11_likely_51 : decode cX11_likely 51 = .ok (.iload 5, 2) := by decide +kernel
theorem dX11_likely_53 : decode cX11_likely 53 = .ok (.invokevirtual 144, 3) := by decide +kernel
theorem dX11_likely_56 : decode cX11_likely 56 = .ok (.ladd, 1) := by decide +kernel
theorem dX11_likely_57 : decode cX11_likely 57 = .ok (.lstore_n 3, 1) := by decide +kernel
theorem dX11_likely_58 : decode cX11_likely 58 = .ok (.iinc 5 1, 3) := by decide +kernel
theorem dX11_likely_61 : decode cX11_likely 61 = .ok (.goto (-35), 3) := by decide +kernel
theorem dX11_likely_64 : decode cX11_likely 64 = .ok (.aload_n 0, 1) := by decide +kernel
theorem dX11_likely_65 : decode cX11_likely 65 = .ok (.getfield 33, 3) := by decide +kernel
theorem dX11_likely_68 : decode cX11_likely 68 = .ok (.lload_n 3, 1) := by decide +kernel
theorem dX11_likely_69 : decode cX11_likely 69 = .ok (.invokestatic 148, 3) := by decide +kernel
theorem dX11_likely_72 : decode cX11_likely 72 = .ok (.ireturn, 1) := by decide +kernel
theorem dX11_voids_0 : decode cX11_voids 0 = .ok (.aload_n 0, 1) := by decide +kernel
theorem dX11_voids_1 : decode cX11_voids 1 = .ok (.getfield 33, 3) := by decide +kernel
theorem dX11_voids_4 : decode cX11_voids 4 = .ok (.invokevirtual 141, 3) := by decide +kernel
theorem dX11_voids_7 : decode cX11_voids 7 = .ok (.istore_n 1, 1) := by decide +kernel
theorem dX11_voids_8 : decode cX11_voids 8 = .ok (.iconst 0, 1) := by decide +kernel
theorem dX11_voids_9 : decode cX11_voids 9 = .ok (.istore_n 2, 1) := by decide +kernel
theorem dX11_voids_10 : decode cX11_voids 10 = .ok (.iconst 0, 1) := by decide +kernel
theorem dX11_voids_11 : decode cX11_voids 11 = .ok (.istore_n 3, 1) := by decide +kernel
theorem dX11_voids_12 : decode cX11_voids 12 = .ok (.iload_n 3, 1) := by decide +kernel
theorem dX11_voids_13 : decode cX11_voids 13 = .ok (.iload_n 1, 1) := by decide +kernel
theorem dX11_voids_14 : decode cX11_voids 14 = .ok (.if_icmp .ge 20, 3) := by decide +kernel
theorem dX11_voids_17 : decode cX11_voids 17 = .ok (.iload_n 2, 1) := by decide +kernel
theorem dX11_voids_18 : decode cX11_voids 18 = .ok (.aload_n 0, 1) := by decide +kernel
theorem dX11_voids_19 : decode cX11_voids 19 = .ok (.getfield 46, 3) := by decide +kernel
theorem dX11_voids_22 : decode cX11_voids 22 = .ok (.iload_n 3, 1) := by decide +kernel
theorem dX11_voids_23 : decode cX11_voids 23 = .ok (.invokevirtual 152, 3) := by decide +kernel
theorem dX11_voids_26 : decode cX11_voids 26 = .ok (.ior, 1) := by decide +kernel
theorem dX11_voids_27 : decode cX11_voids 27 = .ok (.istore_n 2, 1) := by decide +kernel
theorem dX11_voids_28 : decode cX11_voids 28 = .ok (.iinc 3 1, 3) := by decide +kernel
theorem dX11_voids_31 : decode cX11_voids 31 = .ok (.goto (-19), 3) := by decide +kernel
theorem dX11_voids_34 : decode cX11_voids 34 = .ok (.iload_n 2, 1) := by decide +kernel
theorem dX11_voids_35 : decode cX11_voids 35 = .ok (.ireturn, 1) := by decide +kernel
theorem dX11_sparing_0 : decode cX11_sparing 0 = .ok (.iload_n 1, 1) := by decide +kernel
theorem dX11_sparing_1 : decode cX11_sparing 1 = .ok (.invokestatic 101, 3) := by decide +kernel
theorem dX11_sparing_4 : decode cX11_sparing 4 = .ok (.ifCond .ne 9, 3) := by decide +kernel
theorem dX11_sparing_7 : decode cX11_sparing 7 = .ok (.aload_n 0, 1) := by decide +kernel
theorem dX11_sparing_8 : decode cX11_sparing 8 = .ok (.iconst (-1), 1) := by decide +kernel
theorem dX11_sparing_9 : decode cX11_sparing 9 = .ok (.invokevirtual 82, 3) := by decide +kernel
theorem dX11_sparing_12 : decode cX11_sparing 12 = .ok (.ireturn, 1) := by decide +kernel
theorem dX11_sparing_13 : decode cX11_sparing 13 = .ok (.aload_n 0, 1) := by decide +kernel
theorem dX11_sparing_14 : decode cX11_sparing 14 = .ok (.getfield 37, 3) := by decide +kernel
theorem dX11_sparing_17 : decode cX11_sparing 17 = .ok (.aload_n 0, 1) := by decide +kernel
theorem dX11_sparing_18 : decode cX11_sparing 18 = .ok (.getfield 33, 3) := by decide +kernel
theorem dX11_sparing_21 : decode cX11_sparing 21 = .ok (.invokevirtual 155, 3) := by decide +kernel
theorem dX11_sparing_24 : decode cX11_sparing 24 = .ok (.aload_n 0, 1) := by decide +kernel
theorem dX11_sparing_25 : decode cX11_sparing 25 = .ok (.aload_n 0, 1) := by decide +kernel
theorem dX11_sparing_26 : decode cX11_sparing 26 = .ok (.getfield 33, 3) := by decide +kernel
theorem dX11_sparing_29 : decode cX11_sparing 29 = .ok (.iload_n 1, 1) := by decide +kernel
theorem dX11_sparing_30 : decode cX11_sparing 30 = .ok (.invokevirtual 159, 3) := by decide +kernel
theorem dX11_sparing_33 : decode cX11_sparing 33 = .ok (.istore_n 2, 1) := by decide +kernel
theorem dX11_sparing_34 : decode cX11_sparing 34 = .ok (.bipush (-9), 2) := by decide +kernel
theorem dX11_sparing_36 : decode cX11_sparing 36 = .ok (.istore_n 3, 1) := by decide +kernel
theorem dX11_sparing_37 : decode cX11_sparing 37 = .ok (.iconst 0, 1) := by decide +kernel
theorem dX11_sparing_38 : decode cX11_sparing 38 = .ok (.istore 4, 2) := by decide +kernel
theorem dX11_sparing_40 : decode cX11_sparing 40 = .ok (.iload 4, 2) := by decide +kernel
theorem dX11_sparing_42 : decode cX11_sparing 42 = .ok (.aload_n 0, 1) := by decide +kernel
theorem dX11_sparing_43 : decode cX11_sparing 43 = .ok (.getfield 33, 3) := by decide +kernel
theorem dX11_sparing_46 : decode cX11_sparing 46 = .ok (.getfield 162, 3) := by decide +kernel
theorem dX11_sparing_49 : decode cX11_sparing 49 = .ok (.if_icmp .ge 100, 3) := by decide +kernel
theorem dX11_sparing_52 : decode cX11_sparing 52 = .ok (.aload_n 0, 1) := by decide +kernel
theorem dX11_sparing_53 : decode cX11_sparing 53 = .ok (.getfield 33, 3) := by decide +kernel
theorem dX11_sparing_56 : decode cX11_sparing 56 = .ok (.iload 4, 2) := by decide +kernel
theorem dX11_sparing_58 : decode cX11_sparing 58 = .ok (.iconst 5, 1) := by decide +kernel
theorem dX11_sparing_59 : decode cX11_sparing 59 = .ok (.invokevirtual 93, 3) := by decide +kernel
theorem dX11_sparing_62 : decode cX11_sparing 62 = .ok (.iload_n 1, 1) := by decide +kernel
theorem dX11_sparing_63 : decode cX11_sparing 63 = .ok (.if_icmp .ne 80, 3) := by decide +kernel
theorem dX11_sparing_66 : decode cX11_sparing 66 = .ok (.iconst 0, 1) := by decide +kernel
theorem dX11_sparing_67 : decode cX11_sparing 67 = .ok (.istore 5, 2) := by decide +kernel
theorem dX11_sparing_69 : decode cX11_sparing 69 = .ok (.iload 5, 2) := by decide +kernel
theorem dX11_sparing_71 : decode cX11_sparing 71 = .ok (.bipush 99, 2) := by decide +kernel
theorem dX11_sparing_73 : decode cX11_sparing 73 = .ok (.if_icmp .gt 50, 3) := by decide +kernel
theorem dX11_sparing_76 : decode cX11_sparing 76 = .ok (.aload_n 0, 1) := by decide +kernel
theorem dX11_sparing_77 : decode cX11_sparing 77 = .ok (.getfield 37, 3) := by decide +kernel
theorem dX11_sparing_80 : decode cX11_sparing 80 = .ok (.iload 4, 2) := by decide +kernel
theorem dX11_sparing_82 : decode cX11_sparing 82 = .ok (.iconst 3, 1) := by decide +kernel
theorem dX11_sparing_83 : decode cX11_sparing 83 = .ok (.iload 5, 2) := by decide +kernel
theorem dX11_sparing_85 : decode cX11_sparing 85 = .ok (.invokevirtual 97, 3) := by decide +kernel
theorem dX11_sparing_88 : decode cX11_sparing 88 = .ok (.aload_n 0, 1) := by decide +kernel
theorem dX11_sparing_89 : decode cX11_sparing 89 = .ok (.aload_n 0, 1) := by decide +kernel
theorem dX11_sparing_90 : decode cX11_sparing 90 = .ok (.getfield 37, 3) := by decide +kernel
theorem dX11_sparing_93 : decode cX11_sparing 93 = .ok (.iload_n 1, 1) := by decide +kernel
theorem dX11_sparing_94 : decode cX11_sparing 94 = .ok (.invokevirtual 159, 3) := by decide +kernel
theorem dX11_sparing_97 : decode cX11_sparing 97 = .ok (.istore 6, 2) := by decide +kernel
theorem dX11_sparing_99 : decode cX11_sparing 99 = .ok (.iload 6, 2) := by decide +kernel
theorem dX11_sparing_101 : decode cX11_sparing 101 = .ok (.iload_n 2, 1) := by decide +kernel
theorem dX11_sparing_102 : decode cX11_sparing 102 = .ok (.if_icmp .le 15, 3) := by decide +kernel
theorem dX11_sparing_105 : decode cX11_sparing 105 = .ok (.iload 6, 2) := by decide +kernel
theorem dX11_sparing_107 : decode cX11_sparing 107 = .ok (.istore_n 2, 1) := by decide +kernel
theorem dX11_sparing_108 : decode cX11_sparing 108 = .ok (.bipush 100, 2) := by decide +kernel
theorem dX11_sparing_110 : decode cX11_sparing 110 = .ok (.iload 4, 2) := by decide +kernel
theorem dX11_sparing_112 : decode cX11_sparing 112 = .ok (.imul, 1) := by decide +kernel
theorem dX11_sparing_113 : decode cX11_sparing 113 = .ok (.iload 5, 2) := by decide +kernel
theorem dX11_sparing_115 : decode cX11_sparing 115 = .ok (.iadd, 1) := by decide +kernel
theorem dX11_sparing_116 : decode cX11_sparing 116 = .ok (.istore_n 3, 1) := by decide +kernel
theorem dX11_sparing_117 : decode cX11_sparing 117 = .ok (.iinc 5 1, 3) := by decide +kernel
theorem dX11_sparing_120 : decode cX11_sparing 120 = .ok (.goto (-51), 3) := by decide +kernel
theorem dX11_sparing_123 : decode cX11_sparing 123 = .ok (.aload_n 0, 1) := by decide +kernel
theorem dX11_sparing_124 : decode cX11_sparing 124 = .ok (.getfield 37, 3) := by decide +kernel
theorem dX11_sparing_127 : decode cX11_sparing 127 = .ok (.iload 4, 2) := by decide +kernel
theorem dX11_sparing_129 : decode cX11_sparing 129 = .ok (.iconst 3, 1) := by decide +kernel
theorem dX11_sparing_130 : decode cX11_sparing 130 = .ok (.aload_n 0, 1) := by decide +kernel
theorem dX11_sparing_131 : decode cX11_sparing 131 = .ok (.getfield 33, 3) := by decide +kernel
theorem dX11_sparing_134 : decode cX11_sparing 134 = .ok (.iload 4, 2) := by decide +kernel
theorem dX11_sparing_136 : decode cX11_sparing 136 = .ok (.iconst 3, 1) := by decide +kernel
theorem dX11_sparing_137 : decode cX11_sparing 137 = .ok (.invokevirtual 93, 3) := by decide +kernel
theorem dX11_sparing_140 : decode cX11_sparing 140 = .ok (.invokevirtual 97, 3) := by decide +kernel
theorem dX11_sparing_143 : decode cX11_sparing 143 = .ok (.iinc 4 1, 3) := by decide +kernel
theorem dX11_sparing_146 : decode cX11_sparing 146 = .ok (.goto (-106), 3) := by decide +kernel
theorem dX11_sparing_149 : decode cX11_sparing 149 = .ok (.iload_n 3, 1) := by decide +kernel
theorem dX11_sparing_150 : decode cX11_sparing 150 = .ok (.ireturn, 1) := by decide +kernel
theorem dX11_safeOdds_0 : decode cX11_safeOdds 0 = .ok (.aload_n 0, 1) := by decide +kernel
theorem dX11_safeOdds_1 : decode cX11_safeOdds 1 = .ok (.getfield 33, 3) := by decide +kernel
theorem dX11_safeOdds_4 : decode cX11_safeOdds 4 = .ok (.iload_n 1, 1) := by decide +kernel
theorem dX11_safeOdds_5 : decode cX11_safeOdds 5 = .ok (.invokevirtual 89, 3) := by decide +kernel
theorem dX11_safeOdds_8 : decode cX11_safeOdds 8 = .ok (.ifCond .ne 9, 3) := by decide +kernel
theorem dX11_safeOdds_11 : decode cX11_safeOdds 11 = .ok (.aload_n 0, 1) := by decide +kernel
theorem dX11_safeOdds_12 : decode cX11_safeOdds 12 = .ok (.iconst (-1), 1) := by decide +kernel
theorem dX11_safeOdds_13 : decode cX11_safeOdds 13 = .ok (.invokevirtual 82, 3) := by decide +kernel
theorem dX11_safeOdds_16 : decode cX11_safeOdds 16 = .ok (.ireturn, 1) := by decide +kernel
theorem dX11_safeOdds_17 : decode cX11_safeOdds 17 = .ok (.aload_n 0, 1) := by decide +kernel
theorem dX11_safeOdds_18 : decode cX11_safeOdds 18 = .ok (.getfield 37, 3) := by decide +kernel
theorem dX11_safeOdds_21 : decode cX11_safeOdds 21 = .ok (.aload_n 0, 1) := by decide +kernel
theorem dX11_safeOdds_22 : decode cX11_safeOdds 22 = .ok (.getfield 33, 3) := by decide +kernel
theorem dX11_safeOdds_25 : decode cX11_safeOdds 25 = .ok (.invokevirtual 155, 3) := by decide +kernel
theorem dX11_safeOdds_28 : decode cX11_safeOdds 28 = .ok (.aload_n 0, 1) := by decide +kernel
theorem dX11_safeOdds_29 : decode cX11_safeOdds 29 = .ok (.getfield 33, 3) := by decide +kernel
theorem dX11_safeOdds_32 : decode cX11_safeOdds 32 = .ok (.iload_n 1, 1) := by decide +kernel
theorem dX11_safeOdds_33 : decode cX11_safeOdds 33 = .ok (.bipush 6, 2) := by decide +kernel
theorem dX11_safeOdds_35 : decode cX11_safeOdds 35 = .ok (.invokevirtual 93, 3) := by decide +kernel
theorem dX11_safeOdds_38 : decode cX11_safeOdds 38 = .ok (.istore_n 2, 1) := by decide +kernel
theorem dX11_safeOdds_39 : decode cX11_safeOdds 39 = .ok (.bipush 9, 2) := by decide +kernel
theorem dX11_safeOdds_41 : decode cX11_safeOdds 41 = .ok (.istore_n 3, 1) := by decide +kernel
theorem dX11_safeOdds_42 : decode cX11_safeOdds 42 = .ok (.iload_n 3, 1) := by decide +kernel
theorem dX11_safeOdds_43 : decode cX11_safeOdds 43 = .ok (.ifCond .lt 33, 3) := by decide +kernel
theorem dX11_safeOdds_46 : decode cX11_safeOdds 46 = .ok (.aload_n 0, 1) := by decide +kernel
theorem dX11_safeOdds_47 : decode cX11_safeOdds 47 = .ok (.getfield 37, 3) := by decide +kernel
theorem dX11_safeOdds_50 : decode cX11_safeOdds 50 = .ok (.iload_n 1, 1) := by decide +kernel
theorem dX11_safeOdds_51 : decode cX11_safeOdds 51 = .ok (.iconst 4, 1) := by decide +kernel
theorem dX11_safeOdds_52 : decode cX11_safeOdds 52 = .ok (.iload_n 3, 1) := by decide +kernel
theorem dX11_safeOdds_53 : decode cX11_safeOdds 53 = .ok (.invokevirtual 97, 3) := by decide +kernel
theorem dX11_safeOdds_56 : decode cX11_safeOdds 56 = .ok (.aload_n 0, 1) := by decide +kernel
theorem dX11_safeOdds_57 : decode cX11_safeOdds 57 = .ok (.aload_n 0, 1) := by decide +kernel
theorem dX11_safeOdds_58 : decode cX11_safeOdds 58 = .ok (.getfield 37, 3) := by decide +kernel
theorem dX11_safeOdds_61 : decode cX11_safeOdds 61 = .ok (.iload_n 2, 1) := by decide +kernel
theorem dX11_safeOdds_62 : decode cX11_safeOdds 62 = .ok (.invokevirtual 130, 3) := by decide +kernel
theorem dX11_safeOdds_65 : decode cX11_safeOdds 65 = .ok (.ifCond .lt 5, 3) := by decide +kernel
theorem dX11_safeOdds_68 : decode cX11_safeOdds 68 = .ok (.iload_n 3, 1) := by decide +kernel
theorem dX11_safeOdds_69 : decode cX11_safeOdds 69 = .ok (.ireturn, 1) := by decide +kernel
theorem dX11_safeOdds_70 : decode cX11_safeOdds 70 = .ok (.iinc 3 (-1), 3) := by decide +kernel
theorem dX11_safeOdds_73 : decode cX11_safeOdds 73 = .ok (.goto (-31), 3) := by decide +kernel
theorem dX11_safeOdds_76 : decode cX11_safeOdds 76 = .ok (.bipush (-9), 2) := by decide +kernel
theorem dX11_safeOdds_78 : decode cX11_safeOdds 78 = .ok (.ireturn, 1) := by decide +kernel
theorem dX11_host_0 : decode cX11_host 0 = .ok (.iconst 0, 1) := by decide +kernel
theorem dX11_host_1 : decode cX11_host 1 = .ok (.istore_n 1, 1) := by decide +kernel
theorem dX11_host_2 : decode cX11_host 2 = .ok (.iconst 1, 1) := by decide +kernel
theorem dX11_host_3 : decode cX11_host 3 = .ok (.istore_n 2, 1) := by decide +kernel
theorem dX11_host_4 : decode cX11_host 4 = .ok (.iload_n 2, 1) := by decide +kernel
theorem dX11_host_5 : decode cX11_host 5 = .ok (.iconst 4, 1) := by decide +kernel
theorem dX11_host_6 : decode cX11_host 6 = .ok (.if_icmp .ge 32, 3) := by decide +kernel
theorem dX11_host_9 : decode cX11_host 9 = .ok (.aload_n 0, 1) := by decide +kernel
theorem dX11_host_10 : decode cX11_host 10 = .ok (.aload_n 0, 1) := by decide +kernel
theorem dX11_host_11 : decode cX11_host 11 = .ok (.getfield 33, 3) := by decide +kernel
theorem dX11_host_14 : decode cX11_host 14 = .ok (.iload_n 2, 1) := by decide +kernel
theorem dX11_host_15 : decode cX11_host 15 = .ok (.invokevirtual 130, 3) := by decide +kernel
theorem dX11_host_18 : decode cX11_host 18 = .ok (.aload_n 0, 1) := by decide +kernel
theorem dX11_host_19 : decode cX11_host 19 = .ok (.aload_n 0, 1) := by decide +kernel
theorem dX11_host_20 : decode cX11_host 20 = .ok (.getfield 33, 3) := by decide +kernel
theorem dX11_host_23 : decode cX11_host 23 = .ok (.iload_n 1, 1) := by decide +kernel
theorem dX11_host_24 : decode cX11_host 24 = .ok (.invokevirtual 130, 3) := by decide +kernel
theorem dX11_host_27 : decode cX11_host 27 = .ok (.if_icmp .le 5, 3) := by decide +kernel
theorem dX11_host_30 : decode cX11_host 30 = .ok (.iload_n 2, 1) := by decide +kernel
theorem dX11_host_31 : decode cX11_host 31 = .ok (.istore_n 1, 1) := by decide +kernel
theorem dX11_host_32 : decode cX11_host 32 = .ok (.iinc 2 1, 3) := by decide +kernel
theorem dX11_host_35 : decode cX11_host 35 = .ok (.goto (-31), 3) := by decide +kernel
theorem dX11_host_38 : decode cX11_host 38 = .ok (.iload_n 1, 1) := by decide +kernel
theorem dX11_host_39 : decode cX11_host 39 = .ok (.ireturn, 1) := by decide +kernel
theorem dX11_settling_0 : decode cX11_settling 0 = .ok (.aload_n 0, 1) := by decide +kernel
theorem dX11_settling_1 : decode cX11_settling 1 = .ok (.getfield 33, 3) := by decide +kernel
theorem dX11_settling_4 : decode cX11_settling 4 = .ok (.iload_n 1, 1) := by decide +kernel
theorem dX11_settling_5 : decode cX11_settling 5 = .ok (.invokevirtual 111, 3) := by decide +kernel
theorem dX11_settling_8 : decode cX11_settling 8 = .ok (.ifCond .eq 13, 3) := by decide +kernel
theorem dX11_settling_11 : decode cX11_settling 11 = .ok (.iconst 4, 1) := by decide +kernel
theorem dX11_settling_12 : decode cX11_settling 12 = .ok (.aload_n 0, 1) := by decide +kernel
theorem dX11_settling_13 : decode cX11_settling 13 = .ok (.iload_n 1, 1) := by decide +kernel
theorem dX11_settling_14 : decode cX11_settling 14 = .ok (.invokevirtual 165, 3) := by decide +kernel
theorem dX11_settling_17 : decode cX11_settling 17 = .ok (.isub, 1) := by decide +kernel
theorem dX11_settling_18 : decode cX11_settling 18 = .ok (.goto 8, 3) := by decide +kernel
theorem dX11_settling_21 : decode cX11_settling 21 = .ok (.aload_n 0, 1) := by decide +kernel
theorem dX11_settling_22 : decode cX11_settling 22 = .ok (.iconst (-1), 1) := by decide +kernel
theorem dX11_settling_23 : decode cX11_settling 23 = .ok (.invokevirtual 82, 3) := by decide +kernel
theorem dX11_settling_26 : decode cX11_settling 26 = .ok (.ireturn, 1) := by decide +kernel
theorem dX11_cannotPay_0 : decode cX11_cannotPay 0 = .ok (.aload_n 0, 1) := by decide +kernel
theorem dX11_cannotPay_1 : decode cX11_cannotPay 1 = .ok (.getfield 33, 3) := by decide +kernel
theorem dX11_cannotPay_4 : decode cX11_cannotPay 4 = .ok (.iload_n 1, 1) := by decide +kernel
theorem dX11_cannotPay_5 : decode cX11_cannotPay 5 = .ok (.invokevirtual 111, 3) := by decide +kernel
theorem dX11_cannotPay_8 : decode cX11_cannotPay 8 = .ok (.ifCond .ne 9, 3) := by decide +kernel
theorem dX11_cannotPay_11 : decode cX11_cannotPay 11 = .ok (.aload_n 0, 1) := by decide +kernel
theorem dX11_cannotPay_12 : decode cX11_cannotPay 12 = .ok (.iconst (-1), 1) := by decide +kernel
theorem dX11_cannotPay_13 : decode cX11_cannotPay 13 = .ok (.invokevirtual 82, 3) := by decide +kernel
theorem dX11_cannotPay_16 : decode cX11_cannotPay 16 = .ok (.ireturn, 1) := by decide +kernel
theorem dX11_cannotPay_17 : decode cX11_cannotPay 17 = .ok (.iconst 0, 1) := by decide +kernel
theorem dX11_cannotPay_18 : decode cX11_cannotPay 18 = .ok (.istore_n 2, 1) := by decide +kernel
theorem dX11_cannotPay_19 : decode cX11_cannotPay 19 = .ok (.iconst 0, 1) := by decide +kernel
theorem dX11_cannotPay_20 : decode cX11_cannotPay 20 = .ok (.istore_n 3, 1) := by decide +kernel
theorem dX11_cannotPay_21 : decode cX11_cannotPay 21 = .ok (.iload_n 3, 1) := by decide +kernel
theorem dX11_cannotPay_22 : decode cX11_cannotPay 22 = .ok (.iconst 4, 1) := by decide +kernel
theorem dX11_cannotPay_23 : decode cX11_cannotPay 23 = .ok (.if_icmp .ge 37, 3) := by decide +kernel
theorem dX11_cannotPay_26 : decode cX11_cannotPay 26 = .ok (.aload_n 0, 1) := by decide +kernel
theorem dX11_cannotPay_27 : decode cX11_cannotPay 27 = .ok (.aload_n 0, 1) := by decide +kernel
theorem dX11_cannotPay_28 : decode cX11_cannotPay 28 = .ok (.getfield 33, 3) := by decide +kernel
theorem dX11_cannotPay_31 : decode cX11_cannotPay 31 = .ok (.iload_n 3, 1) := by decide +kernel
theorem dX11_cannotPay_32 : decode cX11_cannotPay 32 = .ok (.iload_n 1, 1) := by decide +kernel
theorem dX11_cannotPay_33 : decode cX11_cannotPay 33 = .ok (.invokevirtual 126, 3) := by decide +kernel
theorem dX11_cannotPay_36 : decode cX11_cannotPay 36 = .ok (.aload_n 0, 1) := by decide +kernel
theorem dX11_cannotPay_37 : decode cX11_cannotPay 37 = .ok (.getfield 33, 3) := by decide +kernel
theorem dX11_cannotPay_40 : decode cX11_cannotPay 40 = .ok (.iload_n 3, 1) := by decide +kernel
theorem dX11_cannotPay_41 : decode cX11_cannotPay 41 = .ok (.invokevirtual 104, 3) := by decide +kernel
theorem dX11_cannotPay_44 : decode cX11_cannotPay 44 = .ok (.iadd, 1) := by decide +kernel
theorem dX11_cannotPay_45 : decode cX11_cannotPay 45 = .ok (.ifCond .ge 9, 3) := by decide +kernel
theorem dX11_cannotPay_48 : decode cX11_cannotPay 48 = .ok (.iload_n 2, 1) := by decide +kernel
theorem dX11_cannotPay_49 : decode cX11_cannotPay 49 = .ok (.iconst 1, 1) := by decide +kernel
theorem dX11_cannotPay_50 : decode cX11_cannotPay 50 = .ok (.iload_n 3, 1) := by decide +kernel
theorem dX11_cannotPay_51 : decode cX11_cannotPay 51 = .ok (.ishl, 1) := by decide +kernel
theorem dX11_cannotPay_52 : decode cX11_cannotPay 52 = .ok (.ior, 1) := by decide +kernel
theorem dX11_cannotPay_53 : decode cX11_cannotPay 53 = .ok (.istore_n 2, 1) := by decide +kernel
theorem dX11_cannotPay_54 : decode cX11_cannotPay 54 = .ok (.iinc 3 1, 3) := by decide +kernel
theorem dX11_cannotPay_57 : decode cX11_cannotPay 57 = .ok (.goto (-36), 3) := by decide +kernel
theorem dX11_cannotPay_60 : decode cX11_cannotPay 60 = .ok (.iload_n 2, 1) := by decide +kernel
theorem dX11_cannotPay_61 : decode cX11_cannotPay 61 = .ok (.ireturn, 1) := by decide +kernel
theorem dX11_rings_0 : decode cX11_rings 0 = .ok (.iconst 0, 1) := by decide +kernel
theorem dX11_rings_1 : decode cX11_rings 1 = .ok (.istore_n 1, 1) := by decide +kernel
theorem dX11_rings_2 : decode cX11_rings 2 = .ok (.iload_n 1, 1) := by decide +kernel
theorem dX11_rings_3 : decode cX11_rings 3 = .ok (.aload_n 0, 1) := by decide +kernel
theorem dX11_rings_4 : decode cX11_rings 4 = .ok (.getfield 33, 3) := by decide +kernel
theorem dX11_rings_7 : decode cX11_rings 7 = .ok (.getfield 162, 3) := by decide +kernel
theorem dX11_rings_10 : decode cX11_rings 10 = .ok (.if_icmp .ge 29, 3) := by decide +kernel
theorem dX11_rings_13 : decode cX11_rings 13 = .ok (.aload_n 0, 1) := by decide +kernel
theorem dX11_rings_14 : decode cX11_rings 14 = .ok (.getfield 57, 3) := by decide +kernel
theorem dX11_rings_17 : decode cX11_rings 17 = .ok (.iload_n 1, 1) := by decide +kernel
theorem dX11_rings_18 : decode cX11_rings 18 = .ok (.aload_n 0, 1) := by decide +kernel
theorem dX11_rings_19 : decode cX11_rings 19 = .ok (.getfield 46, 3) := by decide +kernel
theorem dX11_rings_22 : decode cX11_rings 22 = .ok (.aload_n 0, 1) := by decide +kernel
theorem dX11_rings_23 : decode cX11_rings 23 = .ok (.getfield 33, 3) := by decide +kernel
theorem dX11_rings_26 : decode cX11_rings 26 = .ok (.iload_n 1, 1) := by decide +kernel
theorem dX11_rings_27 : decode cX11_rings 27 = .ok (.invokevirtual 168, 3) := by decide +kernel
theorem dX11_rings_30 : decode cX11_rings 30 = .ok (.invokestatic 171, 3) := by decide +kernel
theorem dX11_rings_33 : decode cX11_rings 33 = .ok (.iinc 1 1, 3) := by decide +kernel
theorem dX11_rings_36 : decode cX11_rings 36 = .ok (.goto (-34), 3) := by decide +kernel
theorem dX11_rings_39 : decode cX11_rings 39 = .ok (.iconst 0, 1) := by decide +kernel
theorem dX11_rings_40 : decode cX11_rings 40 = .ok (.istore_n 1, 1) := by decide +kernel
theorem dX11_rings_41 : decode cX11_rings 41 = .ok (.iload_n 1, 1) := by decide +kernel
theorem dX11_rings_42 : decode cX11_rings 42 = .ok (.aload_n 0, 1) := by decide +kernel
theorem dX11_rings_43 : decode cX11_rings 43 = .ok (.getfield 33, 3) := by decide +kernel
theorem dX11_rings_46 : decode cX11_rings 46 = .ok (.getfield 162, 3) := by decide +kernel
theorem dX11_rings_49 : decode cX11_rings 49 = .ok (.if_icmp .ge 68, 3) := by decide +kernel
theorem dX11_rings_52 : decode cX11_rings 52 = .ok (.iconst 0, 1) := by decide +kernel
theorem dX11_rings_53 : decode cX11_rings 53 = .ok (.istore_n 2, 1) := by decide +kernel
theorem dX11_rings_54 : decode cX11_rings 54 = .ok (.iload_n 2, 1) := by decide +kernel
theorem dX11_rings_55 : decode cX11_rings 55 = .ok (.aload_n 0, 1) := by decide +kernel
theorem dX11_rings_56 : decode cX11_rings 56 = .ok (.getfield 33, 3) := by decide +kernel
theorem dX11_rings_59 : decode cX11_rings 59 = .ok (.getfield 162, 3) := by decide +kernel
theorem dX11_rings_62 : decode cX11_rings 62 = .ok (.if_icmp .ge 49, 3) := by decide +kernel
theorem dX11_rings_65 : decode cX11_rings 65 = .ok (.aload_n 0, 1) := by decide +kernel
theorem dX11_rings_66 : decode cX11_rings 66 = .ok (.getfield 57, 3) := by decide +kernel
theorem dX11_rings_69 : decode cX11_rings 69 = .ok (.iload_n 2, 1) := by decide +kernel
theorem dX11_rings_70 : decode cX11_rings 70 = .ok (.invokestatic 175, 3) := by decide +kernel
theorem dX11_rings_73 : decode cX11_rings 73 = .ok (.iload_n 1, 1) := by decide +kernel
theorem dX11_rings_74 : decode cX11_rings 74 = .ok (.invokestatic 179, 3) := by decide +kernel
theorem dX11_rings_77 : decode cX11_rings 77 = .ok (.ifCond .eq 28, 3) := by decide +kernel
theorem dX11_rings_80 : decode cX11_rings 80 = .ok (.aload_n 0, 1) := by decide +kernel
theorem dX11_rings_81 : decode cX11_rings 81 = .ok (.getfield 57, 3) := by decide +kernel
theorem dX11_rings_84 : decode cX11_rings 84 = .ok (.iload_n 2, 1) := by decide +kernel
theorem dX11_rings_85 : decode cX11_rings 85 = .ok (.aload_n 0, 1) := by decide +kernel
theorem dX11_rings_86 : decode cX11_rings 86 = .ok (.getfield 57, 3) := by decide +kernel
theorem dX11_rings_89 : decode cX11_rings 89 = .ok (.iload_n 2, 1) := by decide +kernel
theorem dX11_rings_90 : decode cX11_rings 90 = .ok (.invokestatic 175, 3) := by decide +kernel
theorem dX11_rings_93 : decode cX11_rings 93 = .ok (.aload_n 0, 1) := by decide +kernel
theorem dX11_rings_94 : decode cX11_rings 94 = .ok (.getfield 57, 3) := by decide +kernel
theorem dX11_rings_97 : decode cX11_rings 97 = .ok (.iload_n 1, 1) := by decide +kernel
theorem dX11_rings_98 : decode cX11_rings 98 = .ok (.invokestatic 175, 3) := by decide +kernel
theorem dX11_rings_101 : decode cX11_rings 101 = .ok (.ior, 1) := by decide +kernel
theorem dX11_rings_102 : decode cX11_rings 102 = .ok (.invokestatic 171, 3) := by decide +kernel
theorem dX11_rings_105 : decode cX11_rings 105 = .ok (.iinc 2 1, 3) := by decide +kernel
theorem dX11_rings_108 : decode cX11_rings 108 = .ok (.goto (-54), 3) := by decide +kernel
theorem dX11_rings_111 : decode cX11_rings 111 = .ok (.iinc 1 1, 3) := by decide +kernel
theorem dX11_rings_114 : decode cX11_rings 114 = .ok (.goto (-73), 3) := by decide +kernel
theorem dX11_rings_117 : decode cX11_rings 117 = .ok (.iconst 0, 1) := by decide +kernel
theorem dX11_rings_118 : decode cX11_rings 118 = .ok (.istore_n 1, 1) := by decide +kernel
theorem dX11_rings_119 : decode cX11_rings 119 = .ok (.iconst 0, 1) := by decide +kernel
theorem dX11_rings_120 : decode cX11_rings 120 = .ok (.istore_n 2, 1) := by decide +kernel
theorem dX11_rings_121 : decode cX11_rings 121 = .ok (.iload_n 2, 1) := by decide +kernel
theorem dX11_rings_122 : decode cX11_rings 122 = .ok (.aload_n 0, 1) := by decide +kernel
theorem dX11_rings_123 : decode cX11_rings 123 = .ok (.getfield 33, 3) := by decide +kernel
theorem dX11_rings_126 : decode cX11_rings 126 = .ok (.getfield 162, 3) := by decide +kernel
theorem dX11_rings_129 : decode cX11_rings 129 = .ok (.if_icmp .ge 24, 3) := by decide +kernel
theorem dX11_rings_132 : decode cX11_rings 132 = .ok (.iload_n 1, 1) := by decide +kernel
theorem dX11_rings_133 : decode cX11_rings 133 = .ok (.aload_n 0, 1) := by decide +kernel
theorem dX11_rings_134 : decode cX11_rings 134 = .ok (.getfield 57, 3) := by decide +kernel
theorem dX11_rings_137 : decode cX11_rings 137 = .ok (.iload_n 2, 1) := by decide +kernel
theorem dX11_rings_138 : decode cX11_rings 138 = .ok (.invokestatic 175, 3) := by decide +kernel
theorem dX11_rings_141 : decode cX11_rings 141 = .ok (.iconst 1, 1) := by decide +kernel
theorem dX11_rings_142 : decode cX11_rings 142 = .ok (.iload_n 2, 1) := by decide +kernel
theorem dX11_rings_143 : decode cX11_rings 143 = .ok (.ishl, 1) := by decide +kernel
theorem dX11_rings_144 : decode cX11_rings 144 = .ok (.iand, 1) := by decide +kernel
theorem dX11_rings_145 : decode cX11_rings 145 = .ok (.ior, 1) := by decide +kernel
theorem dX11_rings_146 : decode cX11_rings 146 = .ok (.istore_n 1, 1) := by decide +kernel
theorem dX11_rings_147 : decode cX11_rings 147 = .ok (.iinc 2 1, 3) := by decide +kernel
theorem dX11_rings_150 : decode cX11_rings 150 = .ok (.goto (-29), 3) := by decide +kernel
theorem dX11_rings_153 : decode cX11_rings 153 = .ok (.iload_n 1, 1) := by decide +kernel
theorem dX11_rings_154 : decode cX11_rings 154 = .ok (.ireturn, 1) := by decide +kernel
theorem dX11_row_0 : decode cX11_row 0 = .ok (.aload_n 0, 1) := by decide +kernel
theorem dX11_row_1 : decode cX11_row 1 = .ok (.aload_n 0, 1) := by decide +kernel
theorem dX11_row_2 : decode cX11_row 2 = .ok (.getfield 18, 3) := by decide +kernel
theorem dX11_row_5 : decode cX11_row 5 = .ok (.iload_n 1, 1) := by decide +kernel
theorem dX11_row_6 : decode cX11_row 6 = .ok (.sipush 999, 3) := by decide +kernel
theorem dX11_row_9 : decode cX11_row 9 = .ok (.invokevirtual 64, 3) := by decide +kernel
theorem dX11_row_12 : decode cX11_row 12 = .ok (.ireturn, 1) := by decide +kernel
theorem dX11_fitting_0 : decode cX11_fitting 0 = .ok (.iload_n 1, 1) := by decide +kernel
theorem dX11_fitting_1 : decode cX11_fitting 1 = .ok (.ifCond .eq 15, 3) := by decide +kernel
theorem dX11_fitting_4 : decode cX11_fitting 4 = .ok (.iload_n 1, 1) := by decide +kernel
theorem dX11_fitting_5 : decode cX11_fitting 5 = .ok (.iconst 1, 1) := by decide +kernel
theorem dX11_fitting_6 : decode cX11_fitting 6 = .ok (.if_icmp .eq 10, 3) := by decide +kernel
theorem dX11_fitting_9 : decode cX11_fitting 9 = .ok (.aload_n 0, 1) := by decide +kernel
theorem dX11_fitting_10 : decode cX11_fitting 10 = .ok (.bipush (-2), 2) := by decide +kernel
theorem dX11_fitting_12 : decode cX11_fitting 12 = .ok (.invokevirtual 82, 3) := by decide +kernel
theorem dX11_fitting_15 : decode cX11_fitting 15 = .ok (.ireturn, 1) := by decide +kernel
theorem dX11_fitting_16 : decode cX11_fitting 16 = .ok (.aload_n 0, 1) := by decide +kernel
theorem dX11_fitting_17 : decode cX11_fitting 17 = .ok (.getfield 33, 3) := by decide +kernel
theorem dX11_fitting_20 : decode cX11_fitting 20 = .ok (.invokevirtual 141, 3) := by decide +kernel
theorem dX11_fitting_23 : decode cX11_fitting 23 = .ok (.istore_n 2, 1) := by decide +kernel
theorem dX11_fitting_24 : decode cX11_fitting 24 = .ok (.iconst 0, 1) := by decide +kernel
theorem dX11_fitting_25 : decode cX11_fitting 25 = .ok (.istore_n 3, 1) := by decide +kernel
theorem dX11_fitting_26 : decode cX11_fitting 26 = .ok (.iconst 0, 1) := by decide +kernel
theorem dX11_fitting_27 : decode cX11_fitting 27 = .ok (.istore 4, 2) := by decide +kernel
theorem dX11_fitting_29 : decode cX11_fitting 29 = .ok (.iload 4, 2) := by decide +kernel
theorem dX11_fitting_31 : decode cX11_fitting 31 = .ok (.iload_n 2, 1) := by decide +kernel
theorem dX11_fitting_32 : decode cX11_fitting 32 = .ok (.if_icmp .ge 27, 3) := by decide +kernel
theorem dX11_fitting_35 : decode cX11_fitting 35 = .ok (.aload_n 0, 1) := by decide +kernel
theorem dX11_fitting_36 : decode cX11_fitting 36 = .ok (.iload 4, 2) := by decide +kernel
theorem dX11_fitting_38 : decode cX11_fitting 38 = .ok (.invokevirtual 183, 3) := by decide +kernel
theorem dX11_fitting_41 : decode cX11_fitting 41 = .ok (.bipush (-9), 2) := by decide +kernel
theorem dX11_fitting_43 : decode cX11_fitting 43 = .ok (.if_icmp .ne 10, 3) := by decide +kernel
theorem dX11_fitting_46 : decode cX11_fitting 46 = .ok (.iload_n 3, 1) := by decide +kernel
theorem dX11_fitting_47 : decode cX11_fitting 47 = .ok (.iconst 1, 1) := by decide +kernel
theorem dX11_fitting_48 : decode cX11_fitting 48 = .ok (.iload 4, 2) := by decide +kernel
theorem dX11_fitting_50 : decode cX11_fitting 50 = .ok (.ishl, 1) := by decide +kernel
theorem dX11_fitting_51 : decode cX11_fitting 51 = .ok (.ior, 1) := by decide +kernel
theorem dX11_fitting_52 : decode cX11_fitting 52 = .ok (.istore_n 3, 1) := by decide +kernel
theorem dX11_fitting_53 : decode cX11_fitting 53 = .ok (.iinc 4 1, 3) := by decide +kernel
theorem dX11_fitting_56 : decode cX11_fitting 56 = .ok (.goto (-27), 3) := by decide +kernel
theorem dX11_fitting_59 : decode cX11_fitting 59 = .ok (.iload_n 1, 1) := by decide +kernel
theorem dX11_fitting_60 : decode cX11_fitting 60 = .ok (.ifCond .ne 7, 3) := by decide +kernel
theorem dX11_fitting_63 : decode cX11_fitting 63 = .ok (.iload_n 3, 1) := by decide +kernel
theorem dX11_fitting_64 : decode cX11_fitting 64 = .ok (.goto 7, 3) := by decide +kernel
theorem dX11_fitting_67 : decode cX11_fitting 67 = .ok (.iload_n 3, 1) := by decide +kernel
theorem dX11_fitting_68 : decode cX11_fitting 68 = .ok (.invokestatic 186, 3) := by decide +kernel
theorem dX11_fitting_71 : decode cX11_fitting 71 = .ok (.ireturn, 1) := by decide +kernel
theorem dX11_judge_0 : decode cX11_judge 0 = .ok (.aload_n 0, 1) := by decide +kernel
theorem dX11_judge_1 : decode cX11_judge 1 = .ok (.getfield 33, 3) := by decide +kernel
theorem dX11_judge_4 : decode cX11_judge 4 = .ok (.iload_n 1, 1) := by decide +kernel
theorem dX11_judge_5 : decode cX11_judge 5 = .ok (.invokevirtual 111, 3) := by decide +kernel
theorem dX11_judge_8 : decode cX11_judge 8 = .ok (.ifCond .ne 9, 3) := by decide +kernel
theorem dX11_judge_11 : decode cX11_judge 11 = .ok (.aload_n 0, 1) := by decide +kernel
theorem dX11_judge_12 : decode cX11_judge 12 = .ok (.iconst (-1), 1) := by decide +kernel
theorem dX11_judge_13 : decode cX11_judge 13 = .ok (.invokevirtual 82, 3) := by decide +kernel
theorem dX11_judge_16 : decode cX11_judge 16 = .ok (.ireturn, 1) := by decide +kernel
theorem dX11_judge_17 : decode cX11_judge 17 = .ok (.aload_n 0, 1) := by decide +kernel
theorem dX11_judge_18 : decode cX11_judge 18 = .ok (.iload_n 1, 1) := by decide +kernel
theorem dX11_judge_19 : decode cX11_judge 19 = .ok (.invokevirtual 183, 3) := by decide +kernel
theorem dX11_judge_22 : decode cX11_judge 22 = .ok (.istore_n 2, 1) := by decide +kernel
theorem dX11_judge_23 : decode cX11_judge 23 = .ok (.aload_n 0, 1) := by decide +kernel
theorem dX11_judge_24 : decode cX11_judge 24 = .ok (.getfield 18, 3) := by decide +kernel
theorem dX11_judge_27 : decode cX11_judge 27 = .ok (.invokevirtual 75, 3) := by decide +kernel
theorem dX11_judge_30 : decode cX11_judge 30 = .ok (.iload_n 2, 1) := by decide +kernel
theorem dX11_judge_31 : decode cX11_judge 31 = .ok (.ireturn, 1) := by decide +kernel
theorem dX11_seeds_0 : decode cX11_seeds 0 = .ok (.iload_n 3, 1) := by decide +kernel
theorem dX11_seeds_1 : decode cX11_seeds 1 = .ok (.invokestatic 101, 3) := by decide +kernel
theorem dX11_seeds_4 : decode cX11_seeds 4 = .ok (.ifCond .ne 9, 3) := by decide +kernel
theorem dX11_seeds_7 : decode cX11_seeds 7 = .ok (.aload_n 0, 1) := by decide +kernel
theorem dX11_seeds_8 : decode cX11_seeds 8 = .ok (.iconst (-1), 1) := by decide +kernel
theorem dX11_seeds_9 : decode cX11_seeds 9 = .ok (.invokevirtual 123, 3) := by decide +kernel
theorem dX11_seeds_12 : decode cX11_seeds 12 = .ok (.ireturn, 1) := by decide +kernel
theorem dX11_seeds_13 : decode cX11_seeds 13 = .ok (.iload_n 1, 1) := by decide +kernel
theorem dX11_seeds_14 : decode cX11_seeds 14 = .ok (.iconst 1, 1) := by decide +kernel
theorem dX11_seeds_15 : decode cX11_seeds 15 = .ok (.if_icmp .ge 10, 3) := by decide +kernel
theorem dX11_seeds_18 : decode cX11_seeds 18 = .ok (.aload_n 0, 1) := by decide +kernel
theorem dX11_seeds_19 : decode cX11_seeds 19 = .ok (.bipush (-4), 2) := by decide +kernel
theorem dX11_seeds_21 : decode cX11_seeds 21 = .ok (.invokevirtual 123, 3) := by decide +kernel
theorem dX11_seeds_24 : decode cX11_seeds 24 = .ok (.ireturn, 1) := by decide +kernel
theorem dX11_seeds_25 : decode cX11_seeds 25 = .ok (.iload_n 1, 1) := by decide +kernel
theorem dX11_seeds_26 : decode cX11_seeds 26 = .ok (.bipush 30, 2) := by decide +kernel
theorem dX11_seeds_28 : decode cX11_seeds 28 = .ok (.if_icmp .le 10, 3) := by decide +kernel
theorem dX11_seeds_31 : decode cX11_seeds 31 = .ok (.aload_n 0, 1) := by decide +kernel
theorem dX11_seeds_32 : decode cX11_seeds 32 = .ok (.bipush (-6), 2) := by decide +kernel
theorem dX11_seeds_34 : decode cX11_seeds 34 = .ok (.invokevirtual 123, 3) := by decide +kernel
theorem dX11_seeds_37 : decode cX11_seeds 37 = .ok (.ireturn, 1) := by decide +kernel
theorem dX11_seeds_38 : decode cX11_seeds 38 = .ok (.iload_n 2, 1) := by decide +kernel
theorem dX11_seeds_39 : decode cX11_seeds 39 = .ok (.istore 4, 2) := by decide +kernel
theorem dX11_seeds_41 : decode cX11_seeds 41 = .ok (.iconst 0, 1) := by decide +kernel
theorem dX11_seeds_42 : decode cX11_seeds 42 = .ok (.istore 5, 2) := by decide +kernel
theorem dX11_seeds_44 : decode cX11_seeds 44 = .ok (.iconst 0, 1) := by decide +kernel
theorem dX11_seeds_45 : decode cX11_seeds 45 = .ok (.istore 6, 2) := by decide +kernel
theorem dX11_seeds_47 : decode cX11_seeds 47 = .ok (.iload 6, 2) := by decide +kernel
theorem dX11_seeds_49 : decode cX11_seeds 49 = .ok (.iload_n 1, 1) := by decide +kernel
theorem dX11_seeds_50 : decode cX11_seeds 50 = .ok (.if_icmp .ge 85, 3) := by decide +kernel
theorem dX11_seeds_53 : decode cX11_seeds 53 = .ok (.iconst 0, 1) := by decide +kernel
theorem dX11_seeds_54 : decode cX11_seeds 54 = .ok (.istore 7, 2) := by decide +kernel
theorem dX11_seeds_56 : decode cX11_seeds 56 = .ok (.iconst 0, 1) := by decide +kernel
theorem dX11_seeds_57 : decode cX11_seeds 57 = .ok (.istore 8, 2) := by decide +kernel
theorem dX11_seeds_59 : decode cX11_seeds 59 = .ok (.iload 8, 2) := by decide +kernel
theorem dX11_seeds_61 : decode cX11_seeds 61 = .ok (.aload_n 0, 1) := by decide +kernel
theorem dX11_seeds_62 : decode cX11_seeds 62 = .ok (.getfield 33, 3) := by decide +kernel
theorem dX11_seeds_65 : decode cX11_seeds 65 = .ok (.getfield 78, 3) := by decide +kernel
theorem dX11_seeds_68 : decode cX11_seeds 68 = .ok (.if_icmp .ge 45, 3) := by decide +kernel
theorem dX11_seeds_71 : decode cX11_seeds 71 = .ok (.iload 4, 2) := by decide +kernel
theorem dX11_seeds_73 : decode cX11_seeds 73 = .ok (.ldc 191, 2) := by decide +kernel
theorem dX11_seeds_75 : decode cX11_seeds 75 = .ok (.imul, 1) := by decide +kernel
theorem dX11_seeds_76 : decode cX11_seeds 76 = .ok (.ldc 192, 2) := by decide +kernel
theorem dX11_seeds_78 : decode cX11_seeds 78 = .ok (.iadd, 1) := by decide +kernel
theorem dX11_seeds_79 : decode cX11_seeds 79 = .ok (.istore 4, 2) := by decide +kernel
theorem dX11_seeds_81 : decode cX11_seeds 81 = .ok (.iload 4, 2) := by decide +kernel
theorem dX11_seeds_83 : decode cX11_seeds 83 = .ok (.invokestatic 193, 3) := by decide +kernel
theorem dX11_seeds_86 : decode cX11_seeds 86 = .ok (.aload_n 0, 1) := by decide +kernel
theorem dX11_seeds_87 : decode cX11_seeds 87 = .ok (.getfield 33, 3) := by decide +kernel
theorem dX11_seeds_90 : decode cX11_seeds 90 = .ok (.iload 8, 2) := by decide +kernel
theorem dX11_seeds_92 : decode cX11_seeds 92 = .ok (.invokevirtual 86, 3) := by decide +kernel
theorem dX11_seeds_95 : decode cX11_seeds 95 = .ok (.if_icmp .ge 12, 3) := by decide +kernel
theorem dX11_seeds_98 : decode cX11_seeds 98 = .ok (.iload 7, 2) := by decide +kernel
theorem dX11_seeds_100 : decode cX11_seeds 100 = .ok (.iconst 1, 1) := by decide +kernel
theorem dX11_seeds_101 : decode cX11_seeds 101 = .ok (.iload 8, 2) := by decide +kernel
theorem dX11_seeds_103 : decode cX11_seeds 103 = .ok (.ishl, 1) := by decide +kernel
theorem dX11_seeds_104 : decode cX11_seeds 104 = .ok (.ior, 1) := by decide +kernel
theorem dX11_seeds_105 : decode cX11_seeds 105 = .ok (.istore 7, 2) := by decide +kernel
theorem dX11_seeds_107 : decode cX11_seeds 107 = .ok (.iinc 8 1, 3) := by decide +kernel
theorem dX11_seeds_110 : decode cX11_seeds 110 = .ok (.goto (-51), 3) := by decide +kernel
theorem dX11_seeds_113 : decode cX11_seeds 113 = .ok (.iload 5, 2) := by decide +kernel
theorem dX11_seeds_115 : decode cX11_seeds 115 = .ok (.aload_n 0, 1) := by decide +kernel
theorem dX11_seeds_116 : decode cX11_seeds 116 = .ok (.aload_n 0, 1) := by decide +kernel
theorem dX11_seeds_117 : decode cX11_seeds 117 = .ok (.getfield 33, 3) := by decide +kernel
theorem dX11_seeds_120 : decode cX11_seeds 120 = .ok (.iload_n 3, 1) := by decide +kernel
theorem dX11_seeds_121 : decode cX11_seeds 121 = .ok (.iload 7, 2) := by decide +kernel
theorem dX11_seeds_123 : decode cX11_seeds 123 = .ok (.invokevirtual 126, 3) := by decide +kernel
theorem dX11_seeds_126 : decode cX11_seeds 126 = .ok (.iadd, 1) := by decide +kernel
theorem dX11_seeds_127 : decode cX11_seeds 127 = .ok (.istore 5, 2) := by decide +kernel
theorem dX11_seeds_129 : decode cX11_seeds 129 = .ok (.iinc 6 1, 3) := by decide +kernel
theorem dX11_seeds_132 : decode cX11_seeds 132 = .ok (.goto (-85), 3) := by decide +kernel
theorem dX11_seeds_135 : decode cX11_seeds 135 = .ok (.iload 5, 2) := by decide +kernel
theorem dX11_seeds_137 : decode cX11_seeds 137 = .ok (.ireturn, 1) := by decide +kernel
theorem dX11_image_0 : decode cX11_image 0 = .ok (.aload_n 0, 1) := by decide +kernel
theorem dX11_image_1 : decode cX11_image 1 = .ok (.getfield 40, 3) := by decide +kernel
theorem dX11_image_4 : decode cX11_image 4 = .ok (.aload_n 0, 1) := by decide +kernel
theorem dX11_image_5 : decode cX11_image 5 = .ok (.getfield 33, 3) := by decide +kernel
theorem dX11_image_8 : decode cX11_image 8 = .ok (.invokevirtual 155, 3) := by decide +kernel
theorem dX11_image_11 : decode cX11_image 11 = .ok (.aload_n 0, 1) := by decide +kernel
theorem dX11_image_12 : decode cX11_image 12 = .ok (.iconst 1, 1) := by decide +kernel
theorem dX11_image_13 : decode cX11_image 13 = .ok (.putfield 60, 3) := by decide +kernel
theorem dX11_image_16 : decode cX11_image 16 = .ok (.aload_n 0, 1) := by decide +kernel
theorem dX11_image_17 : decode cX11_image 17 = .ok (.getfield 40, 3) := by decide +kernel
theorem dX11_image_20 : decode cX11_image 20 = .ok (.getfield 162, 3) := by decide +kernel
theorem dX11_image_23 : decode cX11_image 23 = .ok (.ireturn, 1) := by decide +kernel
theorem dX11_on_0 : decode cX11_on 0 = .ok (.aload_n 0, 1) := by decide +kernel
theorem dX11_on_1 : decode cX11_on 1 = .ok (.getfield 60, 3) := by decide +kernel
theorem dX11_on_4 : decode cX11_on 4 = .ok (.ifCond .ne 10, 3) := by decide +kernel
theorem dX11_on_7 : decode cX11_on 7 = .ok (.aload_n 0, 1) := by decide +kernel
theorem dX11_on_8 : decode cX11_on 8 = .ok (.bipush (-3), 2) := by decide +kernel
theorem dX11_on_10 : decode cX11_on 10 = .ok (.invokevirtual 82, 3) := by decide +kernel
theorem dX11_on_13 : decode cX11_on 13 = .ok (.ireturn, 1) := by decide +kernel
theorem dX11_on_14 : decode cX11_on 14 = .ok (.aload_n 0, 1) := by decide +kernel
theorem dX11_on_15 : decode cX11_on 15 = .ok (.getfield 33, 3) := by decide +kernel
theorem dX11_on_18 : decode cX11_on 18 = .ok (.aload_n 0, 1) := by decide +kernel
theorem dX11_on_19 : decode cX11_on 19 = .ok (.getfield 40, 3) := by decide +kernel
theorem dX11_on_22 : decode cX11_on 22 = .ok (.invokevirtual 155, 3) := by decide +kernel
theorem dX11_on_25 : decode cX11_on 25 = .ok (.aload_n 0, 1) := by decide +kernel
theorem dX11_on_26 : decode cX11_on 26 = .ok (.getfield 46, 3) := by decide +kernel
theorem dX11_on_29 : decode cX11_on 29 = .ok (.aload_n 0, 1) := by decide +kernel
theorem dX11_on_30 : decode cX11_on 30 = .ok (.getfield 33, 3) := by decide +kernel
theorem dX11_on_33 : decode cX11_on 33 = .ok (.invokevirtual 196, 3) := by decide +kernel
theorem dX11_on_36 : decode cX11_on 36 = .ok (.aload_n 0, 1) := by decide +kernel
theorem dX11_on_37 : decode cX11_on 37 = .ok (.getfield 33, 3) := by decide +kernel
theorem dX11_on_40 : decode cX11_on 40 = .ok (.getfield 162, 3) := by decide +kernel
theorem dX11_on_43 : decode cX11_on 43 = .ok (.ireturn, 1) := by decide +kernel
theorem dX11_count_0 : decode cX11_count 0 = .ok (.iload_n 1, 1) := by decide +kernel
theorem dX11_count_1 : decode cX11_count 1 = .ok (.tableswitch 87 0 5 #[39, 47, 55, 63, 71, 79], 39) := by decide +kernel
theorem dX11_count_40 : decode cX11_count 40 = .ok (.aload_n 0, 1) := by decide +kernel
theorem dX11_count_41 : decode cX11_count 41 = .ok (.getfield 33, 3) := by decide +kernel
theorem dX11_count_44 : decode cX11_count 44 = .ok (.getfield 78, 3) := by decide +kernel
theorem dX11_count_47 : decode cX11_count 47 = .ok (.ireturn, 1) := by decide +kernel
theorem dX11_count_48 : decode cX11_count 48 = .ok (.aload_n 0, 1) := by decide +kernel
theorem dX11_count_49 : decode cX11_count 49 = .ok (.getfield 33, 3) := by decide +kernel
theorem dX11_count_52 : decode cX11_count 52 = .ok (.getfield 162, 3) := by decide +kernel
theorem dX11_count_55 : decode cX11_count 55 = .ok (.ireturn, 1) := by decide +kernel
theorem dX11_count_56 : decode cX11_count 56 = .ok (.aload_n 0, 1) := by decide +kernel
theorem dX11_count_57 : decode cX11_count 57 = .ok (.getfield 33, 3) := by decide +kernel
theorem dX11_count_60 : decode cX11_count 60 = .ok (.invokevirtual 141, 3) := by decide +kernel
theorem dX11_count_63 : decode cX11_count 63 = .ok (.ireturn, 1) := by decide +kernel
theorem dX11_count_64 : decode cX11_count 64 = .ok (.aload_n 0, 1) := by decide +kernel
theorem dX11_count_65 : decode cX11_count 65 = .ok (.getfield 33, 3) := by decide +kernel
theorem dX11_count_68 : decode cX11_count 68 = .ok (.invokevirtual 199, 3) := by decide +kernel
theorem dX11_count_71 : decode cX11_count 71 = .ok (.ireturn, 1) := by decide +kernel
theorem dX11_count_72 : decode cX11_count 72 = .ok (.aload_n 0, 1) := by decide +kernel
theorem dX11_count_73 : decode cX11_count 73 = .ok (.getfield 18, 3) := by decide +kernel
theorem dX11_count_76 : decode cX11_count 76 = .ok (.getfield 202, 3) := by decide +kernel
theorem dX11_count_79 : decode cX11_count 79 = .ok (.ireturn, 1) := by decide +kernel
theorem dX11_count_80 : decode cX11_count 80 = .ok (.aload_n 0, 1) := by decide +kernel
theorem dX11_count_81 : decode cX11_count 81 = .ok (.getfield 14, 3) := by decide +kernel
theorem dX11_count_84 : decode cX11_count 84 = .ok (.getfield 202, 3) := by decide +kernel
theorem dX11_count_87 : decode cX11_count 87 = .ok (.ireturn, 1) := by decide +kernel
theorem dX11_count_88 : decode cX11_count 88 = .ok (.iload_n 1, 1) := by decide +kernel
theorem dX11_count_89 : decode cX11_count 89 = .ok (.bipush 11, 2) := by decide +kernel
theorem dX11_count_91 : decode cX11_count 91 = .ok (.if_icmp .lt 23, 3) := by decide +kernel
theorem dX11_count_94 : decode cX11_count 94 = .ok (.iload_n 1, 1) := by decide +kernel
theorem dX11_count_95 : decode cX11_count 95 = .ok (.bipush 16, 2) := by decide +kernel
theorem dX11_count_97 : decode cX11_count 97 = .ok (.if_icmp .gt 17, 3) := by decide +kernel
theorem dX11_count_100 : decode cX11_count 100 = .ok (.aload_n 0, 1) := by decide +kernel
theorem dX11_count_101 : decode cX11_count 101 = .ok (.getfield 50, 3) := by decide +kernel
theorem dX11_count_104 : decode cX11_count 104 = .ok (.iload_n 1, 1) := by decide +kernel
theorem dX11_count_105 : decode cX11_count 105 = .ok (.bipush 10, 2) := by decide +kernel
theorem dX11_count_107 : decode cX11_count 107 = .ok (.isub, 1) := by decide +kernel
theorem dX11_count_108 : decode cX11_count 108 = .ok (.invokestatic 175, 3) := by decide +kernel
theorem dX11_count_111 : decode cX11_count 111 = .ok (.goto 5, 3) := by decide +kernel
theorem dX11_count_114 : decode cX11_count 114 = .ok (.bipush (-9), 2) := by decide +kernel
theorem dX11_count_116 : decode cX11_count 116 = .ok (.ireturn, 1) := by decide +kernel
theorem dX11_innTold_0 : decode cX11_innTold 0 = .ok (.aload_n 0, 1) := by decide +kernel
theorem dX11_innTold_1 : decode cX11_innTold 1 = .ok (.getfield 37, 3) := by decide +kernel
theorem dX11_innTold_4 : decode cX11_innTold 4 = .ok (.aload_n 0, 1) := by decide +kernel
theorem dX11_innTold_5 : decode cX11_innTold 5 = .ok (.getfield 33, 3) := by decide +kernel
theorem dX11_innTold_8 : decode cX11_innTold 8 = .ok (.invokevirtual 155, 3) := by decide +kernel
theorem dX11_innTold_11 : decode cX11_innTold 11 = .ok (.aload_n 0, 1) := by decide +kernel
theorem dX11_innTold_12 : decode cX11_innTold 12 = .ok (.getfield 26, 3) := by decide +kernel
theorem dX11_innTold_15 : decode cX11_innTold 15 = .ok (.invokevirtual 205, 3) := by decide +kernel
theorem dX11_innTold_18 : decode cX11_innTold 18 = .ok (.iconst 0, 1) := by decide +kernel
theorem dX11_innTold_19 : decode cX11_innTold 19 = .ok (.istore_n 1, 1) := by decide +kernel
theorem dX11_innTold_20 : decode cX11_innTold 20 = .ok (.aload_n 0, 1) := by decide +kernel
theorem dX11_innTold_21 : decode cX11_innTold 21 = .ok (.getfield 26, 3) := by decide +kernel
theorem dX11_innTold_24 : decode cX11_innTold 24 = .ok (.invokevirtual 208, 3) := by decide +kernel
theorem dX11_innTold_27 : decode cX11_innTold 27 = .ok (.ifCond .eq 55, 3) := by decide +kernel
theorem dX11_innTold_30 : decode cX11_innTold 30 = .ok (.iload_n 1, 1) := by decide +kernel
theorem dX11_innTold_31 : decode cX11_innTold 31 = .ok (.bipush 80, 2) := by decide +kernel
theorem dX11_innTold_33 : decode cX11_innTold 33 = .ok (.if_icmp .ge 49, 3) := by decide +kernel
theorem dX11_innTold_36 : decode cX11_innTold 36 = .ok (.aload_n 0, 1) := by decide +kernel
theorem dX11_innTold_37 : decode cX11_innTold 37 = .ok (.getfield 26, 3) := by decide +kernel
theorem dX11_innTold_40 : decode cX11_innTold 40 = .ok (.getfield 212, 3) := by decide +kernel
theorem dX11_innTold_43 : decode cX11_innTold 43 = .ok (.istore_n 2, 1) := by decide +kernel
theorem dX11_innTold_44 : decode cX11_innTold 44 = .ok (.aload_n 0, 1) := by decide +kernel
theorem dX11_innTold_45 : decode cX11_innTold 45 = .ok (.getfield 26, 3) := by decide +kernel
theorem dX11_innTold_48 : decode cX11_innTold 48 = .ok (.invokevirtual 215, 3) := by decide +kernel
theorem dX11_innTold_51 : decode cX11_innTold 51 = .ok (.istore_n 3, 1) := by decide +kernel
theorem dX11_innTold_52 : decode cX11_innTold 52 = .ok (.aload_n 0, 1) := by decide +kernel
theorem dX11_innTold_53 : decode cX11_innTold 53 = .ok (.getfield 37, 3) := by decide +kernel
theorem dX11_innTold_56 : decode cX11_innTold 56 = .ok (.iload_n 3, 1) := by decide +kernel
theorem dX11_innTold_57 : decode cX11_innTold 57 = .ok (.aload_n 0, 1) := by decide +kernel
theorem dX11_innTold_58 : decode cX11_innTold 58 = .ok (.getfield 26, 3) := by decide +kernel
theorem dX11_innTold_61 : decode cX11_innTold 61 = .ok (.getfield 218, 3) := by decide +kernel
theorem dX11_innTold_64 : decode cX11_innTold 64 = .ok (.invokevirtual 221, 3) := by decide +kernel
theorem dX11_innTold_67 : decode cX11_innTold 67 = .ok (.ifCond .ne 9, 3) := by decide +kernel
theorem dX11_innTold_70 : decode cX11_innTold 70 = .ok (.sipush (-2000), 3) := by decide +kernel
theorem dX11_innTold_73 : decode cX11_innTold 73 = .ok (.iload_n 2, 1) := by decide +kernel
theorem dX11_innTold_74 : decode cX11_innTold 74 = .ok (.isub, 1) := by decide +kernel
theorem dX11_innTold_75 : decode cX11_innTold 75 = .ok (.ireturn, 1) := by decide +kernel
theorem dX11_innTold_76 : decode cX11_innTold 76 = .ok (.iinc 1 1, 3) := by decide +kernel
theorem dX11_innTold_79 : decode cX11_innTold 79 = .ok (.goto (-59), 3) := by decide +kernel
theorem dX11_innTold_82 : decode cX11_innTold 82 = .ok (.aload_n 0, 1) := by decide +kernel
theorem dX11_innTold_83 : decode cX11_innTold 83 = .ok (.getfield 33, 3) := by decide +kernel
theorem dX11_innTold_86 : decode cX11_innTold 86 = .ok (.aload_n 0, 1) := by decide +kernel
theorem dX11_innTold_87 : decode cX11_innTold 87 = .ok (.getfield 37, 3) := by decide +kernel
theorem dX11_innTold_90 : decode cX11_innTold 90 = .ok (.invokevirtual 155, 3) := by decide +kernel
theorem dX11_innTold_93 : decode cX11_innTold 93 = .ok (.aload_n 0, 1) := by decide +kernel
theorem dX11_innTold_94 : decode cX11_innTold 94 = .ok (.getfield 46, 3) := by decide +kernel
theorem dX11_innTold_97 : decode cX11_innTold 97 = .ok (.aload_n 0, 1) := by decide +kernel
theorem dX11_innTold_98 : decode cX11_innTold 98 = .ok (.getfield 33, 3) := by decide +kernel
theorem dX11_innTold_101 : decode cX11_innTold 101 = .ok (.invokevirtual 196, 3) := by decide +kernel
theorem dX11_innTold_104 : decode cX11_innTold 104 = .ok (.iload_n 1, 1) := by decide +kernel
theorem dX11_innTold_105 : decode cX11_innTold 105 = .ok (.ireturn, 1) := by decide +kernel
theorem dX11_taken_0 : decode cX11_taken 0 = .ok (.iload_n 2, 1) := by decide +kernel
theorem dX11_taken_1 : decode cX11_taken 1 = .ok (.ifCond .ge 10, 3) := by decide +kernel
theorem dX11_taken_4 : decode cX11_taken 4 = .ok (.aload_n 0, 1) := by decide +kernel
theorem dX11_taken_5 : decode cX11_taken 5 = .ok (.bipush (-4), 2) := by decide +kernel
theorem dX11_taken_7 : decode cX11_taken 7 = .ok (.invokevirtual 82, 3) := by decide +kernel
theorem dX11_taken_10 : decode cX11_taken 10 = .ok (.ireturn, 1) := by decide +kernel
theorem dX11_taken_11 : decode cX11_taken 11 = .ok (.iload_n 2, 1) := by decide +kernel
theorem dX11_taken_12 : decode cX11_taken 12 = .ok (.iload_n 3, 1) := by decide +kernel
theorem dX11_taken_13 : decode cX11_taken 13 = .ok (.if_icmp .gt 10, 3) := by decide +kernel
theorem dX11_taken_16 : decode cX11_taken 16 = .ok (.aload_n 1, 1) := by decide +kernel
theorem dX11_taken_17 : decode cX11_taken 17 = .ok (.invokevirtual 225, 3) := by decide +kernel
theorem dX11_taken_20 : decode cX11_taken 20 = .ok (.ifCond .eq 10, 3) := by decide +kernel
theorem dX11_taken_23 : decode cX11_taken 23 = .ok (.aload_n 0, 1) := by decide +kernel
theorem dX11_taken_24 : decode cX11_taken 24 = .ok (.bipush (-6), 2) := by decide +kernel
theorem dX11_taken_26 : decode cX11_taken 26 = .ok (.invokevirtual 82, 3) := by decide +kernel
theorem dX11_taken_29 : decode cX11_taken 29 = .ok (.ireturn, 1) := by decide +kernel
theorem dX11_taken_30 : decode cX11_taken 30 = .ok (.aload_n 1, 1) := by decide +kernel
theorem dX11_taken_31 : decode cX11_taken 31 = .ok (.iload_n 2, 1) := by decide +kernel
theorem dX11_taken_32 : decode cX11_taken 32 = .ok (.invokevirtual 228, 3) := by decide +kernel
theorem dX11_taken_35 : decode cX11_taken 35 = .ok (.aload_n 1, 1) := by decide +kernel
theorem dX11_taken_36 : decode cX11_taken 36 = .ok (.getfield 202, 3) := by decide +kernel
theorem dX11_taken_39 : decode cX11_taken 39 = .ok (.ireturn, 1) := by decide +kernel
theorem dX11_extreme_0 : decode cX11_extreme 0 = .ok (.iload_n 1, 1) := by decide +kernel
theorem dX11_extreme_1 : decode cX11_extreme 1 = .ok (.invokestatic 101, 3) := by decide +kernel
theorem dX11_extreme_4 : decode cX11_extreme 4 = .ok (.ifCond .ne 9, 3) := by decide +kernel
theorem dX11_extreme_7 : decode cX11_extreme 7 = .ok (.aload_n 0, 1) := by decide +kernel
theorem dX11_extreme_8 : decode cX11_extreme 8 = .ok (.iconst (-1), 1) := by decide +kernel
theorem dX11_extreme_9 : decode cX11_extreme 9 = .ok (.invokevirtual 123, 3) := by decide +kernel
theorem dX11_extreme_12 : decode cX11_extreme 12 = .ok (.ireturn, 1) := by decide +kernel
theorem dX11_extreme_13 : decode cX11_extreme 13 = .ok (.iload_n 2, 1) := by decide +kernel
theorem dX11_extreme_14 : decode cX11_extreme 14 = .ok (.ifCond .eq 15, 3) := by decide +kernel
theorem dX11_extreme_17 : decode cX11_extreme 17 = .ok (.iload_n 2, 1) := by decide +kernel
theorem dX11_extreme_18 : decode cX11_extreme 18 = .ok (.iconst 1, 1) := by decide +kernel
theorem dX11_extreme_19 : decode cX11_extreme 19 = .ok (.if_icmp .eq 10, 3) := by decide +kernel
theorem dX11_extreme_22 : decode cX11_extreme 22 = .ok (.aload_n 0, 1) := by decide +kernel
theorem dX11_extreme_23 : decode cX11_extreme 23 = .ok (.bipush (-2), 2) := by decide +kernel
theorem dX11_extreme_25 : decode cX11_extreme 25 = .ok (.invokevirtual 123, 3) := by decide +kernel
theorem dX11_extreme_28 : decode cX11_extreme 28 = .ok (.ireturn, 1) := by decide +kernel
theorem dX11_extreme_29 : decode cX11_extreme 29 = .ok (.aload_n 0, 1) := by decide +kernel
theorem dX11_extreme_30 : decode cX11_extreme 30 = .ok (.aload_n 0, 1) := by decide +kernel
theorem dX11_extreme_31 : decode cX11_extreme 31 = .ok (.getfield 33, 3) := by decide +kernel
theorem dX11_extreme_34 : decode cX11_extreme 34 = .ok (.iload_n 1, 1) := by decide +kernel
theorem dX11_extreme_35 : decode cX11_extreme 35 = .ok (.iload_n 3, 1) := by decide +kernel
theorem dX11_extreme_36 : decode cX11_extreme 36 = .ok (.invokevirtual 138, 3) := by decide +kernel
theorem dX11_extreme_39 : decode cX11_extreme 39 = .ok (.istore 4, 2) := by decide +kernel
theorem dX11_extreme_41 : decode cX11_extreme 41 = .ok (.iload_n 2, 1) := by decide +kernel
theorem dX11_extreme_42 : decode cX11_extreme 42 = .ok (.ifCond .ne 17, 3) := by decide +kernel
theorem dX11_extreme_45 : decode cX11_extreme 45 = .ok (.aload_n 0, 1) := by decide +kernel
theorem dX11_extreme_46 : decode cX11_extreme 46 = .ok (.aload_n 0, 1) := by decide +kernel
theorem dX11_extreme_47 : decode cX11_extreme 47 = .ok (.getfield 33, 3) := by decide +kernel
theorem dX11_extreme_50 : decode cX11_extreme 50 = .ok (.iload_n 1, 1) := by decide +kernel
theorem dX11_extreme_51 : decode cX11_extreme 51 = .ok (.iload 4, 2) := by decide +kernel
theorem dX11_extreme_53 : decode cX11_extreme 53 = .ok (.invokevirtual 126, 3) := by decide +kernel
theorem dX11_extreme_56 : decode cX11_extreme 56 = .ok (.goto 5, 3) := by decide +kernel
theorem dX11_extreme_59 : decode cX11_extreme 59 = .ok (.iload 4, 2) := by decide +kernel
theorem dX11_extreme_61 : decode cX11_extreme 61 = .ok (.ireturn, 1) := by decide +kernel
theorem dX11_purseOf_0 : decode cX11_purseOf 0 = .ok (.iconst 0, 1) := by decide +kernel
theorem dX11_purseOf_1 : decode cX11_purseOf 1 = .ok (.istore 4, 2) := by decide +kernel
theorem dX11_purseOf_3 : decode cX11_purseOf 3 = .ok (.iconst 0, 1) := by decide +kernel
theorem dX11_purseOf_4 : decode cX11_purseOf 4 = .ok (.istore 5, 2) := by decide +kernel
theorem dX11_purseOf_6 : decode cX11_purseOf 6 = .ok (.iload 5, 2) := by decide +kernel
theorem dX11_purseOf_8 : decode cX11_purseOf 8 = .ok (.aload_n 1, 1) := by decide +kernel
theorem dX11_purseOf_9 : decode cX11_purseOf 9 = .ok (.getfield 162, 3) := by decide +kernel
theorem dX11_purseOf_12 : decode cX11_purseOf 12 = .ok (.if_icmp .ge 56, 3) := by decide +kernel
theorem dX11_purseOf_15 : decode cX11_purseOf 15 = .ok (.aload_n 0, 1) := by decide +kernel
theorem dX11_purseOf_16 : decode cX11_purseOf 16 = .ok (.aload_n 1, 1) := by decide +kernel
theorem dX11_purseOf_17 : decode cX11_purseOf 17 = .ok (.iload 5, 2) := by decide +kernel
theorem dX11_purseOf_19 : decode cX11_purseOf 19 = .ok (.iload_n 3, 1) := by decide +kernel
theorem dX11_purseOf_20 : decode cX11_purseOf 20 = .ok (.invokevirtual 231, 3) := by decide +kernel
theorem dX11_purseOf_23 : decode cX11_purseOf 23 = .ok (.istore 6, 2) := by decide +kernel
theorem dX11_purseOf_25 : decode cX11_purseOf 25 = .ok (.aload_n 1, 1) := by decide +kernel
theorem dX11_purseOf_26 : decode cX11_purseOf 26 = .ok (.iload 5, 2) := by decide +kernel
theorem dX11_purseOf_28 : decode cX11_purseOf 28 = .ok (.iconst 5, 1) := by decide +kernel
theorem dX11_purseOf_29 : decode cX11_purseOf 29 = .ok (.invokevirtual 93, 3) := by decide +kernel
theorem dX11_purseOf_32 : decode cX11_purseOf 32 = .ok (.iload_n 2, 1) := by decide +kernel
theorem dX11_purseOf_33 : decode cX11_purseOf 33 = .ok (.if_icmp .ne 10, 3) := by decide +kernel
theorem dX11_purseOf_36 : decode cX11_purseOf 36 = .ok (.iload 4, 2) := by decide +kernel
theorem dX11_purseOf_38 : decode cX11_purseOf 38 = .ok (.iload 6, 2) := by decide +kernel
theorem dX11_purseOf_40 : decode cX11_purseOf 40 = .ok (.iadd, 1) := by decide +kernel
theorem dX11_purseOf_41 : decode cX11_purseOf 41 = .ok (.istore 4, 2) := by decide +kernel
theorem dX11_purseOf_43 : decode cX11_purseOf 43 = .ok (.aload_n 1, 1) := by decide +kernel
theorem dX11_purseOf_44 : decode cX11_purseOf 44 = .ok (.iload 5, 2) := by decide +kernel
theorem dX11_purseOf_46 : decode cX11_purseOf 46 = .ok (.bipush 6, 2) := by decide +kernel
theorem dX11_purseOf_48 : decode cX11_purseOf 48 = .ok (.invokevirtual 93, 3) := by decide +kernel
theorem dX11_purseOf_51 : decode cX11_purseOf 51 = .ok (.iload_n 2, 1) := by decide +kernel
theorem dX11_purseOf_52 : decode cX11_purseOf 52 = .ok (.if_icmp .ne 10, 3) := by decide +kernel
theorem dX11_purseOf_55 : decode cX11_purseOf 55 = .ok (.iload 4, 2) := by decide +kernel
theorem dX11_purseOf_57 : decode cX11_purseOf 57 = .ok (.iload 6, 2) := by decide +kernel
theorem dX11_purseOf_59 : decode cX11_purseOf 59 = .ok (.isub, 1) := by decide +kernel
theorem dX11_purseOf_60 : decode cX11_purseOf 60 = .ok (.istore 4, 2) := by decide +kernel
theorem dX11_purseOf_62 : decode cX11_purseOf 62 = .ok (.iinc 5 1, 3) := by decide +kernel
theorem dX11_purseOf_65 : decode cX11_purseOf 65 = .ok (.goto (-59), 3) := by decide +kernel
theorem dX11_purseOf_68 : decode cX11_purseOf 68 = .ok (.iload 4, 2) := by decide +kernel
theorem dX11_purseOf_70 : decode cX11_purseOf 70 = .ok (.ireturn, 1) := by decide +kernel
theorem dX11_bettorsGain_0 : decode cX11_bettorsGain 0 = .ok (.aload_n 1, 1) := by decide +kernel
theorem dX11_bettorsGain_1 : decode cX11_bettorsGain 1 = .ok (.iload_n 2, 1) := by decide +kernel
theorem dX11_bettorsGain_2 : decode cX11_bettorsGain 2 = .ok (.iconst 3, 1) := by decide +kernel
theorem dX11_bettorsGain_3 : decode cX11_bettorsGain 3 = .ok (.invokevirtual 93, 3) := by decide +kernel
theorem dX11_bettorsGain_6 : decode cX11_bettorsGain 6 = .ok (.istore 4, 2) := by decide +kernel
theorem dX11_bettorsGain_8 : decode cX11_bettorsGain 8 = .ok (.aload_n 0, 1) := by decide +kernel
theorem dX11_bettorsGain_9 : decode cX11_bettorsGain 9 = .ok (.getfield 46, 3) := by decide +kernel
theorem dX11_bettorsGain_12 : decode cX11_bettorsGain 12 = .ok (.iload_n 2, 1) := by decide +kernel
theorem dX11_bettorsGain_13 : decode cX11_bettorsGain 13 = .ok (.iload_n 3, 1) := by decide +kernel
theorem dX11_bettorsGain_14 : decode cX11_bettorsGain 14 = .ok (.invokevirtual 120, 3) := by decide +kernel
theorem dX11_bettorsGain_17 : decode cX11_bettorsGain 17 = .ok (.lookupswitch 41 #[(0, 37), (1, 27)], 27) := by decide +kernel
theorem dX11_bettorsGain_44 : decode cX11_bettorsGain 44 = .ok (.iload 4, 2) := by decide +kernel
theorem dX11_bettorsGain_46 : decode cX11_bettorsGain 46 = .ok (.aload_n 1, 1) := by decide +kernel
theorem dX11_bettorsGain_47 : decode cX11_bettorsGain 47 = .ok (.iload_n 2, 1) := by decide +kernel
theorem dX11_bettorsGain_48 : decode cX11_bettorsGain 48 = .ok (.iconst 4, 1) := by decide +kernel
theorem dX11_bettorsGain_49 : decode cX11_bettorsGain 49 = .ok (.invokevirtual 93, 3) := by decide +kernel
theorem dX11_bettorsGain_52 : decode cX11_bettorsGain 52 = .ok (.imul, 1) := by decide +kernel
theorem dX11_bettorsGain_53 : decode cX11_bettorsGain 53 = .ok (.ireturn, 1) := by decide +kernel
theorem dX11_bettorsGain_54 : decode cX11_bettorsGain 54 = .ok (.iload 4, 2) := by decide +kernel
theorem dX11_bettorsGain_56 : decode cX11_bettorsGain 56 = .ok (.ineg, 1) := by decide +kernel
theorem dX11_bettorsGain_57 : decode cX11_bettorsGain 57 = .ok (.ireturn, 1) := by decide +kernel
theorem dX11_bettorsGain_58 : decode cX11_bettorsGain 58 = .ok (.iconst 0, 1) := by decide +kernel
theorem dX11_bettorsGain_59 : decode cX11_bettorsGain 59 = .ok (.ireturn, 1) := by decide +kernel
theorem dX11_meanOf_0 : decode cX11_meanOf 0 = .ok (.aload_n 1, 1) := by decide +kernel
theorem dX11_meanOf_1 : decode cX11_meanOf 1 = .ok (.invokevirtual 141, 3) := by decide +kernel
theorem dX11_meanOf_4 : decode cX11_meanOf 4 = .ok (.istore_n 3, 1) := by decide +kernel
theorem dX11_meanOf_5 : decode cX11_meanOf 5 = .ok (.lconst 0, 1) := by decide +kernel
theorem dX11_meanOf_6 : decode cX11_meanOf 6 = .ok (.lstore 4, 2) := by decide +kernel
theorem dX11_meanOf_8 : decode cX11_meanOf 8 = .ok (.iconst 0, 1) := by decide +kernel
theorem dX11_meanOf_9 : decode cX11_meanOf 9 = .ok (.istore 6, 2) := by decide +kernel
theorem dX11_meanOf_11 : decode cX11_meanOf 11 = .ok (.iload 6, 2) := by decide +kernel
theorem dX11_meanOf_13 : decode cX11_meanOf 13 = .ok (.iload_n 3, 1) := by decide +kernel
theorem dX11_meanOf_14 : decode cX11_meanOf 14 = .ok (.if_icmp .ge 30, 3) := by decide +kernel
theorem dX11_meanOf_17 : decode cX11_meanOf 17 = .ok (.lload 4, 2) := by decide +kernel
theorem dX11_meanOf_19 : decode cX11_meanOf 19 = .ok (.aload_n 1, 1) := by decide +kernel
theorem dX11_meanOf_20 : decode cX11_meanOf 20 = .ok (.iload 6, 2) := by decide +kernel
theorem dX11_meanOf_22 : decode cX11_meanOf 22 = .ok (.invokevirtual 144, 3) := by decide +kernel
theorem dX11_meanOf_25 : decode cX11_meanOf 25 = .ok (.aload_n 0, 1) := by decide +kernel
theorem dX11_meanOf_26 : decode cX11_meanOf 26 = .ok (.aload_n 1, 1) := by decide +kernel
theorem dX11_meanOf_27 : decode cX11_meanOf 27 = .ok (.iload_n 2, 1) := by decide +kernel
theorem dX11_meanOf_28 : decode cX11_meanOf 28 = .ok (.iload 6, 2) := by decide +kernel
theorem dX11_meanOf_30 : decode cX11_meanOf 30 = .ok (.invokevirtual 126, 3) := by decide +kernel
theorem dX11_meanOf_33 : decode cX11_meanOf 33 = .ok (.i2l, 1) := by decide +kernel
theorem dX11_meanOf_34 : decode cX11_meanOf 34 = .ok (.lmul, 1) := by decide +kernel
theorem dX11_meanOf_35 : decode cX11_meanOf 35 = .ok (.ladd, 1) := by decide +kernel
theorem dX11_meanOf_36 : decode cX11_meanOf 36 = .ok (.lstore 4, 2) := by decide +kernel
theorem dX11_meanOf_38 : decode cX11_meanOf 38 = .ok (.iinc 6 1, 3) := by decide +kernel
theorem dX11_meanOf_41 : decode cX11_meanOf 41 = .ok (.goto (-30), 3) := by decide +kernel
theorem dX11_meanOf_44 : decode cX11_meanOf 44 = .ok (.aload_n 1, 1) := by decide +kernel
theorem dX11_meanOf_45 : decode cX11_meanOf 45 = .ok (.lload 4, 2) := by decide +kernel
theorem dX11_meanOf_47 : decode cX11_meanOf 47 = .ok (.invokestatic 148, 3) := by decide +kernel
theorem dX11_meanOf_50 : decode cX11_meanOf 50 = .ok (.ireturn, 1) := by decide +kernel
theorem dX11_inHundredths_0 : decode cX11_inHundredths 0 = .ok (.aload_n 0, 1) := by decide +kernel
theorem dX11_inHundredths_1 : decode cX11_inHundredths 1 = .ok (.invokevirtual 234, 3) := by decide +kernel
theorem dX11_inHundredths_4 : decode cX11_inHundredths 4 = .ok (.lstore_n 3, 1) := by decide +kernel
theorem dX11_inHundredths_5 : decode cX11_inHundredths 5 = .ok (.lload_n 3, 1) := by decide +kernel
theorem dX11_inHundredths_6 : decode cX11_inHundredths 6 = .ok (.lconst 0, 1) := by decide +kernel
theorem dX11_inHundredths_7 : decode cX11_inHundredths 7 = .ok (.lcmp, 1) := by decide +kernel
theorem dX11_inHundredths_8 : decode cX11_inHundredths 8 = .ok (.ifCond .le 14, 3) := by decide +kernel
theorem dX11_inHundredths_11 : decode cX11_inHundredths 11 = .ok (.lload_n 1, 1) := by decide +kernel
theorem dX11_inHundredths_12 : decode cX11_inHundredths 12 = .ok (.ldc2_w 238, 3) := by decide +kernel
theorem dX11_inHundredths_15 : decode cX11_inHundredths 15 = .ok (.lmul, 1) := by decide +kernel
theorem dX11_inHundredths_16 : decode cX11_inHundredths 16 = .ok (.lload_n 3, 1) := by decide +kernel
theorem dX11_inHundredths_17 : decode cX11_inHundredths 17 = .ok (.ldiv, 1) := by decide +kernel
theorem dX11_inHundredths_18 : decode cX11_inHundredths 18 = .ok (.l2i, 1) := by decide +kernel
theorem dX11_inHundredths_19 : decode cX11_inHundredths 19 = .ok (.goto 4, 3) := by decide +kernel
theorem dX11_inHundredths_22 : decode cX11_inHundredths 22 = .ok (.iconst 0, 1) := by decide +kernel
theorem dX11_inHundredths_23 : decode cX11_inHundredths 23 = .ok (.ireturn, 1) := by decide +kernel
theorem dX11_extremeEnd_0 : decode cX11_extremeEnd 0 = .ok (.aload_n 1, 1) := by decide +kernel
theorem dX11_extremeEnd_1 : decode cX11_extremeEnd 1 = .ok (.invokevirtual 141, 3) := by decide +kernel
theorem dX11_extremeEnd_4 : decode cX11_extremeEnd 4 = .ok (.istore 4, 2) := by decide +kernel
theorem dX11_extremeEnd_6 : decode cX11_extremeEnd 6 = .ok (.iconst 0, 1) := by decide +kernel
theorem dX11_extremeEnd_7 : decode cX11_extremeEnd 7 = .ok (.istore 5, 2) := by decide +kernel
theorem dX11_extremeEnd_9 : decode cX11_extremeEnd 9 = .ok (.iload_n 3, 1) := by decide +kernel
theorem dX11_extremeEnd_10 : decode cX11_extremeEnd 10 = .ok (.aload_n 0, 1) := by decide +kernel
theorem dX11_extremeEnd_11 : decode cX11_extremeEnd 11 = .ok (.aload_n 1, 1) := by decide +kernel
theorem dX11_extremeEnd_12 : decode cX11_extremeEnd 12 = .ok (.iload_n 2, 1) := by decide +kernel
theorem dX11_extremeEnd_13 : decode cX11_extremeEnd 13 = .ok (.iconst 0, 1) := by decide +kernel
theorem dX11_extremeEnd_14 : decode cX11_extremeEnd 14 = .ok (.invokevirtual 126, 3) := by decide +kernel
theorem dX11_extremeEnd_17 : decode cX11_extremeEnd 17 = .ok (.imul, 1) := by decide +kernel
theorem dX11_extremeEnd_18 : decode cX11_extremeEnd 18 = .ok (.istore 6, 2) := by decide +kernel
theorem dX11_extremeEnd_20 : decode cX11_extremeEnd 20 = .ok (.iconst 1, 1) := by decide +kernel
theorem dX11_extremeEnd_21 : decode cX11_extremeEnd 21 = .ok (.istore 7, 2) := by decide +kernel
theorem dX11_extremeEnd_23 : decode cX11_extremeEnd 23 = .ok (.iload 7, 2) := by decide +kernel
theorem dX11_extremeEnd_25 : decode cX11_extremeEnd 25 = .ok (.iload 4, 2) := by decide +kernel
theorem dX11_extremeEnd_27 : decode cX11_extremeEnd 27 = .ok (.if_icmp .ge 36, 3) := by decide +kernel
theorem dX11_extremeEnd_30 : decode cX11_extremeEnd 30 = .ok (.iload_n 3, 1) := by decide +kernel
theorem dX11_extremeEnd_31 : decode cX11_extremeEnd 31 = .ok (.aload_n 0, 1) := by decide +kernel
theorem dX11_extremeEnd_32 : decode cX11_extremeEnd 32 = .ok (.aload_n 1, 1) := by decide +kernel
theorem dX11_extremeEnd_33 : decode cX11_extremeEnd 33 = .ok (.iload_n 2, 1) := by decide +kernel
theorem dX11_extremeEnd_34 : decode cX11_extremeEnd 34 = .ok (.iload 7, 2) := by decide +kernel
theorem dX11_extremeEnd_36 : decode cX11_extremeEnd 36 = .ok (.invokevirtual 126, 3) := by decide +kernel
theorem dX11_extremeEnd_39 : decode cX11_extremeEnd 39 = .ok (.imul, 1) := by decide +kernel
theorem dX11_extremeEnd_40 : decode cX11_extremeEnd 40 = .ok (.istore 8, 2) := by decide +kernel
theorem dX11_extremeEnd_42 : decode cX11_extremeEnd 42 = .ok (.iload 8, 2) := by decide +kernel
theorem dX11_extremeEnd_44 : decode cX11_extremeEnd 44 = .ok (.iload 6, 2) := by decide +kernel
theorem dX11_extremeEnd_46 : decode cX11_extremeEnd 46 = .ok (.if_icmp .le 11, 3) := by decide +kernel
theorem dX11_extremeEnd_49 : decode cX11_extremeEnd 49 = .ok (.iload 8, 2) := by decide +kernel
theorem dX11_extremeEnd_51 : decode cX11_extremeEnd 51 = .ok (.istore 6, 2) := by decide +kernel
theorem dX11_extremeEnd_53 : decode cX11_extremeEnd 53 = .ok (.iload 7, 2) := by decide +kernel
theorem dX11_extremeEnd_55 : decode cX11_extremeEnd 55 = .ok (.istore 5, 2) := by decide +kernel
theorem dX11_extremeEnd_57 : decode cX11_extremeEnd 57 = .ok (.iinc 7 1, 3) := by decide +kernel
theorem dX11_extremeEnd_60 : decode cX11_extremeEnd 60 = .ok (.goto (-37), 3) := by decide +kernel
theorem dX11_extremeEnd_63 : decode cX11_extremeEnd 63 = .ok (.iload 5, 2) := by decide +kernel
theorem dX11_extremeEnd_65 : decode cX11_extremeEnd 65 = .ok (.ireturn, 1) := by decide +kernel
theorem dX11_worstOf_0 : decode cX11_worstOf 0 = .ok (.aload_n 0, 1) := by decide +kernel
theorem dX11_worstOf_1 : decode cX11_worstOf 1 = .ok (.aload_n 1, 1) := by decide +kernel
theorem dX11_worstOf_2 : decode cX11_worstOf 2 = .ok (.iload_n 2, 1) := by decide +kernel
theorem dX11_worstOf_3 : decode cX11_worstOf 3 = .ok (.aload_n 0, 1) := by decide +kernel
theorem dX11_worstOf_4 : decode cX11_worstOf 4 = .ok (.aload_n 1, 1) := by decide +kernel
theorem dX11_worstOf_5 : decode cX11_worstOf 5 = .ok (.iload_n 2, 1) := by decide +kernel
theorem dX11_worstOf_6 : decode cX11_worstOf 6 = .ok (.iconst (-1), 1) := by decide +kernel
theorem dX11_worstOf_7 : decode cX11_worstOf 7 = .ok (.invokevirtual 138, 3) := by decide +kernel
theorem dX11_worstOf_10 : decode cX11_worstOf 10 = .ok (.invokevirtual 126, 3) := by decide +kernel
theorem dX11_worstOf_13 : decode cX11_worstOf 13 = .ok (.ireturn, 1) := by decide +kernel
theorem dX11_mostGroups_0 : decode cX11_mostGroups 0 = .ok (.iconst 1, 1) := by decide +kernel
theorem dX11_mostGroups_1 : decode cX11_mostGroups 1 = .ok (.istore_n 2, 1) := by decide +kernel
theorem dX11_mostGroups_2 : decode cX11_mostGroups 2 = .ok (.iload_n 2, 1) := by decide +kernel
theorem dX11_mostGroups_3 : decode cX11_mostGroups 3 = .ok (.bipush 16, 2) := by decide +kernel
theorem dX11_mostGroups_5 : decode cX11_mostGroups 5 = .ok (.if_icmp .ge 92, 3) := by decide +kernel
theorem dX11_mostGroups_8 : decode cX11_mostGroups 8 = .ok (.iconst 0, 1) := by decide +kernel
theorem dX11_mostGroups_9 : decode cX11_mostGroups 9 = .ok (.istore_n 3, 1) := by decide +kernel
theorem dX11_mostGroups_10 : decode cX11_mostGroups 10 = .ok (.iconst 0, 1) := by decide +kernel
theorem dX11_mostGroups_11 : decode cX11_mostGroups 11 = .ok (.istore 4, 2) := by decide +kernel
theorem dX11_mostGroups_13 : decode cX11_mostGroups 13 = .ok (.iconst 0, 1) := by decide +kernel
theorem dX11_mostGroups_14 : decode cX11_mostGroups 14 = .ok (.istore 5, 2) := by decide +kernel
theorem dX11_mostGroups_16 : decode cX11_mostGroups 16 = .ok (.iload 5, 2) := by decide +kernel
theorem dX11_mostGroups_18 : decode cX11_mostGroups 18 = .ok (.iconst 4, 1) := by decide +kernel
theorem dX11_mostGroups_19 : decode cX11_mostGroups 19 = .ok (.if_icmp .ge 52, 3) := by decide +kernel
theorem dX11_mostGroups_22 : decode cX11_mostGroups 22 = .ok (.iload_n 2, 1) := by decide +kernel
theorem dX11_mostGroups_23 : decode cX11_mostGroups 23 = .ok (.iload 5, 2) := by decide +kernel
theorem dX11_mostGroups_25 : decode cX11_mostGroups 25 = .ok (.invokestatic 179, 3) := by decide +kernel
theorem dX11_mostGroups_28 : decode cX11_mostGroups 28 = .ok (.ifCond .eq 37, 3) := by decide +kernel
theorem dX11_mostGroups_31 : decode cX11_mostGroups 31 = .ok (.iload 4, 2) := by decide +kernel
theorem dX11_mostGroups_33 : decode cX11_mostGroups 33 = .ok (.aload_n 0, 1) := by decide +kernel
theorem dX11_mostGroups_34 : decode cX11_mostGroups 34 = .ok (.aload_n 0, 1) := by decide +kernel
theorem dX11_mostGroups_35 : decode cX11_mostGroups 35 = .ok (.getfield 33, 3) := by decide +kernel
theorem dX11_mostGroups_38 : decode cX11_mostGroups 38 = .ok (.iload 5, 2) := by decide +kernel
theorem dX11_mostGroups_40 : decode cX11_mostGroups 40 = .ok (.iload_n 1, 1) := by decide +kernel
theorem dX11_mostGroups_41 : decode cX11_mostGroups 41 = .ok (.invokevirtual 126, 3) := by decide +kernel
theorem dX11_mostGroups_44 : decode cX11_mostGroups 44 = .ok (.iadd, 1) := by decide +kernel
theorem dX11_mostGroups_45 : decode cX11_mostGroups 45 = .ok (.istore 4, 2) := by decide +kernel
theorem dX11_mostGroups_47 : decode cX11_mostGroups 47 = .ok (.iload_n 3, 1) := by decide +kernel
theorem dX11_mostGroups_48 : decode cX11_mostGroups 48 = .ok (.aload_n 0, 1) := by decide +kernel
theorem dX11_mostGroups_49 : decode cX11_mostGroups 49 = .ok (.getfield 54, 3) := by decide +kernel
theorem dX11_mostGroups_52 : decode cX11_mostGroups 52 = .ok (.iload_n 2, 1) := by decide +kernel
theorem dX11_mostGroups_53 : decode cX11_mostGroups 53 = .ok (.iconst 1, 1) := by decide +kernel
theorem dX11_mostGroups_54 : decode cX11_mostGroups 54 = .ok (.iload 5, 2) := by decide +kernel
theorem dX11_mostGroups_56 : decode cX11_mostGroups 56 = .ok (.ishl, 1) := by decide +kernel
theorem dX11_mostGroups_57 : decode cX11_mostGroups 57 = .ok (.isub, 1) := by decide +kernel
theorem dX11_mostGroups_58 : decode cX11_mostGroups 58 = .ok (.invokestatic 175, 3) := by decide +kernel
theorem dX11_mostGroups_61 : decode cX11_mostGroups 61 = .ok (.invokestatic 240, 3) := by decide +kernel
theorem dX11_mostGroups_64 : decode cX11_mostGroups 64 = .ok (.istore_n 3, 1) := by decide +kernel
theorem dX11_mostGroups_65 : decode cX11_mostGroups 65 = .ok (.iinc 5 1, 3) := by decide +kernel
theorem dX11_mostGroups_68 : decode cX11_mostGroups 68 = .ok (.goto (-52), 3) := by decide +kernel
theorem dX11_mostGroups_71 : decode cX11_mostGroups 71 = .ok (.aload_n 0, 1) := by decide +kernel
theorem dX11_mostGroups_72 : decode cX11_mostGroups 72 = .ok (.getfield 54, 3) := by decide +kernel
theorem dX11_mostGroups_75 : decode cX11_mostGroups 75 = .ok (.iload_n 2, 1) := by decide +kernel
theorem dX11_mostGroups_76 : decode cX11_mostGroups 76 = .ok (.iload 4, 2) := by decide +kernel
theorem dX11_mostGroups_78 : decode cX11_mostGroups 78 = .ok (.ifCond .ne 9, 3) := by decide +kernel
theorem dX11_mostGroups_81 : decode cX11_mostGroups 81 = .ok (.iload_n 3, 1) := by decide +kernel
theorem dX11_mostGroups_82 : decode cX11_mostGroups 82 = .ok (.iconst 1, 1) := by decide +kernel
theorem dX11_mostGroups_83 : decode cX11_mostGroups 83 = .ok (.iadd, 1) := by decide +kernel
theorem dX11_mostGroups_84 : decode cX11_mostGroups 84 = .ok (.goto 4, 3) := by decide +kernel
theorem dX11_mostGroups_87 : decode cX11_mostGroups 87 = .ok (.iload_n 3, 1) := by decide +kernel
theorem dX11_mostGroups_88 : decode cX11_mostGroups 88 = .ok (.invokestatic 171, 3) := by decide +kernel
theorem dX11_mostGroups_91 : decode cX11_mostGroups 91 = .ok (.iinc 2 1, 3) := by decide +kernel
theorem dX11_mostGroups_94 : decode cX11_mostGroups 94 = .ok (.goto (-92), 3) := by decide +kernel
theorem dX11_mostGroups_97 : decode cX11_mostGroups 97 = .ok (.aload_n 0, 1) := by decide +kernel
theorem dX11_mostGroups_98 : decode cX11_mostGroups 98 = .ok (.getfield 54, 3) := by decide +kernel
theorem dX11_mostGroups_101 : decode cX11_mostGroups 101 = .ok (.bipush 15, 2) := by decide +kernel
theorem dX11_mostGroups_103 : decode cX11_mostGroups 103 = .ok (.invokestatic 175, 3) := by decide +kernel
theorem dX11_mostGroups_106 : decode cX11_mostGroups 106 = .ok (.ireturn, 1) := by decide +kernel
theorem dX11_firstUnlike_0 : decode cX11_firstUnlike 0 = .ok (.iconst 0, 1) := by decide +kernel
theorem dX11_firstUnlike_1 : decode cX11_firstUnlike 1 = .ok (.istore_n 2, 1) := by decide +kernel
theorem dX11_firstUnlike_2 : decode cX11_firstUnlike 2 = .ok (.iload_n 2, 1) := by decide +kernel
theorem dX11_firstUnlike_3 : decode cX11_firstUnlike 3 = .ok (.aload_n 0, 1) := by decide +kernel
theorem dX11_firstUnlike_4 : decode cX11_firstUnlike 4 = .ok (.getfield 18, 3) := by decide +kernel
theorem dX11_firstUnlike_7 : decode cX11_firstUnlike 7 = .ok (.getfield 202, 3) := by decide +kernel
theorem dX11_firstUnlike_10 : decode cX11_firstUnlike 10 = .ok (.if_icmp .ge 36, 3) := by decide +kernel
theorem dX11_firstUnlike_13 : decode cX11_firstUnlike 13 = .ok (.aload_n 0, 1) := by decide +kernel
theorem dX11_firstUnlike_14 : decode cX11_firstUnlike 14 = .ok (.getfield 18, 3) := by decide +kernel
theorem dX11_firstUnlike_17 : decode cX11_firstUnlike 17 = .ok (.iload_n 2, 1) := by decide +kernel
theorem dX11_firstUnlike_18 : decode cX11_firstUnlike 18 = .ok (.invokevirtual 245, 3) := by decide +kernel
theorem dX11_firstUnlike_21 : decode cX11_firstUnlike 21 = .ok (.aload_n 0, 1) := by decide +kernel
theorem dX11_firstUnlike_22 : decode cX11_firstUnlike 22 = .ok (.aload_n 0, 1) := by decide +kernel
theorem dX11_firstUnlike_23 : decode cX11_firstUnlike 23 = .ok (.getfield 33, 3) := by decide +kernel
theorem dX11_firstUnlike_26 : decode cX11_firstUnlike 26 = .ok (.iload_n 2, 1) := by decide +kernel
theorem dX11_firstUnlike_27 : decode cX11_firstUnlike 27 = .ok (.iload_n 1, 1) := by decide +kernel
theorem dX11_firstUnlike_28 : decode cX11_firstUnlike 28 = .ok (.invokevirtual 126, 3) := by decide +kernel
theorem dX11_firstUnlike_31 : decode cX11_firstUnlike 31 = .ok (.sipush 500, 3) := by decide +kernel
theorem dX11_firstUnlike_34 : decode cX11_firstUnlike 34 = .ok (.iadd, 1) := by decide +kernel
theorem dX11_firstUnlike_35 : decode cX11_firstUnlike 35 = .ok (.if_icmp .eq 5, 3) := by decide +kernel
theorem dX11_firstUnlike_38 : decode cX11_firstUnlike 38 = .ok (.iload_n 2, 1) := by decide +kernel
theorem dX11_firstUnlike_39 : decode cX11_firstUnlike 39 = .ok (.ireturn, 1) := by decide +kernel
theorem dX11_firstUnlike_40 : decode cX11_firstUnlike 40 = .ok (.iinc 2 1, 3) := by decide +kernel
theorem dX11_firstUnlike_43 : decode cX11_firstUnlike 43 = .ok (.goto (-41), 3) := by decide +kernel
theorem dX11_firstUnlike_46 : decode cX11_firstUnlike 46 = .ok (.bipush (-9), 2) := by decide +kernel
theorem dX11_firstUnlike_48 : decode cX11_firstUnlike 48 = .ok (.ireturn, 1) := by decide +kernel
theorem dX11_drawBy_0 : decode cX11_drawBy 0 = .ok (.iload_n 0, 1) := by decide +kernel
theorem dX11_drawBy_1 : decode cX11_drawBy 1 = .ok (.ldc 248, 2) := by decide +kernel
theorem dX11_drawBy_3 : decode cX11_drawBy 3 = .ok (.iand, 1) := by decide +kernel
theorem dX11_drawBy_4 : decode cX11_drawBy 4 = .ok (.sipush 256, 3) := by decide +kernel
theorem dX11_drawBy_7 : decode cX11_drawBy 7 = .ok (.idiv, 1) := by decide +kernel
theorem dX11_drawBy_8 : decode cX11_drawBy 8 = .ok (.bipush 100, 2) := by decide +kernel
theorem dX11_drawBy_10 : decode cX11_drawBy 10 = .ok (.irem, 1) := by decide +kernel
theorem dX11_drawBy_11 : decode cX11_drawBy 11 = .ok (.ireturn, 1) := by decide +kernel
theorem dX11_refused_0 : decode cX11_refused 0 = .ok (.aload_n 0, 1) := by decide +kernel
theorem dX11_refused_1 : decode cX11_refused 1 = .ok (.getfield 50, 3) := by decide +kernel
theorem dX11_refused_4 : decode cX11_refused 4 = .ok (.iload_n 1, 1) := by decide +kernel
theorem dX11_refused_5 : decode cX11_refused 5 = .ok (.ineg, 1) := by decide +kernel
theorem dX11_refused_6 : decode cX11_refused 6 = .ok (.aload_n 0, 1) := by decide +kernel
theorem dX11_refused_7 : decode cX11_refused 7 = .ok (.getfield 50, 3) := by decide +kernel
theorem dX11_refused_10 : decode cX11_refused 10 = .ok (.iload_n 1, 1) := by decide +kernel
theorem dX11_refused_11 : decode cX11_refused 11 = .ok (.ineg, 1) := by decide +kernel
theorem dX11_refused_12 : decode cX11_refused 12 = .ok (.invokestatic 175, 3) := by decide +kernel
theorem dX11_refused_15 : decode cX11_refused 15 = .ok (.iconst 1, 1) := by decide +kernel
theorem dX11_refused_16 : decode cX11_refused 16 = .ok (.iadd, 1) := by decide +kernel
theorem dX11_refused_17 : decode cX11_refused 17 = .ok (.invokestatic 171, 3) := by decide +kernel
theorem dX11_refused_20 : decode cX11_refused 20 = .ok (.iload_n 1, 1) := by decide +kernel
theorem dX11_refused_21 : decode cX11_refused 21 = .ok (.ireturn, 1) := by decide +kernel
theorem dX11_refusedFar_0 : decode cX11_refusedFar 0 = .ok (.ldc 249, 2) := by decide +kernel
theorem dX11_refusedFar_2 : decode cX11_refusedFar 2 = .ok (.aload_n 0, 1) := by decide +kernel
theorem dX11_refusedFar_3 : decode cX11_refusedFar 3 = .ok (.iload_n 1, 1) := by decide +kernel
theorem dX11_refusedFar_4 : decode cX11_refusedFar 4 = .ok (.invokevirtual 82, 3) := by decide +kernel
theorem dX11_refusedFar_7 : decode cX11_refusedFar 7 = .ok (.isub, 1) := by decide +kernel
theorem dX11_refusedFar_8 : decode cX11_refusedFar 8 = .ok (.ireturn, 1) := by decide +kernel
theorem dX11_isPerson_0 : decode cX11_isPerson 0 = .ok (.iload_n 0, 1) := by decide +kernel
theorem dX11_isPerson_1 : decode cX11_isPerson 1 = .ok (.ifCond .lt 12, 3) := by decide +kernel
theorem dX11_isPerson_4 : decode cX11_isPerson 4 = .ok (.iload_n 0, 1) := by decide +kernel
theorem dX11_isPerson_5 : decode cX11_isPerson 5 = .ok (.iconst 4, 1) := by decide +kernel
theorem dX11_isPerson_6 : decode cX11_isPerson 6 = .ok (.if_icmp .ge 7, 3) := by decide +kernel
theorem dX11_isPerson_9 : decode cX11_isPerson 9 = .ok (.iconst 1, 1) := by decide +kernel
theorem dX11_isPerson_10 : decode cX11_isPerson 10 = .ok (.goto 4, 3) := by decide +kernel
theorem dX11_isPerson_13 : decode cX11_isPerson 13 = .ok (.iconst 0, 1) := by decide +kernel
theorem dX11_isPerson_14 : decode cX11_isPerson 14 = .ok (.ireturn, 1) := by decide +kernel
theorem dX11_has_0 : decode cX11_has 0 = .ok (.iload_n 0, 1) := by decide +kernel
theorem dX11_has_1 : decode cX11_has 1 = .ok (.iload_n 1, 1) := by decide +kernel
theorem dX11_has_2 : decode cX11_has 2 = .ok (.ishr, 1) := by decide +kernel
theorem dX11_has_3 : decode cX11_has 3 = .ok (.iconst 1, 1) := by decide +kernel
theorem dX11_has_4 : decode cX11_has 4 = .ok (.iand, 1) := by decide +kernel
theorem dX11_has_5 : decode cX11_has 5 = .ok (.iconst 1, 1) := by decide +kernel
theorem dX11_has_6 : decode cX11_has 6 = .ok (.if_icmp .ne 7, 3) := by decide +kernel
theorem dX11_has_9 : decode cX11_has 9 = .ok (.iconst 1, 1) := by decide +kernel
theorem dX11_has_10 : decode cX11_has 10 = .ok (.goto 4, 3) := by decide +kernel
theorem dX11_has_13 : decode cX11_has 13 = .ok (.iconst 0, 1) := by decide +kernel
theorem dX11_has_14 : decode cX11_has 14 = .ok (.ireturn, 1) := by decide +kernel
theorem dX11_at_0 : decode cX11_at 0 = .ok (.aload_n 0, 1) := by decide +kernel
theorem dX11_at_1 : decode cX11_at 1 = .ok (.ifnull 19, 3) := by decide +kernel
theorem dX11_at_4 : decode cX11_at 4 = .ok (.iload_n 1, 1) := by decide +kernel
theorem dX11_at_5 : decode cX11_at 5 = .ok (.ifCond .lt 15, 3) := by decide +kernel
theorem dX11_at_8 : decode cX11_at 8 = .ok (.iload_n 1, 1) := by decide +kernel
theorem dX11_at_9 : decode cX11_at 9 = .ok (.aload_n 0, 1) := by decide +kernel
theorem dX11_at_10 : decode cX11_at 10 = .ok (.arraylength, 1) := by decide +kernel
theorem dX11_at_11 : decode cX11_at 11 = .ok (.if_icmp .ge 9, 3) := by decide +kernel
theorem dX11_at_14 : decode cX11_at 14 = .ok (.aload_n 0, 1) := by decide +kernel
theorem dX11_at_15 : decode cX11_at 15 = .ok (.iload_n 1, 1) := by decide +kernel
theorem dX11_at_16 : decode cX11_at 16 = .ok (.iaload, 1) := by decide +kernel
theorem dX11_at_17 : decode cX11_at 17 = .ok (.goto 4, 3) := by decide +kernel
theorem dX11_at_20 : decode cX11_at 20 = .ok (.iconst 0, 1) := by decide +kernel
theorem dX11_at_21 : decode cX11_at 21 = .ok (.ireturn, 1) := by decide +kernel
theorem dX11_put_0 : decode cX11_put 0 = .ok (.aload_n 0, 1) := by decide +kernel
theorem dX11_put_1 : decode cX11_put 1 = .ok (.ifnull 17, 3) := by decide +kernel
theorem dX11_put_4 : decode cX11_put 4 = .ok (.iload_n 1, 1) := by decide +kernel
theorem dX11_put_5 : decode cX11_put 5 = .ok (.ifCond .lt 13, 3) := by decide +kernel
theorem dX11_put_8 : decode cX11_put 8 = .ok (.iload_n 1, 1) := by decide +kernel
theorem dX11_put_9 : decode cX11_put 9 = .ok (.aload_n 0, 1) := by decide +kernel
theorem dX11_put_10 : decode cX11_put 10 = .ok (.arraylength, 1) := by decide +kernel
theorem dX11_put_11 : decode cX11_put 11 = .ok (.if_icmp .ge 7, 3) := by decide +kernel
theorem dX11_put_14 : decode cX11_put 14 = .ok (.aload_n 0, 1) := by decide +kernel
theorem dX11_put_15 : decode cX11_put 15 = .ok (.iload_n 1, 1) := by decide +kernel
theorem dX11_put_16 : decode cX11_put 16 = .ok (.iload_n 2, 1) := by decide +kernel
theorem dX11_put_17 : decode cX11_put 17 = .ok (.iastore, 1) := by decide +kernel
theorem dX11_put_18 : decode cX11_put 18 = .ok (.return_, 1) := by decide +kernel
theorem dX11_copy_0 : decode cX11_copy 0 = .ok (.aload_n 0, 1) := by decide +kernel
theorem dX11_copy_1 : decode cX11_copy 1 = .ok (.ifnull 7, 3) := by decide +kernel
theorem dX11_copy_4 : decode cX11_copy 4 = .ok (.aload_n 1, 1) := by decide +kernel
theorem dX11_copy_5 : decode cX11_copy 5 = .ok (.ifnonnull 4, 3) := by decide +kernel
theorem dX11_copy_8 : decode cX11_copy 8 = .ok (.return_, 1) := by decide +kernel
theorem dX11_copy_9 : decode cX11_copy 9 = .ok (.iconst 0, 1) := by decide +kernel
theorem dX11_copy_10 : decode cX11_copy 10 = .ok (.istore_n 2, 1) := by decide +kernel
theorem dX11_copy_11 : decode cX11_copy 11 = .ok (.iload_n 2, 1) := by decide +kernel
theorem dX11_copy_12 : decode cX11_copy 12 = .ok (.aload_n 1, 1) := by decide +kernel
theorem dX11_copy_13 : decode cX11_copy 13 = .ok (.arraylength, 1) := by decide +kernel
theorem dX11_copy_14 : decode cX11_copy 14 = .ok (.if_icmp .ge 21, 3) := by decide +kernel
theorem dX11_copy_17 : decode cX11_copy 17 = .ok (.iload_n 2, 1) := by decide +kernel
theorem dX11_copy_18 : decode cX11_copy 18 = .ok (.aload_n 0, 1) := by decide +kernel
theorem dX11_copy_19 : decode cX11_copy 19 = .ok (.arraylength, 1) := by decide +kernel
theorem dX11_copy_20 : decode cX11_copy 20 = .ok (.if_icmp .ge 15, 3) := by decide +kernel
theorem dX11_copy_23 : decode cX11_copy 23 = .ok (.aload_n 1, 1) := by decide +kernel
theorem dX11_copy_24 : decode cX11_copy 24 = .ok (.iload_n 2, 1) := by decide +kernel
theorem dX11_copy_25 : decode cX11_copy 25 = .ok (.aload_n 0, 1) := by decide +kernel
theorem dX11_copy_26 : decode cX11_copy 26 = .ok (.iload_n 2, 1) := by decide +kernel
theorem dX11_copy_27 : decode cX11_copy 27 = .ok (.iaload, 1) := by decide +kernel
theorem dX11_copy_28 : decode cX11_copy 28 = .ok (.iastore, 1) := by decide +kernel
theorem dX11_copy_29 : decode cX11_copy 29 = .ok (.iinc 2 1, 3) := by decide +kernel
theorem dX11_copy_32 : decode cX11_copy 32 = .ok (.goto (-21), 3) := by decide +kernel
theorem dX11_copy_35 : decode cX11_copy 35 = .ok (.return_, 1) := by decide +kernel
theorem dL_law_0 : decode cL_law 0 = .ok (.new 7, 3) := by decide +kernel
theorem dL_law_3 : decode cL_law 3 = .ok (.dup, 1) := by decide +kernel
theorem dL_law_4 : decode cL_law 4 = .ok (.invokespecial 9, 3) := by decide +kernel
theorem dL_law_7 : decode cL_law 7 = .ok (.astore_n 1, 1) := by decide +kernel
theorem dL_law_8 : decode cL_law 8 = .ok (.new 10, 3) := by decide +kernel
theorem dL_law_11 : decode cL_law 11 = .ok (.dup, 1) := by decide +kernel
theorem dL_law_12 : decode cL_law 12 = .ok (.invokespecial 12, 3) := by decide +kernel
theorem dL_law_15 : decode cL_law 15 = .ok (.astore_n 2, 1) := by decide +kernel
theorem dL_law_16 : decode cL_law 16 = .ok (.iconst 0, 1) := by decide +kernel
theorem dL_law_17 : decode cL_law 17 = .ok (.istore_n 3, 1) := by decide +kernel
theorem dL_law_18 : decode cL_law 18 = .ok (.iload_n 3, 1) := by decide +kernel
theorem dL_law_19 : decode cL_law 19 = .ok (.aload_n 0, 1) := by decide +kernel
theorem dL_law_20 : decode cL_law 20 = .ok (.arraylength, 1) := by decide +kernel
theorem dL_law_21 : decode cL_law 21 = .ok (.iconst 4, 1) := by decide +kernel
theorem dL_law_22 : decode cL_law 22 = .ok (.isub, 1) := by decide +kernel
theorem dL_law_23 : decode cL_law 23 = .ok (.if_icmp .gt 837, 3) := by decide +kernel
theorem dL_law_26 : decode cL_law 26 = .ok (.aload_n 0, 1) := by decide +kernel
theorem dL_law_27 : decode cL_law 27 = .ok (.iload_n 3, 1) := by decide +kernel
theorem dL_law_28 : decode cL_law 28 = .ok (.iaload, 1) := by decide +kernel
theorem dL_law_29 : decode cL_law 29 = .ok (.bipush 31, 2) := by decide +kernel
theorem dL_law_31 : decode cL_law 31 = .ok (.iand, 1) := by decide +kernel
theorem dL_law_32 : decode cL_law 32 = .ok (.tableswitch 822 0 27 #[128, 151, 164, 187, 220, 263, 296, 329, 362, 395, 418, 451, 484, 507, 530, 543, 566, 589, 602, 625, 648, 661, 684, 707, 730, 773, 786, 799], 128) := by decide +kernel
theorem dL_law_160 : decode cL_law 160 = .ok (.aload_n 1, 1) := by decide +kernel
theorem dL_law_161 : decode cL_law 161 = .ok (.aload_n 0, 1) := by decide +kernel
theorem dL_law_162 : decode cL_law 162 = .ok (.iload_n 3, 1) := by decide +kernel
theorem dL_law_163 : decode cL_law 163 = .ok (.iconst 1, 1) := by decide +kernel
theorem dL_law_164 : decode cL_law 164 = .ok (.iadd, 1) := by decide +kernel
theorem dL_law_165 : decode cL_law 165 = .ok (.iaload, 1) := by decide +kernel
theorem dL_law_166 : decode cL_law 166 = .ok (.invokevirtual 13, 3) := by decide +kernel
theorem dL_law_169 : decode cL_law 169 = .ok (.aload_n 2, 1) := by decide +kernel
theorem dL_law_170 : decode cL_law 170 = .ok (.aload_n 0, 1) := by decide +kernel
theorem dL_law_171 : decode cL_law 171 = .ok (.iload_n 3, 1) := by decide +kernel
theorem dL_law_172 : decode cL_law 172 = .ok (.iconst 1, 1) := by decide +kernel
theorem dL_law_173 : decode cL_law 173 = .ok (.iadd, 1) := by decide +kernel
theorem dL_law_174 : decode cL_law 174 = .ok (.iaload, 1) := by decide +kernel
theorem dL_law_175 : decode cL_law 175 = .ok (.invokevirtual 17, 3) := by decide +kernel
theorem dL_law_178 : decode cL_law 178 = .ok (.if_icmp .eq 676, 3) := by decide +kernel
theorem dL_law_181 : decode cL_law 181 = .ok (.iconst 0, 1) := by decide +kernel
theorem dL_law_182 : decode cL_law 182 = .ok (.ireturn, 1) := by decide +kernel
theorem dL_law_183 : decode cL_law 183 = .ok (.aload_n 1, 1) := by decide +kernel
theorem dL_law_184 : decode cL_law 184 = .ok (.invokevirtual 18, 3) := by decide +kernel
theorem dL_law_187 : decode cL_law 187 = .ok (.aload_n 2, 1) := by decide +kernel
theorem dL_law_188 : decode cL_law 188 = .ok (.invokevirtual 22, 3) := by decide +kernel
theorem dL_law_191 : decode cL_law 191 = .ok (.if_icmp .eq 663, 3) := by decide +kernel
theorem dL_law_194 : decode cL_law 194 = .ok (.iconst 0, 1) := by decide +kernel
theorem dL_law_195 : decode cL_law 195 = .ok (.ireturn, 1) := by decide +kernel
theorem dL_law_196 : decode cL_law 196 = .ok (.aload_n 1, 1) := by decide +kernel
theorem dL_law_197 : decode cL_law 197 = .ok (.aload_n 0, 1) := by decide +kernel
theorem dL_law_198 : decode cL_law 198 = .ok (.iload_n 3, 1) := by decide +kernel
theorem dL_law_199 : decode cL_law 199 = .ok (.iconst 1, 1) := by decide +kernel
theorem dL_law_200 : decode cL_law 200 = .ok (.iadd, 1) := by decide +kernel
theorem dL_law_201 : decode cL_law 201 = .ok (.iaload, 1) := by decide +kernel
theorem dL_law_202 : decode cL_law 202 = .ok (.invokevirtual 23, 3) := by decide +kernel
theorem dL_law_205 : decode cL_law 205 = .ok (.aload_n 2, 1) := by decide +kernel
theorem dL_law_206 : decode cL_law 206 = .ok (.aload_n 0, 1) := by decide +kernel
theorem dL_law_207 : decode cL_law 207 = .ok (.iload_n 3, 1) := by decide +kernel
theorem dL_law_208 : decode cL_law 208 = .ok (.iconst 1, 1) := by decide +kernel
theorem dL_law_209 : decode cL_law 209 = .ok (.iadd, 1) := by decide +kernel
theorem dL_law_210 : decode cL_law 210 = .ok (.iaload, 1) := by decide +kernel
theorem dL_law_211 : decode cL_law 211 = .ok (.invokevirtual 26, 3) := by decide +kernel
theorem dL_law_214 : decode cL_law 214 = .ok (.if_icmp .eq 640, 3) := by decide +kernel
theorem dL_law_217 : decode cL_law 217 = .ok (.iconst 0, 1) := by decide +kernel
theorem dL_law_218 : decode cL_law 218 = .ok (.ireturn, 1) := by decide +kernel
theorem dL_law_219 : decode cL_law 219 = .ok (.aload_n 1, 1) := by decide +kernel
theorem dL_law_220 : decode cL_law 220 = .ok (.aload_n 0, 1) := by decide +kernel
theorem dL_law_221 : decode cL_law 221 = .ok (.iload_n 3, 1) := by decide +kernel
theorem dL_law_222 : decode cL_law 222 = .ok (.iconst 1, 1) := by decide +kernel
theorem dL_law_223 : decode cL_law 223 = .ok (.iadd, 1) := by decide +kernel
theorem dL_law_224 : decode cL_law 224 = .ok (.iaload, 1) := by decide +kernel
theorem dL_law_225 : decode cL_law 225 = .ok (.aload_n 0, 1) := by decide +kernel
theorem dL_law_226 : decode cL_law 226 = .ok (.iload_n 3, 1) := by decide +kernel
theorem dL_law_227 : decode cL_law 227 = .ok (.iconst 2, 1) := by decide +kernel
theorem dL_law_228 : decode cL_law 228 = .ok (.iadd, 1) := by decide +kernel
theorem dL_law_229 : decode cL_law 229 = .ok (.iaload, 1) := by decide +kernel
theorem dL_law_230 : decode cL_law 230 = .ok (.invokevirtual 27, 3) := by decide +kernel
theorem dL_law_233 : decode cL_law 233 = .ok (.aload_n 2, 1) := by decide +kernel
theorem dL_law_234 : decode cL_law 234 = .ok (.aload_n 0, 1) := by decide +kernel
theorem dL_law_235 : decode cL_law 235 = .ok (.iload_n 3, 1) := by decide +kernel
theorem dL_law_236 : decode cL_law 236 = .ok (.iconst 1, 1) := by decide +kernel
theorem dL_law_237 : decode cL_law 237 = .ok (.iadd, 1) := by decide +kernel
theorem dL_law_238 : decode cL_law 238 = .ok (.iaload, 1) := by decide +kernel
theorem dL_law_239 : decode cL_law 239 = .ok (.aload_n 0, 1) := by decide +kernel
theorem dL_law_240 : decode cL_law 240 = .ok (.iload_n 3, 1) := by decide +kernel
theorem dL_law_241 : decode cL_law 241 = .ok (.iconst 2, 1) := by decide +kernel
theorem dL_law_242 : decode cL_law 242 = .ok (.iadd, 1) := by decide +kernel
theorem dL_law_243 : decode cL_law 243 = .ok (.iaload, 1) := by decide +kernel
theorem dL_law_244 : decode cL_law 244 = .ok (.invokevirtual 31, 3) := by decide +kernel
theorem dL_law_247 : decode cL_law 247 = .ok (.if_icmp .eq 607, 3) := by decide +kernel
theorem dL_law_250 : decode cL_law 250 = .ok (.iconst 0, 1) := by decide +kernel
theorem dL_law_251 : decode cL_law 251 = .ok (.ireturn, 1) := by decide +kernel
theorem dL_law_252 : decode cL_law 252 = .ok (.aload_n 1, 1) := by decide +kernel
theorem dL_law_253 : decode cL_law 253 = .ok (.aload_n 0, 1) := by decide +kernel
theorem dL_law_254 : decode cL_law 254 = .ok (.iload_n 3, 1) := by decide +kernel
theorem dL_law_255 : decode cL_law 255 = .ok (.iconst 1, 1) := by decide +kernel
theorem dL_law_256 : decode cL_law 256 = .ok (.iadd, 1) := by decide +kernel
theorem dL_law_257 : decode cL_law 257 = .ok (.iaload, 1) := by decide +kernel
theorem dL_law_258 : decode cL_law 258 = .ok (.aload_n 0, 1) := by decide +kernel
theorem dL_law_259 : decode cL_law 259 = .ok (.iload_n 3, 1) := by decide +kernel
theorem dL_law_260 : decode cL_law 260 = .ok (.iconst 2, 1) := by decide +kernel
theorem dL_law_261 : decode cL_law 261 = .ok (.iadd, 1) := by decide +kernel
theorem dL_law_262 : decode cL_law 262 = .ok (.iaload, 1) := by decide +kernel
theorem dL_law_263 : decode cL_law 263 = .ok (.aload_n 0, 1) := by decide +kernel
theorem dL_law_264 : decode cL_law 264 = .ok (.iload_n 3, 1) := by decide +kernel
theorem dL_law_265 : decode cL_law 265 = .ok (.iconst 3, 1) := by decide +kernel
theorem dL_law_266 : decode cL_law 266 = .ok (.iadd, 1) := by decide +kernel
theorem dL_law_267 : decode cL_law 267 = .ok (.iaload, 1) := by decide +kernel
theorem dL_law_268 : decode cL_law 268 = .ok (.invokevirtual 32, 3) := by decide +kernel
theorem dL_law_271 : decode cL_law 271 = .ok (.aload_n 2, 1) := by decide +kernel
theorem dL_law_272 : decode cL_law 272 = .ok (.aload_n 0, 1) := by decide +kernel
theorem dL_law_273 : decode cL_law 273 = .ok (.iload_n 3, 1) := by decide +kernel
theorem dL_law_274 : decode cL_law 274 = .ok (.iconst 1, 1) := by decide +kernel
theorem dL_law_275 : decode cL_law 275 = .ok (.iadd, 1) := by decide +kernel
theorem dL_law_276 : decode cL_law 276 = .ok (.iaload, 1) := by decide +kernel
theorem dL_law_277 : decode cL_law 277 = .ok (.aload_n 0, 1) := by decide +kernel
theorem dL_law_278 : decode cL_law 278 = .ok (.iload_n 3, 1) := by decide +kernel
theorem dL_law_279 : decode cL_law 279 = .ok (.iconst 2, 1) := by decide +kernel
theorem dL_law_280 : decode cL_law 280 = .ok (.iadd, 1) := by decide +kernel
theorem dL_law_281 : decode cL_law 281 = .ok (.iaload, 1) := by decide +kernel
theorem dL_law_282 : decode cL_law 282 = .ok (.aload_n 0, 1) := by decide +kernel
theorem dL_law_283 : decode cL_law 283 = .ok (.iload_n 3, 1) := by decide +kernel
theorem dL_law_284 : decode cL_law 284 = .ok (.iconst 3, 1) := by decide +kernel
theorem dL_law_285 : decode cL_law 285 = .ok (.iadd, 1) := by decide +kernel
theorem dL_law_286 : decode cL_law 286 = .ok (.iaload, 1) := by decide +kernel
theorem dL_law_287 : decode cL_law 287 = .ok (.invokevirtual 36, 3) := by decide +kernel
theorem dL_law_290 : decode cL_law 290 = .ok (.if_icmp .eq 564, 3) := by decide +kernel
theorem dL_law_293 : decode cL_law 293 = .ok (.iconst 0, 1) := by decide +kernel
theorem dL_law_294 : decode cL_law 294 = .ok (.ireturn, 1) := by decide +kernel
theorem dL_law_295 : decode cL_law 295 = .ok (.aload_n 1, 1) := by decide +kernel
theorem dL_law_296 : decode cL_law 296 = .ok (.aload_n 0, 1) := by decide +kernel
theorem dL_law_297 : decode cL_law 297 = .ok (.iload_n 3, 1) := by decide +kernel
theorem dL_law_298 : decode cL_law 298 = .ok (.iconst 1, 1) := by decide +kernel
theorem dL_law_299 : decode cL_law 299 = .ok (.iadd, 1) := by decide +kernel
theorem dL_law_300 : decode cL_law 300 = .ok (.iaload, 1) := by decide +kernel
theorem dL_law_301 : decode cL_law 301 = .ok (.aload_n 0, 1) := by decide +kernel
theorem dL_law_302 : decode cL_law 302 = .ok (.iload_n 3, 1) := by decide +kernel
theorem dL_law_303 : decode cL_law 303 = .ok (.iconst 2, 1) := by decide +kernel
theorem dL_law_304 : decode cL_law 304 = .ok (.iadd, 1) := by decide +kernel
theorem dL_law_305 : decode cL_law 305 = .ok (.iaload, 1) := by decide +kernel
theorem dL_law_306 : decode cL_law 306 = .ok (.invokevirtual 37, 3) := by decide +kernel
theorem dL_law_309 : decode cL_law 309 = .ok (.aload_n 2, 1) := by decide +kernel
theorem dL_law_310 : decode cL_law 310 = .ok (.aload_n 0, 1) := by decide +kernel
theorem dL_law_311 : decode cL_law 311 = .ok (.iload_n 3, 1) := by decide +kernel
theorem dL_law_312 : decode cL_law 312 = .ok (.iconst 1, 1) := by decide +kernel
theorem dL_law_313 : decode cL_law 313 = .ok (.iadd, 1) := by decide +kernel
theorem dL_law_314 : decode cL_law 314 = .ok (.iaload, 1) := by decide +kernel
theorem dL_law_315 : decode cL_law 315 = .ok (.aload_n 0, 1) := by decide +kernel
theorem dL_law_316 : decode cL_law 316 = .ok (.iload_n 3, 1) := by decide +kernel
theorem dL_law_317 : decode cL_law 317 = .ok (.iconst 2, 1) := by decide +kernel
theorem dL_law_318 : decode cL_law 318 = .ok (.iadd, 1) := by decide +kernel
theorem dL_law_319 : decode cL_law 319 = .ok (.iaload, 1) := by decide +kernel
theorem dL_law_320 : decode cL_law 320 = .ok (.invokevirtual 40, 3) := by decide +kernel
theorem dL_law_323 : decode cL_law 323 = .ok (.if_icmp .eq 531, 3) := by decide +kernel
theorem dL_law_326 : decode cL_law 326 = .ok (.iconst 0, 1) := by decide +kernel
theorem dL_law_327 : decode cL_law 327 = .ok (.ireturn, 1) := by decide +kernel
theorem dL_law_328 : decode cL_law 328 = .ok (.aload_n 1, 1) := by decide +kernel
theorem dL_law_329 : decode cL_law 329 = .ok (.aload_n 0, 1) := by decide +kernel
theorem dL_law_330 : decode cL_law 330 = .ok (.iload_n 3, 1) := by decide +kernel
theorem dL_law_331 : decode cL_law 331 = .ok (.iconst 1, 1) := by decide +kernel
theorem dL_law_332 : decode cL_law 332 = .ok (.iadd, 1) := by decide +kernel
theorem dL_law_333 : decode cL_law 333 = .ok (.iaload, 1) := by decide +kernel
theorem dL_law_334 : decode cL_law 334 = .ok (.aload_n 0, 1) := by decide +kernel
theorem dL_law_335 : decode cL_law 335 = .ok (.iload_n 3, 1) := by decide +kernel
theorem dL_law_336 : decode cL_law 336 = .ok (.iconst 2, 1) := by decide +kernel
theorem dL_law_337 : decode cL_law 337 = .ok (.iadd, 1) := by decide +kernel
theorem dL_law_338 : decode cL_law 338 = .ok (.iaload, 1) := by decide +kernel
theorem dL_law_339 : decode cL_law 339 = .ok (.invokevirtual 41, 3) := by decide +kernel
theorem dL_law_342 : decode cL_law 342 = .ok (.aload_n 2, 1) := by decide +kernel
theorem dL_law_343 : decode cL_law 343 = .ok (.aload_n 0, 1) := by decide +kernel
theorem dL_law_344 : decode cL_law 344 = .ok (.iload_n 3, 1) := by decide +kernel
theorem dL_law_345 : decode cL_law 345 = .ok (.iconst 1, 1) := by decide +kernel
theorem dL_law_346 : decode cL_law 346 = .ok (.iadd, 1) := by decide +kernel
theorem dL_law_347 : decode cL_law 347 = .ok (.iaload, 1) := by decide +kernel
theorem dL_law_348 : decode cL_law 348 = .ok (.aload_n 0, 1) := by decide +kernel
theorem dL_law_349 : decode cL_law 349 = .ok (.iload_n 3, 1) := by decide +kernel
theorem dL_law_350 : decode cL_law 350 = .ok (.iconst 2, 1) := by decide +kernel
theorem dL_law_351 : decode cL_law 351 = .ok (.iadd, 1) := by decide +kernel
theorem dL_law_352 : decode cL_law 352 = .ok (.iaload, 1) := by decide +kernel
theorem dL_law_353 : decode cL_law 353 = .ok (.invokevirtual 44, 3) := by decide +kernel
theorem dL_law_356 : decode cL_law 356 = .ok (.if_icmp .eq 498, 3) := by decide +kernel
theorem dL_law_359 : decode cL_law 359 = .ok (.iconst 0, 1) := by decide +kernel
theorem dL_law_360 : decode cL_law 360 = .ok (.ireturn, 1) := by decide +kernel
theorem dL_law_361 : decode cL_law 361 = .ok (.aload_n 1, 1) := by decide +kernel
theorem dL_law_362 : decode cL_law 362 = .ok (.aload_n 0, 1) := by decide +kernel
theorem dL_law_363 : decode cL_law 363 = .ok (.iload_n 3, 1) := by decide +kernel
theorem dL_law_364 : decode cL_law 364 = .ok (.iconst 1, 1) := by decide +kernel
theorem dL_law_365 : decode cL_law 365 = .ok (.iadd, 1) := by decide +kernel
theorem dL_law_366 : decode cL_law 366 = .ok (.iaload, 1) := by decide +kernel
theorem dL_law_367 : decode cL_law 367 = .ok (.aload_n 0, 1) := by decide +kernel
theorem dL_law_368 : decode cL_law 368 = .ok (.iload_n 3, 1) := by decide +kernel
theorem dL_law_369 : decode cL_law 369 = .ok (.iconst 2, 1) := by decide +kernel
theorem dL_law_370 : decode cL_law 370 = .ok (.iadd, 1) := by decide +kernel
theorem dL_law_371 : decode cL_law 371 = .ok (.iaload, 1) := by decide +kernel
theorem dL_law_372 : decode cL_law 372 = .ok (.invokevirtual 45, 3) := by decide +kernel
theorem dL_law_375 : decode cL_law 375 = .ok (.aload_n 2, 1) := by decide +kernel
theorem dL_law_376 : decode cL_law 376 = .ok (.aload_n 0, 1) := by decide +kernel
theorem dL_law_377 : decode cL_law 377 = .ok (.iload_n 3, 1) := by decide +kernel
theorem dL_law_378 : decode cL_law 378 = .ok (.iconst 1, 1) := by decide +kernel
theorem dL_law_379 : decode cL_law 379 = .ok (.iadd, 1) := by decide +kernel
theorem dL_law_380 : decode cL_law 380 = .ok (.iaload, 1) := by decide +kernel
theorem dL_law_381 : decode cL_law 381 = .ok (.aload_n 0, 1) := by decide +kernel
theorem dL_law_382 : decode cL_law 382 = .ok (.iload_n 3, 1) := by decide +kernel
theorem dL_law_383 : decode cL_law 383 = .ok (.iconst 2, 1) := by decide +kernel
theorem dL_law_384 : decode cL_law 384 = .ok (.iadd, 1) := by decide +kernel
theorem dL_law_385 : decode cL_law 385 = .ok (.iaload, 1) := by decide +kernel
theorem dL_law_386 : decode cL_law 386 = .ok (.invokevirtual 48, 3) := by decide +kernel
theorem dL_law_389 : decode cL_law 389 = .ok (.if_icmp .eq 465, 3) := by decide +kernel
theorem dL_law_392 : decode cL_law 392 = .ok (.iconst 0, 1) := by decide +kernel
theorem dL_law_393 : decode cL_law 393 = .ok (.ireturn, 1) := by decide +kernel
theorem dL_law_394 : decode cL_law 394 = .ok (.aload_n 1, 1) := by decide +kernel
theorem dL_law_395 : decode cL_law 395 = .ok (.aload_n 0, 1) := by decide +kernel
theorem dL_law_396 : decode cL_law 396 = .ok (.iload_n 3, 1) := by decide +kernel
theorem dL_law_397 : decode cL_law 397 = .ok (.iconst 1, 1) := by decide +kernel
theorem dL_law_398 : decode cL_law 398 = .ok (.iadd, 1) := by decide +kernel
theorem dL_law_399 : decode cL_law 399 = .ok (.iaload, 1) := by decide +kernel
theorem dL_law_400 : decode cL_law 400 = .ok (.aload_n 0, 1) := by decide +kernel
theorem dL_law_401 : decode cL_law 401 = .ok (.iload_n 3, 1) := by decide +kernel
theorem dL_law_402 : decode cL_law 402 = .ok (.iconst 2, 1) := by decide +kernel
theorem dL_law_403 : decode cL_law 403 = .ok (.iadd, 1) := by decide +kernel
theorem dL_law_404 : decode cL_law 404 = .ok (.iaload, 1) := by decide +kernel
theorem dL_law_405 : decode cL_law 405 = .ok (.invokevirtual 49, 3) := by decide +kernel
theorem dL_law_408 : decode cL_law 408 = .ok (.aload_n 2, 1) := by decide +kernel
theorem dL_law_409 : decode cL_law 409 = .ok (.aload_n 0, 1) := by decide +kernel
theorem dL_law_410 : decode cL_law 410 = .ok (.iload_n 3, 1) := by decide +kernel
theorem dL_law_411 : decode cL_law 411 = .ok (.iconst 1, 1) := by decide +kernel
theorem dL_law_412 : decode cL_law 412 = .ok (.iadd, 1) := by decide +kernel
theorem dL_law_413 : decode cL_law 413 = .ok (.iaload, 1) := by decide +kernel
theorem dL_law_414 : decode cL_law 414 = .ok (.aload_n 0, 1) := by decide +kernel
theorem dL_law_415 : decode cL_law 415 = .ok (.iload_n 3, 1) := by decide +kernel
theorem dL_law_416 : decode cL_law 416 = .ok (.iconst 2, 1) := by decide +kernel
theorem dL_law_417 : decode cL_law 417 = .ok (.iadd, 1) := by decide +kernel
theorem dL_law_418 : decode cL_law 418 = .ok (.iaload, 1) := by decide +kernel
theorem dL_law_419 : decode cL_law 419 = .ok (.invokevirtual 52, 3) := by decide +kernel
theorem dL_law_422 : decode cL_law 422 = .ok (.if_icmp .eq 432, 3) := by decide +kernel
theorem dL_law_425 : decode cL_law 425 = .ok (.iconst 0, 1) := by decide +kernel
theorem dL_law_426 : decode cL_law 426 = .ok (.ireturn, 1) := by decide +kernel
theorem dL_law_427 : decode cL_law 427 = .ok (.aload_n 1, 1) := by decide +kernel
theorem dL_law_428 : decode cL_law 428 = .ok (.aload_n 0, 1) := by decide +kernel
theorem dL_law_429 : decode cL_law 429 = .ok (.iload_n 3, 1) := by decide +kernel
theorem dL_law_430 : decode cL_law 430 = .ok (.iconst 1, 1) := by decide +kernel
theorem dL_law_431 : decode cL_law 431 = .ok (.iadd, 1) := by decide +kernel
theorem dL_law_432 : decode cL_law 432 = .ok (.iaload, 1) := by decide +kernel
theorem dL_law_433 : decode cL_law 433 = .ok (.invokevirtual 53, 3) := by decide +kernel
theorem dL_law_436 : decode cL_law 436 = .ok (.aload_n 2, 1) := by decide +kernel
theorem dL_law_437 : decode cL_law 437 = .ok (.aload_n 0, 1) := by decide +kernel
theorem dL_law_438 : decode cL_law 438 = .ok (.iload_n 3, 1) := by decide +kernel
theorem dL_law_439 : decode cL_law 439 = .ok (.iconst 1, 1) := by decide +kernel
theorem dL_law_440 : decode cL_law 440 = .ok (.iadd, 1) := by decide +kernel
theorem dL_law_441 : decode cL_law 441 = .ok (.iaload, 1) := by decide +kernel
theorem dL_law_442 : decode cL_law 442 = .ok (.invokevirtual 56, 3) := by decide +kernel
theorem dL_law_445 : decode cL_law 445 = .ok (.if_icmp .eq 409, 3) := by decide +kernel
theorem dL_law_448 : decode cL_law 448 = .ok (.iconst 0, 1) := by decide +kernel
theorem dL_law_449 : decode cL_law 449 = .ok (.ireturn, 1) := by decide +kernel
theorem dL_law_450 : decode cL_law 450 = .ok (.aload_n 1, 1) := by decide +kernel
theorem dL_law_451 : decode cL_law 451 = .ok (.aload_n 0, 1) := by decide +kernel
theorem dL_law_452 : decode cL_law 452 = .ok (.iload_n 3, 1) := by decide +kernel
theorem dL_law_453 : decode cL_law 453 = .ok (.iconst 1, 1) := by decide +kernel
theorem dL_law_454 : decode cL_law 454 = .ok (.iadd, 1) := by decide +kernel
theorem dL_law_455 : decode cL_law 455 = .ok (.iaload, 1) := by decide +kernel
theorem dL_law_456 : decode cL_law 456 = .ok (.aload_n 0, 1) := by decide +kernel
theorem dL_law_457 : decode cL_law 457 = .ok (.iload_n 3, 1) := by decide +kernel
theorem dL_law_458 : decode cL_law 458 = .ok (.iconst 2, 1) := by decide +kernel
theorem dL_law_459 : decode cL_law 459 = .ok (.iadd, 1) := by decide +kernel
theorem dL_law_460 : decode cL_law 460 = .ok (.iaload, 1) := by decide +kernel
theorem dL_law_461 : decode cL_law 461 = .ok (.invokevirtual 57, 3) := by decide +kernel
theorem dL_law_464 : decode cL_law 464 = .ok (.aload_n 2, 1) := by decide +kernel
theorem dL_law_465 : decode cL_law 465 = .ok (.aload_n 0, 1) := by decide +kernel
theorem dL_law_466 : decode cL_law 466 = .ok (.iload_n 3, 1) := by decide +kernel
theorem dL_law_467 : decode cL_law 467 = .ok (.iconst 1, 1) := by decide +kernel
theorem dL_law_468 : decode cL_law 468 = .ok (.iadd, 1) := by decide +kernel
theorem dL_law_469 : decode cL_law 469 = .ok (.iaload, 1) := by decide +kernel
theorem dL_law_470 : decode cL_law 470 = .ok (.aload_n 0, 1) := by decide +kernel
theorem dL_law_471 : decode cL_law 471 = .ok (.iload_n 3, 1) := by decide +kernel
theorem dL_law_472 : decode cL_law 472 = .ok (.iconst 2, 1) := by decide +kernel
theorem dL_law_473 : decode cL_law 473 = .ok (.iadd, 1) := by decide +kernel
theorem dL_law_474 : decode cL_law 474 = .ok (.iaload, 1) := by decide +kernel
theorem dL_law_475 : decode cL_law 475 = .ok (.invokevirtual 60, 3) := by decide +kernel
theorem dL_law_478 : decode cL_law 478 = .ok (.if_icmp .eq 376, 3) := by decide +kernel
theorem dL_law_481 : decode cL_law 481 = .ok (.iconst 0, 1) := by decide +kernel
theorem dL_law_482 : decode cL_law 482 = .ok (.ireturn, 1) := by decide +kernel
theorem dL_law_483 : decode cL_law 483 = .ok (.aload_n 1, 1) := by decide +kernel
theorem dL_law_484 : decode cL_law 484 = .ok (.aload_n 0, 1) := by decide +kernel
theorem dL_law_485 : decode cL_law 485 = .ok (.iload_n 3, 1) := by decide +kernel
theorem dL_law_486 : decode cL_law 486 = .ok (.iconst 1, 1) := by decide +kernel
theorem dL_law_487 : decode cL_law 487 = .ok (.iadd, 1) := by decide +kernel
theorem dL_law_488 : decode cL_law 488 = .ok (.iaload, 1) := by decide +kernel
theorem dL_law_489 : decode cL_law 489 = .ok (.aload_n 0, 1) := by decide +kernel
theorem dL_law_490 : decode cL_law 490 = .ok (.iload_n 3, 1) := by decide +kernel
theorem dL_law_491 : decode cL_law 491 = .ok (.iconst 2, 1) := by decide +kernel
theorem dL_law_492 : decode cL_law 492 = .ok (.iadd, 1) := by decide +kernel
theorem dL_law_493 : decode cL_law 493 = .ok (.iaload, 1) := by decide +kernel
theorem dL_law_494 : decode cL_law 494 = .ok (.invokevirtual 61, 3) := by decide +kernel
theorem dL_law_497 : decode cL_law 497 = .ok (.aload_n 2, 1) := by decide +kernel
theorem dL_law_498 : decode cL_law 498 = .ok (.aload_n 0, 1) := by decide +kernel
theorem dL_law_499 : decode cL_law 499 = .ok (.iload_n 3, 1) := by decide +kernel
theorem dL_law_500 : decode cL_law 500 = .ok (.iconst 1, 1) := by decide +kernel
theorem dL_law_501 : decode cL_law 501 = .ok (.iadd, 1) := by decide +kernel
theorem dL_law_502 : decode cL_law 502 = .ok (.iaload, 1) := by decide +kernel
theorem dL_law_503 : decode cL_law 503 = .ok (.aload_n 0, 1) := by decide +kernel
theorem dL_law_504 : decode cL_law 504 = .ok (.iload_n 3, 1) := by decide +kernel
theorem dL_law_505 : decode cL_law 505 = .ok (.iconst 2, 1) := by decide +kernel
theorem dL_law_506 : decode cL_law 506 = .ok (.iadd, 1) := by decide +kernel
theorem dL_law_507 : decode cL_law 507 = .ok (.iaload, 1) := by decide +kernel
theorem dL_law_508 : decode cL_law 508 = .ok (.invokevirtual 64, 3) := by decide +kernel
theorem dL_law_511 : decode cL_law 511 = .ok (.if_icmp .eq 343, 3) := by decide +kernel
theorem dL_law_514 : decode cL_law 514 = .ok (.iconst 0, 1) := by decide +kernel
theorem dL_law_515 : decode cL_law 515 = .ok (.ireturn, 1) := by decide +kernel
theorem dL_law_516 : decode cL_law 516 = .ok (.aload_n 1, 1) := by decide +kernel
theorem dL_law_517 : decode cL_law 517 = .ok (.aload_n 0, 1) := by decide +kernel
theorem dL_law_518 : decode cL_law 518 = .ok (.iload_n 3, 1) := by decide +kernel
theorem dL_law_519 : decode cL_law 519 = .ok (.iconst 1, 1) := by decide +kernel
theorem dL_law_520 : decode cL_law 520 = .ok (.iadd, 1) := by decide +kernel
theorem dL_law_521 : decode cL_law 521 = .ok (.iaload, 1) := by decide +kernel
theorem dL_law_522 : decode cL_law 522 = .ok (.invokevirtual 65, 3) := by decide +kernel
theorem dL_law_525 : decode cL_law 525 = .ok (.aload_n 2, 1) := by decide +kernel
theorem dL_law_526 : decode cL_law 526 = .ok (.aload_n 0, 1) := by decide +kernel
theorem dL_law_527 : decode cL_law 527 = .ok (.iload_n 3, 1) := by decide +kernel
theorem dL_law_528 : decode cL_law 528 = .ok (.iconst 1, 1) := by decide +kernel
theorem dL_law_529 : decode cL_law 529 = .ok (.iadd, 1) := by decide +kernel
theorem dL_law_530 : decode cL_law 530 = .ok (.iaload, 1) := by decide +kernel
theorem dL_law_531 : decode cL_law 531 = .ok (.invokevirtual 68, 3) := by decide +kernel
theorem dL_law_534 : decode cL_law 534 = .ok (.if_icmp .eq 320, 3) := by decide +kernel
theorem dL_law_537 : decode cL_law 537 = .ok (.iconst 0, 1) := by decide +kernel
theorem dL_law_538 : decode cL_law 538 = .ok (.ireturn, 1) := by decide +kernel
theorem dL_law_539 : decode cL_law 539 = .ok (.aload_n 1, 1) := by decide +kernel
theorem dL_law_540 : decode cL_law 540 = .ok (.aload_n 0, 1) := by decide +kernel
theorem dL_law_541 : decode cL_law 541 = .ok (.iload_n 3, 1) := by decide +kernel
theorem dL_law_542 : decode cL_law 542 = .ok (.iconst 1, 1) := by decide +kernel
theorem dL_law_543 : decode cL_law 543 = .ok (.iadd, 1) := by decide +kernel
theorem dL_law_544 : decode cL_law 544 = .ok (.iaload, 1) := by decide +kernel
theorem dL_law_545 : decode cL_law 545 = .ok (.invokevirtual 69, 3) := by decide +kernel
theorem dL_law_548 : decode cL_law 548 = .ok (.aload_n 2, 1) := by decide +kernel
theorem dL_law_549 : decode cL_law 549 = .ok (.aload_n 0, 1) := by decide +kernel
theorem dL_law_550 : decode cL_law 550 = .ok (.iload_n 3, 1) := by decide +kernel
theorem dL_law_551 : decode cL_law 551 = .ok (.iconst 1, 1) := by decide +kernel
theorem dL_law_552 : decode cL_law 552 = .ok (.iadd, 1) := by decide +kernel
theorem dL_law_553 : decode cL_law 553 = .ok (.iaload, 1) := by decide +kernel
theorem dL_law_554 : decode cL_law 554 = .ok (.invokevirtual 72, 3) := by decide +kernel
theorem dL_law_557 : decode cL_law 557 = .ok (.if_icmp .eq 297, 3) := by decide +kernel
theorem dL_law_560 : decode cL_law 560 = .ok (.iconst 0, 1) := by decide +kernel
theorem dL_law_561 : decode cL_law 561 = .ok (.ireturn, 1) := by decide +kernel
theorem dL_law_562 : decode cL_law 562 = .ok (.aload_n 1, 1) := by decide +kernel
theorem dL_law_563 : decode cL_law 563 = .ok (.invokevirtual 73, 3) := by decide +kernel
theorem dL_law_566 : decode cL_law 566 = .ok (.aload_n 2, 1) := by decide +kernel
theorem dL_law_567 : decode cL_law 567 = .ok (.invokevirtual 76, 3) := by decide +kernel
theorem dL_law_570 : decode cL_law 570 = .ok (.if_icmp .eq 284, 3) := by decide +kernel
theorem dL_law_573 : decode cL_law 573 = .ok (.iconst 0, 1) := by decide +kernel
theorem dL_law_574 : decode cL_law 574 = .ok (.ireturn, 1) := by decide +kernel
theorem dL_law_575 : decode cL_law 575 = .ok (.aload_n 1, 1) := by decide +kernel
theorem dL_law_576 : decode cL_law 576 = .ok (.aload_n 0, 1) := by decide +kernel
theorem dL_law_577 : decode cL_law 577 = .ok (.iload_n 3, 1) := by decide +kernel
theorem dL_law_578 : decode cL_law 578 = .ok (.iconst 1, 1) := by decide +kernel
theorem dL_law_579 : decode cL_law 579 = .ok (.iadd, 1) := by decide +kernel
theorem dL_law_580 : decode cL_law 580 = .ok (.iaload, 1) := by decide +kernel
theorem dL_law_581 : decode cL_law 581 = .ok (.invokevirtual 77, 3) := by decide +kernel
theorem dL_law_584 : decode cL_law 584 = .ok (.aload_n 2, 1) := by decide +kernel
theorem dL_law_585 : decode cL_law 585 = .ok (.aload_n 0, 1) := by decide +kernel
theorem dL_law_586 : decode cL_law 586 = .ok (.iload_n 3, 1) := by decide +kernel
theorem dL_law_587 : decode cL_law 587 = .ok (.iconst 1, 1) := by decide +kernel
theorem dL_law_588 : decode cL_law 588 = .ok (.iadd, 1) := by decide +kernel
theorem dL_law_589 : decode cL_law 589 = .ok (.iaload, 1) := by decide +kernel
theorem dL_law_590 : decode cL_law 590 = .ok (.invokevirtual 80, 3) := by decide +kernel
theorem dL_law_593 : decode cL_law 593 = .ok (.if_icmp .eq 261, 3) := by decide +kernel
theorem dL_law_596 : decode cL_law 596 = .ok (.iconst 0, 1) := by decide +kernel
theorem dL_law_597 : decode cL_law 597 = .ok (.ireturn, 1) := by decide +kernel
theorem dL_law_598 : decode cL_law 598 = .ok (.aload_n 1, 1) := by decide +kernel
theorem dL_law_599 : decode cL_law 599 = .ok (.aload_n 0, 1) := by decide +kernel
theorem dL_law_600 : decode cL_law 600 = .ok (.iload_n 3, 1) := by decide +kernel
theorem dL_law_601 : decode cL_law 601 = .ok (.iconst 1, 1) := by decide +kernel
theorem dL_law_602 : decode cL_law 602 = .ok (.iadd, 1) := by decide +kernel
theorem dL_law_603 : decode cL_law 603 = .ok (.iaload, 1) := by decide +kernel
theorem dL_law_604 : decode cL_law 604 = .ok (.invokevirtual 81, 3) := by decide +kernel
theorem dL_law_607 : decode cL_law 607 = .ok (.aload_n 2, 1) := by decide +kernel
theorem dL_law_608 : decode cL_law 608 = .ok (.aload_n 0, 1) := by decide +kernel
theorem dL_law_609 : decode cL_law 609 = .ok (.iload_n 3, 1) := by decide +kernel
theorem dL_law_610 : decode cL_law 610 = .ok (.iconst 1, 1) := by decide +kernel
theorem dL_law_611 : decode cL_law 611 = .ok (.iadd, 1) := by decide +kernel
theorem dL_law_612 : decode cL_law 612 = .ok (.iaload, 1) := by decide +kernel
theorem dL_law_613 : decode cL_law 613 = .ok (.invokevirtual 84, 3) := by decide +kernel
theorem dL_law_616 : decode cL_law 616 = .ok (.if_icmp .eq 238, 3) := by decide +kernel
theorem dL_law_619 : decode cL_law 619 = .ok (.iconst 0, 1) := by decide +kernel
theorem dL_law_620 : decode cL_law 620 = .ok (.ireturn, 1) := by decide +kernel
theorem dL_law_621 : decode cL_law 621 = .ok (.aload_n 1, 1) := by decide +kernel
theorem dL_law_622 : decode cL_law 622 = .ok (.invokevirtual 85, 3) := by decide +kernel
theorem dL_law_625 : decode cL_law 625 = .ok (.aload_n 2, 1) := by decide +kernel
theorem dL_law_626 : decode cL_law 626 = .ok (.invokevirtual 88, 3) := by decide +kernel
theorem dL_law_629 : decode cL_law 629 = .ok (.if_icmp .eq 225, 3) := by decide +kernel
theorem dL_law_632 : decode cL_law 632 = .ok (.iconst 0, 1) := by decide +kernel
theorem dL_law_633 : decode cL_law 633 = .ok (.ireturn, 1) := by decide +kernel
theorem dL_law_634 : decode cL_law 634 = .ok (.aload_n 1, 1) := by decide +kernel
theorem dL_law_635 : decode cL_law 635 = .ok (.aload_n 0, 1) := by decide +kernel
theorem dL_law_636 : decode cL_law 636 = .ok (.iload_n 3, 1) := by decide +kernel
theorem dL_law_637 : decode cL_law 637 = .ok (.iconst 1, 1) := by decide +kernel
theorem dL_law_638 : decode cL_law 638 = .ok (.iadd, 1) := by decide +kernel
theorem dL_law_639 : decode cL_law 639 = .ok (.iaload, 1) := by decide +kernel
theorem dL_law_640 : decode cL_law 640 = .ok (.invokevirtual 89, 3) := by decide +kernel
theorem dL_law_643 : decode cL_law 643 = .ok (.aload_n 2, 1) := by decide +kernel
theorem dL_law_644 : decode cL_law 644 = .ok (.aload_n 0, 1) := by decide +kernel
theorem dL_law_645 : decode cL_law 645 = .ok (.iload_n 3, 1) := by decide +kernel
theorem dL_law_646 : decode cL_law 646 = .ok (.iconst 1, 1) := by decide +kernel
theorem dL_law_647 : decode cL_law 647 = .ok (.iadd, 1) := by decide +kernel
theorem dL_law_648 : decode cL_law 648 = .ok (.iaload, 1) := by decide +kernel
theorem dL_law_649 : decode cL_law 649 = .ok (.invokevirtual 92, 3) := by decide +kernel
theorem dL_law_652 : decode cL_law 652 = .ok (.if_icmp .eq 202, 3) := by decide +kernel
theorem dL_law_655 : decode cL_law 655 = .ok (.iconst 0, 1) := by decide +kernel
theorem dL_law_656 : decode cL_law 656 = .ok (.ireturn, 1) := by decide +kernel
theorem dL_law_657 : decode cL_law 657 = .ok (.aload_n 1, 1) := by decide +kernel
theorem dL_law_658 : decode cL_law 658 = .ok (.aload_n 0, 1) := by decide +kernel
theorem dL_law_659 : decode cL_law 659 = .ok (.iload_n 3, 1) := by decide +kernel
theorem dL_law_660 : decode cL_law 660 = .ok (.iconst 1, 1) := by decide +kernel
theorem dL_law_661 : decode cL_law 661 = .ok (.iadd, 1) := by decide +kernel
theorem dL_law_662 : decode cL_law 662 = .ok (.iaload, 1) := by decide +kernel
theorem dL_law_663 : decode cL_law 663 = .ok (.invokevirtual 93, 3) := by decide +kernel
theorem dL_law_666 : decode cL_law 666 = .ok (.aload_n 2, 1) := by decide +kernel
theorem dL_law_667 : decode cL_law 667 = .ok (.aload_n 0, 1) := by decide +kernel
theorem dL_law_668 : decode cL_law 668 = .ok (.iload_n 3, 1) := by decide +kernel
theorem dL_law_669 : decode cL_law 669 = .ok (.iconst 1, 1) := by decide +kernel
theorem dL_law_670 : decode cL_law 670 = .ok (.iadd, 1) := by decide +kernel
theorem dL_law_671 : decode cL_law 671 = .ok (.iaload, 1) := by decide +kernel
theorem dL_law_672 : decode cL_law 672 = .ok (.invokevirtual 96, 3) := by decide +kernel
theorem dL_law_675 : decode cL_law 675 = .ok (.if_icmp .eq 179, 3) := by decide +kernel
theorem dL_law_678 : decode cL_law 678 = .ok (.iconst 0, 1) := by decide +kernel
theorem dL_law_679 : decode cL_law 679 = .ok (.ireturn, 1) := by decide +kernel
theorem dL_law_680 : decode cL_law 680 = .ok (.aload_n 1, 1) := by decide +kernel
theorem dL_law_681 : decode cL_law 681 = .ok (.invokevirtual 97, 3) := by decide +kernel
theorem dL_law_684 : decode cL_law 684 = .ok (.aload_n 2, 1) := by decide +kernel
theorem dL_law_685 : decode cL_law 685 = .ok (.invokevirtual 100, 3) := by decide +kernel
theorem dL_law_688 : decode cL_law 688 = .ok (.if_icmp .eq 166, 3) := by decide +kernel
theorem dL_law_691 : decode cL_law 691 = .ok (.iconst 0, 1) := by decide +kernel
theorem dL_law_692 : decode cL_law 692 = .ok (.ireturn, 1) := by decide +kernel
theorem dL_law_693 : decode cL_law 693 = .ok (.aload_n 1, 1) := by decide +kernel
theorem dL_law_694 : decode cL_law 694 = .ok (.aload_n 0, 1) := by decide +kernel
theorem dL_law_695 : decode cL_law 695 = .ok (.iload_n 3, 1) := by decide +kernel
theorem dL_law_696 : decode cL_law 696 = .ok (.iconst 1, 1) := by decide +kernel
theorem dL_law_697 : decode cL_law 697 = .ok (.iadd, 1) := by decide +kernel
theorem dL_law_698 : decode cL_law 698 = .ok (.iaload, 1) := by decide +kernel
theorem dL_law_699 : decode cL_law 699 = .ok (.invokevirtual 101, 3) := by decide +kernel
theorem dL_law_702 : decode cL_law 702 = .ok (.aload_n 2, 1) := by decide +kernel
theorem dL_law_703 : decode cL_law 703 = .ok (.aload_n 0, 1) := by decide +kernel
theorem dL_law_704 : decode cL_law 704 = .ok (.iload_n 3, 1) := by decide +kernel
theorem dL_law_705 : decode cL_law 705 = .ok (.iconst 1, 1) := by decide +kernel
theorem dL_law_706 : decode cL_law 706 = .ok (.iadd, 1) := by decide +kernel
theorem dL_law_707 : decode cL_law 707 = .ok (.iaload, 1) := by decide +kernel
theorem dL_law_708 : decode cL_law 708 = .ok (.invokevirtual 104, 3) := by decide +kernel
theorem dL_law_711 : decode cL_law 711 = .ok (.if_icmp .eq 143, 3) := by decide +kernel
theorem dL_law_714 : decode cL_law 714 = .ok (.iconst 0, 1) := by decide +kernel
theorem dL_law_715 : decode cL_law 715 = .ok (.ireturn, 1) := by decide +kernel
theorem dL_law_716 : decode cL_law 716 = .ok (.aload_n 1, 1) := by decide +kernel
theorem dL_law_717 : decode cL_law 717 = .ok (.aload_n 0, 1) := by decide +kernel
theorem dL_law_718 : decode cL_law 718 = .ok (.iload_n 3, 1) := by decide +kernel
theorem dL_law_719 : decode cL_law 719 = .ok (.iconst 1, 1) := by decide +kernel
theorem dL_law_720 : decode cL_law 720 = .ok (.iadd, 1) := by decide +kernel
theorem dL_law_721 : decode cL_law 721 = .ok (.iaload, 1) := by decide +kernel
theorem dL_law_722 : decode cL_law 722 = .ok (.invokevirtual 105, 3) := by decide +kernel
theorem dL_law_725 : decode cL_law 725 = .ok (.aload_n 2, 1) := by decide +kernel
theorem dL_law_726 : decode cL_law 726 = .ok (.aload_n 0, 1) := by decide +kernel
theorem dL_law_727 : decode cL_law 727 = .ok (.iload_n 3, 1) := by decide +kernel
theorem dL_law_728 : decode cL_law 728 = .ok (.iconst 1, 1) := by decide +kernel
theorem dL_law_729 : decode cL_law 729 = .ok (.iadd, 1) := by decide +kernel
theorem dL_law_730 : decode cL_law 730 = .ok (.iaload, 1) := by decide +kernel
theorem dL_law_731 : decode cL_law 731 = .ok (.invokevirtual 108, 3) := by decide +kernel
theorem dL_law_734 : decode cL_law 734 = .ok (.if_icmp .eq 120, 3) := by decide +kernel
theorem dL_law_737 : decode cL_law 737 = .ok (.iconst 0, 1) := by decide +kernel
theorem dL_law_738 : decode cL_law 738 = .ok (.ireturn, 1) := by decide +kernel
theorem dL_law_739 : decode cL_law 739 = .ok (.aload_n 1, 1) := by decide +kernel
theorem dL_law_740 : decode cL_law 740 = .ok (.aload_n 0, 1) := by decide +kernel
theorem dL_law_741 : decode cL_law 741 = .ok (.iload_n 3, 1) := by decide +kernel
theorem dL_law_742 : decode cL_law 742 = .ok (.iconst 1, 1) := by decide +kernel
theorem dL_law_743 : decode cL_law 743 = .ok (.iadd, 1) := by decide +kernel
theorem dL_law_744 : decode cL_law 744 = .ok (.iaload, 1) := by decide +kernel
theorem dL_law_745 : decode cL_law 745 = .ok (.invokevirtual 109, 3) := by decide +kernel
theorem dL_law_748 : decode cL_law 748 = .ok (.aload_n 2, 1) := by decide +kernel
theorem dL_law_749 : decode cL_law 749 = .ok (.aload_n 0, 1) := by decide +kernel
theorem dL_law_750 : decode cL_law 750 = .ok (.iload_n 3, 1) := by decide +kernel
theorem dL_law_751 : decode cL_law 751 = .ok (.iconst 1, 1) := by decide +kernel
theorem dL_law_752 : decode cL_law 752 = .ok (.iadd, 1) := by decide +kernel
theorem dL_law_753 : decode cL_law 753 = .ok (.iaload, 1) := by decide +kernel
theorem dL_law_754 : decode cL_law 754 = .ok (.invokevirtual 112, 3) := by decide +kernel
theorem dL_law_757 : decode cL_law 757 = .ok (.if_icmp .eq 97, 3) := by decide +kernel
theorem dL_law_760 : decode cL_law 760 = .ok (.iconst 0, 1) := by decide +kernel
theorem dL_law_761 : decode cL_law 761 = .ok (.ireturn, 1) := by decide +kernel
theorem dL_law_762 : decode cL_law 762 = .ok (.aload_n 1, 1) := by decide +kernel
theorem dL_law_763 : decode cL_law 763 = .ok (.aload_n 0, 1) := by decide +kernel
theorem dL_law_764 : decode cL_law 764 = .ok (.iload_n 3, 1) := by decide +kernel
theorem dL_law_765 : decode cL_law 765 = .ok (.iconst 1, 1) := by decide +kernel
theorem dL_law_766 : decode cL_law 766 = .ok (.iadd, 1) := by decide +kernel
theorem dL_law_767 : decode cL_law 767 = .ok (.iaload, 1) := by decide +kernel
theorem dL_law_768 : decode cL_law 768 = .ok (.aload_n 0, 1) := by decide +kernel
theorem dL_law_769 : decode cL_law 769 = .ok (.iload_n 3, 1) := by decide +kernel
theorem dL_law_770 : decode cL_law 770 = .ok (.iconst 2, 1) := by decide +kernel
theorem dL_law_771 : decode cL_law 771 = .ok (.iadd, 1) := by decide +kernel
theorem dL_law_772 : decode cL_law 772 = .ok (.iaload, 1) := by decide +kernel
theorem dL_law_773 : decode cL_law 773 = .ok (.aload_n 0, 1) := by decide +kernel
theorem dL_law_774 : decode cL_law 774 = .ok (.iload_n 3, 1) := by decide +kernel
theorem dL_law_775 : decode cL_law 775 = .ok (.iconst 3, 1) := by decide +kernel
theorem dL_law_776 : decode cL_law 776 = .ok (.iadd, 1) := by decide +kernel
theorem dL_law_777 : decode cL_law 777 = .ok (.iaload, 1) := by decide +kernel
theorem dL_law_778 : decode cL_law 778 = .ok (.invokevirtual 113, 3) := by decide +kernel
theorem dL_law_781 : decode cL_law 781 = .ok (.aload_n 2, 1) := by decide +kernel
theorem dL_law_782 : decode cL_law 782 = .ok (.aload_n 0, 1) := by decide +kernel
theorem dL_law_783 : decode cL_law 783 = .ok (.iload_n 3, 1) := by decide +kernel
theorem dL_law_784 : decode cL_law 784 = .ok (.iconst 1, 1) := by decide +kernel
theorem dL_law_785 : decode cL_law 785 = .ok (.iadd, 1) := by decide +kernel
theorem dL_law_786 : decode cL_law 786 = .ok (.iaload, 1) := by decide +kernel
theorem dL_law_787 : decode cL_law 787 = .ok (.aload_n 0, 1) := by decide +kernel
theorem dL_law_788 : decode cL_law 788 = .ok (.iload_n 3, 1) := by decide +kernel
theorem dL_law_789 : decode cL_law 789 = .ok (.iconst 2, 1) := by decide +kernel
theorem dL_law_790 : decode cL_law 790 = .ok (.iadd, 1) := by decide +kernel
theorem dL_law_791 : decode cL_law 791 = .ok (.iaload, 1) := by decide +kernel
theorem dL_law_792 : decode cL_law 792 = .ok (.aload_n 0, 1) := by decide +kernel
theorem dL_law_793 : decode cL_law 793 = .ok (.iload_n 3, 1) := by decide +kernel
theorem dL_law_794 : decode cL_law 794 = .ok (.iconst 3, 1) := by decide +kernel
theorem dL_law_795 : decode cL_law 795 = .ok (.iadd, 1) := by decide +kernel
theorem dL_law_796 : decode cL_law 796 = .ok (.iaload, 1) := by decide +kernel
theorem dL_law_797 : decode cL_law 797 = .ok (.invokevirtual 116, 3) := by decide +kernel
theorem dL_law_800 : decode cL_law 800 = .ok (.if_icmp .eq 54, 3) := by decide +kernel
theorem dL_law_803 : decode cL_law 803 = .ok (.iconst 0, 1) := by decide +kernel
theorem dL_law_804 : decode cL_law 804 = .ok (.ireturn, 1) := by decide +kernel
theorem dL_law_805 : decode cL_law 805 = .ok (.aload_n 1, 1) := by decide +kernel
theorem dL_law_806 : decode cL_law 806 = .ok (.invokevirtual 117, 3) := by decide +kernel
theorem dL_law_809 : decode cL_law 809 = .ok (.aload_n 2, 1) := by decide +kernel
theorem dL_law_810 : decode cL_law 810 = .ok (.invokevirtual 120, 3) := by decide +kernel
theorem dL_law_813 : decode cL_law 813 = .ok (.if_icmp .eq 41, 3) := by decide +kernel
theorem dL_law_816 : decode cL_law 816 = .ok (.iconst 0, 1) := by decide +kernel
theorem dL_law_817 : decode cL_law 817 = .ok (.ireturn, 1) := by decide +kernel
theorem dL_law_818 : decode cL_law 818 = .ok (.aload_n 1, 1) := by decide +kernel
theorem dL_law_819 : decode cL_law 819 = .ok (.invokevirtual 121, 3) := by decide +kernel
theorem dL_law_822 : decode cL_law 822 = .ok (.aload_n 2, 1) := by decide +kernel
theorem dL_law_823 : decode cL_law 823 = .ok (.invokevirtual 124, 3) := by decide +kernel
theorem dL_law_826 : decode cL_law 826 = .ok (.if_icmp .eq 28, 3) := by decide +kernel
theorem dL_law_829 : decode cL_law 829 = .ok (.iconst 0, 1) := by decide +kernel
theorem dL_law_830 : decode cL_law 830 = .ok (.ireturn, 1) := by decide +kernel
theorem dL_law_831 : decode cL_law 831 = .ok (.aload_n 1, 1) := by decide +kernel
theorem dL_law_832 : decode cL_law 832 = .ok (.aload_n 0, 1) := by decide +kernel
theorem dL_law_833 : decode cL_law 833 = .ok (.iload_n 3, 1) := by decide +kernel
theorem dL_law_834 : decode cL_law 834 = .ok (.iconst 1, 1) := by decide +kernel
theorem dL_law_835 : decode cL_law 835 = .ok (.iadd, 1) := by decide +kernel
theorem dL_law_836 : decode cL_law 836 = .ok (.iaload, 1) := by decide +kernel
theorem dL_law_837 : decode cL_law 837 = .ok (.invokevirtual 125, 3) := by decide +kernel
theorem dL_law_840 : decode cL_law 840 = .ok (.aload_n 2, 1) := by decide +kernel
theorem dL_law_841 : decode cL_law 841 = .ok (.aload_n 0, 1) := by decide +kernel
theorem dL_law_842 : decode cL_law 842 = .ok (.iload_n 3, 1) := by decide +kernel
theorem dL_law_843 : decode cL_law 843 = .ok (.iconst 1, 1) := by decide +kernel
theorem dL_law_844 : decode cL_law 844 = .ok (.iadd, 1) := by decide +kernel
theorem dL_law_845 : decode cL_law 845 = .ok (.iaload, 1) := by decide +kernel
theorem dL_law_846 : decode cL_law 846 = .ok (.invokevirtual 128, 3) := by decide +kernel
theorem dL_law_849 : decode cL_law 849 = .ok (.if_icmp .eq 5, 3) := by decide +kernel
theorem dL_law_852 : decode cL_law 852 = .ok (.iconst 0, 1) := by decide +kernel
theorem dL_law_853 : decode cL_law 853 = .ok (.ireturn, 1) := by decide +kernel
theorem dL_law_854 : decode cL_law 854 = .ok (.iinc 3 4, 3) := by decide +kernel
theorem dL_law_857 : decode cL_law 857 = .ok (.goto (-839), 3) := by decide +kernel
theorem dL_law_860 : decode cL_law 860 = .ok (.iconst 1, 1) := by decide +kernel
theorem dL_law_861 : decode cL_law 861 = .ok (.ireturn, 1) := by decide +kernel
end
section
theorem dX0_init_0 : decode cX0_init 0 = .ok (.aload_n 0, 1) := by decide +kernel
theorem dX0_init_1 : decode cX0_init 1 = .ok (.invokespecial 1, 3) := by decide +kernel
theorem dX0_init_4 : decode cX0_init 4 = .ok (.return_, 1) := by decide +kernel
theorem dX0_isWonBy_0 : decode cX0_isWonBy 0 = .ok (.iload_n 1, 1) := by decide +kernel
theorem dX0_isWonBy_1 : decode cX0_isWonBy 1 = .ok (.ifCond .ne 7, 3) := by decide +kernel
theorem dX0_isWonBy_4 : decode cX0_isWonBy 4 = .ok (.iconst 1, 1) := by decide +kernel
theorem dX0_isWonBy_5 : decode cX0_isWonBy 5 = .ok (.goto 4, 3) := by decide +kernel
theorem dX0_isWonBy_8 : decode cX0_isWonBy 8 = .ok (.iconst 0, 1) := by decide +kernel
theorem dX0_isWonBy_9 : decode cX0_isWonBy 9 = .ok (.ireturn, 1) := by decide +kernel
theorem dX1_init_0 : decode cX1_init 0 = .ok (.aload_n 0, 1) := by decide +kernel
theorem dX1_init_1 : decode cX1_init 1 = .ok (.invokespecial 1, 3) := by decide +kernel
theorem dX1_init_4 : decode cX1_init 4 = .ok (.return_, 1) := by decide +kernel
theorem dX1_looksAtBoth_0 : decode cX1_looksAtBoth 0 = .ok (.iconst 1, 1) := by decide +kernel
theorem dX1_looksAtBoth_1 : decode cX1_looksAtBoth 1 = .ok (.ireturn, 1) := by decide +kernel
theorem dX2_init_0 : decode cX2_init 0 = .ok (.aload_n 0, 1) := by decide +kernel
theorem dX2_init_1 : decode cX2_init 1 = .ok (.invokespecial 3, 3) := by decide +kernel
theorem dX2_init_4 : decode cX2_init 4 = .ok (.aload_n 0, 1) := by decide +kernel
theorem dX2_init_5 : decode cX2_init 5 = .ok (.iconst 4, 1) := by decide +kernel
theorem dX2_init_6 : decode cX2_init 6 = .ok (.newarray .int, 2) := by decide +kernel
theorem dX2_init_8 : decode cX2_init 8 = .ok (.putfield 9, 3) := by decide +kernel
theorem dX2_init_11 : decode cX2_init 11 = .ok (.aload_n 0, 1) := by decide +kernel
theorem dX2_init_12 : decode cX2_init 12 = .ok (.bipush 42, 2) := by decide +kernel
theorem dX2_init_14 : decode cX2_init 14 = .ok (.newarray .int, 2) := by decide +kernel
theorem dX2_init_16 : decode cX2_init 16 = .ok (.putfield 15, 3) := by decide +kernel
theorem dX2_init_19 : decode cX2_init 19 = .ok (.aload_n 0, 1) := by decide +kernel
theorem dX2_init_20 : decode cX2_init 20 = .ok (.iconst 4, 1) := by decide +kernel
theorem dX2_init_21 : decode cX2_init 21 = .ok (.newarray .int, 2) := by decide +kernel
theorem dX2_init_23 : decode cX2_init 23 = .ok (.putfield 18, 3) := by decide +kernel
theorem dX2_init_26 : decode cX2_init 26 = .ok (.aload_n 0, 1) := by decide +kernel
theorem dX2_init_27 : decode cX2_init 27 = .ok (.iconst 0, 1) := by decide +kernel
theorem dX2_init_28 : decode cX2_init 28 = .ok (.putfield 21, 3) := by decide +kernel
theorem dX2_init_31 : decode cX2_init 31 = .ok (.aload_n 0, 1) := by decide +kernel
theorem dX2_init_32 : decode cX2_init 32 = .ok (.iconst 0, 1) := by decide +kernel
theorem dX2_init_33 : decode cX2_init 33 = .ok (.putfield 25, 3) := by decide +kernel
theorem dX2_init_36 : decode cX2_init 36 = .ok (.iconst 0, 1) := by decide +kernel
theorem dX2_init_37 : decode cX2_init 37 = .ok (.istore_n 1, 1) := by decide +kernel
theorem dX2_init_38 : decode cX2_init 38 = .ok (.iload_n 1, 1) := by decide +kernel
theorem dX2_init_39 : decode cX2_init 39 = .ok (.iconst 4, 1) := by decide +kernel
theorem dX2_init_40 : decode cX2_init 40 = .ok (.if_icmp .ge 19, 3) := by decide +kernel
theorem dX2_init_43 : decode cX2_init 43 = .ok (.aload_n 0, 1) := by decide +kernel
theorem dX2_init_44 : decode cX2_init 44 = .ok (.getfield 18, 3) := by decide +kernel
theorem dX2_init_47 : decode cX2_init 47 = .ok (.iload_n 1, 1) := by decide +kernel
theorem dX2_init_48 : decode cX2_init 48 = .ok (.bipush 50, 2) := by decide +kernel
theorem dX2_init_50 : decode cX2_init 50 = .ok (.invokestatic 28, 3) := by decide +kernel
theorem dX2_init_53 : decode cX2_init 53 = .ok (.iinc 1 1, 3) := by decide +kernel
theorem dX2_init_56 : decode cX2_init 56 = .ok (.goto (-18), 3) := by decide +kernel
theorem dX2_init_59 : decode cX2_init 59 = .ok (.return_, 1) := by decide +kernel
theorem dX2_takeFrom_0 : decode cX2_takeFrom 0 = .ok (.aload_n 1, 1) := by decide +kernel
theorem dX2_takeFrom_1 : decode cX2_takeFrom 1 = .ok (.getfield 9, 3) := by decide +kernel
theorem dX2_takeFrom_4 : decode cX2_takeFrom 4 = .ok (.aload_n 0, 1) := by decide +kernel
theorem dX2_takeFrom_5 : decode cX2_takeFrom 5 = .ok (.getfield 9, 3) := by decide +kernel
theorem dX2_takeFrom_8 : decode cX2_takeFrom 8 = .ok (.invokestatic 32, 3) := by decide +kernel
theorem dX2_takeFrom_11 : decode cX2_takeFrom 11 = .ok (.aload_n 1, 1) := by decide +kernel
theorem dX2_takeFrom_12 : decode cX2_takeFrom 12 = .ok (.getfield 15, 3) := by decide +kernel
theorem dX2_takeFrom_15 : decode cX2_takeFrom 15 = .ok (.aload_n 0, 1) := by decide +kernel
theorem dX2_takeFrom_16 : decode cX2_takeFrom 16 = .ok (.getfield 15, 3) := by decide +kernel
theorem dX2_takeFrom_19 : decode cX2_takeFrom 19 = .ok (.invokestatic 32, 3) := by decide +kernel
theorem dX2_takeFrom_22 : decode cX2_takeFrom 22 = .ok (.aload_n 1, 1) := by decide +kernel
theorem dX2_takeFrom_23 : decode cX2_takeFrom 23 = .ok (.getfield 18, 3) := by decide +kernel
theorem dX2_takeFrom_26 : decode cX2_takeFrom 26 = .ok (.aload_n 0, 1) := by decide +kernel
theorem dX2_takeFrom_27 : decode cX2_takeFrom 27 = .ok (.getfield 18, 3) := by decide +kernel
theorem dX2_takeFrom_30 : decode cX2_takeFrom 30 = .ok (.invokestatic 32, 3) := by decide +kernel
theorem dX2_takeFrom_33 : decode cX2_takeFrom 33 = .ok (.aload_n 0, 1) := by decide +kernel
theorem dX2_takeFrom_34 : decode cX2_takeFrom 34 = .ok (.aload_n 1, 1) := by decide +kernel
theorem dX2_takeFrom_35 : decode cX2_takeFrom 35 = .ok (.getfield 21, 3) := by decide +kernel
theorem dX2_takeFrom_38 : decode cX2_takeFrom 38 = .ok (.putfield 21, 3) := by decide +kernel
theorem dX2_takeFrom_41 : decode cX2_takeFrom 41 = .ok (.aload_n 0, 1) := by decide +kernel
theorem dX2_takeFrom_42 : decode cX2_takeFrom 42 = .ok (.aload_n 1, 1) := by decide +kernel
theorem dX2_takeFrom_43 : decode cX2_takeFrom 43 = .ok (.getfield 25, 3) := by decide +kernel
theorem dX2_takeFrom_46 : decode cX2_takeFrom 46 = .ok (.putfield 25, 3) := by decide +kernel
theorem dX2_takeFrom_49 : decode cX2_takeFrom 49 = .ok (.return_, 1) := by decide +kernel
theorem dX2_comes_0 : decode cX2_comes 0 = .ok (.iload_n 1, 1) := by decide +kernel
theorem dX2_comes_1 : decode cX2_comes 1 = .ok (.ifCond .ne 13, 3) := by decide +kernel
theorem dX2_comes_4 : decode cX2_comes 4 = .ok (.aload_n 0, 1) := by decide +kernel
theorem dX2_comes_5 : decode cX2_comes 5 = .ok (.aload_n 2, 1) := by decide +kernel
theorem dX2_comes_6 : decode cX2_comes 6 = .ok (.iconst 0, 1) := by decide +kernel
theorem dX2_comes_7 : decode cX2_comes 7 = .ok (.invokestatic 36, 3) := by decide +kernel
theorem dX2_comes_10 : decode cX2_comes 10 = .ok (.invokevirtual 40, 3) := by decide +kernel
theorem dX2_comes_13 : decode cX2_comes 13 = .ok (.ireturn, 1) := by decide +kernel
theorem dX2_comes_14 : decode cX2_comes 14 = .ok (.iload_n 1, 1) := by decide +kernel
theorem dX2_comes_15 : decode cX2_comes 15 = .ok (.iconst 1, 1) := by decide +kernel
theorem dX2_comes_16 : decode cX2_comes 16 = .ok (.if_icmp .ne 11, 3) := by decide +kernel
theorem dX2_comes_19 : decode cX2_comes 19 = .ok (.aload_n 0, 1) := by decide +kernel
theorem dX2_comes_20 : decode cX2_comes 20 = .ok (.aload_n 2, 1) := by decide +kernel
theorem dX2_comes_21 : decode cX2_comes 21 = .ok (.invokevirtual 46, 3) := by decide +kernel
theorem dX2_comes_24 : decode cX2_comes 24 = .ok (.goto 17, 3) := by decide +kernel
theorem dX2_comes_27 : decode cX2_comes 27 = .ok (.aload_n 0, 1) := by decide +kernel
theorem dX2_comes_28 : decode cX2_comes 28 = .ok (.aload_n 2, 1) := by decide +kernel
theorem dX2_comes_29 : decode cX2_comes 29 = .ok (.iconst 0, 1) := by decide +kernel
theorem dX2_comes_30 : decode cX2_comes 30 = .ok (.invokestatic 36, 3) := by decide +kernel
theorem dX2_comes_33 : decode cX2_comes 33 = .ok (.aload_n 2, 1) := by decide +kernel
theorem dX2_comes_34 : decode cX2_comes 34 = .ok (.iconst 1, 1) := by decide +kernel
theorem dX2_comes_35 : decode cX2_comes 35 = .ok (.invokestatic 36, 3) := by decide +kernel
theorem dX2_comes_38 : decode cX2_comes 38 = .ok (.invokevirtual 50, 3) := by decide +kernel
theorem dX2_comes_41 : decode cX2_comes 41 = .ok (.ireturn, 1) := by decide +kernel
theorem dX2_comesHappening_0 : decode cX2_comesHappening 0 = .ok (.iload_n 1, 1) := by decide +kernel
theorem dX2_comesHappening_1 : decode cX2_comesHappening 1 = .ok (.iconst 1, 1) := by decide +kernel
theorem dX2_comesHappening_2 : decode cX2_comesHappening 2 = .ok (.if_icmp .lt 11, 3) := by decide +kernel
theorem dX2_comesHappening_5 : decode cX2_comesHappening 5 = .ok (.aload_n 0, 1) := by decide +kernel
theorem dX2_comesHappening_6 : decode cX2_comesHappening 6 = .ok (.getfield 21, 3) := by decide +kernel
theorem dX2_comesHappening_9 : decode cX2_comesHappening 9 = .ok (.iconst 4, 1) := by decide +kernel
theorem dX2_comesHappening_10 : decode cX2_comesHappening 10 = .ok (.if_icmp .lt 5, 3) := by decide +kernel
theorem dX2_comesHappening_13 : decode cX2_comesHappening 13 = .ok (.iconst 0, 1) := by decide +kernel
theorem dX2_comesHappening_14 : decode cX2_comesHappening 14 = .ok (.ireturn, 1) := by decide +kernel
theorem dX2_comesHappening_15 : decode cX2_comesHappening 15 = .ok (.aload_n 0, 1) := by decide +kernel
theorem dX2_comesHappening_16 : decode cX2_comesHappening 16 = .ok (.getfield 9, 3) := by decide +kernel
theorem dX2_comesHappening_19 : decode cX2_comesHappening 19 = .ok (.aload_n 0, 1) := by decide +kernel
theorem dX2_comesHappening_20 : decode cX2_comesHappening 20 = .ok (.getfield 21, 3) := by decide +kernel
theorem dX2_comesHappening_23 : decode cX2_comesHappening 23 = .ok (.iload_n 1, 1) := by decide +kernel
theorem dX2_comesHappening_24 : decode cX2_comesHappening 24 = .ok (.invokestatic 28, 3) := by decide +kernel
theorem dX2_comesHappening_27 : decode cX2_comesHappening 27 = .ok (.aload_n 0, 1) := by decide +kernel
theorem dX2_comesHappening_28 : decode cX2_comesHappening 28 = .ok (.dup, 1) := by decide +kernel
theorem dX2_comesHappening_29 : decode cX2_comesHappening 29 = .ok (.getfield 21, 3) := by decide +kernel
theorem dX2_comesHappening_32 : decode cX2_comesHappening 32 = .ok (.iconst 1, 1) := by decide +kernel
theorem dX2_comesHappening_33 : decode cX2_comesHappening 33 = .ok (.iadd, 1) := by decide +kernel
theorem dX2_comesHappening_34 : decode cX2_comesHappening 34 = .ok (.putfield 21, 3) := by decide +kernel
theorem dX2_comesHappening_37 : decode cX2_comesHappening 37 = .ok (.iconst 1, 1) := by decide +kernel
theorem dX2_comesHappening_38 : decode cX2_comesHappening 38 = .ok (.ireturn, 1) := by decide +kernel
theorem dX2_comesBet_0 : decode cX2_comesBet 0 = .ok (.aload_n 0, 1) := by decide +kernel
theorem dX2_comesBet_1 : decode cX2_comesBet 1 = .ok (.getfield 25, 3) := by decide +kernel
theorem dX2_comesBet_4 : decode cX2_comesBet 4 = .ok (.bipush 6, 2) := by decide +kernel
theorem dX2_comesBet_6 : decode cX2_comesBet 6 = .ok (.if_icmp .ge 11, 3) := by decide +kernel
theorem dX2_comesBet_9 : decode cX2_comesBet 9 = .ok (.aload_n 0, 1) := by decide +kernel
theorem dX2_comesBet_10 : decode cX2_comesBet 10 = .ok (.aload_n 1, 1) := by decide +kernel
theorem dX2_comesBet_11 : decode cX2_comesBet 11 = .ok (.invokevirtual 54, 3) := by decide +kernel
theorem dX2_comesBet_14 : decode cX2_comesBet 14 = .ok (.ifCond .ne 5, 3) := by decide +kernel
theorem dX2_comesBet_17 : decode cX2_comesBet 17 = .ok (.iconst 0, 1) := by decide +kernel
theorem dX2_comesBet_18 : decode cX2_comesBet 18 = .ok (.ireturn, 1) := by decide +kernel
theorem dX2_comesBet_19 : decode cX2_comesBet 19 = .ok (.aload_n 0, 1) := by decide +kernel
theorem dX2_comesBet_20 : decode cX2_comesBet 20 = .ok (.dup, 1) := by decide +kernel
theorem dX2_comesBet_21 : decode cX2_comesBet 21 = .ok (.getfield 25, 3) := by decide +kernel
theorem dX2_comesBet_24 : decode cX2_comesBet 24 = .ok (.iconst 1, 1) := by decide +kernel
theorem dX2_comesBet_25 : decode cX2_comesBet 25 = .ok (.iadd, 1) := by decide +kernel
theorem dX2_comesBet_26 : decode cX2_comesBet 26 = .ok (.putfield 25, 3) := by decide +kernel
theorem dX2_comesBet_29 : decode cX2_comesBet 29 = .ok (.iconst 0, 1) := by decide +kernel
theorem dX2_comesBet_30 : decode cX2_comesBet 30 = .ok (.istore_n 2, 1) := by decide +kernel
theorem dX2_comesBet_31 : decode cX2_comesBet 31 = .ok (.iload_n 2, 1) := by decide +kernel
theorem dX2_comesBet_32 : decode cX2_comesBet 32 = .ok (.bipush 7, 2) := by decide +kernel
theorem dX2_comesBet_34 : decode cX2_comesBet 34 = .ok (.if_icmp .ge 25, 3) := by decide +kernel
theorem dX2_comesBet_37 : decode cX2_comesBet 37 = .ok (.aload_n 0, 1) := by decide +kernel
theorem dX2_comesBet_38 : decode cX2_comesBet 38 = .ok (.aload_n 0, 1) := by decide +kernel
theorem dX2_comesBet_39 : decode cX2_comesBet 39 = .ok (.getfield 25, 3) := by decide +kernel
theorem dX2_comesBet_42 : decode cX2_comesBet 42 = .ok (.iconst 1, 1) := by decide +kernel
theorem dX2_comesBet_43 : decode cX2_comesBet 43 = .ok (.isub, 1) := by decide +kernel
theorem dX2_comesBet_44 : decode cX2_comesBet 44 = .ok (.iload_n 2, 1) := by decide +kernel
theorem dX2_comesBet_45 : decode cX2_comesBet 45 = .ok (.aload_n 1, 1) := by decide +kernel
theorem dX2_comesBet_46 : decode cX2_comesBet 46 = .ok (.iload_n 2, 1) := by decide +kernel
theorem dX2_comesBet_47 : decode cX2_comesBet 47 = .ok (.invokestatic 36, 3) := by decide +kernel
theorem dX2_comesBet_50 : decode cX2_comesBet 50 = .ok (.invokevirtual 57, 3) := by decide +kernel
theorem dX2_comesBet_53 : decode cX2_comesBet 53 = .ok (.iinc 2 1, 3) := by decide +kernel
theorem dX2_comesBet_56 : decode cX2_comesBet 56 = .ok (.goto (-25), 3) := by decide +kernel
theorem dX2_comesBet_59 : decode cX2_comesBet 59 = .ok (.iconst 1, 1) := by decide +kernel
theorem dX2_comesBet_60 : decode cX2_comesBet 60 = .ok (.ireturn, 1) := by decide +kernel
theorem dX2_comesFund_0 : decode cX2_comesFund 0 = .ok (.iload_n 1, 1) := by decide +kernel
theorem dX2_comesFund_1 : decode cX2_comesFund 1 = .ok (.invokestatic 61, 3) := by decide +kernel
theorem dX2_comesFund_4 : decode cX2_comesFund 4 = .ok (.ifCond .ne 5, 3) := by decide +kernel
theorem dX2_comesFund_7 : decode cX2_comesFund 7 = .ok (.iconst 0, 1) := by decide +kernel
theorem dX2_comesFund_8 : decode cX2_comesFund 8 = .ok (.ireturn, 1) := by decide +kernel
theorem dX2_comesFund_9 : decode cX2_comesFund 9 = .ok (.aload_n 0, 1) := by decide +kernel
theorem dX2_comesFund_10 : decode cX2_comesFund 10 = .ok (.iload_n 1, 1) := by decide +kernel
theorem dX2_comesFund_11 : decode cX2_comesFund 11 = .ok (.iload_n 2, 1) := by decide +kernel
theorem dX2_comesFund_12 : decode cX2_comesFund 12 = .ok (.invokevirtual 64, 3) := by decide +kernel
theorem dX2_comesFund_15 : decode cX2_comesFund 15 = .ok (.iconst 1, 1) := by decide +kernel
theorem dX2_comesFund_16 : decode cX2_comesFund 16 = .ok (.ireturn, 1) := by decide +kernel
theorem dX2_isRight_0 : decode cX2_isRight 0 = .ok (.aload_n 1, 1) := by decide +kernel
theorem dX2_isRight_1 : decode cX2_isRight 1 = .ok (.iconst 5, 1) := by decide +kernel
theorem dX2_isRight_2 : decode cX2_isRight 2 = .ok (.invokestatic 36, 3) := by decide +kernel
theorem dX2_isRight_5 : decode cX2_isRight 5 = .ok (.istore_n 2, 1) := by decide +kernel
theorem dX2_isRight_6 : decode cX2_isRight 6 = .ok (.aload_n 1, 1) := by decide +kernel
theorem dX2_isRight_7 : decode cX2_isRight 7 = .ok (.bipush 6, 2) := by decide +kernel
theorem dX2_isRight_9 : decode cX2_isRight 9 = .ok (.invokestatic 36, 3) := by decide +kernel
theorem dX2_isRight_12 : decode cX2_isRight 12 = .ok (.istore_n 3, 1) := by decide +kernel
theorem dX2_isRight_13 : decode cX2_isRight 13 = .ok (.aload_n 0, 1) := by decide +kernel
theorem dX2_isRight_14 : decode cX2_isRight 14 = .ok (.aload_n 1, 1) := by decide +kernel
theorem dX2_isRight_15 : decode cX2_isRight 15 = .ok (.iconst 1, 1) := by decide +kernel
theorem dX2_isRight_16 : decode cX2_isRight 16 = .ok (.invokestatic 36, 3) := by decide +kernel
theorem dX2_isRight_19 : decode cX2_isRight 19 = .ok (.invokevirtual 68, 3) := by decide +kernel
theorem dX2_isRight_22 : decode cX2_isRight 22 = .ok (.ifCond .eq 47, 3) := by decide +kernel
theorem dX2_isRight_25 : decode cX2_isRight 25 = .ok (.aload_n 0, 1) := by decide +kernel
theorem dX2_isRight_26 : decode cX2_isRight 26 = .ok (.aload_n 1, 1) := by decide +kernel
theorem dX2_isRight_27 : decode cX2_isRight 27 = .ok (.iconst 2, 1) := by decide +kernel
theorem dX2_isRight_28 : decode cX2_isRight 28 = .ok (.invokestatic 36, 3) := by decide +kernel
theorem dX2_isRight_31 : decode cX2_isRight 31 = .ok (.invokevirtual 68, 3) := by decide +kernel
theorem dX2_isRight_34 : decode cX2_isRight 34 = .ok (.ifCond .eq 35, 3) := by decide +kernel
theorem dX2_isRight_37 : decode cX2_isRight 37 = .ok (.aload_n 1, 1) := by decide +kernel
theorem dX2_isRight_38 : decode cX2_isRight 38 = .ok (.iconst 3, 1) := by decide +kernel
theorem dX2_isRight_39 : decode cX2_isRight 39 = .ok (.invokestatic 36, 3) := by decide +kernel
theorem dX2_isRight_42 : decode cX2_isRight 42 = .ok (.iconst 1, 1) := by decide +kernel
theorem dX2_isRight_43 : decode cX2_isRight 43 = .ok (.if_icmp .lt 26, 3) := by decide +kernel
theorem dX2_isRight_46 : decode cX2_isRight 46 = .ok (.iload_n 2, 1) := by decide +kernel
theorem dX2_isRight_47 : decode cX2_isRight 47 = .ok (.invokestatic 61, 3) := by decide +kernel
theorem dX2_isRight_50 : decode cX2_isRight 50 = .ok (.ifCond .eq 19, 3) := by decide +kernel
theorem dX2_isRight_53 : decode cX2_isRight 53 = .ok (.iload_n 3, 1) := by decide +kernel
theorem dX2_isRight_54 : decode cX2_isRight 54 = .ok (.invokestatic 61, 3) := by decide +kernel
theorem dX2_isRight_57 : decode cX2_isRight 57 = .ok (.ifCond .eq 12, 3) := by decide +kernel
theorem dX2_isRight_60 : decode cX2_isRight 60 = .ok (.iload_n 2, 1) := by decide +kernel
theorem dX2_isRight_61 : decode cX2_isRight 61 = .ok (.iload_n 3, 1) := by decide +kernel
theorem dX2_isRight_62 : decode cX2_isRight 62 = .ok (.if_icmp .eq 7, 3) := by decide +kernel
theorem dX2_isRight_65 : decode cX2_isRight 65 = .ok (.iconst 1, 1) := by decide +kernel
theorem dX2_isRight_66 : decode cX2_isRight 66 = .ok (.goto 4, 3) := by decide +kernel
theorem dX2_isRight_69 : decode cX2_isRight 69 = .ok (.iconst 0, 1) := by decide +kernel
theorem dX2_isRight_70 : decode cX2_isRight 70 = .ok (.ireturn, 1) := by decide +kernel
theorem dX2_isMark_0 : decode cX2_isMark 0 = .ok (.iload_n 1, 1) := by decide +kernel
theorem dX2_isMark_1 : decode cX2_isMark 1 = .ok (.bipush 10, 2) := by decide +kernel
theorem dX2_isMark_3 : decode cX2_isMark 3 = .ok (.if_icmp .lt 20, 3) := by decide +kernel
theorem dX2_isMark_6 : decode cX2_isMark 6 = .ok (.iload_n 1, 1) := by decide +kernel
theorem dX2_isMark_7 : decode cX2_isMark 7 = .ok (.bipush 10, 2) := by decide +kernel
theorem dX2_isMark_9 : decode cX2_isMark 9 = .ok (.isub, 1) := by decide +kernel
theorem dX2_isMark_10 : decode cX2_isMark 10 = .ok (.bipush 6, 2) := by decide +kernel
theorem dX2_isMark_12 : decode cX2_isMark 12 = .ok (.if_icmp .ge 7, 3) := by decide +kernel
theorem dX2_isMark_15 : decode cX2_isMark 15 = .ok (.iconst 1, 1) := by decide +kernel
theorem dX2_isMark_16 : decode cX2_isMark 16 = .ok (.goto 20, 3) := by decide +kernel
theorem dX2_isMark_19 : decode cX2_isMark 19 = .ok (.iconst 0, 1) := by decide +kernel
theorem dX2_isMark_20 : decode cX2_isMark 20 = .ok (.goto 16, 3) := by decide +kernel
theorem dX2_isMark_23 : decode cX2_isMark 23 = .ok (.iload_n 1, 1) := by decide +kernel
theorem dX2_isMark_24 : decode cX2_isMark 24 = .ok (.aload_n 0, 1) := by decide +kernel
theorem dX2_isMark_25 : decode cX2_isMark 25 = .ok (.getfield 21, 3) := by decide +kernel
theorem dX2_isMark_28 : decode cX2_isMark 28 = .ok (.if_icmp .ge 7, 3) := by decide +kernel
theorem dX2_isMark_31 : decode cX2_isMark 31 = .ok (.iconst 1, 1) := by decide +kernel
theorem dX2_isMark_32 : decode cX2_isMark 32 = .ok (.goto 4, 3) := by decide +kernel
theorem dX2_isMark_35 : decode cX2_isMark 35 = .ok (.iconst 0, 1) := by decide +kernel
theorem dX2_isMark_36 : decode cX2_isMark 36 = .ok (.ireturn, 1) := by decide +kernel
theorem dX2_hasBet_0 : decode cX2_hasBet 0 = .ok (.iload_n 1, 1) := by decide +kernel
theorem dX2_hasBet_1 : decode cX2_hasBet 1 = .ok (.ifCond .lt 15, 3) := by decide +kernel
theorem dX2_hasBet_4 : decode cX2_hasBet 4 = .ok (.iload_n 1, 1) := by decide +kernel
theorem dX2_hasBet_5 : decode cX2_hasBet 5 = .ok (.aload_n 0, 1) := by decide +kernel
theorem dX2_hasBet_6 : decode cX2_hasBet 6 = .ok (.getfield 25, 3) := by decide +kernel
theorem dX2_hasBet_9 : decode cX2_hasBet 9 = .ok (.if_icmp .ge 7, 3) := by decide +kernel
theorem dX2_hasBet_12 : decode cX2_hasBet 12 = .ok (.iconst 1, 1) := by decide +kernel
theorem dX2_hasBet_13 : decode cX2_hasBet 13 = .ok (.goto 4, 3) := by decide +kernel
theorem dX2_hasBet_16 : decode cX2_hasBet 16 = .ok (.iconst 0, 1) := by decide +kernel
theorem dX2_hasBet_17 : decode cX2_hasBet 17 = .ok (.ireturn, 1) := by decide +kernel
theorem dX2_hasEnd_0 : decode cX2_hasEnd 0 = .ok (.iload_n 1, 1) := by decide +kernel
theorem dX2_hasEnd_1 : decode cX2_hasEnd 1 = .ok (.ifCond .lt 15, 3) := by decide +kernel
theorem dX2_hasEnd_4 : decode cX2_hasEnd 4 = .ok (.iload_n 1, 1) := by decide +kernel
theorem dX2_hasEnd_5 : decode cX2_hasEnd 5 = .ok (.aload_n 0, 1) := by decide +kernel
theorem dX2_hasEnd_6 : decode cX2_hasEnd 6 = .ok (.invokevirtual 71, 3) := by decide +kernel
theorem dX2_hasEnd_9 : decode cX2_hasEnd 9 = .ok (.if_icmp .ge 7, 3) := by decide +kernel
theorem dX2_hasEnd_12 : decode cX2_hasEnd 12 = .ok (.iconst 1, 1) := by decide +kernel
theorem dX2_hasEnd_13 : decode cX2_hasEnd 13 = .ok (.goto 4, 3) := by decide +kernel
theorem dX2_hasEnd_16 : decode cX2_hasEnd 16 = .ok (.iconst 0, 1) := by decide +kernel
theorem dX2_hasEnd_17 : decode cX2_hasEnd 17 = .ok (.ireturn, 1) := by decide +kernel
theorem dX2_ends_0 : decode cX2_ends 0 = .ok (.iconst 1, 1) := by decide +kernel
theorem dX2_ends_1 : decode cX2_ends 1 = .ok (.aload_n 0, 1) := by decide +kernel
theorem dX2_ends_2 : decode cX2_ends 2 = .ok (.getfield 21, 3) := by decide +kernel
theorem dX2_ends_5 : decode cX2_ends 5 = .ok (.ishl, 1) := by decide +kernel
theorem dX2_ends_6 : decode cX2_ends 6 = .ok (.ireturn, 1) := by decide +kernel
theorem dX2_chanceOf_0 : decode cX2_chanceOf 0 = .ok (.aload_n 0, 1) := by decide +kernel
theorem dX2_chanceOf_1 : decode cX2_chanceOf 1 = .ok (.getfield 9, 3) := by decide +kernel
theorem dX2_chanceOf_4 : decode cX2_chanceOf 4 = .ok (.iload_n 1, 1) := by decide +kernel
theorem dX2_chanceOf_5 : decode cX2_chanceOf 5 = .ok (.invokestatic 36, 3) := by decide +kernel
theorem dX2_chanceOf_8 : decode cX2_chanceOf 8 = .ok (.ireturn, 1) := by decide +kernel
theorem dX2_numberOf_0 : decode cX2_numberOf 0 = .ok (.aload_n 0, 1) := by decide +kernel
theorem dX2_numberOf_1 : decode cX2_numberOf 1 = .ok (.getfield 15, 3) := by decide +kernel
theorem dX2_numberOf_4 : decode cX2_numberOf 4 = .ok (.iload_n 1, 1) := by decide +kernel
theorem dX2_numberOf_5 : decode cX2_numberOf 5 = .ok (.bipush 7, 2) := by decide +kernel
theorem dX2_numberOf_7 : decode cX2_numberOf 7 = .ok (.imul, 1) := by decide +kernel
theorem dX2_numberOf_8 : decode cX2_numberOf 8 = .ok (.iload_n 2, 1) := by decide +kernel
theorem dX2_numberOf_9 : decode cX2_numberOf 9 = .ok (.iadd, 1) := by decide +kernel
theorem dX2_numberOf_10 : decode cX2_numberOf 10 = .ok (.invokestatic 36, 3) := by decide +kernel
theorem dX2_numberOf_13 : decode cX2_numberOf 13 = .ok (.ireturn, 1) := by decide +kernel
theorem dX2_change_0 : decode cX2_change 0 = .ok (.aload_n 0, 1) := by decide +kernel
theorem dX2_change_1 : decode cX2_change 1 = .ok (.getfield 15, 3) := by decide +kernel
theorem dX2_change_4 : decode cX2_change 4 = .ok (.iload_n 1, 1) := by decide +kernel
theorem dX2_change_5 : decode cX2_change 5 = .ok (.bipush 7, 2) := by decide +kernel
theorem dX2_change_7 : decode cX2_change 7 = .ok (.imul, 1) := by decide +kernel
theorem dX2_change_8 : decode cX2_change 8 = .ok (.iload_n 2, 1) := by decide +kernel
theorem dX2_change_9 : decode cX2_change 9 = .ok (.iadd, 1) := by decide +kernel
theorem dX2_change_10 : decode cX2_change 10 = .ok (.iload_n 3, 1) := by decide +kernel
theorem dX2_change_11 : decode cX2_change 11 = .ok (.invokestatic 28, 3) := by decide +kernel
theorem dX2_change_14 : decode cX2_change 14 = .ok (.return_, 1) := by decide +kernel
theorem dX2_fundOf_0 : decode cX2_fundOf 0 = .ok (.aload_n 0, 1) := by decide +kernel
theorem dX2_fundOf_1 : decode cX2_fundOf 1 = .ok (.getfield 18, 3) := by decide +kernel
theorem dX2_fundOf_4 : decode cX2_fundOf 4 = .ok (.iload_n 1, 1) := by decide +kernel
theorem dX2_fundOf_5 : decode cX2_fundOf 5 = .ok (.invokestatic 36, 3) := by decide +kernel
theorem dX2_fundOf_8 : decode cX2_fundOf 8 = .ok (.ireturn, 1) := by decide +kernel
theorem dX2_changeFund_0 : decode cX2_changeFund 0 = .ok (.aload_n 0, 1) := by decide +kernel
theorem dX2_changeFund_1 : decode cX2_changeFund 1 = .ok (.getfield 18, 3) := by decide +kernel
theorem dX2_changeFund_4 : decode cX2_changeFund 4 = .ok (.iload_n 1, 1) := by decide +kernel
theorem dX2_changeFund_5 : decode cX2_changeFund 5 = .ok (.iload_n 2, 1) := by decide +kernel
theorem dX2_changeFund_6 : decode cX2_changeFund 6 = .ok (.invokestatic 28, 3) := by decide +kernel
theorem dX2_changeFund_9 : decode cX2_changeFund 9 = .ok (.return_, 1) := by decide +kernel
theorem dX2_allStakes_0 : decode cX2_allStakes 0 = .ok (.iconst 0, 1) := by decide +kernel
theorem dX2_allStakes_1 : decode cX2_allStakes 1 = .ok (.istore_n 1, 1) := by decide +kernel
theorem dX2_allStakes_2 : decode cX2_allStakes 2 = .ok (.iconst 0, 1) := by decide +kernel
theorem dX2_allStakes_3 : decode cX2_allStakes 3 = .ok (.istore_n 2, 1) := by decide +kernel
theorem dX2_allStakes_4 : decode cX2_allStakes 4 = .ok (.iload_n 2, 1) := by decide +kernel
theorem dX2_allStakes_5 : decode cX2_allStakes 5 = .ok (.aload_n 0, 1) := by decide +kernel
theorem dX2_allStakes_6 : decode cX2_allStakes 6 = .ok (.getfield 25, 3) := by decide +kernel
theorem dX2_allStakes_9 : decode cX2_allStakes 9 = .ok (.if_icmp .ge 18, 3) := by decide +kernel
theorem dX2_allStakes_12 : decode cX2_allStakes 12 = .ok (.iload_n 1, 1) := by decide +kernel
theorem dX2_allStakes_13 : decode cX2_allStakes 13 = .ok (.aload_n 0, 1) := by decide +kernel
theorem dX2_allStakes_14 : decode cX2_allStakes 14 = .ok (.iload_n 2, 1) := by decide +kernel
theorem dX2_allStakes_15 : decode cX2_allStakes 15 = .ok (.iconst 3, 1) := by decide +kernel
theorem dX2_allStakes_16 : decode cX2_allStakes 16 = .ok (.invokevirtual 75, 3) := by decide +kernel
theorem dX2_allStakes_19 : decode cX2_allStakes 19 = .ok (.iadd, 1) := by decide +kernel
theorem dX2_allStakes_20 : decode cX2_allStakes 20 = .ok (.istore_n 1, 1) := by decide +kernel
theorem dX2_allStakes_21 : decode cX2_allStakes 21 = .ok (.iinc 2 1, 3) := by decide +kernel
theorem dX2_allStakes_24 : decode cX2_allStakes 24 = .ok (.goto (-20), 3) := by decide +kernel
theorem dX2_allStakes_27 : decode cX2_allStakes 27 = .ok (.iload_n 1, 1) := by decide +kernel
theorem dX2_allStakes_28 : decode cX2_allStakes 28 = .ok (.ireturn, 1) := by decide +kernel
theorem dX2_weightOf_0 : decode cX2_weightOf 0 = .ok (.lconst 1, 1) := by decide +kernel
theorem dX2_weightOf_1 : decode cX2_weightOf 1 = .ok (.lstore_n 2, 1) := by decide +kernel
theorem dX2_weightOf_2 : decode cX2_weightOf 2 = .ok (.iconst 0, 1) := by decide +kernel
theorem dX2_weightOf_3 : decode cX2_weightOf 3 = .ok (.istore 4, 2) := by decide +kernel
theorem dX2_weightOf_5 : decode cX2_weightOf 5 = .ok (.iload 4, 2) := by decide +kernel
theorem dX2_weightOf_7 : decode cX2_weightOf 7 = .ok (.aload_n 0, 1) := by decide +kernel
theorem dX2_weightOf_8 : decode cX2_weightOf 8 = .ok (.getfield 21, 3) := by decide +kernel
theorem dX2_weightOf_11 : decode cX2_weightOf 11 = .ok (.if_icmp .ge 41, 3) := by decide +kernel
theorem dX2_weightOf_14 : decode cX2_weightOf 14 = .ok (.aload_n 0, 1) := by decide +kernel
theorem dX2_weightOf_15 : decode cX2_weightOf 15 = .ok (.iload 4, 2) := by decide +kernel
theorem dX2_weightOf_17 : decode cX2_weightOf 17 = .ok (.invokevirtual 79, 3) := by decide +kernel
theorem dX2_weightOf_20 : decode cX2_weightOf 20 = .ok (.istore 5, 2) := by decide +kernel
theorem dX2_weightOf_22 : decode cX2_weightOf 22 = .ok (.lload_n 2, 1) := by decide +kernel
theorem dX2_weightOf_23 : decode cX2_weightOf 23 = .ok (.iload_n 1, 1) := by decide +kernel
theorem dX2_weightOf_24 : decode cX2_weightOf 24 = .ok (.iload 4, 2) := by decide +kernel
theorem dX2_weightOf_26 : decode cX2_weightOf 26 = .ok (.invokestatic 83, 3) := by decide +kernel
theorem dX2_weightOf_29 : decode cX2_weightOf 29 = .ok (.ifCond .eq 9, 3) := by decide +kernel
theorem dX2_weightOf_32 : decode cX2_weightOf 32 = .ok (.iload 5, 2) := by decide +kernel
theorem dX2_weightOf_34 : decode cX2_weightOf 34 = .ok (.i2l, 1) := by decide +kernel
theorem dX2_weightOf_35 : decode cX2_weightOf 35 = .ok (.goto 9, 3) := by decide +kernel
theorem dX2_weightOf_38 : decode cX2_weightOf 38 = .ok (.bipush 100, 2) := by decide +kernel
theorem dX2_weightOf_40 : decode cX2_weightOf 40 = .ok (.iload 5, 2) := by decide +kernel
theorem dX2_weightOf_42 : decode cX2_weightOf 42 = .ok (.isub, 1) := by decide +kernel
theorem dX2_weightOf_43 : decode cX2_weightOf 43 = .ok (.i2l, 1) := by decide +kernel
theorem dX2_weightOf_44 : decode cX2_weightOf 44 = .ok (.lmul, 1) := by decide +kernel
theorem dX2_weightOf_45 : decode cX2_weightOf 45 = .ok (.lstore_n 2, 1) := by decide +kernel
theorem dX2_weightOf_46 : decode cX2_weightOf 46 = .ok (.iinc 4 1, 3) := by decide +kernel
theorem dX2_weightOf_49 : decode cX2_weightOf 49 = .ok (.goto (-44), 3) := by decide +kernel
theorem dX2_weightOf_52 : decode cX2_weightOf 52 = .ok (.lload_n 2, 1) := by decide +kernel
theorem dX2_weightOf_53 : decode cX2_weightOf 53 = .ok (.lreturn, 1) := by decide +kernel
theorem dX2_wholeWeight_0 : decode cX2_wholeWeight 0 = .ok (.lconst 1, 1) := by decide +kernel
theorem dX2_wholeWeight_1 : decode cX2_wholeWeight 1 = .ok (.lstore_n 1, 1) := by decide +kernel
theorem dX2_wholeWeight_2 : decode cX2_wholeWeight 2 = .ok (.iconst 0, 1) := by decide +kernel
theorem dX2_wholeWeight_3 : decode cX2_wholeWeight 3 = .ok (.istore_n 3, 1) := by decide +kernel
theorem dX2_wholeWeight_4 : decode cX2_wholeWeight 4 = .ok (.iload_n 3, 1) := by decide +kernel
theorem dX2_wholeWeight_5 : decode cX2_wholeWeight 5 = .ok (.aload_n 0, 1) := by decide +kernel
theorem dX2_wholeWeight_6 : decode cX2_wholeWeight 6 = .ok (.getfield 21, 3) := by decide +kernel
theorem dX2_wholeWeight_9 : decode cX2_wholeWeight 9 = .ok (.if_icmp .ge 15, 3) := by decide +kernel
theorem dX2_wholeWeight_12 : decode cX2_wholeWeight 12 = .ok (.lload_n 1, 1) := by decide +kernel
theorem dX2_wholeWeight_13 : decode cX2_wholeWeight 13 = .ok (.ldc2_w 86, 3) := by decide +kernel
theorem dX2_wholeWeight_16 : decode cX2_wholeWeight 16 = .ok (.lmul, 1) := by decide +kernel
theorem dX2_wholeWeight_17 : decode cX2_wholeWeight 17 = .ok (.lstore_n 1, 1) := by decide +kernel
theorem dX2_wholeWeight_18 : decode cX2_wholeWeight 18 = .ok (.iinc 3 1, 3) := by decide +kernel
theorem dX2_wholeWeight_21 : decode cX2_wholeWeight 21 = .ok (.goto (-17), 3) := by decide +kernel
theorem dX2_wholeWeight_24 : decode cX2_wholeWeight 24 = .ok (.lload_n 1, 1) := by decide +kernel
theorem dX2_wholeWeight_25 : decode cX2_wholeWeight 25 = .ok (.lreturn, 1) := by decide +kernel
theorem dX3_init_0 : decode cX3_init 0 = .ok (.aload_n 0, 1) := by decide +kernel
theorem dX3_init_1 : decode cX3_init 1 = .ok (.invokespecial 1, 3) := by decide +kernel
theorem dX3_init_4 : decode cX3_init 4 = .ok (.return_, 1) := by decide +kernel
theorem dX3_isWonBy_0 : decode cX3_isWonBy 0 = .ok (.iload_n 1, 1) := by decide +kernel
theorem dX3_isWonBy_1 : decode cX3_isWonBy 1 = .ok (.ifCond .eq 11, 3) := by decide +kernel
theorem dX3_isWonBy_4 : decode cX3_isWonBy 4 = .ok (.iload_n 2, 1) := by decide +kernel
theorem dX3_isWonBy_5 : decode cX3_isWonBy 5 = .ok (.ifCond .eq 7, 3) := by decide +kernel
theorem dX3_isWonBy_8 : decode cX3_isWonBy 8 = .ok (.iconst 1, 1) := by decide +kernel
theorem dX3_isWonBy_9 : decode cX3_isWonBy 9 = .ok (.goto 4, 3) := by decide +kernel
theorem dX3_isWonBy_12 : decode cX3_isWonBy 12 = .ok (.iconst 0, 1) := by decide +kernel
theorem dX3_isWonBy_13 : decode cX3_isWonBy 13 = .ok (.ireturn, 1) := by decide +kernel
theorem dX3_looksAtBoth_0 : decode cX3_looksAtBoth 0 = .ok (.iconst 1, 1) := by decide +kernel
theorem dX3_looksAtBoth_1 : decode cX3_looksAtBoth 1 = .ok (.ireturn, 1) := by decide +kernel
theorem dX4_init_0 : decode cX4_init 0 = .ok (.aload_n 0, 1) := by decide +kernel
theorem dX4_init_1 : decode cX4_init 1 = .ok (.invokespecial 1, 3) := by decide +kernel
theorem dX4_init_4 : decode cX4_init 4 = .ok (.return_, 1) := by decide +kernel
theorem dX4_isWonBy_0 : decode cX4_isWonBy 0 = .ok (.iload_n 1, 1) := by decide +kernel
theorem dX4_isWonBy_1 : decode cX4_isWonBy 1 = .ok (.ifCond .ne 7, 3) := by decide +kernel
theorem dX4_isWonBy_4 : decode cX4_isWonBy 4 = .ok (.iload_n 2, 1) := by decide +kernel
theorem dX4_isWonBy_5 : decode cX4_isWonBy 5 = .ok (.ifCond .eq 7, 3) := by decide +kernel
theorem dX4_isWonBy_8 : decode cX4_isWonBy 8 = .ok (.iconst 1, 1) := by decide +kernel
theorem dX4_isWonBy_9 : decode cX4_isWonBy 9 = .ok (.goto 4, 3) := by decide +kernel
theorem dX4_isWonBy_12 : decode cX4_isWonBy 12 = .ok (.iconst 0, 1) := by decide +kernel
theorem dX4_isWonBy_13 : decode cX4_isWonBy 13 = .ok (.ireturn, 1) := by decide +kernel
theorem dX5_init_0 : decode cX5_init 0 = .ok (.aload_n 0, 1) := by decide +kernel
theorem dX5_init_1 : decode cX5_init 1 = .ok (.invokespecial 1, 3) := by decide +kernel
theorem dX5_init_4 : decode cX5_init 4 = .ok (.return_, 1) := by decide +kernel
theorem dX5_isWonBy_0 : decode cX5_isWonBy 0 = .ok (.iload_n 1, 1) := by decide +kernel
theorem dX5_isWonBy_1 : decode cX5_isWonBy 1 = .ok (.ifCond .ne 11, 3) := by decide +kernel
theorem dX5_isWonBy_4 : decode cX5_isWonBy 4 = .ok (.iload_n 2, 1) := by decide +kernel
theorem dX5_isWonBy_5 : decode cX5_isWonBy 5 = .ok (.ifCond .ne 7, 3) := by decide +kernel
theorem dX5_isWonBy_8 : decode cX5_isWonBy 8 = .ok (.iconst 1, 1) := by decide +kernel
theorem dX5_isWonBy_9 : decode cX5_isWonBy 9 = .ok (.goto 4, 3) := by decide +kernel
theorem dX5_isWonBy_12 : decode cX5_isWonBy 12 = .ok (.iconst 0, 1) := by decide +kernel
theorem dX5_isWonBy_13 : decode cX5_isWonBy 13 = .ok (.ireturn, 1) := by decide +kernel
theorem dX6_init_0 : decode cX6_init 0 = .ok (.aload_n 0, 1) := by decide +kernel
theorem dX6_init_1 : decode cX6_init 1 = .ok (.invokespecial 1, 3) := by decide +kernel
theorem dX6_init_4 : decode cX6_init 4 = .ok (.return_, 1) := by decide +kernel
theorem dX6_isWonBy_0 : decode cX6_isWonBy 0 = .ok (.iload_n 1, 1) := by decide +kernel
theorem dX6_isWonBy_1 : decode cX6_isWonBy 1 = .ok (.iload_n 2, 1) := by decide +kernel
theorem dX6_isWonBy_2 : decode cX6_isWonBy 2 = .ok (.if_icmp .eq 7, 3) := by decide +kernel
theorem dX6_isWonBy_5 : decode cX6_isWonBy 5 = .ok (.iconst 1, 1) := by decide +kernel
theorem dX6_isWonBy_6 : decode cX6_isWonBy 6 = .ok (.goto 4, 3) := by decide +kernel
theorem dX6_isWonBy_9 : decode cX6_isWonBy 9 = .ok (.iconst 0, 1) := by decide +kernel
theorem dX6_isWonBy_10 : decode cX6_isWonBy 10 = .ok (.ireturn, 1) := by decide +kernel
theorem dX7_init_0 : decode cX7_init 0 = .ok (.aload_n 0, 1) := by decide +kernel
theorem dX7_init_1 : decode cX7_init 1 = .ok (.invokespecial 1, 3) := by decide +kernel
theorem dX7_init_4 : decode cX7_init 4 = .ok (.return_, 1) := by decide +kernel
theorem dX7_isWonBy_0 : decode cX7_isWonBy 0 = .ok (.iload_n 1, 1) := by decide +kernel
theorem dX7_isWonBy_1 : decode cX7_isWonBy 1 = .ok (.ireturn, 1) := by decide +kernel
theorem dX7_looksAtBoth_0 : decode cX7_looksAtBoth 0 = .ok (.iconst 0, 1) := by decide +kernel
theorem dX7_looksAtBoth_1 : decode cX7_looksAtBoth 1 = .ok (.ireturn, 1) := by decide +kernel
theorem dX8_init_0 : decode cX8_init 0 = .ok (.aload_n 0, 1) := by decide +kernel
theorem dX8_init_1 : decode cX8_init 1 = .ok (.invokespecial 3, 3) := by decide +kernel
theorem dX8_init_4 : decode cX8_init 4 = .ok (.aload_n 0, 1) := by decide +kernel
theorem dX8_init_5 : decode cX8_init 5 = .ok (.bipush 7, 2) := by decide +kernel
theorem dX8_init_7 : decode cX8_init 7 = .ok (.newarray .int, 2) := by decide +kernel
theorem dX8_init_9 : decode cX8_init 9 = .ok (.putfield 9, 3) := by decide +kernel
theorem dX8_init_12 : decode cX8_init 12 = .ok (.aload_n 0, 1) := by decide +kernel
theorem dX8_init_13 : decode cX8_init 13 = .ok (.iconst 0, 1) := by decide +kernel
theorem dX8_init_14 : decode cX8_init 14 = .ok (.putfield 15, 3) := by decide +kernel
theorem dX8_init_17 : decode cX8_init 17 = .ok (.aload_n 0, 1) := by decide +kernel
theorem dX8_init_18 : decode cX8_init 18 = .ok (.iconst 0, 1) := by decide +kernel
theorem dX8_init_19 : decode cX8_init 19 = .ok (.putfield 19, 3) := by decide +kernel
theorem dX8_init_22 : decode cX8_init 22 = .ok (.aload_n 0, 1) := by decide +kernel
theorem dX8_init_23 : decode cX8_init 23 = .ok (.aload_n 1, 1) := by decide +kernel
theorem dX8_init_24 : decode cX8_init 24 = .ok (.putfield 23, 3) := by decide +kernel
theorem dX8_init_27 : decode cX8_init 27 = .ok (.return_, 1) := by decide +kernel
theorem dX8_begin_0 : decode cX8_begin 0 = .ok (.aload_n 0, 1) := by decide +kernel
theorem dX8_begin_1 : decode cX8_begin 1 = .ok (.iconst 0, 1) := by decide +kernel
theorem dX8_begin_2 : decode cX8_begin 2 = .ok (.putfield 15, 3) := by decide +kernel
theorem dX8_begin_5 : decode cX8_begin 5 = .ok (.aload_n 0, 1) := by decide +kernel
theorem dX8_begin_6 : decode cX8_begin 6 = .ok (.iconst 0, 1) := by decide +kernel
theorem dX8_begin_7 : decode cX8_begin 7 = .ok (.putfield 19, 3) := by decide +kernel
theorem dX8_begin_10 : decode cX8_begin 10 = .ok (.return_, 1) := by decide +kernel
theorem dX8_goesOn_0 : decode cX8_goesOn 0 = .ok (.aload_n 0, 1) := by decide +kernel
theorem dX8_goesOn_1 : decode cX8_goesOn 1 = .ok (.getfield 19, 3) := by decide +kernel
theorem dX8_goesOn_4 : decode cX8_goesOn 4 = .ok (.ifCond .ne 21, 3) := by decide +kernel
theorem dX8_goesOn_7 : decode cX8_goesOn 7 = .ok (.aload_n 0, 1) := by decide +kernel
theorem dX8_goesOn_8 : decode cX8_goesOn 8 = .ok (.getfield 15, 3) := by decide +kernel
theorem dX8_goesOn_11 : decode cX8_goesOn 11 = .ok (.aload_n 0, 1) := by decide +kernel
theorem dX8_goesOn_12 : decode cX8_goesOn 12 = .ok (.getfield 23, 3) := by decide +kernel
theorem dX8_goesOn_15 : decode cX8_goesOn 15 = .ok (.getfield 27, 3) := by decide +kernel
theorem dX8_goesOn_18 : decode cX8_goesOn 18 = .ok (.if_icmp .ge 7, 3) := by decide +kernel
theorem dX8_goesOn_21 : decode cX8_goesOn 21 = .ok (.iconst 1, 1) := by decide +kernel
theorem dX8_goesOn_22 : decode cX8_goesOn 22 = .ok (.goto 4, 3) := by decide +kernel
theorem dX8_goesOn_25 : decode cX8_goesOn 25 = .ok (.iconst 0, 1) := by decide +kernel
theorem dX8_goesOn_26 : decode cX8_goesOn 26 = .ok (.ireturn, 1) := by decide +kernel
theorem dX8_faultPlace_0 : decode cX8_faultPlace 0 = .ok (.aload_n 0, 1) := by decide +kernel
theorem dX8_faultPlace_1 : decode cX8_faultPlace 1 = .ok (.invokevirtual 32, 3) := by decide +kernel
theorem dX8_faultPlace_4 : decode cX8_faultPlace 4 = .ok (.aload_n 0, 1) := by decide +kernel
theorem dX8_faultPlace_5 : decode cX8_faultPlace 5 = .ok (.invokevirtual 35, 3) := by decide +kernel
theorem dX8_faultPlace_8 : decode cX8_faultPlace 8 = .ok (.pop, 1) := by decide +kernel
theorem dX8_faultPlace_9 : decode cX8_faultPlace 9 = .ok (.iconst 1, 1) := by decide +kernel
theorem dX8_faultPlace_10 : decode cX8_faultPlace 10 = .ok (.istore_n 1, 1) := by decide +kernel
theorem dX8_faultPlace_11 : decode cX8_faultPlace 11 = .ok (.iload_n 1, 1) := by decide +kernel
theorem dX8_faultPlace_12 : decode cX8_faultPlace 12 = .ok (.bipush 80, 2) := by decide +kernel
theorem dX8_faultPlace_14 : decode cX8_faultPlace 14 = .ok (.if_icmp .ge 21, 3) := by decide +kernel
theorem dX8_faultPlace_17 : decode cX8_faultPlace 17 = .ok (.aload_n 0, 1) := by decide +kernel
theorem dX8_faultPlace_18 : decode cX8_faultPlace 18 = .ok (.invokevirtual 39, 3) := by decide +kernel
theorem dX8_faultPlace_21 : decode cX8_faultPlace 21 = .ok (.ifCond .eq 14, 3) := by decide +kernel
theorem dX8_faultPlace_24 : decode cX8_faultPlace 24 = .ok (.aload_n 0, 1) := by decide +kernel
theorem dX8_faultPlace_25 : decode cX8_faultPlace 25 = .ok (.invokevirtual 35, 3) := by decide +kernel
theorem dX8_faultPlace_28 : decode cX8_faultPlace 28 = .ok (.pop, 1) := by decide +kernel
theorem dX8_faultPlace_29 : decode cX8_faultPlace 29 = .ok (.iinc 1 1, 3) := by decide +kernel
theorem dX8_faultPlace_32 : decode cX8_faultPlace 32 = .ok (.goto (-21), 3) := by decide +kernel
theorem dX8_faultPlace_35 : decode cX8_faultPlace 35 = .ok (.aload_n 0, 1) := by decide +kernel
theorem dX8_faultPlace_36 : decode cX8_faultPlace 36 = .ok (.getfield 19, 3) := by decide +kernel
theorem dX8_faultPlace_39 : decode cX8_faultPlace 39 = .ok (.ifCond .eq 10, 3) := by decide +kernel
theorem dX8_faultPlace_42 : decode cX8_faultPlace 42 = .ok (.aload_n 0, 1) := by decide +kernel
theorem dX8_faultPlace_43 : decode cX8_faultPlace 43 = .ok (.getfield 15, 3) := by decide +kernel
theorem dX8_faultPlace_46 : decode cX8_faultPlace 46 = .ok (.goto 5, 3) := by decide +kernel
theorem dX8_faultPlace_49 : decode cX8_faultPlace 49 = .ok (.bipush (-9), 2) := by decide +kernel
theorem dX8_faultPlace_51 : decode cX8_faultPlace 51 = .ok (.ireturn, 1) := by decide +kernel
theorem dX8_readStatement_0 : decode cX8_readStatement 0 = .ok (.aload_n 0, 1) := by decide +kernel
theorem dX8_readStatement_1 : decode cX8_readStatement 1 = .ok (.ldc 43, 2) := by decide +kernel
theorem dX8_readStatement_3 : decode cX8_readStatement 3 = .ok (.invokevirtual 45, 3) := by decide +kernel
theorem dX8_readStatement_6 : decode cX8_readStatement 6 = .ok (.istore_n 1, 1) := by decide +kernel
theorem dX8_readStatement_7 : decode cX8_readStatement 7 = .ok (.iload_n 1, 1) := by decide +kernel
theorem dX8_readStatement_8 : decode cX8_readStatement 8 = .ok (.ifCond .ne 18, 3) := by decide +kernel
theorem dX8_readStatement_11 : decode cX8_readStatement 11 = .ok (.aload_n 0, 1) := by decide +kernel
theorem dX8_readStatement_12 : decode cX8_readStatement 12 = .ok (.getfield 9, 3) := by decide +kernel
theorem dX8_readStatement_15 : decode cX8_readStatement 15 = .ok (.iconst 0, 1) := by decide +kernel
theorem dX8_readStatement_16 : decode cX8_readStatement 16 = .ok (.aload_n 0, 1) := by decide +kernel
theorem dX8_readStatement_17 : decode cX8_readStatement 17 = .ok (.invokevirtual 49, 3) := by decide +kernel
theorem dX8_readStatement_20 : decode cX8_readStatement 20 = .ok (.invokestatic 52, 3) := by decide +kernel
theorem dX8_readStatement_23 : decode cX8_readStatement 23 = .ok (.goto 48, 3) := by decide +kernel
theorem dX8_readStatement_26 : decode cX8_readStatement 26 = .ok (.iload_n 1, 1) := by decide +kernel
theorem dX8_readStatement_27 : decode cX8_readStatement 27 = .ok (.iconst 1, 1) := by decide +kernel
theorem dX8_readStatement_28 : decode cX8_readStatement 28 = .ok (.if_icmp .ne 10, 3) := by decide +kernel
theorem dX8_readStatement_31 : decode cX8_readStatement 31 = .ok (.aload_n 0, 1) := by decide +kernel
theorem dX8_readStatement_32 : decode cX8_readStatement 32 = .ok (.invokevirtual 56, 3) := by decide +kernel
theorem dX8_readStatement_35 : decode cX8_readStatement 35 = .ok (.goto 36, 3) := by decide +kernel
theorem dX8_readStatement_38 : decode cX8_readStatement 38 = .ok (.aload_n 0, 1) := by decide +kernel
theorem dX8_readStatement_39 : decode cX8_readStatement 39 = .ok (.getfield 9, 3) := by decide +kernel
theorem dX8_readStatement_42 : decode cX8_readStatement 42 = .ok (.iconst 0, 1) := by decide +kernel
theorem dX8_readStatement_43 : decode cX8_readStatement 43 = .ok (.aload_n 0, 1) := by decide +kernel
theorem dX8_readStatement_44 : decode cX8_readStatement 44 = .ok (.ldc 59, 2) := by decide +kernel
theorem dX8_readStatement_46 : decode cX8_readStatement 46 = .ok (.invokevirtual 45, 3) := by decide +kernel
theorem dX8_readStatement_49 : decode cX8_readStatement 49 = .ok (.invokestatic 52, 3) := by decide +kernel
theorem dX8_readStatement_52 : decode cX8_readStatement 52 = .ok (.aload_n 0, 1) := by decide +kernel
theorem dX8_readStatement_53 : decode cX8_readStatement 53 = .ok (.ldc 61, 2) := by decide +kernel
theorem dX8_readStatement_55 : decode cX8_readStatement 55 = .ok (.invokevirtual 45, 3) := by decide +kernel
theorem dX8_readStatement_58 : decode cX8_readStatement 58 = .ok (.pop, 1) := by decide +kernel
theorem dX8_readStatement_59 : decode cX8_readStatement 59 = .ok (.aload_n 0, 1) := by decide +kernel
theorem dX8_readStatement_60 : decode cX8_readStatement 60 = .ok (.getfield 9, 3) := by decide +kernel
theorem dX8_readStatement_63 : decode cX8_readStatement 63 = .ok (.iconst 1, 1) := by decide +kernel
theorem dX8_readStatement_64 : decode cX8_readStatement 64 = .ok (.aload_n 0, 1) := by decide +kernel
theorem dX8_readStatement_65 : decode cX8_readStatement 65 = .ok (.invokevirtual 49, 3) := by decide +kernel
theorem dX8_readStatement_68 : decode cX8_readStatement 68 = .ok (.invokestatic 52, 3) := by decide +kernel
theorem dX8_readStatement_71 : decode cX8_readStatement 71 = .ok (.aload_n 0, 1) := by decide +kernel
theorem dX8_readStatement_72 : decode cX8_readStatement 72 = .ok (.ldc 63, 2) := by decide +kernel
theorem dX8_readStatement_74 : decode cX8_readStatement 74 = .ok (.invokevirtual 45, 3) := by decide +kernel
theorem dX8_readStatement_77 : decode cX8_readStatement 77 = .ok (.pop, 1) := by decide +kernel
theorem dX8_readStatement_78 : decode cX8_readStatement 78 = .ok (.iload_n 1, 1) := by decide +kernel
theorem dX8_readStatement_79 : decode cX8_readStatement 79 = .ok (.ireturn, 1) := by decide +kernel
theorem dX8_readBet_0 : decode cX8_readBet 0 = .ok (.aload_n 0, 1) := by decide +kernel
theorem dX8_readBet_1 : decode cX8_readBet 1 = .ok (.getfield 9, 3) := by decide +kernel
theorem dX8_readBet_4 : decode cX8_readBet 4 = .ok (.iconst 0, 1) := by decide +kernel
theorem dX8_readBet_5 : decode cX8_readBet 5 = .ok (.aload_n 0, 1) := by decide +kernel
theorem dX8_readBet_6 : decode cX8_readBet 6 = .ok (.ldc 65, 2) := by decide +kernel
theorem dX8_readBet_8 : decode cX8_readBet 8 = .ok (.invokevirtual 45, 3) := by decide +kernel
theorem dX8_readBet_11 : decode cX8_readBet 11 = .ok (.invokestatic 52, 3) := by decide +kernel
theorem dX8_readBet_14 : decode cX8_readBet 14 = .ok (.aload_n 0, 1) := by decide +kernel
theorem dX8_readBet_15 : decode cX8_readBet 15 = .ok (.getfield 9, 3) := by decide +kernel
theorem dX8_readBet_18 : decode cX8_readBet 18 = .ok (.iconst 1, 1) := by decide +kernel
theorem dX8_readBet_19 : decode cX8_readBet 19 = .ok (.aload_n 0, 1) := by decide +kernel
theorem dX8_readBet_20 : decode cX8_readBet 20 = .ok (.invokevirtual 67, 3) := by decide +kernel
theorem dX8_readBet_23 : decode cX8_readBet 23 = .ok (.invokestatic 52, 3) := by decide +kernel
theorem dX8_readBet_26 : decode cX8_readBet 26 = .ok (.aload_n 0, 1) := by decide +kernel
theorem dX8_readBet_27 : decode cX8_readBet 27 = .ok (.getfield 9, 3) := by decide +kernel
theorem dX8_readBet_30 : decode cX8_readBet 30 = .ok (.iconst 2, 1) := by decide +kernel
theorem dX8_readBet_31 : decode cX8_readBet 31 = .ok (.aload_n 0, 1) := by decide +kernel
theorem dX8_readBet_32 : decode cX8_readBet 32 = .ok (.invokevirtual 67, 3) := by decide +kernel
theorem dX8_readBet_35 : decode cX8_readBet 35 = .ok (.invokestatic 52, 3) := by decide +kernel
theorem dX8_readBet_38 : decode cX8_readBet 38 = .ok (.aload_n 0, 1) := by decide +kernel
theorem dX8_readBet_39 : decode cX8_readBet 39 = .ok (.getfield 9, 3) := by decide +kernel
theorem dX8_readBet_42 : decode cX8_readBet 42 = .ok (.iconst 3, 1) := by decide +kernel
theorem dX8_readBet_43 : decode cX8_readBet 43 = .ok (.aload_n 0, 1) := by decide +kernel
theorem dX8_readBet_44 : decode cX8_readBet 44 = .ok (.invokevirtual 49, 3) := by decide +kernel
theorem dX8_readBet_47 : decode cX8_readBet 47 = .ok (.invokestatic 52, 3) := by decide +kernel
theorem dX8_readBet_50 : decode cX8_readBet 50 = .ok (.aload_n 0, 1) := by decide +kernel
theorem dX8_readBet_51 : decode cX8_readBet 51 = .ok (.ldc 61, 2) := by decide +kernel
theorem dX8_readBet_53 : decode cX8_readBet 53 = .ok (.invokevirtual 45, 3) := by decide +kernel
theorem dX8_readBet_56 : decode cX8_readBet 56 = .ok (.pop, 1) := by decide +kernel
theorem dX8_readBet_57 : decode cX8_readBet 57 = .ok (.aload_n 0, 1) := by decide +kernel
theorem dX8_readBet_58 : decode cX8_readBet 58 = .ok (.getfield 9, 3) := by decide +kernel
theorem dX8_readBet_61 : decode cX8_readBet 61 = .ok (.iconst 4, 1) := by decide +kernel
theorem dX8_readBet_62 : decode cX8_readBet 62 = .ok (.aload_n 0, 1) := by decide +kernel
theorem dX8_readBet_63 : decode cX8_readBet 63 = .ok (.ldc 59, 2) := by decide +kernel
theorem dX8_readBet_65 : decode cX8_readBet 65 = .ok (.invokevirtual 45, 3) := by decide +kernel
theorem dX8_readBet_68 : decode cX8_readBet 68 = .ok (.invokestatic 52, 3) := by decide +kernel
theorem dX8_readBet_71 : decode cX8_readBet 71 = .ok (.aload_n 0, 1) := by decide +kernel
theorem dX8_readBet_72 : decode cX8_readBet 72 = .ok (.getfield 9, 3) := by decide +kernel
theorem dX8_readBet_75 : decode cX8_readBet 75 = .ok (.iconst 5, 1) := by decide +kernel
theorem dX8_readBet_76 : decode cX8_readBet 76 = .ok (.aload_n 0, 1) := by decide +kernel
theorem dX8_readBet_77 : decode cX8_readBet 77 = .ok (.ldc 59, 2) := by decide +kernel
theorem dX8_readBet_79 : decode cX8_readBet 79 = .ok (.invokevirtual 45, 3) := by decide +kernel
theorem dX8_readBet_82 : decode cX8_readBet 82 = .ok (.invokestatic 52, 3) := by decide +kernel
theorem dX8_readBet_85 : decode cX8_readBet 85 = .ok (.aload_n 0, 1) := by decide +kernel
theorem dX8_readBet_86 : decode cX8_readBet 86 = .ok (.getfield 9, 3) := by decide +kernel
theorem dX8_readBet_89 : decode cX8_readBet 89 = .ok (.bipush 6, 2) := by decide +kernel
theorem dX8_readBet_91 : decode cX8_readBet 91 = .ok (.aload_n 0, 1) := by decide +kernel
theorem dX8_readBet_92 : decode cX8_readBet 92 = .ok (.ldc 59, 2) := by decide +kernel
theorem dX8_readBet_94 : decode cX8_readBet 94 = .ok (.invokevirtual 45, 3) := by decide +kernel
theorem dX8_readBet_97 : decode cX8_readBet 97 = .ok (.invokestatic 52, 3) := by decide +kernel
theorem dX8_readBet_100 : decode cX8_readBet 100 = .ok (.return_, 1) := by decide +kernel
theorem dX8_readMark_0 : decode cX8_readMark 0 = .ok (.aload_n 0, 1) := by decide +kernel
theorem dX8_readMark_1 : decode cX8_readMark 1 = .ok (.ldc 70, 2) := by decide +kernel
theorem dX8_readMark_3 : decode cX8_readMark 3 = .ok (.invokevirtual 45, 3) := by decide +kernel
theorem dX8_readMark_6 : decode cX8_readMark 6 = .ok (.bipush 10, 2) := by decide +kernel
theorem dX8_readMark_8 : decode cX8_readMark 8 = .ok (.imul, 1) := by decide +kernel
theorem dX8_readMark_9 : decode cX8_readMark 9 = .ok (.istore_n 1, 1) := by decide +kernel
theorem dX8_readMark_10 : decode cX8_readMark 10 = .ok (.iload_n 1, 1) := by decide +kernel
theorem dX8_readMark_11 : decode cX8_readMark 11 = .ok (.aload_n 0, 1) := by decide +kernel
theorem dX8_readMark_12 : decode cX8_readMark 12 = .ok (.ldc 59, 2) := by decide +kernel
theorem dX8_readMark_14 : decode cX8_readMark 14 = .ok (.invokevirtual 45, 3) := by decide +kernel
theorem dX8_readMark_17 : decode cX8_readMark 17 = .ok (.iadd, 1) := by decide +kernel
theorem dX8_readMark_18 : decode cX8_readMark 18 = .ok (.ireturn, 1) := by decide +kernel
theorem dX8_oneOrTwoDigits_0 : decode cX8_oneOrTwoDigits 0 = .ok (.aload_n 0, 1) := by decide +kernel
theorem dX8_oneOrTwoDigits_1 : decode cX8_oneOrTwoDigits 1 = .ok (.ldc 59, 2) := by decide +kernel
theorem dX8_oneOrTwoDigits_3 : decode cX8_oneOrTwoDigits 3 = .ok (.invokevirtual 45, 3) := by decide +kernel
theorem dX8_oneOrTwoDigits_6 : decode cX8_oneOrTwoDigits 6 = .ok (.istore_n 1, 1) := by decide +kernel
theorem dX8_oneOrTwoDigits_7 : decode cX8_oneOrTwoDigits 7 = .ok (.aload_n 0, 1) := by decide +kernel
theorem dX8_oneOrTwoDigits_8 : decode cX8_oneOrTwoDigits 8 = .ok (.ldc 59, 2) := by decide +kernel
theorem dX8_oneOrTwoDigits_10 : decode cX8_oneOrTwoDigits 10 = .ok (.invokevirtual 72, 3) := by decide +kernel
theorem dX8_oneOrTwoDigits_13 : decode cX8_oneOrTwoDigits 13 = .ok (.ifCond .lt 17, 3) := by decide +kernel
theorem dX8_oneOrTwoDigits_16 : decode cX8_oneOrTwoDigits 16 = .ok (.iload_n 1, 1) := by decide +kernel
theorem dX8_oneOrTwoDigits_17 : decode cX8_oneOrTwoDigits 17 = .ok (.bipush 10, 2) := by decide +kernel
theorem dX8_oneOrTwoDigits_19 : decode cX8_oneOrTwoDigits 19 = .ok (.imul, 1) := by decide +kernel
theorem dX8_oneOrTwoDigits_20 : decode cX8_oneOrTwoDigits 20 = .ok (.aload_n 0, 1) := by decide +kernel
theorem dX8_oneOrTwoDigits_21 : decode cX8_oneOrTwoDigits 21 = .ok (.ldc 59, 2) := by decide +kernel
theorem dX8_oneOrTwoDigits_23 : decode cX8_oneOrTwoDigits 23 = .ok (.invokevirtual 45, 3) := by decide +kernel
theorem dX8_oneOrTwoDigits_26 : decode cX8_oneOrTwoDigits 26 = .ok (.iadd, 1) := by decide +kernel
theorem dX8_oneOrTwoDigits_27 : decode cX8_oneOrTwoDigits 27 = .ok (.goto 4, 3) := by decide +kernel
theorem dX8_oneOrTwoDigits_30 : decode cX8_oneOrTwoDigits 30 = .ok (.iload_n 1, 1) := by decide +kernel
theorem dX8_oneOrTwoDigits_31 : decode cX8_oneOrTwoDigits 31 = .ok (.ireturn, 1) := by decide +kernel
theorem dX8_oneOf_0 : decode cX8_oneOf 0 = .ok (.aload_n 0, 1) := by decide +kernel
theorem dX8_oneOf_1 : decode cX8_oneOf 1 = .ok (.aload_n 1, 1) := by decide +kernel
theorem dX8_oneOf_2 : decode cX8_oneOf 2 = .ok (.invokevirtual 72, 3) := by decide +kernel
theorem dX8_oneOf_5 : decode cX8_oneOf 5 = .ok (.istore_n 2, 1) := by decide +kernel
theorem dX8_oneOf_6 : decode cX8_oneOf 6 = .ok (.iload_n 2, 1) := by decide +kernel
theorem dX8_oneOf_7 : decode cX8_oneOf 7 = .ok (.ifCond .ge 10, 3) := by decide +kernel
theorem dX8_oneOf_10 : decode cX8_oneOf 10 = .ok (.aload_n 0, 1) := by decide +kernel
theorem dX8_oneOf_11 : decode cX8_oneOf 11 = .ok (.iconst 1, 1) := by decide +kernel
theorem dX8_oneOf_12 : decode cX8_oneOf 12 = .ok (.putfield 19, 3) := by decide +kernel
theorem dX8_oneOf_15 : decode cX8_oneOf 15 = .ok (.iconst 0, 1) := by decide +kernel
theorem dX8_oneOf_16 : decode cX8_oneOf 16 = .ok (.ireturn, 1) := by decide +kernel
theorem dX8_oneOf_17 : decode cX8_oneOf 17 = .ok (.aload_n 0, 1) := by decide +kernel
theorem dX8_oneOf_18 : decode cX8_oneOf 18 = .ok (.dup, 1) := by decide +kernel
theorem dX8_oneOf_19 : decode cX8_oneOf 19 = .ok (.getfield 15, 3) := by decide +kernel
theorem dX8_oneOf_22 : decode cX8_oneOf 22 = .ok (.iconst 1, 1) := by decide +kernel
theorem dX8_oneOf_23 : decode cX8_oneOf 23 = .ok (.iadd, 1) := by decide +kernel
theorem dX8_oneOf_24 : decode cX8_oneOf 24 = .ok (.putfield 15, 3) := by decide +kernel
theorem dX8_oneOf_27 : decode cX8_oneOf 27 = .ok (.iload_n 2, 1) := by decide +kernel
theorem dX8_oneOf_28 : decode cX8_oneOf 28 = .ok (.ireturn, 1) := by decide +kernel
theorem dX8_nextIn_0 : decode cX8_nextIn 0 = .ok (.aload_n 0, 1) := by decide +kernel
theorem dX8_nextIn_1 : decode cX8_nextIn 1 = .ok (.invokevirtual 39, 3) := by decide +kernel
theorem dX8_nextIn_4 : decode cX8_nextIn 4 = .ok (.ifCond .eq 22, 3) := by decide +kernel
theorem dX8_nextIn_7 : decode cX8_nextIn 7 = .ok (.aload_n 1, 1) := by decide +kernel
theorem dX8_nextIn_8 : decode cX8_nextIn 8 = .ok (.aload_n 0, 1) := by decide +kernel
theorem dX8_nextIn_9 : decode cX8_nextIn 9 = .ok (.getfield 23, 3) := by decide +kernel
theorem dX8_nextIn_12 : decode cX8_nextIn 12 = .ok (.aload_n 0, 1) := by decide +kernel
theorem dX8_nextIn_13 : decode cX8_nextIn 13 = .ok (.getfield 15, 3) := by decide +kernel
theorem dX8_nextIn_16 : decode cX8_nextIn 16 = .ok (.invokevirtual 75, 3) := by decide +kernel
theorem dX8_nextIn_19 : decode cX8_nextIn 19 = .ok (.i2c, 1) := by decide +kernel
theorem dX8_nextIn_20 : decode cX8_nextIn 20 = .ok (.invokevirtual 79, 3) := by decide +kernel
theorem dX8_nextIn_23 : decode cX8_nextIn 23 = .ok (.goto 4, 3) := by decide +kernel
theorem dX8_nextIn_26 : decode cX8_nextIn 26 = .ok (.iconst (-1), 1) := by decide +kernel
theorem dX8_nextIn_27 : decode cX8_nextIn 27 = .ok (.ireturn, 1) := by decide +kernel
theorem dX9_init_0 : decode cX9_init 0 = .ok (.aload_n 0, 1) := by decide +kernel
theorem dX9_init_1 : decode cX9_init 1 = .ok (.invokespecial 1, 3) := by decide +kernel
theorem dX9_init_4 : decode cX9_init 4 = .ok (.aload_n 0, 1) := by decide +kernel
theorem dX9_init_5 : decode cX9_init 5 = .ok (.iconst 0, 1) := by decide +kernel
theorem dX9_init_6 : decode cX9_init 6 = .ok (.putfield 7, 3) := by decide +kernel
theorem dX9_init_9 : decode cX9_init 9 = .ok (.aload_n 0, 1) := by decide +kernel
theorem dX9_init_10 : decode cX9_init 10 = .ok (.iload_n 1, 1) := by decide +kernel
theorem dX9_init_11 : decode cX9_init 11 = .ok (.iconst 0, 1) := by decide +kernel
theorem dX9_init_12 : decode cX9_init 12 = .ok (.invokestatic 13, 3) := by decide +kernel
theorem dX9_init_15 : decode cX9_init 15 = .ok (.newarray .int, 2) := by decide +kernel
theorem dX9_init_17 : decode cX9_init 17 = .ok (.putfield 19, 3) := by decide +kernel
theorem dX9_init_20 : decode cX9_init 20 = .ok (.return_, 1) := by decide +kernel
theorem dX9_isFull_0 : decode cX9_isFull 0 = .ok (.aload_n 0, 1) := by decide +kernel
theorem dX9_isFull_1 : decode cX9_isFull 1 = .ok (.getfield 7, 3) := by decide +kernel
theorem dX9_isFull_4 : decode cX9_isFull 4 = .ok (.aload_n 0, 1) := by decide +kernel
theorem dX9_isFull_5 : decode cX9_isFull 5 = .ok (.getfield 19, 3) := by decide +kernel
theorem dX9_isFull_8 : decode cX9_isFull 8 = .ok (.arraylength, 1) := by decide +kernel
theorem dX9_isFull_9 : decode cX9_isFull 9 = .ok (.if_icmp .lt 7, 3) := by decide +kernel
theorem dX9_isFull_12 : decode cX9_isFull 12 = .ok (.iconst 1, 1) := by decide +kernel
theorem dX9_isFull_13 : decode cX9_isFull 13 = .ok (.goto 4, 3) := by decide +kernel
theorem dX9_isFull_16 : decode cX9_isFull 16 = .ok (.iconst 0, 1) := by decide +kernel
theorem dX9_isFull_17 : decode cX9_isFull 17 = .ok (.ireturn, 1) := by decide +kernel
theorem dX9_add_0 : decode cX9_add 0 = .ok (.aload_n 0, 1) := by decide +kernel
theorem dX9_add_1 : decode cX9_add 1 = .ok (.invokevirtual 23, 3) := by decide +kernel
theorem dX9_add_4 : decode cX9_add 4 = .ok (.ifCond .ne 25, 3) := by decide +kernel
theorem dX9_add_7 : decode cX9_add 7 = .ok (.aload_n 0, 1) := by decide +kernel
theorem dX9_add_8 : decode cX9_add 8 = .ok (.getfield 19, 3) := by decide +kernel
theorem dX9_add_11 : decode cX9_add 11 = .ok (.aload_n 0, 1) := by decide +kernel
theorem dX9_add_12 : decode cX9_add 12 = .ok (.getfield 7, 3) := by decide +kernel
theorem dX9_add_15 : decode cX9_add 15 = .ok (.iload_n 1, 1) := by decide +kernel
theorem dX9_add_16 : decode cX9_add 16 = .ok (.invokestatic 27, 3) := by decide +kernel
theorem dX9_add_19 : decode cX9_add 19 = .ok (.aload_n 0, 1) := by decide +kernel
theorem dX9_add_20 : decode cX9_add 20 = .ok (.dup, 1) := by decide +kernel
theorem dX9_add_21 : decode cX9_add 21 = .ok (.getfield 7, 3) := by decide +kernel
theorem dX9_add_24 : decode cX9_add 24 = .ok (.iconst 1, 1) := by decide +kernel
theorem dX9_add_25 : decode cX9_add 25 = .ok (.iadd, 1) := by decide +kernel
theorem dX9_add_26 : decode cX9_add 26 = .ok (.putfield 7, 3) := by decide +kernel
theorem dX9_add_29 : decode cX9_add 29 = .ok (.return_, 1) := by decide +kernel
theorem dX9_get_0 : decode cX9_get 0 = .ok (.iload_n 1, 1) := by decide +kernel
theorem dX9_get_1 : decode cX9_get 1 = .ok (.ifCond .lt 21, 3) := by decide +kernel
theorem dX9_get_4 : decode cX9_get 4 = .ok (.iload_n 1, 1) := by decide +kernel
theorem dX9_get_5 : decode cX9_get 5 = .ok (.aload_n 0, 1) := by decide +kernel
theorem dX9_get_6 : decode cX9_get 6 = .ok (.getfield 19, 3) := by decide +kernel
theorem dX9_get_9 : decode cX9_get 9 = .ok (.arraylength, 1) := by decide +kernel
theorem dX9_get_10 : decode cX9_get 10 = .ok (.if_icmp .ge 12, 3) := by decide +kernel
theorem dX9_get_13 : decode cX9_get 13 = .ok (.aload_n 0, 1) := by decide +kernel
theorem dX9_get_14 : decode cX9_get 14 = .ok (.getfield 19, 3) := by decide +kernel
theorem dX9_get_17 : decode cX9_get 17 = .ok (.iload_n 1, 1) := by decide +kernel
theorem dX9_get_18 : decode cX9_get 18 = .ok (.iaload, 1) := by decide +kernel
theorem dX9_get_19 : decode cX9_get 19 = .ok (.goto 4, 3) := by decide +kernel
theorem dX9_get_22 : decode cX9_get 22 = .ok (.iconst 0, 1) := by decide +kernel
theorem dX9_get_23 : decode cX9_get 23 = .ok (.ireturn, 1) := by decide +kernel
theorem dX9_clear_0 : decode cX9_clear 0 = .ok (.aload_n 0, 1) := by decide +kernel
theorem dX9_clear_1 : decode cX9_clear 1 = .ok (.iconst 0, 1) := by decide +kernel
theorem dX9_clear_2 : decode cX9_clear 2 = .ok (.putfield 7, 3) := by decide +kernel
theorem dX9_clear_5 : decode cX9_clear 5 = .ok (.return_, 1) := by decide +kernel
theorem dX10_init_0 : decode cX10_init 0 = .ok (.aload_n 0, 1) := by decide +kernel
theorem dX10_init_1 : decode cX10_init 1 = .ok (.invokespecial 3, 3) := by decide +kernel
theorem dX10_init_4 : decode cX10_init 4 = .ok (.aload_n 0, 1) := by decide +kernel
theorem dX10_init_5 : decode cX10_init 5 = .ok (.bipush 6, 2) := by decide +kernel
theorem dX10_init_7 : decode cX10_init 7 = .ok (.anewarray 9, 3) := by decide +kernel
theorem dX10_init_10 : decode cX10_init 10 = .ok (.dup, 1) := by decide +kernel
theorem dX10_init_11 : decode cX10_init 11 = .ok (.iconst 0, 1) := by decide +kernel
theorem dX10_init_12 : decode cX10_init 12 = .ok (.new 11, 3) := by decide +kernel
theorem dX10_init_15 : decode cX10_init 15 = .ok (.dup, 1) := by decide +kernel
theorem dX10_init_16 : decode cX10_init 16 = .ok (.invokespecial 13, 3) := by decide +kernel
theorem dX10_init_19 : decode cX10_init 19 = .ok (.aastore, 1) := by decide +kernel
theorem dX10_init_20 : decode cX10_init 20 = .ok (.dup, 1) := by decide +kernel
theorem dX10_init_21 : decode cX10_init 21 = .ok (.iconst 1, 1) := by decide +kernel
theorem dX10_init_22 : decode cX10_init 22 = .ok (.new 14, 3) := by decide +kernel
theorem dX10_init_25 : decode cX10_init 25 = .ok (.dup, 1) := by decide +kernel
theorem dX10_init_26 : decode cX10_init 26 = .ok (.invokespecial 16, 3) := by decide +kernel
theorem dX10_init_29 : decode cX10_init 29 = .ok (.aastore, 1) := by decide +kernel
theorem dX10_init_30 : decode cX10_init 30 = .ok (.dup, 1) := by decide +kernel
theorem dX10_init_31 : decode cX10_init 31 = .ok (.iconst 2, 1) := by decide +kernel
theorem dX10_init_32 : decode cX10_init 32 = .ok (.new 17, 3) := by decide +kernel
theorem dX10_init_35 : decode cX10_init 35 = .ok (.dup, 1) := by decide +kernel
theorem dX10_init_36 : decode cX10_init 36 = .ok (.invokespecial 19, 3) := by decide +kernel
theorem dX10_init_39 : decode cX10_init 39 = .ok (.aastore, 1) := by decide +kernel
theorem dX10_init_40 : decode cX10_init 40 = .ok (.dup, 1) := by decide +kernel
theorem dX10_init_41 : decode cX10_init 41 = .ok (.iconst 3, 1) := by decide +kernel
theorem dX10_init_42 : decode cX10_init 42 = .ok (.new 20, 3) := by decide +kernel
theorem dX10_init_45 : decode cX10_init 45 = .ok (.dup, 1) := by decide +kernel
theorem dX10_init_46 : decode cX10_init 46 = .ok (.invokespecial 22, 3) := by decide +kernel
theorem dX10_init_49 : decode cX10_init 49 = .ok (.aastore, 1) := by decide +kernel
theorem dX10_init_50 : decode cX10_init 50 = .ok (.dup, 1) := by decide +kernel
theorem dX10_init_51 : decode cX10_init 51 = .ok (.iconst 4, 1) := by decide +kernel
theorem dX10_init_52 : decode cX10_init 52 = .ok (.new 23, 3) := by decide +kernel
theorem dX10_init_55 : decode cX10_init 55 = .ok (.dup, 1) := by decide +kernel
theorem dX10_init_56 : decode cX10_init 56 = .ok (.invokespecial 25, 3) := by decide +kernel
theorem dX10_init_59 : decode cX10_init 59 = .ok (.aastore, 1) := by decide +kernel
theorem dX10_init_60 : decode cX10_init 60 = .ok (.dup, 1) := by decide +kernel
theorem dX10_init_61 : decode cX10_init 61 = .ok (.iconst 5, 1) := by decide +kernel
theorem dX10_init_62 : decode cX10_init 62 = .ok (.new 26, 3) := by decide +kernel
theorem dX10_init_65 : decode cX10_init 65 = .ok (.dup, 1) := by decide +kernel
theorem dX10_init_66 : decode cX10_init 66 = .ok (.invokespecial 28, 3) := by decide +kernel
theorem dX10_init_69 : decode cX10_init 69 = .ok (.aastore, 1) := by decide +kernel
theorem dX10_init_70 : decode cX10_init 70 = .ok (.putfield 29, 3) := by decide +kernel
theorem dX10_init_73 : decode cX10_init 73 = .ok (.aload_n 0, 1) := by decide +kernel
theorem dX10_init_74 : decode cX10_init 74 = .ok (.bipush 16, 2) := by decide +kernel
theorem dX10_init_76 : decode cX10_init 76 = .ok (.newarray .int, 2) := by decide +kernel
theorem dX10_init_78 : decode cX10_init 78 = .ok (.putfield 35, 3) := by decide +kernel
theorem dX10_init_81 : decode cX10_init 81 = .ok (.aload_n 0, 1) := by decide +kernel
theorem dX10_init_82 : decode cX10_init 82 = .ok (.bipush 16, 2) := by decide +kernel
theorem dX10_init_84 : decode cX10_init 84 = .ok (.newarray .int, 2) := by decide +kernel
theorem dX10_init_86 : decode cX10_init 86 = .ok (.putfield 39, 3) := by decide +kernel
theorem dX10_init_89 : decode cX10_init 89 = .ok (.aload_n 0, 1) := by decide +kernel
theorem dX10_init_90 : decode cX10_init 90 = .ok (.bipush 16, 2) := by decide +kernel
theorem dX10_init_92 : decode cX10_init 92 = .ok (.newarray .int, 2) := by decide +kernel
theorem dX10_init_94 : decode cX10_init 94 = .ok (.putfield 42, 3) := by decide +kernel
theorem dX10_init_97 : decode cX10_init 97 = .ok (.aload_n 0, 1) := by decide +kernel
theorem dX10_init_98 : decode cX10_init 98 = .ok (.bipush 16, 2) := by decide +kernel
theorem dX10_init_100 : decode cX10_init 100 = .ok (.newarray .int, 2) := by decide +kernel
theorem dX10_init_102 : decode cX10_init 102 = .ok (.putfield 45, 3) := by decide +kernel
theorem dX10_init_105 : decode cX10_init 105 = .ok (.aload_n 0, 1) := by decide +kernel
theorem dX10_init_106 : decode cX10_init 106 = .ok (.getfield 35, 3) := by decide +kernel
theorem dX10_init_109 : decode cX10_init 109 = .ok (.iconst 0, 1) := by decide +kernel
theorem dX10_init_110 : decode cX10_init 110 = .ok (.iconst 1, 1) := by decide +kernel
theorem dX10_init_111 : decode cX10_init 111 = .ok (.invokestatic 48, 3) := by decide +kernel
theorem dX10_init_114 : decode cX10_init 114 = .ok (.return_, 1) := by decide +kernel
theorem dX10_find_0 : decode cX10_find 0 = .ok (.aload_n 1, 1) := by decide +kernel
theorem dX10_find_1 : decode cX10_find 1 = .ok (.invokevirtual 52, 3) := by decide +kernel
theorem dX10_find_4 : decode cX10_find 4 = .ok (.istore_n 2, 1) := by decide +kernel
theorem dX10_find_5 : decode cX10_find 5 = .ok (.iconst 0, 1) := by decide +kernel
theorem dX10_find_6 : decode cX10_find 6 = .ok (.istore_n 3, 1) := by decide +kernel
theorem dX10_find_7 : decode cX10_find 7 = .ok (.iload_n 3, 1) := by decide +kernel
theorem dX10_find_8 : decode cX10_find 8 = .ok (.iload_n 2, 1) := by decide +kernel
theorem dX10_find_9 : decode cX10_find 9 = .ok (.if_icmp .ge 15, 3) := by decide +kernel
theorem dX10_find_12 : decode cX10_find 12 = .ok (.aload_n 0, 1) := by decide +kernel
theorem dX10_find_13 : decode cX10_find 13 = .ok (.aload_n 1, 1) := by decide +kernel
theorem dX10_find_14 : decode cX10_find 14 = .ok (.iload_n 3, 1) := by decide +kernel
theorem dX10_find_15 : decode cX10_find 15 = .ok (.invokevirtual 58, 3) := by decide +kernel
theorem dX10_find_18 : decode cX10_find 18 = .ok (.iinc 3 1, 3) := by decide +kernel
theorem dX10_find_21 : decode cX10_find 21 = .ok (.goto (-14), 3) := by decide +kernel
theorem dX10_find_24 : decode cX10_find 24 = .ok (.return_, 1) := by decide +kernel
theorem dX10_findOf_0 : decode cX10_findOf 0 = .ok (.iconst 1, 1) := by decide +kernel
theorem dX10_findOf_1 : decode cX10_findOf 1 = .ok (.aload_n 1, 1) := by decide +kernel
theorem dX10_findOf_2 : decode cX10_findOf 2 = .ok (.getfield 62, 3) := by decide +kernel
theorem dX10_findOf_5 : decode cX10_findOf 5 = .ok (.ishl, 1) := by decide +kernel
theorem dX10_findOf_6 : decode cX10_findOf 6 = .ok (.iconst 1, 1) := by decide +kernel
theorem dX10_findOf_7 : decode cX10_findOf 7 = .ok (.isub, 1) := by decide +kernel
theorem dX10_findOf_8 : decode cX10_findOf 8 = .ok (.istore_n 3, 1) := by decide +kernel
theorem dX10_findOf_9 : decode cX10_findOf 9 = .ok (.iconst 0, 1) := by decide +kernel
theorem dX10_findOf_10 : decode cX10_findOf 10 = .ok (.istore 4, 2) := by decide +kernel
theorem dX10_findOf_12 : decode cX10_findOf 12 = .ok (.bipush (-9), 2) := by decide +kernel
theorem dX10_findOf_14 : decode cX10_findOf 14 = .ok (.istore 5, 2) := by decide +kernel
theorem dX10_findOf_16 : decode cX10_findOf 16 = .ok (.iload_n 3, 1) := by decide +kernel
theorem dX10_findOf_17 : decode cX10_findOf 17 = .ok (.istore 6, 2) := by decide +kernel
theorem dX10_findOf_19 : decode cX10_findOf 19 = .ok (.iconst 0, 1) := by decide +kernel
theorem dX10_findOf_20 : decode cX10_findOf 20 = .ok (.istore 7, 2) := by decide +kernel
theorem dX10_findOf_22 : decode cX10_findOf 22 = .ok (.iconst 0, 1) := by decide +kernel
theorem dX10_findOf_23 : decode cX10_findOf 23 = .ok (.istore 8, 2) := by decide +kernel
theorem dX10_findOf_25 : decode cX10_findOf 25 = .ok (.iload 8, 2) := by decide +kernel
theorem dX10_findOf_27 : decode cX10_findOf 27 = .ok (.iload_n 3, 1) := by decide +kernel
theorem dX10_findOf_28 : decode cX10_findOf 28 = .ok (.if_icmp .gt 51, 3) := by decide +kernel
theorem dX10_findOf_31 : decode cX10_findOf 31 = .ok (.aload_n 0, 1) := by decide +kernel
theorem dX10_findOf_32 : decode cX10_findOf 32 = .ok (.aload_n 1, 1) := by decide +kernel
theorem dX10_findOf_33 : decode cX10_findOf 33 = .ok (.iload_n 2, 1) := by decide +kernel
theorem dX10_findOf_34 : decode cX10_findOf 34 = .ok (.iload 8, 2) := by decide +kernel
theorem dX10_findOf_36 : decode cX10_findOf 36 = .ok (.invokevirtual 66, 3) := by decide +kernel
theorem dX10_findOf_39 : decode cX10_findOf 39 = .ok (.ifCond .eq 34, 3) := by decide +kernel
theorem dX10_findOf_42 : decode cX10_findOf 42 = .ok (.iload 4, 2) := by decide +kernel
theorem dX10_findOf_44 : decode cX10_findOf 44 = .ok (.ifCond .ne 8, 3) := by decide +kernel
theorem dX10_findOf_47 : decode cX10_findOf 47 = .ok (.iload 8, 2) := by decide +kernel
theorem dX10_findOf_49 : decode cX10_findOf 49 = .ok (.goto 5, 3) := by decide +kernel
theorem dX10_findOf_52 : decode cX10_findOf 52 = .ok (.iload 5, 2) := by decide +kernel
theorem dX10_findOf_54 : decode cX10_findOf 54 = .ok (.istore 5, 2) := by decide +kernel
theorem dX10_findOf_56 : decode cX10_findOf 56 = .ok (.iinc 4 1, 3) := by decide +kernel
theorem dX10_findOf_59 : decode cX10_findOf 59 = .ok (.iload 6, 2) := by decide +kernel
theorem dX10_findOf_61 : decode cX10_findOf 61 = .ok (.iload 8, 2) := by decide +kernel
theorem dX10_findOf_63 : decode cX10_findOf 63 = .ok (.iand, 1) := by decide +kernel
theorem dX10_findOf_64 : decode cX10_findOf 64 = .ok (.istore 6, 2) := by decide +kernel
theorem dX10_findOf_66 : decode cX10_findOf 66 = .ok (.iload 7, 2) := by decide +kernel
theorem dX10_findOf_68 : decode cX10_findOf 68 = .ok (.iload 8, 2) := by decide +kernel
theorem dX10_findOf_70 : decode cX10_findOf 70 = .ok (.ior, 1) := by decide +kernel
theorem dX10_findOf_71 : decode cX10_findOf 71 = .ok (.istore 7, 2) := by decide +kernel
theorem dX10_findOf_73 : decode cX10_findOf 73 = .ok (.iinc 8 1, 3) := by decide +kernel
theorem dX10_findOf_76 : decode cX10_findOf 76 = .ok (.goto (-51), 3) := by decide +kernel
theorem dX10_findOf_79 : decode cX10_findOf 79 = .ok (.aload_n 0, 1) := by decide +kernel
theorem dX10_findOf_80 : decode cX10_findOf 80 = .ok (.getfield 35, 3) := by decide +kernel
theorem dX10_findOf_83 : decode cX10_findOf 83 = .ok (.iload_n 2, 1) := by decide +kernel
theorem dX10_findOf_84 : decode cX10_findOf 84 = .ok (.iload 4, 2) := by decide +kernel
theorem dX10_findOf_86 : decode cX10_findOf 86 = .ok (.invokestatic 48, 3) := by decide +kernel
theorem dX10_findOf_89 : decode cX10_findOf 89 = .ok (.aload_n 0, 1) := by decide +kernel
theorem dX10_findOf_90 : decode cX10_findOf 90 = .ok (.getfield 39, 3) := by decide +kernel
theorem dX10_findOf_93 : decode cX10_findOf 93 = .ok (.iload_n 2, 1) := by decide +kernel
theorem dX10_findOf_94 : decode cX10_findOf 94 = .ok (.iload 5, 2) := by decide +kernel
theorem dX10_findOf_96 : decode cX10_findOf 96 = .ok (.invokestatic 48, 3) := by decide +kernel
theorem dX10_findOf_99 : decode cX10_findOf 99 = .ok (.aload_n 0, 1) := by decide +kernel
theorem dX10_findOf_100 : decode cX10_findOf 100 = .ok (.getfield 42, 3) := by decide +kernel
theorem dX10_findOf_103 : decode cX10_findOf 103 = .ok (.iload_n 2, 1) := by decide +kernel
theorem dX10_findOf_104 : decode cX10_findOf 104 = .ok (.iload 4, 2) := by decide +kernel
theorem dX10_findOf_106 : decode cX10_findOf 106 = .ok (.ifCond .le 8, 3) := by decide +kernel
theorem dX10_findOf_109 : decode cX10_findOf 109 = .ok (.iload 6, 2) := by decide +kernel
theorem dX10_findOf_111 : decode cX10_findOf 111 = .ok (.goto 4, 3) := by decide +kernel
theorem dX10_findOf_114 : decode cX10_findOf 114 = .ok (.iconst 0, 1) := by decide +kernel
theorem dX10_findOf_115 : decode cX10_findOf 115 = .ok (.invokestatic 48, 3) := by decide +kernel
theorem dX10_findOf_118 : decode cX10_findOf 118 = .ok (.aload_n 0, 1) := by decide +kernel
theorem dX10_findOf_119 : decode cX10_findOf 119 = .ok (.getfield 45, 3) := by decide +kernel
theorem dX10_findOf_122 : decode cX10_findOf 122 = .ok (.iload_n 2, 1) := by decide +kernel
theorem dX10_findOf_123 : decode cX10_findOf 123 = .ok (.iload 4, 2) := by decide +kernel
theorem dX10_findOf_125 : decode cX10_findOf 125 = .ok (.ifCond .le 11, 3) := by decide +kernel
theorem dX10_findOf_128 : decode cX10_findOf 128 = .ok (.iload 7, 2) := by decide +kernel
theorem dX10_findOf_130 : decode cX10_findOf 130 = .ok (.iload 6, 2) := by decide +kernel
theorem dX10_findOf_132 : decode cX10_findOf 132 = .ok (.isub, 1) := by decide +kernel
theorem dX10_findOf_133 : decode cX10_findOf 133 = .ok (.goto 4, 3) := by decide +kernel
theorem dX10_findOf_136 : decode cX10_findOf 136 = .ok (.iload_n 3, 1) := by decide +kernel
theorem dX10_findOf_137 : decode cX10_findOf 137 = .ok (.invokestatic 48, 3) := by decide +kernel
theorem dX10_findOf_140 : decode cX10_findOf 140 = .ok (.return_, 1) := by decide +kernel
theorem dX10_isWay_0 : decode cX10_isWay 0 = .ok (.iconst 0, 1) := by decide +kernel
theorem dX10_isWay_1 : decode cX10_isWay 1 = .ok (.istore 4, 2) := by decide +kernel
theorem dX10_isWay_3 : decode cX10_isWay 3 = .ok (.iload 4, 2) := by decide +kernel
theorem dX10_isWay_5 : decode cX10_isWay 5 = .ok (.aload_n 1, 1) := by decide +kernel
theorem dX10_isWay_6 : decode cX10_isWay 6 = .ok (.getfield 62, 3) := by decide +kernel
theorem dX10_isWay_9 : decode cX10_isWay 9 = .ok (.if_icmp .ge 75, 3) := by decide +kernel
theorem dX10_isWay_12 : decode cX10_isWay 12 = .ok (.aload_n 0, 1) := by decide +kernel
theorem dX10_isWay_13 : decode cX10_isWay 13 = .ok (.aload_n 1, 1) := by decide +kernel
theorem dX10_isWay_14 : decode cX10_isWay 14 = .ok (.iload 4, 2) := by decide +kernel
theorem dX10_isWay_16 : decode cX10_isWay 16 = .ok (.iconst 0, 1) := by decide +kernel
theorem dX10_isWay_17 : decode cX10_isWay 17 = .ok (.invokevirtual 70, 3) := by decide +kernel
theorem dX10_isWay_20 : decode cX10_isWay 20 = .ok (.invokevirtual 74, 3) := by decide +kernel
theorem dX10_isWay_23 : decode cX10_isWay 23 = .ok (.astore 5, 2) := by decide +kernel
theorem dX10_isWay_25 : decode cX10_isWay 25 = .ok (.aload_n 1, 1) := by decide +kernel
theorem dX10_isWay_26 : decode cX10_isWay 26 = .ok (.iload 4, 2) := by decide +kernel
theorem dX10_isWay_28 : decode cX10_isWay 28 = .ok (.iconst 1, 1) := by decide +kernel
theorem dX10_isWay_29 : decode cX10_isWay 29 = .ok (.invokevirtual 70, 3) := by decide +kernel
theorem dX10_isWay_32 : decode cX10_isWay 32 = .ok (.iload_n 2, 1) := by decide +kernel
theorem dX10_isWay_33 : decode cX10_isWay 33 = .ok (.iload_n 3, 1) := by decide +kernel
theorem dX10_isWay_34 : decode cX10_isWay 34 = .ok (.invokestatic 78, 3) := by decide +kernel
theorem dX10_isWay_37 : decode cX10_isWay 37 = .ok (.istore 6, 2) := by decide +kernel
theorem dX10_isWay_39 : decode cX10_isWay 39 = .ok (.aload_n 1, 1) := by decide +kernel
theorem dX10_isWay_40 : decode cX10_isWay 40 = .ok (.iload 4, 2) := by decide +kernel
theorem dX10_isWay_42 : decode cX10_isWay 42 = .ok (.iconst 2, 1) := by decide +kernel
theorem dX10_isWay_43 : decode cX10_isWay 43 = .ok (.invokevirtual 70, 3) := by decide +kernel
theorem dX10_isWay_46 : decode cX10_isWay 46 = .ok (.iload_n 2, 1) := by decide +kernel
theorem dX10_isWay_47 : decode cX10_isWay 47 = .ok (.iload_n 3, 1) := by decide +kernel
theorem dX10_isWay_48 : decode cX10_isWay 48 = .ok (.invokestatic 78, 3) := by decide +kernel
theorem dX10_isWay_51 : decode cX10_isWay 51 = .ok (.istore 7, 2) := by decide +kernel
theorem dX10_isWay_53 : decode cX10_isWay 53 = .ok (.aload 5, 2) := by decide +kernel
theorem dX10_isWay_55 : decode cX10_isWay 55 = .ok (.ifnull 21, 3) := by decide +kernel
theorem dX10_isWay_58 : decode cX10_isWay 58 = .ok (.aload 5, 2) := by decide +kernel
theorem dX10_isWay_60 : decode cX10_isWay 60 = .ok (.iload 6, 2) := by decide +kernel
theorem dX10_isWay_62 : decode cX10_isWay 62 = .ok (.iload 7, 2) := by decide +kernel
theorem dX10_isWay_64 : decode cX10_isWay 64 = .ok (.invokevirtual 82, 3) := by decide +kernel
theorem dX10_isWay_67 : decode cX10_isWay 67 = .ok (.iload_n 3, 1) := by decide +kernel
theorem dX10_isWay_68 : decode cX10_isWay 68 = .ok (.iload 4, 2) := by decide +kernel
theorem dX10_isWay_70 : decode cX10_isWay 70 = .ok (.invokestatic 86, 3) := by decide +kernel
theorem dX10_isWay_73 : decode cX10_isWay 73 = .ok (.if_icmp .eq 5, 3) := by decide +kernel
theorem dX10_isWay_76 : decode cX10_isWay 76 = .ok (.iconst 0, 1) := by decide +kernel
theorem dX10_isWay_77 : decode cX10_isWay 77 = .ok (.ireturn, 1) := by decide +kernel
theorem dX10_isWay_78 : decode cX10_isWay 78 = .ok (.iinc 4 1, 3) := by decide +kernel
theorem dX10_isWay_81 : decode cX10_isWay 81 = .ok (.goto (-78), 3) := by decide +kernel
theorem dX10_isWay_84 : decode cX10_isWay 84 = .ok (.iconst 1, 1) := by decide +kernel
theorem dX10_isWay_85 : decode cX10_isWay 85 = .ok (.ireturn, 1) := by decide +kernel
theorem dX10_isSo_0 : decode cX10_isSo 0 = .ok (.iload_n 0, 1) := by decide +kernel
theorem dX10_isSo_1 : decode cX10_isSo 1 = .ok (.bipush 10, 2) := by decide +kernel
theorem dX10_isSo_3 : decode cX10_isSo 3 = .ok (.if_icmp .lt 14, 3) := by decide +kernel
theorem dX10_isSo_6 : decode cX10_isSo 6 = .ok (.iload_n 2, 1) := by decide +kernel
theorem dX10_isSo_7 : decode cX10_isSo 7 = .ok (.iload_n 0, 1) := by decide +kernel
theorem dX10_isSo_8 : decode cX10_isSo 8 = .ok (.bipush 10, 2) := by decide +kernel
theorem dX10_isSo_10 : decode cX10_isSo 10 = .ok (.isub, 1) := by decide +kernel
theorem dX10_isSo_11 : decode cX10_isSo 11 = .ok (.invokestatic 86, 3) := by decide +kernel
theorem dX10_isSo_14 : decode cX10_isSo 14 = .ok (.goto 8, 3) := by decide +kernel
theorem dX10_isSo_17 : decode cX10_isSo 17 = .ok (.iload_n 1, 1) := by decide +kernel
theorem dX10_isSo_18 : decode cX10_isSo 18 = .ok (.iload_n 0, 1) := by decide +kernel
theorem dX10_isSo_19 : decode cX10_isSo 19 = .ok (.invokestatic 86, 3) := by decide +kernel
theorem dX10_isSo_22 : decode cX10_isSo 22 = .ok (.ireturn, 1) := by decide +kernel
theorem dX10_kindOf_0 : decode cX10_kindOf 0 = .ok (.iload_n 1, 1) := by decide +kernel
theorem dX10_kindOf_1 : decode cX10_kindOf 1 = .ok (.ifCond .lt 21, 3) := by decide +kernel
theorem dX10_kindOf_4 : decode cX10_kindOf 4 = .ok (.iload_n 1, 1) := by decide +kernel
theorem dX10_kindOf_5 : decode cX10_kindOf 5 = .ok (.aload_n 0, 1) := by decide +kernel
theorem dX10_kindOf_6 : decode cX10_kindOf 6 = .ok (.getfield 29, 3) := by decide +kernel
theorem dX10_kindOf_9 : decode cX10_kindOf 9 = .ok (.arraylength, 1) := by decide +kernel
theorem dX10_kindOf_10 : decode cX10_kindOf 10 = .ok (.if_icmp .ge 12, 3) := by decide +kernel
theorem dX10_kindOf_13 : decode cX10_kindOf 13 = .ok (.aload_n 0, 1) := by decide +kernel
theorem dX10_kindOf_14 : decode cX10_kindOf 14 = .ok (.getfield 29, 3) := by decide +kernel
theorem dX10_kindOf_17 : decode cX10_kindOf 17 = .ok (.iload_n 1, 1) := by decide +kernel
theorem dX10_kindOf_18 : decode cX10_kindOf 18 = .ok (.aaload, 1) := by decide +kernel
theorem dX10_kindOf_19 : decode cX10_kindOf 19 = .ok (.goto 4, 3) := by decide +kernel
theorem dX10_kindOf_22 : decode cX10_kindOf 22 = .ok (.aconst_null, 1) := by decide +kernel
theorem dX10_kindOf_23 : decode cX10_kindOf 23 = .ok (.areturn, 1) := by decide +kernel
theorem dX10_howMany_0 : decode cX10_howMany 0 = .ok (.aload_n 0, 1) := by decide +kernel
theorem dX10_howMany_1 : decode cX10_howMany 1 = .ok (.getfield 35, 3) := by decide +kernel
theorem dX10_howMany_4 : decode cX10_howMany 4 = .ok (.iload_n 1, 1) := by decide +kernel
theorem dX10_howMany_5 : decode cX10_howMany 5 = .ok (.invokestatic 90, 3) := by decide +kernel
theorem dX10_howMany_8 : decode cX10_howMany 8 = .ok (.ireturn, 1) := by decide +kernel
theorem dX10_firstOf_0 : decode cX10_firstOf 0 = .ok (.aload_n 0, 1) := by decide +kernel
theorem dX10_firstOf_1 : decode cX10_firstOf 1 = .ok (.getfield 39, 3) := by decide +kernel
theorem dX10_firstOf_4 : decode cX10_firstOf 4 = .ok (.iload_n 1, 1) := by decide +kernel
theorem dX10_firstOf_5 : decode cX10_firstOf 5 = .ok (.invokestatic 90, 3) := by decide +kernel
theorem dX10_firstOf_8 : decode cX10_firstOf 8 = .ok (.ireturn, 1) := by decide +kernel
theorem dX10_voidIn_0 : decode cX10_voidIn 0 = .ok (.aload_n 0, 1) := by decide +kernel
theorem dX10_voidIn_1 : decode cX10_voidIn 1 = .ok (.getfield 45, 3) := by decide +kernel
theorem dX10_voidIn_4 : decode cX10_voidIn 4 = .ok (.iload_n 1, 1) := by decide +kernel
theorem dX10_voidIn_5 : decode cX10_voidIn 5 = .ok (.invokestatic 90, 3) := by decide +kernel
theorem dX10_voidIn_8 : decode cX10_voidIn 8 = .ok (.ireturn, 1) := by decide +kernel
theorem dX10_standingOf_0 : decode cX10_standingOf 0 = .ok (.aload_n 0, 1) := by decide +kernel
theorem dX10_standingOf_1 : decode cX10_standingOf 1 = .ok (.getfield 42, 3) := by decide +kernel
theorem dX10_standingOf_4 : decode cX10_standingOf 4 = .ok (.iload_n 2, 1) := by decide +kernel
theorem dX10_standingOf_5 : decode cX10_standingOf 5 = .ok (.invokestatic 90, 3) := by decide +kernel
theorem dX10_standingOf_8 : decode cX10_standingOf 8 = .ok (.iload_n 1, 1) := by decide +kernel
theorem dX10_standingOf_9 : decode cX10_standingOf 9 = .ok (.invokestatic 86, 3) := by decide +kernel
theorem dX10_standingOf_12 : decode cX10_standingOf 12 = .ok (.ifCond .eq 5, 3) := by decide +kernel
theorem dX10_standingOf_15 : decode cX10_standingOf 15 = .ok (.iconst 1, 1) := by decide +kernel
theorem dX10_standingOf_16 : decode cX10_standingOf 16 = .ok (.ireturn, 1) := by decide +kernel
theorem dX10_standingOf_17 : decode cX10_standingOf 17 = .ok (.aload_n 0, 1) := by decide +kernel
theorem dX10_standingOf_18 : decode cX10_standingOf 18 = .ok (.getfield 45, 3) := by decide +kernel
theorem dX10_standingOf_21 : decode cX10_standingOf 21 = .ok (.iload_n 2, 1) := by decide +kernel
theorem dX10_standingOf_22 : decode cX10_standingOf 22 = .ok (.invokestatic 90, 3) := by decide +kernel
theorem dX10_standingOf_25 : decode cX10_standingOf 25 = .ok (.iload_n 1, 1) := by decide +kernel
theorem dX10_standingOf_26 : decode cX10_standingOf 26 = .ok (.invokestatic 86, 3) := by decide +kernel
theorem dX10_standingOf_29 : decode cX10_standingOf 29 = .ok (.ifCond .eq 7, 3) := by decide +kernel
theorem dX10_standingOf_32 : decode cX10_standingOf 32 = .ok (.iconst 2, 1) := by decide +kernel
theorem dX10_standingOf_33 : decode cX10_standingOf 33 = .ok (.goto 4, 3) := by decide +kernel
theorem dX10_standingOf_36 : decode cX10_standingOf 36 = .ok (.iconst 0, 1) := by decide +kernel
theorem dX10_standingOf_37 : decode cX10_standingOf 37 = .ok (.ireturn, 1) := by decide +kernel
theorem dX10_lookedAt_0 : decode cX10_lookedAt 0 = .ok (.aload_n 0, 1) := by decide +kernel
theorem dX10_lookedAt_1 : decode cX10_lookedAt 1 = .ok (.aload_n 1, 1) := by decide +kernel
theorem dX10_lookedAt_2 : decode cX10_lookedAt 2 = .ok (.iload_n 2, 1) := by decide +kernel
theorem dX10_lookedAt_3 : decode cX10_lookedAt 3 = .ok (.iconst 0, 1) := by decide +kernel
theorem dX10_lookedAt_4 : decode cX10_lookedAt 4 = .ok (.invokevirtual 70, 3) := by decide +kernel
theorem dX10_lookedAt_7 : decode cX10_lookedAt 7 = .ok (.invokevirtual 74, 3) := by decide +kernel
theorem dX10_lookedAt_10 : decode cX10_lookedAt 10 = .ok (.astore_n 3, 1) := by decide +kernel
theorem dX10_lookedAt_11 : decode cX10_lookedAt 11 = .ok (.aload_n 1, 1) := by decide +kernel
theorem dX10_lookedAt_12 : decode cX10_lookedAt 12 = .ok (.aload_n 1, 1) := by decide +kernel
theorem dX10_lookedAt_13 : decode cX10_lookedAt 13 = .ok (.iload_n 2, 1) := by decide +kernel
theorem dX10_lookedAt_14 : decode cX10_lookedAt 14 = .ok (.iconst 1, 1) := by decide +kernel
theorem dX10_lookedAt_15 : decode cX10_lookedAt 15 = .ok (.invokevirtual 70, 3) := by decide +kernel
theorem dX10_lookedAt_18 : decode cX10_lookedAt 18 = .ok (.invokestatic 94, 3) := by decide +kernel
theorem dX10_lookedAt_21 : decode cX10_lookedAt 21 = .ok (.istore 4, 2) := by decide +kernel
theorem dX10_lookedAt_23 : decode cX10_lookedAt 23 = .ok (.aload_n 3, 1) := by decide +kernel
theorem dX10_lookedAt_24 : decode cX10_lookedAt 24 = .ok (.ifnull 25, 3) := by decide +kernel
theorem dX10_lookedAt_27 : decode cX10_lookedAt 27 = .ok (.aload_n 3, 1) := by decide +kernel
theorem dX10_lookedAt_28 : decode cX10_lookedAt 28 = .ok (.invokevirtual 98, 3) := by decide +kernel
theorem dX10_lookedAt_31 : decode cX10_lookedAt 31 = .ok (.ifCond .eq 18, 3) := by decide +kernel
theorem dX10_lookedAt_34 : decode cX10_lookedAt 34 = .ok (.iload 4, 2) := by decide +kernel
theorem dX10_lookedAt_36 : decode cX10_lookedAt 36 = .ok (.aload_n 1, 1) := by decide +kernel
theorem dX10_lookedAt_37 : decode cX10_lookedAt 37 = .ok (.aload_n 1, 1) := by decide +kernel
theorem dX10_lookedAt_38 : decode cX10_lookedAt 38 = .ok (.iload_n 2, 1) := by decide +kernel
theorem dX10_lookedAt_39 : decode cX10_lookedAt 39 = .ok (.iconst 2, 1) := by decide +kernel
theorem dX10_lookedAt_40 : decode cX10_lookedAt 40 = .ok (.invokevirtual 70, 3) := by decide +kernel
theorem dX10_lookedAt_43 : decode cX10_lookedAt 43 = .ok (.invokestatic 94, 3) := by decide +kernel
theorem dX10_lookedAt_46 : decode cX10_lookedAt 46 = .ok (.ior, 1) := by decide +kernel
theorem dX10_lookedAt_47 : decode cX10_lookedAt 47 = .ok (.istore 4, 2) := by decide +kernel
theorem dX10_lookedAt_49 : decode cX10_lookedAt 49 = .ok (.iload 4, 2) := by decide +kernel
theorem dX10_lookedAt_51 : decode cX10_lookedAt 51 = .ok (.ireturn, 1) := by decide +kernel
theorem dX10_betBit_0 : decode cX10_betBit 0 = .ok (.aload_n 0, 1) := by decide +kernel
theorem dX10_betBit_1 : decode cX10_betBit 1 = .ok (.iload_n 1, 1) := by decide +kernel
theorem dX10_betBit_2 : decode cX10_betBit 2 = .ok (.bipush 10, 2) := by decide +kernel
theorem dX10_betBit_4 : decode cX10_betBit 4 = .ok (.isub, 1) := by decide +kernel
theorem dX10_betBit_5 : decode cX10_betBit 5 = .ok (.invokevirtual 102, 3) := by decide +kernel
theorem dX10_betBit_8 : decode cX10_betBit 8 = .ok (.ifCond .eq 12, 3) := by decide +kernel
theorem dX10_betBit_11 : decode cX10_betBit 11 = .ok (.iconst 1, 1) := by decide +kernel
theorem dX10_betBit_12 : decode cX10_betBit 12 = .ok (.iload_n 1, 1) := by decide +kernel
theorem dX10_betBit_13 : decode cX10_betBit 13 = .ok (.bipush 10, 2) := by decide +kernel
theorem dX10_betBit_15 : decode cX10_betBit 15 = .ok (.isub, 1) := by decide +kernel
theorem dX10_betBit_16 : decode cX10_betBit 16 = .ok (.ishl, 1) := by decide +kernel
theorem dX10_betBit_17 : decode cX10_betBit 17 = .ok (.goto 4, 3) := by decide +kernel
theorem dX10_betBit_20 : decode cX10_betBit 20 = .ok (.iconst 0, 1) := by decide +kernel
theorem dX10_betBit_21 : decode cX10_betBit 21 = .ok (.ireturn, 1) := by decide +kernel
theorem dJ11_isValidCodePoint_9a6ad_0 : decode cJ11_isValidCodePoint_9a6ad 0 = .ok (.iload_n 0, 1) := by decide +kernel
theorem dJ11_isValidCodePoint_9a6ad_1 : decode cJ11_isValidCodePoint_9a6ad 1 = .ok (.bipush 16, 2) := by decide +kernel
theorem dJ11_isValidCodePoint_9a6ad_3 : decode cJ11_isValidCodePoint_9a6ad 3 = .ok (.iushr, 1) := by decide +kernel
theorem dJ11_isValidCodePoint_9a6ad_4 : decode cJ11_isValidCodePoint_9a6ad 4 = .ok (.istore_n 1, 1) := by decide +kernel
theorem dJ11_isValidCodePoint_9a6ad_5 : decode cJ11_isValidCodePoint_9a6ad 5 = .ok (.iload_n 1, 1) := by decide +kernel
theorem dJ11_isValidCodePoint_9a6ad_6 : decode cJ11_isValidCodePoint_9a6ad 6 = .ok (.bipush 17, 2) := by decide +kernel
theorem dJ11_isValidCodePoint_9a6ad_8 : decode cJ11_isValidCodePoint_9a6ad 8 = .ok (.if_icmp .ge 7, 3) := by decide +kernel
theorem dJ11_isValidCodePoint_9a6ad_11 : decode cJ11_isValidCodePoint_9a6ad 11 = .ok (.iconst 1, 1) := by decide +kernel
theorem dJ11_isValidCodePoint_9a6ad_12 : decode cJ11_isValidCodePoint_9a6ad 12 = .ok (.goto 4, 3) := by decide +kernel
theorem dJ11_isValidCodePoint_9a6ad_15 : decode cJ11_isValidCodePoint_9a6ad 15 = .ok (.iconst 0, 1) := by decide +kernel
theorem dJ11_isValidCodePoint_9a6ad_16 : decode cJ11_isValidCodePoint_9a6ad 16 = .ok (.ireturn, 1) := by decide +kernel
theorem dJ11_highSurrogate_5068e_0 : decode cJ11_highSurrogate_5068e 0 = .ok (.iload_n 0, 1) := by decide +kernel
theorem dJ11_highSurrogate_5068e_1 : decode cJ11_highSurrogate_5068e 1 = .ok (.bipush 10, 2) := by decide +kernel
theorem dJ11_highSurrogate_5068e_3 : decode cJ11_highSurrogate_5068e 3 = .ok (.iushr, 1) := by decide +kernel
theorem dJ11_highSurrogate_5068e_4 : decode cJ11_highSurrogate_5068e 4 = .ok (.ldc 110, 2) := by decide +kernel
theorem dJ11_highSurrogate_5068e_6 : decode cJ11_highSurrogate_5068e 6 = .ok (.iadd, 1) := by decide +kernel
theorem dJ11_highSurrogate_5068e_7 : decode cJ11_highSurrogate_5068e 7 = .ok (.i2c, 1) := by decide +kernel
theorem dJ11_highSurrogate_5068e_8 : decode cJ11_highSurrogate_5068e 8 = .ok (.ireturn, 1) := by decide +kernel
theorem dJ11_lowSurrogate_5068e_0 : decode cJ11_lowSurrogate_5068e 0 = .ok (.iload_n 0, 1) := by decide +kernel
theorem dJ11_lowSurrogate_5068e_1 : decode cJ11_lowSurrogate_5068e 1 = .ok (.sipush 1023, 3) := by decide +kernel
theorem dJ11_lowSurrogate_5068e_4 : decode cJ11_lowSurrogate_5068e 4 = .ok (.iand, 1) := by decide +kernel
theorem dJ11_lowSurrogate_5068e_5 : decode cJ11_lowSurrogate_5068e 5 = .ok (.ldc 76, 2) := by decide +kernel
theorem dJ11_lowSurrogate_5068e_7 : decode cJ11_lowSurrogate_5068e 7 = .ok (.iadd, 1) := by decide +kernel
theorem dJ11_lowSurrogate_5068e_8 : decode cJ11_lowSurrogate_5068e 8 = .ok (.i2c, 1) := by decide +kernel
theorem dJ11_lowSurrogate_5068e_9 : decode cJ11_lowSurrogate_5068e 9 = .ok (.ireturn, 1) := by decide +kernel
theorem dJ6_bitCount_0f7a4_0 : decode cJ6_bitCount_0f7a4 0 = .ok (.iload_n 0, 1) := by decide +kernel
theorem dJ6_bitCount_0f7a4_1 : decode cJ6_bitCount_0f7a4 1 = .ok (.iload_n 0, 1) := by decide +kernel
theorem dJ6_bitCount_0f7a4_2 : decode cJ6_bitCount_0f7a4 2 = .ok (.iconst 1, 1) := by decide +kernel
theorem dJ6_bitCount_0f7a4_3 : decode cJ6_bitCount_0f7a4 3 = .ok (.iushr, 1) := by decide +kernel
theorem dJ6_bitCount_0f7a4_4 : decode cJ6_bitCount_0f7a4 4 = .ok (.ldc_w 265, 3) := by decide +kernel
theorem dJ6_bitCount_0f7a4_7 : decode cJ6_bitCount_0f7a4 7 = .ok (.iand, 1) := by decide +kernel
theorem dJ6_bitCount_0f7a4_8 : decode cJ6_bitCount_0f7a4 8 = .ok (.isub, 1) := by decide +kernel
theorem dJ6_bitCount_0f7a4_9 : decode cJ6_bitCount_0f7a4 9 = .ok (.istore_n 0, 1) := by decide +kernel
theorem dJ6_bitCount_0f7a4_10 : decode cJ6_bitCount_0f7a4 10 = .ok (.iload_n 0, 1) := by decide +kernel
theorem dJ6_bitCount_0f7a4_11 : decode cJ6_bitCount_0f7a4 11 = .ok (.ldc_w 266, 3) := by decide +kernel
theorem dJ6_bitCount_0f7a4_14 : decode cJ6_bitCount_0f7a4 14 = .ok (.iand, 1) := by decide +kernel
theorem dJ6_bitCount_0f7a4_15 : decode cJ6_bitCount_0f7a4 15 = .ok (.iload_n 0, 1) := by decide +kernel
theorem dJ6_bitCount_0f7a4_16 : decode cJ6_bitCount_0f7a4 16 = .ok (.iconst 2, 1) := by decide +kernel
theorem dJ6_bitCount_0f7a4_17 : decode cJ6_bitCount_0f7a4 17 = .ok (.iushr, 1) := by decide +kernel
theorem dJ6_bitCount_0f7a4_18 : decode cJ6_bitCount_0f7a4 18 = .ok (.ldc_w 266, 3) := by decide +kernel
theorem dJ6_bitCount_0f7a4_21 : decode cJ6_bitCount_0f7a4 21 = .ok (.iand, 1) := by decide +kernel
theorem dJ6_bitCount_0f7a4_22 : decode cJ6_bitCount_0f7a4 22 = .ok (.iadd, 1) := by decide +kernel
theorem dJ6_bitCount_0f7a4_23 : decode cJ6_bitCount_0f7a4 23 = .ok (.istore_n 0, 1) := by decide +kernel
theorem dJ6_bitCount_0f7a4_24 : decode cJ6_bitCount_0f7a4 24 = .ok (.iload_n 0, 1) := by decide +kernel
theorem dJ6_bitCount_0f7a4_25 : decode cJ6_bitCount_0f7a4 25 = .ok (.iload_n 0, 1) := by decide +kernel
theorem dJ6_bitCount_0f7a4_26 : decode cJ6_bitCount_0f7a4 26 = .ok (.iconst 4, 1) := by decide +kernel
theorem dJ6_bitCount_0f7a4_27 : decode cJ6_bitCount_0f7a4 27 = .ok (.iushr, 1) := by decide +kernel
theorem dJ6_bitCount_0f7a4_28 : decode cJ6_bitCount_0f7a4 28 = .ok (.iadd, 1) := by decide +kernel
theorem dJ6_bitCount_0f7a4_29 : decode cJ6_bitCount_0f7a4 29 = .ok (.ldc_w 267, 3) := by decide +kernel
theorem dJ6_bitCount_0f7a4_32 : decode cJ6_bitCount_0f7a4 32 = .ok (.iand, 1) := by decide +kernel
theorem dJ6_bitCount_0f7a4_33 : decode cJ6_bitCount_0f7a4 33 = .ok (.istore_n 0, 1) := by decide +kernel
theorem dJ6_bitCount_0f7a4_34 : decode cJ6_bitCount_0f7a4 34 = .ok (.iload_n 0, 1) := by decide +kernel
theorem dJ6_bitCount_0f7a4_35 : decode cJ6_bitCount_0f7a4 35 = .ok (.iload_n 0, 1) := by decide +kernel
theorem dJ6_bitCount_0f7a4_36 : decode cJ6_bitCount_0f7a4 36 = .ok (.bipush 8, 2) := by decide +kernel
theorem dJ6_bitCount_0f7a4_38 : decode cJ6_bitCount_0f7a4 38 = .ok (.iushr, 1) := by decide +kernel
theorem dJ6_bitCount_0f7a4_39 : decode cJ6_bitCount_0f7a4 39 = .ok (.iadd, 1) := by decide +kernel
theorem dJ6_bitCount_0f7a4_40 : decode cJ6_bitCount_0f7a4 40 = .ok (.istore_n 0, 1) := by decide +kernel
theorem dJ6_bitCount_0f7a4_41 : decode cJ6_bitCount_0f7a4 41 = .ok (.iload_n 0, 1) := by decide +kernel
theorem dJ6_bitCount_0f7a4_42 : decode cJ6_bitCount_0f7a4 42 = .ok (.iload_n 0, 1) := by decide +kernel
theorem dJ6_bitCount_0f7a4_43 : decode cJ6_bitCount_0f7a4 43 = .ok (.bipush 16, 2) := by decide +kernel
theorem dJ6_bitCount_0f7a4_45 : decode cJ6_bitCount_0f7a4 45 = .ok (.iushr, 1) := by decide +kernel
theorem dJ6_bitCount_0f7a4_46 : decode cJ6_bitCount_0f7a4 46 = .ok (.iadd, 1) := by decide +kernel
theorem dJ6_bitCount_0f7a4_47 : decode cJ6_bitCount_0f7a4 47 = .ok (.istore_n 0, 1) := by decide +kernel
theorem dJ6_bitCount_0f7a4_48 : decode cJ6_bitCount_0f7a4 48 = .ok (.iload_n 0, 1) := by decide +kernel
theorem dJ6_bitCount_0f7a4_49 : decode cJ6_bitCount_0f7a4 49 = .ok (.bipush 63, 2) := by decide +kernel
theorem dJ6_bitCount_0f7a4_51 : decode cJ6_bitCount_0f7a4 51 = .ok (.iand, 1) := by decide +kernel
theorem dJ6_bitCount_0f7a4_52 : decode cJ6_bitCount_0f7a4 52 = .ok (.ireturn, 1) := by decide +kernel
theorem dJ9_max_7cf53_0 : decode cJ9_max_7cf53 0 = .ok (.iload_n 0, 1) := by decide +kernel
theorem dJ9_max_7cf53_1 : decode cJ9_max_7cf53 1 = .ok (.iload_n 1, 1) := by decide +kernel
theorem dJ9_max_7cf53_2 : decode cJ9_max_7cf53 2 = .ok (.if_icmp .lt 7, 3) := by decide +kernel
theorem dJ9_max_7cf53_5 : decode cJ9_max_7cf53 5 = .ok (.iload_n 0, 1) := by decide +kernel
theorem dJ9_max_7cf53_6 : decode cJ9_max_7cf53 6 = .ok (.goto 4, 3) := by decide +kernel
theorem dJ9_max_7cf53_9 : decode cJ9_max_7cf53 9 = .ok (.iload_n 1, 1) := by decide +kernel
theorem dJ9_max_7cf53_10 : decode cJ9_max_7cf53 10 = .ok (.ireturn, 1) := by decide +kernel
theorem dJ9_min_7cf53_0 : decode cJ9_min_7cf53 0 = .ok (.iload_n 0, 1) := by decide +kernel
theorem dJ9_min_7cf53_1 : decode cJ9_min_7cf53 1 = .ok (.iload_n 1, 1) := by decide +kernel
theorem dJ9_min_7cf53_2 : decode cJ9_min_7cf53 2 = .ok (.if_icmp .gt 7, 3) := by decide +kernel
theorem dJ9_min_7cf53_5 : decode cJ9_min_7cf53 5 = .ok (.iload_n 0, 1) := by decide +kernel
theorem dJ9_min_7cf53_6 : decode cJ9_min_7cf53 6 = .ok (.goto 4, 3) := by decide +kernel
theorem dJ9_min_7cf53_9 : decode cJ9_min_7cf53 9 = .ok (.iload_n 1, 1) := by decide +kernel
theorem dJ9_min_7cf53_10 : decode cJ9_min_7cf53 10 = .ok (.ireturn, 1) := by decide +kernel
theorem dJ0_length_8abf5_0 : decode cJ0_length_8abf5 0 = .ok (.aload_n 0, 1) := by decide +kernel
theorem dJ0_length_8abf5_1 : decode cJ0_length_8abf5 1 = .ok (.getfield 9, 3) := by decide +kernel
theorem dJ0_length_8abf5_4 : decode cJ0_length_8abf5 4 = .ok (.arraylength, 1) := by decide +kernel
theorem dJ0_length_8abf5_5 : decode cJ0_length_8abf5 5 = .ok (.aload_n 0, 1) := by decide +kernel
theorem dJ0_length_8abf5_6 : decode cJ0_length_8abf5 6 = .ok (.invokevirtual 335, 3) := by decide +kernel
theorem dJ0_length_8abf5_9 : decode cJ0_length_8abf5 9 = .ok (.ishr, 1) := by decide +kernel
theorem dJ0_length_8abf5_10 : decode cJ0_length_8abf5 10 = .ok (.ireturn, 1) := by decide +kernel
theorem dJ0_indexOf_0f7a4_0 : decode cJ0_indexOf_0f7a4 0 = .ok (.aload_n 0, 1) := by decide +kernel
theorem dJ0_indexOf_0f7a4_1 : decode cJ0_indexOf_0f7a4 1 = .ok (.iload_n 1, 1) := by decide +kernel
theorem dJ0_indexOf_0f7a4_2 : decode cJ0_indexOf_0f7a4 2 = .ok (.iconst 0, 1) := by decide +kernel
theorem dJ0_indexOf_0f7a4_3 : decode cJ0_indexOf_0f7a4 3 = .ok (.invokevirtual 633, 3) := by decide +kernel
theorem dJ0_indexOf_0f7a4_6 : decode cJ0_indexOf_0f7a4 6 = .ok (.ireturn, 1) := by decide +kernel
theorem dJ0_indexOf_7cf53_0 : decode cJ0_indexOf_7cf53 0 = .ok (.aload_n 0, 1) := by decide +kernel
theorem dJ0_indexOf_7cf53_1 : decode cJ0_indexOf_7cf53 1 = .ok (.invokevirtual 492, 3) := by decide +kernel
theorem dJ0_indexOf_7cf53_4 : decode cJ0_indexOf_7cf53 4 = .ok (.ifCond .eq 19, 3) := by decide +kernel
theorem dJ0_indexOf_7cf53_7 : decode cJ0_indexOf_7cf53 7 = .ok (.aload_n 0, 1) := by decide +kernel
theorem dJ0_indexOf_7cf53_8 : decode cJ0_indexOf_7cf53 8 = .ok (.getfield 9, 3) := by decide +kernel
theorem dJ0_indexOf_7cf53_11 : decode cJ0_indexOf_7cf53 11 = .ok (.iload_n 1, 1) := by decide +kernel
theorem dJ0_indexOf_7cf53_12 : decode cJ0_indexOf_7cf53 12 = .ok (.iload_n 2, 1) := by decide +kernel
theorem dJ0_indexOf_7cf53_13 : decode cJ0_indexOf_7cf53 13 = .ok (.aload_n 0, 1) := by decide +kernel
theorem dJ0_indexOf_7cf53_14 : decode cJ0_indexOf_7cf53 14 = .ok (.invokevirtual 505, 3) := by decide +kernel
theorem dJ0_indexOf_7cf53_17 : decode cJ0_indexOf_7cf53 17 = .ok (.invokestatic 637, 3) := by decide +kernel
theorem dJ0_indexOf_7cf53_20 : decode cJ0_indexOf_7cf53 20 = .ok (.goto 16, 3) := by decide +kernel
theorem dJ0_indexOf_7cf53_23 : decode cJ0_indexOf_7cf53 23 = .ok (.aload_n 0, 1) := by decide +kernel
theorem dJ0_indexOf_7cf53_24 : decode cJ0_indexOf_7cf53 24 = .ok (.getfield 9, 3) := by decide +kernel
theorem dJ0_indexOf_7cf53_27 : decode cJ0_indexOf_7cf53 27 = .ok (.iload_n 1, 1) := by decide +kernel
theorem dJ0_indexOf_7cf53_28 : decode cJ0_indexOf_7cf53 28 = .ok (.iload_n 2, 1) := by decide +kernel
theorem dJ0_indexOf_7cf53_29 : decode cJ0_indexOf_7cf53 29 = .ok (.aload_n 0, 1) := by decide +kernel
theorem dJ0_indexOf_7cf53_30 : decode cJ0_indexOf_7cf53 30 = .ok (.invokevirtual 505, 3) := by decide +kernel
theorem dJ0_indexOf_7cf53_33 : decode cJ0_indexOf_7cf53 33 = .ok (.invokestatic 640, 3) := by decide +kernel
theorem dJ0_indexOf_7cf53_36 : decode cJ0_indexOf_7cf53 36 = .ok (.ireturn, 1) := by decide +kernel
theorem dJ0_coder_7d493_0 : decode cJ0_coder_7d493 0 = .ok (.getstatic 38, 3) := by decide +kernel
theorem dJ0_coder_7d493_3 : decode cJ0_coder_7d493 3 = .ok (.ifCond .eq 10, 3) := by decide +kernel
theorem dJ0_coder_7d493_6 : decode cJ0_coder_7d493 6 = .ok (.aload_n 0, 1) := by decide +kernel
theorem dJ0_coder_7d493_7 : decode cJ0_coder_7d493 7 = .ok (.getfield 15, 3) := by decide +kernel
theorem dJ0_coder_7d493_10 : decode cJ0_coder_7d493 10 = .ok (.goto 4, 3) := by decide +kernel
theorem dJ0_coder_7d493_13 : decode cJ0_coder_7d493 13 = .ok (.iconst 1, 1) := by decide +kernel
theorem dJ0_coder_7d493_14 : decode cJ0_coder_7d493 14 = .ok (.ireturn, 1) := by decide +kernel
theorem dJ0_isLatin1_aae02_0 : decode cJ0_isLatin1_aae02 0 = .ok (.getstatic 38, 3) := by decide +kernel
theorem dJ0_isLatin1_aae02_3 : decode cJ0_isLatin1_aae02 3 = .ok (.ifCond .eq 14, 3) := by decide +kernel
theorem dJ0_isLatin1_aae02_6 : decode cJ0_isLatin1_aae02 6 = .ok (.aload_n 0, 1) := by decide +kernel
theorem dJ0_isLatin1_aae02_7 : decode cJ0_isLatin1_aae02 7 = .ok (.getfield 15, 3) := by decide +kernel
theorem dJ0_isLatin1_aae02_10 : decode cJ0_isLatin1_aae02 10 = .ok (.ifCond .ne 7, 3) := by decide +kernel
theorem dJ0_isLatin1_aae02_13 : decode cJ0_isLatin1_aae02 13 = .ok (.iconst 1, 1) := by decide +kernel
theorem dJ0_isLatin1_aae02_14 : decode cJ0_isLatin1_aae02 14 = .ok (.goto 4, 3) := by decide +kernel
theorem dJ0_isLatin1_aae02_17 : decode cJ0_isLatin1_aae02 17 = .ok (.iconst 0, 1) := by decide +kernel
theorem dJ0_isLatin1_aae02_18 : decode cJ0_isLatin1_aae02 18 = .ok (.ireturn, 1) := by decide +kernel
theorem dJ0_checkBoundsBeginEnd_23922_0 : decode cJ0_checkBoundsBeginEnd_23922 0 = .ok (.iload_n 0, 1) := by decide +kernel
theorem dJ0_checkBoundsBeginEnd_23922_1 : decode cJ0_checkBoundsBeginEnd_23922 1 = .ok (.iload_n 1, 1) := by decide +kernel
theorem dJ0_checkBoundsBeginEnd_23922_2 : decode cJ0_checkBoundsBeginEnd_23922 2 = .ok (.iload_n 2, 1) := by decide +kernel
theorem dJ0_checkBoundsBeginEnd_23922_3 : decode cJ0_checkBoundsBeginEnd_23922 3 = .ok (.getstatic 1053, 3) := by decide +kernel
theorem dJ0_checkBoundsBeginEnd_23922_6 : decode cJ0_checkBoundsBeginEnd_23922 6 = .ok (.invokestatic 1062, 3) := by decide +kernel
theorem dJ0_checkBoundsBeginEnd_23922_9 : decode cJ0_checkBoundsBeginEnd_23922 9 = .ok (.pop, 1) := by decide +kernel
theorem dJ0_checkBoundsBeginEnd_23922_10 : decode cJ0_checkBoundsBeginEnd_23922 10 = .ok (.return_, 1) := by decide +kernel
theorem dJ1_canEncode_9a6ad_0 : decode cJ1_canEncode_9a6ad 0 = .ok (.iload_n 0, 1) := by decide +kernel
theorem dJ1_canEncode_9a6ad_1 : decode cJ1_canEncode_9a6ad 1 = .ok (.ifCond .lt 14, 3) := by decide +kernel
theorem dJ1_canEncode_9a6ad_4 : decode cJ1_canEncode_9a6ad 4 = .ok (.iload_n 0, 1) := by decide +kernel
theorem dJ1_canEncode_9a6ad_5 : decode cJ1_canEncode_9a6ad 5 = .ok (.sipush 255, 3) := by decide +kernel
theorem dJ1_canEncode_9a6ad_8 : decode cJ1_canEncode_9a6ad 8 = .ok (.if_icmp .gt 7, 3) := by decide +kernel
theorem dJ1_canEncode_9a6ad_11 : decode cJ1_canEncode_9a6ad 11 = .ok (.iconst 1, 1) := by decide +kernel
theorem dJ1_canEncode_9a6ad_12 : decode cJ1_canEncode_9a6ad 12 = .ok (.goto 4, 3) := by decide +kernel
theorem dJ1_canEncode_9a6ad_15 : decode cJ1_canEncode_9a6ad 15 = .ok (.iconst 0, 1) := by decide +kernel
theorem dJ1_canEncode_9a6ad_16 : decode cJ1_canEncode_9a6ad 16 = .ok (.ireturn, 1) := by decide +kernel
theorem dJ1_indexOf_4cfef_0 : decode cJ1_indexOf_4cfef 0 = .ok (.iload_n 1, 1) := by decide +kernel
theorem dJ1_indexOf_4cfef_1 : decode cJ1_indexOf_4cfef 1 = .ok (.invokestatic 88, 3) := by decide +kernel
theorem dJ1_indexOf_4cfef_4 : decode cJ1_indexOf_4cfef 4 = .ok (.ifCond .ne 5, 3) := by decide +kernel
theorem dJ1_indexOf_4cfef_7 : decode cJ1_indexOf_4cfef 7 = .ok (.iconst (-1), 1) := by decide +kernel
theorem dJ1_indexOf_4cfef_8 : decode cJ1_indexOf_4cfef 8 = .ok (.ireturn, 1) := by decide +kernel
theorem dJ1_indexOf_4cfef_9 : decode cJ1_indexOf_4cfef 9 = .ok (.iload_n 2, 1) := by decide +kernel
theorem dJ1_indexOf_4cfef_10 : decode cJ1_indexOf_4cfef 10 = .ok (.iconst 0, 1) := by decide +kernel
theorem dJ1_indexOf_4cfef_11 : decode cJ1_indexOf_4cfef 11 = .ok (.invokestatic 92, 3) := by decide +kernel
theorem dJ1_indexOf_4cfef_14 : decode cJ1_indexOf_4cfef 14 = .ok (.istore_n 2, 1) := by decide +kernel
theorem dJ1_indexOf_4cfef_15 : decode cJ1_indexOf_4cfef 15 = .ok (.iload_n 3, 1) := by decide +kernel
theorem dJ1_indexOf_4cfef_16 : decode cJ1_indexOf_4cfef 16 = .ok (.aload_n 0, 1) := by decide +kernel
theorem dJ1_indexOf_4cfef_17 : decode cJ1_indexOf_4cfef 17 = .ok (.arraylength, 1) := by decide +kernel
theorem dJ1_indexOf_4cfef_18 : decode cJ1_indexOf_4cfef 18 = .ok (.invokestatic 38, 3) := by decide +kernel
theorem dJ1_indexOf_4cfef_21 : decode cJ1_indexOf_4cfef 21 = .ok (.istore_n 3, 1) := by decide +kernel
theorem dJ1_indexOf_4cfef_22 : decode cJ1_indexOf_4cfef 22 = .ok (.iload_n 2, 1) := by decide +kernel
theorem dJ1_indexOf_4cfef_23 : decode cJ1_indexOf_4cfef 23 = .ok (.iload_n 3, 1) := by decide +kernel
theorem dJ1_indexOf_4cfef_24 : decode cJ1_indexOf_4cfef 24 = .ok (.if_icmp .lt 5, 3) := by decide +kernel
theorem dJ1_indexOf_4cfef_27 : decode cJ1_indexOf_4cfef 27 = .ok (.iconst (-1), 1) := by decide +kernel
theorem dJ1_indexOf_4cfef_28 : decode cJ1_indexOf_4cfef 28 = .ok (.ireturn, 1) := by decide +kernel
theorem dJ1_indexOf_4cfef_29 : decode cJ1_indexOf_4cfef 29 = .ok (.aload_n 0, 1) := by decide +kernel
theorem dJ1_indexOf_4cfef_30 : decode cJ1_indexOf_4cfef 30 = .ok (.iload_n 1, 1) := by decide +kernel
theorem dJ1_indexOf_4cfef_31 : decode cJ1_indexOf_4cfef 31 = .ok (.iload_n 2, 1) := by decide +kernel
theorem dJ1_indexOf_4cfef_32 : decode cJ1_indexOf_4cfef 32 = .ok (.iload_n 3, 1) := by decide +kernel
theorem dJ1_indexOf_4cfef_33 : decode cJ1_indexOf_4cfef 33 = .ok (.invokestatic 95, 3) := by decide +kernel
theorem dJ1_indexOf_4cfef_36 : decode cJ1_indexOf_4cfef 36 = .ok (.ireturn, 1) := by decide +kernel
theorem dJ1_indexOfChar_4cfef_0 : decode cJ1_indexOfChar_4cfef 0 = .ok (.iload_n 1, 1) := by decide +kernel
theorem dJ1_indexOfChar_4cfef_1 : decode cJ1_indexOfChar_4cfef 1 = .ok (.i2b, 1) := by decide +kernel
theorem dJ1_indexOfChar_4cfef_2 : decode cJ1_indexOfChar_4cfef 2 = .ok (.istore 4, 2) := by decide +kernel
theorem dJ1_indexOfChar_4cfef_4 : decode cJ1_indexOfChar_4cfef 4 = .ok (.iload_n 2, 1) := by decide +kernel
theorem dJ1_indexOfChar_4cfef_5 : decode cJ1_indexOfChar_4cfef 5 = .ok (.istore 5, 2) := by decide +kernel
theorem dJ1_indexOfChar_4cfef_7 : decode cJ1_indexOfChar_4cfef 7 = .ok (.iload 5, 2) := by decide +kernel
theorem dJ1_indexOfChar_4cfef_9 : decode cJ1_indexOfChar_4cfef 9 = .ok (.iload_n 3, 1) := by decide +kernel
theorem dJ1_indexOfChar_4cfef_10 : decode cJ1_indexOfChar_4cfef 10 = .ok (.if_icmp .ge 21, 3) := by decide +kernel
theorem dJ1_indexOfChar_4cfef_13 : decode cJ1_indexOfChar_4cfef 13 = .ok (.aload_n 0, 1) := by decide +kernel
theorem dJ1_indexOfChar_4cfef_14 : decode cJ1_indexOfChar_4cfef 14 = .ok (.iload 5, 2) := by decide +kernel
theorem dJ1_indexOfChar_4cfef_16 : decode cJ1_indexOfChar_4cfef 16 = .ok (.baload, 1) := by decide +kernel
theorem dJ1_indexOfChar_4cfef_17 : decode cJ1_indexOfChar_4cfef 17 = .ok (.iload 4, 2) := by decide +kernel
theorem dJ1_indexOfChar_4cfef_19 : decode cJ1_indexOfChar_4cfef 19 = .ok (.if_icmp .ne 6, 3) := by decide +kernel
theorem dJ1_indexOfChar_4cfef_22 : decode cJ1_indexOfChar_4cfef 22 = .ok (.iload 5, 2) := by decide +kernel
theorem dJ1_indexOfChar_4cfef_24 : decode cJ1_indexOfChar_4cfef 24 = .ok (.ireturn, 1) := by decide +kernel
theorem dJ1_indexOfChar_4cfef_25 : decode cJ1_indexOfChar_4cfef 25 = .ok (.iinc 5 1, 3) := by decide +kernel
theorem dJ1_indexOfChar_4cfef_28 : decode cJ1_indexOfChar_4cfef 28 = .ok (.goto (-21), 3) := by decide +kernel
theorem dJ1_indexOfChar_4cfef_31 : decode cJ1_indexOfChar_4cfef 31 = .ok (.iconst (-1), 1) := by decide +kernel
theorem dJ1_indexOfChar_4cfef_32 : decode cJ1_indexOfChar_4cfef 32 = .ok (.ireturn, 1) := by decide +kernel
theorem dJ2_getChar_3b067_0 : decode cJ2_getChar_3b067 0 = .ok (.getstatic 44, 3) := by decide +kernel
theorem dJ2_getChar_3b067_3 : decode cJ2_getChar_3b067 3 = .ok (.ifCond .ne 25, 3) := by decide +kernel
theorem dJ2_getChar_3b067_6 : decode cJ2_getChar_3b067 6 = .ok (.iload_n 1, 1) := by decide +kernel
theorem dJ2_getChar_3b067_7 : decode cJ2_getChar_3b067 7 = .ok (.ifCond .lt 11, 3) := by decide +kernel
theorem dJ2_getChar_3b067_10 : decode cJ2_getChar_3b067 10 = .ok (.iload_n 1, 1) := by decide +kernel
theorem dJ2_getChar_3b067_11 : decode cJ2_getChar_3b067 11 = .ok (.aload_n 0, 1) := by decide +kernel
theorem dJ2_getChar_3b067_12 : decode cJ2_getChar_3b067 12 = .ok (.invokestatic 48, 3) := by decide +kernel
theorem dJ2_getChar_3b067_15 : decode cJ2_getChar_3b067 15 = .ok (.if_icmp .lt 13, 3) := by decide +kernel
theorem dJ2_getChar_3b067_18 : decode cJ2_getChar_3b067 18 = .ok (.new 52, 3) := by decide +kernel
theorem dJ2_getChar_3b067_21 : decode cJ2_getChar_3b067 21 = .ok (.dup, 1) := by decide +kernel
theorem dJ2_getChar_3b067_22 : decode cJ2_getChar_3b067 22 = .ok (.ldc 54, 2) := by decide +kernel
theorem dJ2_getChar_3b067_24 : decode cJ2_getChar_3b067 24 = .ok (.invokespecial 56, 3) := by decide +kernel
theorem dJ2_getChar_3b067_27 : decode cJ2_getChar_3b067 27 = .ok (.athrow, 1) := by decide +kernel
theorem dJ2_getChar_3b067_28 : decode cJ2_getChar_3b067 28 = .ok (.iload_n 1, 1) := by decide +kernel
theorem dJ2_getChar_3b067_29 : decode cJ2_getChar_3b067 29 = .ok (.iconst 1, 1) := by decide +kernel
theorem dJ2_getChar_3b067_30 : decode cJ2_getChar_3b067 30 = .ok (.ishl, 1) := by decide +kernel
theorem dJ2_getChar_3b067_31 : decode cJ2_getChar_3b067 31 = .ok (.istore_n 1, 1) := by decide +kernel
theorem dJ2_getChar_3b067_32 : decode cJ2_getChar_3b067 32 = .ok (.aload_n 0, 1) := by decide +kernel
theorem dJ2_getChar_3b067_33 : decode cJ2_getChar_3b067 33 = .ok (.iload_n 1, 1) := by decide +kernel
theorem dJ2_getChar_3b067_34 : decode cJ2_getChar_3b067 34 = .ok (.iinc 1 1, 3) := by decide +kernel
theorem dJ2_getChar_3b067_37 : decode cJ2_getChar_3b067 37 = .ok (.baload, 1) := by decide +kernel
theorem dJ2_getChar_3b067_38 : decode cJ2_getChar_3b067 38 = .ok (.sipush 255, 3) := by decide +kernel
theorem dJ2_getChar_3b067_41 : decode cJ2_getChar_3b067 41 = .ok (.iand, 1) := by decide +kernel
theorem dJ2_getChar_3b067_42 : decode cJ2_getChar_3b067 42 = .ok (.getstatic 59, 3) := by decide +kernel
theorem dJ2_getChar_3b067_45 : decode cJ2_getChar_3b067 45 = .ok (.ishl, 1) := by decide +kernel
theorem dJ2_getChar_3b067_46 : decode cJ2_getChar_3b067 46 = .ok (.aload_n 0, 1) := by decide +kernel
theorem dJ2_getChar_3b067_47 : decode cJ2_getChar_3b067 47 = .ok (.iload_n 1, 1) := by decide +kernel
theorem dJ2_getChar_3b067_48 : decode cJ2_getChar_3b067 48 = .ok (.baload, 1) := by decide +kernel
theorem dJ2_getChar_3b067_49 : decode cJ2_getChar_3b067 49 = .ok (.sipush 255, 3) := by decide +kernel
theorem dJ2_getChar_3b067_52 : decode cJ2_getChar_3b067 52 = .ok (.iand, 1) := by decide +kernel
theorem dJ2_getChar_3b067_53 : decode cJ2_getChar_3b067 53 = .ok (.getstatic 63, 3) := by decide +kernel
theorem dJ2_getChar_3b067_56 : decode cJ2_getChar_3b067 56 = .ok (.ishl, 1) := by decide +kernel
theorem dJ2_getChar_3b067_57 : decode cJ2_getChar_3b067 57 = .ok (.ior, 1) := by decide +kernel
theorem dJ2_getChar_3b067_58 : decode cJ2_getChar_3b067 58 = .ok (.i2c, 1) := by decide +kernel
theorem dJ2_getChar_3b067_59 : decode cJ2_getChar_3b067 59 = .ok (.ireturn, 1) := by decide +kernel
theorem dJ2_length_9d52b_0 : decode cJ2_length_9d52b 0 = .ok (.aload_n 0, 1) := by decide +kernel
theorem dJ2_length_9d52b_1 : decode cJ2_length_9d52b 1 = .ok (.arraylength, 1) := by decide +kernel
theorem dJ2_length_9d52b_2 : decode cJ2_length_9d52b 2 = .ok (.iconst 1, 1) := by decide +kernel
theorem dJ2_length_9d52b_3 : decode cJ2_length_9d52b 3 = .ok (.ishr, 1) := by decide +kernel
theorem dJ2_length_9d52b_4 : decode cJ2_length_9d52b 4 = .ok (.ireturn, 1) := by decide +kernel
theorem dJ2_indexOf_4cfef_0 : decode cJ2_indexOf_4cfef 0 = .ok (.iload_n 2, 1) := by decide +kernel
theorem dJ2_indexOf_4cfef_1 : decode cJ2_indexOf_4cfef 1 = .ok (.iconst 0, 1) := by decide +kernel
theorem dJ2_indexOf_4cfef_2 : decode cJ2_indexOf_4cfef 2 = .ok (.invokestatic 224, 3) := by decide +kernel
theorem dJ2_indexOf_4cfef_5 : decode cJ2_indexOf_4cfef 5 = .ok (.istore_n 2, 1) := by decide +kernel
theorem dJ2_indexOf_4cfef_6 : decode cJ2_indexOf_4cfef 6 = .ok (.iload_n 3, 1) := by decide +kernel
theorem dJ2_indexOf_4cfef_7 : decode cJ2_indexOf_4cfef 7 = .ok (.aload_n 0, 1) := by decide +kernel
theorem dJ2_indexOf_4cfef_8 : decode cJ2_indexOf_4cfef 8 = .ok (.arraylength, 1) := by decide +kernel
theorem dJ2_indexOf_4cfef_9 : decode cJ2_indexOf_4cfef 9 = .ok (.iconst 1, 1) := by decide +kernel
theorem dJ2_indexOf_4cfef_10 : decode cJ2_indexOf_4cfef 10 = .ok (.ishr, 1) := by decide +kernel
theorem dJ2_indexOf_4cfef_11 : decode cJ2_indexOf_4cfef 11 = .ok (.invokestatic 183, 3) := by decide +kernel
theorem dJ2_indexOf_4cfef_14 : decode cJ2_indexOf_4cfef 14 = .ok (.istore_n 3, 1) := by decide +kernel
theorem dJ2_indexOf_4cfef_15 : decode cJ2_indexOf_4cfef 15 = .ok (.iload_n 2, 1) := by decide +kernel
theorem dJ2_indexOf_4cfef_16 : decode cJ2_indexOf_4cfef 16 = .ok (.iload_n 3, 1) := by decide +kernel
theorem dJ2_indexOf_4cfef_17 : decode cJ2_indexOf_4cfef 17 = .ok (.if_icmp .lt 5, 3) := by decide +kernel
theorem dJ2_indexOf_4cfef_20 : decode cJ2_indexOf_4cfef 20 = .ok (.iconst (-1), 1) := by decide +kernel
theorem dJ2_indexOf_4cfef_21 : decode cJ2_indexOf_4cfef 21 = .ok (.ireturn, 1) := by decide +kernel
theorem dJ2_indexOf_4cfef_22 : decode cJ2_indexOf_4cfef 22 = .ok (.iload_n 1, 1) := by decide +kernel
theorem dJ2_indexOf_4cfef_23 : decode cJ2_indexOf_4cfef 23 = .ok (.ldc 227, 2) := by decide +kernel
theorem dJ2_indexOf_4cfef_25 : decode cJ2_indexOf_4cfef 25 = .ok (.if_icmp .ge 11, 3) := by decide +kernel
theorem dJ2_indexOf_4cfef_28 : decode cJ2_indexOf_4cfef 28 = .ok (.aload_n 0, 1) := by decide +kernel
theorem dJ2_indexOf_4cfef_29 : decode cJ2_indexOf_4cfef 29 = .ok (.iload_n 1, 1) := by decide +kernel
theorem dJ2_indexOf_4cfef_30 : decode cJ2_indexOf_4cfef 30 = .ok (.iload_n 2, 1) := by decide +kernel
theorem dJ2_indexOf_4cfef_31 : decode cJ2_indexOf_4cfef 31 = .ok (.iload_n 3, 1) := by decide +kernel
theorem dJ2_indexOf_4cfef_32 : decode cJ2_indexOf_4cfef 32 = .ok (.invokestatic 228, 3) := by decide +kernel
theorem dJ2_indexOf_4cfef_35 : decode cJ2_indexOf_4cfef 35 = .ok (.ireturn, 1) := by decide +kernel
theorem dJ2_indexOf_4cfef_36 : decode cJ2_indexOf_4cfef 36 = .ok (.aload_n 0, 1) := by decide +kernel
theorem dJ2_indexOf_4cfef_37 : decode cJ2_indexOf_4cfef 37 = .ok (.iload_n 1, 1) := by decide +kernel
theorem dJ2_indexOf_4cfef_38 : decode cJ2_indexOf_4cfef 38 = .ok (.iload_n 2, 1) := by decide +kernel
theorem dJ2_indexOf_4cfef_39 : decode cJ2_indexOf_4cfef 39 = .ok (.iload_n 3, 1) := by decide +kernel
theorem dJ2_indexOf_4cfef_40 : decode cJ2_indexOf_4cfef 40 = .ok (.invokestatic 232, 3) := by decide +kernel
theorem dJ2_indexOf_4cfef_43 : decode cJ2_indexOf_4cfef 43 = .ok (.ireturn, 1) := by decide +kernel
theorem dJ2_indexOfChar_4cfef_0 : decode cJ2_indexOfChar_4cfef 0 = .ok (.iload_n 2, 1) := by decide +kernel
theorem dJ2_indexOfChar_4cfef_1 : decode cJ2_indexOfChar_4cfef 1 = .ok (.iload_n 3, 1) := by decide +kernel
theorem dJ2_indexOfChar_4cfef_2 : decode cJ2_indexOfChar_4cfef 2 = .ok (.aload_n 0, 1) := by decide +kernel
theorem dJ2_indexOfChar_4cfef_3 : decode cJ2_indexOfChar_4cfef 3 = .ok (.invokestatic 96, 3) := by decide +kernel
theorem dJ2_indexOfChar_4cfef_6 : decode cJ2_indexOfChar_4cfef 6 = .ok (.aload_n 0, 1) := by decide +kernel
theorem dJ2_indexOfChar_4cfef_7 : decode cJ2_indexOfChar_4cfef 7 = .ok (.iload_n 1, 1) := by decide +kernel
theorem dJ2_indexOfChar_4cfef_8 : decode cJ2_indexOfChar_4cfef 8 = .ok (.iload_n 2, 1) := by decide +kernel
theorem dJ2_indexOfChar_4cfef_9 : decode cJ2_indexOfChar_4cfef 9 = .ok (.iload_n 3, 1) := by decide +kernel
theorem dJ2_indexOfChar_4cfef_10 : decode cJ2_indexOfChar_4cfef 10 = .ok (.invokestatic 244, 3) := by decide +kernel
theorem dJ2_indexOfChar_4cfef_13 : decode cJ2_indexOfChar_4cfef 13 = .ok (.ireturn, 1) := by decide +kernel
theorem dJ2_indexOfCharUnsafe_4cfef_0 : decode cJ2_indexOfCharUnsafe_4cfef 0 = .ok (.iload_n 2, 1) := by decide +kernel
theorem dJ2_indexOfCharUnsafe_4cfef_1 : decode cJ2_indexOfCharUnsafe_4cfef 1 = .ok (.istore 4, 2) := by decide +kernel
theorem dJ2_indexOfCharUnsafe_4cfef_3 : decode cJ2_indexOfCharUnsafe_4cfef 3 = .ok (.iload 4, 2) := by decide +kernel
theorem dJ2_indexOfCharUnsafe_4cfef_5 : decode cJ2_indexOfCharUnsafe_4cfef 5 = .ok (.iload_n 3, 1) := by decide +kernel
theorem dJ2_indexOfCharUnsafe_4cfef_6 : decode cJ2_indexOfCharUnsafe_4cfef 6 = .ok (.if_icmp .ge 22, 3) := by decide +kernel
theorem dJ2_indexOfCharUnsafe_4cfef_9 : decode cJ2_indexOfCharUnsafe_4cfef 9 = .ok (.aload_n 0, 1) := by decide +kernel
theorem dJ2_indexOfCharUnsafe_4cfef_10 : decode cJ2_indexOfCharUnsafe_4cfef 10 = .ok (.iload 4, 2) := by decide +kernel
theorem dJ2_indexOfCharUnsafe_4cfef_12 : decode cJ2_indexOfCharUnsafe_4cfef 12 = .ok (.invokestatic 71, 3) := by decide +kernel
theorem dJ2_indexOfCharUnsafe_4cfef_15 : decode cJ2_indexOfCharUnsafe_4cfef 15 = .ok (.iload_n 1, 1) := by decide +kernel
theorem dJ2_indexOfCharUnsafe_4cfef_16 : decode cJ2_indexOfCharUnsafe_4cfef 16 = .ok (.if_icmp .ne 6, 3) := by decide +kernel
theorem dJ2_indexOfCharUnsafe_4cfef_19 : decode cJ2_indexOfCharUnsafe_4cfef 19 = .ok (.iload 4, 2) := by decide +kernel
theorem dJ2_indexOfCharUnsafe_4cfef_21 : decode cJ2_indexOfCharUnsafe_4cfef 21 = .ok (.ireturn, 1) := by decide +kernel
theorem dJ2_indexOfCharUnsafe_4cfef_22 : decode cJ2_indexOfCharUnsafe_4cfef 22 = .ok (.iinc 4 1, 3) := by decide +kernel
theorem dJ2_indexOfCharUnsafe_4cfef_25 : decode cJ2_indexOfCharUnsafe_4cfef 25 = .ok (.goto (-22), 3) := by decide +kernel
theorem dJ2_indexOfCharUnsafe_4cfef_28 : decode cJ2_indexOfCharUnsafe_4cfef 28 = .ok (.iconst (-1), 1) := by decide +kernel
theorem dJ2_indexOfCharUnsafe_4cfef_29 : decode cJ2_indexOfCharUnsafe_4cfef 29 = .ok (.ireturn, 1) := by decide +kernel
theorem dJ2_indexOfSupplementary_4cfef_0 : decode cJ2_indexOfSupplementary_4cfef 0 = .ok (.iload_n 1, 1) := by decide +kernel
theorem dJ2_indexOfSupplementary_4cfef_1 : decode cJ2_indexOfSupplementary_4cfef 1 = .ok (.invokestatic 164, 3) := by decide +kernel
theorem dJ2_indexOfSupplementary_4cfef_4 : decode cJ2_indexOfSupplementary_4cfef 4 = .ok (.ifCond .eq 65, 3) := by decide +kernel
theorem dJ2_indexOfSupplementary_4cfef_7 : decode cJ2_indexOfSupplementary_4cfef 7 = .ok (.iload_n 1, 1) := by decide +kernel
theorem dJ2_indexOfSupplementary_4cfef_8 : decode cJ2_indexOfSupplementary_4cfef 8 = .ok (.invokestatic 157, 3) := by decide +kernel
theorem dJ2_indexOfSupplementary_4cfef_11 : decode cJ2_indexOfSupplementary_4cfef 11 = .ok (.istore 4, 2) := by decide +kernel
theorem dJ2_indexOfSupplementary_4cfef_13 : decode cJ2_indexOfSupplementary_4cfef 13 = .ok (.iload_n 1, 1) := by decide +kernel
theorem dJ2_indexOfSupplementary_4cfef_14 : decode cJ2_indexOfSupplementary_4cfef 14 = .ok (.invokestatic 161, 3) := by decide +kernel
theorem dJ2_indexOfSupplementary_4cfef_17 : decode cJ2_indexOfSupplementary_4cfef 17 = .ok (.istore 5, 2) := by decide +kernel
theorem dJ2_indexOfSupplementary_4cfef_19 : decode cJ2_indexOfSupplementary_4cfef 19 = .ok (.iload_n 2, 1) := by decide +kernel
theorem dJ2_indexOfSupplementary_4cfef_20 : decode cJ2_indexOfSupplementary_4cfef 20 = .ok (.iload_n 3, 1) := by decide +kernel
theorem dJ2_indexOfSupplementary_4cfef_21 : decode cJ2_indexOfSupplementary_4cfef 21 = .ok (.aload_n 0, 1) := by decide +kernel
theorem dJ2_indexOfSupplementary_4cfef_22 : decode cJ2_indexOfSupplementary_4cfef 22 = .ok (.invokestatic 96, 3) := by decide +kernel
theorem dJ2_indexOfSupplementary_4cfef_25 : decode cJ2_indexOfSupplementary_4cfef 25 = .ok (.iload_n 2, 1) := by decide +kernel
theorem dJ2_indexOfSupplementary_4cfef_26 : decode cJ2_indexOfSupplementary_4cfef 26 = .ok (.istore 6, 2) := by decide +kernel
theorem dJ2_indexOfSupplementary_4cfef_28 : decode cJ2_indexOfSupplementary_4cfef 28 = .ok (.iload 6, 2) := by decide +kernel
theorem dJ2_indexOfSupplementary_4cfef_30 : decode cJ2_indexOfSupplementary_4cfef 30 = .ok (.iload_n 3, 1) := by decide +kernel
theorem dJ2_indexOfSupplementary_4cfef_31 : decode cJ2_indexOfSupplementary_4cfef 31 = .ok (.iconst 1, 1) := by decide +kernel
theorem dJ2_indexOfSupplementary_4cfef_32 : decode cJ2_indexOfSupplementary_4cfef 32 = .ok (.isub, 1) := by decide +kernel
theorem dJ2_indexOfSupplementary_4cfef_33 : decode cJ2_indexOfSupplementary_4cfef 33 = .ok (.if_icmp .ge 36, 3) := by decide +kernel
theorem dJ2_indexOfSupplementary_4cfef_36 : decode cJ2_indexOfSupplementary_4cfef 36 = .ok (.aload_n 0, 1) := by decide +kernel
theorem dJ2_indexOfSupplementary_4cfef_37 : decode cJ2_indexOfSupplementary_4cfef 37 = .ok (.iload 6, 2) := by decide +kernel
theorem dJ2_indexOfSupplementary_4cfef_39 : decode cJ2_indexOfSupplementary_4cfef 39 = .ok (.invokestatic 71, 3) := by decide +kernel
theorem dJ2_indexOfSupplementary_4cfef_42 : decode cJ2_indexOfSupplementary_4cfef 42 = .ok (.iload 4, 2) := by decide +kernel
theorem dJ2_indexOfSupplementary_4cfef_44 : decode cJ2_indexOfSupplementary_4cfef 44 = .ok (.if_icmp .ne 19, 3) := by decide +kernel
theorem dJ2_indexOfSupplementary_4cfef_47 : decode cJ2_indexOfSupplementary_4cfef 47 = .ok (.aload_n 0, 1) := by decide +kernel
theorem dJ2_indexOfSupplementary_4cfef_48 : decode cJ2_indexOfSupplementary_4cfef 48 = .ok (.iload 6, 2) := by decide +kernel
theorem dJ2_indexOfSupplementary_4cfef_50 : decode cJ2_indexOfSupplementary_4cfef 50 = .ok (.iconst 1, 1) := by decide +kernel
theorem dJ2_indexOfSupplementary_4cfef_51 : decode cJ2_indexOfSupplementary_4cfef 51 = .ok (.iadd, 1) := by decide +kernel
theorem dJ2_indexOfSupplementary_4cfef_52 : decode cJ2_indexOfSupplementary_4cfef 52 = .ok (.invokestatic 71, 3) := by decide +kernel
theorem dJ2_indexOfSupplementary_4cfef_55 : decode cJ2_indexOfSupplementary_4cfef 55 = .ok (.iload 5, 2) := by decide +kernel
theorem dJ2_indexOfSupplementary_4cfef_57 : decode cJ2_indexOfSupplementary_4cfef 57 = .ok (.if_icmp .ne 6, 3) := by decide +kernel
theorem dJ2_indexOfSupplementary_4cfef_60 : decode cJ2_indexOfSupplementary_4cfef 60 = .ok (.iload 6, 2) := by decide +kernel
theorem dJ2_indexOfSupplementary_4cfef_62 : decode cJ2_indexOfSupplementary_4cfef 62 = .ok (.ireturn, 1) := by decide +kernel
theorem dJ2_indexOfSupplementary_4cfef_63 : decode cJ2_indexOfSupplementary_4cfef 63 = .ok (.iinc 6 1, 3) := by decide +kernel
theorem dJ2_indexOfSupplementary_4cfef_66 : decode cJ2_indexOfSupplementary_4cfef 66 = .ok (.goto (-38), 3) := by decide +kernel
theorem dJ2_indexOfSupplementary_4cfef_69 : decode cJ2_indexOfSupplementary_4cfef 69 = .ok (.iconst (-1), 1) := by decide +kernel
theorem dJ2_indexOfSupplementary_4cfef_70 : decode cJ2_indexOfSupplementary_4cfef 70 = .ok (.ireturn, 1) := by decide +kernel
theorem dJ2_checkBoundsBeginEnd_d044e_0 : decode cJ2_checkBoundsBeginEnd_d044e 0 = .ok (.iload_n 0, 1) := by decide +kernel
theorem dJ2_checkBoundsBeginEnd_d044e_1 : decode cJ2_checkBoundsBeginEnd_d044e 1 = .ok (.iload_n 1, 1) := by decide +kernel
theorem dJ2_checkBoundsBeginEnd_d044e_2 : decode cJ2_checkBoundsBeginEnd_d044e 2 = .ok (.aload_n 2, 1) := by decide +kernel
theorem dJ2_checkBoundsBeginEnd_d044e_3 : decode cJ2_checkBoundsBeginEnd_d044e 3 = .ok (.invokestatic 48, 3) := by decide +kernel
theorem dJ2_checkBoundsBeginEnd_d044e_6 : decode cJ2_checkBoundsBeginEnd_d044e 6 = .ok (.invokestatic 241, 3) := by decide +kernel
theorem dJ2_checkBoundsBeginEnd_d044e_9 : decode cJ2_checkBoundsBeginEnd_d044e 9 = .ok (.return_, 1) := by decide +kernel
theorem dJ3_checkFromToIndex_8c36e_0 : decode cJ3_checkFromToIndex_8c36e 0 = .ok (.iload_n 0, 1) := by decide +kernel
theorem dJ3_checkFromToIndex_8c36e_1 : decode cJ3_checkFromToIndex_8c36e 1 = .ok (.ifCond .lt 13, 3) := by decide +kernel
theorem dJ3_checkFromToIndex_8c36e_4 : decode cJ3_checkFromToIndex_8c36e 4 = .ok (.iload_n 0, 1) := by decide +kernel
theorem dJ3_checkFromToIndex_8c36e_5 : decode cJ3_checkFromToIndex_8c36e 5 = .ok (.iload_n 1, 1) := by decide +kernel
theorem dJ3_checkFromToIndex_8c36e_6 : decode cJ3_checkFromToIndex_8c36e 6 = .ok (.if_icmp .gt 8, 3) := by decide +kernel
theorem dJ3_checkFromToIndex_8c36e_9 : decode cJ3_checkFromToIndex_8c36e 9 = .ok (.iload_n 1, 1) := by decide +kernel
theorem dJ3_checkFromToIndex_8c36e_10 : decode cJ3_checkFromToIndex_8c36e 10 = .ok (.iload_n 2, 1) := by decide +kernel
theorem dJ3_checkFromToIndex_8c36e_11 : decode cJ3_checkFromToIndex_8c36e 11 = .ok (.if_icmp .le 11, 3) := by decide +kernel
theorem dJ3_checkFromToIndex_8c36e_14 : decode cJ3_checkFromToIndex_8c36e 14 = .ok (.aload_n 3, 1) := by decide +kernel
theorem dJ3_checkFromToIndex_8c36e_15 : decode cJ3_checkFromToIndex_8c36e 15 = .ok (.iload_n 0, 1) := by decide +kernel
theorem dJ3_checkFromToIndex_8c36e_16 : decode cJ3_checkFromToIndex_8c36e 16 = .ok (.iload_n 1, 1) := by decide +kernel
theorem dJ3_checkFromToIndex_8c36e_17 : decode cJ3_checkFromToIndex_8c36e 17 = .ok (.iload_n 2, 1) := by decide +kernel
theorem dJ3_checkFromToIndex_8c36e_18 : decode cJ3_checkFromToIndex_8c36e 18 = .ok (.invokestatic 99, 3) := by decide +kernel
theorem dJ3_checkFromToIndex_8c36e_21 : decode cJ3_checkFromToIndex_8c36e 21 = .ok (.athrow, 1) := by decide +kernel
theorem dJ3_checkFromToIndex_8c36e_22 : decode cJ3_checkFromToIndex_8c36e 22 = .ok (.iload_n 0, 1) := by decide +kernel
theorem dJ3_checkFromToIndex_8c36e_23 : decode cJ3_checkFromToIndex_8c36e 23 = .ok (.ireturn, 1) := by decide +kernel
end
section
/-- the words that a callee may take from its caller -/
def BG : List Cond := lw_tbl.filter goodWord
theorem bg_of {w : Cond} (i : Nat) (h : lw_tbl[i]? = some w) (hg : goodWord w = true) : w ∈ BG := List.mem_filter.mpr ⟨List.mem_of_getElem? h, hg⟩
theorem bg_good : ∀ w ∈ BG, goodWord w = true := fun w h => (List.mem_filter.mp h).2
theorem bg_tbl : ∀ w ∈ BG, w ∈ lw_tbl := fun w h => (List.mem_filter.mp h).1
theorem wd_0 : (.selects "BetsOnBets" yX11_taken yX11_taken : Cond) ∈ BG := bg_of 0 (by decide +kernel) rfl
theorem wd_1 : (.selects "BetsOnBets" yX11_refused yX11_refused : Cond) ∈ BG := bg_of 1 (by decide +kernel) rfl
theorem wd_2 : (.selects "BetsOnBets$Reader" yX8_oneOf yX8_oneOf : Cond) ∈ BG := bg_of 2 (by decide +kernel) rfl
theorem wd_3 : (.selects "BetsOnBets$Reader" yX8_nextIn yX8_nextIn : Cond) ∈ BG := bg_of 3 (by decide +kernel) rfl
theorem wd_4 : (.selects "BetsOnBets$Reader" yX8_oneOrTwoDigits yX8_oneOrTwoDigits : Cond) ∈ BG := bg_of 4 (by decide +kernel) rfl
theorem wd_5 : (.selects "BetsOnBets$Reader" yX8_readBet yX8_readBet : Cond) ∈ BG := bg_of 5 (by decide +kernel) rfl
theorem wd_6 : (.selects "BetsOnBets$Reader" yX8_readMark yX8_readMark : Cond) ∈ BG := bg_of 6 (by decide +kernel) rfl
theorem wd_7 : (.selects "BetsOnBets" yX11_innTold yX11_innTold : Cond) ∈ BG := bg_of 7 (by decide +kernel) rfl
theorem wd_8 : (.selects "BetsOnBets$Book" yX2_comesHappening yX2_comesHappening : Cond) ∈ BG := bg_of 8 (by decide +kernel) rfl
theorem wd_9 : (.selects "BetsOnBets$Book" yX2_comesBet yX2_comesBet : Cond) ∈ BG := bg_of 9 (by decide +kernel) rfl
theorem wd_10 : (.selects "BetsOnBets$Book" yX2_isRight yX2_isRight : Cond) ∈ BG := bg_of 10 (by decide +kernel) rfl
theorem wd_11 : (.selects "BetsOnBets$Book" yX2_isMark yX2_isMark : Cond) ∈ BG := bg_of 11 (by decide +kernel) rfl
theorem wd_12 : (.selects "BetsOnBets$Book" yX2_comesFund yX2_comesFund : Cond) ∈ BG := bg_of 12 (by decide +kernel) rfl
theorem wd_13 : (.selects "BetsOnBets$Ways" yX10_findOf yX10_findOf : Cond) ∈ BG := bg_of 13 (by decide +kernel) rfl
theorem wd_14 : (.selects "BetsOnBets$Ways" yX10_isWay yX10_isWay : Cond) ∈ BG := bg_of 14 (by decide +kernel) rfl
theorem wd_15 : (.selects "BetsOnBets$Ways" yX10_kindOf yX10_kindOf : Cond) ∈ BG := bg_of 15 (by decide +kernel) rfl
theorem wd_16 : (.selects "BetsOnBets" yX11_refusedFar yX11_refusedFar : Cond) ∈ BG := bg_of 16 (by decide +kernel) rfl
theorem wd_17 : (.selects "BetsOnBets" yX11_purseOf yX11_purseOf : Cond) ∈ BG := bg_of 17 (by decide +kernel) rfl
theorem wd_18 : (.selects "BetsOnBets" yX11_bettorsGain yX11_bettorsGain : Cond) ∈ BG := bg_of 18 (by decide +kernel) rfl
theorem wd_19 : (.selects "BetsOnBets" yX11_meanOf yX11_meanOf : Cond) ∈ BG := bg_of 19 (by decide +kernel) rfl
theorem wd_20 : (.selects "BetsOnBets" yX11_extreme yX11_extreme : Cond) ∈ BG := bg_of 20 (by decide +kernel) rfl
theorem wd_21 : (.selects "BetsOnBets" yX11_extremeEnd yX11_extremeEnd : Cond) ∈ BG := bg_of 21 (by decide +kernel) rfl
theorem wd_22 : (.selects "BetsOnBets" yX11_worstOf yX11_worstOf : Cond) ∈ BG := bg_of 22 (by decide +kernel) rfl
theorem wd_23 : (.selects "BetsOnBets" yX11_mostGroups yX11_mostGroups : Cond) ∈ BG := bg_of 23 (by decide +kernel) rfl
theorem wd_24 : (.selects "BetsOnBets" yX11_firstUnlike yX11_firstUnlike : Cond) ∈ BG := bg_of 24 (by decide +kernel) rfl
theorem wd_25 : (.selects "BetsOnBetsModel" yX12_refuse yX12_refuse : Cond) ∈ BG := bg_of 25 (by decide +kernel) rfl
theorem wd_26 : (.selects "BetsOnBetsModel" yX12_reads yX12_reads : Cond) ∈ BG := bg_of 26 (by decide +kernel) rfl
theorem wd_27 : (.selects "BetsOnBetsModel" yX12_readsStatement yX12_readsStatement : Cond) ∈ BG := bg_of 27 (by decide +kernel) rfl
theorem wd_28 : (.selects "BetsOnBetsModel" yX12_sign yX12_sign : Cond) ∈ BG := bg_of 28 (by decide +kernel) rfl
theorem wd_29 : (.selects "BetsOnBetsModel" yX12_readsNumber yX12_readsNumber : Cond) ∈ BG := bg_of 29 (by decide +kernel) rfl
theorem wd_30 : (.selects "BetsOnBetsModel" yX12_readsKind yX12_readsKind : Cond) ∈ BG := bg_of 30 (by decide +kernel) rfl
theorem wd_31 : (.selects "BetsOnBetsModel" yX12_readsMark yX12_readsMark : Cond) ∈ BG := bg_of 31 (by decide +kernel) rfl
theorem wd_32 : (.selects "BetsOnBetsModel" yX12_takes yX12_takes : Cond) ∈ BG := bg_of 32 (by decide +kernel) rfl
theorem wd_33 : (.selects "BetsOnBetsModel" yX12_comes yX12_comes : Cond) ∈ BG := bg_of 33 (by decide +kernel) rfl
theorem wd_34 : (.selects "BetsOnBetsModel" yX12_isMark yX12_isMark : Cond) ∈ BG := bg_of 34 (by decide +kernel) rfl
theorem wd_35 : (.selects "BetsOnBetsModel" yX12_isBet yX12_isBet : Cond) ∈ BG := bg_of 35 (by decide +kernel) rfl
theorem wd_36 : (.selects "BetsOnBetsModel" yX12_get yX12_get : Cond) ∈ BG := bg_of 36 (by decide +kernel) rfl
theorem wd_37 : (.selects "BetsOnBetsModel" yX12_isEnd yX12_isEnd : Cond) ∈ BG := bg_of 37 (by decide +kernel) rfl
theorem wd_38 : (.selects "BetsOnBetsModel" yX12_ends yX12_ends : Cond) ∈ BG := bg_of 38 (by decide +kernel) rfl
theorem wd_39 : (.selects "BetsOnBetsModel" yX12_findsWays yX12_findsWays : Cond) ∈ BG := bg_of 39 (by decide +kernel) rfl
theorem wd_40 : (.selects "BetsOnBetsModel" yX12_isWay yX12_isWay : Cond) ∈ BG := bg_of 40 (by decide +kernel) rfl
theorem wd_41 : (.selects "BetsOnBetsModel" yX12_isWonBy yX12_isWonBy : Cond) ∈ BG := bg_of 41 (by decide +kernel) rfl
theorem wd_42 : (.selects "BetsOnBetsModel" yX12_standingOf yX12_standingOf : Cond) ∈ BG := bg_of 42 (by decide +kernel) rfl
theorem wd_43 : (.selects "BetsOnBetsModel" yX12_purseOf yX12_purseOf : Cond) ∈ BG := bg_of 43 (by decide +kernel) rfl
theorem wd_44 : (.selects "BetsOnBetsModel" yX12_meanOf yX12_meanOf : Cond) ∈ BG := bg_of 44 (by decide +kernel) rfl
theorem wd_45 : (.selects "BetsOnBetsModel" yX12_weightOf yX12_weightOf : Cond) ∈ BG := bg_of 45 (by decide +kernel) rfl
theorem wd_46 : (.selects "BetsOnBetsModel" yX12_wholeWeight yX12_wholeWeight : Cond) ∈ BG := bg_of 46 (by decide +kernel) rfl
theorem wd_47 : (.selects "BetsOnBetsModel" yX12_wrong yX12_wrong : Cond) ∈ BG := bg_of 47 (by decide +kernel) rfl
theorem wd_48 : (.selects "BetsOnBetsModel" yX12_worstEnd yX12_worstEnd : Cond) ∈ BG := bg_of 48 (by decide +kernel) rfl
theorem wd_49 : (.selects "BetsOnBetsModel" yX12_bestEnd yX12_bestEnd : Cond) ∈ BG := bg_of 49 (by decide +kernel) rfl
theorem wd_50 : (.selects "BetsOnBetsModel" yX12_groups yX12_groups : Cond) ∈ BG := bg_of 50 (by decide +kernel) rfl
theorem wd_51 : (.selects "BetsOnBetsModel" yX12_sumOf yX12_sumOf : Cond) ∈ BG := bg_of 51 (by decide +kernel) rfl
theorem wd_52 : (.selects "BetsOnBetsModel" yX12_marked yX12_marked : Cond) ∈ BG := bg_of 52 (by decide +kernel) rfl
theorem wd_53 : (.selects "BetsOnBetsModel" yX12_wrongIn yX12_wrongIn : Cond) ∈ BG := bg_of 53 (by decide +kernel) rfl
theorem wd_54 : (.initialized "BetsOnBetsLaw" : Cond) ∈ BG := bg_of 54 (by decide +kernel) rfl
theorem wd_55 : (.initialized "BetsOnBets" : Cond) ∈ BG := bg_of 55 (by decide +kernel) rfl
theorem wd_56 : (.initialized "BetsOnBets$Row" : Cond) ∈ BG := bg_of 56 (by decide +kernel) rfl
theorem wd_57 : (.initialized "java/lang/Math" : Cond) ∈ BG := bg_of 57 (by decide +kernel) rfl
theorem wd_58 : (.initialized "BetsOnBets$Reader" : Cond) ∈ BG := bg_of 58 (by decide +kernel) rfl
theorem wd_59 : (.initialized "BetsOnBets$Book" : Cond) ∈ BG := bg_of 59 (by decide +kernel) rfl
theorem wd_60 : (.initialized "BetsOnBets$Ways" : Cond) ∈ BG := bg_of 60 (by decide +kernel) rfl
theorem wd_61 : (.initialized "BetsOnBets$Bet" : Cond) ∈ BG := bg_of 61 (by decide +kernel) rfl
theorem wd_62 : (.initialized "BetsOnBets$Plain" : Cond) ∈ BG := bg_of 62 (by decide +kernel) rfl
theorem wd_63 : (.initialized "BetsOnBets$Against" : Cond) ∈ BG := bg_of 63 (by decide +kernel) rfl
theorem wd_64 : (.initialized "BetsOnBets$Both" : Cond) ∈ BG := bg_of 64 (by decide +kernel) rfl
theorem wd_65 : (.initialized "BetsOnBets$Either" : Cond) ∈ BG := bg_of 65 (by decide +kernel) rfl
theorem wd_66 : (.initialized "BetsOnBets$One" : Cond) ∈ BG := bg_of 66 (by decide +kernel) rfl
theorem wd_67 : (.initialized "BetsOnBets$Neither" : Cond) ∈ BG := bg_of 67 (by decide +kernel) rfl
theorem wd_68 : (.initialized "BetsOnBetsModel" : Cond) ∈ BG := bg_of 68 (by decide +kernel) rfl
theorem wd_69 : (.initialized "java/lang/String" : Cond) ∈ BG := bg_of 69 (by decide +kernel) rfl
theorem wd_70 : (.initialized "java/lang/StringLatin1" : Cond) ∈ BG := bg_of 70 (by decide +kernel) rfl
theorem wd_71 : (.initialized "java/lang/StringUTF16" : Cond) ∈ BG := bg_of 71 (by decide +kernel) rfl
theorem wd_72 : (.initialized "jdk/internal/util/Preconditions" : Cond) ∈ BG := bg_of 72 (by decide +kernel) rfl
theorem wd_73 : (.initialized "java/lang/Character" : Cond) ∈ BG := bg_of 73 (by decide +kernel) rfl
theorem wd_74 : (.initialized "java/lang/Integer" : Cond) ∈ BG := bg_of 74 (by decide +kernel) rfl
theorem wd_75 : (.classLink "BetsOnBetsLaw" 7 "BetsOnBets" : Cond) ∈ BG := bg_of 75 (by decide +kernel) rfl
theorem wd_76 : (.instantiable "BetsOnBets" 11 : Cond) ∈ BG := bg_of 76 (by decide +kernel) rfl
theorem wd_77 : (.methodLink "BetsOnBetsLaw" 9 yX11_init : Cond) ∈ BG := bg_of 77 (by decide +kernel) rfl
theorem wd_78 : (.instanceMethod yX11_init : Cond) ∈ BG := bg_of 78 (by decide +kernel) rfl
theorem wd_79 : (Cond.code yX11_init cX11_init 1 none : Cond) ∈ BG := bg_of 79 (by decide +kernel) rfl
theorem wd_80 : (.methodLink "BetsOnBets" 1 objectInit : Cond) ∈ BG := bg_of 80 (by decide +kernel) rfl
theorem wd_81 : (.instanceMethod objectInit : Cond) ∈ BG := bg_of 81 (by decide +kernel) rfl
theorem wd_83 : (.classLink "BetsOnBets" 7 "BetsOnBets$Row" : Cond) ∈ BG := bg_of 83 (by decide +kernel) rfl
theorem wd_84 : (.instantiable "BetsOnBets$Row" 2 : Cond) ∈ BG := bg_of 84 (by decide +kernel) rfl
theorem wd_85 : (.methodLink "BetsOnBets" 11 yX9_init : Cond) ∈ BG := bg_of 85 (by decide +kernel) rfl
theorem wd_86 : (.instanceMethod yX9_init : Cond) ∈ BG := bg_of 86 (by decide +kernel) rfl
theorem wd_87 : (Cond.code yX9_init cX9_init 2 none : Cond) ∈ BG := bg_of 87 (by decide +kernel) rfl
theorem wd_88 : (.methodLink "BetsOnBets$Row" 1 objectInit : Cond) ∈ BG := bg_of 88 (by decide +kernel) rfl
theorem wd_89 : (.methodLink "BetsOnBets$Row" 13 yJ9_max_7cf53 : Cond) ∈ BG := bg_of 89 (by decide +kernel) rfl
theorem wd_90 : (.static yJ9_max_7cf53 : Cond) ∈ BG := bg_of 90 (by decide +kernel) rfl
theorem wd_91 : (Cond.code yJ9_max_7cf53 cJ9_max_7cf53 2 (some .int) : Cond) ∈ BG := bg_of 91 (by decide +kernel) rfl
theorem wd_92 : (.fieldLink "BetsOnBets$Row" 19 "BetsOnBets$Row" "held" "[I" : Cond) ∈ BG := bg_of 92 (by decide +kernel) rfl
theorem wd_93 : (.fieldLink "BetsOnBets$Row" 7 "BetsOnBets$Row" "size" "I" : Cond) ∈ BG := bg_of 93 (by decide +kernel) rfl
theorem wd_101 : (.arrayClass Jvm.ClassFile.FieldType.int : Cond) ∈ BG := bg_of 101 (by decide +kernel) rfl
theorem wd_102 : (.classLink "BetsOnBets" 21 "BetsOnBets$Reader" : Cond) ∈ BG := bg_of 102 (by decide +kernel) rfl
theorem wd_103 : (.instantiable "BetsOnBets$Reader" 4 : Cond) ∈ BG := bg_of 103 (by decide +kernel) rfl
theorem wd_104 : (.methodLink "BetsOnBets" 23 yX8_init : Cond) ∈ BG := bg_of 104 (by decide +kernel) rfl
theorem wd_105 : (.instanceMethod yX8_init : Cond) ∈ BG := bg_of 105 (by decide +kernel) rfl
theorem wd_106 : (Cond.code yX8_init cX8_init 2 none : Cond) ∈ BG := bg_of 106 (by decide +kernel) rfl
theorem wd_107 : (.methodLink "BetsOnBets$Reader" 3 objectInit : Cond) ∈ BG := bg_of 107 (by decide +kernel) rfl
theorem wd_108 : (.fieldLink "BetsOnBets$Reader" 23 "BetsOnBets$Reader" "letters" "LBetsOnBets$Row;" : Cond) ∈ BG := bg_of 108 (by decide +kernel) rfl
theorem wd_109 : (.fieldLink "BetsOnBets$Reader" 9 "BetsOnBets$Reader" "numbers" "[I" : Cond) ∈ BG := bg_of 109 (by decide +kernel) rfl
theorem wd_111 : (.fieldLink "BetsOnBets$Reader" 15 "BetsOnBets$Reader" "place" "I" : Cond) ∈ BG := bg_of 111 (by decide +kernel) rfl
theorem wd_113 : (.fieldLink "BetsOnBets$Reader" 19 "BetsOnBets$Reader" "isStuck" "Z" : Cond) ∈ BG := bg_of 113 (by decide +kernel) rfl
theorem wd_123 : (.classLink "BetsOnBets" 30 "BetsOnBets$Book" : Cond) ∈ BG := bg_of 123 (by decide +kernel) rfl
theorem wd_124 : (.instantiable "BetsOnBets$Book" 5 : Cond) ∈ BG := bg_of 124 (by decide +kernel) rfl
theorem wd_125 : (.methodLink "BetsOnBets" 32 yX2_init : Cond) ∈ BG := bg_of 125 (by decide +kernel) rfl
theorem wd_126 : (.instanceMethod yX2_init : Cond) ∈ BG := bg_of 126 (by decide +kernel) rfl
theorem wd_127 : (Cond.code yX2_init cX2_init 2 none : Cond) ∈ BG := bg_of 127 (by decide +kernel) rfl
theorem wd_128 : (.methodLink "BetsOnBets$Book" 3 objectInit : Cond) ∈ BG := bg_of 128 (by decide +kernel) rfl
theorem wd_130 : (.static yX11_put : Cond) ∈ BG := bg_of 130 (by decide +kernel) rfl
theorem wd_131 : (Cond.code yX11_put cX11_put 3 none : Cond) ∈ BG := bg_of 131 (by decide +kernel) rfl
theorem wd_132 : (.fieldLink "BetsOnBets$Book" 9 "BetsOnBets$Book" "chances" "[I" : Cond) ∈ BG := bg_of 132 (by decide +kernel) rfl
theorem wd_133 : (.fieldLink "BetsOnBets$Book" 15 "BetsOnBets$Book" "numbers" "[I" : Cond) ∈ BG := bg_of 133 (by decide +kernel) rfl
theorem wd_134 : (.fieldLink "BetsOnBets$Book" 18 "BetsOnBets$Book" "funds" "[I" : Cond) ∈ BG := bg_of 134 (by decide +kernel) rfl
theorem wd_135 : (.fieldLink "BetsOnBets$Book" 21 "BetsOnBets$Book" "happenings" "I" : Cond) ∈ BG := bg_of 135 (by decide +kernel) rfl
theorem wd_137 : (.fieldLink "BetsOnBets$Book" 25 "BetsOnBets$Book" "bets" "I" : Cond) ∈ BG := bg_of 137 (by decide +kernel) rfl
theorem wd_151 : (.classLink "BetsOnBets" 43 "BetsOnBets$Ways" : Cond) ∈ BG := bg_of 151 (by decide +kernel) rfl
theorem wd_152 : (.instantiable "BetsOnBets$Ways" 5 : Cond) ∈ BG := bg_of 152 (by decide +kernel) rfl
theorem wd_153 : (.methodLink "BetsOnBets" 45 yX10_init : Cond) ∈ BG := bg_of 153 (by decide +kernel) rfl
theorem wd_154 : (.instanceMethod yX10_init : Cond) ∈ BG := bg_of 154 (by decide +kernel) rfl
theorem wd_155 : (Cond.code yX10_init cX10_init 1 none : Cond) ∈ BG := bg_of 155 (by decide +kernel) rfl
theorem wd_156 : (.methodLink "BetsOnBets$Ways" 3 objectInit : Cond) ∈ BG := bg_of 156 (by decide +kernel) rfl
theorem wd_157 : (.classLink "BetsOnBets$Ways" 9 "BetsOnBets$Bet" : Cond) ∈ BG := bg_of 157 (by decide +kernel) rfl
theorem wd_159 : (.classLink "BetsOnBets$Ways" 11 "BetsOnBets$Plain" : Cond) ∈ BG := bg_of 159 (by decide +kernel) rfl
theorem wd_160 : (.instantiable "BetsOnBets$Plain" 0 : Cond) ∈ BG := bg_of 160 (by decide +kernel) rfl
theorem wd_162 : (.instanceMethod yX7_init : Cond) ∈ BG := bg_of 162 (by decide +kernel) rfl
theorem wd_163 : (Cond.code yX7_init cX7_init 1 none : Cond) ∈ BG := bg_of 163 (by decide +kernel) rfl
theorem wd_165 : (.instanceMethod yX1_init : Cond) ∈ BG := bg_of 165 (by decide +kernel) rfl
theorem wd_166 : (Cond.code yX1_init cX1_init 1 none : Cond) ∈ BG := bg_of 166 (by decide +kernel) rfl
theorem wd_167 : (.methodLink "BetsOnBets$Bet" 1 objectInit : Cond) ∈ BG := bg_of 167 (by decide +kernel) rfl
theorem wd_169 : (.classLink "BetsOnBets$Ways" 14 "BetsOnBets$Against" : Cond) ∈ BG := bg_of 169 (by decide +kernel) rfl
theorem wd_170 : (.instantiable "BetsOnBets$Against" 0 : Cond) ∈ BG := bg_of 170 (by decide +kernel) rfl
theorem wd_172 : (.instanceMethod yX0_init : Cond) ∈ BG := bg_of 172 (by decide +kernel) rfl
theorem wd_173 : (Cond.code yX0_init cX0_init 1 none : Cond) ∈ BG := bg_of 173 (by decide +kernel) rfl
theorem wd_176 : (.classLink "BetsOnBets$Ways" 17 "BetsOnBets$Both" : Cond) ∈ BG := bg_of 176 (by decide +kernel) rfl
theorem wd_177 : (.instantiable "BetsOnBets$Both" 0 : Cond) ∈ BG := bg_of 177 (by decide +kernel) rfl
theorem wd_179 : (.instanceMethod yX3_init : Cond) ∈ BG := bg_of 179 (by decide +kernel) rfl
theorem wd_180 : (Cond.code yX3_init cX3_init 1 none : Cond) ∈ BG := bg_of 180 (by decide +kernel) rfl
theorem wd_183 : (.classLink "BetsOnBets$Ways" 20 "BetsOnBets$Either" : Cond) ∈ BG := bg_of 183 (by decide +kernel) rfl
theorem wd_184 : (.instantiable "BetsOnBets$Either" 0 : Cond) ∈ BG := bg_of 184 (by decide +kernel) rfl
theorem wd_186 : (.instanceMethod yX4_init : Cond) ∈ BG := bg_of 186 (by decide +kernel) rfl
theorem wd_187 : (Cond.code yX4_init cX4_init 1 none : Cond) ∈ BG := bg_of 187 (by decide +kernel) rfl
theorem wd_190 : (.classLink "BetsOnBets$Ways" 23 "BetsOnBets$One" : Cond) ∈ BG := bg_of 190 (by decide +kernel) rfl
theorem wd_191 : (.instantiable "BetsOnBets$One" 0 : Cond) ∈ BG := bg_of 191 (by decide +kernel) rfl
theorem wd_193 : (.instanceMethod yX6_init : Cond) ∈ BG := bg_of 193 (by decide +kernel) rfl
theorem wd_194 : (Cond.code yX6_init cX6_init 1 none : Cond) ∈ BG := bg_of 194 (by decide +kernel) rfl
theorem wd_197 : (.classLink "BetsOnBets$Ways" 26 "BetsOnBets$Neither" : Cond) ∈ BG := bg_of 197 (by decide +kernel) rfl
theorem wd_198 : (.instantiable "BetsOnBets$Neither" 0 : Cond) ∈ BG := bg_of 198 (by decide +kernel) rfl
theorem wd_200 : (.instanceMethod yX5_init : Cond) ∈ BG := bg_of 200 (by decide +kernel) rfl
theorem wd_201 : (Cond.code yX5_init cX5_init 1 none : Cond) ∈ BG := bg_of 201 (by decide +kernel) rfl
theorem wd_205 : (.fieldLink "BetsOnBets$Ways" 29 "BetsOnBets$Ways" "kinds" "[LBetsOnBets$Bet;" : Cond) ∈ BG := bg_of 205 (by decide +kernel) rfl
theorem wd_206 : (.fieldLink "BetsOnBets$Ways" 35 "BetsOnBets$Ways" "many" "[I" : Cond) ∈ BG := bg_of 206 (by decide +kernel) rfl
theorem wd_207 : (.fieldLink "BetsOnBets$Ways" 39 "BetsOnBets$Ways" "firsts" "[I" : Cond) ∈ BG := bg_of 207 (by decide +kernel) rfl
theorem wd_208 : (.fieldLink "BetsOnBets$Ways" 42 "BetsOnBets$Ways" "wons" "[I" : Cond) ∈ BG := bg_of 208 (by decide +kernel) rfl
theorem wd_209 : (.fieldLink "BetsOnBets$Ways" 45 "BetsOnBets$Ways" "open" "[I" : Cond) ∈ BG := bg_of 209 (by decide +kernel) rfl
theorem wd_221 : (.fieldLink "BetsOnBets" 14 "BetsOnBets" "letters" "LBetsOnBets$Row;" : Cond) ∈ BG := bg_of 221 (by decide +kernel) rfl
theorem wd_222 : (.fieldLink "BetsOnBets" 18 "BetsOnBets" "seen" "LBetsOnBets$Row;" : Cond) ∈ BG := bg_of 222 (by decide +kernel) rfl
theorem wd_223 : (.fieldLink "BetsOnBets" 26 "BetsOnBets" "reader" "LBetsOnBets$Reader;" : Cond) ∈ BG := bg_of 223 (by decide +kernel) rfl
theorem wd_224 : (.fieldLink "BetsOnBets" 33 "BetsOnBets" "told" "LBetsOnBets$Book;" : Cond) ∈ BG := bg_of 224 (by decide +kernel) rfl
theorem wd_225 : (.fieldLink "BetsOnBets" 37 "BetsOnBets" "trial" "LBetsOnBets$Book;" : Cond) ∈ BG := bg_of 225 (by decide +kernel) rfl
theorem wd_226 : (.fieldLink "BetsOnBets" 40 "BetsOnBets" "kept" "LBetsOnBets$Book;" : Cond) ∈ BG := bg_of 226 (by decide +kernel) rfl
theorem wd_227 : (.fieldLink "BetsOnBets" 46 "BetsOnBets" "allWays" "LBetsOnBets$Ways;" : Cond) ∈ BG := bg_of 227 (by decide +kernel) rfl
theorem wd_228 : (.fieldLink "BetsOnBets" 50 "BetsOnBets" "refusals" "[I" : Cond) ∈ BG := bg_of 228 (by decide +kernel) rfl
theorem wd_229 : (.fieldLink "BetsOnBets" 54 "BetsOnBets" "groups" "[I" : Cond) ∈ BG := bg_of 229 (by decide +kernel) rfl
theorem wd_230 : (.fieldLink "BetsOnBets" 57 "BetsOnBets" "reached" "[I" : Cond) ∈ BG := bg_of 230 (by decide +kernel) rfl
theorem wd_231 : (.fieldLink "BetsOnBets" 60 "BetsOnBets" "isKept" "Z" : Cond) ∈ BG := bg_of 231 (by decide +kernel) rfl
theorem wd_255 : (.methodLink "BetsOnBetsLaw" 13 yX11_letter : Cond) ∈ BG := bg_of 255 (by decide +kernel) rfl
theorem wd_256 : (.instanceMethod yX11_letter : Cond) ∈ BG := bg_of 256 (by decide +kernel) rfl
theorem wd_257 : (.selects "BetsOnBets" yX11_letter yX11_letter : Cond) ∈ BG := bg_of 257 (by decide +kernel) rfl
theorem wd_258 : (Cond.code yX11_letter cX11_letter 2 (some .int) : Cond) ∈ BG := bg_of 258 (by decide +kernel) rfl
theorem wd_259 : (.methodLink "BetsOnBets" 64 yX11_taken : Cond) ∈ BG := bg_of 259 (by decide +kernel) rfl
theorem wd_261 : (.instanceMethod yX11_taken : Cond) ∈ BG := bg_of 261 (by decide +kernel) rfl
theorem wd_262 : (Cond.code yX11_taken cX11_taken 4 (some .int) : Cond) ∈ BG := bg_of 262 (by decide +kernel) rfl
theorem wd_263 : (.methodLink "BetsOnBets" 82 yX11_refused : Cond) ∈ BG := bg_of 263 (by decide +kernel) rfl
theorem wd_265 : (.instanceMethod yX11_refused : Cond) ∈ BG := bg_of 265 (by decide +kernel) rfl
theorem wd_266 : (Cond.code yX11_refused cX11_refused 2 (some .int) : Cond) ∈ BG := bg_of 266 (by decide +kernel) rfl
theorem wd_267 : (.methodLink "BetsOnBets" 175 yX11_at : Cond) ∈ BG := bg_of 267 (by decide +kernel) rfl
theorem wd_268 : (.static yX11_at : Cond) ∈ BG := bg_of 268 (by decide +kernel) rfl
theorem wd_269 : (Cond.code yX11_at cX11_at 2 (some .int) : Cond) ∈ BG := bg_of 269 (by decide +kernel) rfl
theorem wd_270 : (.methodLink "BetsOnBets" 171 yX11_put : Cond) ∈ BG := bg_of 270 (by decide +kernel) rfl
theorem wd_271 : (.methodLink "BetsOnBets" 225 yX9_isFull : Cond) ∈ BG := bg_of 271 (by decide +kernel) rfl
theorem wd_272 : (.instanceMethod yX9_isFull : Cond) ∈ BG := bg_of 272 (by decide +kernel) rfl
theorem wd_273 : (.selects "BetsOnBets$Row" yX9_isFull yX9_isFull : Cond) ∈ BG := bg_of 273 (by decide +kernel) rfl
theorem wd_274 : (Cond.code yX9_isFull cX9_isFull 1 (some .boolean) : Cond) ∈ BG := bg_of 274 (by decide +kernel) rfl
theorem wd_275 : (.methodLink "BetsOnBets" 228 yX9_add : Cond) ∈ BG := bg_of 275 (by decide +kernel) rfl
theorem wd_276 : (.instanceMethod yX9_add : Cond) ∈ BG := bg_of 276 (by decide +kernel) rfl
theorem wd_277 : (.selects "BetsOnBets$Row" yX9_add yX9_add : Cond) ∈ BG := bg_of 277 (by decide +kernel) rfl
theorem wd_278 : (Cond.code yX9_add cX9_add 2 none : Cond) ∈ BG := bg_of 278 (by decide +kernel) rfl
theorem wd_279 : (.methodLink "BetsOnBets$Row" 23 yX9_isFull : Cond) ∈ BG := bg_of 279 (by decide +kernel) rfl
theorem wd_281 : (.methodLink "BetsOnBetsLaw" 18 yX11_inn : Cond) ∈ BG := bg_of 281 (by decide +kernel) rfl
theorem wd_282 : (.instanceMethod yX11_inn : Cond) ∈ BG := bg_of 282 (by decide +kernel) rfl
theorem wd_283 : (.selects "BetsOnBets" yX11_inn yX11_inn : Cond) ∈ BG := bg_of 283 (by decide +kernel) rfl
theorem wd_284 : (Cond.code yX11_inn cX11_inn 3 (some .int) : Cond) ∈ BG := bg_of 284 (by decide +kernel) rfl
theorem wd_285 : (.methodLink "BetsOnBets" 68 yX8_faultPlace : Cond) ∈ BG := bg_of 285 (by decide +kernel) rfl
theorem wd_286 : (.instanceMethod yX8_faultPlace : Cond) ∈ BG := bg_of 286 (by decide +kernel) rfl
theorem wd_287 : (.selects "BetsOnBets$Reader" yX8_faultPlace yX8_faultPlace : Cond) ∈ BG := bg_of 287 (by decide +kernel) rfl
theorem wd_288 : (Cond.code yX8_faultPlace cX8_faultPlace 2 (some .int) : Cond) ∈ BG := bg_of 288 (by decide +kernel) rfl
theorem wd_289 : (.methodLink "BetsOnBets$Reader" 32 yX8_begin : Cond) ∈ BG := bg_of 289 (by decide +kernel) rfl
theorem wd_290 : (.instanceMethod yX8_begin : Cond) ∈ BG := bg_of 290 (by decide +kernel) rfl
theorem wd_291 : (.selects "BetsOnBets$Reader" yX8_begin yX8_begin : Cond) ∈ BG := bg_of 291 (by decide +kernel) rfl
theorem wd_292 : (Cond.code yX8_begin cX8_begin 1 none : Cond) ∈ BG := bg_of 292 (by decide +kernel) rfl
theorem wd_293 : (.methodLink "BetsOnBets$Reader" 35 yX8_readStatement : Cond) ∈ BG := bg_of 293 (by decide +kernel) rfl
theorem wd_294 : (.instanceMethod yX8_readStatement : Cond) ∈ BG := bg_of 294 (by decide +kernel) rfl
theorem wd_295 : (.selects "BetsOnBets$Reader" yX8_readStatement yX8_readStatement : Cond) ∈ BG := bg_of 295 (by decide +kernel) rfl
theorem wd_296 : (Cond.code yX8_readStatement cX8_readStatement 2 (some .int) : Cond) ∈ BG := bg_of 296 (by decide +kernel) rfl
theorem wd_298 : (.methodLink "BetsOnBets$Reader" 45 yX8_oneOf : Cond) ∈ BG := bg_of 298 (by decide +kernel) rfl
theorem wd_300 : (.instanceMethod yX8_oneOf : Cond) ∈ BG := bg_of 300 (by decide +kernel) rfl
theorem wd_301 : (Cond.code yX8_oneOf cX8_oneOf 3 (some .int) : Cond) ∈ BG := bg_of 301 (by decide +kernel) rfl
theorem wd_302 : (.methodLink "BetsOnBets$Reader" 72 yX8_nextIn : Cond) ∈ BG := bg_of 302 (by decide +kernel) rfl
theorem wd_304 : (.instanceMethod yX8_nextIn : Cond) ∈ BG := bg_of 304 (by decide +kernel) rfl
theorem wd_305 : (Cond.code yX8_nextIn cX8_nextIn 2 (some .int) : Cond) ∈ BG := bg_of 305 (by decide +kernel) rfl
theorem wd_306 : (.methodLink "BetsOnBets$Reader" 39 yX8_goesOn : Cond) ∈ BG := bg_of 306 (by decide +kernel) rfl
theorem wd_307 : (.instanceMethod yX8_goesOn : Cond) ∈ BG := bg_of 307 (by decide +kernel) rfl
theorem wd_308 : (.selects "BetsOnBets$Reader" yX8_goesOn yX8_goesOn : Cond) ∈ BG := bg_of 308 (by decide +kernel) rfl
theorem wd_309 : (Cond.code yX8_goesOn cX8_goesOn 1 (some .boolean) : Cond) ∈ BG := bg_of 309 (by decide +kernel) rfl
theorem wd_310 : (.methodLink "BetsOnBets$Reader" 75 yX9_get : Cond) ∈ BG := bg_of 310 (by decide +kernel) rfl
theorem wd_311 : (.instanceMethod yX9_get : Cond) ∈ BG := bg_of 311 (by decide +kernel) rfl
theorem wd_312 : (.selects "BetsOnBets$Row" yX9_get yX9_get : Cond) ∈ BG := bg_of 312 (by decide +kernel) rfl
theorem wd_313 : (Cond.code yX9_get cX9_get 2 (some .int) : Cond) ∈ BG := bg_of 313 (by decide +kernel) rfl
theorem wd_314 : (.methodLink "BetsOnBets$Reader" 79 yJ0_indexOf_0f7a4 : Cond) ∈ BG := bg_of 314 (by decide +kernel) rfl
theorem wd_315 : (.instanceMethod yJ0_indexOf_0f7a4 : Cond) ∈ BG := bg_of 315 (by decide +kernel) rfl
theorem wd_316 : (.selects "java/lang/String" yJ0_indexOf_0f7a4 yJ0_indexOf_0f7a4 : Cond) ∈ BG := bg_of 316 (by decide +kernel) rfl
theorem wd_317 : (Cond.code yJ0_indexOf_0f7a4 cJ0_indexOf_0f7a4 2 (some .int) : Cond) ∈ BG := bg_of 317 (by decide +kernel) rfl
theorem wd_318 : (.methodLink "java/lang/String" 633 yJ0_indexOf_7cf53 : Cond) ∈ BG := bg_of 318 (by decide +kernel) rfl
theorem wd_319 : (.instanceMethod yJ0_indexOf_7cf53 : Cond) ∈ BG := bg_of 319 (by decide +kernel) rfl
theorem wd_320 : (.selects "java/lang/String" yJ0_indexOf_7cf53 yJ0_indexOf_7cf53 : Cond) ∈ BG := bg_of 320 (by decide +kernel) rfl
theorem wd_321 : (Cond.code yJ0_indexOf_7cf53 cJ0_indexOf_7cf53 3 (some .int) : Cond) ∈ BG := bg_of 321 (by decide +kernel) rfl
theorem wd_322 : (.methodLink "java/lang/String" 492 yJ0_isLatin1_aae02 : Cond) ∈ BG := bg_of 322 (by decide +kernel) rfl
theorem wd_323 : (.instanceMethod yJ0_isLatin1_aae02 : Cond) ∈ BG := bg_of 323 (by decide +kernel) rfl
theorem wd_324 : (.selects "java/lang/String" yJ0_isLatin1_aae02 yJ0_isLatin1_aae02 : Cond) ∈ BG := bg_of 324 (by decide +kernel) rfl
theorem wd_325 : (Cond.code yJ0_isLatin1_aae02 cJ0_isLatin1_aae02 1 (some .boolean) : Cond) ∈ BG := bg_of 325 (by decide +kernel) rfl
theorem wd_326 : (.fieldLink "java/lang/String" 38 "java/lang/String" "COMPACT_STRINGS" "Z" : Cond) ∈ BG := bg_of 326 (by decide +kernel) rfl
theorem wd_328 : (.methodLink "java/lang/String" 505 yJ0_length_8abf5 : Cond) ∈ BG := bg_of 328 (by decide +kernel) rfl
theorem wd_329 : (.instanceMethod yJ0_length_8abf5 : Cond) ∈ BG := bg_of 329 (by decide +kernel) rfl
theorem wd_330 : (.selects "java/lang/String" yJ0_length_8abf5 yJ0_length_8abf5 : Cond) ∈ BG := bg_of 330 (by decide +kernel) rfl
theorem wd_331 : (Cond.code yJ0_length_8abf5 cJ0_length_8abf5 1 (some .int) : Cond) ∈ BG := bg_of 331 (by decide +kernel) rfl
theorem wd_332 : (.methodLink "java/lang/String" 335 yJ0_coder_7d493 : Cond) ∈ BG := bg_of 332 (by decide +kernel) rfl
theorem wd_333 : (.instanceMethod yJ0_coder_7d493 : Cond) ∈ BG := bg_of 333 (by decide +kernel) rfl
theorem wd_334 : (.selects "java/lang/String" yJ0_coder_7d493 yJ0_coder_7d493 : Cond) ∈ BG := bg_of 334 (by decide +kernel) rfl
theorem wd_335 : (Cond.code yJ0_coder_7d493 cJ0_coder_7d493 1 (some .byte) : Cond) ∈ BG := bg_of 335 (by decide +kernel) rfl
theorem wd_336 : (.methodLink "java/lang/String" 637 yJ1_indexOf_4cfef : Cond) ∈ BG := bg_of 336 (by decide +kernel) rfl
theorem wd_337 : (.static yJ1_indexOf_4cfef : Cond) ∈ BG := bg_of 337 (by decide +kernel) rfl
theorem wd_338 : (Cond.code yJ1_indexOf_4cfef cJ1_indexOf_4cfef 4 (some .int) : Cond) ∈ BG := bg_of 338 (by decide +kernel) rfl
theorem wd_339 : (.methodLink "java/lang/StringLatin1" 88 yJ1_canEncode_9a6ad : Cond) ∈ BG := bg_of 339 (by decide +kernel) rfl
theorem wd_340 : (.static yJ1_canEncode_9a6ad : Cond) ∈ BG := bg_of 340 (by decide +kernel) rfl
theorem wd_341 : (Cond.code yJ1_canEncode_9a6ad cJ1_canEncode_9a6ad 1 (some .boolean) : Cond) ∈ BG := bg_of 341 (by decide +kernel) rfl
theorem wd_342 : (.methodLink "java/lang/StringLatin1" 92 yJ9_max_7cf53 : Cond) ∈ BG := bg_of 342 (by decide +kernel) rfl
theorem wd_343 : (.methodLink "java/lang/StringLatin1" 38 yJ9_min_7cf53 : Cond) ∈ BG := bg_of 343 (by decide +kernel) rfl
theorem wd_344 : (.static yJ9_min_7cf53 : Cond) ∈ BG := bg_of 344 (by decide +kernel) rfl
theorem wd_345 : (Cond.code yJ9_min_7cf53 cJ9_min_7cf53 2 (some .int) : Cond) ∈ BG := bg_of 345 (by decide +kernel) rfl
theorem wd_346 : (.methodLink "java/lang/StringLatin1" 95 yJ1_indexOfChar_4cfef : Cond) ∈ BG := bg_of 346 (by decide +kernel) rfl
theorem wd_347 : (.static yJ1_indexOfChar_4cfef : Cond) ∈ BG := bg_of 347 (by decide +kernel) rfl
theorem wd_348 : (Cond.code yJ1_indexOfChar_4cfef cJ1_indexOfChar_4cfef 6 (some .int) : Cond) ∈ BG := bg_of 348 (by decide +kernel) rfl
theorem wd_349 : (.methodLink "java/lang/String" 640 yJ2_indexOf_4cfef : Cond) ∈ BG := bg_of 349 (by decide +kernel) rfl
theorem wd_350 : (.static yJ2_indexOf_4cfef : Cond) ∈ BG := bg_of 350 (by decide +kernel) rfl
theorem wd_351 : (Cond.code yJ2_indexOf_4cfef cJ2_indexOf_4cfef 4 (some .int) : Cond) ∈ BG := bg_of 351 (by decide +kernel) rfl
theorem wd_352 : (.methodLink "java/lang/StringUTF16" 224 yJ9_max_7cf53 : Cond) ∈ BG := bg_of 352 (by decide +kernel) rfl
theorem wd_353 : (.methodLink "java/lang/StringUTF16" 183 yJ9_min_7cf53 : Cond) ∈ BG := bg_of 353 (by decide +kernel) rfl
theorem wd_354 : (.constant "java/lang/StringUTF16" 227 (65536 : Int32) : Cond) ∈ BG := bg_of 354 (by decide +kernel) rfl
theorem wd_355 : (.methodLink "java/lang/StringUTF16" 228 yJ2_indexOfChar_4cfef : Cond) ∈ BG := bg_of 355 (by decide +kernel) rfl
theorem wd_356 : (.static yJ2_indexOfChar_4cfef : Cond) ∈ BG := bg_of 356 (by decide +kernel) rfl
theorem wd_357 : (Cond.code yJ2_indexOfChar_4cfef cJ2_indexOfChar_4cfef 4 (some .int) : Cond) ∈ BG := bg_of 357 (by decide +kernel) rfl
theorem wd_358 : (.methodLink "java/lang/StringUTF16" 96 yJ2_checkBoundsBeginEnd_d044e : Cond) ∈ BG := bg_of 358 (by decide +kernel) rfl
theorem wd_359 : (.static yJ2_checkBoundsBeginEnd_d044e : Cond) ∈ BG := bg_of 359 (by decide +kernel) rfl
theorem wd_360 : (Cond.code yJ2_checkBoundsBeginEnd_d044e cJ2_checkBoundsBeginEnd_d044e 3 none : Cond) ∈ BG := bg_of 360 (by decide +kernel) rfl
theorem wd_361 : (.methodLink "java/lang/StringUTF16" 48 yJ2_length_9d52b : Cond) ∈ BG := bg_of 361 (by decide +kernel) rfl
theorem wd_362 : (.static yJ2_length_9d52b : Cond) ∈ BG := bg_of 362 (by decide +kernel) rfl
theorem wd_363 : (Cond.code yJ2_length_9d52b cJ2_length_9d52b 1 (some .int) : Cond) ∈ BG := bg_of 363 (by decide +kernel) rfl
theorem wd_364 : (.methodLink "java/lang/StringUTF16" 241 yJ0_checkBoundsBeginEnd_23922 : Cond) ∈ BG := bg_of 364 (by decide +kernel) rfl
theorem wd_365 : (.static yJ0_checkBoundsBeginEnd_23922 : Cond) ∈ BG := bg_of 365 (by decide +kernel) rfl
theorem wd_366 : (Cond.code yJ0_checkBoundsBeginEnd_23922 cJ0_checkBoundsBeginEnd_23922 3 none : Cond) ∈ BG := bg_of 366 (by decide +kernel) rfl
theorem wd_367 : (.fieldLink "java/lang/String" 1053 "jdk/internal/util/Preconditions" "SIOOBE_FORMATTER" "Ljava/util/function/BiFunction;" : Cond) ∈ BG := bg_of 367 (by decide +kernel) rfl
theorem wd_369 : (.methodLink "java/lang/String" 1062 yJ3_checkFromToIndex_8c36e : Cond) ∈ BG := bg_of 369 (by decide +kernel) rfl
theorem wd_370 : (.static yJ3_checkFromToIndex_8c36e : Cond) ∈ BG := bg_of 370 (by decide +kernel) rfl
theorem wd_371 : (Cond.code yJ3_checkFromToIndex_8c36e cJ3_checkFromToIndex_8c36e 4 (some .int) : Cond) ∈ BG := bg_of 371 (by decide +kernel) rfl
theorem wd_372 : (.methodLink "java/lang/StringUTF16" 244 yJ2_indexOfCharUnsafe_4cfef : Cond) ∈ BG := bg_of 372 (by decide +kernel) rfl
theorem wd_373 : (.static yJ2_indexOfCharUnsafe_4cfef : Cond) ∈ BG := bg_of 373 (by decide +kernel) rfl
theorem wd_374 : (Cond.code yJ2_indexOfCharUnsafe_4cfef cJ2_indexOfCharUnsafe_4cfef 5 (some .int) : Cond) ∈ BG := bg_of 374 (by decide +kernel) rfl
theorem wd_375 : (.methodLink "java/lang/StringUTF16" 71 yJ2_getChar_3b067 : Cond) ∈ BG := bg_of 375 (by decide +kernel) rfl
theorem wd_376 : (.static yJ2_getChar_3b067 : Cond) ∈ BG := bg_of 376 (by decide +kernel) rfl
theorem wd_377 : (Cond.code yJ2_getChar_3b067 cJ2_getChar_3b067 2 (some .char) : Cond) ∈ BG := bg_of 377 (by decide +kernel) rfl
theorem wd_378 : (.fieldLink "java/lang/StringUTF16" 44 "java/lang/StringUTF16" "$assertionsDisabled" "Z" : Cond) ∈ BG := bg_of 378 (by decide +kernel) rfl
theorem wd_380 : (.fieldLink "java/lang/StringUTF16" 59 "java/lang/StringUTF16" "HI_BYTE_SHIFT" "I" : Cond) ∈ BG := bg_of 380 (by decide +kernel) rfl
theorem wd_382 : (.fieldLink "java/lang/StringUTF16" 63 "java/lang/StringUTF16" "LO_BYTE_SHIFT" "I" : Cond) ∈ BG := bg_of 382 (by decide +kernel) rfl
theorem wd_384 : (.methodLink "java/lang/StringUTF16" 232 yJ2_indexOfSupplementary_4cfef : Cond) ∈ BG := bg_of 384 (by decide +kernel) rfl
theorem wd_385 : (.static yJ2_indexOfSupplementary_4cfef : Cond) ∈ BG := bg_of 385 (by decide +kernel) rfl
theorem wd_386 : (Cond.code yJ2_indexOfSupplementary_4cfef cJ2_indexOfSupplementary_4cfef 7 (some .int) : Cond) ∈ BG := bg_of 386 (by decide +kernel) rfl
theorem wd_387 : (.methodLink "java/lang/StringUTF16" 164 yJ11_isValidCodePoint_9a6ad : Cond) ∈ BG := bg_of 387 (by decide +kernel) rfl
theorem wd_388 : (.static yJ11_isValidCodePoint_9a6ad : Cond) ∈ BG := bg_of 388 (by decide +kernel) rfl
theorem wd_389 : (Cond.code yJ11_isValidCodePoint_9a6ad cJ11_isValidCodePoint_9a6ad 2 (some .boolean) : Cond) ∈ BG := bg_of 389 (by decide +kernel) rfl
theorem wd_390 : (.methodLink "java/lang/StringUTF16" 157 yJ11_highSurrogate_5068e : Cond) ∈ BG := bg_of 390 (by decide +kernel) rfl
theorem wd_391 : (.static yJ11_highSurrogate_5068e : Cond) ∈ BG := bg_of 391 (by decide +kernel) rfl
theorem wd_392 : (Cond.code yJ11_highSurrogate_5068e cJ11_highSurrogate_5068e 1 (some .char) : Cond) ∈ BG := bg_of 392 (by decide +kernel) rfl
theorem wd_393 : (.constant "java/lang/Character" 110 (55232 : Int32) : Cond) ∈ BG := bg_of 393 (by decide +kernel) rfl
theorem wd_394 : (.methodLink "java/lang/StringUTF16" 161 yJ11_lowSurrogate_5068e : Cond) ∈ BG := bg_of 394 (by decide +kernel) rfl
theorem wd_395 : (.static yJ11_lowSurrogate_5068e : Cond) ∈ BG := bg_of 395 (by decide +kernel) rfl
theorem wd_396 : (Cond.code yJ11_lowSurrogate_5068e cJ11_lowSurrogate_5068e 1 (some .char) : Cond) ∈ BG := bg_of 396 (by decide +kernel) rfl
theorem wd_397 : (.constant "java/lang/Character" 76 (56320 : Int32) : Cond) ∈ BG := bg_of 397 (by decide +kernel) rfl
theorem wd_398 : (.methodLink "BetsOnBets$Reader" 49 yX8_oneOrTwoDigits : Cond) ∈ BG := bg_of 398 (by decide +kernel) rfl
theorem wd_400 : (.instanceMethod yX8_oneOrTwoDigits : Cond) ∈ BG := bg_of 400 (by decide +kernel) rfl
theorem wd_401 : (Cond.code yX8_oneOrTwoDigits cX8_oneOrTwoDigits 2 (some .int) : Cond) ∈ BG := bg_of 401 (by decide +kernel) rfl
theorem wd_404 : (.methodLink "BetsOnBets$Reader" 56 yX8_readBet : Cond) ∈ BG := bg_of 404 (by decide +kernel) rfl
theorem wd_406 : (.instanceMethod yX8_readBet : Cond) ∈ BG := bg_of 406 (by decide +kernel) rfl
theorem wd_407 : (Cond.code yX8_readBet cX8_readBet 1 none : Cond) ∈ BG := bg_of 407 (by decide +kernel) rfl
theorem wd_409 : (.methodLink "BetsOnBets$Reader" 67 yX8_readMark : Cond) ∈ BG := bg_of 409 (by decide +kernel) rfl
theorem wd_411 : (.instanceMethod yX8_readMark : Cond) ∈ BG := bg_of 411 (by decide +kernel) rfl
theorem wd_412 : (Cond.code yX8_readMark cX8_readMark 2 (some .int) : Cond) ∈ BG := bg_of 412 (by decide +kernel) rfl
theorem wd_416 : (.methodLink "BetsOnBets" 72 yX11_innTold : Cond) ∈ BG := bg_of 416 (by decide +kernel) rfl
theorem wd_418 : (.instanceMethod yX11_innTold : Cond) ∈ BG := bg_of 418 (by decide +kernel) rfl
theorem wd_419 : (Cond.code yX11_innTold cX11_innTold 4 (some .int) : Cond) ∈ BG := bg_of 419 (by decide +kernel) rfl
theorem wd_420 : (.methodLink "BetsOnBets" 155 yX2_takeFrom : Cond) ∈ BG := bg_of 420 (by decide +kernel) rfl
theorem wd_421 : (.instanceMethod yX2_takeFrom : Cond) ∈ BG := bg_of 421 (by decide +kernel) rfl
theorem wd_422 : (.selects "BetsOnBets$Book" yX2_takeFrom yX2_takeFrom : Cond) ∈ BG := bg_of 422 (by decide +kernel) rfl
theorem wd_423 : (Cond.code yX2_takeFrom cX2_takeFrom 2 none : Cond) ∈ BG := bg_of 423 (by decide +kernel) rfl
theorem wd_425 : (.static yX11_copy : Cond) ∈ BG := bg_of 425 (by decide +kernel) rfl
theorem wd_426 : (Cond.code yX11_copy cX11_copy 3 none : Cond) ∈ BG := bg_of 426 (by decide +kernel) rfl
theorem wd_427 : (.methodLink "BetsOnBets" 205 yX8_begin : Cond) ∈ BG := bg_of 427 (by decide +kernel) rfl
theorem wd_428 : (.methodLink "BetsOnBets" 208 yX8_goesOn : Cond) ∈ BG := bg_of 428 (by decide +kernel) rfl
theorem wd_429 : (.methodLink "BetsOnBets" 215 yX8_readStatement : Cond) ∈ BG := bg_of 429 (by decide +kernel) rfl
theorem wd_430 : (.methodLink "BetsOnBets" 221 yX2_comes : Cond) ∈ BG := bg_of 430 (by decide +kernel) rfl
theorem wd_431 : (.instanceMethod yX2_comes : Cond) ∈ BG := bg_of 431 (by decide +kernel) rfl
theorem wd_432 : (.selects "BetsOnBets$Book" yX2_comes yX2_comes : Cond) ∈ BG := bg_of 432 (by decide +kernel) rfl
theorem wd_433 : (Cond.code yX2_comes cX2_comes 3 (some .boolean) : Cond) ∈ BG := bg_of 433 (by decide +kernel) rfl
theorem wd_435 : (.methodLink "BetsOnBets$Book" 40 yX2_comesHappening : Cond) ∈ BG := bg_of 435 (by decide +kernel) rfl
theorem wd_437 : (.instanceMethod yX2_comesHappening : Cond) ∈ BG := bg_of 437 (by decide +kernel) rfl
theorem wd_438 : (Cond.code yX2_comesHappening cX2_comesHappening 2 (some .boolean) : Cond) ∈ BG := bg_of 438 (by decide +kernel) rfl
theorem wd_439 : (.methodLink "BetsOnBets$Book" 46 yX2_comesBet : Cond) ∈ BG := bg_of 439 (by decide +kernel) rfl
theorem wd_441 : (.instanceMethod yX2_comesBet : Cond) ∈ BG := bg_of 441 (by decide +kernel) rfl
theorem wd_442 : (Cond.code yX2_comesBet cX2_comesBet 3 (some .boolean) : Cond) ∈ BG := bg_of 442 (by decide +kernel) rfl
theorem wd_443 : (.methodLink "BetsOnBets$Book" 54 yX2_isRight : Cond) ∈ BG := bg_of 443 (by decide +kernel) rfl
theorem wd_445 : (.instanceMethod yX2_isRight : Cond) ∈ BG := bg_of 445 (by decide +kernel) rfl
theorem wd_446 : (Cond.code yX2_isRight cX2_isRight 4 (some .boolean) : Cond) ∈ BG := bg_of 446 (by decide +kernel) rfl
theorem wd_447 : (.methodLink "BetsOnBets$Book" 68 yX2_isMark : Cond) ∈ BG := bg_of 447 (by decide +kernel) rfl
theorem wd_449 : (.instanceMethod yX2_isMark : Cond) ∈ BG := bg_of 449 (by decide +kernel) rfl
theorem wd_450 : (Cond.code yX2_isMark cX2_isMark 2 (some .boolean) : Cond) ∈ BG := bg_of 450 (by decide +kernel) rfl
theorem wd_452 : (.static yX11_isPerson : Cond) ∈ BG := bg_of 452 (by decide +kernel) rfl
theorem wd_453 : (Cond.code yX11_isPerson cX11_isPerson 1 (some .boolean) : Cond) ∈ BG := bg_of 453 (by decide +kernel) rfl
theorem wd_454 : (.methodLink "BetsOnBets$Book" 57 yX2_change : Cond) ∈ BG := bg_of 454 (by decide +kernel) rfl
theorem wd_455 : (.instanceMethod yX2_change : Cond) ∈ BG := bg_of 455 (by decide +kernel) rfl
theorem wd_456 : (.selects "BetsOnBets$Book" yX2_change yX2_change : Cond) ∈ BG := bg_of 456 (by decide +kernel) rfl
theorem wd_457 : (Cond.code yX2_change cX2_change 4 none : Cond) ∈ BG := bg_of 457 (by decide +kernel) rfl
theorem wd_458 : (.methodLink "BetsOnBets$Book" 50 yX2_comesFund : Cond) ∈ BG := bg_of 458 (by decide +kernel) rfl
theorem wd_460 : (.instanceMethod yX2_comesFund : Cond) ∈ BG := bg_of 460 (by decide +kernel) rfl
theorem wd_461 : (Cond.code yX2_comesFund cX2_comesFund 3 (some .boolean) : Cond) ∈ BG := bg_of 461 (by decide +kernel) rfl
theorem wd_462 : (.methodLink "BetsOnBets$Book" 64 yX2_changeFund : Cond) ∈ BG := bg_of 462 (by decide +kernel) rfl
theorem wd_463 : (.instanceMethod yX2_changeFund : Cond) ∈ BG := bg_of 463 (by decide +kernel) rfl
theorem wd_464 : (.selects "BetsOnBets$Book" yX2_changeFund yX2_changeFund : Cond) ∈ BG := bg_of 464 (by decide +kernel) rfl
theorem wd_465 : (Cond.code yX2_changeFund cX2_changeFund 3 none : Cond) ∈ BG := bg_of 465 (by decide +kernel) rfl
theorem wd_466 : (.methodLink "BetsOnBets" 196 yX10_find : Cond) ∈ BG := bg_of 466 (by decide +kernel) rfl
theorem wd_467 : (.instanceMethod yX10_find : Cond) ∈ BG := bg_of 467 (by decide +kernel) rfl
theorem wd_468 : (.selects "BetsOnBets$Ways" yX10_find yX10_find : Cond) ∈ BG := bg_of 468 (by decide +kernel) rfl
theorem wd_469 : (Cond.code yX10_find cX10_find 4 none : Cond) ∈ BG := bg_of 469 (by decide +kernel) rfl
theorem wd_470 : (.methodLink "BetsOnBets$Ways" 52 yX2_ends : Cond) ∈ BG := bg_of 470 (by decide +kernel) rfl
theorem wd_471 : (.instanceMethod yX2_ends : Cond) ∈ BG := bg_of 471 (by decide +kernel) rfl
theorem wd_472 : (.selects "BetsOnBets$Book" yX2_ends yX2_ends : Cond) ∈ BG := bg_of 472 (by decide +kernel) rfl
theorem wd_473 : (Cond.code yX2_ends cX2_ends 1 (some .int) : Cond) ∈ BG := bg_of 473 (by decide +kernel) rfl
theorem wd_474 : (.methodLink "BetsOnBets$Ways" 58 yX10_findOf : Cond) ∈ BG := bg_of 474 (by decide +kernel) rfl
theorem wd_476 : (.instanceMethod yX10_findOf : Cond) ∈ BG := bg_of 476 (by decide +kernel) rfl
theorem wd_477 : (Cond.code yX10_findOf cX10_findOf 9 none : Cond) ∈ BG := bg_of 477 (by decide +kernel) rfl
theorem wd_478 : (.methodLink "BetsOnBets$Ways" 66 yX10_isWay : Cond) ∈ BG := bg_of 478 (by decide +kernel) rfl
theorem wd_480 : (.instanceMethod yX10_isWay : Cond) ∈ BG := bg_of 480 (by decide +kernel) rfl
theorem wd_481 : (Cond.code yX10_isWay cX10_isWay 8 (some .boolean) : Cond) ∈ BG := bg_of 481 (by decide +kernel) rfl
theorem wd_482 : (.methodLink "BetsOnBets$Ways" 70 yX2_numberOf : Cond) ∈ BG := bg_of 482 (by decide +kernel) rfl
theorem wd_483 : (.instanceMethod yX2_numberOf : Cond) ∈ BG := bg_of 483 (by decide +kernel) rfl
theorem wd_484 : (.selects "BetsOnBets$Book" yX2_numberOf yX2_numberOf : Cond) ∈ BG := bg_of 484 (by decide +kernel) rfl
theorem wd_485 : (Cond.code yX2_numberOf cX2_numberOf 3 (some .int) : Cond) ∈ BG := bg_of 485 (by decide +kernel) rfl
theorem wd_486 : (.methodLink "BetsOnBets$Ways" 74 yX10_kindOf : Cond) ∈ BG := bg_of 486 (by decide +kernel) rfl
theorem wd_488 : (.instanceMethod yX10_kindOf : Cond) ∈ BG := bg_of 488 (by decide +kernel) rfl
theorem wd_489 : (Cond.code yX10_kindOf cX10_kindOf 2 (some (.object "BetsOnBets$Bet")) : Cond) ∈ BG := bg_of 489 (by decide +kernel) rfl
theorem wd_490 : (.methodLink "BetsOnBets$Ways" 78 yX10_isSo : Cond) ∈ BG := bg_of 490 (by decide +kernel) rfl
theorem wd_491 : (.static yX10_isSo : Cond) ∈ BG := bg_of 491 (by decide +kernel) rfl
theorem wd_492 : (Cond.code yX10_isSo cX10_isSo 3 (some .boolean) : Cond) ∈ BG := bg_of 492 (by decide +kernel) rfl
theorem wd_494 : (.static yX11_has : Cond) ∈ BG := bg_of 494 (by decide +kernel) rfl
theorem wd_495 : (Cond.code yX11_has cX11_has 2 (some .boolean) : Cond) ∈ BG := bg_of 495 (by decide +kernel) rfl
theorem wd_496 : (.methodLink "BetsOnBets$Ways" 82 ⟨"BetsOnBets$Bet", "isWonBy", "(ZZ)Z"⟩ : Cond) ∈ BG := bg_of 496 (by decide +kernel) rfl
theorem wd_498 : (.sameMethod "BetsOnBets$Bet" "BetsOnBets$Bet" "isWonBy" "(ZZ)Z" : Cond) ∈ BG := bg_of 498 (by decide +kernel) rfl
theorem wd_499 : (.selects "BetsOnBets$Against" ⟨"BetsOnBets$Bet", "isWonBy", "(ZZ)Z"⟩ yX0_isWonBy : Cond) ∈ BG := bg_of 499 (by decide +kernel) rfl
theorem wd_500 : (.instanceMethod yX0_isWonBy : Cond) ∈ BG := bg_of 500 (by decide +kernel) rfl
theorem wd_501 : (Cond.code yX0_isWonBy cX0_isWonBy 3 (some .boolean) : Cond) ∈ BG := bg_of 501 (by decide +kernel) rfl
theorem wd_502 : (.selects "BetsOnBets$Both" ⟨"BetsOnBets$Bet", "isWonBy", "(ZZ)Z"⟩ yX3_isWonBy : Cond) ∈ BG := bg_of 502 (by decide +kernel) rfl
theorem wd_503 : (.instanceMethod yX3_isWonBy : Cond) ∈ BG := bg_of 503 (by decide +kernel) rfl
theorem wd_504 : (Cond.code yX3_isWonBy cX3_isWonBy 3 (some .boolean) : Cond) ∈ BG := bg_of 504 (by decide +kernel) rfl
theorem wd_505 : (.selects "BetsOnBets$Either" ⟨"BetsOnBets$Bet", "isWonBy", "(ZZ)Z"⟩ yX4_isWonBy : Cond) ∈ BG := bg_of 505 (by decide +kernel) rfl
theorem wd_506 : (.instanceMethod yX4_isWonBy : Cond) ∈ BG := bg_of 506 (by decide +kernel) rfl
theorem wd_507 : (Cond.code yX4_isWonBy cX4_isWonBy 3 (some .boolean) : Cond) ∈ BG := bg_of 507 (by decide +kernel) rfl
theorem wd_508 : (.selects "BetsOnBets$Neither" ⟨"BetsOnBets$Bet", "isWonBy", "(ZZ)Z"⟩ yX5_isWonBy : Cond) ∈ BG := bg_of 508 (by decide +kernel) rfl
theorem wd_509 : (.instanceMethod yX5_isWonBy : Cond) ∈ BG := bg_of 509 (by decide +kernel) rfl
theorem wd_510 : (Cond.code yX5_isWonBy cX5_isWonBy 3 (some .boolean) : Cond) ∈ BG := bg_of 510 (by decide +kernel) rfl
theorem wd_511 : (.selects "BetsOnBets$One" ⟨"BetsOnBets$Bet", "isWonBy", "(ZZ)Z"⟩ yX6_isWonBy : Cond) ∈ BG := bg_of 511 (by decide +kernel) rfl
theorem wd_512 : (.instanceMethod yX6_isWonBy : Cond) ∈ BG := bg_of 512 (by decide +kernel) rfl
theorem wd_513 : (Cond.code yX6_isWonBy cX6_isWonBy 3 (some .boolean) : Cond) ∈ BG := bg_of 513 (by decide +kernel) rfl
theorem wd_514 : (.selects "BetsOnBets$Plain" ⟨"BetsOnBets$Bet", "isWonBy", "(ZZ)Z"⟩ yX7_isWonBy : Cond) ∈ BG := bg_of 514 (by decide +kernel) rfl
theorem wd_515 : (.instanceMethod yX7_isWonBy : Cond) ∈ BG := bg_of 515 (by decide +kernel) rfl
theorem wd_516 : (Cond.code yX7_isWonBy cX7_isWonBy 3 (some .boolean) : Cond) ∈ BG := bg_of 516 (by decide +kernel) rfl
theorem wd_517 : (.methodLink "BetsOnBets" 75 yX9_clear : Cond) ∈ BG := bg_of 517 (by decide +kernel) rfl
theorem wd_518 : (.instanceMethod yX9_clear : Cond) ∈ BG := bg_of 518 (by decide +kernel) rfl
theorem wd_519 : (.selects "BetsOnBets$Row" yX9_clear yX9_clear : Cond) ∈ BG := bg_of 519 (by decide +kernel) rfl
theorem wd_520 : (Cond.code yX9_clear cX9_clear 1 none : Cond) ∈ BG := bg_of 520 (by decide +kernel) rfl
theorem wd_521 : (.arrayClass Jvm.ClassFile.FieldType.byte : Cond) ∈ BG := bg_of 521 (by decide +kernel) rfl
theorem wd_522 : (.methodLink "BetsOnBetsLaw" 23 yX11_chance : Cond) ∈ BG := bg_of 522 (by decide +kernel) rfl
theorem wd_523 : (.instanceMethod yX11_chance : Cond) ∈ BG := bg_of 523 (by decide +kernel) rfl
theorem wd_524 : (.selects "BetsOnBets" yX11_chance yX11_chance : Cond) ∈ BG := bg_of 524 (by decide +kernel) rfl
theorem wd_525 : (Cond.code yX11_chance cX11_chance 2 (some .int) : Cond) ∈ BG := bg_of 525 (by decide +kernel) rfl
theorem wd_526 : (.methodLink "BetsOnBets" 86 yX2_chanceOf : Cond) ∈ BG := bg_of 526 (by decide +kernel) rfl
theorem wd_527 : (.instanceMethod yX2_chanceOf : Cond) ∈ BG := bg_of 527 (by decide +kernel) rfl
theorem wd_528 : (.selects "BetsOnBets$Book" yX2_chanceOf yX2_chanceOf : Cond) ∈ BG := bg_of 528 (by decide +kernel) rfl
theorem wd_529 : (Cond.code yX2_chanceOf cX2_chanceOf 2 (some .int) : Cond) ∈ BG := bg_of 529 (by decide +kernel) rfl
theorem wd_530 : (.methodLink "BetsOnBetsLaw" 27 yX11_bet : Cond) ∈ BG := bg_of 530 (by decide +kernel) rfl
theorem wd_531 : (.instanceMethod yX11_bet : Cond) ∈ BG := bg_of 531 (by decide +kernel) rfl
theorem wd_532 : (.selects "BetsOnBets" yX11_bet yX11_bet : Cond) ∈ BG := bg_of 532 (by decide +kernel) rfl
theorem wd_533 : (Cond.code yX11_bet cX11_bet 3 (some .int) : Cond) ∈ BG := bg_of 533 (by decide +kernel) rfl
theorem wd_534 : (.methodLink "BetsOnBets" 89 yX2_hasBet : Cond) ∈ BG := bg_of 534 (by decide +kernel) rfl
theorem wd_535 : (.instanceMethod yX2_hasBet : Cond) ∈ BG := bg_of 535 (by decide +kernel) rfl
theorem wd_536 : (.selects "BetsOnBets$Book" yX2_hasBet yX2_hasBet : Cond) ∈ BG := bg_of 536 (by decide +kernel) rfl
theorem wd_537 : (Cond.code yX2_hasBet cX2_hasBet 2 (some .boolean) : Cond) ∈ BG := bg_of 537 (by decide +kernel) rfl
theorem wd_538 : (.methodLink "BetsOnBets" 93 yX2_numberOf : Cond) ∈ BG := bg_of 538 (by decide +kernel) rfl
theorem wd_539 : (.methodLink "BetsOnBetsLaw" 32 yX11_set : Cond) ∈ BG := bg_of 539 (by decide +kernel) rfl
theorem wd_540 : (.instanceMethod yX11_set : Cond) ∈ BG := bg_of 540 (by decide +kernel) rfl
theorem wd_541 : (.selects "BetsOnBets" yX11_set yX11_set : Cond) ∈ BG := bg_of 541 (by decide +kernel) rfl
theorem wd_542 : (Cond.code yX11_set cX11_set 7 (some .int) : Cond) ∈ BG := bg_of 542 (by decide +kernel) rfl
theorem wd_543 : (.methodLink "BetsOnBets" 97 yX2_change : Cond) ∈ BG := bg_of 543 (by decide +kernel) rfl
theorem wd_544 : (.methodLink "BetsOnBetsLaw" 37 yX11_fund : Cond) ∈ BG := bg_of 544 (by decide +kernel) rfl
theorem wd_545 : (.instanceMethod yX11_fund : Cond) ∈ BG := bg_of 545 (by decide +kernel) rfl
theorem wd_546 : (.selects "BetsOnBets" yX11_fund yX11_fund : Cond) ∈ BG := bg_of 546 (by decide +kernel) rfl
theorem wd_547 : (Cond.code yX11_fund cX11_fund 4 (some .int) : Cond) ∈ BG := bg_of 547 (by decide +kernel) rfl
theorem wd_548 : (.methodLink "BetsOnBets" 101 yX11_isPerson : Cond) ∈ BG := bg_of 548 (by decide +kernel) rfl
theorem wd_549 : (.methodLink "BetsOnBets" 104 yX2_fundOf : Cond) ∈ BG := bg_of 549 (by decide +kernel) rfl
theorem wd_550 : (.instanceMethod yX2_fundOf : Cond) ∈ BG := bg_of 550 (by decide +kernel) rfl
theorem wd_551 : (.selects "BetsOnBets$Book" yX2_fundOf yX2_fundOf : Cond) ∈ BG := bg_of 551 (by decide +kernel) rfl
theorem wd_552 : (Cond.code yX2_fundOf cX2_fundOf 2 (some .int) : Cond) ∈ BG := bg_of 552 (by decide +kernel) rfl
theorem wd_553 : (.methodLink "BetsOnBets" 107 yX2_changeFund : Cond) ∈ BG := bg_of 553 (by decide +kernel) rfl
theorem wd_554 : (.methodLink "BetsOnBetsLaw" 41 yX11_ways : Cond) ∈ BG := bg_of 554 (by decide +kernel) rfl
theorem wd_555 : (.instanceMethod yX11_ways : Cond) ∈ BG := bg_of 555 (by decide +kernel) rfl
theorem wd_556 : (.selects "BetsOnBets" yX11_ways yX11_ways : Cond) ∈ BG := bg_of 556 (by decide +kernel) rfl
theorem wd_557 : (Cond.code yX11_ways cX11_ways 3 (some .int) : Cond) ∈ BG := bg_of 557 (by decide +kernel) rfl
theorem wd_558 : (.methodLink "BetsOnBets" 111 yX2_hasEnd : Cond) ∈ BG := bg_of 558 (by decide +kernel) rfl
theorem wd_559 : (.instanceMethod yX2_hasEnd : Cond) ∈ BG := bg_of 559 (by decide +kernel) rfl
theorem wd_560 : (.selects "BetsOnBets$Book" yX2_hasEnd yX2_hasEnd : Cond) ∈ BG := bg_of 560 (by decide +kernel) rfl
theorem wd_561 : (Cond.code yX2_hasEnd cX2_hasEnd 2 (some .boolean) : Cond) ∈ BG := bg_of 561 (by decide +kernel) rfl
theorem wd_562 : (.methodLink "BetsOnBets$Book" 71 yX2_ends : Cond) ∈ BG := bg_of 562 (by decide +kernel) rfl
theorem wd_563 : (.methodLink "BetsOnBets" 114 yX10_howMany : Cond) ∈ BG := bg_of 563 (by decide +kernel) rfl
theorem wd_564 : (.instanceMethod yX10_howMany : Cond) ∈ BG := bg_of 564 (by decide +kernel) rfl
theorem wd_565 : (.selects "BetsOnBets$Ways" yX10_howMany yX10_howMany : Cond) ∈ BG := bg_of 565 (by decide +kernel) rfl
theorem wd_566 : (Cond.code yX10_howMany cX10_howMany 2 (some .int) : Cond) ∈ BG := bg_of 566 (by decide +kernel) rfl
theorem wd_568 : (.methodLink "BetsOnBets" 117 yX10_firstOf : Cond) ∈ BG := bg_of 568 (by decide +kernel) rfl
theorem wd_569 : (.instanceMethod yX10_firstOf : Cond) ∈ BG := bg_of 569 (by decide +kernel) rfl
theorem wd_570 : (.selects "BetsOnBets$Ways" yX10_firstOf yX10_firstOf : Cond) ∈ BG := bg_of 570 (by decide +kernel) rfl
theorem wd_571 : (Cond.code yX10_firstOf cX10_firstOf 2 (some .int) : Cond) ∈ BG := bg_of 571 (by decide +kernel) rfl
theorem wd_572 : (.methodLink "BetsOnBetsLaw" 45 yX11_standing : Cond) ∈ BG := bg_of 572 (by decide +kernel) rfl
theorem wd_573 : (.instanceMethod yX11_standing : Cond) ∈ BG := bg_of 573 (by decide +kernel) rfl
theorem wd_574 : (.selects "BetsOnBets" yX11_standing yX11_standing : Cond) ∈ BG := bg_of 574 (by decide +kernel) rfl
theorem wd_575 : (Cond.code yX11_standing cX11_standing 3 (some .int) : Cond) ∈ BG := bg_of 575 (by decide +kernel) rfl
theorem wd_576 : (.methodLink "BetsOnBets" 120 yX10_standingOf : Cond) ∈ BG := bg_of 576 (by decide +kernel) rfl
theorem wd_577 : (.instanceMethod yX10_standingOf : Cond) ∈ BG := bg_of 577 (by decide +kernel) rfl
theorem wd_578 : (.selects "BetsOnBets$Ways" yX10_standingOf yX10_standingOf : Cond) ∈ BG := bg_of 578 (by decide +kernel) rfl
theorem wd_579 : (Cond.code yX10_standingOf cX10_standingOf 3 (some .int) : Cond) ∈ BG := bg_of 579 (by decide +kernel) rfl
theorem wd_580 : (.methodLink "BetsOnBetsLaw" 49 yX11_purse : Cond) ∈ BG := bg_of 580 (by decide +kernel) rfl
theorem wd_581 : (.instanceMethod yX11_purse : Cond) ∈ BG := bg_of 581 (by decide +kernel) rfl
theorem wd_582 : (.selects "BetsOnBets" yX11_purse yX11_purse : Cond) ∈ BG := bg_of 582 (by decide +kernel) rfl
theorem wd_583 : (Cond.code yX11_purse cX11_purse 3 (some .int) : Cond) ∈ BG := bg_of 583 (by decide +kernel) rfl
theorem wd_584 : (.methodLink "BetsOnBets" 123 yX11_refusedFar : Cond) ∈ BG := bg_of 584 (by decide +kernel) rfl
theorem wd_586 : (.instanceMethod yX11_refusedFar : Cond) ∈ BG := bg_of 586 (by decide +kernel) rfl
theorem wd_587 : (Cond.code yX11_refusedFar cX11_refusedFar 2 (some .int) : Cond) ∈ BG := bg_of 587 (by decide +kernel) rfl
theorem wd_588 : (.constant "BetsOnBets" 249 (1000000000 : Int32) : Cond) ∈ BG := bg_of 588 (by decide +kernel) rfl
theorem wd_589 : (.methodLink "BetsOnBets" 126 yX11_purseOf : Cond) ∈ BG := bg_of 589 (by decide +kernel) rfl
theorem wd_591 : (.instanceMethod yX11_purseOf : Cond) ∈ BG := bg_of 591 (by decide +kernel) rfl
theorem wd_592 : (Cond.code yX11_purseOf cX11_purseOf 7 (some .int) : Cond) ∈ BG := bg_of 592 (by decide +kernel) rfl
theorem wd_593 : (.methodLink "BetsOnBets" 231 yX11_bettorsGain : Cond) ∈ BG := bg_of 593 (by decide +kernel) rfl
theorem wd_595 : (.instanceMethod yX11_bettorsGain : Cond) ∈ BG := bg_of 595 (by decide +kernel) rfl
theorem wd_596 : (Cond.code yX11_bettorsGain cX11_bettorsGain 5 (some .int) : Cond) ∈ BG := bg_of 596 (by decide +kernel) rfl
theorem wd_597 : (.methodLink "BetsOnBetsLaw" 53 yX11_mean : Cond) ∈ BG := bg_of 597 (by decide +kernel) rfl
theorem wd_598 : (.instanceMethod yX11_mean : Cond) ∈ BG := bg_of 598 (by decide +kernel) rfl
theorem wd_599 : (.selects "BetsOnBets" yX11_mean yX11_mean : Cond) ∈ BG := bg_of 599 (by decide +kernel) rfl
theorem wd_600 : (Cond.code yX11_mean cX11_mean 2 (some .int) : Cond) ∈ BG := bg_of 600 (by decide +kernel) rfl
theorem wd_601 : (.methodLink "BetsOnBets" 130 yX11_meanOf : Cond) ∈ BG := bg_of 601 (by decide +kernel) rfl
theorem wd_603 : (.instanceMethod yX11_meanOf : Cond) ∈ BG := bg_of 603 (by decide +kernel) rfl
theorem wd_604 : (Cond.code yX11_meanOf cX11_meanOf 7 (some .int) : Cond) ∈ BG := bg_of 604 (by decide +kernel) rfl
theorem wd_605 : (.methodLink "BetsOnBets" 141 yX2_ends : Cond) ∈ BG := bg_of 605 (by decide +kernel) rfl
theorem wd_606 : (.methodLink "BetsOnBets" 144 yX2_weightOf : Cond) ∈ BG := bg_of 606 (by decide +kernel) rfl
theorem wd_607 : (.instanceMethod yX2_weightOf : Cond) ∈ BG := bg_of 607 (by decide +kernel) rfl
theorem wd_608 : (.selects "BetsOnBets$Book" yX2_weightOf yX2_weightOf : Cond) ∈ BG := bg_of 608 (by decide +kernel) rfl
theorem wd_609 : (Cond.code yX2_weightOf cX2_weightOf 6 (some .long) : Cond) ∈ BG := bg_of 609 (by decide +kernel) rfl
theorem wd_610 : (.methodLink "BetsOnBets$Book" 79 yX2_chanceOf : Cond) ∈ BG := bg_of 610 (by decide +kernel) rfl
theorem wd_612 : (.methodLink "BetsOnBets" 148 yX11_inHundredths : Cond) ∈ BG := bg_of 612 (by decide +kernel) rfl
theorem wd_613 : (.static yX11_inHundredths : Cond) ∈ BG := bg_of 613 (by decide +kernel) rfl
theorem wd_614 : (Cond.code yX11_inHundredths cX11_inHundredths 5 (some .int) : Cond) ∈ BG := bg_of 614 (by decide +kernel) rfl
theorem wd_615 : (.methodLink "BetsOnBets" 234 yX2_wholeWeight : Cond) ∈ BG := bg_of 615 (by decide +kernel) rfl
theorem wd_616 : (.instanceMethod yX2_wholeWeight : Cond) ∈ BG := bg_of 616 (by decide +kernel) rfl
theorem wd_617 : (.selects "BetsOnBets$Book" yX2_wholeWeight yX2_wholeWeight : Cond) ∈ BG := bg_of 617 (by decide +kernel) rfl
theorem wd_618 : (Cond.code yX2_wholeWeight cX2_wholeWeight 4 (some .long) : Cond) ∈ BG := bg_of 618 (by decide +kernel) rfl
theorem wd_619 : (.constantLong "BetsOnBets$Book" 86 (100 : Int64) : Cond) ∈ BG := bg_of 619 (by decide +kernel) rfl
theorem wd_620 : (.constantLong "BetsOnBets" 238 (100 : Int64) : Cond) ∈ BG := bg_of 620 (by decide +kernel) rfl
theorem wd_621 : (.methodLink "BetsOnBetsLaw" 57 yX11_worst : Cond) ∈ BG := bg_of 621 (by decide +kernel) rfl
theorem wd_622 : (.instanceMethod yX11_worst : Cond) ∈ BG := bg_of 622 (by decide +kernel) rfl
theorem wd_623 : (.selects "BetsOnBets" yX11_worst yX11_worst : Cond) ∈ BG := bg_of 623 (by decide +kernel) rfl
theorem wd_624 : (Cond.code yX11_worst cX11_worst 3 (some .int) : Cond) ∈ BG := bg_of 624 (by decide +kernel) rfl
theorem wd_625 : (.methodLink "BetsOnBets" 134 yX11_extreme : Cond) ∈ BG := bg_of 625 (by decide +kernel) rfl
theorem wd_627 : (.instanceMethod yX11_extreme : Cond) ∈ BG := bg_of 627 (by decide +kernel) rfl
theorem wd_628 : (Cond.code yX11_extreme cX11_extreme 5 (some .int) : Cond) ∈ BG := bg_of 628 (by decide +kernel) rfl
theorem wd_629 : (.methodLink "BetsOnBets" 138 yX11_extremeEnd : Cond) ∈ BG := bg_of 629 (by decide +kernel) rfl
theorem wd_631 : (.instanceMethod yX11_extremeEnd : Cond) ∈ BG := bg_of 631 (by decide +kernel) rfl
theorem wd_632 : (Cond.code yX11_extremeEnd cX11_extremeEnd 9 (some .int) : Cond) ∈ BG := bg_of 632 (by decide +kernel) rfl
theorem wd_633 : (.methodLink "BetsOnBetsLaw" 61 yX11_best : Cond) ∈ BG := bg_of 633 (by decide +kernel) rfl
theorem wd_634 : (.instanceMethod yX11_best : Cond) ∈ BG := bg_of 634 (by decide +kernel) rfl
theorem wd_635 : (.selects "BetsOnBets" yX11_best yX11_best : Cond) ∈ BG := bg_of 635 (by decide +kernel) rfl
theorem wd_636 : (Cond.code yX11_best cX11_best 3 (some .int) : Cond) ∈ BG := bg_of 636 (by decide +kernel) rfl
theorem wd_637 : (.methodLink "BetsOnBetsLaw" 65 yX11_sure : Cond) ∈ BG := bg_of 637 (by decide +kernel) rfl
theorem wd_638 : (.instanceMethod yX11_sure : Cond) ∈ BG := bg_of 638 (by decide +kernel) rfl
theorem wd_639 : (.selects "BetsOnBets" yX11_sure yX11_sure : Cond) ∈ BG := bg_of 639 (by decide +kernel) rfl
theorem wd_640 : (Cond.code yX11_sure cX11_sure 4 (some .int) : Cond) ∈ BG := bg_of 640 (by decide +kernel) rfl
theorem wd_641 : (.methodLink "BetsOnBetsLaw" 69 yX11_likely : Cond) ∈ BG := bg_of 641 (by decide +kernel) rfl
theorem wd_642 : (.instanceMethod yX11_likely : Cond) ∈ BG := bg_of 642 (by decide +kernel) rfl
theorem wd_643 : (.selects "BetsOnBets" yX11_likely yX11_likely : Cond) ∈ BG := bg_of 643 (by decide +kernel) rfl
theorem wd_644 : (Cond.code yX11_likely cX11_likely 6 (some .int) : Cond) ∈ BG := bg_of 644 (by decide +kernel) rfl
theorem wd_645 : (.methodLink "BetsOnBetsLaw" 73 yX11_voids : Cond) ∈ BG := bg_of 645 (by decide +kernel) rfl
theorem wd_646 : (.instanceMethod yX11_voids : Cond) ∈ BG := bg_of 646 (by decide +kernel) rfl
theorem wd_647 : (.selects "BetsOnBets" yX11_voids yX11_voids : Cond) ∈ BG := bg_of 647 (by decide +kernel) rfl
theorem wd_648 : (Cond.code yX11_voids cX11_voids 4 (some .int) : Cond) ∈ BG := bg_of 648 (by decide +kernel) rfl
theorem wd_649 : (.methodLink "BetsOnBets" 152 yX10_voidIn : Cond) ∈ BG := bg_of 649 (by decide +kernel) rfl
theorem wd_650 : (.instanceMethod yX10_voidIn : Cond) ∈ BG := bg_of 650 (by decide +kernel) rfl
theorem wd_651 : (.selects "BetsOnBets$Ways" yX10_voidIn yX10_voidIn : Cond) ∈ BG := bg_of 651 (by decide +kernel) rfl
theorem wd_652 : (Cond.code yX10_voidIn cX10_voidIn 2 (some .int) : Cond) ∈ BG := bg_of 652 (by decide +kernel) rfl
theorem wd_653 : (.methodLink "BetsOnBetsLaw" 77 yX11_sparing : Cond) ∈ BG := bg_of 653 (by decide +kernel) rfl
theorem wd_654 : (.instanceMethod yX11_sparing : Cond) ∈ BG := bg_of 654 (by decide +kernel) rfl
theorem wd_655 : (.selects "BetsOnBets" yX11_sparing yX11_sparing : Cond) ∈ BG := bg_of 655 (by decide +kernel) rfl
theorem wd_656 : (Cond.code yX11_sparing cX11_sparing 7 (some .int) : Cond) ∈ BG := bg_of 656 (by decide +kernel) rfl
theorem wd_657 : (.methodLink "BetsOnBets" 159 yX11_worstOf : Cond) ∈ BG := bg_of 657 (by decide +kernel) rfl
theorem wd_659 : (.instanceMethod yX11_worstOf : Cond) ∈ BG := bg_of 659 (by decide +kernel) rfl
theorem wd_660 : (Cond.code yX11_worstOf cX11_worstOf 3 (some .int) : Cond) ∈ BG := bg_of 660 (by decide +kernel) rfl
theorem wd_661 : (.methodLink "BetsOnBetsLaw" 81 yX11_safeOdds : Cond) ∈ BG := bg_of 661 (by decide +kernel) rfl
theorem wd_662 : (.instanceMethod yX11_safeOdds : Cond) ∈ BG := bg_of 662 (by decide +kernel) rfl
theorem wd_663 : (.selects "BetsOnBets" yX11_safeOdds yX11_safeOdds : Cond) ∈ BG := bg_of 663 (by decide +kernel) rfl
theorem wd_664 : (Cond.code yX11_safeOdds cX11_safeOdds 4 (some .int) : Cond) ∈ BG := bg_of 664 (by decide +kernel) rfl
theorem wd_665 : (.methodLink "BetsOnBetsLaw" 85 yX11_host : Cond) ∈ BG := bg_of 665 (by decide +kernel) rfl
theorem wd_666 : (.instanceMethod yX11_host : Cond) ∈ BG := bg_of 666 (by decide +kernel) rfl
theorem wd_667 : (.selects "BetsOnBets" yX11_host yX11_host : Cond) ∈ BG := bg_of 667 (by decide +kernel) rfl
theorem wd_668 : (Cond.code yX11_host cX11_host 3 (some .int) : Cond) ∈ BG := bg_of 668 (by decide +kernel) rfl
theorem wd_669 : (.methodLink "BetsOnBetsLaw" 89 yX11_settling : Cond) ∈ BG := bg_of 669 (by decide +kernel) rfl
theorem wd_670 : (.instanceMethod yX11_settling : Cond) ∈ BG := bg_of 670 (by decide +kernel) rfl
theorem wd_671 : (.selects "BetsOnBets" yX11_settling yX11_settling : Cond) ∈ BG := bg_of 671 (by decide +kernel) rfl
theorem wd_672 : (Cond.code yX11_settling cX11_settling 2 (some .int) : Cond) ∈ BG := bg_of 672 (by decide +kernel) rfl
theorem wd_673 : (.methodLink "BetsOnBets" 165 yX11_mostGroups : Cond) ∈ BG := bg_of 673 (by decide +kernel) rfl
theorem wd_675 : (.instanceMethod yX11_mostGroups : Cond) ∈ BG := bg_of 675 (by decide +kernel) rfl
theorem wd_676 : (Cond.code yX11_mostGroups cX11_mostGroups 6 (some .int) : Cond) ∈ BG := bg_of 676 (by decide +kernel) rfl
theorem wd_677 : (.methodLink "BetsOnBets" 179 yX11_has : Cond) ∈ BG := bg_of 677 (by decide +kernel) rfl
theorem wd_678 : (.methodLink "BetsOnBets" 240 yJ9_max_7cf53 : Cond) ∈ BG := bg_of 678 (by decide +kernel) rfl
theorem wd_679 : (.methodLink "BetsOnBetsLaw" 93 yX11_cannotPay : Cond) ∈ BG := bg_of 679 (by decide +kernel) rfl
theorem wd_680 : (.instanceMethod yX11_cannotPay : Cond) ∈ BG := bg_of 680 (by decide +kernel) rfl
theorem wd_681 : (.selects "BetsOnBets" yX11_cannotPay yX11_cannotPay : Cond) ∈ BG := bg_of 681 (by decide +kernel) rfl
theorem wd_682 : (Cond.code yX11_cannotPay cX11_cannotPay 4 (some .int) : Cond) ∈ BG := bg_of 682 (by decide +kernel) rfl
theorem wd_683 : (.methodLink "BetsOnBetsLaw" 97 yX11_rings : Cond) ∈ BG := bg_of 683 (by decide +kernel) rfl
theorem wd_684 : (.instanceMethod yX11_rings : Cond) ∈ BG := bg_of 684 (by decide +kernel) rfl
theorem wd_685 : (.selects "BetsOnBets" yX11_rings yX11_rings : Cond) ∈ BG := bg_of 685 (by decide +kernel) rfl
theorem wd_686 : (Cond.code yX11_rings cX11_rings 3 (some .int) : Cond) ∈ BG := bg_of 686 (by decide +kernel) rfl
theorem wd_687 : (.methodLink "BetsOnBets" 168 yX10_lookedAt : Cond) ∈ BG := bg_of 687 (by decide +kernel) rfl
theorem wd_688 : (.instanceMethod yX10_lookedAt : Cond) ∈ BG := bg_of 688 (by decide +kernel) rfl
theorem wd_689 : (.selects "BetsOnBets$Ways" yX10_lookedAt yX10_lookedAt : Cond) ∈ BG := bg_of 689 (by decide +kernel) rfl
theorem wd_690 : (Cond.code yX10_lookedAt cX10_lookedAt 5 (some .int) : Cond) ∈ BG := bg_of 690 (by decide +kernel) rfl
theorem wd_691 : (.methodLink "BetsOnBets$Ways" 94 yX10_betBit : Cond) ∈ BG := bg_of 691 (by decide +kernel) rfl
theorem wd_692 : (.static yX10_betBit : Cond) ∈ BG := bg_of 692 (by decide +kernel) rfl
theorem wd_693 : (Cond.code yX10_betBit cX10_betBit 2 (some .int) : Cond) ∈ BG := bg_of 693 (by decide +kernel) rfl
theorem wd_694 : (.methodLink "BetsOnBets$Ways" 102 yX2_hasBet : Cond) ∈ BG := bg_of 694 (by decide +kernel) rfl
theorem wd_695 : (.methodLink "BetsOnBets$Ways" 98 yX1_looksAtBoth : Cond) ∈ BG := bg_of 695 (by decide +kernel) rfl
theorem wd_696 : (.instanceMethod yX1_looksAtBoth : Cond) ∈ BG := bg_of 696 (by decide +kernel) rfl
theorem wd_697 : (.sameMethod "BetsOnBets$Bet" "BetsOnBets$Bet" "looksAtBoth" "()Z" : Cond) ∈ BG := bg_of 697 (by decide +kernel) rfl
theorem wd_698 : (.selects "BetsOnBets$Against" yX1_looksAtBoth yX7_looksAtBoth : Cond) ∈ BG := bg_of 698 (by decide +kernel) rfl
theorem wd_699 : (.instanceMethod yX7_looksAtBoth : Cond) ∈ BG := bg_of 699 (by decide +kernel) rfl
theorem wd_700 : (Cond.code yX7_looksAtBoth cX7_looksAtBoth 1 (some .boolean) : Cond) ∈ BG := bg_of 700 (by decide +kernel) rfl
theorem wd_701 : (.selects "BetsOnBets$Both" yX1_looksAtBoth yX3_looksAtBoth : Cond) ∈ BG := bg_of 701 (by decide +kernel) rfl
theorem wd_702 : (.instanceMethod yX3_looksAtBoth : Cond) ∈ BG := bg_of 702 (by decide +kernel) rfl
theorem wd_703 : (Cond.code yX3_looksAtBoth cX3_looksAtBoth 1 (some .boolean) : Cond) ∈ BG := bg_of 703 (by decide +kernel) rfl
theorem wd_704 : (.selects "BetsOnBets$Either" yX1_looksAtBoth yX1_looksAtBoth : Cond) ∈ BG := bg_of 704 (by decide +kernel) rfl
theorem wd_705 : (.selects "BetsOnBets$Neither" yX1_looksAtBoth yX1_looksAtBoth : Cond) ∈ BG := bg_of 705 (by decide +kernel) rfl
theorem wd_706 : (.selects "BetsOnBets$One" yX1_looksAtBoth yX1_looksAtBoth : Cond) ∈ BG := bg_of 706 (by decide +kernel) rfl
theorem wd_707 : (.selects "BetsOnBets$Plain" yX1_looksAtBoth yX7_looksAtBoth : Cond) ∈ BG := bg_of 707 (by decide +kernel) rfl
theorem wd_708 : (Cond.code yX1_looksAtBoth cX1_looksAtBoth 1 (some .boolean) : Cond) ∈ BG := bg_of 708 (by decide +kernel) rfl
theorem wd_709 : (.methodLink "BetsOnBetsLaw" 101 yX11_row : Cond) ∈ BG := bg_of 709 (by decide +kernel) rfl
theorem wd_710 : (.instanceMethod yX11_row : Cond) ∈ BG := bg_of 710 (by decide +kernel) rfl
theorem wd_711 : (.selects "BetsOnBets" yX11_row yX11_row : Cond) ∈ BG := bg_of 711 (by decide +kernel) rfl
theorem wd_712 : (Cond.code yX11_row cX11_row 2 (some .int) : Cond) ∈ BG := bg_of 712 (by decide +kernel) rfl
theorem wd_713 : (.methodLink "BetsOnBetsLaw" 105 yX11_fitting : Cond) ∈ BG := bg_of 713 (by decide +kernel) rfl
theorem wd_714 : (.instanceMethod yX11_fitting : Cond) ∈ BG := bg_of 714 (by decide +kernel) rfl
theorem wd_715 : (.selects "BetsOnBets" yX11_fitting yX11_fitting : Cond) ∈ BG := bg_of 715 (by decide +kernel) rfl
theorem wd_716 : (Cond.code yX11_fitting cX11_fitting 5 (some .int) : Cond) ∈ BG := bg_of 716 (by decide +kernel) rfl
theorem wd_717 : (.methodLink "BetsOnBets" 183 yX11_firstUnlike : Cond) ∈ BG := bg_of 717 (by decide +kernel) rfl
theorem wd_719 : (.instanceMethod yX11_firstUnlike : Cond) ∈ BG := bg_of 719 (by decide +kernel) rfl
theorem wd_720 : (Cond.code yX11_firstUnlike cX11_firstUnlike 3 (some .int) : Cond) ∈ BG := bg_of 720 (by decide +kernel) rfl
theorem wd_721 : (.methodLink "BetsOnBets" 245 yX9_get : Cond) ∈ BG := bg_of 721 (by decide +kernel) rfl
theorem wd_722 : (.methodLink "BetsOnBets" 186 yJ6_bitCount_0f7a4 : Cond) ∈ BG := bg_of 722 (by decide +kernel) rfl
theorem wd_723 : (.static yJ6_bitCount_0f7a4 : Cond) ∈ BG := bg_of 723 (by decide +kernel) rfl
theorem wd_724 : (Cond.code yJ6_bitCount_0f7a4 cJ6_bitCount_0f7a4 1 (some .int) : Cond) ∈ BG := bg_of 724 (by decide +kernel) rfl
theorem wd_725 : (.constant "java/lang/Integer" 265 (1431655765 : Int32) : Cond) ∈ BG := bg_of 725 (by decide +kernel) rfl
theorem wd_726 : (.constant "java/lang/Integer" 266 (858993459 : Int32) : Cond) ∈ BG := bg_of 726 (by decide +kernel) rfl
theorem wd_727 : (.constant "java/lang/Integer" 267 (252645135 : Int32) : Cond) ∈ BG := bg_of 727 (by decide +kernel) rfl
theorem wd_728 : (.methodLink "BetsOnBetsLaw" 109 yX11_judge : Cond) ∈ BG := bg_of 728 (by decide +kernel) rfl
theorem wd_729 : (.instanceMethod yX11_judge : Cond) ∈ BG := bg_of 729 (by decide +kernel) rfl
theorem wd_730 : (.selects "BetsOnBets" yX11_judge yX11_judge : Cond) ∈ BG := bg_of 730 (by decide +kernel) rfl
theorem wd_731 : (Cond.code yX11_judge cX11_judge 3 (some .int) : Cond) ∈ BG := bg_of 731 (by decide +kernel) rfl
theorem wd_732 : (.methodLink "BetsOnBetsLaw" 113 yX11_seeds : Cond) ∈ BG := bg_of 732 (by decide +kernel) rfl
theorem wd_733 : (.instanceMethod yX11_seeds : Cond) ∈ BG := bg_of 733 (by decide +kernel) rfl
theorem wd_734 : (.selects "BetsOnBets" yX11_seeds yX11_seeds : Cond) ∈ BG := bg_of 734 (by decide +kernel) rfl
theorem wd_735 : (Cond.code yX11_seeds cX11_seeds 9 (some .int) : Cond) ∈ BG := bg_of 735 (by decide +kernel) rfl
theorem wd_736 : (.constant "BetsOnBets" 191 (1664525 : Int32) : Cond) ∈ BG := bg_of 736 (by decide +kernel) rfl
theorem wd_737 : (.constant "BetsOnBets" 192 (1013904223 : Int32) : Cond) ∈ BG := bg_of 737 (by decide +kernel) rfl
theorem wd_738 : (.methodLink "BetsOnBets" 193 yX11_drawBy : Cond) ∈ BG := bg_of 738 (by decide +kernel) rfl
theorem wd_739 : (.static yX11_drawBy : Cond) ∈ BG := bg_of 739 (by decide +kernel) rfl
theorem wd_740 : (Cond.code yX11_drawBy cX11_drawBy 1 (some .int) : Cond) ∈ BG := bg_of 740 (by decide +kernel) rfl
theorem wd_741 : (.constant "BetsOnBets" 248 (2147483647 : Int32) : Cond) ∈ BG := bg_of 741 (by decide +kernel) rfl
theorem wd_742 : (.methodLink "BetsOnBetsLaw" 117 yX11_image : Cond) ∈ BG := bg_of 742 (by decide +kernel) rfl
theorem wd_743 : (.instanceMethod yX11_image : Cond) ∈ BG := bg_of 743 (by decide +kernel) rfl
theorem wd_744 : (.selects "BetsOnBets" yX11_image yX11_image : Cond) ∈ BG := bg_of 744 (by decide +kernel) rfl
theorem wd_745 : (Cond.code yX11_image cX11_image 1 (some .int) : Cond) ∈ BG := bg_of 745 (by decide +kernel) rfl
theorem wd_746 : (.methodLink "BetsOnBetsLaw" 121 yX11_on : Cond) ∈ BG := bg_of 746 (by decide +kernel) rfl
theorem wd_747 : (.instanceMethod yX11_on : Cond) ∈ BG := bg_of 747 (by decide +kernel) rfl
theorem wd_748 : (.selects "BetsOnBets" yX11_on yX11_on : Cond) ∈ BG := bg_of 748 (by decide +kernel) rfl
theorem wd_749 : (Cond.code yX11_on cX11_on 1 (some .int) : Cond) ∈ BG := bg_of 749 (by decide +kernel) rfl
theorem wd_750 : (.methodLink "BetsOnBetsLaw" 125 yX11_count : Cond) ∈ BG := bg_of 750 (by decide +kernel) rfl
theorem wd_751 : (.instanceMethod yX11_count : Cond) ∈ BG := bg_of 751 (by decide +kernel) rfl
theorem wd_752 : (.selects "BetsOnBets" yX11_count yX11_count : Cond) ∈ BG := bg_of 752 (by decide +kernel) rfl
theorem wd_753 : (Cond.code yX11_count cX11_count 2 (some .int) : Cond) ∈ BG := bg_of 753 (by decide +kernel) rfl
theorem wd_754 : (.methodLink "BetsOnBets" 199 yX2_allStakes : Cond) ∈ BG := bg_of 754 (by decide +kernel) rfl
theorem wd_755 : (.instanceMethod yX2_allStakes : Cond) ∈ BG := bg_of 755 (by decide +kernel) rfl
theorem wd_756 : (.selects "BetsOnBets$Book" yX2_allStakes yX2_allStakes : Cond) ∈ BG := bg_of 756 (by decide +kernel) rfl
theorem wd_757 : (Cond.code yX2_allStakes cX2_allStakes 3 (some .int) : Cond) ∈ BG := bg_of 757 (by decide +kernel) rfl
theorem wd_758 : (.methodLink "BetsOnBets$Book" 75 yX2_numberOf : Cond) ∈ BG := bg_of 758 (by decide +kernel) rfl
theorem wd_759 : (.classLink "BetsOnBetsLaw" 10 "BetsOnBetsModel" : Cond) ∈ BG := bg_of 759 (by decide +kernel) rfl
theorem wd_760 : (.instantiable "BetsOnBetsModel" 15 : Cond) ∈ BG := bg_of 760 (by decide +kernel) rfl
theorem wd_761 : (.methodLink "BetsOnBetsLaw" 12 yX12_init : Cond) ∈ BG := bg_of 761 (by decide +kernel) rfl
theorem wd_762 : (.instanceMethod yX12_init : Cond) ∈ BG := bg_of 762 (by decide +kernel) rfl
theorem wd_763 : (Cond.code yX12_init cX12_init 2 none : Cond) ∈ BG := bg_of 763 (by decide +kernel) rfl
theorem wd_764 : (.methodLink "BetsOnBetsModel" 1 objectInit : Cond) ∈ BG := bg_of 764 (by decide +kernel) rfl
theorem wd_765 : (.fieldLink "BetsOnBetsModel" 7 "BetsOnBetsModel" "refusals" "[I" : Cond) ∈ BG := bg_of 765 (by decide +kernel) rfl
theorem wd_766 : (.fieldLink "BetsOnBetsModel" 13 "BetsOnBetsModel" "s" "[I" : Cond) ∈ BG := bg_of 766 (by decide +kernel) rfl
theorem wd_767 : (.fieldLink "BetsOnBetsModel" 16 "BetsOnBetsModel" "image" "[I" : Cond) ∈ BG := bg_of 767 (by decide +kernel) rfl
theorem wd_768 : (.fieldLink "BetsOnBetsModel" 19 "BetsOnBetsModel" "read" "[I" : Cond) ∈ BG := bg_of 768 (by decide +kernel) rfl
theorem wd_769 : (.fieldLink "BetsOnBetsModel" 179 "BetsOnBetsModel" "isImage" "Z" : Cond) ∈ BG := bg_of 769 (by decide +kernel) rfl
theorem wd_770 : (.fieldLink "BetsOnBetsModel" 22 "BetsOnBetsModel" "tape" "[I" : Cond) ∈ BG := bg_of 770 (by decide +kernel) rfl
theorem wd_771 : (.fieldLink "BetsOnBetsModel" 25 "BetsOnBetsModel" "told" "[I" : Cond) ∈ BG := bg_of 771 (by decide +kernel) rfl
theorem wd_772 : (.fieldLink "BetsOnBetsModel" 43 "BetsOnBetsModel" "taped" "I" : Cond) ∈ BG := bg_of 772 (by decide +kernel) rfl
theorem wd_773 : (.fieldLink "BetsOnBetsModel" 51 "BetsOnBetsModel" "at" "I" : Cond) ∈ BG := bg_of 773 (by decide +kernel) rfl
theorem wd_774 : (.fieldLink "BetsOnBetsModel" 107 "BetsOnBetsModel" "ways" "I" : Cond) ∈ BG := bg_of 774 (by decide +kernel) rfl
theorem wd_775 : (.fieldLink "BetsOnBetsModel" 110 "BetsOnBetsModel" "firstWay" "I" : Cond) ∈ BG := bg_of 775 (by decide +kernel) rfl
theorem wd_776 : (.fieldLink "BetsOnBetsModel" 113 "BetsOnBetsModel" "some" "I" : Cond) ∈ BG := bg_of 776 (by decide +kernel) rfl
theorem wd_777 : (.fieldLink "BetsOnBetsModel" 116 "BetsOnBetsModel" "all" "I" : Cond) ∈ BG := bg_of 777 (by decide +kernel) rfl
theorem wd_778 : (.fieldLink "BetsOnBetsModel" 28 "BetsOnBetsModel" "row" "[I" : Cond) ∈ BG := bg_of 778 (by decide +kernel) rfl
theorem wd_779 : (.fieldLink "BetsOnBetsModel" 170 "BetsOnBetsModel" "rowed" "I" : Cond) ∈ BG := bg_of 779 (by decide +kernel) rfl
theorem wd_811 : (.methodLink "BetsOnBetsLaw" 17 yX12_letter : Cond) ∈ BG := bg_of 811 (by decide +kernel) rfl
theorem wd_812 : (.instanceMethod yX12_letter : Cond) ∈ BG := bg_of 812 (by decide +kernel) rfl
theorem wd_813 : (.selects "BetsOnBetsModel" yX12_letter yX12_letter : Cond) ∈ BG := bg_of 813 (by decide +kernel) rfl
theorem wd_814 : (Cond.code yX12_letter cX12_letter 3 (some .int) : Cond) ∈ BG := bg_of 814 (by decide +kernel) rfl
theorem wd_815 : (.methodLink "BetsOnBetsModel" 39 yX12_within : Cond) ∈ BG := bg_of 815 (by decide +kernel) rfl
theorem wd_816 : (.static yX12_within : Cond) ∈ BG := bg_of 816 (by decide +kernel) rfl
theorem wd_817 : (Cond.code yX12_within cX12_within 3 (some .int) : Cond) ∈ BG := bg_of 817 (by decide +kernel) rfl
theorem wd_818 : (.methodLink "BetsOnBetsModel" 47 yX12_refuse : Cond) ∈ BG := bg_of 818 (by decide +kernel) rfl
theorem wd_820 : (.instanceMethod yX12_refuse : Cond) ∈ BG := bg_of 820 (by decide +kernel) rfl
theorem wd_821 : (Cond.code yX12_refuse cX12_refuse 2 (some .int) : Cond) ∈ BG := bg_of 821 (by decide +kernel) rfl
theorem wd_822 : (.methodLink "BetsOnBetsLaw" 22 yX12_inn : Cond) ∈ BG := bg_of 822 (by decide +kernel) rfl
theorem wd_823 : (.instanceMethod yX12_inn : Cond) ∈ BG := bg_of 823 (by decide +kernel) rfl
theorem wd_824 : (.selects "BetsOnBetsModel" yX12_inn yX12_inn : Cond) ∈ BG := bg_of 824 (by decide +kernel) rfl
theorem wd_825 : (Cond.code yX12_inn cX12_inn 2 (some .int) : Cond) ∈ BG := bg_of 825 (by decide +kernel) rfl
theorem wd_826 : (.methodLink "BetsOnBetsModel" 90 yX12_reads : Cond) ∈ BG := bg_of 826 (by decide +kernel) rfl
theorem wd_828 : (.instanceMethod yX12_reads : Cond) ∈ BG := bg_of 828 (by decide +kernel) rfl
theorem wd_829 : (Cond.code yX12_reads cX12_reads 5 (some .int) : Cond) ∈ BG := bg_of 829 (by decide +kernel) rfl
theorem wd_830 : (.methodLink "BetsOnBetsModel" 80 yX12_readsStatement : Cond) ∈ BG := bg_of 830 (by decide +kernel) rfl
theorem wd_832 : (.instanceMethod yX12_readsStatement : Cond) ∈ BG := bg_of 832 (by decide +kernel) rfl
theorem wd_833 : (Cond.code yX12_readsStatement cX12_readsStatement 3 (some .boolean) : Cond) ∈ BG := bg_of 833 (by decide +kernel) rfl
theorem wd_834 : (.methodLink "BetsOnBetsModel" 54 yX12_sign : Cond) ∈ BG := bg_of 834 (by decide +kernel) rfl
theorem wd_836 : (.instanceMethod yX12_sign : Cond) ∈ BG := bg_of 836 (by decide +kernel) rfl
theorem wd_837 : (Cond.code yX12_sign cX12_sign 1 (some .int) : Cond) ∈ BG := bg_of 837 (by decide +kernel) rfl
theorem wd_838 : (.methodLink "BetsOnBetsModel" 60 yX12_readsNumber : Cond) ∈ BG := bg_of 838 (by decide +kernel) rfl
theorem wd_840 : (.instanceMethod yX12_readsNumber : Cond) ∈ BG := bg_of 840 (by decide +kernel) rfl
theorem wd_841 : (Cond.code yX12_readsNumber cX12_readsNumber 4 (some .boolean) : Cond) ∈ BG := bg_of 841 (by decide +kernel) rfl
theorem wd_842 : (.methodLink "BetsOnBetsModel" 31 yX12_isIn : Cond) ∈ BG := bg_of 842 (by decide +kernel) rfl
theorem wd_843 : (.static yX12_isIn : Cond) ∈ BG := bg_of 843 (by decide +kernel) rfl
theorem wd_844 : (Cond.code yX12_isIn cX12_isIn 2 (some .boolean) : Cond) ∈ BG := bg_of 844 (by decide +kernel) rfl
theorem wd_845 : (.methodLink "BetsOnBetsModel" 63 yX12_readsKind : Cond) ∈ BG := bg_of 845 (by decide +kernel) rfl
theorem wd_847 : (.instanceMethod yX12_readsKind : Cond) ∈ BG := bg_of 847 (by decide +kernel) rfl
theorem wd_848 : (Cond.code yX12_readsKind cX12_readsKind 1 (some .boolean) : Cond) ∈ BG := bg_of 848 (by decide +kernel) rfl
theorem wd_849 : (.methodLink "BetsOnBetsModel" 57 yX12_kindOf : Cond) ∈ BG := bg_of 849 (by decide +kernel) rfl
theorem wd_850 : (.static yX12_kindOf : Cond) ∈ BG := bg_of 850 (by decide +kernel) rfl
theorem wd_851 : (Cond.code yX12_kindOf cX12_kindOf 1 (some .int) : Cond) ∈ BG := bg_of 851 (by decide +kernel) rfl
theorem wd_852 : (.methodLink "BetsOnBetsModel" 67 yX12_readsMark : Cond) ∈ BG := bg_of 852 (by decide +kernel) rfl
theorem wd_854 : (.instanceMethod yX12_readsMark : Cond) ∈ BG := bg_of 854 (by decide +kernel) rfl
theorem wd_855 : (Cond.code yX12_readsMark cX12_readsMark 3 (some .boolean) : Cond) ∈ BG := bg_of 855 (by decide +kernel) rfl
theorem wd_856 : (.methodLink "BetsOnBetsModel" 71 yX12_takes : Cond) ∈ BG := bg_of 856 (by decide +kernel) rfl
theorem wd_858 : (.instanceMethod yX12_takes : Cond) ∈ BG := bg_of 858 (by decide +kernel) rfl
theorem wd_859 : (Cond.code yX12_takes cX12_takes 2 (some .boolean) : Cond) ∈ BG := bg_of 859 (by decide +kernel) rfl
theorem wd_860 : (.methodLink "BetsOnBetsModel" 83 yX12_copies : Cond) ∈ BG := bg_of 860 (by decide +kernel) rfl
theorem wd_861 : (.static yX12_copies : Cond) ∈ BG := bg_of 861 (by decide +kernel) rfl
theorem wd_862 : (Cond.code yX12_copies cX12_copies 3 none : Cond) ∈ BG := bg_of 862 (by decide +kernel) rfl
theorem wd_863 : (.methodLink "BetsOnBetsModel" 87 yX12_comes : Cond) ∈ BG := bg_of 863 (by decide +kernel) rfl
theorem wd_865 : (.instanceMethod yX12_comes : Cond) ∈ BG := bg_of 865 (by decide +kernel) rfl
theorem wd_866 : (Cond.code yX12_comes cX12_comes 4 (some .boolean) : Cond) ∈ BG := bg_of 866 (by decide +kernel) rfl
theorem wd_867 : (.methodLink "BetsOnBetsModel" 74 yX12_isMark : Cond) ∈ BG := bg_of 867 (by decide +kernel) rfl
theorem wd_869 : (.instanceMethod yX12_isMark : Cond) ∈ BG := bg_of 869 (by decide +kernel) rfl
theorem wd_870 : (Cond.code yX12_isMark cX12_isMark 2 (some .boolean) : Cond) ∈ BG := bg_of 870 (by decide +kernel) rfl
theorem wd_871 : (.methodLink "BetsOnBetsModel" 77 yX12_isPerson : Cond) ∈ BG := bg_of 871 (by decide +kernel) rfl
theorem wd_872 : (.static yX12_isPerson : Cond) ∈ BG := bg_of 872 (by decide +kernel) rfl
theorem wd_873 : (Cond.code yX12_isPerson cX12_isPerson 1 (some .boolean) : Cond) ∈ BG := bg_of 873 (by decide +kernel) rfl
theorem wd_874 : (.methodLink "BetsOnBetsLaw" 26 yX12_chance : Cond) ∈ BG := bg_of 874 (by decide +kernel) rfl
theorem wd_875 : (.instanceMethod yX12_chance : Cond) ∈ BG := bg_of 875 (by decide +kernel) rfl
theorem wd_876 : (.selects "BetsOnBetsModel" yX12_chance yX12_chance : Cond) ∈ BG := bg_of 876 (by decide +kernel) rfl
theorem wd_877 : (Cond.code yX12_chance cX12_chance 2 (some .int) : Cond) ∈ BG := bg_of 877 (by decide +kernel) rfl
theorem wd_878 : (.methodLink "BetsOnBetsLaw" 31 yX12_bet : Cond) ∈ BG := bg_of 878 (by decide +kernel) rfl
theorem wd_879 : (.instanceMethod yX12_bet : Cond) ∈ BG := bg_of 879 (by decide +kernel) rfl
theorem wd_880 : (.selects "BetsOnBetsModel" yX12_bet yX12_bet : Cond) ∈ BG := bg_of 880 (by decide +kernel) rfl
theorem wd_881 : (Cond.code yX12_bet cX12_bet 3 (some .int) : Cond) ∈ BG := bg_of 881 (by decide +kernel) rfl
theorem wd_882 : (.methodLink "BetsOnBetsModel" 93 yX12_isBet : Cond) ∈ BG := bg_of 882 (by decide +kernel) rfl
theorem wd_884 : (.instanceMethod yX12_isBet : Cond) ∈ BG := bg_of 884 (by decide +kernel) rfl
theorem wd_885 : (Cond.code yX12_isBet cX12_isBet 2 (some .boolean) : Cond) ∈ BG := bg_of 885 (by decide +kernel) rfl
theorem wd_886 : (.methodLink "BetsOnBetsModel" 96 yX12_get : Cond) ∈ BG := bg_of 886 (by decide +kernel) rfl
theorem wd_888 : (.instanceMethod yX12_get : Cond) ∈ BG := bg_of 888 (by decide +kernel) rfl
theorem wd_889 : (Cond.code yX12_get cX12_get 3 (some .int) : Cond) ∈ BG := bg_of 889 (by decide +kernel) rfl
theorem wd_890 : (.methodLink "BetsOnBetsLaw" 36 yX12_set : Cond) ∈ BG := bg_of 890 (by decide +kernel) rfl
theorem wd_891 : (.instanceMethod yX12_set : Cond) ∈ BG := bg_of 891 (by decide +kernel) rfl
theorem wd_892 : (.selects "BetsOnBetsModel" yX12_set yX12_set : Cond) ∈ BG := bg_of 892 (by decide +kernel) rfl
theorem wd_893 : (Cond.code yX12_set cX12_set 6 (some .int) : Cond) ∈ BG := bg_of 893 (by decide +kernel) rfl
theorem wd_894 : (.methodLink "BetsOnBetsLaw" 40 yX12_fund : Cond) ∈ BG := bg_of 894 (by decide +kernel) rfl
theorem wd_895 : (.instanceMethod yX12_fund : Cond) ∈ BG := bg_of 895 (by decide +kernel) rfl
theorem wd_896 : (.selects "BetsOnBetsModel" yX12_fund yX12_fund : Cond) ∈ BG := bg_of 896 (by decide +kernel) rfl
theorem wd_897 : (Cond.code yX12_fund cX12_fund 5 (some .int) : Cond) ∈ BG := bg_of 897 (by decide +kernel) rfl
theorem wd_898 : (.methodLink "BetsOnBetsLaw" 44 yX12_ways : Cond) ∈ BG := bg_of 898 (by decide +kernel) rfl
theorem wd_899 : (.instanceMethod yX12_ways : Cond) ∈ BG := bg_of 899 (by decide +kernel) rfl
theorem wd_900 : (.selects "BetsOnBetsModel" yX12_ways yX12_ways : Cond) ∈ BG := bg_of 900 (by decide +kernel) rfl
theorem wd_901 : (Cond.code yX12_ways cX12_ways 4 (some .int) : Cond) ∈ BG := bg_of 901 (by decide +kernel) rfl
theorem wd_902 : (.methodLink "BetsOnBetsModel" 122 yX12_isEnd : Cond) ∈ BG := bg_of 902 (by decide +kernel) rfl
theorem wd_904 : (.instanceMethod yX12_isEnd : Cond) ∈ BG := bg_of 904 (by decide +kernel) rfl
theorem wd_905 : (Cond.code yX12_isEnd cX12_isEnd 2 (some .boolean) : Cond) ∈ BG := bg_of 905 (by decide +kernel) rfl
theorem wd_906 : (.methodLink "BetsOnBetsModel" 35 yX12_ends : Cond) ∈ BG := bg_of 906 (by decide +kernel) rfl
theorem wd_908 : (.instanceMethod yX12_ends : Cond) ∈ BG := bg_of 908 (by decide +kernel) rfl
theorem wd_909 : (Cond.code yX12_ends cX12_ends 1 (some .int) : Cond) ∈ BG := bg_of 909 (by decide +kernel) rfl
theorem wd_910 : (.methodLink "BetsOnBetsModel" 125 yX12_findsWays : Cond) ∈ BG := bg_of 910 (by decide +kernel) rfl
theorem wd_912 : (.instanceMethod yX12_findsWays : Cond) ∈ BG := bg_of 912 (by decide +kernel) rfl
theorem wd_913 : (Cond.code yX12_findsWays cX12_findsWays 3 none : Cond) ∈ BG := bg_of 913 (by decide +kernel) rfl
theorem wd_914 : (.methodLink "BetsOnBetsModel" 119 yX12_isWay : Cond) ∈ BG := bg_of 914 (by decide +kernel) rfl
theorem wd_916 : (.instanceMethod yX12_isWay : Cond) ∈ BG := bg_of 916 (by decide +kernel) rfl
theorem wd_917 : (Cond.code yX12_isWay cX12_isWay 4 (some .boolean) : Cond) ∈ BG := bg_of 917 (by decide +kernel) rfl
theorem wd_918 : (.methodLink "BetsOnBetsModel" 104 yX12_isWonBy : Cond) ∈ BG := bg_of 918 (by decide +kernel) rfl
theorem wd_920 : (.instanceMethod yX12_isWonBy : Cond) ∈ BG := bg_of 920 (by decide +kernel) rfl
theorem wd_921 : (Cond.code yX12_isWonBy cX12_isWonBy 6 (some .boolean) : Cond) ∈ BG := bg_of 921 (by decide +kernel) rfl
theorem wd_922 : (.methodLink "BetsOnBetsModel" 100 yX12_isSo : Cond) ∈ BG := bg_of 922 (by decide +kernel) rfl
theorem wd_923 : (.static yX12_isSo : Cond) ∈ BG := bg_of 923 (by decide +kernel) rfl
theorem wd_924 : (Cond.code yX12_isSo cX12_isSo 3 (some .boolean) : Cond) ∈ BG := bg_of 924 (by decide +kernel) rfl
theorem wd_925 : (.methodLink "BetsOnBetsLaw" 48 yX12_standing : Cond) ∈ BG := bg_of 925 (by decide +kernel) rfl
theorem wd_926 : (.instanceMethod yX12_standing : Cond) ∈ BG := bg_of 926 (by decide +kernel) rfl
theorem wd_927 : (.selects "BetsOnBetsModel" yX12_standing yX12_standing : Cond) ∈ BG := bg_of 927 (by decide +kernel) rfl
theorem wd_928 : (Cond.code yX12_standing cX12_standing 3 (some .int) : Cond) ∈ BG := bg_of 928 (by decide +kernel) rfl
theorem wd_929 : (.methodLink "BetsOnBetsModel" 129 yX12_standingOf : Cond) ∈ BG := bg_of 929 (by decide +kernel) rfl
theorem wd_931 : (.instanceMethod yX12_standingOf : Cond) ∈ BG := bg_of 931 (by decide +kernel) rfl
theorem wd_932 : (Cond.code yX12_standingOf cX12_standingOf 2 (some .int) : Cond) ∈ BG := bg_of 932 (by decide +kernel) rfl
theorem wd_933 : (.methodLink "BetsOnBetsLaw" 52 yX12_purse : Cond) ∈ BG := bg_of 933 (by decide +kernel) rfl
theorem wd_934 : (.instanceMethod yX12_purse : Cond) ∈ BG := bg_of 934 (by decide +kernel) rfl
theorem wd_935 : (.selects "BetsOnBetsModel" yX12_purse yX12_purse : Cond) ∈ BG := bg_of 935 (by decide +kernel) rfl
theorem wd_936 : (Cond.code yX12_purse cX12_purse 3 (some .int) : Cond) ∈ BG := bg_of 936 (by decide +kernel) rfl
theorem wd_937 : (.methodLink "BetsOnBetsModel" 132 yX12_purseOf : Cond) ∈ BG := bg_of 937 (by decide +kernel) rfl
theorem wd_939 : (.instanceMethod yX12_purseOf : Cond) ∈ BG := bg_of 939 (by decide +kernel) rfl
theorem wd_940 : (Cond.code yX12_purseOf cX12_purseOf 7 (some .int) : Cond) ∈ BG := bg_of 940 (by decide +kernel) rfl
theorem wd_941 : (.constant "BetsOnBetsModel" 135 (1000000000 : Int32) : Cond) ∈ BG := bg_of 941 (by decide +kernel) rfl
theorem wd_942 : (.methodLink "BetsOnBetsLaw" 56 yX12_mean : Cond) ∈ BG := bg_of 942 (by decide +kernel) rfl
theorem wd_943 : (.instanceMethod yX12_mean : Cond) ∈ BG := bg_of 943 (by decide +kernel) rfl
theorem wd_944 : (.selects "BetsOnBetsModel" yX12_mean yX12_mean : Cond) ∈ BG := bg_of 944 (by decide +kernel) rfl
theorem wd_945 : (Cond.code yX12_mean cX12_mean 2 (some .int) : Cond) ∈ BG := bg_of 945 (by decide +kernel) rfl
theorem wd_946 : (.methodLink "BetsOnBetsModel" 146 yX12_meanOf : Cond) ∈ BG := bg_of 946 (by decide +kernel) rfl
theorem wd_948 : (.instanceMethod yX12_meanOf : Cond) ∈ BG := bg_of 948 (by decide +kernel) rfl
theorem wd_949 : (Cond.code yX12_meanOf cX12_meanOf 5 (some .int) : Cond) ∈ BG := bg_of 949 (by decide +kernel) rfl
theorem wd_950 : (.methodLink "BetsOnBetsModel" 138 yX12_weightOf : Cond) ∈ BG := bg_of 950 (by decide +kernel) rfl
theorem wd_952 : (.instanceMethod yX12_weightOf : Cond) ∈ BG := bg_of 952 (by decide +kernel) rfl
theorem wd_953 : (Cond.code yX12_weightOf cX12_weightOf 5 (some .long) : Cond) ∈ BG := bg_of 953 (by decide +kernel) rfl
theorem wd_954 : (.constantLong "BetsOnBetsModel" 136 (100 : Int64) : Cond) ∈ BG := bg_of 954 (by decide +kernel) rfl
theorem wd_955 : (.methodLink "BetsOnBetsModel" 142 yX12_wholeWeight : Cond) ∈ BG := bg_of 955 (by decide +kernel) rfl
theorem wd_957 : (.instanceMethod yX12_wholeWeight : Cond) ∈ BG := bg_of 957 (by decide +kernel) rfl
theorem wd_958 : (Cond.code yX12_wholeWeight cX12_wholeWeight 4 (some .long) : Cond) ∈ BG := bg_of 958 (by decide +kernel) rfl
theorem wd_959 : (.methodLink "BetsOnBetsLaw" 60 yX12_worst : Cond) ∈ BG := bg_of 959 (by decide +kernel) rfl
theorem wd_960 : (.instanceMethod yX12_worst : Cond) ∈ BG := bg_of 960 (by decide +kernel) rfl
theorem wd_961 : (.selects "BetsOnBetsModel" yX12_worst yX12_worst : Cond) ∈ BG := bg_of 961 (by decide +kernel) rfl
theorem wd_962 : (Cond.code yX12_worst cX12_worst 5 (some .int) : Cond) ∈ BG := bg_of 962 (by decide +kernel) rfl
theorem wd_963 : (.methodLink "BetsOnBetsModel" 149 yX12_wrong : Cond) ∈ BG := bg_of 963 (by decide +kernel) rfl
theorem wd_965 : (.instanceMethod yX12_wrong : Cond) ∈ BG := bg_of 965 (by decide +kernel) rfl
theorem wd_966 : (Cond.code yX12_wrong cX12_wrong 3 (some .int) : Cond) ∈ BG := bg_of 966 (by decide +kernel) rfl
theorem wd_967 : (.methodLink "BetsOnBetsModel" 152 yX12_worstEnd : Cond) ∈ BG := bg_of 967 (by decide +kernel) rfl
theorem wd_969 : (.instanceMethod yX12_worstEnd : Cond) ∈ BG := bg_of 969 (by decide +kernel) rfl
theorem wd_970 : (Cond.code yX12_worstEnd cX12_worstEnd 4 (some .int) : Cond) ∈ BG := bg_of 970 (by decide +kernel) rfl
theorem wd_971 : (.methodLink "BetsOnBetsLaw" 64 yX12_best : Cond) ∈ BG := bg_of 971 (by decide +kernel) rfl
theorem wd_972 : (.instanceMethod yX12_best : Cond) ∈ BG := bg_of 972 (by decide +kernel) rfl
theorem wd_973 : (.selects "BetsOnBetsModel" yX12_best yX12_best : Cond) ∈ BG := bg_of 973 (by decide +kernel) rfl
theorem wd_974 : (Cond.code yX12_best cX12_best 5 (some .int) : Cond) ∈ BG := bg_of 974 (by decide +kernel) rfl
theorem wd_975 : (.methodLink "BetsOnBetsModel" 155 yX12_bestEnd : Cond) ∈ BG := bg_of 975 (by decide +kernel) rfl
theorem wd_977 : (.instanceMethod yX12_bestEnd : Cond) ∈ BG := bg_of 977 (by decide +kernel) rfl
theorem wd_978 : (Cond.code yX12_bestEnd cX12_bestEnd 4 (some .int) : Cond) ∈ BG := bg_of 978 (by decide +kernel) rfl
theorem wd_979 : (.methodLink "BetsOnBetsLaw" 68 yX12_sure : Cond) ∈ BG := bg_of 979 (by decide +kernel) rfl
theorem wd_980 : (.instanceMethod yX12_sure : Cond) ∈ BG := bg_of 980 (by decide +kernel) rfl
theorem wd_981 : (.selects "BetsOnBetsModel" yX12_sure yX12_sure : Cond) ∈ BG := bg_of 981 (by decide +kernel) rfl
theorem wd_982 : (Cond.code yX12_sure cX12_sure 2 (some .int) : Cond) ∈ BG := bg_of 982 (by decide +kernel) rfl
theorem wd_983 : (.methodLink "BetsOnBetsLaw" 72 yX12_likely : Cond) ∈ BG := bg_of 983 (by decide +kernel) rfl
theorem wd_984 : (.instanceMethod yX12_likely : Cond) ∈ BG := bg_of 984 (by decide +kernel) rfl
theorem wd_985 : (.selects "BetsOnBetsModel" yX12_likely yX12_likely : Cond) ∈ BG := bg_of 985 (by decide +kernel) rfl
theorem wd_986 : (Cond.code yX12_likely cX12_likely 5 (some .int) : Cond) ∈ BG := bg_of 986 (by decide +kernel) rfl
theorem wd_987 : (.methodLink "BetsOnBetsLaw" 76 yX12_voids : Cond) ∈ BG := bg_of 987 (by decide +kernel) rfl
theorem wd_988 : (.instanceMethod yX12_voids : Cond) ∈ BG := bg_of 988 (by decide +kernel) rfl
theorem wd_989 : (.selects "BetsOnBetsModel" yX12_voids yX12_voids : Cond) ∈ BG := bg_of 989 (by decide +kernel) rfl
theorem wd_990 : (Cond.code yX12_voids cX12_voids 4 (some .int) : Cond) ∈ BG := bg_of 990 (by decide +kernel) rfl
theorem wd_991 : (.methodLink "BetsOnBetsLaw" 80 yX12_sparing : Cond) ∈ BG := bg_of 991 (by decide +kernel) rfl
theorem wd_992 : (.instanceMethod yX12_sparing : Cond) ∈ BG := bg_of 992 (by decide +kernel) rfl
theorem wd_993 : (.selects "BetsOnBetsModel" yX12_sparing yX12_sparing : Cond) ∈ BG := bg_of 993 (by decide +kernel) rfl
theorem wd_994 : (Cond.code yX12_sparing cX12_sparing 9 (some .int) : Cond) ∈ BG := bg_of 994 (by decide +kernel) rfl
theorem wd_995 : (.methodLink "BetsOnBetsLaw" 84 yX12_safeOdds : Cond) ∈ BG := bg_of 995 (by decide +kernel) rfl
theorem wd_996 : (.instanceMethod yX12_safeOdds : Cond) ∈ BG := bg_of 996 (by decide +kernel) rfl
theorem wd_997 : (.selects "BetsOnBetsModel" yX12_safeOdds yX12_safeOdds : Cond) ∈ BG := bg_of 997 (by decide +kernel) rfl
theorem wd_998 : (Cond.code yX12_safeOdds cX12_safeOdds 6 (some .int) : Cond) ∈ BG := bg_of 998 (by decide +kernel) rfl
theorem wd_999 : (.methodLink "BetsOnBetsLaw" 88 yX12_host : Cond) ∈ BG := bg_of 999 (by decide +kernel) rfl
theorem wd_1000 : (.instanceMethod yX12_host : Cond) ∈ BG := bg_of 1000 (by decide +kernel) rfl
theorem wd_1001 : (.selects "BetsOnBetsModel" yX12_host yX12_host : Cond) ∈ BG := bg_of 1001 (by decide +kernel) rfl
theorem wd_1002 : (Cond.code yX12_host cX12_host 3 (some .int) : Cond) ∈ BG := bg_of 1002 (by decide +kernel) rfl
theorem wd_1003 : (.methodLink "BetsOnBetsLaw" 92 yX12_settling : Cond) ∈ BG := bg_of 1003 (by decide +kernel) rfl
theorem wd_1004 : (.instanceMethod yX12_settling : Cond) ∈ BG := bg_of 1004 (by decide +kernel) rfl
theorem wd_1005 : (.selects "BetsOnBetsModel" yX12_settling yX12_settling : Cond) ∈ BG := bg_of 1005 (by decide +kernel) rfl
theorem wd_1006 : (Cond.code yX12_settling cX12_settling 4 (some .int) : Cond) ∈ BG := bg_of 1006 (by decide +kernel) rfl
theorem wd_1007 : (.methodLink "BetsOnBetsModel" 164 yX12_bits : Cond) ∈ BG := bg_of 1007 (by decide +kernel) rfl
theorem wd_1008 : (.static yX12_bits : Cond) ∈ BG := bg_of 1008 (by decide +kernel) rfl
theorem wd_1009 : (Cond.code yX12_bits cX12_bits 3 (some .int) : Cond) ∈ BG := bg_of 1009 (by decide +kernel) rfl
theorem wd_1010 : (.methodLink "BetsOnBetsModel" 161 yX12_groups : Cond) ∈ BG := bg_of 1010 (by decide +kernel) rfl
theorem wd_1012 : (.instanceMethod yX12_groups : Cond) ∈ BG := bg_of 1012 (by decide +kernel) rfl
theorem wd_1013 : (Cond.code yX12_groups cX12_groups 7 (some .int) : Cond) ∈ BG := bg_of 1013 (by decide +kernel) rfl
theorem wd_1014 : (.methodLink "BetsOnBetsModel" 158 yX12_sumOf : Cond) ∈ BG := bg_of 1014 (by decide +kernel) rfl
theorem wd_1016 : (.instanceMethod yX12_sumOf : Cond) ∈ BG := bg_of 1016 (by decide +kernel) rfl
theorem wd_1017 : (Cond.code yX12_sumOf cX12_sumOf 5 (some .int) : Cond) ∈ BG := bg_of 1017 (by decide +kernel) rfl
theorem wd_1018 : (.methodLink "BetsOnBetsLaw" 96 yX12_cannotPay : Cond) ∈ BG := bg_of 1018 (by decide +kernel) rfl
theorem wd_1019 : (.instanceMethod yX12_cannotPay : Cond) ∈ BG := bg_of 1019 (by decide +kernel) rfl
theorem wd_1020 : (.selects "BetsOnBetsModel" yX12_cannotPay yX12_cannotPay : Cond) ∈ BG := bg_of 1020 (by decide +kernel) rfl
theorem wd_1021 : (Cond.code yX12_cannotPay cX12_cannotPay 4 (some .int) : Cond) ∈ BG := bg_of 1021 (by decide +kernel) rfl
theorem wd_1022 : (.methodLink "BetsOnBetsLaw" 100 yX12_rings : Cond) ∈ BG := bg_of 1022 (by decide +kernel) rfl
theorem wd_1023 : (.instanceMethod yX12_rings : Cond) ∈ BG := bg_of 1023 (by decide +kernel) rfl
theorem wd_1024 : (.selects "BetsOnBetsModel" yX12_rings yX12_rings : Cond) ∈ BG := bg_of 1024 (by decide +kernel) rfl
theorem wd_1025 : (Cond.code yX12_rings cX12_rings 6 (some .int) : Cond) ∈ BG := bg_of 1025 (by decide +kernel) rfl
theorem wd_1026 : (.methodLink "BetsOnBetsModel" 167 yX12_marked : Cond) ∈ BG := bg_of 1026 (by decide +kernel) rfl
theorem wd_1028 : (.instanceMethod yX12_marked : Cond) ∈ BG := bg_of 1028 (by decide +kernel) rfl
theorem wd_1029 : (Cond.code yX12_marked cX12_marked 4 (some .int) : Cond) ∈ BG := bg_of 1029 (by decide +kernel) rfl
theorem wd_1030 : (.methodLink "BetsOnBetsLaw" 104 yX12_row : Cond) ∈ BG := bg_of 1030 (by decide +kernel) rfl
theorem wd_1031 : (.instanceMethod yX12_row : Cond) ∈ BG := bg_of 1031 (by decide +kernel) rfl
theorem wd_1032 : (.selects "BetsOnBetsModel" yX12_row yX12_row : Cond) ∈ BG := bg_of 1032 (by decide +kernel) rfl
theorem wd_1033 : (Cond.code yX12_row cX12_row 3 (some .int) : Cond) ∈ BG := bg_of 1033 (by decide +kernel) rfl
theorem wd_1034 : (.methodLink "BetsOnBetsLaw" 108 yX12_fitting : Cond) ∈ BG := bg_of 1034 (by decide +kernel) rfl
theorem wd_1035 : (.instanceMethod yX12_fitting : Cond) ∈ BG := bg_of 1035 (by decide +kernel) rfl
theorem wd_1036 : (.selects "BetsOnBetsModel" yX12_fitting yX12_fitting : Cond) ∈ BG := bg_of 1036 (by decide +kernel) rfl
theorem wd_1037 : (Cond.code yX12_fitting cX12_fitting 4 (some .int) : Cond) ∈ BG := bg_of 1037 (by decide +kernel) rfl
theorem wd_1038 : (.methodLink "BetsOnBetsModel" 173 yX12_wrongIn : Cond) ∈ BG := bg_of 1038 (by decide +kernel) rfl
theorem wd_1040 : (.instanceMethod yX12_wrongIn : Cond) ∈ BG := bg_of 1040 (by decide +kernel) rfl
theorem wd_1041 : (Cond.code yX12_wrongIn cX12_wrongIn 3 (some .int) : Cond) ∈ BG := bg_of 1041 (by decide +kernel) rfl
theorem wd_1042 : (.methodLink "BetsOnBetsLaw" 112 yX12_judge : Cond) ∈ BG := bg_of 1042 (by decide +kernel) rfl
theorem wd_1043 : (.instanceMethod yX12_judge : Cond) ∈ BG := bg_of 1043 (by decide +kernel) rfl
theorem wd_1044 : (.selects "BetsOnBetsModel" yX12_judge yX12_judge : Cond) ∈ BG := bg_of 1044 (by decide +kernel) rfl
theorem wd_1045 : (Cond.code yX12_judge cX12_judge 3 (some .int) : Cond) ∈ BG := bg_of 1045 (by decide +kernel) rfl
theorem wd_1046 : (.methodLink "BetsOnBetsLaw" 116 yX12_seeds : Cond) ∈ BG := bg_of 1046 (by decide +kernel) rfl
theorem wd_1047 : (.instanceMethod yX12_seeds : Cond) ∈ BG := bg_of 1047 (by decide +kernel) rfl
theorem wd_1048 : (.selects "BetsOnBetsModel" yX12_seeds yX12_seeds : Cond) ∈ BG := bg_of 1048 (by decide +kernel) rfl
theorem wd_1049 : (Cond.code yX12_seeds cX12_seeds 10 (some .int) : Cond) ∈ BG := bg_of 1049 (by decide +kernel) rfl
theorem wd_1050 : (.constant "BetsOnBetsModel" 176 (1664525 : Int32) : Cond) ∈ BG := bg_of 1050 (by decide +kernel) rfl
theorem wd_1051 : (.constant "BetsOnBetsModel" 177 (1013904223 : Int32) : Cond) ∈ BG := bg_of 1051 (by decide +kernel) rfl
theorem wd_1052 : (.constant "BetsOnBetsModel" 178 (2147483647 : Int32) : Cond) ∈ BG := bg_of 1052 (by decide +kernel) rfl
theorem wd_1053 : (.methodLink "BetsOnBetsLaw" 120 yX12_image : Cond) ∈ BG := bg_of 1053 (by decide +kernel) rfl
theorem wd_1054 : (.instanceMethod yX12_image : Cond) ∈ BG := bg_of 1054 (by decide +kernel) rfl
theorem wd_1055 : (.selects "BetsOnBetsModel" yX12_image yX12_image : Cond) ∈ BG := bg_of 1055 (by decide +kernel) rfl
theorem wd_1056 : (Cond.code yX12_image cX12_image 1 (some .int) : Cond) ∈ BG := bg_of 1056 (by decide +kernel) rfl
theorem wd_1057 : (.methodLink "BetsOnBetsLaw" 124 yX12_on : Cond) ∈ BG := bg_of 1057 (by decide +kernel) rfl
theorem wd_1058 : (.instanceMethod yX12_on : Cond) ∈ BG := bg_of 1058 (by decide +kernel) rfl
theorem wd_1059 : (.selects "BetsOnBetsModel" yX12_on yX12_on : Cond) ∈ BG := bg_of 1059 (by decide +kernel) rfl
theorem wd_1060 : (Cond.code yX12_on cX12_on 1 (some .int) : Cond) ∈ BG := bg_of 1060 (by decide +kernel) rfl
theorem wd_1061 : (.methodLink "BetsOnBetsLaw" 128 yX12_count : Cond) ∈ BG := bg_of 1061 (by decide +kernel) rfl
theorem wd_1062 : (.instanceMethod yX12_count : Cond) ∈ BG := bg_of 1062 (by decide +kernel) rfl
theorem wd_1063 : (.selects "BetsOnBetsModel" yX12_count yX12_count : Cond) ∈ BG := bg_of 1063 (by decide +kernel) rfl
theorem wd_1064 : (Cond.code yX12_count cX12_count 4 (some .int) : Cond) ∈ BG := bg_of 1064 (by decide +kernel) rfl
theorem wd_1071 : (.fieldLink "java/lang/String" 15 "java/lang/String" "coder" "B" : Cond) ∈ BG := bg_of 1071 (by decide +kernel) rfl
theorem wd_1072 : (.fieldLink "java/lang/String" 9 "java/lang/String" "value" "[B" : Cond) ∈ BG := bg_of 1072 (by decide +kernel) rfl
/-- words on nest mates and casts: true of the start, and kept -/
def nestW : List Cond := [.fieldLinkNest "BetsOnBets$Reader" 27 "BetsOnBets$Row" "size" "I" "BetsOnBets", .fieldLinkNest "BetsOnBets" 202 "BetsOnBets$Row" "size" "I" "BetsOnBets", .fieldLinkNest "BetsOnBets" 218 "BetsOnBets$Reader" "numbers" "[I" "BetsOnBets", .fieldLinkNest "BetsOnBets" 212 "BetsOnBets$Reader" "place" "I" "BetsOnBets", .methodLinkNest "BetsOnBets$Book" 28 yX11_put "BetsOnBets", .fieldLinkNest "BetsOnBets" 78 "BetsOnBets$Book" "happenings" "I" "BetsOnBets", .fieldLinkNest "BetsOnBets$Ways" 62 "BetsOnBets$Book" "bets" "I" "BetsOnBets", .fieldLinkNest "BetsOnBets" 162 "BetsOnBets$Book" "bets" "I" "BetsOnBets", .methodLinkNest "BetsOnBets$Ways" 13 yX7_init "BetsOnBets", .methodLinkNest "BetsOnBets$Plain" 1 yX1_init "BetsOnBets", .methodLinkNest "BetsOnBets$Ways" 16 yX0_init "BetsOnBets", .methodLinkNest "BetsOnBets$Against" 1 yX7_init "BetsOnBets", .methodLinkNest "BetsOnBets$Ways" 19 yX3_init "BetsOnBets", .methodLinkNest "BetsOnBets$Both" 1 yX7_init "BetsOnBets", .methodLinkNest "BetsOnBets$Ways" 22 yX4_init "BetsOnBets", .methodLinkNest "BetsOnBets$Either" 1 yX1_init "BetsOnBets", .methodLinkNest "BetsOnBets$Ways" 25 yX6_init "BetsOnBets", .methodLinkNest "BetsOnBets$One" 1 yX4_init "BetsOnBets", .methodLinkNest "BetsOnBets$Ways" 28 yX5_init "BetsOnBets", .methodLinkNest "BetsOnBets$Neither" 1 yX4_init "BetsOnBets", .methodLinkNest "BetsOnBets$Ways" 48 yX11_put "BetsOnBets", .methodLinkNest "BetsOnBets$Row" 27 yX11_put "BetsOnBets", .methodLinkNest "BetsOnBets$Reader" 52 yX11_put "BetsOnBets", .methodLinkNest "BetsOnBets$Book" 32 yX11_copy "BetsOnBets", .methodLinkNest "BetsOnBets$Book" 36 yX11_at "BetsOnBets", .methodLinkNest "BetsOnBets$Book" 61 yX11_isPerson "BetsOnBets", .methodLinkNest "BetsOnBets$Ways" 86 yX11_has "BetsOnBets", .declares ⟨"BetsOnBets$Bet", "isWonBy", "(ZZ)Z"⟩, .methodLinkNest "BetsOnBets$Ways" 90 yX11_at "BetsOnBets", .methodLinkNest "BetsOnBets$Book" 83 yX11_has "BetsOnBets", .castable "BetsOnBets$Plain" "BetsOnBets$Bet", .castable "BetsOnBets$Against" "BetsOnBets$Bet", .castable "BetsOnBets$Both" "BetsOnBets$Bet", .castable "BetsOnBets$Either" "BetsOnBets$Bet", .castable "BetsOnBets$One" "BetsOnBets$Bet", .castable "BetsOnBets$Neither" "BetsOnBets$Bet"]
theorem iB_X0 : ∀ w ∈ wsX00, w ∈ BG := by decide +kernel
theorem iB_X1 : ∀ w ∈ wsX10, w ∈ BG := by decide +kernel
theorem iB_X2 : ∀ w ∈ wsX20, w ∈ BG := by decide +kernel
theorem iB_X3 : ∀ w ∈ wsX30, w ∈ BG := by decide +kernel
theorem iB_X4 : ∀ w ∈ wsX40, w ∈ BG := by decide +kernel
theorem iB_X5 : ∀ w ∈ wsX50, w ∈ BG := by decide +kernel
theorem iB_X6 : ∀ w ∈ wsX60, w ∈ BG := by decide +kernel
theorem iB_X7 : ∀ w ∈ wsX70, w ∈ BG := by decide +kernel
theorem iB_X8 : ∀ w ∈ wsX80, w ∈ BG := by decide +kernel
theorem iB_X9 : ∀ w ∈ wsX90, w ∈ BG := by decide +kernel
theorem iB_X10 : ∀ w ∈ wsX100, w ∈ BG := by decide +kernel
theorem iB_X11 : ∀ w ∈ wsX110, w ∈ BG := by decide +kernel
theorem iB_X12 : ∀ w ∈ wsX120, w ∈ BG := by decide +kernel
end
section
/-! THE LAYER: contracts with one answer and one world behind, calls that keep the places of the cells -/
abbrev GP : Type := va_G × (ClassId × ClassId) × (Nat → Nat) × (Nat → Nat)
def tyG (G : GP) : List (ClassId × FieldType) := [(G.2.1.1, .int), (G.2.1.2, .object "BetsOnBets$Bet")]
def sIdx : List Nat := [43, 59, 65, 70, 61, 63]
def sTx : List String := ["hbf", "0123456789", "paoexn", "hb", ",", ";"]
def sLen : List Nat := [3, 10, 6, 2, 1, 1]
def sByt : List (List Int32) := [[104, 98, 102], [48, 49, 50, 51, 52, 53, 54, 55, 56, 57], [112, 97, 111, 101, 120, 110], [104, 98], [44], [59]]
def nstB : Cond → Bool
  | .methodLinkNest .. => true
  | .fieldLinkNest .. => true
  | .castable .. => true
  | .declares .. => true
  | _ => false
def NW (U : State) : Prop := ∀ w ∈ nestW, va_Nw w U
theorem nestW_ok : nestW.all nstB = true := by decide +kernel
theorem nw_ot {w : Cond} (h : nstB w = true) : w.onTables = true := by
  cases w <;> first | rfl | (simp [nstB] at h; done)
theorem nw_warm1 {w : Cond} (h : nstB w = true) {s U : State} (hW : s.WarmedH U.vm) (hz : va_Nw w s) : va_Nw w U := by
  cases w <;> first | exact va_Nw.warmM hW hz | exact va_Nw.warmF hW hz | exact va_Nw.warmC hW hz | exact va_Nw.warmD hW hz | (simp [nstB] at h; done)
theorem nw_b {w : Cond} (h : w ∈ nestW) : nstB w = true := List.all_eq_true.mp nestW_ok w h
theorem NW.warm {s U : State} (hW : s.WarmedH U.vm) (h : NW s) : NW U := fun w hw => nw_warm1 (nw_b hw) hW (h w hw)
theorem NW.same {s U : State} (hv : s.vm = U.vm) (h : NW s) : NW U := fun w hw => va_Nw.same (nw_ot (nw_b hw)) hv (h w hw)
def SR (G : GP) (U : State) : Prop := ∀ k, k < 6 → vk_R "BetsOnBets$Reader" (sIdx.getD k 0) (sTx.getD k "") (G.2.2.1 k) U
theorem SR.warm {G : GP} {s U : State} (hW : s.WarmedH U.vm) (h : SR G s) : SR G U := fun k hk => vk_R.warm hW (h k hk)
theorem SR.same {G : GP} {s U : State} (hv : U.vm = s.vm) (h : SR G s) : SR G U := fun k hk => vk_R.same hv (h k hk)
def Kx (G : GP) (U : State) : Prop := va_K G.1 vwCl (tyG G) U ∧ NW U ∧ SR G U ∧ va_AO "BetsOnBets$Bet" U
theorem Kx.warm {G : GP} {s U : State} (hW : s.WarmedH U.vm) (h : Kx G s) : Kx G U := ⟨va_K.moved hW.alike h.1, h.2.1.warm hW, h.2.2.1.warm hW, h.2.2.2.moved hW.alike⟩
theorem Kx.same {G : GP} {s U : State} (hv : s.vm = U.vm) (h : Kx G s) : Kx G U := ⟨va_K.moved (by rw [hv]; exact Vm.Alike.refl U.vm) h.1, h.2.1.same hv, h.2.2.1.same hv.symm, h.2.2.2.moved (by rw [hv]; exact Vm.Alike.refl U.vm)⟩
def Zx (G : GP) (A : Nat → Prop) (U : State) (H : Heap) : Prop := vk_S 6 sLen sByt G.2.2.1 G.2.2.2 A U H ∧ va_Z "java/lang/String" "COMPACT_STRINGS" "Z" (.int 1) A U H
theorem Zx.moved {G : GP} {A : Nat → Prop} {u U : State} {H : Heap} (hvm : u.vm.Alike U.vm) (h : Zx G A u H) : Zx G A U H := ⟨h.1.moved hvm, h.2.moved hvm⟩
theorem Zx.kept {G : GP} {A : Nat → Prop} {U : State} {H H1 : Heap} (h : Zx G A U H) (hq : ∀ a : Nat, a < H.size → ¬ A a → H1[a]? = H[a]?) : Zx G A U H1 := ⟨h.1.kept hq, h.2.kept hq⟩
theorem Zx.narrow {G : GP} {A B : Nat → Prop} {U : State} {H : Heap} (h : Zx G A U H) (hAB : ∀ q, B q → A q) : Zx G B U H := ⟨h.1.narrow hAB, h.2.narrow hAB⟩
def Hx (G : GP) (A : Nat → Prop) (ws : va_W) (H0 H : Heap) (locs : List Loc) : Prop := va_P G.1 vwCl ws H ∧ va_D A ws ∧ va_S A H0 H locs
def PreX (G : GP) (As : List Value) (wc : va_W) (sz : Nat) : Array Value → State → Prop :=
  va_Pc As (fun U => U.heap.size = sz ∧ va_P G.1 vwCl wc U.heap ∧ va_D (fun _ => True) wc ∧ Kx G U ∧ Zx G (va_A wc sz) U U.heap)
def QX (G : GP) (ov : Option Value) (wc' : va_W) (A : Nat → Prop) : Array Value → State → Outcome → State → Prop :=
  fun _ st o t => o = .returned ov ∧ va_P G.1 vwCl wc' t.heap ∧ va_F A st t
abbrev rmx (d : Nat) : Room := { frames := d, cells := 0, slots := 0, locals := 40 * d }
/-- THE CONTRACT: with these arguments and these cells the method answers ov and leaves the cells wc', makes none, depth d -/
def CT (l : Launch) (G : GP) (y : MethodName) (b : ByteArray) (n : Nat) (ret : Option FieldType) (d : Nat) (As : List Value) (wc : va_W) (ov : Option Value) (wc' : va_W) : Prop :=
  wc'.map Prod.fst = wc.map Prod.fst ∧ ∀ sz : Nat, Met l y (.code y b n ret :: BG) (rmx d) (PreX G As wc sz) (QX G ov wc' (va_A wc sz)) 0 0 (va_A wc sz)
theorem PreX.blind {G : GP} {As : List Value} {wc : va_W} {sz : Nat} : FrameBlind (PreX G As wc sz) := by
  intro a U g mk h
  obtain ⟨h1, h2, h3, h4, h5, h6⟩ := h
  exact ⟨h1, h2, h3, h4, Kx.same (s := U) (U := U.calling g mk a) rfl h5, Zx.moved (u := U) (U := U.calling g mk a) (Vm.Alike.refl U.vm) h6⟩
section XM
variable {l : Launch} {G : GP} {y : MethodName} {b : ByteArray} {n : Nat} {ret : Option FieldType} {d : Nat} {As : List Value} {wc wc' : va_W} {ov : Option Value}
theorem x_meth (own : String) (hown : y.cls = own) (hy : plainName y.cls = true) (hsh : wc'.map Prod.fst = wc.map Prod.fst) (hlen : (lg_sl As).length ≤ n)
    (body : ∀ (p : Program) (e : Env) (s : State) (m : MethodId) (args : Array Value) (below : List Frame) (meth : Method) (c : Code) (A : Nat → Prop) (ls : Array Slot), CallFix p m c b n s args BG own → meth.sig.returnType = ret → meth.locks = false → Kx G s → Zx G A s s.heap → (∀ q, s.heap.size ≤ q → A q) → Hx G A wc s.heap s.heap [] → lv_has ls n (lv_args 0 As) →
      W p l e (rmx d) s m args below meth c s.heap [] 0 0 (MQ below (QX G ov wc' A) args s 0 0 A) (F0 m 0 ls [])) : CT l G y b n ret d As wc ov wc' := by
  refine ⟨hsh, fun sz => ?_⟩
  refine Met.ofW (cc := b) (maxL := n) (ret := ret) hy rfl ?_
  intro p e s m args below meth c s₁ B hml hv
  obtain ⟨rfl, hsz, hP, hD0, hK, hZ⟩ := hv
  have hts := atoms_spec (ws := .code y b n ret :: BG) B.pre
  have hown' : s.vm.findClass own = some m.cls := by rw [← hown]; exact findClass_of_methodNamed B.named
  subst hsz
  have hD := hD0.self (sz := s.heap.size)
  rw [lg_entry_eq]
  exact body p e s m As.toArray below meth c (va_A wc s.heap.size) _ ⟨B.exec, B.bytes, hml, hown', fun w hw => hts w (List.mem_cons_of_mem _ hw)⟩ B.returns B.notSynchronized hK hZ (fun q h => Or.inr h) ⟨hP, hD, va_S.rf⟩ (lv_entry As hlen)
end XM
/-- the world with the callee's cells laid back at their places -/
def ovr : va_W → List Nat → va_W → va_W
  | ws, i :: is, q :: qs => ovr (ws.set i q) is qs
  | ws, _, _ => ws
theorem ovr_at : ∀ (is : List Nat) (qs ws : va_W) (hl : is.length = qs.length) (k : Nat) (p : Nat × va_E), (ovr ws is qs)[k]? = some p → (∃ j : Nat, is[j]? = some k ∧ qs[j]? = some p) ∨ (ws[k]? = some p ∧ k ∉ is) := by
  intro is
  induction is with
  | nil => intro qs ws hl k p h; exact Or.inr ⟨by simpa [ovr] using h, by simp⟩
  | cons i is ih =>
    intro qs ws hl k p h
    cases qs with
    | nil => simp at hl
    | cons q qs =>
      have h' : (ovr (ws.set i q) is qs)[k]? = some p := h
      rcases ih qs (ws.set i q) (by simpa using hl) k p h' with ⟨j, h1, h2⟩ | ⟨h1, h2⟩
      · exact Or.inl ⟨j + 1, by simpa using h1, by simpa using h2⟩
      · by_cases hki : i = k
        · subst hki
          rw [List.getElem?_set] at h1
          by_cases hlt : i < ws.length
          · simp [hlt] at h1
            exact Or.inl ⟨0, by simp, by simp [h1]⟩
          · simp [hlt] at h1
        · rw [List.getElem?_set_ne hki] at h1
          refine Or.inr ⟨h1, ?_⟩
          intro hm
          rcases List.mem_cons.mp hm with e | e
          · exact hki e.symm
          · exact h2 e
theorem hx_ovr {G : GP} {A : Nat → Prop} {ws wc wc' ws' : va_W} {H0 H H1 : Heap} {locs locs1 : List Loc} (isC : List Nat) (hH : Hx G A ws H0 H locs) (hC : isC.map (fun i => ws[i]?) = wc.map some) (hsh : wc'.map Prod.fst = wc.map Prod.fst) (hov : ovr ws isC wc' = ws')
    (hk : ∀ q : Nat, q < H.size → ¬ va_A wc H.size q → H1[q]? = H[q]?) (hP1 : va_P G.1 vwCl wc' H1) (hS1 : va_S A H0 H1 locs1) : Hx G A ws' H0 H1 locs1 := by
  subst hov
  obtain ⟨hP, hD, hS⟩ := hH
  have hlen : isC.length = wc'.length := by
    have h1 := congrArg List.length hC
    have h2 := congrArg List.length hsh
    simp at h1 h2
    omega
  have cw : ∀ (j : Nat) (q : Nat × va_E), wc[j]? = some q → ∃ i, isC[j]? = some i ∧ ws[i]? = some q := by
    intro j q hq
    have h1 : (isC.map (fun i => ws[i]?))[j]? = some (some q) := by rw [hC, List.getElem?_map, hq]; rfl
    rw [List.getElem?_map] at h1
    cases hi : isC[j]? with
    | none => rw [hi] at h1; cases h1
    | some i => rw [hi] at h1; exact ⟨i, rfl, Option.some.inj h1⟩
  have sh : ∀ (j : Nat) (p : Nat × va_E), wc'[j]? = some p → ∃ q, wc[j]? = some q ∧ q.1 = p.1 := by
    intro j p hp
    have h1 : (wc'.map Prod.fst)[j]? = some p.1 := by rw [List.getElem?_map, hp]; rfl
    rw [hsh, List.getElem?_map] at h1
    cases hq : wc[j]? with
    | none => rw [hq] at h1; cases h1
    | some q => rw [hq] at h1; exact ⟨q, rfl, Option.some.inj h1⟩
  have key : ∀ (k : Nat) (p : Nat × va_E), (ovr ws isC wc')[k]? = some p → va_at G.1 vwCl p H1 ∧ ∃ p', ws[k]? = some p' ∧ p'.1 = p.1 := by
    intro k p hp
    rcases ovr_at isC wc' ws hlen k p hp with ⟨j, h1, h2⟩ | ⟨h1, h2⟩
    · refine ⟨hP1 j p h2, ?_⟩
      obtain ⟨q, g1, g2⟩ := sh j p h2
      obtain ⟨i, g3, g4⟩ := cw j q g1
      have : i = k := Option.some.inj (g3.symm.trans h1)
      subst this
      exact ⟨q, g4, g2⟩
    · refine ⟨(hP k p h1).kept (hk p.1 (hP k p h1).lt ?_), p, h1, rfl⟩
      intro hA
      rcases hA with ⟨j, e, hj⟩ | hz
      · obtain ⟨i, g3, g4⟩ := cw j (p.1, e) hj
        have : k = i := hD.1 k i p (p.1, e) h1 g4 rfl
        subst this
        exact h2 (List.mem_of_getElem? g3)
      · exact absurd (hP k p h1).lt (by omega)
  refine ⟨fun k p hp => (key k p hp).1, ⟨fun i j p q hi hj e => ?_, fun k p hp => ?_⟩, hS1⟩
  · obtain ⟨-, p', g1, g2⟩ := key i p hi
    obtain ⟨-, q', g3, g4⟩ := key j q hj
    exact hD.1 i j p' q' g1 g3 (by rw [g2, g4]; exact e)
  · obtain ⟨-, p', g1, g2⟩ := key k p hp
    rw [← g2]
    exact hD.2 k p' g1
section XC
variable {p : Program} {l : Launch} {e : Env} {R : Room} {s : State} {m : MethodId} {args : Array Value} {below : List Frame} {meth : Method} {c : Code} {H : Heap} {locs : List Loc} {cells slots : Nat} {Q : State → Prop}
variable {cc : ByteArray} {pc : Nat} {ls : Array Slot} {G : GP} {A : Nat → Prop} {ws wc wc' ws' : va_W} {nL : Nat} {own : String} {y : MethodName} {bytes : ByteArray} {maxL : Nat} {ret : Option FieldType} {d : Nat} {As : List Value} {ov : Option Value}
theorem x_run {H0 : Heap} {g0 : List Value} {rest : List Value} {a : Array Value} (isC : List Nat) (hH : Hx G A ws H0 H locs) (hC : isC.map (fun i => ws[i]?) = wc.map some) (hsh : wc'.map Prod.fst = wc.map Prod.fst) (hov : ovr ws isC wc' = ws')
    (hf : ∀ q, va_A wc H.size q → A q)
    (hr : va_Run p l e R s m args below meth c H locs cells slots 0 0 (F0 m pc ls g0) rest (QX G ov wc' (va_A wc H.size) a) (va_A wc H.size))
    (kk : ∀ (H1 : Heap) (locs1 : List Loc), Hx G A ws' H0 H1 locs1 → W p l e R s m args below meth c H1 locs1 cells slots Q (F0 m (pc + 3) ls (ov.toList ++ rest))) : W p l e R s m args below meth c H locs cells slots Q (F0 m pc ls g0) := by
  intro T hT X
  obtain ⟨v, st₀, t, T', L, h0, X', hL, e1, e2, ⟨hv, hp, hz, hk⟩, st⟩ := hr T hT X
  have hv2 : v = ov := by injection hv
  subst hv2
  rw [h0] at hz hk
  have hS := hH.2.2
  obtain ⟨t2, a1, b1⟩ := kk T'.heap (locs ++ L) (hx_ovr isC hH hC hsh hov (fun q h1 h2 => by rw [e1]; exact hk q h1 h2) (by rw [e1]; exact hp)
    ⟨Nat.le_trans hS.1 (by rw [e1]; exact hz), fun q h1 h2 => by rw [e1, hk q (Nat.lt_of_lt_of_le h1 hS.1) (fun z => h2 (hf q z))]; exact hS.2.1 q h1 h2, fun q hq => by
      rcases List.mem_append.mp hq with h | h
      · exact hS.2.2 q h
      · exact hf _ (hL q h)⟩) T' rfl X'
  exact ⟨t2, st t2 a1, b1⟩
/-- the callee's start out of the caller's -/
theorem x_pre (isC : List Nat) (hK : Kx G s) (hZ : Zx G A s s.heap) (hA : ∀ q, s.heap.size ≤ q → A q) (hH : Hx G A ws s.heap H locs) (hC : isC.map (fun i => ws[i]?) = wc.map some) (hnd : va_nd isC = true) (As : List Value) :
    (∀ q, va_A wc H.size q → A q) ∧ ∀ U : State, U.heap = H → s.WarmedH U.vm → PreX G As wc H.size As.toArray U := by
  have hf := va_free (wc := wc) hH.2.1 hH.2.2 hA isC hC
  refine ⟨hf, fun U hU hW => ⟨rfl, by rw [hU], ?_, ?_, hK.warm hW, ?_⟩⟩
  · rw [hU]
    intro k q hq
    have h1 : (isC.map (fun i => ws[i]?))[k]? = some (some q) := by rw [hC, List.getElem?_map, hq]; rfl
    rw [List.getElem?_map] at h1
    cases hi : isC[k]? with
    | none => rw [hi] at h1; cases h1
    | some i => rw [hi] at h1; exact hH.1 i q (Option.some.inj h1)
  · exact (hH.2.1.sub isC hnd hC).weaken (fun _ _ _ _ => trivial)
  · rw [hU]
    exact ((hZ.kept (H1 := H) (fun a h1 h2 => hH.2.2.2.1 a h1 h2)).narrow hf).moved hW.alike
/-- a call's words -/
def xLV (own : String) (idx : Nat) (C : String) (y : MethodName) (bytes : ByteArray) (maxL : Nat) (ret : Option FieldType) (n : Nat) : Prop := GoodIn BG (wsV own idx C y (.code y bytes maxL ret :: BG)) ∧ (y.cls = C ∧ y.cls ≠ "java/lang/invoke/MethodHandle" ∧ y.cls ≠ "java/lang/invoke/VarHandle" ∧ (parseMethodDescriptor y.desc).map (fun d => d.parameters.length) = some n)
def xLS (own : String) (idx : Nat) (y : MethodName) (bytes : ByteArray) (maxL : Nat) (ret : Option FieldType) (n : Nat) : Prop := GoodIn BG (wsS own idx y (.code y bytes maxL ret :: BG)) ∧ (y.cls = own ∧ y.cls ≠ "java/lang/invoke/MethodHandle" ∧ y.cls ≠ "java/lang/invoke/VarHandle" ∧ (parseMethodDescriptor y.desc).map (fun d => d.parameters.length) = some n)
def xLJ (own : String) (idx : Nat) (y : MethodName) (bytes : ByteArray) (maxL : Nat) (ret : Option FieldType) (n : Nat) : Prop := GoodIn BG (va_wsS own idx y (.code y bytes maxL ret :: BG)) ∧ (y.cls ≠ "java/lang/invoke/MethodHandle" ∧ y.cls ≠ "java/lang/invoke/VarHandle" ∧ (parseMethodDescriptor y.desc).map (fun d => d.parameters.length) = some n)
def xLN (own : String) (idx : Nat) (y : MethodName) (host : String) (bytes : ByteArray) (maxL : Nat) (ret : Option FieldType) (n : Nat) : Prop := GoodIn BG (.code y bytes maxL ret :: BG) ∧ Cond.methodLinkNest own idx y host ∈ nestW ∧ Cond.initialized y.cls ∈ BG ∧ Cond.static y ∈ BG ∧ (y.cls ≠ "java/lang/invoke/MethodHandle" ∧ y.cls ≠ "java/lang/invoke/VarHandle" ∧ (parseMethodDescriptor y.desc).map (fun d => d.parameters.length) = some n)
theorem bg_in : GoodIn BG BG := fun w h => ⟨h, good_of_word (bg_good w h)⟩
theorem bg_all {ws : List Cond} (h : ∀ w ∈ ws, w ∈ BG) : GoodIn BG ws := fun w hw => ⟨h w hw, good_of_word (bg_good w (h w hw))⟩
theorem bg_cons {w : Cond} {ws : List Cond} (h : w ∈ BG) (h2 : ∀ w ∈ ws, w ∈ BG) : ∀ z ∈ w :: ws, z ∈ BG := fun z hz => (List.mem_cons.mp hz).elim (fun e => e ▸ h) (h2 z)
theorem bg_id : ∀ w ∈ BG, w ∈ BG := fun _ h => h
theorem xLV.of {own : String} {idx : Nat} {C : String} {y : MethodName} {bytes : ByteArray} {maxL : Nat} {ret : Option FieldType} {n : Nat} (h1 : Cond.methodLink own idx y ∈ BG) (h2 : Cond.instanceMethod y ∈ BG) (h3 : Cond.selects C y y ∈ BG) (h4 : Cond.initialized C ∈ BG) (h5 : Cond.code y bytes maxL ret ∈ BG)
    (hd : y.cls = C ∧ y.cls ≠ "java/lang/invoke/MethodHandle" ∧ y.cls ≠ "java/lang/invoke/VarHandle" ∧ (parseMethodDescriptor y.desc).map (fun d => d.parameters.length) = some n) : xLV own idx C y bytes maxL ret n :=
  ⟨bg_all (bg_cons h1 (bg_cons h2 (bg_cons h3 (bg_cons h4 (bg_cons h5 bg_id))))), hd⟩
theorem xLS.of {own : String} {idx : Nat} {y : MethodName} {bytes : ByteArray} {maxL : Nat} {ret : Option FieldType} {n : Nat} (h1 : Cond.methodLink own idx y ∈ BG) (h2 : Cond.static y ∈ BG) (h4 : Cond.initialized own ∈ BG) (h5 : Cond.code y bytes maxL ret ∈ BG)
    (hd : y.cls = own ∧ y.cls ≠ "java/lang/invoke/MethodHandle" ∧ y.cls ≠ "java/lang/invoke/VarHandle" ∧ (parseMethodDescriptor y.desc).map (fun d => d.parameters.length) = some n) : xLS own idx y bytes maxL ret n :=
  ⟨bg_all (bg_cons h1 (bg_cons h2 (bg_cons h4 (bg_cons h5 bg_id)))), hd⟩
theorem xLN.of {own : String} {idx : Nat} {y : MethodName} {host : String} {bytes : ByteArray} {maxL : Nat} {ret : Option FieldType} {n : Nat} (h1 : Cond.methodLinkNest own idx y host ∈ nestW) (h2 : Cond.static y ∈ BG) (h4 : Cond.initialized y.cls ∈ BG) (h5 : Cond.code y bytes maxL ret ∈ BG)
    (hd : y.cls ≠ "java/lang/invoke/MethodHandle" ∧ y.cls ≠ "java/lang/invoke/VarHandle" ∧ (parseMethodDescriptor y.desc).map (fun d => d.parameters.length) = some n) : xLN own idx y host bytes maxL ret n :=
  ⟨bg_all (bg_cons h5 bg_id), h1, h4, h2, hd⟩
theorem xLJ.of {own : String} {idx : Nat} {y : MethodName} {bytes : ByteArray} {maxL : Nat} {ret : Option FieldType} {n : Nat} (h1 : Cond.methodLink own idx y ∈ BG) (h2 : Cond.static y ∈ BG) (h4 : Cond.initialized y.cls ∈ BG) (h5 : Cond.code y bytes maxL ret ∈ BG)
    (hd : y.cls ≠ "java/lang/invoke/MethodHandle" ∧ y.cls ≠ "java/lang/invoke/VarHandle" ∧ (parseMethodDescriptor y.desc).map (fun d => d.parameters.length) = some n) : xLJ own idx y bytes maxL ret n :=
  ⟨bg_all (bg_cons h1 (bg_cons h2 (bg_cons h4 (bg_cons h5 bg_id)))), hd⟩
theorem x_callV {b : Addr} {idx n : Nat} {C : String} {rest st' : List Value} {T : u_T} {N : Nat} {fs : List Value} (hC : CallFix p m c cc nL s args BG own) (hK : Kx G s) (hZ : Zx G A s s.heap) (hA : ∀ q, s.heap.size ≤ q → A q) (hl : ls.size = nL) (hH : Hx G A ws s.heap H locs) (hM : CT l G y bytes maxL ret d (.ref b :: As) wc ov wc') (lk : xLV own idx C y bytes maxL ret n) (isC : List Nat) (hCm : isC.map (fun i => ws[i]?) = wc.map some) (hnd : va_nd isC = true) (hov : ovr ws isC wc' = ws') (q0 ci : Nat) (hc : vwCl[ci]? = some (C, T, N)) (he : ws[q0]? = some (b, .inr (ci, fs)))
    (hn : As.length = n) (hroom : d + 1 ≤ R.frames ∧ 8 + (maxL + 11) + 40 * d ≤ R.locals) (hcs : cells + 0 ≤ R.cells ∧ slots + 0 ≤ R.slots) (hrest : (rest.map fun v => v.category).sum ≤ 8) (hst : ov.toList ++ rest = st') (hdg : decode cc pc = .ok (.invokevirtual idx, 3))
    (kk : ∀ (H1 : Heap) (locs1 : List Loc), Hx G A ws' s.heap H1 locs1 → W p l e R s m args below meth c H1 locs1 cells slots Q (F0 m (pc + 3) ls st')) : W p l e R s m args below meth c H locs cells slots Q (F0 m pc ls (As.reverse ++ .ref b :: rest)) := by
  subst hst
  obtain ⟨hf, hpre⟩ := x_pre isC hK hZ hA hH hCm hnd (.ref b :: As)
  exact x_run isC hH hCm hM.1 hov hf (va_runV (As := As) (rest := rest) hC (hM.2 H.size) (cwV n hC.2.2.2.2 lk.1 rfl rfl rfl lk.2 hroom) ⟨PreX.blind, va_recv (D := G.1) hK.1 hH.1 hc he, hpre⟩ rfl hn hl rfl (lv_room hrest) hdg hcs) kk
theorem x_callS {idx n : Nat} {rest st' : List Value} (hC : CallFix p m c cc nL s args BG own) (hK : Kx G s) (hZ : Zx G A s s.heap) (hA : ∀ q, s.heap.size ≤ q → A q) (hl : ls.size = nL) (hH : Hx G A ws s.heap H locs) (hM : CT l G y bytes maxL ret d As wc ov wc') (lk : xLS own idx y bytes maxL ret n) (isC : List Nat) (hCm : isC.map (fun i => ws[i]?) = wc.map some) (hnd : va_nd isC = true) (hov : ovr ws isC wc' = ws')
    (hn : As.length = n) (hroom : d + 1 ≤ R.frames ∧ 8 + (maxL + 11) + 40 * d ≤ R.locals) (hcs : cells + 0 ≤ R.cells ∧ slots + 0 ≤ R.slots) (hrest : (rest.map fun v => v.category).sum ≤ 8) (hst : ov.toList ++ rest = st') (hdg : decode cc pc = .ok (.invokestatic idx, 3))
    (kk : ∀ (H1 : Heap) (locs1 : List Loc), Hx G A ws' s.heap H1 locs1 → W p l e R s m args below meth c H1 locs1 cells slots Q (F0 m (pc + 3) ls st')) : W p l e R s m args below meth c H locs cells slots Q (F0 m pc ls (As.reverse ++ rest)) := by
  subst hst
  obtain ⟨hf, hpre⟩ := x_pre isC hK hZ hA hH hCm hnd As
  exact x_run isC hH hCm hM.1 hov hf (va_runS (As := As) (rest := rest) hC (hM.2 H.size) (cwS n hC.2.2.2.2 lk.1 rfl rfl rfl lk.2 hroom) ⟨PreX.blind, hpre⟩ rfl hn hl rfl (lv_room hrest) hdg hcs) kk
theorem x_callN {idx n : Nat} {host : String} {rest st' : List Value} (hC : CallFix p m c cc nL s args BG own) (hK : Kx G s) (hZ : Zx G A s s.heap) (hA : ∀ q, s.heap.size ≤ q → A q) (hl : ls.size = nL) (hH : Hx G A ws s.heap H locs) (hM : CT l G y bytes maxL ret d As wc ov wc') (lk : xLN own idx y host bytes maxL ret n) (isC : List Nat) (hCm : isC.map (fun i => ws[i]?) = wc.map some) (hnd : va_nd isC = true) (hov : ovr ws isC wc' = ws')
    (hn : As.length = n) (hroom : d + 1 ≤ R.frames ∧ 8 + (maxL + 11) + 40 * d ≤ R.locals) (hcs : cells + 0 ≤ R.cells ∧ slots + 0 ≤ R.slots) (hrest : (rest.map fun v => v.category).sum ≤ 8) (hst : ov.toList ++ rest = st') (hdg : decode cc pc = .ok (.invokestatic idx, 3))
    (kk : ∀ (H1 : Heap) (locs1 : List Loc), Hx G A ws' s.heap H1 locs1 → W p l e R s m args below meth c H1 locs1 cells slots Q (F0 m (pc + 3) ls st')) : W p l e R s m args below meth c H locs cells slots Q (F0 m pc ls (As.reverse ++ rest)) := by
  subst hst
  obtain ⟨hf, hpre⟩ := x_pre isC hK hZ hA hH hCm hnd As
  exact x_run isC hH hCm hM.1 hov hf (va_runSN (As := As) (rest := rest) hC (hM.2 H.size) ⟨va_cnB n hC.2.2.2.2 lk.1 rfl rfl rfl (hK.2.1 _ lk.2.1) (hC.2.2.2.2 _ lk.2.2.1) lk.2.2.2.2 hroom, hC.2.2.2.2 _ lk.2.2.2.1, trivial⟩ ⟨PreX.blind, hpre⟩ rfl hn hl rfl (lv_room hrest) hdg hcs) kk
/-! fields and rows of ints -/
theorem x_get {ref C : String} {T : u_T} {N index : Nat} {a : Addr} {rest fs : List Value} {v : Value} (hC : CallFix p m c cc nL s args BG own) (hK : Kx G s) (hH : Hx G A ws s.heap H locs) (hin : ∀ w ∈ u_ws C T N, w ∈ BG) (ci k q0 : Nat) (hc : vwCl[ci]? = some (C, T, N)) (hk : k < N) (hlink : Cond.fieldLink own index ref (T k).2.1 (T k).2.2.1 ∈ BG) (hr : (T k).1 = ref) (he : ws[q0]? = some (a, .inr (ci, fs))) (hv : fs[k]? = some v) (hdg : decode cc pc = .ok (.getfield index, 3))
    (kk : W p l e R s m args below meth c H locs cells slots Q (F0 m (pc + 3) ls (v :: rest))) : W p l e R s m args below meth c H locs cells slots Q (F0 m pc ls (.ref a :: rest)) :=
  va_get hC.1 hC.2.1 hC.2.2.2.2 hin hC.2.2.2.1 hK.1 hH.1 q0 he hc k hk (hC.2.2.2.2 _ hlink) (fun x h9 => by rw [← hr]; exact h9) hv hdg kk
theorem x_getN {ref C host : String} {T : u_T} {N index : Nat} {a : Addr} {rest fs : List Value} {v : Value} (hC : CallFix p m c cc nL s args BG own) (hK : Kx G s) (hH : Hx G A ws s.heap H locs) (hin : ∀ w ∈ u_ws C T N, w ∈ BG) (ci k q0 : Nat) (hc : vwCl[ci]? = some (C, T, N)) (hk : k < N) (hlink : Cond.fieldLinkNest own index ref (T k).2.1 (T k).2.2.1 host ∈ nestW) (hr : (T k).1 = ref) (he : ws[q0]? = some (a, .inr (ci, fs))) (hv : fs[k]? = some v) (hdg : decode cc pc = .ok (.getfield index, 3))
    (kk : W p l e R s m args below meth c H locs cells slots Q (F0 m (pc + 3) ls (v :: rest))) : W p l e R s m args below meth c H locs cells slots Q (F0 m pc ls (.ref a :: rest)) :=
  va_getN hC.1 hC.2.1 hC.2.2.2.2 hin hC.2.2.2.1 hK.1 hH.1 q0 he hc k hk (va_Nw.use (nw_ot (nw_b hlink)) (hK.2.1 _ hlink)) (fun x h9 => by rw [← hr]; exact h9) hv hdg kk
theorem x_put {ref C : String} {T : u_T} {N index : Nat} {a : Addr} {rest fs : List Value} {v : Value} {ty : FieldType} (hC : CallFix p m c cc nL s args BG own) (hK : Kx G s) (hH : Hx G A ws s.heap H locs) (hin : ∀ w ∈ u_ws C T N, w ∈ BG) (ty0 : Nat → FieldType) (hty : ∀ k, k < N → parseFieldDescriptor (T k).2.2.1 = some (ty0 k)) (hnm : ∀ a, a < N → ∀ b, b < N → a ≠ b → (T a).2.1 ≠ (T b).2.1) (ci k q0 : Nat) (hc : vwCl[ci]? = some (C, T, N)) (hk : k < N) (hlink : Cond.fieldLink own index ref (T k).2.1 (T k).2.2.1 ∈ BG) (hr : (T k).1 = ref) (hfin : (T k).2.2.2 = false) (hd : ty0 k = ty) (he : ws[q0]? = some (a, .inr (ci, fs))) (hn : narrow ty v = v) (hfit : fits ty v = true) (hl : k < fs.length) (hdg : decode cc pc = .ok (.putfield index, 3))
    (hw : ws.set q0 (a, .inr (ci, fs.set k v)) = ws') (kk : ∀ (H1 : Heap) (locs1 : List Loc), Hx G A ws' s.heap H1 locs1 → W p l e R s m args below meth c H1 locs1 cells slots Q (F0 m (pc + 3) ls rest)) : W p l e R s m args below meth c H locs cells slots Q (F0 m pc ls (v :: .ref a :: rest)) := by
  subst hw
  exact va_put hC.1 hC.2.1 hC.2.2.2.2 hin ty0 hty hnm hC.2.2.2.1 hK.1 hH.1 hH.2.1 hH.2.2 q0 he hc k hk (hC.2.2.2.2 _ hlink) (fun x h9 => by rw [← hr]; exact h9) hfin (by rw [← hd]; exact hty k hk) hn hfit hl hdg (fun H1 locs1 h1 h2 h3 => kk H1 locs1 ⟨h1, h2, h3⟩)
theorem x_putN {ref C host : String} {T : u_T} {N index : Nat} {a : Addr} {rest fs : List Value} {v : Value} {ty : FieldType} (hC : CallFix p m c cc nL s args BG own) (hK : Kx G s) (hH : Hx G A ws s.heap H locs) (hin : ∀ w ∈ u_ws C T N, w ∈ BG) (ty0 : Nat → FieldType) (hty : ∀ k, k < N → parseFieldDescriptor (T k).2.2.1 = some (ty0 k)) (hnm : ∀ a, a < N → ∀ b, b < N → a ≠ b → (T a).2.1 ≠ (T b).2.1) (ci k q0 : Nat) (hc : vwCl[ci]? = some (C, T, N)) (hk : k < N) (hlink : Cond.fieldLinkNest own index ref (T k).2.1 (T k).2.2.1 host ∈ nestW) (hr : (T k).1 = ref) (hfin : (T k).2.2.2 = false) (hd : ty0 k = ty) (he : ws[q0]? = some (a, .inr (ci, fs))) (hn : narrow ty v = v) (hfit : fits ty v = true) (hl : k < fs.length) (hdg : decode cc pc = .ok (.putfield index, 3))
    (hw : ws.set q0 (a, .inr (ci, fs.set k v)) = ws') (kk : ∀ (H1 : Heap) (locs1 : List Loc), Hx G A ws' s.heap H1 locs1 → W p l e R s m args below meth c H1 locs1 cells slots Q (F0 m (pc + 3) ls rest)) : W p l e R s m args below meth c H locs cells slots Q (F0 m pc ls (v :: .ref a :: rest)) := by
  subst hw
  exact va_putN hC.1 hC.2.1 hC.2.2.2.2 hin ty0 hty hnm hC.2.2.2.1 hK.1 hH.1 hH.2.1 hH.2.2 q0 he hc k hk (va_Nw.use (nw_ot (nw_b hlink)) (hK.2.1 _ hlink)) (fun x h9 => by rw [← hr]; exact h9) hfin (by rw [← hd]; exact hty k hk) hn hfit hl hdg (fun H1 locs1 h1 h2 h3 => kk H1 locs1 ⟨h1, h2, h3⟩)
theorem x_iald {a : Addr} {rest : List Value} {n : Nat} {f : Nat → Int32} {i : Int32} (hC : CallFix p m c cc nL s args BG own) (hK : Kx G s) (hH : Hx G A ws s.heap H locs) (q0 : Nat) (ha : ws[q0]? = some (a, .inl (G.2.1.1, n, .inl f))) (hin : vp_in i n) (hdg : decode cc pc = .ok (.iaload, 1))
    (kk : W p l e R s m args below meth c H locs cells slots Q (F0 m (pc + 1) ls (.int (f i.toNatClampNeg) :: rest))) : W p l e R s m args below meth c H locs cells slots Q (F0 m pc ls (.int i :: .ref a :: rest)) :=
  va_iald hC.1 hC.2.1 hK.1 hH.1 q0 0 ha rfl hin hdg kk
theorem x_iast {a : Addr} {rest : List Value} {n : Nat} {f : Nat → Int32} {i x : Int32} (hC : CallFix p m c cc nL s args BG own) (hK : Kx G s) (hH : Hx G A ws s.heap H locs) (q0 : Nat) (ha : ws[q0]? = some (a, .inl (G.2.1.1, n, .inl f))) (hin : vp_in i n) (hdg : decode cc pc = .ok (.iastore, 1))
    (hw : ws.set q0 (a, .inl (G.2.1.1, n, .inl (upd f i.toNatClampNeg x))) = ws') (kk : ∀ (H1 : Heap) (locs1 : List Loc), Hx G A ws' s.heap H1 locs1 → W p l e R s m args below meth c H1 locs1 cells slots Q (F0 m (pc + 1) ls rest)) : W p l e R s m args below meth c H locs cells slots Q (F0 m pc ls (.int x :: .int i :: .ref a :: rest)) := by
  subst hw
  exact va_iast hC.1 hC.2.1 hK.1 hH.1 hH.2.1 hH.2.2 q0 0 ha rfl hin hdg (fun H1 locs1 h1 h2 h3 => kk H1 locs1 ⟨h1, h2, h3⟩)
theorem x_alen {a : Addr} {rest : List Value} {n : Nat} {f : Nat → Int32} (hC : CallFix p m c cc nL s args BG own) (hK : Kx G s) (hH : Hx G A ws s.heap H locs) (q0 : Nat) (ha : ws[q0]? = some (a, .inl (G.2.1.1, n, .inl f))) {v : Int32} (hv : Int32.ofNat n = v) (hdg : decode cc pc = .ok (.arraylength, 1))
    (kk : W p l e R s m args below meth c H locs cells slots Q (F0 m (pc + 1) ls (.int v :: rest))) : W p l e R s m args below meth c H locs cells slots Q (F0 m pc ls (.ref a :: rest)) :=
  va_alen hC.1 hC.2.1 hK.1 hH.1 q0 0 ha (ty := .int) rfl hv hdg kk
/-! ends -/
theorem x_qx {v : Option Value} (hH : Hx G A ws s.heap H locs) (hv : ov = v) (hw : wc' = ws) : ∀ t : State, t.heap = H → s.WarmedH t.vm → QX G ov wc' A args s (.returned v) t := by
  subst hv; subst hw
  exact fun t ht _ => ⟨rfl, by rw [ht]; exact hH.1, hH.2.2.F ht⟩
theorem x_iret {r v : Int32} (hC : CallFix p m c cc nL s args BG own) (hr : meth.sig.returnType = some .int) (hk : meth.locks = false) (hH : Hx G A ws s.heap H locs) (hv : r = v) (hw : wc' = ws) (hdg : decode cc pc = .ok (.ireturn, 1)) : W p l e R s m args below meth c H locs 0 0 (MQ below (QX G (some (.int r)) wc' A) args s 0 0 A) (F0 m pc ls [.int v]) :=
  W.iret hC.1 hC.2.1 hr (x_qx hH (by rw [hv]) hw) hH.2.2.2.2 hdg hk
theorem x_zret {r v : Int32} {ty : FieldType} (hC : CallFix p m c cc nL s args BG own) (hr : meth.sig.returnType = some ty) (hk : meth.locks = false) (hH : Hx G A ws s.heap H locs) (hn : narrow ty (.int r) = .int r) (hv : r = v) (hw : wc' = ws) (hdg : decode cc pc = .ok (.ireturn, 1)) : W p l e R s m args below meth c H locs 0 0 (MQ below (QX G (some (.int r)) wc' A) args s 0 0 A) (F0 m pc ls [.int v]) :=
  W.zret hC.1 hC.2.1 hr (by rw [← hv]; exact hn) (x_qx hH (by rw [hv]) hw) hH.2.2.2.2 hdg hk
theorem x_lret {r v : Int64} (hC : CallFix p m c cc nL s args BG own) (hr : meth.sig.returnType = some .long) (hk : meth.locks = false) (hH : Hx G A ws s.heap H locs) (hv : r = v) (hw : wc' = ws) (hdg : decode cc pc = .ok (.lreturn, 1)) : W p l e R s m args below meth c H locs 0 0 (MQ below (QX G (some (.long r)) wc' A) args s 0 0 A) (F0 m pc ls [.long v]) :=
  W.lret hC.1 hC.2.1 hr (x_qx hH (by rw [hv]) hw) hH.2.2.2.2 hdg hk
theorem x_vret (hC : CallFix p m c cc nL s args BG own) (hr : meth.sig.returnType = none) (hk : meth.locks = false) (hH : Hx G A ws s.heap H locs) (hw : wc' = ws) (hdg : decode cc pc = .ok (.return_, 1)) : W p l e R s m args below meth c H locs 0 0 (MQ below (QX G none wc' A) args s 0 0 A) (F0 m pc ls []) :=
  W.vret hC.1 hC.2.1 hr (x_qx hH rfl hw) hH.2.2.2.2 hdg hk
theorem x_aret {r v : Addr} {ty : FieldType} (hC : CallFix p m c cc nL s args BG own) (hr : meth.sig.returnType = some ty) (hty : (∃ n, ty = .object n) ∨ ∃ t, ty = .array t) (hk : meth.locks = false) (hH : Hx G A ws s.heap H locs) (hv : r = v) (hw : wc' = ws) (hdg : decode cc pc = .ok (.areturn, 1)) : W p l e R s m args below meth c H locs 0 0 (MQ below (QX G (some (.ref r)) wc' A) args s 0 0 A) (F0 m pc ls [.ref v]) :=
  W.aret hC.1 hC.2.1 hr hty (Or.inr ⟨v, rfl⟩) (x_qx hH (by rw [hv]) hw) hH.2.2.2.2 hdg hk
/-- a loop: a measure that falls, cells and locals out of the loop's own state -/
theorem x_loop {α : Type} (μ : α → Nat) (Inv : α → Prop) (wsf : α → va_W) (lvf : α → List (Nat × Value)) {H0 : Heap} {st : List Value}
    (hstep : ∀ a, Inv a → (∀ a', Inv a' → μ a' < μ a → ∀ (H : Heap) (locs : List Loc) (ls : Array Slot), Hx G A (wsf a') H0 H locs → lv_has ls nL (lvf a') → W p l e R s m args below meth c H locs cells slots Q (F0 m pc ls st)) → ∀ (H : Heap) (locs : List Loc) (ls : Array Slot), Hx G A (wsf a) H0 H locs → lv_has ls nL (lvf a) → W p l e R s m args below meth c H locs cells slots Q (F0 m pc ls st))
    (a : α) (ha : Inv a) (hH : Hx G A (wsf a) H0 H locs) (hl : lv_has ls nL (lvf a)) : W p l e R s m args below meth c H locs cells slots Q (F0 m pc ls st) := by
  have go : ∀ (n : Nat) (a : α), μ a < n → Inv a → ∀ (H : Heap) (locs : List Loc) (ls : Array Slot), Hx G A (wsf a) H0 H locs → lv_has ls nL (lvf a) → W p l e R s m args below meth c H locs cells slots Q (F0 m pc ls st) := by
    intro n
    induction n with
    | zero => intro a h; exact absurd h (Nat.not_lt_zero _)
    | succ n ih => intro a h hI H locs ls h1 h2; exact hstep a hI (fun a' i1 i2 H locs ls g1 g2 => ih a' (Nat.lt_of_lt_of_le i2 (Nat.le_of_lt_succ h)) i1 H locs ls g1 g2) H locs ls h1 h2
  exact go (μ a + 1) a (Nat.lt_succ_self _) ha H locs ls hH hl
/-- a meeting point: what is shown for every state of a kind there serves every way to it -/
theorem x_meet {α : Type} (Inv : α → Prop) (wsf : α → va_W) (lvf : α → List (Nat × Value)) (stf : α → List Value) {H0 : Heap} {pc1 : Nat} {g : JFrame}
    (hthen : ∀ a, Inv a → ∀ (H : Heap) (locs : List Loc) (ls : Array Slot), Hx G A (wsf a) H0 H locs → lv_has ls nL (lvf a) → W p l e R s m args below meth c H locs cells slots Q (F0 m pc1 ls (stf a)))
    (hfirst : (∀ a, Inv a → ∀ (H : Heap) (locs : List Loc) (ls : Array Slot), Hx G A (wsf a) H0 H locs → lv_has ls nL (lvf a) → W p l e R s m args below meth c H locs cells slots Q (F0 m pc1 ls (stf a))) → W p l e R s m args below meth c H locs cells slots Q g) : W p l e R s m args below meth c H locs cells slots Q g := hfirst hthen
end XC
end
section
/-! pure words, rows over them, and the sites of fields and calls -/
noncomputable def bI (P : Prop) : Int32 := @ite _ P (Classical.propDecidable P) 1 0
theorem bI_t {P : Prop} (h : P) : bI P = 1 := if_pos h
theorem bI_f {P : Prop} (h : ¬ P) : bI P = 0 := if_neg h
theorem bI_e {P Q : Prop} (h : P ↔ Q) : bI P = bI Q := by rw [propext h]
theorem bI_z {P : Prop} : bI P = 0 ↔ ¬ P := by
  by_cases h : P
  · rw [bI_t h]; exact ⟨fun e => absurd e (by decide), fun e => absurd h e⟩
  · rw [bI_f h]; exact ⟨fun _ => h, fun _ => rfl⟩
theorem bI_n {P : Prop} : ¬ bI P = 0 ↔ P := by rw [bI_z]; exact Classical.not_not
theorem nar_bI {P : Prop} : narrow .boolean (.int (bI P)) = .int (bI P) := by
  by_cases h : P
  · rw [bI_t h]; rfl
  · rw [bI_f h]; rfl
def ua (σ : Nat → Nat → Int32) (k : Nat) (f : Nat → Int32) : Nat → Nat → Int32 := fun j => cond (Nat.beq j k) f (σ j)
def pk {α : Type} (σ : Nat → α) (l : List Nat) : Nat → α := fun j => σ (l.getD j 0)
theorem nIa (a b : Nat) : nI (a + b) = nI a + nI b := (nI_add a b).symm
theorem nIm (a b : Nat) : nI (a * b) = nI a * nI b := (pk_mul a b).symm
theorem lv_eq {ls : Array Slot} {n : Nat} {l l' : List (Nat × Value)} (h : lv_has ls n l) (e : l = l') : lv_has ls n l' := e ▸ h
theorem lc_i {i : Nat} {a b : Int32} {l l' : List (Nat × Value)} (h : a = b) (h2 : l = l') : ((i, Value.int a) :: l) = ((i, Value.int b) :: l') := by rw [h, h2]
theorem lc_l {i : Nat} {a b : Int64} {l l' : List (Nat × Value)} (h : a = b) (h2 : l = l') : ((i, Value.long a) :: l) = ((i, Value.long b) :: l') := by rw [h, h2]
theorem lc_s {q : Nat × Value} {l l' : List (Nat × Value)} (h2 : l = l') : (q :: l) = (q :: l') := by rw [h2]
theorem Hx.eq {G : GP} {A : Nat → Prop} {ws ws' : va_W} {H0 H : Heap} {locs : List Loc} (h : Hx G A ws H0 H locs) (e : ws = ws') : Hx G A ws' H0 H locs := e ▸ h
section XG
variable {p : Program} {l : Launch} {e : Env} {R : Room} {s : State} {m : MethodId} {args : Array Value} {below : List Frame} {meth : Method} {c : Code} {H : Heap} {locs : List Loc} {cells slots : Nat} {Q : State → Prop}
variable {cc : ByteArray} {pc : Nat} {ls : Array Slot} {G : GP} {A : Nat → Prop} {ws wc wc' ws' : va_W} {nL : Nat} {own : String} {y : MethodName} {bytes : ByteArray} {maxL : Nat} {ret : Option FieldType} {d : Nat} {As : List Value} {ov : Option Value}
theorem x_beq {P : Prop} {off : Int} {tgt : Nat} {rest : List Value} (hC : CallFix p m c cc nL s args BG own) (hdg : decode cc pc = .ok (.ifCond .eq off, 3)) (ht : (pc : Int) + off = (tgt : Int)) (kt : ¬ P → W p l e R s m args below meth c H locs cells slots Q (F0 m tgt ls rest)) (kf : P → W p l e R s m args below meth c H locs cells slots Q (F0 m (pc + 3) ls rest)) : W p l e R s m args below meth c H locs cells slots Q (F0 m pc ls (.int (bI P) :: rest)) :=
  lv_if_eq hC.1 hC.2.1 hdg ht (fun h => kt (bI_z.mp h)) (fun h => kf (bI_n.mp h))
theorem x_bne {P : Prop} {off : Int} {tgt : Nat} {rest : List Value} (hC : CallFix p m c cc nL s args BG own) (hdg : decode cc pc = .ok (.ifCond .ne off, 3)) (ht : (pc : Int) + off = (tgt : Int)) (kt : P → W p l e R s m args below meth c H locs cells slots Q (F0 m tgt ls rest)) (kf : ¬ P → W p l e R s m args below meth c H locs cells slots Q (F0 m (pc + 3) ls rest)) : W p l e R s m args below meth c H locs cells slots Q (F0 m pc ls (.int (bI P) :: rest)) :=
  lv_if_ne hC.1 hC.2.1 hdg ht (fun h => kt (bI_n.mp h)) (fun h => kf (bI_z.mp h))
theorem x_ialN {a : Addr} {rest : List Value} {n : Nat} {f : Nat → Int32} {i : Int32} (hC : CallFix p m c cc nL s args BG own) (hK : Kx G s) (hH : Hx G A ws s.heap H locs) (q0 j : Nat) (ha : ws[q0]? = some (a, .inl (G.2.1.1, n, .inl f))) (hi : i = nI j) (hj : j < n) (hn : n < 1000) (hdg : decode cc pc = .ok (.iaload, 1))
    (kk : W p l e R s m args below meth c H locs cells slots Q (F0 m (pc + 1) ls (.int (f j) :: rest))) : W p l e R s m args below meth c H locs cells slots Q (F0 m pc ls (.int i :: .ref a :: rest)) := by
  subst hi
  refine x_iald hC hK hH q0 ha (vp_in_nI hj (by omega)) hdg ?_
  rw [nI_clamp (by omega)]
  exact kk
theorem x_iasN {a : Addr} {rest : List Value} {n : Nat} {f : Nat → Int32} {i x : Int32} (hC : CallFix p m c cc nL s args BG own) (hK : Kx G s) (hH : Hx G A ws s.heap H locs) (q0 j : Nat) (ha : ws[q0]? = some (a, .inl (G.2.1.1, n, .inl f))) (hi : i = nI j) (hj : j < n) (hn : n < 1000) (hdg : decode cc pc = .ok (.iastore, 1))
    (hw : ws.set q0 (a, .inl (G.2.1.1, n, .inl (upd f j x))) = ws') (kk : ∀ (H1 : Heap) (locs1 : List Loc), Hx G A ws' s.heap H1 locs1 → W p l e R s m args below meth c H1 locs1 cells slots Q (F0 m (pc + 1) ls rest)) : W p l e R s m args below meth c H locs cells slots Q (F0 m pc ls (.int x :: .int i :: .ref a :: rest)) := by
  subst hi
  exact x_iast hC hK hH q0 ha (vp_in_nI hj (by omega)) hdg (by rw [nI_clamp (by omega)]; exact hw) kk
theorem hx_all {H0 H1 : Heap} {locs1 : List Loc} (hH : Hx G A ws H0 H locs) (hsh : wc'.map Prod.fst = ws.map Prod.fst) (hP1 : va_P G.1 vwCl wc' H1) (hS1 : va_S A H0 H1 locs1) : Hx G A wc' H0 H1 locs1 := by
  have sh : ∀ (j : Nat) (p : Nat × va_E), wc'[j]? = some p → ∃ q, ws[j]? = some q ∧ q.1 = p.1 := by
    intro j p hp
    have h1 : (wc'.map Prod.fst)[j]? = some p.1 := by rw [List.getElem?_map, hp]; rfl
    rw [hsh, List.getElem?_map] at h1
    cases hq : ws[j]? with
    | none => rw [hq] at h1; cases h1
    | some q => rw [hq] at h1; exact ⟨q, rfl, Option.some.inj h1⟩
  refine ⟨hP1, ⟨fun i j p q hi hj e => ?_, fun k p hp => ?_⟩, hS1⟩
  · obtain ⟨p', g1, g2⟩ := sh i p hi
    obtain ⟨q', g3, g4⟩ := sh j q hj
    exact hH.2.1.1 i j p' q' g1 g3 (by rw [g2, g4]; exact e)
  · obtain ⟨p', g1, g2⟩ := sh k p hp
    rw [← g2]
    exact hH.2.1.2 k p' g1
theorem x_freeA {H0 : Heap} (hA : ∀ q, H0.size ≤ q → A q) (hH : Hx G A ws H0 H locs) : ∀ q, va_A ws H.size q → A q := by
  intro q h
  rcases h with ⟨k, e, h⟩ | h
  · exact hH.2.1.2 k (q, e) h
  · exact hA q (Nat.le_trans hH.2.2.1 h)
theorem x_runA {H0 : Heap} {g0 : List Value} {rest : List Value} {a : Array Value} (hH : Hx G A ws H0 H locs) (hsh : wc'.map Prod.fst = ws.map Prod.fst)
    (hf : ∀ q, va_A ws H.size q → A q)
    (hr : va_Run p l e R s m args below meth c H locs cells slots 0 0 (F0 m pc ls g0) rest (QX G ov wc' (va_A ws H.size) a) (va_A ws H.size))
    (kk : ∀ (H1 : Heap) (locs1 : List Loc), Hx G A wc' H0 H1 locs1 → W p l e R s m args below meth c H1 locs1 cells slots Q (F0 m (pc + 3) ls (ov.toList ++ rest))) : W p l e R s m args below meth c H locs cells slots Q (F0 m pc ls g0) := by
  intro T hT X
  obtain ⟨v, st₀, t, T', L, h0, X', hL, e1, e2, ⟨hv, hp, hz, hk⟩, st⟩ := hr T hT X
  have hv2 : v = ov := by injection hv
  subst hv2
  rw [h0] at hz hk
  have hS := hH.2.2
  obtain ⟨t2, a1, b1⟩ := kk T'.heap (locs ++ L) (hx_all hH hsh (by rw [e1]; exact hp)
    ⟨Nat.le_trans hS.1 (by rw [e1]; exact hz), fun q h1 h2 => by rw [e1, hk q (Nat.lt_of_lt_of_le h1 hS.1) (fun z => h2 (hf q z))]; exact hS.2.1 q h1 h2, fun q hq => by
      rcases List.mem_append.mp hq with h | h
      · exact hS.2.2 q h
      · exact hf _ (hL q h)⟩) T' rfl X'
  exact ⟨t2, st t2 a1, b1⟩
theorem x_preA (hK : Kx G s) (hZ : Zx G A s s.heap) (hA : ∀ q, s.heap.size ≤ q → A q) (hH : Hx G A ws s.heap H locs) (As : List Value) : ∀ U : State, U.heap = H → s.WarmedH U.vm → PreX G As ws H.size As.toArray U := by
  intro U hU hW
  refine ⟨rfl, by rw [hU], by rw [hU]; exact hH.1, hH.2.1.weaken (fun _ _ _ _ => trivial), hK.warm hW, ?_⟩
  rw [hU]
  exact ((hZ.kept (H1 := H) (fun a h1 h2 => hH.2.2.2.1 a h1 h2)).narrow (x_freeA hA hH)).moved hW.alike
/-- the callee's world is the caller's whole one -/
theorem x_callVA {b : Addr} {idx n : Nat} {C : String} {rest st' : List Value} {T : u_T} {N : Nat} {fs : List Value} (hC : CallFix p m c cc nL s args BG own) (hK : Kx G s) (hZ : Zx G A s s.heap) (hA : ∀ q, s.heap.size ≤ q → A q) (hl : ls.size = nL) (hH : Hx G A ws s.heap H locs) (hM : CT l G y bytes maxL ret d (.ref b :: As) ws ov wc') (lk : xLV own idx C y bytes maxL ret n) (hov : wc' = ws') (q0 ci : Nat) (hc : vwCl[ci]? = some (C, T, N)) (he : ws[q0]? = some (b, .inr (ci, fs)))
    (hn : As.length = n) (hroom : d + 1 ≤ R.frames ∧ 8 + (maxL + 11) + 40 * d ≤ R.locals) (hcs : cells + 0 ≤ R.cells ∧ slots + 0 ≤ R.slots) (hrest : (rest.map fun v => v.category).sum ≤ 8) (hst : ov.toList ++ rest = st') (hdg : decode cc pc = .ok (.invokevirtual idx, 3))
    (kk : ∀ (H1 : Heap) (locs1 : List Loc), Hx G A ws' s.heap H1 locs1 → W p l e R s m args below meth c H1 locs1 cells slots Q (F0 m (pc + 3) ls st')) : W p l e R s m args below meth c H locs cells slots Q (F0 m pc ls (As.reverse ++ .ref b :: rest)) := by
  subst hst; subst hov
  exact x_runA hH hM.1 (x_freeA hA hH) (va_runV (As := As) (rest := rest) hC (hM.2 H.size) (cwV n hC.2.2.2.2 lk.1 rfl rfl rfl lk.2 hroom) ⟨PreX.blind, va_recv (D := G.1) hK.1 hH.1 hc he, x_preA hK hZ hA hH (.ref b :: As)⟩ rfl hn hl rfl (lv_room hrest) hdg hcs) kk
theorem va_nd_nil : va_nd [] = true := rfl
theorem gf_X11_14 {a : Addr} {rest fs : List Value} {v : Value} (hC : CallFix p m c cc nL s args BG "BetsOnBets") (hK : Kx G s) (hH : Hx G A ws s.heap H locs) (q0 : Nat) (he : ws[q0]? = some (a, .inr (10, fs))) (hv : fs[0]? = some v) (hdg : decode cc pc = .ok (.getfield 14, 3)) (kk : W p l e R s m args below meth c H locs cells slots Q (F0 m (pc + 3) ls (v :: rest))) : W p l e R s m args below meth c H locs cells slots Q (F0 m pc ls (.ref a :: rest)) := x_get hC hK hH (T := TX11) (N := 11) iB_X11 10 0 q0 rfl (by decide) wd_221 rfl he hv hdg kk
theorem gf_X11_18 {a : Addr} {rest fs : List Value} {v : Value} (hC : CallFix p m c cc nL s args BG "BetsOnBets") (hK : Kx G s) (hH : Hx G A ws s.heap H locs) (q0 : Nat) (he : ws[q0]? = some (a, .inr (10, fs))) (hv : fs[1]? = some v) (hdg : decode cc pc = .ok (.getfield 18, 3)) (kk : W p l e R s m args below meth c H locs cells slots Q (F0 m (pc + 3) ls (v :: rest))) : W p l e R s m args below meth c H locs cells slots Q (F0 m pc ls (.ref a :: rest)) := x_get hC hK hH (T := TX11) (N := 11) iB_X11 10 1 q0 rfl (by decide) wd_222 rfl he hv hdg kk
theorem gf_X11_26 {a : Addr} {rest fs : List Value} {v : Value} (hC : CallFix p m c cc nL s args BG "BetsOnBets") (hK : Kx G s) (hH : Hx G A ws s.heap H locs) (q0 : Nat) (he : ws[q0]? = some (a, .inr (10, fs))) (hv : fs[2]? = some v) (hdg : decode cc pc = .ok (.getfield 26, 3)) (kk : W p l e R s m args below meth c H locs cells slots Q (F0 m (pc + 3) ls (v :: rest))) : W p l e R s m args below meth c H locs cells slots Q (F0 m pc ls (.ref a :: rest)) := x_get hC hK hH (T := TX11) (N := 11) iB_X11 10 2 q0 rfl (by decide) wd_223 rfl he hv hdg kk
theorem gf_X11_33 {a : Addr} {rest fs : List Value} {v : Value} (hC : CallFix p m c cc nL s args BG "BetsOnBets") (hK : Kx G s) (hH : Hx G A ws s.heap H locs) (q0 : Nat) (he : ws[q0]? = some (a, .inr (10, fs))) (hv : fs[3]? = some v) (hdg : decode cc pc = .ok (.getfield 33, 3)) (kk : W p l e R s m args below meth c H locs cells slots Q (F0 m (pc + 3) ls (v :: rest))) : W p l e R s m args below meth c H locs cells slots Q (F0 m pc ls (.ref a :: rest)) := x_get hC hK hH (T := TX11) (N := 11) iB_X11 10 3 q0 rfl (by decide) wd_224 rfl he hv hdg kk
theorem gf_X11_37 {a : Addr} {rest fs : List Value} {v : Value} (hC : CallFix p m c cc nL s args BG "BetsOnBets") (hK : Kx G s) (hH : Hx G A ws s.heap H locs) (q0 : Nat) (he : ws[q0]? = some (a, .inr (10, fs))) (hv : fs[4]? = some v) (hdg : decode cc pc = .ok (.getfield 37, 3)) (kk : W p l e R s m args below meth c H locs cells slots Q (F0 m (pc + 3) ls (v :: rest))) : W p l e R s m args below meth c H locs cells slots Q (F0 m pc ls (.ref a :: rest)) := x_get hC hK hH (T := TX11) (N := 11) iB_X11 10 4 q0 rfl (by decide) wd_225 rfl he hv hdg kk
theorem gf_X11_40 {a : Addr} {rest fs : List Value} {v : Value} (hC : CallFix p m c cc nL s args BG "BetsOnBets") (hK : Kx G s) (hH : Hx G A ws s.heap H locs) (q0 : Nat) (he : ws[q0]? = some (a, .inr (10, fs))) (hv : fs[5]? = some v) (hdg : decode cc pc = .ok (.getfield 40, 3)) (kk : W p l e R s m args below meth c H locs cells slots Q (F0 m (pc + 3) ls (v :: rest))) : W p l e R s m args below meth c H locs cells slots Q (F0 m pc ls (.ref a :: rest)) := x_get hC hK hH (T := TX11) (N := 11) iB_X11 10 5 q0 rfl (by decide) wd_226 rfl he hv hdg kk
theorem gf_X11_46 {a : Addr} {rest fs : List Value} {v : Value} (hC : CallFix p m c cc nL s args BG "BetsOnBets") (hK : Kx G s) (hH : Hx G A ws s.heap H locs) (q0 : Nat) (he : ws[q0]? = some (a, .inr (10, fs))) (hv : fs[6]? = some v) (hdg : decode cc pc = .ok (.getfield 46, 3)) (kk : W p l e R s m args below meth c H locs cells slots Q (F0 m (pc + 3) ls (v :: rest))) : W p l e R s m args below meth c H locs cells slots Q (F0 m pc ls (.ref a :: rest)) := x_get hC hK hH (T := TX11) (N := 11) iB_X11 10 6 q0 rfl (by decide) wd_227 rfl he hv hdg kk
theorem gf_X11_50 {a : Addr} {rest fs : List Value} {v : Value} (hC : CallFix p m c cc nL s args BG "BetsOnBets") (hK : Kx G s) (hH : Hx G A ws s.heap H locs) (q0 : Nat) (he : ws[q0]? = some (a, .inr (10, fs))) (hv : fs[7]? = some v) (hdg : decode cc pc = .ok (.getfield 50, 3)) (kk : W p l e R s m args below meth c H locs cells slots Q (F0 m (pc + 3) ls (v :: rest))) : W p l e R s m args below meth c H locs cells slots Q (F0 m pc ls (.ref a :: rest)) := x_get hC hK hH (T := TX11) (N := 11) iB_X11 10 7 q0 rfl (by decide) wd_228 rfl he hv hdg kk
theorem gf_X11_54 {a : Addr} {rest fs : List Value} {v : Value} (hC : CallFix p m c cc nL s args BG "BetsOnBets") (hK : Kx G s) (hH : Hx G A ws s.heap H locs) (q0 : Nat) (he : ws[q0]? = some (a, .inr (10, fs))) (hv : fs[8]? = some v) (hdg : decode cc pc = .ok (.getfield 54, 3)) (kk : W p l e R s m args below meth c H locs cells slots Q (F0 m (pc + 3) ls (v :: rest))) : W p l e R s m args below meth c H locs cells slots Q (F0 m pc ls (.ref a :: rest)) := x_get hC hK hH (T := TX11) (N := 11) iB_X11 10 8 q0 rfl (by decide) wd_229 rfl he hv hdg kk
theorem gf_X11_57 {a : Addr} {rest fs : List Value} {v : Value} (hC : CallFix p m c cc nL s args BG "BetsOnBets") (hK : Kx G s) (hH : Hx G A ws s.heap H locs) (q0 : Nat) (he : ws[q0]? = some (a, .inr (10, fs))) (hv : fs[9]? = some v) (hdg : decode cc pc = .ok (.getfield 57, 3)) (kk : W p l e R s m args below meth c H locs cells slots Q (F0 m (pc + 3) ls (v :: rest))) : W p l e R s m args below meth c H locs cells slots Q (F0 m pc ls (.ref a :: rest)) := x_get hC hK hH (T := TX11) (N := 11) iB_X11 10 9 q0 rfl (by decide) wd_230 rfl he hv hdg kk
theorem gf_X11_60 {a : Addr} {rest fs : List Value} {v : Value} (hC : CallFix p m c cc nL s args BG "BetsOnBets") (hK : Kx G s) (hH : Hx G A ws s.heap H locs) (q0 : Nat) (he : ws[q0]? = some (a, .inr (10, fs))) (hv : fs[10]? = some v) (hdg : decode cc pc = .ok (.getfield 60, 3)) (kk : W p l e R s m args below meth c H locs cells slots Q (F0 m (pc + 3) ls (v :: rest))) : W p l e R s m args below meth c H locs cells slots Q (F0 m pc ls (.ref a :: rest)) := x_get hC hK hH (T := TX11) (N := 11) iB_X11 10 10 q0 rfl (by decide) wd_231 rfl he hv hdg kk
theorem gf_X11_78 {a : Addr} {rest fs : List Value} {v : Value} (hC : CallFix p m c cc nL s args BG "BetsOnBets") (hK : Kx G s) (hH : Hx G A ws s.heap H locs) (q0 : Nat) (he : ws[q0]? = some (a, .inr (1, fs))) (hv : fs[3]? = some v) (hdg : decode cc pc = .ok (.getfield 78, 3)) (kk : W p l e R s m args below meth c H locs cells slots Q (F0 m (pc + 3) ls (v :: rest))) : W p l e R s m args below meth c H locs cells slots Q (F0 m pc ls (.ref a :: rest)) := x_getN hC hK hH (T := TX2) (N := 5) iB_X2 1 3 q0 rfl (by decide) (List.mem_of_getElem? (i := 5) rfl) rfl he hv hdg kk
theorem gf_X11_162 {a : Addr} {rest fs : List Value} {v : Value} (hC : CallFix p m c cc nL s args BG "BetsOnBets") (hK : Kx G s) (hH : Hx G A ws s.heap H locs) (q0 : Nat) (he : ws[q0]? = some (a, .inr (1, fs))) (hv : fs[4]? = some v) (hdg : decode cc pc = .ok (.getfield 162, 3)) (kk : W p l e R s m args below meth c H locs cells slots Q (F0 m (pc + 3) ls (v :: rest))) : W p l e R s m args below meth c H locs cells slots Q (F0 m pc ls (.ref a :: rest)) := x_getN hC hK hH (T := TX2) (N := 5) iB_X2 1 4 q0 rfl (by decide) (List.mem_of_getElem? (i := 7) rfl) rfl he hv hdg kk
theorem gf_X11_202 {a : Addr} {rest fs : List Value} {v : Value} (hC : CallFix p m c cc nL s args BG "BetsOnBets") (hK : Kx G s) (hH : Hx G A ws s.heap H locs) (q0 : Nat) (he : ws[q0]? = some (a, .inr (8, fs))) (hv : fs[1]? = some v) (hdg : decode cc pc = .ok (.getfield 202, 3)) (kk : W p l e R s m args below meth c H locs cells slots Q (F0 m (pc + 3) ls (v :: rest))) : W p l e R s m args below meth c H locs cells slots Q (F0 m pc ls (.ref a :: rest)) := x_getN hC hK hH (T := TX9) (N := 2) iB_X9 8 1 q0 rfl (by decide) (List.mem_of_getElem? (i := 1) rfl) rfl he hv hdg kk
theorem gf_X11_212 {a : Addr} {rest fs : List Value} {v : Value} (hC : CallFix p m c cc nL s args BG "BetsOnBets") (hK : Kx G s) (hH : Hx G A ws s.heap H locs) (q0 : Nat) (he : ws[q0]? = some (a, .inr (7, fs))) (hv : fs[2]? = some v) (hdg : decode cc pc = .ok (.getfield 212, 3)) (kk : W p l e R s m args below meth c H locs cells slots Q (F0 m (pc + 3) ls (v :: rest))) : W p l e R s m args below meth c H locs cells slots Q (F0 m pc ls (.ref a :: rest)) := x_getN hC hK hH (T := TX8) (N := 4) iB_X8 7 2 q0 rfl (by decide) (List.mem_of_getElem? (i := 3) rfl) rfl he hv hdg kk
theorem gf_X11_218 {a : Addr} {rest fs : List Value} {v : Value} (hC : CallFix p m c cc nL s args BG "BetsOnBets") (hK : Kx G s) (hH : Hx G A ws s.heap H locs) (q0 : Nat) (he : ws[q0]? = some (a, .inr (7, fs))) (hv : fs[1]? = some v) (hdg : decode cc pc = .ok (.getfield 218, 3)) (kk : W p l e R s m args below meth c H locs cells slots Q (F0 m (pc + 3) ls (v :: rest))) : W p l e R s m args below meth c H locs cells slots Q (F0 m pc ls (.ref a :: rest)) := x_getN hC hK hH (T := TX8) (N := 4) iB_X8 7 1 q0 rfl (by decide) (List.mem_of_getElem? (i := 2) rfl) rfl he hv hdg kk
theorem gf_X2_9 {a : Addr} {rest fs : List Value} {v : Value} (hC : CallFix p m c cc nL s args BG "BetsOnBets$Book") (hK : Kx G s) (hH : Hx G A ws s.heap H locs) (q0 : Nat) (he : ws[q0]? = some (a, .inr (1, fs))) (hv : fs[0]? = some v) (hdg : decode cc pc = .ok (.getfield 9, 3)) (kk : W p l e R s m args below meth c H locs cells slots Q (F0 m (pc + 3) ls (v :: rest))) : W p l e R s m args below meth c H locs cells slots Q (F0 m pc ls (.ref a :: rest)) := x_get hC hK hH (T := TX2) (N := 5) iB_X2 1 0 q0 rfl (by decide) wd_132 rfl he hv hdg kk
theorem gf_X2_15 {a : Addr} {rest fs : List Value} {v : Value} (hC : CallFix p m c cc nL s args BG "BetsOnBets$Book") (hK : Kx G s) (hH : Hx G A ws s.heap H locs) (q0 : Nat) (he : ws[q0]? = some (a, .inr (1, fs))) (hv : fs[1]? = some v) (hdg : decode cc pc = .ok (.getfield 15, 3)) (kk : W p l e R s m args below meth c H locs cells slots Q (F0 m (pc + 3) ls (v :: rest))) : W p l e R s m args below meth c H locs cells slots Q (F0 m pc ls (.ref a :: rest)) := x_get hC hK hH (T := TX2) (N := 5) iB_X2 1 1 q0 rfl (by decide) wd_133 rfl he hv hdg kk
theorem gf_X2_18 {a : Addr} {rest fs : List Value} {v : Value} (hC : CallFix p m c cc nL s args BG "BetsOnBets$Book") (hK : Kx G s) (hH : Hx G A ws s.heap H locs) (q0 : Nat) (he : ws[q0]? = some (a, .inr (1, fs))) (hv : fs[2]? = some v) (hdg : decode cc pc = .ok (.getfield 18, 3)) (kk : W p l e R s m args below meth c H locs cells slots Q (F0 m (pc + 3) ls (v :: rest))) : W p l e R s m args below meth c H locs cells slots Q (F0 m pc ls (.ref a :: rest)) := x_get hC hK hH (T := TX2) (N := 5) iB_X2 1 2 q0 rfl (by decide) wd_134 rfl he hv hdg kk
theorem gf_X2_21 {a : Addr} {rest fs : List Value} {v : Value} (hC : CallFix p m c cc nL s args BG "BetsOnBets$Book") (hK : Kx G s) (hH : Hx G A ws s.heap H locs) (q0 : Nat) (he : ws[q0]? = some (a, .inr (1, fs))) (hv : fs[3]? = some v) (hdg : decode cc pc = .ok (.getfield 21, 3)) (kk : W p l e R s m args below meth c H locs cells slots Q (F0 m (pc + 3) ls (v :: rest))) : W p l e R s m args below meth c H locs cells slots Q (F0 m pc ls (.ref a :: rest)) := x_get hC hK hH (T := TX2) (N := 5) iB_X2 1 3 q0 rfl (by decide) wd_135 rfl he hv hdg kk
theorem gf_X2_25 {a : Addr} {rest fs : List Value} {v : Value} (hC : CallFix p m c cc nL s args BG "BetsOnBets$Book") (hK : Kx G s) (hH : Hx G A ws s.heap H locs) (q0 : Nat) (he : ws[q0]? = some (a, .inr (1, fs))) (hv : fs[4]? = some v) (hdg : decode cc pc = .ok (.getfield 25, 3)) (kk : W p l e R s m args below meth c H locs cells slots Q (F0 m (pc + 3) ls (v :: rest))) : W p l e R s m args below meth c H locs cells slots Q (F0 m pc ls (.ref a :: rest)) := x_get hC hK hH (T := TX2) (N := 5) iB_X2 1 4 q0 rfl (by decide) wd_137 rfl he hv hdg kk
theorem gf_X8_9 {a : Addr} {rest fs : List Value} {v : Value} (hC : CallFix p m c cc nL s args BG "BetsOnBets$Reader") (hK : Kx G s) (hH : Hx G A ws s.heap H locs) (q0 : Nat) (he : ws[q0]? = some (a, .inr (7, fs))) (hv : fs[1]? = some v) (hdg : decode cc pc = .ok (.getfield 9, 3)) (kk : W p l e R s m args below meth c H locs cells slots Q (F0 m (pc + 3) ls (v :: rest))) : W p l e R s m args below meth c H locs cells slots Q (F0 m pc ls (.ref a :: rest)) := x_get hC hK hH (T := TX8) (N := 4) iB_X8 7 1 q0 rfl (by decide) wd_109 rfl he hv hdg kk
theorem gf_X8_15 {a : Addr} {rest fs : List Value} {v : Value} (hC : CallFix p m c cc nL s args BG "BetsOnBets$Reader") (hK : Kx G s) (hH : Hx G A ws s.heap H locs) (q0 : Nat) (he : ws[q0]? = some (a, .inr (7, fs))) (hv : fs[2]? = some v) (hdg : decode cc pc = .ok (.getfield 15, 3)) (kk : W p l e R s m args below meth c H locs cells slots Q (F0 m (pc + 3) ls (v :: rest))) : W p l e R s m args below meth c H locs cells slots Q (F0 m pc ls (.ref a :: rest)) := x_get hC hK hH (T := TX8) (N := 4) iB_X8 7 2 q0 rfl (by decide) wd_111 rfl he hv hdg kk
theorem gf_X8_19 {a : Addr} {rest fs : List Value} {v : Value} (hC : CallFix p m c cc nL s args BG "BetsOnBets$Reader") (hK : Kx G s) (hH : Hx G A ws s.heap H locs) (q0 : Nat) (he : ws[q0]? = some (a, .inr (7, fs))) (hv : fs[3]? = some v) (hdg : decode cc pc = .ok (.getfield 19, 3)) (kk : W p l e R s m args below meth c H locs cells slots Q (F0 m (pc + 3) ls (v :: rest))) : W p l e R s m args below meth c H locs cells slots Q (F0 m pc ls (.ref a :: rest)) := x_get hC hK hH (T := TX8) (N := 4) iB_X8 7 3 q0 rfl (by decide) wd_113 rfl he hv hdg kk
theorem gf_X8_23 {a : Addr} {rest fs : List Value} {v : Value} (hC : CallFix p m c cc nL s args BG "BetsOnBets$Reader") (hK : Kx G s) (hH : Hx G A ws s.heap H locs) (q0 : Nat) (he : ws[q0]? = some (a, .inr (7, fs))) (hv : fs[0]? = some v) (hdg : decode cc pc = .ok (.getfield 23, 3)) (kk : W p l e R s m args below meth c H locs cells slots Q (F0 m (pc + 3) ls (v :: rest))) : W p l e R s m args below meth c H locs cells slots Q (F0 m pc ls (.ref a :: rest)) := x_get hC hK hH (T := TX8) (N := 4) iB_X8 7 0 q0 rfl (by decide) wd_108 rfl he hv hdg kk
theorem gf_X8_27 {a : Addr} {rest fs : List Value} {v : Value} (hC : CallFix p m c cc nL s args BG "BetsOnBets$Reader") (hK : Kx G s) (hH : Hx G A ws s.heap H locs) (q0 : Nat) (he : ws[q0]? = some (a, .inr (8, fs))) (hv : fs[1]? = some v) (hdg : decode cc pc = .ok (.getfield 27, 3)) (kk : W p l e R s m args below meth c H locs cells slots Q (F0 m (pc + 3) ls (v :: rest))) : W p l e R s m args below meth c H locs cells slots Q (F0 m pc ls (.ref a :: rest)) := x_getN hC hK hH (T := TX9) (N := 2) iB_X9 8 1 q0 rfl (by decide) (List.mem_of_getElem? (i := 0) rfl) rfl he hv hdg kk
theorem gf_X9_7 {a : Addr} {rest fs : List Value} {v : Value} (hC : CallFix p m c cc nL s args BG "BetsOnBets$Row") (hK : Kx G s) (hH : Hx G A ws s.heap H locs) (q0 : Nat) (he : ws[q0]? = some (a, .inr (8, fs))) (hv : fs[1]? = some v) (hdg : decode cc pc = .ok (.getfield 7, 3)) (kk : W p l e R s m args below meth c H locs cells slots Q (F0 m (pc + 3) ls (v :: rest))) : W p l e R s m args below meth c H locs cells slots Q (F0 m pc ls (.ref a :: rest)) := x_get hC hK hH (T := TX9) (N := 2) iB_X9 8 1 q0 rfl (by decide) wd_93 rfl he hv hdg kk
theorem gf_X9_19 {a : Addr} {rest fs : List Value} {v : Value} (hC : CallFix p m c cc nL s args BG "BetsOnBets$Row") (hK : Kx G s) (hH : Hx G A ws s.heap H locs) (q0 : Nat) (he : ws[q0]? = some (a, .inr (8, fs))) (hv : fs[0]? = some v) (hdg : decode cc pc = .ok (.getfield 19, 3)) (kk : W p l e R s m args below meth c H locs cells slots Q (F0 m (pc + 3) ls (v :: rest))) : W p l e R s m args below meth c H locs cells slots Q (F0 m pc ls (.ref a :: rest)) := x_get hC hK hH (T := TX9) (N := 2) iB_X9 8 0 q0 rfl (by decide) wd_92 rfl he hv hdg kk
theorem gf_X10_29 {a : Addr} {rest fs : List Value} {v : Value} (hC : CallFix p m c cc nL s args BG "BetsOnBets$Ways") (hK : Kx G s) (hH : Hx G A ws s.heap H locs) (q0 : Nat) (he : ws[q0]? = some (a, .inr (9, fs))) (hv : fs[0]? = some v) (hdg : decode cc pc = .ok (.getfield 29, 3)) (kk : W p l e R s m args below meth c H locs cells slots Q (F0 m (pc + 3) ls (v :: rest))) : W p l e R s m args below meth c H locs cells slots Q (F0 m pc ls (.ref a :: rest)) := x_get hC hK hH (T := TX10) (N := 5) iB_X10 9 0 q0 rfl (by decide) wd_205 rfl he hv hdg kk
theorem gf_X10_35 {a : Addr} {rest fs : List Value} {v : Value} (hC : CallFix p m c cc nL s args BG "BetsOnBets$Ways") (hK : Kx G s) (hH : Hx G A ws s.heap H locs) (q0 : Nat) (he : ws[q0]? = some (a, .inr (9, fs))) (hv : fs[1]? = some v) (hdg : decode cc pc = .ok (.getfield 35, 3)) (kk : W p l e R s m args below meth c H locs cells slots Q (F0 m (pc + 3) ls (v :: rest))) : W p l e R s m args below meth c H locs cells slots Q (F0 m pc ls (.ref a :: rest)) := x_get hC hK hH (T := TX10) (N := 5) iB_X10 9 1 q0 rfl (by decide) wd_206 rfl he hv hdg kk
theorem gf_X10_39 {a : Addr} {rest fs : List Value} {v : Value} (hC : CallFix p m c cc nL s args BG "BetsOnBets$Ways") (hK : Kx G s) (hH : Hx G A ws s.heap H locs) (q0 : Nat) (he : ws[q0]? = some (a, .inr (9, fs))) (hv : fs[2]? = some v) (hdg : decode cc pc = .ok (.getfield 39, 3)) (kk : W p l e R s m args below meth c H locs cells slots Q (F0 m (pc + 3) ls (v :: rest))) : W p l e R s m args below meth c H locs cells slots Q (F0 m pc ls (.ref a :: rest)) := x_get hC hK hH (T := TX10) (N := 5) iB_X10 9 2 q0 rfl (by decide) wd_207 rfl he hv hdg kk
theorem gf_X10_42 {a : Addr} {rest fs : List Value} {v : Value} (hC : CallFix p m c cc nL s args BG "BetsOnBets$Ways") (hK : Kx G s) (hH : Hx G A ws s.heap H locs) (q0 : Nat) (he : ws[q0]? = some (a, .inr (9, fs))) (hv : fs[3]? = some v) (hdg : decode cc pc = .ok (.getfield 42, 3)) (kk : W p l e R s m args below meth c H locs cells slots Q (F0 m (pc + 3) ls (v :: rest))) : W p l e R s m args below meth c H locs cells slots Q (F0 m pc ls (.ref a :: rest)) := x_get hC hK hH (T := TX10) (N := 5) iB_X10 9 3 q0 rfl (by decide) wd_208 rfl he hv hdg kk
theorem gf_X10_45 {a : Addr} {rest fs : List Value} {v : Value} (hC : CallFix p m c cc nL s args BG "BetsOnBets$Ways") (hK : Kx G s) (hH : Hx G A ws s.heap H locs) (q0 : Nat) (he : ws[q0]? = some (a, .inr (9, fs))) (hv : fs[4]? = some v) (hdg : decode cc pc = .ok (.getfield 45, 3)) (kk : W p l e R s m args below meth c H locs cells slots Q (F0 m (pc + 3) ls (v :: rest))) : W p l e R s m args below meth c H locs cells slots Q (F0 m pc ls (.ref a :: rest)) := x_get hC hK hH (T := TX10) (N := 5) iB_X10 9 4 q0 rfl (by decide) wd_209 rfl he hv hdg kk
theorem gf_X10_62 {a : Addr} {rest fs : List Value} {v : Value} (hC : CallFix p m c cc nL s args BG "BetsOnBets$Ways") (hK : Kx G s) (hH : Hx G A ws s.heap H locs) (q0 : Nat) (he : ws[q0]? = some (a, .inr (1, fs))) (hv : fs[4]? = some v) (hdg : decode cc pc = .ok (.getfield 62, 3)) (kk : W p l e R s m args below meth c H locs cells slots Q (F0 m (pc + 3) ls (v :: rest))) : W p l e R s m args below meth c H locs cells slots Q (F0 m pc ls (.ref a :: rest)) := x_getN hC hK hH (T := TX2) (N := 5) iB_X2 1 4 q0 rfl (by decide) (List.mem_of_getElem? (i := 6) rfl) rfl he hv hdg kk
theorem gf_X12_7 {a : Addr} {rest fs : List Value} {v : Value} (hC : CallFix p m c cc nL s args BG "BetsOnBetsModel") (hK : Kx G s) (hH : Hx G A ws s.heap H locs) (q0 : Nat) (he : ws[q0]? = some (a, .inr (11, fs))) (hv : fs[0]? = some v) (hdg : decode cc pc = .ok (.getfield 7, 3)) (kk : W p l e R s m args below meth c H locs cells slots Q (F0 m (pc + 3) ls (v :: rest))) : W p l e R s m args below meth c H locs cells slots Q (F0 m pc ls (.ref a :: rest)) := x_get hC hK hH (T := TX12) (N := 15) iB_X12 11 0 q0 rfl (by decide) wd_765 rfl he hv hdg kk
theorem gf_X12_13 {a : Addr} {rest fs : List Value} {v : Value} (hC : CallFix p m c cc nL s args BG "BetsOnBetsModel") (hK : Kx G s) (hH : Hx G A ws s.heap H locs) (q0 : Nat) (he : ws[q0]? = some (a, .inr (11, fs))) (hv : fs[1]? = some v) (hdg : decode cc pc = .ok (.getfield 13, 3)) (kk : W p l e R s m args below meth c H locs cells slots Q (F0 m (pc + 3) ls (v :: rest))) : W p l e R s m args below meth c H locs cells slots Q (F0 m pc ls (.ref a :: rest)) := x_get hC hK hH (T := TX12) (N := 15) iB_X12 11 1 q0 rfl (by decide) wd_766 rfl he hv hdg kk
theorem gf_X12_16 {a : Addr} {rest fs : List Value} {v : Value} (hC : CallFix p m c cc nL s args BG "BetsOnBetsModel") (hK : Kx G s) (hH : Hx G A ws s.heap H locs) (q0 : Nat) (he : ws[q0]? = some (a, .inr (11, fs))) (hv : fs[2]? = some v) (hdg : decode cc pc = .ok (.getfield 16, 3)) (kk : W p l e R s m args below meth c H locs cells slots Q (F0 m (pc + 3) ls (v :: rest))) : W p l e R s m args below meth c H locs cells slots Q (F0 m pc ls (.ref a :: rest)) := x_get hC hK hH (T := TX12) (N := 15) iB_X12 11 2 q0 rfl (by decide) wd_767 rfl he hv hdg kk
theorem gf_X12_19 {a : Addr} {rest fs : List Value} {v : Value} (hC : CallFix p m c cc nL s args BG "BetsOnBetsModel") (hK : Kx G s) (hH : Hx G A ws s.heap H locs) (q0 : Nat) (he : ws[q0]? = some (a, .inr (11, fs))) (hv : fs[3]? = some v) (hdg : decode cc pc = .ok (.getfield 19, 3)) (kk : W p l e R s m args below meth c H locs cells slots Q (F0 m (pc + 3) ls (v :: rest))) : W p l e R s m args below meth c H locs cells slots Q (F0 m pc ls (.ref a :: rest)) := x_get hC hK hH (T := TX12) (N := 15) iB_X12 11 3 q0 rfl (by decide) wd_768 rfl he hv hdg kk
theorem gf_X12_22 {a : Addr} {rest fs : List Value} {v : Value} (hC : CallFix p m c cc nL s args BG "BetsOnBetsModel") (hK : Kx G s) (hH : Hx G A ws s.heap H locs) (q0 : Nat) (he : ws[q0]? = some (a, .inr (11, fs))) (hv : fs[5]? = some v) (hdg : decode cc pc = .ok (.getfield 22, 3)) (kk : W p l e R s m args below meth c H locs cells slots Q (F0 m (pc + 3) ls (v :: rest))) : W p l e R s m args below meth c H locs cells slots Q (F0 m pc ls (.ref a :: rest)) := x_get hC hK hH (T := TX12) (N := 15) iB_X12 11 5 q0 rfl (by decide) wd_770 rfl he hv hdg kk
theorem gf_X12_25 {a : Addr} {rest fs : List Value} {v : Value} (hC : CallFix p m c cc nL s args BG "BetsOnBetsModel") (hK : Kx G s) (hH : Hx G A ws s.heap H locs) (q0 : Nat) (he : ws[q0]? = some (a, .inr (11, fs))) (hv : fs[6]? = some v) (hdg : decode cc pc = .ok (.getfield 25, 3)) (kk : W p l e R s m args below meth c H locs cells slots Q (F0 m (pc + 3) ls (v :: rest))) : W p l e R s m args below meth c H locs cells slots Q (F0 m pc ls (.ref a :: rest)) := x_get hC hK hH (T := TX12) (N := 15) iB_X12 11 6 q0 rfl (by decide) wd_771 rfl he hv hdg kk
theorem gf_X12_28 {a : Addr} {rest fs : List Value} {v : Value} (hC : CallFix p m c cc nL s args BG "BetsOnBetsModel") (hK : Kx G s) (hH : Hx G A ws s.heap H locs) (q0 : Nat) (he : ws[q0]? = some (a, .inr (11, fs))) (hv : fs[13]? = some v) (hdg : decode cc pc = .ok (.getfield 28, 3)) (kk : W p l e R s m args below meth c H locs cells slots Q (F0 m (pc + 3) ls (v :: rest))) : W p l e R s m args below meth c H locs cells slots Q (F0 m pc ls (.ref a :: rest)) := x_get hC hK hH (T := TX12) (N := 15) iB_X12 11 13 q0 rfl (by decide) wd_778 rfl he hv hdg kk
theorem gf_X12_43 {a : Addr} {rest fs : List Value} {v : Value} (hC : CallFix p m c cc nL s args BG "BetsOnBetsModel") (hK : Kx G s) (hH : Hx G A ws s.heap H locs) (q0 : Nat) (he : ws[q0]? = some (a, .inr (11, fs))) (hv : fs[7]? = some v) (hdg : decode cc pc = .ok (.getfield 43, 3)) (kk : W p l e R s m args below meth c H locs cells slots Q (F0 m (pc + 3) ls (v :: rest))) : W p l e R s m args below meth c H locs cells slots Q (F0 m pc ls (.ref a :: rest)) := x_get hC hK hH (T := TX12) (N := 15) iB_X12 11 7 q0 rfl (by decide) wd_772 rfl he hv hdg kk
theorem gf_X12_51 {a : Addr} {rest fs : List Value} {v : Value} (hC : CallFix p m c cc nL s args BG "BetsOnBetsModel") (hK : Kx G s) (hH : Hx G A ws s.heap H locs) (q0 : Nat) (he : ws[q0]? = some (a, .inr (11, fs))) (hv : fs[8]? = some v) (hdg : decode cc pc = .ok (.getfield 51, 3)) (kk : W p l e R s m args below meth c H locs cells slots Q (F0 m (pc + 3) ls (v :: rest))) : W p l e R s m args below meth c H locs cells slots Q (F0 m pc ls (.ref a :: rest)) := x_get hC hK hH (T := TX12) (N := 15) iB_X12 11 8 q0 rfl (by decide) wd_773 rfl he hv hdg kk
theorem gf_X12_107 {a : Addr} {rest fs : List Value} {v : Value} (hC : CallFix p m c cc nL s args BG "BetsOnBetsModel") (hK : Kx G s) (hH : Hx G A ws s.heap H locs) (q0 : Nat) (he : ws[q0]? = some (a, .inr (11, fs))) (hv : fs[9]? = some v) (hdg : decode cc pc = .ok (.getfield 107, 3)) (kk : W p l e R s m args below meth c H locs cells slots Q (F0 m (pc + 3) ls (v :: rest))) : W p l e R s m args below meth c H locs cells slots Q (F0 m pc ls (.ref a :: rest)) := x_get hC hK hH (T := TX12) (N := 15) iB_X12 11 9 q0 rfl (by decide) wd_774 rfl he hv hdg kk
theorem gf_X12_110 {a : Addr} {rest fs : List Value} {v : Value} (hC : CallFix p m c cc nL s args BG "BetsOnBetsModel") (hK : Kx G s) (hH : Hx G A ws s.heap H locs) (q0 : Nat) (he : ws[q0]? = some (a, .inr (11, fs))) (hv : fs[10]? = some v) (hdg : decode cc pc = .ok (.getfield 110, 3)) (kk : W p l e R s m args below meth c H locs cells slots Q (F0 m (pc + 3) ls (v :: rest))) : W p l e R s m args below meth c H locs cells slots Q (F0 m pc ls (.ref a :: rest)) := x_get hC hK hH (T := TX12) (N := 15) iB_X12 11 10 q0 rfl (by decide) wd_775 rfl he hv hdg kk
theorem gf_X12_113 {a : Addr} {rest fs : List Value} {v : Value} (hC : CallFix p m c cc nL s args BG "BetsOnBetsModel") (hK : Kx G s) (hH : Hx G A ws s.heap H locs) (q0 : Nat) (he : ws[q0]? = some (a, .inr (11, fs))) (hv : fs[11]? = some v) (hdg : decode cc pc = .ok (.getfield 113, 3)) (kk : W p l e R s m args below meth c H locs cells slots Q (F0 m (pc + 3) ls (v :: rest))) : W p l e R s m args below meth c H locs cells slots Q (F0 m pc ls (.ref a :: rest)) := x_get hC hK hH (T := TX12) (N := 15) iB_X12 11 11 q0 rfl (by decide) wd_776 rfl he hv hdg kk
theorem gf_X12_116 {a : Addr} {rest fs : List Value} {v : Value} (hC : CallFix p m c cc nL s args BG "BetsOnBetsModel") (hK : Kx G s) (hH : Hx G A ws s.heap H locs) (q0 : Nat) (he : ws[q0]? = some (a, .inr (11, fs))) (hv : fs[12]? = some v) (hdg : decode cc pc = .ok (.getfield 116, 3)) (kk : W p l e R s m args below meth c H locs cells slots Q (F0 m (pc + 3) ls (v :: rest))) : W p l e R s m args below meth c H locs cells slots Q (F0 m pc ls (.ref a :: rest)) := x_get hC hK hH (T := TX12) (N := 15) iB_X12 11 12 q0 rfl (by decide) wd_777 rfl he hv hdg kk
theorem gf_X12_170 {a : Addr} {rest fs : List Value} {v : Value} (hC : CallFix p m c cc nL s args BG "BetsOnBetsModel") (hK : Kx G s) (hH : Hx G A ws s.heap H locs) (q0 : Nat) (he : ws[q0]? = some (a, .inr (11, fs))) (hv : fs[14]? = some v) (hdg : decode cc pc = .ok (.getfield 170, 3)) (kk : W p l e R s m args below meth c H locs cells slots Q (F0 m (pc + 3) ls (v :: rest))) : W p l e R s m args below meth c H locs cells slots Q (F0 m pc ls (.ref a :: rest)) := x_get hC hK hH (T := TX12) (N := 15) iB_X12 11 14 q0 rfl (by decide) wd_779 rfl he hv hdg kk
theorem gf_X12_179 {a : Addr} {rest fs : List Value} {v : Value} (hC : CallFix p m c cc nL s args BG "BetsOnBetsModel") (hK : Kx G s) (hH : Hx G A ws s.heap H locs) (q0 : Nat) (he : ws[q0]? = some (a, .inr (11, fs))) (hv : fs[4]? = some v) (hdg : decode cc pc = .ok (.getfield 179, 3)) (kk : W p l e R s m args below meth c H locs cells slots Q (F0 m (pc + 3) ls (v :: rest))) : W p l e R s m args below meth c H locs cells slots Q (F0 m pc ls (.ref a :: rest)) := x_get hC hK hH (T := TX12) (N := 15) iB_X12 11 4 q0 rfl (by decide) wd_769 rfl he hv hdg kk
theorem lk_X11_101 : xLS "BetsOnBets" 101 yX11_isPerson cX11_isPerson 1 (some .boolean) 1 := xLS.of wd_548 wd_452 wd_55 wd_453 (by decide +kernel)
theorem lk_X11_148 : xLS "BetsOnBets" 148 yX11_inHundredths cX11_inHundredths 5 (some .int) 2 := xLS.of wd_612 wd_613 wd_55 wd_614 (by decide +kernel)
theorem lk_X11_171 : xLS "BetsOnBets" 171 yX11_put cX11_put 3 none 3 := xLS.of wd_270 wd_130 wd_55 wd_131 (by decide +kernel)
theorem lk_X11_175 : xLS "BetsOnBets" 175 yX11_at cX11_at 2 (some .int) 2 := xLS.of wd_267 wd_268 wd_55 wd_269 (by decide +kernel)
theorem lk_X11_179 : xLS "BetsOnBets" 179 yX11_has cX11_has 2 (some .boolean) 2 := xLS.of wd_677 wd_494 wd_55 wd_495 (by decide +kernel)
theorem lk_X11_186 : xLJ "BetsOnBets" 186 yJ6_bitCount_0f7a4 cJ6_bitCount_0f7a4 1 (some .int) 1 := xLJ.of wd_722 wd_723 wd_74 wd_724 (by decide +kernel)
theorem lk_X11_193 : xLS "BetsOnBets" 193 yX11_drawBy cX11_drawBy 1 (some .int) 1 := xLS.of wd_738 wd_739 wd_55 wd_740 (by decide +kernel)
theorem lk_X11_240 : xLJ "BetsOnBets" 240 yJ9_max_7cf53 cJ9_max_7cf53 2 (some .int) 2 := xLJ.of wd_678 wd_90 wd_57 wd_91 (by decide +kernel)
theorem lk_X2_28 : xLN "BetsOnBets$Book" 28 yX11_put "BetsOnBets" cX11_put 3 none 3 := xLN.of (List.mem_of_getElem? (i := 4) rfl) wd_130 wd_55 wd_131 (by decide +kernel)
theorem lk_X2_32 : xLN "BetsOnBets$Book" 32 yX11_copy "BetsOnBets" cX11_copy 3 none 2 := xLN.of (List.mem_of_getElem? (i := 23) rfl) wd_425 wd_55 wd_426 (by decide +kernel)
theorem lk_X2_36 : xLN "BetsOnBets$Book" 36 yX11_at "BetsOnBets" cX11_at 2 (some .int) 2 := xLN.of (List.mem_of_getElem? (i := 24) rfl) wd_268 wd_55 wd_269 (by decide +kernel)
theorem lk_X2_61 : xLN "BetsOnBets$Book" 61 yX11_isPerson "BetsOnBets" cX11_isPerson 1 (some .boolean) 1 := xLN.of (List.mem_of_getElem? (i := 25) rfl) wd_452 wd_55 wd_453 (by decide +kernel)
theorem lk_X2_83 : xLN "BetsOnBets$Book" 83 yX11_has "BetsOnBets" cX11_has 2 (some .boolean) 2 := xLN.of (List.mem_of_getElem? (i := 29) rfl) wd_494 wd_55 wd_495 (by decide +kernel)
theorem lk_X8_52 : xLN "BetsOnBets$Reader" 52 yX11_put "BetsOnBets" cX11_put 3 none 3 := xLN.of (List.mem_of_getElem? (i := 22) rfl) wd_130 wd_55 wd_131 (by decide +kernel)
theorem lk_X9_13 : xLJ "BetsOnBets$Row" 13 yJ9_max_7cf53 cJ9_max_7cf53 2 (some .int) 2 := xLJ.of wd_89 wd_90 wd_57 wd_91 (by decide +kernel)
theorem lk_X9_27 : xLN "BetsOnBets$Row" 27 yX11_put "BetsOnBets" cX11_put 3 none 3 := xLN.of (List.mem_of_getElem? (i := 21) rfl) wd_130 wd_55 wd_131 (by decide +kernel)
theorem lk_X10_48 : xLN "BetsOnBets$Ways" 48 yX11_put "BetsOnBets" cX11_put 3 none 3 := xLN.of (List.mem_of_getElem? (i := 20) rfl) wd_130 wd_55 wd_131 (by decide +kernel)
theorem lk_X10_78 : xLS "BetsOnBets$Ways" 78 yX10_isSo cX10_isSo 3 (some .boolean) 3 := xLS.of wd_490 wd_491 wd_60 wd_492 (by decide +kernel)
theorem lk_X10_86 : xLN "BetsOnBets$Ways" 86 yX11_has "BetsOnBets" cX11_has 2 (some .boolean) 2 := xLN.of (List.mem_of_getElem? (i := 26) rfl) wd_494 wd_55 wd_495 (by decide +kernel)
theorem lk_X10_90 : xLN "BetsOnBets$Ways" 90 yX11_at "BetsOnBets" cX11_at 2 (some .int) 2 := xLN.of (List.mem_of_getElem? (i := 28) rfl) wd_268 wd_55 wd_269 (by decide +kernel)
theorem lk_X10_94 : xLS "BetsOnBets$Ways" 94 yX10_betBit cX10_betBit 2 (some .int) 2 := xLS.of wd_691 wd_692 wd_60 wd_693 (by decide +kernel)
theorem lk_X12_31 : xLS "BetsOnBetsModel" 31 yX12_isIn cX12_isIn 2 (some .boolean) 2 := xLS.of wd_842 wd_843 wd_68 wd_844 (by decide +kernel)
theorem lk_X12_39 : xLS "BetsOnBetsModel" 39 yX12_within cX12_within 3 (some .int) 3 := xLS.of wd_815 wd_816 wd_68 wd_817 (by decide +kernel)
theorem lk_X12_57 : xLS "BetsOnBetsModel" 57 yX12_kindOf cX12_kindOf 1 (some .int) 1 := xLS.of wd_849 wd_850 wd_68 wd_851 (by decide +kernel)
theorem lk_X12_77 : xLS "BetsOnBetsModel" 77 yX12_isPerson cX12_isPerson 1 (some .boolean) 1 := xLS.of wd_871 wd_872 wd_68 wd_873 (by decide +kernel)
theorem lk_X12_83 : xLS "BetsOnBetsModel" 83 yX12_copies cX12_copies 3 none 2 := xLS.of wd_860 wd_861 wd_68 wd_862 (by decide +kernel)
theorem lk_X12_100 : xLS "BetsOnBetsModel" 100 yX12_isSo cX12_isSo 3 (some .boolean) 3 := xLS.of wd_922 wd_923 wd_68 wd_924 (by decide +kernel)
theorem lk_X12_164 : xLS "BetsOnBetsModel" 164 yX12_bits cX12_bits 3 (some .int) 1 := xLS.of wd_1007 wd_1008 wd_68 wd_1009 (by decide +kernel)
theorem lk_J0_637 : xLJ "java/lang/String" 637 yJ1_indexOf_4cfef cJ1_indexOf_4cfef 4 (some .int) 4 := xLJ.of wd_336 wd_337 wd_70 wd_338 (by decide +kernel)
theorem lk_J0_640 : xLJ "java/lang/String" 640 yJ2_indexOf_4cfef cJ2_indexOf_4cfef 4 (some .int) 4 := xLJ.of wd_349 wd_350 wd_71 wd_351 (by decide +kernel)
theorem lk_J0_1062 : xLJ "java/lang/String" 1062 yJ3_checkFromToIndex_8c36e cJ3_checkFromToIndex_8c36e 4 (some .int) 4 := xLJ.of wd_369 wd_370 wd_72 wd_371 (by decide +kernel)
theorem lk_J1_38 : xLJ "java/lang/StringLatin1" 38 yJ9_min_7cf53 cJ9_min_7cf53 2 (some .int) 2 := xLJ.of wd_343 wd_344 wd_57 wd_345 (by decide +kernel)
theorem lk_J1_88 : xLS "java/lang/StringLatin1" 88 yJ1_canEncode_9a6ad cJ1_canEncode_9a6ad 1 (some .boolean) 1 := xLS.of wd_339 wd_340 wd_70 wd_341 (by decide +kernel)
theorem lk_J1_92 : xLJ "java/lang/StringLatin1" 92 yJ9_max_7cf53 cJ9_max_7cf53 2 (some .int) 2 := xLJ.of wd_342 wd_90 wd_57 wd_91 (by decide +kernel)
theorem lk_J1_95 : xLS "java/lang/StringLatin1" 95 yJ1_indexOfChar_4cfef cJ1_indexOfChar_4cfef 6 (some .int) 4 := xLS.of wd_346 wd_347 wd_70 wd_348 (by decide +kernel)
theorem lk_J2_48 : xLS "java/lang/StringUTF16" 48 yJ2_length_9d52b cJ2_length_9d52b 1 (some .int) 1 := xLS.of wd_361 wd_362 wd_71 wd_363 (by decide +kernel)
theorem lk_J2_71 : xLS "java/lang/StringUTF16" 71 yJ2_getChar_3b067 cJ2_getChar_3b067 2 (some .char) 2 := xLS.of wd_375 wd_376 wd_71 wd_377 (by decide +kernel)
theorem lk_J2_96 : xLS "java/lang/StringUTF16" 96 yJ2_checkBoundsBeginEnd_d044e cJ2_checkBoundsBeginEnd_d044e 3 none 3 := xLS.of wd_358 wd_359 wd_71 wd_360 (by decide +kernel)
theorem lk_J2_157 : xLJ "java/lang/StringUTF16" 157 yJ11_highSurrogate_5068e cJ11_highSurrogate_5068e 1 (some .char) 1 := xLJ.of wd_390 wd_391 wd_73 wd_392 (by decide +kernel)
theorem lk_J2_161 : xLJ "java/lang/StringUTF16" 161 yJ11_lowSurrogate_5068e cJ11_lowSurrogate_5068e 1 (some .char) 1 := xLJ.of wd_394 wd_395 wd_73 wd_396 (by decide +kernel)
theorem lk_J2_164 : xLJ "java/lang/StringUTF16" 164 yJ11_isValidCodePoint_9a6ad cJ11_isValidCodePoint_9a6ad 2 (some .boolean) 1 := xLJ.of wd_387 wd_388 wd_73 wd_389 (by decide +kernel)
theorem lk_J2_183 : xLJ "java/lang/StringUTF16" 183 yJ9_min_7cf53 cJ9_min_7cf53 2 (some .int) 2 := xLJ.of wd_353 wd_344 wd_57 wd_345 (by decide +kernel)
theorem lk_J2_224 : xLJ "java/lang/StringUTF16" 224 yJ9_max_7cf53 cJ9_max_7cf53 2 (some .int) 2 := xLJ.of wd_352 wd_90 wd_57 wd_91 (by decide +kernel)
theorem lk_J2_228 : xLS "java/lang/StringUTF16" 228 yJ2_indexOfChar_4cfef cJ2_indexOfChar_4cfef 4 (some .int) 4 := xLS.of wd_355 wd_356 wd_71 wd_357 (by decide +kernel)
theorem lk_J2_232 : xLS "java/lang/StringUTF16" 232 yJ2_indexOfSupplementary_4cfef cJ2_indexOfSupplementary_4cfef 7 (some .int) 4 := xLS.of wd_384 wd_385 wd_71 wd_386 (by decide +kernel)
theorem lk_J2_241 : xLJ "java/lang/StringUTF16" 241 yJ0_checkBoundsBeginEnd_23922 cJ0_checkBoundsBeginEnd_23922 3 none 3 := xLJ.of wd_364 wd_365 wd_69 wd_366 (by decide +kernel)
theorem lk_J2_244 : xLS "java/lang/StringUTF16" 244 yJ2_indexOfCharUnsafe_4cfef cJ2_indexOfCharUnsafe_4cfef 5 (some .int) 4 := xLS.of wd_372 wd_373 wd_71 wd_374 (by decide +kernel)
theorem lk_X11_64 : xLV "BetsOnBets" 64 "BetsOnBets" yX11_taken cX11_taken 4 (some .int) 3 := xLV.of wd_259 wd_261 wd_0 wd_55 wd_262 (by decide +kernel)
theorem lk_X11_68 : xLV "BetsOnBets" 68 "BetsOnBets$Reader" yX8_faultPlace cX8_faultPlace 2 (some .int) 0 := xLV.of wd_285 wd_286 wd_287 wd_58 wd_288 (by decide +kernel)
theorem lk_X11_72 : xLV "BetsOnBets" 72 "BetsOnBets" yX11_innTold cX11_innTold 4 (some .int) 0 := xLV.of wd_416 wd_418 wd_7 wd_55 wd_419 (by decide +kernel)
theorem lk_X11_75 : xLV "BetsOnBets" 75 "BetsOnBets$Row" yX9_clear cX9_clear 1 none 0 := xLV.of wd_517 wd_518 wd_519 wd_56 wd_520 (by decide +kernel)
theorem lk_X11_82 : xLV "BetsOnBets" 82 "BetsOnBets" yX11_refused cX11_refused 2 (some .int) 1 := xLV.of wd_263 wd_265 wd_1 wd_55 wd_266 (by decide +kernel)
theorem lk_X11_86 : xLV "BetsOnBets" 86 "BetsOnBets$Book" yX2_chanceOf cX2_chanceOf 2 (some .int) 1 := xLV.of wd_526 wd_527 wd_528 wd_59 wd_529 (by decide +kernel)
theorem lk_X11_89 : xLV "BetsOnBets" 89 "BetsOnBets$Book" yX2_hasBet cX2_hasBet 2 (some .boolean) 1 := xLV.of wd_534 wd_535 wd_536 wd_59 wd_537 (by decide +kernel)
theorem lk_X11_93 : xLV "BetsOnBets" 93 "BetsOnBets$Book" yX2_numberOf cX2_numberOf 3 (some .int) 2 := xLV.of wd_538 wd_483 wd_484 wd_59 wd_485 (by decide +kernel)
theorem lk_X11_97 : xLV "BetsOnBets" 97 "BetsOnBets$Book" yX2_change cX2_change 4 none 3 := xLV.of wd_543 wd_455 wd_456 wd_59 wd_457 (by decide +kernel)
theorem lk_X11_104 : xLV "BetsOnBets" 104 "BetsOnBets$Book" yX2_fundOf cX2_fundOf 2 (some .int) 1 := xLV.of wd_549 wd_550 wd_551 wd_59 wd_552 (by decide +kernel)
theorem lk_X11_107 : xLV "BetsOnBets" 107 "BetsOnBets$Book" yX2_changeFund cX2_changeFund 3 none 2 := xLV.of wd_553 wd_463 wd_464 wd_59 wd_465 (by decide +kernel)
theorem lk_X11_111 : xLV "BetsOnBets" 111 "BetsOnBets$Book" yX2_hasEnd cX2_hasEnd 2 (some .boolean) 1 := xLV.of wd_558 wd_559 wd_560 wd_59 wd_561 (by decide +kernel)
theorem lk_X11_114 : xLV "BetsOnBets" 114 "BetsOnBets$Ways" yX10_howMany cX10_howMany 2 (some .int) 1 := xLV.of wd_563 wd_564 wd_565 wd_60 wd_566 (by decide +kernel)
theorem lk_X11_117 : xLV "BetsOnBets" 117 "BetsOnBets$Ways" yX10_firstOf cX10_firstOf 2 (some .int) 1 := xLV.of wd_568 wd_569 wd_570 wd_60 wd_571 (by decide +kernel)
theorem lk_X11_120 : xLV "BetsOnBets" 120 "BetsOnBets$Ways" yX10_standingOf cX10_standingOf 3 (some .int) 2 := xLV.of wd_576 wd_577 wd_578 wd_60 wd_579 (by decide +kernel)
theorem lk_X11_123 : xLV "BetsOnBets" 123 "BetsOnBets" yX11_refusedFar cX11_refusedFar 2 (some .int) 1 := xLV.of wd_584 wd_586 wd_16 wd_55 wd_587 (by decide +kernel)
theorem lk_X11_126 : xLV "BetsOnBets" 126 "BetsOnBets" yX11_purseOf cX11_purseOf 7 (some .int) 3 := xLV.of wd_589 wd_591 wd_17 wd_55 wd_592 (by decide +kernel)
theorem lk_X11_130 : xLV "BetsOnBets" 130 "BetsOnBets" yX11_meanOf cX11_meanOf 7 (some .int) 2 := xLV.of wd_601 wd_603 wd_19 wd_55 wd_604 (by decide +kernel)
theorem lk_X11_134 : xLV "BetsOnBets" 134 "BetsOnBets" yX11_extreme cX11_extreme 5 (some .int) 3 := xLV.of wd_625 wd_627 wd_20 wd_55 wd_628 (by decide +kernel)
theorem lk_X11_138 : xLV "BetsOnBets" 138 "BetsOnBets" yX11_extremeEnd cX11_extremeEnd 9 (some .int) 3 := xLV.of wd_629 wd_631 wd_21 wd_55 wd_632 (by decide +kernel)
theorem lk_X11_141 : xLV "BetsOnBets" 141 "BetsOnBets$Book" yX2_ends cX2_ends 1 (some .int) 0 := xLV.of wd_605 wd_471 wd_472 wd_59 wd_473 (by decide +kernel)
theorem lk_X11_144 : xLV "BetsOnBets" 144 "BetsOnBets$Book" yX2_weightOf cX2_weightOf 6 (some .long) 1 := xLV.of wd_606 wd_607 wd_608 wd_59 wd_609 (by decide +kernel)
theorem lk_X11_152 : xLV "BetsOnBets" 152 "BetsOnBets$Ways" yX10_voidIn cX10_voidIn 2 (some .int) 1 := xLV.of wd_649 wd_650 wd_651 wd_60 wd_652 (by decide +kernel)
theorem lk_X11_155 : xLV "BetsOnBets" 155 "BetsOnBets$Book" yX2_takeFrom cX2_takeFrom 2 none 1 := xLV.of wd_420 wd_421 wd_422 wd_59 wd_423 (by decide +kernel)
theorem lk_X11_159 : xLV "BetsOnBets" 159 "BetsOnBets" yX11_worstOf cX11_worstOf 3 (some .int) 2 := xLV.of wd_657 wd_659 wd_22 wd_55 wd_660 (by decide +kernel)
theorem lk_X11_165 : xLV "BetsOnBets" 165 "BetsOnBets" yX11_mostGroups cX11_mostGroups 6 (some .int) 1 := xLV.of wd_673 wd_675 wd_23 wd_55 wd_676 (by decide +kernel)
theorem lk_X11_168 : xLV "BetsOnBets" 168 "BetsOnBets$Ways" yX10_lookedAt cX10_lookedAt 5 (some .int) 2 := xLV.of wd_687 wd_688 wd_689 wd_60 wd_690 (by decide +kernel)
theorem lk_X11_183 : xLV "BetsOnBets" 183 "BetsOnBets" yX11_firstUnlike cX11_firstUnlike 3 (some .int) 1 := xLV.of wd_717 wd_719 wd_24 wd_55 wd_720 (by decide +kernel)
theorem lk_X11_196 : xLV "BetsOnBets" 196 "BetsOnBets$Ways" yX10_find cX10_find 4 none 1 := xLV.of wd_466 wd_467 wd_468 wd_60 wd_469 (by decide +kernel)
theorem lk_X11_199 : xLV "BetsOnBets" 199 "BetsOnBets$Book" yX2_allStakes cX2_allStakes 3 (some .int) 0 := xLV.of wd_754 wd_755 wd_756 wd_59 wd_757 (by decide +kernel)
theorem lk_X11_205 : xLV "BetsOnBets" 205 "BetsOnBets$Reader" yX8_begin cX8_begin 1 none 0 := xLV.of wd_427 wd_290 wd_291 wd_58 wd_292 (by decide +kernel)
theorem lk_X11_208 : xLV "BetsOnBets" 208 "BetsOnBets$Reader" yX8_goesOn cX8_goesOn 1 (some .boolean) 0 := xLV.of wd_428 wd_307 wd_308 wd_58 wd_309 (by decide +kernel)
theorem lk_X11_215 : xLV "BetsOnBets" 215 "BetsOnBets$Reader" yX8_readStatement cX8_readStatement 2 (some .int) 0 := xLV.of wd_429 wd_294 wd_295 wd_58 wd_296 (by decide +kernel)
theorem lk_X11_221 : xLV "BetsOnBets" 221 "BetsOnBets$Book" yX2_comes cX2_comes 3 (some .boolean) 2 := xLV.of wd_430 wd_431 wd_432 wd_59 wd_433 (by decide +kernel)
theorem lk_X11_225 : xLV "BetsOnBets" 225 "BetsOnBets$Row" yX9_isFull cX9_isFull 1 (some .boolean) 0 := xLV.of wd_271 wd_272 wd_273 wd_56 wd_274 (by decide +kernel)
theorem lk_X11_228 : xLV "BetsOnBets" 228 "BetsOnBets$Row" yX9_add cX9_add 2 none 1 := xLV.of wd_275 wd_276 wd_277 wd_56 wd_278 (by decide +kernel)
theorem lk_X11_231 : xLV "BetsOnBets" 231 "BetsOnBets" yX11_bettorsGain cX11_bettorsGain 5 (some .int) 3 := xLV.of wd_593 wd_595 wd_18 wd_55 wd_596 (by decide +kernel)
theorem lk_X11_234 : xLV "BetsOnBets" 234 "BetsOnBets$Book" yX2_wholeWeight cX2_wholeWeight 4 (some .long) 0 := xLV.of wd_615 wd_616 wd_617 wd_59 wd_618 (by decide +kernel)
theorem lk_X11_245 : xLV "BetsOnBets" 245 "BetsOnBets$Row" yX9_get cX9_get 2 (some .int) 1 := xLV.of wd_721 wd_311 wd_312 wd_56 wd_313 (by decide +kernel)
theorem lk_X2_40 : xLV "BetsOnBets$Book" 40 "BetsOnBets$Book" yX2_comesHappening cX2_comesHappening 2 (some .boolean) 1 := xLV.of wd_435 wd_437 wd_8 wd_59 wd_438 (by decide +kernel)
theorem lk_X2_46 : xLV "BetsOnBets$Book" 46 "BetsOnBets$Book" yX2_comesBet cX2_comesBet 3 (some .boolean) 1 := xLV.of wd_439 wd_441 wd_9 wd_59 wd_442 (by decide +kernel)
theorem lk_X2_50 : xLV "BetsOnBets$Book" 50 "BetsOnBets$Book" yX2_comesFund cX2_comesFund 3 (some .boolean) 2 := xLV.of wd_458 wd_460 wd_12 wd_59 wd_461 (by decide +kernel)
theorem lk_X2_54 : xLV "BetsOnBets$Book" 54 "BetsOnBets$Book" yX2_isRight cX2_isRight 4 (some .boolean) 1 := xLV.of wd_443 wd_445 wd_10 wd_59 wd_446 (by decide +kernel)
theorem lk_X2_57 : xLV "BetsOnBets$Book" 57 "BetsOnBets$Book" yX2_change cX2_change 4 none 3 := xLV.of wd_454 wd_455 wd_456 wd_59 wd_457 (by decide +kernel)
theorem lk_X2_64 : xLV "BetsOnBets$Book" 64 "BetsOnBets$Book" yX2_changeFund cX2_changeFund 3 none 2 := xLV.of wd_462 wd_463 wd_464 wd_59 wd_465 (by decide +kernel)
theorem lk_X2_68 : xLV "BetsOnBets$Book" 68 "BetsOnBets$Book" yX2_isMark cX2_isMark 2 (some .boolean) 1 := xLV.of wd_447 wd_449 wd_11 wd_59 wd_450 (by decide +kernel)
theorem lk_X2_71 : xLV "BetsOnBets$Book" 71 "BetsOnBets$Book" yX2_ends cX2_ends 1 (some .int) 0 := xLV.of wd_562 wd_471 wd_472 wd_59 wd_473 (by decide +kernel)
theorem lk_X2_75 : xLV "BetsOnBets$Book" 75 "BetsOnBets$Book" yX2_numberOf cX2_numberOf 3 (some .int) 2 := xLV.of wd_758 wd_483 wd_484 wd_59 wd_485 (by decide +kernel)
theorem lk_X2_79 : xLV "BetsOnBets$Book" 79 "BetsOnBets$Book" yX2_chanceOf cX2_chanceOf 2 (some .int) 1 := xLV.of wd_610 wd_527 wd_528 wd_59 wd_529 (by decide +kernel)
theorem lk_X8_32 : xLV "BetsOnBets$Reader" 32 "BetsOnBets$Reader" yX8_begin cX8_begin 1 none 0 := xLV.of wd_289 wd_290 wd_291 wd_58 wd_292 (by decide +kernel)
theorem lk_X8_35 : xLV "BetsOnBets$Reader" 35 "BetsOnBets$Reader" yX8_readStatement cX8_readStatement 2 (some .int) 0 := xLV.of wd_293 wd_294 wd_295 wd_58 wd_296 (by decide +kernel)
theorem lk_X8_39 : xLV "BetsOnBets$Reader" 39 "BetsOnBets$Reader" yX8_goesOn cX8_goesOn 1 (some .boolean) 0 := xLV.of wd_306 wd_307 wd_308 wd_58 wd_309 (by decide +kernel)
theorem lk_X8_45 : xLV "BetsOnBets$Reader" 45 "BetsOnBets$Reader" yX8_oneOf cX8_oneOf 3 (some .int) 1 := xLV.of wd_298 wd_300 wd_2 wd_58 wd_301 (by decide +kernel)
theorem lk_X8_49 : xLV "BetsOnBets$Reader" 49 "BetsOnBets$Reader" yX8_oneOrTwoDigits cX8_oneOrTwoDigits 2 (some .int) 0 := xLV.of wd_398 wd_400 wd_4 wd_58 wd_401 (by decide +kernel)
theorem lk_X8_56 : xLV "BetsOnBets$Reader" 56 "BetsOnBets$Reader" yX8_readBet cX8_readBet 1 none 0 := xLV.of wd_404 wd_406 wd_5 wd_58 wd_407 (by decide +kernel)
theorem lk_X8_67 : xLV "BetsOnBets$Reader" 67 "BetsOnBets$Reader" yX8_readMark cX8_readMark 2 (some .int) 0 := xLV.of wd_409 wd_411 wd_6 wd_58 wd_412 (by decide +kernel)
theorem lk_X8_72 : xLV "BetsOnBets$Reader" 72 "BetsOnBets$Reader" yX8_nextIn cX8_nextIn 2 (some .int) 1 := xLV.of wd_302 wd_304 wd_3 wd_58 wd_305 (by decide +kernel)
theorem lk_X8_75 : xLV "BetsOnBets$Reader" 75 "BetsOnBets$Row" yX9_get cX9_get 2 (some .int) 1 := xLV.of wd_310 wd_311 wd_312 wd_56 wd_313 (by decide +kernel)
theorem lk_X8_79 : xLV "BetsOnBets$Reader" 79 "java/lang/String" yJ0_indexOf_0f7a4 cJ0_indexOf_0f7a4 2 (some .int) 1 := xLV.of wd_314 wd_315 wd_316 wd_69 wd_317 (by decide +kernel)
theorem lk_X9_23 : xLV "BetsOnBets$Row" 23 "BetsOnBets$Row" yX9_isFull cX9_isFull 1 (some .boolean) 0 := xLV.of wd_279 wd_272 wd_273 wd_56 wd_274 (by decide +kernel)
theorem lk_X10_52 : xLV "BetsOnBets$Ways" 52 "BetsOnBets$Book" yX2_ends cX2_ends 1 (some .int) 0 := xLV.of wd_470 wd_471 wd_472 wd_59 wd_473 (by decide +kernel)
theorem lk_X10_58 : xLV "BetsOnBets$Ways" 58 "BetsOnBets$Ways" yX10_findOf cX10_findOf 9 none 2 := xLV.of wd_474 wd_476 wd_13 wd_60 wd_477 (by decide +kernel)
theorem lk_X10_66 : xLV "BetsOnBets$Ways" 66 "BetsOnBets$Ways" yX10_isWay cX10_isWay 8 (some .boolean) 3 := xLV.of wd_478 wd_480 wd_14 wd_60 wd_481 (by decide +kernel)
theorem lk_X10_70 : xLV "BetsOnBets$Ways" 70 "BetsOnBets$Book" yX2_numberOf cX2_numberOf 3 (some .int) 2 := xLV.of wd_482 wd_483 wd_484 wd_59 wd_485 (by decide +kernel)
theorem lk_X10_74 : xLV "BetsOnBets$Ways" 74 "BetsOnBets$Ways" yX10_kindOf cX10_kindOf 2 (some (.object "BetsOnBets$Bet")) 1 := xLV.of wd_486 wd_488 wd_15 wd_60 wd_489 (by decide +kernel)
theorem lk_X10_102 : xLV "BetsOnBets$Ways" 102 "BetsOnBets$Book" yX2_hasBet cX2_hasBet 2 (some .boolean) 1 := xLV.of wd_694 wd_535 wd_536 wd_59 wd_537 (by decide +kernel)
theorem lk_L_13 : xLV "BetsOnBetsLaw" 13 "BetsOnBets" yX11_letter cX11_letter 2 (some .int) 1 := xLV.of wd_255 wd_256 wd_257 wd_55 wd_258 (by decide +kernel)
theorem lk_L_17 : xLV "BetsOnBetsLaw" 17 "BetsOnBetsModel" yX12_letter cX12_letter 3 (some .int) 1 := xLV.of wd_811 wd_812 wd_813 wd_68 wd_814 (by decide +kernel)
theorem lk_L_18 : xLV "BetsOnBetsLaw" 18 "BetsOnBets" yX11_inn cX11_inn 3 (some .int) 0 := xLV.of wd_281 wd_282 wd_283 wd_55 wd_284 (by decide +kernel)
theorem lk_L_22 : xLV "BetsOnBetsLaw" 22 "BetsOnBetsModel" yX12_inn cX12_inn 2 (some .int) 0 := xLV.of wd_822 wd_823 wd_824 wd_68 wd_825 (by decide +kernel)
theorem lk_L_23 : xLV "BetsOnBetsLaw" 23 "BetsOnBets" yX11_chance cX11_chance 2 (some .int) 1 := xLV.of wd_522 wd_523 wd_524 wd_55 wd_525 (by decide +kernel)
theorem lk_L_26 : xLV "BetsOnBetsLaw" 26 "BetsOnBetsModel" yX12_chance cX12_chance 2 (some .int) 1 := xLV.of wd_874 wd_875 wd_876 wd_68 wd_877 (by decide +kernel)
theorem lk_L_27 : xLV "BetsOnBetsLaw" 27 "BetsOnBets" yX11_bet cX11_bet 3 (some .int) 2 := xLV.of wd_530 wd_531 wd_532 wd_55 wd_533 (by decide +kernel)
theorem lk_L_31 : xLV "BetsOnBetsLaw" 31 "BetsOnBetsModel" yX12_bet cX12_bet 3 (some .int) 2 := xLV.of wd_878 wd_879 wd_880 wd_68 wd_881 (by decide +kernel)
theorem lk_L_32 : xLV "BetsOnBetsLaw" 32 "BetsOnBets" yX11_set cX11_set 7 (some .int) 3 := xLV.of wd_539 wd_540 wd_541 wd_55 wd_542 (by decide +kernel)
theorem lk_L_36 : xLV "BetsOnBetsLaw" 36 "BetsOnBetsModel" yX12_set cX12_set 6 (some .int) 3 := xLV.of wd_890 wd_891 wd_892 wd_68 wd_893 (by decide +kernel)
theorem lk_L_37 : xLV "BetsOnBetsLaw" 37 "BetsOnBets" yX11_fund cX11_fund 4 (some .int) 2 := xLV.of wd_544 wd_545 wd_546 wd_55 wd_547 (by decide +kernel)
theorem lk_L_40 : xLV "BetsOnBetsLaw" 40 "BetsOnBetsModel" yX12_fund cX12_fund 5 (some .int) 2 := xLV.of wd_894 wd_895 wd_896 wd_68 wd_897 (by decide +kernel)
theorem lk_L_41 : xLV "BetsOnBetsLaw" 41 "BetsOnBets" yX11_ways cX11_ways 3 (some .int) 2 := xLV.of wd_554 wd_555 wd_556 wd_55 wd_557 (by decide +kernel)
theorem lk_L_44 : xLV "BetsOnBetsLaw" 44 "BetsOnBetsModel" yX12_ways cX12_ways 4 (some .int) 2 := xLV.of wd_898 wd_899 wd_900 wd_68 wd_901 (by decide +kernel)
theorem lk_L_45 : xLV "BetsOnBetsLaw" 45 "BetsOnBets" yX11_standing cX11_standing 3 (some .int) 2 := xLV.of wd_572 wd_573 wd_574 wd_55 wd_575 (by decide +kernel)
theorem lk_L_48 : xLV "BetsOnBetsLaw" 48 "BetsOnBetsModel" yX12_standing cX12_standing 3 (some .int) 2 := xLV.of wd_925 wd_926 wd_927 wd_68 wd_928 (by decide +kernel)
theorem lk_L_49 : xLV "BetsOnBetsLaw" 49 "BetsOnBets" yX11_purse cX11_purse 3 (some .int) 2 := xLV.of wd_580 wd_581 wd_582 wd_55 wd_583 (by decide +kernel)
theorem lk_L_52 : xLV "BetsOnBetsLaw" 52 "BetsOnBetsModel" yX12_purse cX12_purse 3 (some .int) 2 := xLV.of wd_933 wd_934 wd_935 wd_68 wd_936 (by decide +kernel)
theorem lk_L_53 : xLV "BetsOnBetsLaw" 53 "BetsOnBets" yX11_mean cX11_mean 2 (some .int) 1 := xLV.of wd_597 wd_598 wd_599 wd_55 wd_600 (by decide +kernel)
theorem lk_L_56 : xLV "BetsOnBetsLaw" 56 "BetsOnBetsModel" yX12_mean cX12_mean 2 (some .int) 1 := xLV.of wd_942 wd_943 wd_944 wd_68 wd_945 (by decide +kernel)
theorem lk_L_57 : xLV "BetsOnBetsLaw" 57 "BetsOnBets" yX11_worst cX11_worst 3 (some .int) 2 := xLV.of wd_621 wd_622 wd_623 wd_55 wd_624 (by decide +kernel)
theorem lk_L_60 : xLV "BetsOnBetsLaw" 60 "BetsOnBetsModel" yX12_worst cX12_worst 5 (some .int) 2 := xLV.of wd_959 wd_960 wd_961 wd_68 wd_962 (by decide +kernel)
theorem lk_L_61 : xLV "BetsOnBetsLaw" 61 "BetsOnBets" yX11_best cX11_best 3 (some .int) 2 := xLV.of wd_633 wd_634 wd_635 wd_55 wd_636 (by decide +kernel)
theorem lk_L_64 : xLV "BetsOnBetsLaw" 64 "BetsOnBetsModel" yX12_best cX12_best 5 (some .int) 2 := xLV.of wd_971 wd_972 wd_973 wd_68 wd_974 (by decide +kernel)
theorem lk_L_65 : xLV "BetsOnBetsLaw" 65 "BetsOnBets" yX11_sure cX11_sure 4 (some .int) 1 := xLV.of wd_637 wd_638 wd_639 wd_55 wd_640 (by decide +kernel)
theorem lk_L_68 : xLV "BetsOnBetsLaw" 68 "BetsOnBetsModel" yX12_sure cX12_sure 2 (some .int) 1 := xLV.of wd_979 wd_980 wd_981 wd_68 wd_982 (by decide +kernel)
theorem lk_L_69 : xLV "BetsOnBetsLaw" 69 "BetsOnBets" yX11_likely cX11_likely 6 (some .int) 1 := xLV.of wd_641 wd_642 wd_643 wd_55 wd_644 (by decide +kernel)
theorem lk_L_72 : xLV "BetsOnBetsLaw" 72 "BetsOnBetsModel" yX12_likely cX12_likely 5 (some .int) 1 := xLV.of wd_983 wd_984 wd_985 wd_68 wd_986 (by decide +kernel)
theorem lk_L_73 : xLV "BetsOnBetsLaw" 73 "BetsOnBets" yX11_voids cX11_voids 4 (some .int) 0 := xLV.of wd_645 wd_646 wd_647 wd_55 wd_648 (by decide +kernel)
theorem lk_L_76 : xLV "BetsOnBetsLaw" 76 "BetsOnBetsModel" yX12_voids cX12_voids 4 (some .int) 0 := xLV.of wd_987 wd_988 wd_989 wd_68 wd_990 (by decide +kernel)
theorem lk_L_77 : xLV "BetsOnBetsLaw" 77 "BetsOnBets" yX11_sparing cX11_sparing 7 (some .int) 1 := xLV.of wd_653 wd_654 wd_655 wd_55 wd_656 (by decide +kernel)
theorem lk_L_80 : xLV "BetsOnBetsLaw" 80 "BetsOnBetsModel" yX12_sparing cX12_sparing 9 (some .int) 1 := xLV.of wd_991 wd_992 wd_993 wd_68 wd_994 (by decide +kernel)
theorem lk_L_81 : xLV "BetsOnBetsLaw" 81 "BetsOnBets" yX11_safeOdds cX11_safeOdds 4 (some .int) 1 := xLV.of wd_661 wd_662 wd_663 wd_55 wd_664 (by decide +kernel)
theorem lk_L_84 : xLV "BetsOnBetsLaw" 84 "BetsOnBetsModel" yX12_safeOdds cX12_safeOdds 6 (some .int) 1 := xLV.of wd_995 wd_996 wd_997 wd_68 wd_998 (by decide +kernel)
theorem lk_L_85 : xLV "BetsOnBetsLaw" 85 "BetsOnBets" yX11_host cX11_host 3 (some .int) 0 := xLV.of wd_665 wd_666 wd_667 wd_55 wd_668 (by decide +kernel)
theorem lk_L_88 : xLV "BetsOnBetsLaw" 88 "BetsOnBetsModel" yX12_host cX12_host 3 (some .int) 0 := xLV.of wd_999 wd_1000 wd_1001 wd_68 wd_1002 (by decide +kernel)
theorem lk_L_89 : xLV "BetsOnBetsLaw" 89 "BetsOnBets" yX11_settling cX11_settling 2 (some .int) 1 := xLV.of wd_669 wd_670 wd_671 wd_55 wd_672 (by decide +kernel)
theorem lk_L_92 : xLV "BetsOnBetsLaw" 92 "BetsOnBetsModel" yX12_settling cX12_settling 4 (some .int) 1 := xLV.of wd_1003 wd_1004 wd_1005 wd_68 wd_1006 (by decide +kernel)
theorem lk_L_93 : xLV "BetsOnBetsLaw" 93 "BetsOnBets" yX11_cannotPay cX11_cannotPay 4 (some .int) 1 := xLV.of wd_679 wd_680 wd_681 wd_55 wd_682 (by decide +kernel)
theorem lk_L_96 : xLV "BetsOnBetsLaw" 96 "BetsOnBetsModel" yX12_cannotPay cX12_cannotPay 4 (some .int) 1 := xLV.of wd_1018 wd_1019 wd_1020 wd_68 wd_1021 (by decide +kernel)
theorem lk_L_97 : xLV "BetsOnBetsLaw" 97 "BetsOnBets" yX11_rings cX11_rings 3 (some .int) 0 := xLV.of wd_683 wd_684 wd_685 wd_55 wd_686 (by decide +kernel)
theorem lk_L_100 : xLV "BetsOnBetsLaw" 100 "BetsOnBetsModel" yX12_rings cX12_rings 6 (some .int) 0 := xLV.of wd_1022 wd_1023 wd_1024 wd_68 wd_1025 (by decide +kernel)
theorem lk_L_101 : xLV "BetsOnBetsLaw" 101 "BetsOnBets" yX11_row cX11_row 2 (some .int) 1 := xLV.of wd_709 wd_710 wd_711 wd_55 wd_712 (by decide +kernel)
theorem lk_L_104 : xLV "BetsOnBetsLaw" 104 "BetsOnBetsModel" yX12_row cX12_row 3 (some .int) 1 := xLV.of wd_1030 wd_1031 wd_1032 wd_68 wd_1033 (by decide +kernel)
theorem lk_L_105 : xLV "BetsOnBetsLaw" 105 "BetsOnBets" yX11_fitting cX11_fitting 5 (some .int) 1 := xLV.of wd_713 wd_714 wd_715 wd_55 wd_716 (by decide +kernel)
theorem lk_L_108 : xLV "BetsOnBetsLaw" 108 "BetsOnBetsModel" yX12_fitting cX12_fitting 4 (some .int) 1 := xLV.of wd_1034 wd_1035 wd_1036 wd_68 wd_1037 (by decide +kernel)
theorem lk_L_109 : xLV "BetsOnBetsLaw" 109 "BetsOnBets" yX11_judge cX11_judge 3 (some .int) 1 := xLV.of wd_728 wd_729 wd_730 wd_55 wd_731 (by decide +kernel)
theorem lk_L_112 : xLV "BetsOnBetsLaw" 112 "BetsOnBetsModel" yX12_judge cX12_judge 3 (some .int) 1 := xLV.of wd_1042 wd_1043 wd_1044 wd_68 wd_1045 (by decide +kernel)
theorem lk_L_113 : xLV "BetsOnBetsLaw" 113 "BetsOnBets" yX11_seeds cX11_seeds 9 (some .int) 3 := xLV.of wd_732 wd_733 wd_734 wd_55 wd_735 (by decide +kernel)
theorem lk_L_116 : xLV "BetsOnBetsLaw" 116 "BetsOnBetsModel" yX12_seeds cX12_seeds 10 (some .int) 3 := xLV.of wd_1046 wd_1047 wd_1048 wd_68 wd_1049 (by decide +kernel)
theorem lk_L_117 : xLV "BetsOnBetsLaw" 117 "BetsOnBets" yX11_image cX11_image 1 (some .int) 0 := xLV.of wd_742 wd_743 wd_744 wd_55 wd_745 (by decide +kernel)
theorem lk_L_120 : xLV "BetsOnBetsLaw" 120 "BetsOnBetsModel" yX12_image cX12_image 1 (some .int) 0 := xLV.of wd_1053 wd_1054 wd_1055 wd_68 wd_1056 (by decide +kernel)
theorem lk_L_121 : xLV "BetsOnBetsLaw" 121 "BetsOnBets" yX11_on cX11_on 1 (some .int) 0 := xLV.of wd_746 wd_747 wd_748 wd_55 wd_749 (by decide +kernel)
theorem lk_L_124 : xLV "BetsOnBetsLaw" 124 "BetsOnBetsModel" yX12_on cX12_on 1 (some .int) 0 := xLV.of wd_1057 wd_1058 wd_1059 wd_68 wd_1060 (by decide +kernel)
theorem lk_L_125 : xLV "BetsOnBetsLaw" 125 "BetsOnBets" yX11_count cX11_count 2 (some .int) 1 := xLV.of wd_750 wd_751 wd_752 wd_55 wd_753 (by decide +kernel)
theorem lk_L_128 : xLV "BetsOnBetsLaw" 128 "BetsOnBetsModel" yX12_count cX12_count 4 (some .int) 1 := xLV.of wd_1061 wd_1062 wd_1063 wd_68 wd_1064 (by decide +kernel)
theorem lk_X12_35 : xLV "BetsOnBetsModel" 35 "BetsOnBetsModel" yX12_ends cX12_ends 1 (some .int) 0 := xLV.of wd_906 wd_908 wd_38 wd_68 wd_909 (by decide +kernel)
theorem lk_X12_47 : xLV "BetsOnBetsModel" 47 "BetsOnBetsModel" yX12_refuse cX12_refuse 2 (some .int) 1 := xLV.of wd_818 wd_820 wd_25 wd_68 wd_821 (by decide +kernel)
theorem lk_X12_54 : xLV "BetsOnBetsModel" 54 "BetsOnBetsModel" yX12_sign cX12_sign 1 (some .int) 0 := xLV.of wd_834 wd_836 wd_28 wd_68 wd_837 (by decide +kernel)
theorem lk_X12_60 : xLV "BetsOnBetsModel" 60 "BetsOnBetsModel" yX12_readsNumber cX12_readsNumber 4 (some .boolean) 2 := xLV.of wd_838 wd_840 wd_29 wd_68 wd_841 (by decide +kernel)
theorem lk_X12_63 : xLV "BetsOnBetsModel" 63 "BetsOnBetsModel" yX12_readsKind cX12_readsKind 1 (some .boolean) 0 := xLV.of wd_845 wd_847 wd_30 wd_68 wd_848 (by decide +kernel)
theorem lk_X12_67 : xLV "BetsOnBetsModel" 67 "BetsOnBetsModel" yX12_readsMark cX12_readsMark 3 (some .boolean) 1 := xLV.of wd_852 wd_854 wd_31 wd_68 wd_855 (by decide +kernel)
theorem lk_X12_71 : xLV "BetsOnBetsModel" 71 "BetsOnBetsModel" yX12_takes cX12_takes 2 (some .boolean) 1 := xLV.of wd_856 wd_858 wd_32 wd_68 wd_859 (by decide +kernel)
theorem lk_X12_74 : xLV "BetsOnBetsModel" 74 "BetsOnBetsModel" yX12_isMark cX12_isMark 2 (some .boolean) 1 := xLV.of wd_867 wd_869 wd_34 wd_68 wd_870 (by decide +kernel)
theorem lk_X12_80 : xLV "BetsOnBetsModel" 80 "BetsOnBetsModel" yX12_readsStatement cX12_readsStatement 3 (some .boolean) 0 := xLV.of wd_830 wd_832 wd_27 wd_68 wd_833 (by decide +kernel)
theorem lk_X12_87 : xLV "BetsOnBetsModel" 87 "BetsOnBetsModel" yX12_comes cX12_comes 4 (some .boolean) 1 := xLV.of wd_863 wd_865 wd_33 wd_68 wd_866 (by decide +kernel)
theorem lk_X12_90 : xLV "BetsOnBetsModel" 90 "BetsOnBetsModel" yX12_reads cX12_reads 5 (some .int) 0 := xLV.of wd_826 wd_828 wd_26 wd_68 wd_829 (by decide +kernel)
theorem lk_X12_93 : xLV "BetsOnBetsModel" 93 "BetsOnBetsModel" yX12_isBet cX12_isBet 2 (some .boolean) 1 := xLV.of wd_882 wd_884 wd_35 wd_68 wd_885 (by decide +kernel)
theorem lk_X12_96 : xLV "BetsOnBetsModel" 96 "BetsOnBetsModel" yX12_get cX12_get 3 (some .int) 2 := xLV.of wd_886 wd_888 wd_36 wd_68 wd_889 (by decide +kernel)
theorem lk_X12_104 : xLV "BetsOnBetsModel" 104 "BetsOnBetsModel" yX12_isWonBy cX12_isWonBy 6 (some .boolean) 3 := xLV.of wd_918 wd_920 wd_41 wd_68 wd_921 (by decide +kernel)
theorem lk_X12_119 : xLV "BetsOnBetsModel" 119 "BetsOnBetsModel" yX12_isWay cX12_isWay 4 (some .boolean) 2 := xLV.of wd_914 wd_916 wd_40 wd_68 wd_917 (by decide +kernel)
theorem lk_X12_122 : xLV "BetsOnBetsModel" 122 "BetsOnBetsModel" yX12_isEnd cX12_isEnd 2 (some .boolean) 1 := xLV.of wd_902 wd_904 wd_37 wd_68 wd_905 (by decide +kernel)
theorem lk_X12_125 : xLV "BetsOnBetsModel" 125 "BetsOnBetsModel" yX12_findsWays cX12_findsWays 3 none 1 := xLV.of wd_910 wd_912 wd_39 wd_68 wd_913 (by decide +kernel)
theorem lk_X12_129 : xLV "BetsOnBetsModel" 129 "BetsOnBetsModel" yX12_standingOf cX12_standingOf 2 (some .int) 1 := xLV.of wd_929 wd_931 wd_42 wd_68 wd_932 (by decide +kernel)
theorem lk_X12_132 : xLV "BetsOnBetsModel" 132 "BetsOnBetsModel" yX12_purseOf cX12_purseOf 7 (some .int) 2 := xLV.of wd_937 wd_939 wd_43 wd_68 wd_940 (by decide +kernel)
theorem lk_X12_138 : xLV "BetsOnBetsModel" 138 "BetsOnBetsModel" yX12_weightOf cX12_weightOf 5 (some .long) 1 := xLV.of wd_950 wd_952 wd_45 wd_68 wd_953 (by decide +kernel)
theorem lk_X12_142 : xLV "BetsOnBetsModel" 142 "BetsOnBetsModel" yX12_wholeWeight cX12_wholeWeight 4 (some .long) 0 := xLV.of wd_955 wd_957 wd_46 wd_68 wd_958 (by decide +kernel)
theorem lk_X12_146 : xLV "BetsOnBetsModel" 146 "BetsOnBetsModel" yX12_meanOf cX12_meanOf 5 (some .int) 1 := xLV.of wd_946 wd_948 wd_44 wd_68 wd_949 (by decide +kernel)
theorem lk_X12_149 : xLV "BetsOnBetsModel" 149 "BetsOnBetsModel" yX12_wrong cX12_wrong 3 (some .int) 2 := xLV.of wd_963 wd_965 wd_47 wd_68 wd_966 (by decide +kernel)
theorem lk_X12_152 : xLV "BetsOnBetsModel" 152 "BetsOnBetsModel" yX12_worstEnd cX12_worstEnd 4 (some .int) 1 := xLV.of wd_967 wd_969 wd_48 wd_68 wd_970 (by decide +kernel)
theorem lk_X12_155 : xLV "BetsOnBetsModel" 155 "BetsOnBetsModel" yX12_bestEnd cX12_bestEnd 4 (some .int) 1 := xLV.of wd_975 wd_977 wd_49 wd_68 wd_978 (by decide +kernel)
theorem lk_X12_158 : xLV "BetsOnBetsModel" 158 "BetsOnBetsModel" yX12_sumOf cX12_sumOf 5 (some .int) 2 := xLV.of wd_1014 wd_1016 wd_51 wd_68 wd_1017 (by decide +kernel)
theorem lk_X12_161 : xLV "BetsOnBetsModel" 161 "BetsOnBetsModel" yX12_groups cX12_groups 7 (some .int) 2 := xLV.of wd_1010 wd_1012 wd_50 wd_68 wd_1013 (by decide +kernel)
theorem lk_X12_167 : xLV "BetsOnBetsModel" 167 "BetsOnBetsModel" yX12_marked cX12_marked 4 (some .int) 1 := xLV.of wd_1026 wd_1028 wd_52 wd_68 wd_1029 (by decide +kernel)
theorem lk_X12_173 : xLV "BetsOnBetsModel" 173 "BetsOnBetsModel" yX12_wrongIn cX12_wrongIn 3 (some .int) 1 := xLV.of wd_1038 wd_1040 wd_53 wd_68 wd_1041 (by decide +kernel)
theorem lk_J0_335 : xLV "java/lang/String" 335 "java/lang/String" yJ0_coder_7d493 cJ0_coder_7d493 1 (some .byte) 0 := xLV.of wd_332 wd_333 wd_334 wd_69 wd_335 (by decide +kernel)
theorem lk_J0_492 : xLV "java/lang/String" 492 "java/lang/String" yJ0_isLatin1_aae02 cJ0_isLatin1_aae02 1 (some .boolean) 0 := xLV.of wd_322 wd_323 wd_324 wd_69 wd_325 (by decide +kernel)
theorem lk_J0_505 : xLV "java/lang/String" 505 "java/lang/String" yJ0_length_8abf5 cJ0_length_8abf5 1 (some .int) 0 := xLV.of wd_328 wd_329 wd_330 wd_69 wd_331 (by decide +kernel)
theorem lk_J0_633 : xLV "java/lang/String" 633 "java/lang/String" yJ0_indexOf_7cf53 cJ0_indexOf_7cf53 3 (some .int) 2 := xLV.of wd_318 wd_319 wd_320 wd_69 wd_321 (by decide +kernel)
theorem pf_X11_60 {a : Addr} {rest fs : List Value} {v : Value} (hC : CallFix p m c cc nL s args BG "BetsOnBets") (hK : Kx G s) (hH : Hx G A ws s.heap H locs) (q0 : Nat) (he : ws[q0]? = some (a, .inr (10, fs))) (hn : narrow .boolean v = v) (hfit : fits .boolean v = true) (hl : 10 < fs.length) (hdg : decode cc pc = .ok (.putfield 60, 3)) (hw : ws.set q0 (a, .inr (10, fs.set 10 v)) = ws') (kk : ∀ (H1 : Heap) (locs1 : List Loc), Hx G A ws' s.heap H1 locs1 → W p l e R s m args below meth c H1 locs1 cells slots Q (F0 m (pc + 3) ls rest)) : W p l e R s m args below meth c H locs cells slots Q (F0 m pc ls (v :: .ref a :: rest)) := x_put hC hK hH (T := TX11) (N := 11) iB_X11 tyX11 tyX11_ok nmX11 10 10 q0 rfl (by decide) wd_231 rfl rfl rfl he hn hfit hl hdg hw kk
theorem pf_X2_21 {a : Addr} {rest fs : List Value} {v : Value} (hC : CallFix p m c cc nL s args BG "BetsOnBets$Book") (hK : Kx G s) (hH : Hx G A ws s.heap H locs) (q0 : Nat) (he : ws[q0]? = some (a, .inr (1, fs))) (hn : narrow .int v = v) (hfit : fits .int v = true) (hl : 3 < fs.length) (hdg : decode cc pc = .ok (.putfield 21, 3)) (hw : ws.set q0 (a, .inr (1, fs.set 3 v)) = ws') (kk : ∀ (H1 : Heap) (locs1 : List Loc), Hx G A ws' s.heap H1 locs1 → W p l e R s m args below meth c H1 locs1 cells slots Q (F0 m (pc + 3) ls rest)) : W p l e R s m args below meth c H locs cells slots Q (F0 m pc ls (v :: .ref a :: rest)) := x_put hC hK hH (T := TX2) (N := 5) iB_X2 tyX2 tyX2_ok nmX2 1 3 q0 rfl (by decide) wd_135 rfl rfl rfl he hn hfit hl hdg hw kk
theorem pf_X2_25 {a : Addr} {rest fs : List Value} {v : Value} (hC : CallFix p m c cc nL s args BG "BetsOnBets$Book") (hK : Kx G s) (hH : Hx G A ws s.heap H locs) (q0 : Nat) (he : ws[q0]? = some (a, .inr (1, fs))) (hn : narrow .int v = v) (hfit : fits .int v = true) (hl : 4 < fs.length) (hdg : decode cc pc = .ok (.putfield 25, 3)) (hw : ws.set q0 (a, .inr (1, fs.set 4 v)) = ws') (kk : ∀ (H1 : Heap) (locs1 : List Loc), Hx G A ws' s.heap H1 locs1 → W p l e R s m args below meth c H1 locs1 cells slots Q (F0 m (pc + 3) ls rest)) : W p l e R s m args below meth c H locs cells slots Q (F0 m pc ls (v :: .ref a :: rest)) := x_put hC hK hH (T := TX2) (N := 5) iB_X2 tyX2 tyX2_ok nmX2 1 4 q0 rfl (by decide) wd_137 rfl rfl rfl he hn hfit hl hdg hw kk
theorem pf_X8_15 {a : Addr} {rest fs : List Value} {v : Value} (hC : CallFix p m c cc nL s args BG "BetsOnBets$Reader") (hK : Kx G s) (hH : Hx G A ws s.heap H locs) (q0 : Nat) (he : ws[q0]? = some (a, .inr (7, fs))) (hn : narrow .int v = v) (hfit : fits .int v = true) (hl : 2 < fs.length) (hdg : decode cc pc = .ok (.putfield 15, 3)) (hw : ws.set q0 (a, .inr (7, fs.set 2 v)) = ws') (kk : ∀ (H1 : Heap) (locs1 : List Loc), Hx G A ws' s.heap H1 locs1 → W p l e R s m args below meth c H1 locs1 cells slots Q (F0 m (pc + 3) ls rest)) : W p l e R s m args below meth c H locs cells slots Q (F0 m pc ls (v :: .ref a :: rest)) := x_put hC hK hH (T := TX8) (N := 4) iB_X8 tyX8 tyX8_ok nmX8 7 2 q0 rfl (by decide) wd_111 rfl rfl rfl he hn hfit hl hdg hw kk
theorem pf_X8_19 {a : Addr} {rest fs : List Value} {v : Value} (hC : CallFix p m c cc nL s args BG "BetsOnBets$Reader") (hK : Kx G s) (hH : Hx G A ws s.heap H locs) (q0 : Nat) (he : ws[q0]? = some (a, .inr (7, fs))) (hn : narrow .boolean v = v) (hfit : fits .boolean v = true) (hl : 3 < fs.length) (hdg : decode cc pc = .ok (.putfield 19, 3)) (hw : ws.set q0 (a, .inr (7, fs.set 3 v)) = ws') (kk : ∀ (H1 : Heap) (locs1 : List Loc), Hx G A ws' s.heap H1 locs1 → W p l e R s m args below meth c H1 locs1 cells slots Q (F0 m (pc + 3) ls rest)) : W p l e R s m args below meth c H locs cells slots Q (F0 m pc ls (v :: .ref a :: rest)) := x_put hC hK hH (T := TX8) (N := 4) iB_X8 tyX8 tyX8_ok nmX8 7 3 q0 rfl (by decide) wd_113 rfl rfl rfl he hn hfit hl hdg hw kk
theorem pf_X9_7 {a : Addr} {rest fs : List Value} {v : Value} (hC : CallFix p m c cc nL s args BG "BetsOnBets$Row") (hK : Kx G s) (hH : Hx G A ws s.heap H locs) (q0 : Nat) (he : ws[q0]? = some (a, .inr (8, fs))) (hn : narrow .int v = v) (hfit : fits .int v = true) (hl : 1 < fs.length) (hdg : decode cc pc = .ok (.putfield 7, 3)) (hw : ws.set q0 (a, .inr (8, fs.set 1 v)) = ws') (kk : ∀ (H1 : Heap) (locs1 : List Loc), Hx G A ws' s.heap H1 locs1 → W p l e R s m args below meth c H1 locs1 cells slots Q (F0 m (pc + 3) ls rest)) : W p l e R s m args below meth c H locs cells slots Q (F0 m pc ls (v :: .ref a :: rest)) := x_put hC hK hH (T := TX9) (N := 2) iB_X9 tyX9 tyX9_ok nmX9 8 1 q0 rfl (by decide) wd_93 rfl rfl rfl he hn hfit hl hdg hw kk
theorem pf_X12_43 {a : Addr} {rest fs : List Value} {v : Value} (hC : CallFix p m c cc nL s args BG "BetsOnBetsModel") (hK : Kx G s) (hH : Hx G A ws s.heap H locs) (q0 : Nat) (he : ws[q0]? = some (a, .inr (11, fs))) (hn : narrow .int v = v) (hfit : fits .int v = true) (hl : 7 < fs.length) (hdg : decode cc pc = .ok (.putfield 43, 3)) (hw : ws.set q0 (a, .inr (11, fs.set 7 v)) = ws') (kk : ∀ (H1 : Heap) (locs1 : List Loc), Hx G A ws' s.heap H1 locs1 → W p l e R s m args below meth c H1 locs1 cells slots Q (F0 m (pc + 3) ls rest)) : W p l e R s m args below meth c H locs cells slots Q (F0 m pc ls (v :: .ref a :: rest)) := x_put hC hK hH (T := TX12) (N := 15) iB_X12 tyX12 tyX12_ok nmX12 11 7 q0 rfl (by decide) wd_772 rfl rfl rfl he hn hfit hl hdg hw kk
theorem pf_X12_51 {a : Addr} {rest fs : List Value} {v : Value} (hC : CallFix p m c cc nL s args BG "BetsOnBetsModel") (hK : Kx G s) (hH : Hx G A ws s.heap H locs) (q0 : Nat) (he : ws[q0]? = some (a, .inr (11, fs))) (hn : narrow .int v = v) (hfit : fits .int v = true) (hl : 8 < fs.length) (hdg : decode cc pc = .ok (.putfield 51, 3)) (hw : ws.set q0 (a, .inr (11, fs.set 8 v)) = ws') (kk : ∀ (H1 : Heap) (locs1 : List Loc), Hx G A ws' s.heap H1 locs1 → W p l e R s m args below meth c H1 locs1 cells slots Q (F0 m (pc + 3) ls rest)) : W p l e R s m args below meth c H locs cells slots Q (F0 m pc ls (v :: .ref a :: rest)) := x_put hC hK hH (T := TX12) (N := 15) iB_X12 tyX12 tyX12_ok nmX12 11 8 q0 rfl (by decide) wd_773 rfl rfl rfl he hn hfit hl hdg hw kk
theorem pf_X12_107 {a : Addr} {rest fs : List Value} {v : Value} (hC : CallFix p m c cc nL s args BG "BetsOnBetsModel") (hK : Kx G s) (hH : Hx G A ws s.heap H locs) (q0 : Nat) (he : ws[q0]? = some (a, .inr (11, fs))) (hn : narrow .int v = v) (hfit : fits .int v = true) (hl : 9 < fs.length) (hdg : decode cc pc = .ok (.putfield 107, 3)) (hw : ws.set q0 (a, .inr (11, fs.set 9 v)) = ws') (kk : ∀ (H1 : Heap) (locs1 : List Loc), Hx G A ws' s.heap H1 locs1 → W p l e R s m args below meth c H1 locs1 cells slots Q (F0 m (pc + 3) ls rest)) : W p l e R s m args below meth c H locs cells slots Q (F0 m pc ls (v :: .ref a :: rest)) := x_put hC hK hH (T := TX12) (N := 15) iB_X12 tyX12 tyX12_ok nmX12 11 9 q0 rfl (by decide) wd_774 rfl rfl rfl he hn hfit hl hdg hw kk
theorem pf_X12_110 {a : Addr} {rest fs : List Value} {v : Value} (hC : CallFix p m c cc nL s args BG "BetsOnBetsModel") (hK : Kx G s) (hH : Hx G A ws s.heap H locs) (q0 : Nat) (he : ws[q0]? = some (a, .inr (11, fs))) (hn : narrow .int v = v) (hfit : fits .int v = true) (hl : 10 < fs.length) (hdg : decode cc pc = .ok (.putfield 110, 3)) (hw : ws.set q0 (a, .inr (11, fs.set 10 v)) = ws') (kk : ∀ (H1 : Heap) (locs1 : List Loc), Hx G A ws' s.heap H1 locs1 → W p l e R s m args below meth c H1 locs1 cells slots Q (F0 m (pc + 3) ls rest)) : W p l e R s m args below meth c H locs cells slots Q (F0 m pc ls (v :: .ref a :: rest)) := x_put hC hK hH (T := TX12) (N := 15) iB_X12 tyX12 tyX12_ok nmX12 11 10 q0 rfl (by decide) wd_775 rfl rfl rfl he hn hfit hl hdg hw kk
theorem pf_X12_113 {a : Addr} {rest fs : List Value} {v : Value} (hC : CallFix p m c cc nL s args BG "BetsOnBetsModel") (hK : Kx G s) (hH : Hx G A ws s.heap H locs) (q0 : Nat) (he : ws[q0]? = some (a, .inr (11, fs))) (hn : narrow .int v = v) (hfit : fits .int v = true) (hl : 11 < fs.length) (hdg : decode cc pc = .ok (.putfield 113, 3)) (hw : ws.set q0 (a, .inr (11, fs.set 11 v)) = ws') (kk : ∀ (H1 : Heap) (locs1 : List Loc), Hx G A ws' s.heap H1 locs1 → W p l e R s m args below meth c H1 locs1 cells slots Q (F0 m (pc + 3) ls rest)) : W p l e R s m args below meth c H locs cells slots Q (F0 m pc ls (v :: .ref a :: rest)) := x_put hC hK hH (T := TX12) (N := 15) iB_X12 tyX12 tyX12_ok nmX12 11 11 q0 rfl (by decide) wd_776 rfl rfl rfl he hn hfit hl hdg hw kk
theorem pf_X12_116 {a : Addr} {rest fs : List Value} {v : Value} (hC : CallFix p m c cc nL s args BG "BetsOnBetsModel") (hK : Kx G s) (hH : Hx G A ws s.heap H locs) (q0 : Nat) (he : ws[q0]? = some (a, .inr (11, fs))) (hn : narrow .int v = v) (hfit : fits .int v = true) (hl : 12 < fs.length) (hdg : decode cc pc = .ok (.putfield 116, 3)) (hw : ws.set q0 (a, .inr (11, fs.set 12 v)) = ws') (kk : ∀ (H1 : Heap) (locs1 : List Loc), Hx G A ws' s.heap H1 locs1 → W p l e R s m args below meth c H1 locs1 cells slots Q (F0 m (pc + 3) ls rest)) : W p l e R s m args below meth c H locs cells slots Q (F0 m pc ls (v :: .ref a :: rest)) := x_put hC hK hH (T := TX12) (N := 15) iB_X12 tyX12 tyX12_ok nmX12 11 12 q0 rfl (by decide) wd_777 rfl rfl rfl he hn hfit hl hdg hw kk
theorem pf_X12_170 {a : Addr} {rest fs : List Value} {v : Value} (hC : CallFix p m c cc nL s args BG "BetsOnBetsModel") (hK : Kx G s) (hH : Hx G A ws s.heap H locs) (q0 : Nat) (he : ws[q0]? = some (a, .inr (11, fs))) (hn : narrow .int v = v) (hfit : fits .int v = true) (hl : 14 < fs.length) (hdg : decode cc pc = .ok (.putfield 170, 3)) (hw : ws.set q0 (a, .inr (11, fs.set 14 v)) = ws') (kk : ∀ (H1 : Heap) (locs1 : List Loc), Hx G A ws' s.heap H1 locs1 → W p l e R s m args below meth c H1 locs1 cells slots Q (F0 m (pc + 3) ls rest)) : W p l e R s m args below meth c H locs cells slots Q (F0 m pc ls (v :: .ref a :: rest)) := x_put hC hK hH (T := TX12) (N := 15) iB_X12 tyX12 tyX12_ok nmX12 11 14 q0 rfl (by decide) wd_779 rfl rfl rfl he hn hfit hl hdg hw kk
theorem pf_X12_179 {a : Addr} {rest fs : List Value} {v : Value} (hC : CallFix p m c cc nL s args BG "BetsOnBetsModel") (hK : Kx G s) (hH : Hx G A ws s.heap H locs) (q0 : Nat) (he : ws[q0]? = some (a, .inr (11, fs))) (hn : narrow .boolean v = v) (hfit : fits .boolean v = true) (hl : 4 < fs.length) (hdg : decode cc pc = .ok (.putfield 179, 3)) (hw : ws.set q0 (a, .inr (11, fs.set 4 v)) = ws') (kk : ∀ (H1 : Heap) (locs1 : List Loc), Hx G A ws' s.heap H1 locs1 → W p l e R s m args below meth c H1 locs1 cells slots Q (F0 m (pc + 3) ls rest)) : W p l e R s m args below meth c H locs cells slots Q (F0 m pc ls (v :: .ref a :: rest)) := x_put hC hK hH (T := TX12) (N := 15) iB_X12 tyX12 tyX12_ok nmX12 11 4 q0 rfl (by decide) wd_769 rfl rfl rfl he hn hfit hl hdg hw kk
end XG
end
section
/-! the worlds -/
def WE (G : GP) (ad : Nat → Nat) (σ : Nat → Nat → Int32) : va_W := []
def WA (G : GP) (n : Nat) (ad : Nat → Nat) (σ : Nat → Nat → Int32) : va_W := [(ad 0, .inl (G.2.1.1, n, .inl (σ 0)))]
def WC2 (G : GP) (ad : Nat → Nat) (σ : Nat → Nat → Int32) : va_W := [(ad 0, .inl (G.2.1.1, 52, .inl (σ 0))), (ad 1, .inl (G.2.1.1, 52, .inl (σ 1)))]
def WD2 (G : GP) (n : Nat) (ad : Nat → Nat) (σ : Nat → Nat → Int32) : va_W := [(ad 0, .inl (G.2.1.1, n, .inl (σ 0))), (ad 1, .inl (G.2.1.1, n, .inl (σ 1)))]
def WM (G : GP) (ad : Nat → Nat) (σ : Nat → Nat → Int32) : va_W := [(ad 0, .inr (11, [.ref (ad 1), .ref (ad 2), .ref (ad 3), .ref (ad 4), .int (σ 0 4), .ref (ad 5), .ref (ad 6), .int (σ 0 7), .int (σ 0 8), .int (σ 0 9), .int (σ 0 10), .int (σ 0 11), .int (σ 0 12), .ref (ad 7), .int (σ 0 14)])), (ad 1, .inl (G.2.1.1, 7, .inl (σ 1))), (ad 2, .inl (G.2.1.1, 52, .inl (σ 2))), (ad 3, .inl (G.2.1.1, 52, .inl (σ 3))), (ad 4, .inl (G.2.1.1, 52, .inl (σ 4))), (ad 5, .inl (G.2.1.1, 80, .inl (σ 5))), (ad 6, .inl (G.2.1.1, 7, .inl (σ 6))), (ad 7, .inl (G.2.1.1, 4, .inl (σ 7)))]
def WRW (G : GP) (n : Nat) (ad : Nat → Nat) (σ : Nat → Nat → Int32) : va_W := [(ad 0, .inr (8, [.ref (ad 1), .int (σ 0 1)])), (ad 1, .inl (G.2.1.1, n, .inl (σ 1)))]
def WRD (G : GP) (ad : Nat → Nat) (σ : Nat → Nat → Int32) : va_W := [(ad 0, .inr (7, [.ref (ad 2), .ref (ad 1), .int (σ 0 2), .int (σ 0 3)])), (ad 1, .inl (G.2.1.1, 7, .inl (σ 1))), (ad 2, .inr (8, [.ref (ad 3), .int (σ 2 1)])), (ad 3, .inl (G.2.1.1, 80, .inl (σ 3)))]
def WBK (G : GP) (ad : Nat → Nat) (σ : Nat → Nat → Int32) : va_W := [(ad 0, .inr (1, [.ref (ad 1), .ref (ad 2), .ref (ad 3), .int (σ 0 3), .int (σ 0 4)])), (ad 1, .inl (G.2.1.1, 4, .inl (σ 1))), (ad 2, .inl (G.2.1.1, 42, .inl (σ 2))), (ad 3, .inl (G.2.1.1, 4, .inl (σ 3)))]
def WBB (G : GP) (ad : Nat → Nat) (σ : Nat → Nat → Int32) : va_W := [(ad 0, .inr (1, [.ref (ad 1), .ref (ad 2), .ref (ad 3), .int (σ 0 3), .int (σ 0 4)])), (ad 1, .inl (G.2.1.1, 4, .inl (σ 1))), (ad 2, .inl (G.2.1.1, 42, .inl (σ 2))), (ad 3, .inl (G.2.1.1, 4, .inl (σ 3))), (ad 4, .inr (1, [.ref (ad 5), .ref (ad 6), .ref (ad 7), .int (σ 4 3), .int (σ 4 4)])), (ad 5, .inl (G.2.1.1, 4, .inl (σ 5))), (ad 6, .inl (G.2.1.1, 42, .inl (σ 6))), (ad 7, .inl (G.2.1.1, 4, .inl (σ 7)))]
def WWY (G : GP) (ad : Nat → Nat) (σ : Nat → Nat → Int32) : va_W := [(ad 0, .inr (9, [.ref (ad 1), .ref (ad 2), .ref (ad 3), .ref (ad 4), .ref (ad 5)])), (ad 1, .inl (G.2.1.2, 6, .inr (.inr (.inr (.inr (fun j => some (ad (6 + j)))))))), (ad 2, .inl (G.2.1.1, 16, .inl (σ 2))), (ad 3, .inl (G.2.1.1, 16, .inl (σ 3))), (ad 4, .inl (G.2.1.1, 16, .inl (σ 4))), (ad 5, .inl (G.2.1.1, 16, .inl (σ 5))), (ad 6, .inr (6, [])), (ad 7, .inr (0, [])), (ad 8, .inr (2, [])), (ad 9, .inr (3, [])), (ad 10, .inr (5, [])), (ad 11, .inr (4, []))]
def WWB (G : GP) (ad : Nat → Nat) (σ : Nat → Nat → Int32) : va_W := [(ad 0, .inr (9, [.ref (ad 1), .ref (ad 2), .ref (ad 3), .ref (ad 4), .ref (ad 5)])), (ad 1, .inl (G.2.1.2, 6, .inr (.inr (.inr (.inr (fun j => some (ad (6 + j)))))))), (ad 2, .inl (G.2.1.1, 16, .inl (σ 2))), (ad 3, .inl (G.2.1.1, 16, .inl (σ 3))), (ad 4, .inl (G.2.1.1, 16, .inl (σ 4))), (ad 5, .inl (G.2.1.1, 16, .inl (σ 5))), (ad 6, .inr (6, [])), (ad 7, .inr (0, [])), (ad 8, .inr (2, [])), (ad 9, .inr (3, [])), (ad 10, .inr (5, [])), (ad 11, .inr (4, [])), (ad 12, .inr (1, [.ref (ad 13), .ref (ad 14), .ref (ad 15), .int (σ 12 3), .int (σ 12 4)])), (ad 13, .inl (G.2.1.1, 4, .inl (σ 13))), (ad 14, .inl (G.2.1.1, 42, .inl (σ 14))), (ad 15, .inl (G.2.1.1, 4, .inl (σ 15)))]
def WC (G : GP) (ad : Nat → Nat) (σ : Nat → Nat → Int32) : va_W := [(ad 0, .inr (10, [.ref (ad 1), .ref (ad 3), .ref (ad 5), .ref (ad 7), .ref (ad 11), .ref (ad 15), .ref (ad 19), .ref (ad 31), .ref (ad 32), .ref (ad 33), .int (σ 0 10)])), (ad 1, .inr (8, [.ref (ad 2), .int (σ 1 1)])), (ad 2, .inl (G.2.1.1, 80, .inl (σ 2))), (ad 3, .inr (8, [.ref (ad 4), .int (σ 3 1)])), (ad 4, .inl (G.2.1.1, 4, .inl (σ 4))), (ad 5, .inr (7, [.ref (ad 1), .ref (ad 6), .int (σ 5 2), .int (σ 5 3)])), (ad 6, .inl (G.2.1.1, 7, .inl (σ 6))), (ad 7, .inr (1, [.ref (ad 8), .ref (ad 9), .ref (ad 10), .int (σ 7 3), .int (σ 7 4)])), (ad 8, .inl (G.2.1.1, 4, .inl (σ 8))), (ad 9, .inl (G.2.1.1, 42, .inl (σ 9))), (ad 10, .inl (G.2.1.1, 4, .inl (σ 10))), (ad 11, .inr (1, [.ref (ad 12), .ref (ad 13), .ref (ad 14), .int (σ 11 3), .int (σ 11 4)])), (ad 12, .inl (G.2.1.1, 4, .inl (σ 12))), (ad 13, .inl (G.2.1.1, 42, .inl (σ 13))), (ad 14, .inl (G.2.1.1, 4, .inl (σ 14))), (ad 15, .inr (1, [.ref (ad 16), .ref (ad 17), .ref (ad 18), .int (σ 15 3), .int (σ 15 4)])), (ad 16, .inl (G.2.1.1, 4, .inl (σ 16))), (ad 17, .inl (G.2.1.1, 42, .inl (σ 17))), (ad 18, .inl (G.2.1.1, 4, .inl (σ 18))), (ad 19, .inr (9, [.ref (ad 20), .ref (ad 21), .ref (ad 22), .ref (ad 23), .ref (ad 24)])), (ad 20, .inl (G.2.1.2, 6, .inr (.inr (.inr (.inr (fun j => some (ad (25 + j)))))))), (ad 21, .inl (G.2.1.1, 16, .inl (σ 21))), (ad 22, .inl (G.2.1.1, 16, .inl (σ 22))), (ad 23, .inl (G.2.1.1, 16, .inl (σ 23))), (ad 24, .inl (G.2.1.1, 16, .inl (σ 24))), (ad 25, .inr (6, [])), (ad 26, .inr (0, [])), (ad 27, .inr (2, [])), (ad 28, .inr (3, [])), (ad 29, .inr (5, [])), (ad 30, .inr (4, [])), (ad 31, .inl (G.2.1.1, 7, .inl (σ 31))), (ad 32, .inl (G.2.1.1, 16, .inl (σ 32))), (ad 33, .inl (G.2.1.1, 6, .inl (σ 33)))]
theorem ua_self (σ : Nat → Nat → Int32) (k : Nat) : ua σ k (σ k) = σ := by
  funext j
  unfold ua
  cases h : Nat.beq j k with
  | false => rfl
  | true => rw [Nat.eq_of_beq_eq_true h]; rfl
/-! contracts whose world behind holds cells that nobody looks at: z -/
def QE (G : GP) (ov : Option Value) (wf : (Nat → Nat → Int32) → va_W) (A : Nat → Prop) : Array Value → State → Outcome → State → Prop :=
  fun _ st o t => ∃ z, o = .returned ov ∧ va_P G.1 vwCl (wf z) t.heap ∧ va_F A st t
def CTE (l : Launch) (G : GP) (y : MethodName) (b : ByteArray) (n : Nat) (ret : Option FieldType) (d : Nat) (As : List Value) (wc : va_W) (ov : Option Value) (wf : (Nat → Nat → Int32) → va_W) : Prop :=
  (∀ z, (wf z).map Prod.fst = wc.map Prod.fst) ∧ ∀ sz : Nat, Met l y (.code y b n ret :: BG) (rmx d) (PreX G As wc sz) (QE G ov wf (va_A wc sz)) 0 0 (va_A wc sz)
section XE
variable {p : Program} {l : Launch} {e : Env} {R : Room} {s : State} {m : MethodId} {args : Array Value} {below : List Frame} {meth : Method} {c : Code} {H : Heap} {locs : List Loc} {cells slots : Nat} {Q : State → Prop}
variable {cc : ByteArray} {pc : Nat} {ls : Array Slot} {G : GP} {A : Nat → Prop} {ws wc wc' ws' : va_W} {nL : Nat} {own : String} {y : MethodName} {bytes : ByteArray} {maxL : Nat} {ret : Option FieldType} {d : Nat} {As : List Value} {ov : Option Value} {wf : (Nat → Nat → Int32) → va_W}
theorem x_methE {b : ByteArray} {n : Nat} (own : String) (hown : y.cls = own) (hy : plainName y.cls = true) (hsh : ∀ z, (wf z).map Prod.fst = wc.map Prod.fst) (hlen : (lg_sl As).length ≤ n)
    (body : ∀ (p : Program) (e : Env) (s : State) (m : MethodId) (args : Array Value) (below : List Frame) (meth : Method) (c : Code) (A : Nat → Prop) (ls : Array Slot), CallFix p m c b n s args BG own → meth.sig.returnType = ret → meth.locks = false → Kx G s → Zx G A s s.heap → (∀ q, s.heap.size ≤ q → A q) → Hx G A wc s.heap s.heap [] → lv_has ls n (lv_args 0 As) →
      W p l e (rmx d) s m args below meth c s.heap [] 0 0 (MQ below (QE G ov wf A) args s 0 0 A) (F0 m 0 ls [])) : CTE l G y b n ret d As wc ov wf := by
  refine ⟨hsh, fun sz => ?_⟩
  refine Met.ofW (cc := b) (maxL := n) (ret := ret) hy rfl ?_
  intro p e s m args below meth c s₁ B hml hv
  obtain ⟨rfl, hsz, hP, hD0, hK, hZ⟩ := hv
  have hts := atoms_spec (ws := .code y b n ret :: BG) B.pre
  have hown' : s.vm.findClass own = some m.cls := by rw [← hown]; exact findClass_of_methodNamed B.named
  subst hsz
  have hD := hD0.self (sz := s.heap.size)
  rw [lg_entry_eq]
  exact body p e s m As.toArray below meth c (va_A wc s.heap.size) _ ⟨B.exec, B.bytes, hml, hown', fun w hw => hts w (List.mem_cons_of_mem _ hw)⟩ B.returns B.notSynchronized hK hZ (fun q h => Or.inr h) ⟨hP, hD, va_S.rf⟩ (lv_entry As hlen)
theorem x_runAE {H0 : Heap} {g0 : List Value} {rest : List Value} {a : Array Value} (hH : Hx G A ws H0 H locs) (hsh : ∀ z, (wf z).map Prod.fst = ws.map Prod.fst)
    (hf : ∀ q, va_A ws H.size q → A q)
    (hr : va_Run p l e R s m args below meth c H locs cells slots 0 0 (F0 m pc ls g0) rest (QE G ov wf (va_A ws H.size) a) (va_A ws H.size))
    (kk : ∀ (z : Nat → Nat → Int32) (H1 : Heap) (locs1 : List Loc), Hx G A (wf z) H0 H1 locs1 → W p l e R s m args below meth c H1 locs1 cells slots Q (F0 m (pc + 3) ls (ov.toList ++ rest))) : W p l e R s m args below meth c H locs cells slots Q (F0 m pc ls g0) := by
  intro T hT X
  obtain ⟨v, st₀, t, T', L, h0, X', hL, e1, e2, ⟨z, hv, hp, hz, hk⟩, st⟩ := hr T hT X
  have hv2 : v = ov := by injection hv
  subst hv2
  rw [h0] at hz hk
  have hS := hH.2.2
  obtain ⟨t2, a1, b1⟩ := kk z T'.heap (locs ++ L) (hx_all hH (hsh z) (by rw [e1]; exact hp)
    ⟨Nat.le_trans hS.1 (by rw [e1]; exact hz), fun q h1 h2 => by rw [e1, hk q (Nat.lt_of_lt_of_le h1 hS.1) (fun z => h2 (hf q z))]; exact hS.2.1 q h1 h2, fun q hq => by
      rcases List.mem_append.mp hq with h | h
      · exact hS.2.2 q h
      · exact hf _ (hL q h)⟩) T' rfl X'
  exact ⟨t2, st t2 a1, b1⟩
theorem x_callVAE {b : Addr} {idx n : Nat} {C : String} {rest st' : List Value} {T : u_T} {N : Nat} {fs : List Value} {wg : (Nat → Nat → Int32) → va_W} (hC : CallFix p m c cc nL s args BG own) (hK : Kx G s) (hZ : Zx G A s s.heap) (hA : ∀ q, s.heap.size ≤ q → A q) (hl : ls.size = nL) (hH : Hx G A ws s.heap H locs) (hM : CTE l G y bytes maxL ret d (.ref b :: As) ws ov wf) (lk : xLV own idx C y bytes maxL ret n) (hov : wf = wg) (q0 ci : Nat) (hc : vwCl[ci]? = some (C, T, N)) (he : ws[q0]? = some (b, .inr (ci, fs)))
    (hn : As.length = n) (hroom : d + 1 ≤ R.frames ∧ 8 + (maxL + 11) + 40 * d ≤ R.locals) (hcs : cells + 0 ≤ R.cells ∧ slots + 0 ≤ R.slots) (hrest : (rest.map fun v => v.category).sum ≤ 8) (hst : ov.toList ++ rest = st') (hdg : decode cc pc = .ok (.invokevirtual idx, 3))
    (kk : ∀ (z : Nat → Nat → Int32) (H1 : Heap) (locs1 : List Loc), Hx G A (wg z) s.heap H1 locs1 → W p l e R s m args below meth c H1 locs1 cells slots Q (F0 m (pc + 3) ls st')) : W p l e R s m args below meth c H locs cells slots Q (F0 m pc ls (As.reverse ++ .ref b :: rest)) := by
  subst hst; subst hov
  exact x_runAE hH hM.1 (x_freeA hA hH) (va_runV (As := As) (rest := rest) hC (hM.2 H.size) (cwV n hC.2.2.2.2 lk.1 rfl rfl rfl lk.2 hroom) ⟨PreX.blind, va_recv (D := G.1) hK.1 hH.1 hc he, x_preA hK hZ hA hH (.ref b :: As)⟩ rfl hn hl rfl (lv_room hrest) hdg hcs) kk
theorem x_runE {H0 : Heap} {g0 : List Value} {rest : List Value} {a : Array Value} {wg : (Nat → Nat → Int32) → va_W} (isC : List Nat) (hH : Hx G A ws H0 H locs) (hC : isC.map (fun i => ws[i]?) = wc.map some) (hsh : ∀ z, (wf z).map Prod.fst = wc.map Prod.fst) (hov : ∀ z, ovr ws isC (wf z) = wg z)
    (hf : ∀ q, va_A wc H.size q → A q)
    (hr : va_Run p l e R s m args below meth c H locs cells slots 0 0 (F0 m pc ls g0) rest (QE G ov wf (va_A wc H.size) a) (va_A wc H.size))
    (kk : ∀ (z : Nat → Nat → Int32) (H1 : Heap) (locs1 : List Loc), Hx G A (wg z) H0 H1 locs1 → W p l e R s m args below meth c H1 locs1 cells slots Q (F0 m (pc + 3) ls (ov.toList ++ rest))) : W p l e R s m args below meth c H locs cells slots Q (F0 m pc ls g0) := by
  intro T hT X
  obtain ⟨v, st₀, t, T', L, h0, X', hL, e1, e2, ⟨z, hv, hp, hz, hk⟩, st⟩ := hr T hT X
  have hv2 : v = ov := by injection hv
  subst hv2
  rw [h0] at hz hk
  have hS := hH.2.2
  obtain ⟨t2, a1, b1⟩ := kk z T'.heap (locs ++ L) (hx_ovr isC hH hC (hsh z) (hov z) (fun q h1 h2 => by rw [e1]; exact hk q h1 h2) (by rw [e1]; exact hp)
    ⟨Nat.le_trans hS.1 (by rw [e1]; exact hz), fun q h1 h2 => by rw [e1, hk q (Nat.lt_of_lt_of_le h1 hS.1) (fun z => h2 (hf q z))]; exact hS.2.1 q h1 h2, fun q hq => by
      rcases List.mem_append.mp hq with h | h
      · exact hS.2.2 q h
      · exact hf _ (hL q h)⟩) T' rfl X'
  exact ⟨t2, st t2 a1, b1⟩
theorem x_callVE {b : Addr} {idx n : Nat} {C : String} {rest st' : List Value} {T : u_T} {N : Nat} {fs : List Value} {wg : (Nat → Nat → Int32) → va_W} (hC : CallFix p m c cc nL s args BG own) (hK : Kx G s) (hZ : Zx G A s s.heap) (hA : ∀ q, s.heap.size ≤ q → A q) (hl : ls.size = nL) (hH : Hx G A ws s.heap H locs) (hM : CTE l G y bytes maxL ret d (.ref b :: As) wc ov wf) (lk : xLV own idx C y bytes maxL ret n) (isC : List Nat) (hCm : isC.map (fun i => ws[i]?) = wc.map some) (hnd : va_nd isC = true) (hov : ∀ z, ovr ws isC (wf z) = wg z) (q0 ci : Nat) (hc : vwCl[ci]? = some (C, T, N)) (he : ws[q0]? = some (b, .inr (ci, fs)))
    (hn : As.length = n) (hroom : d + 1 ≤ R.frames ∧ 8 + (maxL + 11) + 40 * d ≤ R.locals) (hcs : cells + 0 ≤ R.cells ∧ slots + 0 ≤ R.slots) (hrest : (rest.map fun v => v.category).sum ≤ 8) (hst : ov.toList ++ rest = st') (hdg : decode cc pc = .ok (.invokevirtual idx, 3))
    (kk : ∀ (z : Nat → Nat → Int32) (H1 : Heap) (locs1 : List Loc), Hx G A (wg z) s.heap H1 locs1 → W p l e R s m args below meth c H1 locs1 cells slots Q (F0 m (pc + 3) ls st')) : W p l e R s m args below meth c H locs cells slots Q (F0 m pc ls (As.reverse ++ .ref b :: rest)) := by
  subst hst
  obtain ⟨hf, hpre⟩ := x_pre isC hK hZ hA hH hCm hnd (.ref b :: As)
  exact x_runE isC hH hCm hM.1 hov hf (va_runV (As := As) (rest := rest) hC (hM.2 H.size) (cwV n hC.2.2.2.2 lk.1 rfl rfl rfl lk.2 hroom) ⟨PreX.blind, va_recv (D := G.1) hK.1 hH.1 hc he, hpre⟩ rfl hn hl rfl (lv_room hrest) hdg hcs) kk
theorem x_qe {v : Option Value} (z : Nat → Nat → Int32) (hH : Hx G A ws s.heap H locs) (hv : ov = v) (hw : wf z = ws) : ∀ t : State, t.heap = H → s.WarmedH t.vm → QE G ov wf A args s (.returned v) t := by
  subst hv; subst hw
  exact fun t ht _ => ⟨z, rfl, by rw [ht]; exact hH.1, hH.2.2.F ht⟩
theorem x_iretE {r v : Int32} (z : Nat → Nat → Int32) (hC : CallFix p m c cc nL s args BG own) (hr : meth.sig.returnType = some .int) (hk : meth.locks = false) (hH : Hx G A ws s.heap H locs) (hv : r = v) (hw : wf z = ws) (hdg : decode cc pc = .ok (.ireturn, 1)) : W p l e R s m args below meth c H locs 0 0 (MQ below (QE G (some (.int r)) wf A) args s 0 0 A) (F0 m pc ls [.int v]) :=
  W.iret hC.1 hC.2.1 hr (x_qe z hH (by rw [hv]) hw) hH.2.2.2.2 hdg hk
theorem x_zretE {r v : Int32} {ty : FieldType} (z : Nat → Nat → Int32) (hC : CallFix p m c cc nL s args BG own) (hr : meth.sig.returnType = some ty) (hk : meth.locks = false) (hH : Hx G A ws s.heap H locs) (hn : narrow ty (.int r) = .int r) (hv : r = v) (hw : wf z = ws) (hdg : decode cc pc = .ok (.ireturn, 1)) : W p l e R s m args below meth c H locs 0 0 (MQ below (QE G (some (.int r)) wf A) args s 0 0 A) (F0 m pc ls [.int v]) :=
  W.zret hC.1 hC.2.1 hr (by rw [← hv]; exact hn) (x_qe z hH (by rw [hv]) hw) hH.2.2.2.2 hdg hk
theorem x_lretE {r v : Int64} (z : Nat → Nat → Int32) (hC : CallFix p m c cc nL s args BG own) (hr : meth.sig.returnType = some .long) (hk : meth.locks = false) (hH : Hx G A ws s.heap H locs) (hv : r = v) (hw : wf z = ws) (hdg : decode cc pc = .ok (.lreturn, 1)) : W p l e R s m args below meth c H locs 0 0 (MQ below (QE G (some (.long r)) wf A) args s 0 0 A) (F0 m pc ls [.long v]) :=
  W.lret hC.1 hC.2.1 hr (x_qe z hH (by rw [hv]) hw) hH.2.2.2.2 hdg hk
theorem x_vretE (z : Nat → Nat → Int32) (hC : CallFix p m c cc nL s args BG own) (hr : meth.sig.returnType = none) (hk : meth.locks = false) (hH : Hx G A ws s.heap H locs) (hw : wf z = ws) (hdg : decode cc pc = .ok (.return_, 1)) : W p l e R s m args below meth c H locs 0 0 (MQ below (QE G none wf A) args s 0 0 A) (F0 m pc ls []) :=
  W.vret hC.1 hC.2.1 hr (x_qe z hH rfl hw) hH.2.2.2.2 hdg hk
theorem x_topE {x y : Int32} {rest : List Value} (h : x = y) (k : W p l e R s m args below meth c H locs cells slots Q (F0 m pc ls (.int y :: rest))) : W p l e R s m args below meth c H locs cells slots Q (F0 m pc ls (.int x :: rest)) := by rw [h]; exact k
theorem x_topL {x y : Int64} {rest : List Value} (h : x = y) (k : W p l e R s m args below meth c H locs cells slots Q (F0 m pc ls (.long y :: rest))) : W p l e R s m args below meth c H locs cells slots Q (F0 m pc ls (.long x :: rest)) := by rw [h]; exact k
theorem x_aalN {a q : Addr} {rest : List Value} {n : Nat} {f : Nat → Option Nat} {i : Int32} (hC : CallFix p m c cc nL s args BG own) (hK : Kx G s) (hH : Hx G A ws s.heap H locs) (q0 j : Nat) (ha : ws[q0]? = some (a, .inl (G.2.1.2, n, .inr (.inr (.inr (.inr f)))))) (hi : i = nI j) (hj : j < n) (hn : n < 1000) (hf : f j = some q) (hdg : decode cc pc = .ok (.aaload, 1))
    (kk : W p l e R s m args below meth c H locs cells slots Q (F0 m (pc + 1) ls (.ref q :: rest))) : W p l e R s m args below meth c H locs cells slots Q (F0 m pc ls (.int i :: .ref a :: rest)) := by
  subst hi
  refine va_aldq hC.1 hC.2.1 hK.1 hH.1 q0 1 ha (C := "BetsOnBets$Bet") rfl (vp_in_nI hj (by omega)) hdg ?_
  rw [nI_clamp (by omega), hf]
  exact kk
theorem x_alenq {a : Addr} {rest : List Value} {n : Nat} {f : Nat → Option Nat} (hC : CallFix p m c cc nL s args BG own) (hK : Kx G s) (hH : Hx G A ws s.heap H locs) (q0 : Nat) (ha : ws[q0]? = some (a, .inl (G.2.1.2, n, .inr (.inr (.inr (.inr f)))))) {v : Int32} (hv : Int32.ofNat n = v) (hdg : decode cc pc = .ok (.arraylength, 1))
    (kk : W p l e R s m args below meth c H locs cells slots Q (F0 m (pc + 1) ls (.int v :: rest))) : W p l e R s m args below meth c H locs cells slots Q (F0 m pc ls (.ref a :: rest)) :=
  va_alen hC.1 hC.2.1 hK.1 hH.1 q0 1 ha (ty := .object "BetsOnBets$Bet") rfl hv hdg kk
/-- ways that meet -/
theorem x_meet1 {H0 : Heap} {g : JFrame} (ws : va_W) (lv : List (Nat × Value)) (pc1 : Nat) (st : List Value)
    (h1 : ∀ (H : Heap) (locs : List Loc) (ls : Array Slot), Hx G A ws H0 H locs → lv_has ls nL lv → W p l e R s m args below meth c H locs cells slots Q (F0 m pc1 ls st))
    (h2 : (∀ (H : Heap) (locs : List Loc) (ls : Array Slot), Hx G A ws H0 H locs → lv_has ls nL lv → W p l e R s m args below meth c H locs cells slots Q (F0 m pc1 ls st)) → W p l e R s m args below meth c H locs cells slots Q g) : W p l e R s m args below meth c H locs cells slots Q g := h2 h1
/-- a row of ints is what it holds within its length -/
theorem hx_arr {a : Addr} {n : Nat} {f g : Nat → Int32} {cA : ClassId} {H0 : Heap} (q0 : Nat) (hH : Hx G A ws H0 H locs) (ha : ws[q0]? = some (a, .inl (cA, n, .inl f))) (hfg : ∀ j, j < n → f j = g j) (hw : ws.set q0 (a, .inl (cA, n, .inl g)) = ws') : Hx G A ws' H0 H locs := by
  subst hw
  refine ⟨hH.1.set hH.2.1 ha ?_ (fun _ _ => rfl), hH.2.1.set ha, hH.2.2⟩
  have h1 := hH.1 q0 _ ha
  show H[a]? = some (vp_cell cA (n, .inl g))
  have h2 : H[a]? = some (vp_cell cA (n, .inl f)) := h1
  rw [h2]
  rw [vp_cell_i, vp_cell_i]
  have e : (fun j : Fin n => Value.int (f j.val)) = (fun j : Fin n => Value.int (g j.val)) := by
    funext j
    rw [hfg j.val j.isLt]
  unfold arrV
  exact congrArg (fun (z : Fin n → Value) => some ({ cls := cA, slots := Array.ofFn (n := n) z, vm := .none } : Cell)) e
end XE
end
section
/-! the reference: small methods -/
def withinF (v a b : Int32) : Int32 := if v < a then -4 else if b < v then -6 else 0
theorem withinF_cases (v a b : Int32) : (v < a ∧ withinF v a b = -4) ∨ (¬ v < a ∧ b < v ∧ withinF v a b = -6) ∨ (¬ v < a ∧ ¬ b < v ∧ withinF v a b = 0) := by
  unfold withinF
  by_cases h : v < a
  · exact Or.inl ⟨h, if_pos h⟩
  · by_cases h2 : b < v
    · exact Or.inr (Or.inl ⟨h, h2, by rw [if_neg h, if_pos h2]⟩)
    · exact Or.inr (Or.inr ⟨h, h2, by rw [if_neg h, if_neg h2]⟩)
def cpyF (f g : Nat → Int32) (n : Nat) : Nat → Int32 := fun j => if j < n then f j else g j
theorem cpyF_0 (f g : Nat → Int32) : cpyF f g 0 = g := by funext j; simp [cpyF]
theorem cpyF_s (f g : Nat → Int32) (n : Nat) : upd (cpyF f g n) n (f n) = cpyF f g (n + 1) := by
  funext j
  unfold upd cpyF
  by_cases h : j = n
  · subst h; simp
  · by_cases h2 : j < n
    · rw [if_neg h, if_pos h2, if_pos (by omega)]
    · rw [if_neg h, if_neg h2, if_neg (by omega)]
theorem cpyF_in (f g : Nat → Int32) {n j : Nat} (h : j < n) : cpyF f g n j = f j := if_pos h
def popc : Nat → Nat → Nat
  | 0, _ => 0
  | k + 1, v => v % 2 + popc k (v / 2)
theorem nI_gt0 {v : Nat} (h : v < 2 ^ 31) : (0 : Int32) < nI v ↔ 0 < v := nI_ltI (a := 0) (by omega) h
/-- an index within a number of things -/
theorem inb_of {v : Int32} {k : Nat} (hk : k < 2 ^ 31) (h : 0 ≤ v ∧ v < nI k) : ∃ j, j < k ∧ v = nI j := by
  obtain ⟨h1, h2⟩ := h
  obtain ⟨j, hj, rfl⟩ := nI_of (x := v) (by rw [Int32.not_lt]; exact h1)
  exact ⟨j, (nI_ltI hj hk).mp h2, rfl⟩
theorem lp_in {i n : Nat} {b : Int32} (hb : b = nI n) (hn : n < 2 ^ 31) (hi : i < 2 ^ 31) (h : ¬ b ≤ nI i) : i < n := by
  subst hb
  exact Nat.not_le.mp (fun q => h ((nI_leI hn hi).mpr q))
theorem lp_out {i n : Nat} {b : Int32} (hb : b = nI n) (hn : n < 2 ^ 31) (hi : i < 2 ^ 31) (h : b ≤ nI i) : n ≤ i := by
  subst hb
  exact (nI_leI hn hi).mp h
theorem popc_0 : ∀ k, popc k 0 = 0 := by
  intro k
  induction k with
  | zero => rfl
  | succ k ih => simp [popc, ih]
theorem pow_pr {t : Nat} (h : t ≠ 0) : 2 ^ t = 2 * 2 ^ (t - 1) := by
  obtain ⟨k, rfl⟩ : ∃ k, t = k + 1 := ⟨t - 1, by omega⟩
  rw [Nat.pow_succ, Nat.add_sub_cancel, Nat.mul_comm]
theorem popc_pr {t v : Nat} (h : t ≠ 0) : popc t v = v % 2 + popc (t - 1) (v / 2) := by
  obtain ⟨k, rfl⟩ : ∃ k, t = k + 1 := ⟨t - 1, by omega⟩
  rfl
def rfz (ρ : Nat → Int32) (c : Nat) : Nat → Int32 := if c = 0 then ρ else upd ρ c (ρ c + 1)
theorem nI_and1 {v : Nat} (h : v < 2 ^ 31) : nI v &&& 1 = nI (v % 2) := pk_andN (by omega) 1 rfl
theorem nI_shr1 {v : Nat} (h : v < 2 ^ 31) : nI v >>> ((1 : Int32) &&& 31) = nI (v / 2) := pk_shrN h _ 1 (by decide)
set_option maxHeartbeats 4000000 in
set_option maxRecDepth 100000 in
theorem k_X12_isIn (l : Launch) (G : GP) (ad : Nat → Nat) (σ : Nat → Nat → Int32) (v : Int32) (n : Int32) : CT l G yX12_isIn cX12_isIn 2 (some .boolean) 0 [.int v, .int n] (WE G ad σ) (some (.int (bI (0 ≤ v ∧ v < n)))) (WE G ad σ) := by
  refine x_meth "BetsOnBetsModel" rfl (by decide +kernel) (by rfl) (Nat.le_of_ble_eq_true rfl) ?_
  intro pP eE sS mM args below meth cC A ls hC hr hk hK hZ hA hH hl
  have hx := hC.1
  have hb := hC.2.1
  have hl : lv_has ls 2 [(0, .int v), (1, .int n)] := hl
  refine lv_iload_n hx hb dX12_isIn_0 rfl (lv_at hl 0 rfl) ?_
  refine lv_if_lt (tgt := 13) hx hb dX12_isIn_1 (by decide) (fun c1 => ?_) (fun c1 => ?_)
  · refine lv_iconst (v := 0) hx hb dX12_isIn_13 (by decide) ?_
    exact x_zret hC hr hk hH nar_bI (bI_f (by first | exact fun h => absurd h.1 (Int32.not_le.mpr c1) | exact fun h => absurd h.2 (Int32.not_lt.mpr c6))) rfl dX12_isIn_14
  · refine lv_iload_n hx hb dX12_isIn_4 rfl (lv_at hl 0 rfl) ?_
    refine lv_iload_n hx hb dX12_isIn_5 rfl (lv_at hl 1 rfl) ?_
    refine lv_icmp_ge (tgt := 13) hx hb dX12_isIn_6 (by decide) (fun c6 => ?_) (fun c6 => ?_)
    · refine lv_iconst (v := 0) hx hb dX12_isIn_13 (by decide) ?_
      exact x_zret hC hr hk hH nar_bI (bI_f (by first | exact fun h => absurd h.1 (Int32.not_le.mpr c1) | exact fun h => absurd h.2 (Int32.not_lt.mpr c6))) rfl dX12_isIn_14
    · refine lv_iconst (v := 1) hx hb dX12_isIn_9 (by decide) ?_
      refine lv_goto (tgt := 14) hx hb dX12_isIn_10 (by decide) ?_
      exact x_zret hC hr hk hH nar_bI (bI_t (by exact ⟨Int32.not_lt.mp c1, Int32.not_le.mp c6⟩)) rfl dX12_isIn_14
set_option maxHeartbeats 4000000 in
set_option maxRecDepth 100000 in
theorem k_X12_within (l : Launch) (G : GP) (ad : Nat → Nat) (σ : Nat → Nat → Int32) (v : Int32) (a : Int32) (b : Int32) : CT l G yX12_within cX12_within 3 (some .int) 0 [.int v, .int a, .int b] (WE G ad σ) (some (.int (withinF v a b))) (WE G ad σ) := by
  refine x_meth "BetsOnBetsModel" rfl (by decide +kernel) (by rfl) (Nat.le_of_ble_eq_true rfl) ?_
  intro pP eE sS mM args below meth cC A ls hC hr hk hK hZ hA hH hl
  have hx := hC.1
  have hb := hC.2.1
  have hl : lv_has ls 3 [(0, .int v), (1, .int a), (2, .int b)] := hl
  refine lv_iload_n hx hb dX12_within_0 rfl (lv_at hl 0 rfl) ?_
  refine lv_iload_n hx hb dX12_within_1 rfl (lv_at hl 1 rfl) ?_
  refine lv_icmp_ge (tgt := 10) hx hb dX12_within_2 (by decide) (fun c2 => ?_) (fun c2 => ?_)
  · refine lv_iload_n hx hb dX12_within_10 rfl (lv_at hl 0 rfl) ?_
    refine lv_iload_n hx hb dX12_within_11 rfl (lv_at hl 2 rfl) ?_
    refine lv_icmp_le (tgt := 20) hx hb dX12_within_12 (by decide) (fun c12 => ?_) (fun c12 => ?_)
    · refine lv_iconst (v := 0) hx hb dX12_within_20 (by decide) ?_
      exact x_iret hC hr hk hH (by first | (rw [withinF, if_pos (Int32.not_le.mp c2)]; done) | (rw [withinF, if_neg (Int32.not_lt.mpr c2), if_pos (Int32.not_le.mp c12)]; done) | (rw [withinF, if_neg (Int32.not_lt.mpr c2), if_neg (Int32.not_lt.mpr c12)]; done)) rfl dX12_within_21
    · refine lv_bipush (v := (-6)) hx hb dX12_within_15 (by decide) ?_
      refine lv_goto (tgt := 21) hx hb dX12_within_17 (by decide) ?_
      exact x_iret hC hr hk hH (by first | (rw [withinF, if_pos (Int32.not_le.mp c2)]; done) | (rw [withinF, if_neg (Int32.not_lt.mpr c2), if_pos (Int32.not_le.mp c12)]; done) | (rw [withinF, if_neg (Int32.not_lt.mpr c2), if_neg (Int32.not_lt.mpr c12)]; done)) rfl dX12_within_21
  · refine lv_bipush (v := (-4)) hx hb dX12_within_5 (by decide) ?_
    refine lv_goto (tgt := 21) hx hb dX12_within_7 (by decide) ?_
    exact x_iret hC hr hk hH (by first | (rw [withinF, if_pos (Int32.not_le.mp c2)]; done) | (rw [withinF, if_neg (Int32.not_lt.mpr c2), if_pos (Int32.not_le.mp c12)]; done) | (rw [withinF, if_neg (Int32.not_lt.mpr c2), if_neg (Int32.not_lt.mpr c12)]; done)) rfl dX12_within_21
set_option maxHeartbeats 4000000 in
set_option maxRecDepth 100000 in
theorem k_X12_isPerson (l : Launch) (G : GP) (ad : Nat → Nat) (σ : Nat → Nat → Int32) (p : Int32) : CT l G yX12_isPerson cX12_isPerson 1 (some .boolean) 1 [.int p] (WE G ad σ) (some (.int (bI (0 ≤ p ∧ p < 4)))) (WE G ad σ) := by
  refine x_meth "BetsOnBetsModel" rfl (by decide +kernel) (by rfl) (Nat.le_of_ble_eq_true rfl) ?_
  intro pP eE sS mM args below meth cC A ls hC hr hk hK hZ hA hH hl
  have hx := hC.1
  have hb := hC.2.1
  have hl : lv_has ls 1 [(0, .int p)] := hl
  refine lv_iload_n hx hb dX12_isPerson_0 rfl (lv_at hl 0 rfl) ?_
  refine lv_iconst (v := 4) hx hb dX12_isPerson_1 (by decide) ?_
  refine x_callS (ws' := WE G ad σ) (As := [.int p, .int 4]) (rest := []) (st' := [.int (bI (0 ≤ p ∧ p < 4))]) hC hK hZ hA hl.1 hH (k_X12_isIn l G (pk ad []) (pk σ []) p 4) lk_X12_31 [] rfl rfl rfl rfl ⟨Nat.le_of_ble_eq_true rfl, Nat.le_of_ble_eq_true rfl⟩ ⟨Nat.le_refl _, Nat.le_refl _⟩ (Nat.le_of_ble_eq_true rfl) rfl dX12_isPerson_2 (fun H locs hH => ?_)
  exact x_zret hC hr hk hH nar_bI rfl rfl dX12_isPerson_5
set_option maxHeartbeats 4000000 in
set_option maxRecDepth 100000 in
theorem k_X12_copies (l : Launch) (G : GP) (ad : Nat → Nat) (σ : Nat → Nat → Int32) : CT l G yX12_copies cX12_copies 3 none 0 [.ref (ad 0), .ref (ad 1)] (WC2 G ad σ) none (WC2 G ad (ua σ 1 (σ 0))) := by
  refine x_meth "BetsOnBetsModel" rfl (by decide +kernel) (by rfl) (Nat.le_of_ble_eq_true rfl) ?_
  intro pP eE sS mM args below meth cC A ls hC hr hk hK hZ hA hH hl
  have hx := hC.1
  have hb := hC.2.1
  have hl : lv_has ls 3 [(0, .ref (ad 0)), (1, .ref (ad 1))] := hl
  refine lv_iconst (v := 0) hx hb dX12_copies_0 (by decide) ?_
  refine lv_istore_n (lv' := [(2, .int 0), (0, .ref (ad 0)), (1, .ref (ad 1))]) hx hb dX12_copies_1 rfl hl (by decide) rfl (fun ls hl => ?_)
  refine x_loop (G := G) (A := A) (H0 := sS.heap) (nL := 3) (α := Nat) (fun q_ => 52 - q_) (fun q_ => q_ ≤ 52) (fun q_ => WC2 G ad (ua σ 1 (cpyF (σ 0) (σ 1) q_))) (fun q_ => [(0, .ref (ad 0)), (1, .ref (ad 1)), (2, .int (nI q_))]) ?_ 0 (by omega) ?_ ?_
  · rintro k hi_k ih_k H locs ls hH hl
    replace hi_k : k ≤ 52 := hi_k
    replace hH : Hx G A (WC2 G ad (ua σ 1 (cpyF (σ 0) (σ 1) k))) sS.heap H locs := hH
    replace hl : lv_has ls 3 [(0, .ref (ad 0)), (1, .ref (ad 1)), (2, .int (nI k))] := hl
    refine lv_iload_n hx hb dX12_copies_2 rfl (lv_at hl 2 rfl) ?_
    refine lv_bipush (v := 52) hx hb dX12_copies_3 (by decide) ?_
    refine lv_icmp_ge (tgt := 20) hx hb dX12_copies_5 (by decide) (fun c5 => ?_) (fun c5 => ?_)
    · have ge_k := lp_out (n := 52) rfl (by omega) (by omega) c5
      have eq_k : k = 52 := by omega
      subst eq_k
      have hH : Hx G A (WC2 G ad (ua σ 1 (σ 0))) sS.heap H locs := hx_arr 1 hH rfl (fun j hj => cpyF_in _ _ hj) rfl
      exact x_vret hC hr hk hH rfl dX12_copies_20
    · have lt_k := lp_in (n := 52) rfl (by omega) (by omega) c5
      refine lv_aload_n hx hb dX12_copies_8 rfl (lv_at hl 1 rfl) ?_
      refine lv_iload_n hx hb dX12_copies_9 rfl (lv_at hl 2 rfl) ?_
      refine lv_aload_n hx hb dX12_copies_10 rfl (lv_at hl 0 rfl) ?_
      refine lv_iload_n hx hb dX12_copies_11 rfl (lv_at hl 2 rfl) ?_
      refine x_ialN hC hK hH 0 k rfl rfl (by omega) (Nat.le_of_ble_eq_true rfl) dX12_copies_12 ?_
      refine x_iasN (ws' := WC2 G ad (ua σ 1 (upd (cpyF (σ 0) (σ 1) k) k ((σ 0) k)))) hC hK hH 1 k rfl rfl (by omega) (Nat.le_of_ble_eq_true rfl) dX12_copies_13 rfl (fun H locs hH => ?_)
      refine lv_iinc (v := ((nI k) + 1)) (lv' := [(2, .int ((nI k) + 1)), (0, .ref (ad 0)), (1, .ref (ad 1))]) hx hb dX12_copies_14 hl (k := 2) rfl rfl (by decide) rfl (fun ls hl => ?_)
      refine lv_goto (tgt := 2) hx hb dX12_copies_17 (by decide) ?_
      exact ih_k (k + 1) (show (k + 1) ≤ 52 from (by omega)) (show 52 - (k + 1) < 52 - k from (by omega)) _ _ _ (hH.eq (congrArg (fun z_ : Nat → Int32 => WC2 G ad (ua σ 1 z_)) (by first | rfl | exact cpyF_s _ _ _ : (upd (cpyF (σ 0) (σ 1) k) k ((σ 0) k)) = (cpyF (σ 0) (σ 1) (k + 1))))) (lv_eq (lv_sub hl [1, 2, 0] rfl) (lc_s (lc_s (lc_i (by first | rfl | exact nI_1 _ : ((nI k) + 1) = (nI (k + 1))) rfl))))
  · exact hH.eq (Eq.trans (show WC2 G ad σ = WC2 G ad (ua σ 1 (σ 1)) from by simp only [ua_self]) (congrArg (fun z_ : Nat → Int32 => WC2 G ad (ua σ 1 z_)) (by exact (cpyF_0 _ _).symm : (σ 1) = (cpyF (σ 0) (σ 1) 0))))
  · exact lv_eq (lv_sub hl [1, 2, 0] rfl) (lc_s (lc_s (lc_i (by first | rfl | exact nI_1 _ : 0 = (nI 0)) rfl)))
set_option maxHeartbeats 4000000 in
set_option maxRecDepth 100000 in
theorem k_X12_bits (l : Launch) (G : GP) (ad : Nat → Nat) (σ : Nat → Nat → Int32) (v0 : Int32) (q : Nat) (hv : v0 = nI q) (hq : q < 65536) : CT l G yX12_bits cX12_bits 3 (some .int) 0 [.int v0] (WE G ad σ) (some (.int (nI (popc 16 q)))) (WE G ad σ) := by
  refine x_meth "BetsOnBetsModel" rfl (by decide +kernel) (by rfl) (Nat.le_of_ble_eq_true rfl) ?_
  intro pP eE sS mM args below meth cC A ls hC hr hk hK hZ hA hH hl
  have hx := hC.1
  have hb := hC.2.1
  have hl : lv_has ls 3 [(0, .int v0)] := hl
  refine lv_iconst (v := 0) hx hb dX12_bits_0 (by decide) ?_
  refine lv_istore_n (lv' := [(1, .int 0), (0, .int v0)]) hx hb dX12_bits_1 rfl hl (by decide) rfl (fun ls hl => ?_)
  refine lv_iload_n hx hb dX12_bits_2 rfl (lv_at hl 1 rfl) ?_
  refine lv_istore_n (lv' := [(2, .int v0), (1, .int 0), (0, .int v0)]) hx hb dX12_bits_3 rfl hl (by decide) rfl (fun ls hl => ?_)
  refine x_loop (G := G) (A := A) (H0 := sS.heap) (nL := 3) (α := Nat × Nat × Nat) (fun q_ => q_.1) (fun q_ => q_.1 < 2 ^ q_.2.2 ∧ q_.2.1 + popc q_.2.2 q_.1 = popc 16 q ∧ q_.2.2 ≤ 16) (fun q_ => WE G ad σ) (fun q_ => [(1, .int (nI q_.2.1)), (2, .int (nI q_.1))]) ?_ (q, 0, 16) ⟨hq, by simp⟩ ?_ ?_
  · rintro ⟨v, n, t⟩ hi_v ih_v H locs ls hH hl
    replace hi_v : v < 2 ^ t ∧ n + popc t v = popc 16 q ∧ t ≤ 16 := hi_v
    replace hH : Hx G A (WE G ad σ) sS.heap H locs := hH
    replace hl : lv_has ls 3 [(1, .int (nI n)), (2, .int (nI v))] := hl
    have v16 : v < 2 ^ 16 := Nat.lt_of_lt_of_le hi_v.1 (Nat.pow_le_pow_right (by omega) hi_v.2.2)
    refine lv_iload_n hx hb dX12_bits_4 rfl (lv_at hl 1 rfl) ?_
    refine lv_if_le (tgt := 21) hx hb dX12_bits_5 (by decide) (fun c5 => ?_) (fun c5 => ?_)
    · refine lv_iload_n hx hb dX12_bits_21 rfl (lv_at hl 0 rfl) ?_
      exact x_iret hC hr hk hH (by have v0 : ¬ 0 < v := (fun z => absurd ((nI_gt0 (by omega)).mpr z) (Int32.not_lt.mpr c5)); have v00 : v = 0 := (by omega); have h2 := hi_v.2.1; rw [v00, popc_0] at h2; rw [← h2, Nat.add_zero]) rfl dX12_bits_22
    · refine lv_iload_n hx hb dX12_bits_8 rfl (lv_at hl 0 rfl) ?_
      refine lv_iload_n hx hb dX12_bits_9 rfl (lv_at hl 1 rfl) ?_
      refine lv_iconst (v := 1) hx hb dX12_bits_10 (by decide) ?_
      refine lv_iand hx hb dX12_bits_11 ?_
      refine lv_iadd hx hb dX12_bits_12 ?_
      refine lv_istore_n (lv' := [(1, .int ((nI n) + ((nI v) &&& 1))), (2, .int (nI v))]) hx hb dX12_bits_13 rfl hl (by decide) rfl (fun ls hl => ?_)
      refine lv_iload_n hx hb dX12_bits_14 rfl (lv_at hl 1 rfl) ?_
      refine lv_iconst (v := 1) hx hb dX12_bits_15 (by decide) ?_
      refine lv_ishr hx hb dX12_bits_16 ?_
      refine lv_istore_n (lv' := [(2, .int ((nI v) >>> (1 &&& 31))), (1, .int ((nI n) + ((nI v) &&& 1)))]) hx hb dX12_bits_17 rfl hl (by decide) rfl (fun ls hl => ?_)
      refine lv_goto (tgt := 4) hx hb dX12_bits_18 (by decide) ?_
      have v0 : 0 < v := (nI_gt0 (by omega)).mp (Int32.not_le.mp c5)
      have t0 : t ≠ 0 := (fun e => by have := hi_v.1; rw [e] at this; omega)
      exact ih_v ((v / 2), (n + v % 2), (t - 1)) (show (v / 2) < 2 ^ (t - 1) ∧ (n + v % 2) + popc (t - 1) (v / 2) = popc 16 q ∧ (t - 1) ≤ 16 from ⟨by have := hi_v.1; rw [pow_pr t0] at this; omega, by have := hi_v.2.1; rw [popc_pr t0] at this; omega, by omega⟩) (show (v / 2) < v from (by omega)) _ _ _ (hH.eq rfl) (lv_eq (lv_sub hl [1, 0] rfl) (lc_i (by rw [nI_and1 (by omega), nI_add] : ((nI n) + ((nI v) &&& 1)) = (nI (n + v % 2))) (lc_i (by exact nI_shr1 (by omega) : ((nI v) >>> (1 &&& 31)) = (nI (v / 2))) rfl)))
  · exact hH.eq rfl
  · exact lv_eq (lv_sub hl [1, 0] rfl) (lc_i (by first | rfl | exact hv : 0 = (nI 0)) (lc_i (by first | rfl | exact hv : v0 = (nI q)) rfl))
set_option maxHeartbeats 4000000 in
set_option maxRecDepth 100000 in
theorem k_X12_refuse (l : Launch) (G : GP) (ad : Nat → Nat) (σ : Nat → Nat → Int32) (code : Int32) (j : Nat) (hj : -code = nI j) (hj7 : j < 7) : CT l G yX12_refuse cX12_refuse 2 (some .int) 0 [.ref (ad 0), .int code] (WM G ad σ) (some (.int code)) (WM G ad (ua σ 1 (upd (σ 1) j ((σ 1) j + 1)))) := by
  refine x_meth "BetsOnBetsModel" rfl (by decide +kernel) (by rfl) (Nat.le_of_ble_eq_true rfl) ?_
  intro pP eE sS mM args below meth cC A ls hC hr hk hK hZ hA hH hl
  have hx := hC.1
  have hb := hC.2.1
  have hl : lv_has ls 2 [(0, .ref (ad 0)), (1, .int code)] := hl
  refine lv_aload_n hx hb dX12_refuse_0 rfl (lv_at hl 0 rfl) ?_
  refine gf_X12_7 (v := .ref (ad 1)) hC hK hH 0 rfl rfl dX12_refuse_1 ?_
  refine lv_iload_n hx hb dX12_refuse_4 rfl (lv_at hl 1 rfl) ?_
  refine lv_ineg hx hb dX12_refuse_5 ?_
  refine lv_dup2_11 hx hb dX12_refuse_6 rfl rfl ?_
  refine x_ialN hC hK hH 1 j rfl hj hj7 (Nat.le_of_ble_eq_true rfl) dX12_refuse_7 ?_
  refine lv_iconst (v := 1) hx hb dX12_refuse_8 (by decide) ?_
  refine lv_iadd hx hb dX12_refuse_9 ?_
  refine x_iasN (ws' := WM G ad (ua σ 1 (upd (σ 1) j (((σ 1) j) + 1)))) hC hK hH 1 j rfl hj hj7 (Nat.le_of_ble_eq_true rfl) dX12_refuse_10 rfl (fun H locs hH => ?_)
  refine lv_iload_n hx hb dX12_refuse_11 rfl (lv_at hl 1 rfl) ?_
  exact x_iret hC hr hk hH rfl (congrArg (fun z_ : Nat → Int32 => WM G ad (ua σ 1 z_)) (by first | rfl | simp : (upd (σ 1) j ((σ 1) j + 1)) = (upd (σ 1) j (((σ 1) j) + 1)))) dX12_refuse_12
end
section
/-! what is told, as numbers; ways, standings, purses -/
noncomputable def cI {α : Type} (P : Prop) (a b : α) : α := @ite α P (Classical.propDecidable P) a b
theorem cI_t {α : Type} {P : Prop} {a b : α} (h : P) : cI P a b = a := if_pos h
theorem cI_f {α : Type} {P : Prop} {a b : α} (h : ¬ P) : cI P a b = b := if_neg h
abbrev Bk : Type := (Nat × Nat) × (Nat → Int32) × (Nat → Int32) × (Nat → Int32)
def bH (β : Bk) : Nat := β.1.1
def bK (β : Bk) : Nat := β.1.2
def bC (β : Bk) : Nat → Int32 := β.2.1
def bN (β : Bk) : Nat → Int32 := β.2.2.1
def bF (β : Bk) : Nat → Int32 := β.2.2.2
/-- the reference's row of 52 tells β -/
def RB (f : Nat → Int32) (β : Bk) : Prop := f 0 = nI (bH β) ∧ f 1 = nI (bK β) ∧ bH β ≤ 4 ∧ bK β ≤ 6 ∧ (∀ j, j < 4 → f (2 + j) = bC β j) ∧ (∀ j, j < 4 → f (6 + j) = bF β j) ∧ (∀ j, j < 42 → f (10 + j) = bN β j)
theorem sh1 : ∀ k, k < 7 → (1 : Int32) <<< (nI k &&& 31) = nI (2 ^ k) := by decide
theorem RB.p0 {f : Nat → Int32} {β : Bk} (h : RB f β) : (1 : Int32) <<< (f 0 &&& 31) = nI (2 ^ bH β) := by
  have := h.2.2.1
  rw [h.1]; exact sh1 _ (by omega)
theorem RB.p1 {f : Nat → Int32} {β : Bk} (h : RB f β) : (1 : Int32) <<< (f 1 &&& 31) = nI (2 ^ bK β) := by
  have := h.2.2.2.1
  rw [h.2.1]; exact sh1 _ (by omega)
theorem pw4 {n : Nat} (h : n ≤ 4) : 2 ^ n ≤ 16 := Nat.pow_le_pow_right (by omega) h
theorem pw6 {n : Nat} (h : n ≤ 6) : 2 ^ n ≤ 64 := Nat.pow_le_pow_right (by omega) h
def nm (β : Bk) (b w : Nat) : Int32 := bN β (7 * b + w)
def inb (v : Int32) (n : Nat) : Prop := 0 ≤ v ∧ v < nI n
def tb (x b : Int32) : Prop := (x >>> (b &&& 31)) &&& 1 = 1
def soP (m e w : Int32) : Prop := (¬ 10 ≤ m ∧ tb e m) ∨ (10 ≤ m ∧ tb w (m - 10))
def wonP (kind : Int32) (f s : Prop) : Prop := if kind = 1 then ¬ f else if kind = 2 then f ∧ s else if kind = 3 then f ∨ s else if kind = 4 then ¬ (f ↔ s) else if kind = 5 then ¬ f ∧ ¬ s else f
theorem wonP_d {x : Int32} {f s : Prop} (h : x.toInt < 1 ∨ 5 < x.toInt) : wonP x f s ↔ f := by
  have n1 : ¬ x = 1 := fun e => by subst e; revert h; decide
  have n2 : ¬ x = 2 := fun e => by subst e; revert h; decide
  have n3 : ¬ x = 3 := fun e => by subst e; revert h; decide
  have n4 : ¬ x = 4 := fun e => by subst e; revert h; decide
  have n5 : ¬ x = 5 := fun e => by subst e; revert h; decide
  rw [wonP, if_neg n1, if_neg n2, if_neg n3, if_neg n4, if_neg n5]
theorem sw5 (x : Int32) : x = 1 ∨ x = 2 ∨ x = 3 ∨ x = 4 ∨ x = 5 ∨ (x.toInt < 1 ∨ 5 < x.toInt) := by
  have e : ∀ n : Int, x.toInt = n → x = Int32.ofInt n := fun n h => by rw [← h]; exact (Int32.ofInt_toInt x).symm
  have h := fun n h => e n h
  by_cases h1 : x.toInt = 1
  · exact Or.inl (e 1 h1)
  by_cases h2 : x.toInt = 2
  · exact Or.inr (Or.inl (e 2 h2))
  by_cases h3 : x.toInt = 3
  · exact Or.inr (Or.inr (Or.inl (e 3 h3)))
  by_cases h4 : x.toInt = 4
  · exact Or.inr (Or.inr (Or.inr (Or.inl (e 4 h4))))
  by_cases h5 : x.toInt = 5
  · exact Or.inr (Or.inr (Or.inr (Or.inr (Or.inl (e 5 h5)))))
  · exact Or.inr (Or.inr (Or.inr (Or.inr (Or.inr (by omega)))))
theorem bI_inj {P Q : Prop} : bI P = bI Q ↔ (P ↔ Q) := by
  by_cases hp : P <;> by_cases hq : Q <;> simp [bI, hp, hq]
theorem bI_1 {P : Prop} : bI P = 1 ↔ P := by
  by_cases hp : P <;> simp [bI, hp]
def wonB (β : Bk) (b : Nat) (e w : Int32) : Prop := wonP (nm β b 0) (soP (nm β b 1) e w) (soP (nm β b 2) e w)
def isWayP (β : Bk) (e w : Int32) : Prop := ∀ j, j < bK β → (wonB β j e w ↔ tb w (nI j))
noncomputable def fw (β : Bk) (e : Int32) : Nat → Int32 × Int32 × Int32 × Int32
  | 0 => (0, -9, 0, nI (2 ^ bK β) - 1)
  | i + 1 => cI (isWayP β e (nI i)) ((fw β e i).1 + 1, if 0 ≤ (fw β e i).2.1 then (fw β e i).2.1 else nI i, (fw β e i).2.2.1 ||| nI i, (fw β e i).2.2.2 &&& nI i) (fw β e i)
theorem fw_t {β : Bk} {e : Int32} {i : Nat} (h : isWayP β e (nI i)) : fw β e (i + 1) = ((fw β e i).1 + 1, if 0 ≤ (fw β e i).2.1 then (fw β e i).2.1 else nI i, (fw β e i).2.2.1 ||| nI i, (fw β e i).2.2.2 &&& nI i) := cI_t h
theorem fw_f {β : Bk} {e : Int32} {i : Nat} (h : ¬ isWayP β e (nI i)) : fw β e (i + 1) = fw β e i := cI_f h
noncomputable def fwA (β : Bk) (e : Int32) : Int32 × Int32 × Int32 × Int32 := fw β e (2 ^ bK β)
noncomputable def standF (ways all some b : Int32) : Int32 := if ways = 0 then 2 else cI (tb all b) 1 (if (some >>> (b &&& 31)) &&& 1 = 0 then 0 else 2)
noncomputable def stP (β : Bk) (e : Int32) (b : Nat) : Int32 := standF (fwA β e).1 (fwA β e).2.2.2 (fwA β e).2.2.1 (nI b)
def sideR (β : Bk) (p : Int32) (b : Nat) : Int32 := if nm β b 5 = p then 1 else if nm β b 6 = p then -1 else 0
noncomputable def dltR (β : Bk) (p e : Int32) (b : Nat) : Int32 := if stP β e b = 1 then sideR β p b * nm β b 3 * nm β b 4 else if stP β e b = 0 then -sideR β p b * nm β b 3 else 0
noncomputable def purR (β : Bk) (p e : Int32) : Nat → Int32
  | 0 => 0
  | b + 1 => purR β p e b + dltR β p e b
noncomputable def purA (β : Bk) (p e : Int32) : Int32 := purR β p e (bK β)
noncomputable def wfac (β : Bk) (e : Int32) (i : Nat) : Int64 := cI (tb e (nI i)) (bC β i).toInt64 (100 - bC β i).toInt64
noncomputable def wgt (β : Bk) (e : Int32) : Nat → Int64
  | 0 => 1
  | i + 1 => wgt β e i * wfac β e i
noncomputable def wgtA (β : Bk) (e : Int32) : Int64 := wgt β e (bH β)
def whl : Nat → Int64
  | 0 => 1
  | i + 1 => whl i * 100
theorem soP_t1 {m e w : Int32} (h : ¬ 10 ≤ m) (h2 : (e >>> (m &&& 31)) &&& 1 = 1) : soP m e w := Or.inl ⟨h, h2⟩
theorem soP_t2 {m e w : Int32} (h : 10 ≤ m) (h2 : (w >>> ((m - 10) &&& 31)) &&& 1 = 1) : soP m e w := Or.inr ⟨h, h2⟩
theorem soP_f1 {m e w : Int32} (h : ¬ 10 ≤ m) (h2 : ¬ (e >>> (m &&& 31)) &&& 1 = 1) : ¬ soP m e w := fun z => z.elim (fun q => h2 q.2) (fun q => h q.1)
theorem soP_f2 {m e w : Int32} (h : 10 ≤ m) (h2 : ¬ (w >>> ((m - 10) &&& 31)) &&& 1 = 1) : ¬ soP m e w := fun z => z.elim (fun q => q.1 h) (fun q => h2 q.2)
set_option maxHeartbeats 4000000 in
set_option maxRecDepth 100000 in
theorem k_X12_isBet (l : Launch) (G : GP) (ad : Nat → Nat) (σ : Nat → Nat → Int32) (b : Int32) (β : Bk) (hR : RB (σ 2) β) : CT l G yX12_isBet cX12_isBet 2 (some .boolean) 1 [.ref (ad 0), .int b] (WM G ad σ) (some (.int (bI (0 ≤ b ∧ b < nI (bK β))))) (WM G ad σ) := by
  refine x_meth "BetsOnBetsModel" rfl (by decide +kernel) (by rfl) (Nat.le_of_ble_eq_true rfl) ?_
  intro pP eE sS mM args below meth cC A ls hC hr hk hK hZ hA hH hl
  have hx := hC.1
  have hb := hC.2.1
  have hl : lv_has ls 2 [(0, .ref (ad 0)), (1, .int b)] := hl
  have hh4 := hR.2.2.1
  have hk6 := hR.2.2.2.1
  have pwh := pw4 hh4
  have pwk := pw6 hk6
  refine lv_iload_n hx hb dX12_isBet_0 rfl (lv_at hl 1 rfl) ?_
  refine lv_aload_n hx hb dX12_isBet_1 rfl (lv_at hl 0 rfl) ?_
  refine gf_X12_13 (v := .ref (ad 2)) hC hK hH 0 rfl rfl dX12_isBet_2 ?_
  refine lv_iconst (v := 1) hx hb dX12_isBet_5 (by decide) ?_
  refine x_ialN hC hK hH 2 1 rfl rfl (by decide) (Nat.le_of_ble_eq_true rfl) dX12_isBet_6 ?_
  refine x_topE (y := (nI (bK β))) (hR.2.1) ?_
  refine x_callS (ws' := WM G ad σ) (As := [.int b, .int (nI (bK β))]) (rest := []) (st' := [.int (bI (0 ≤ b ∧ b < (nI (bK β))))]) hC hK hZ hA hl.1 hH (k_X12_isIn l G (pk ad []) (pk σ []) b (nI (bK β))) lk_X12_31 [] rfl rfl rfl rfl ⟨Nat.le_of_ble_eq_true rfl, Nat.le_of_ble_eq_true rfl⟩ ⟨Nat.le_refl _, Nat.le_refl _⟩ (Nat.le_of_ble_eq_true rfl) rfl dX12_isBet_7 (fun H locs hH => ?_)
  exact x_zret hC hr hk hH nar_bI (bI_e (by first | rfl | simp)) rfl dX12_isBet_10
set_option maxHeartbeats 4000000 in
set_option maxRecDepth 100000 in
theorem k_X12_ends (l : Launch) (G : GP) (ad : Nat → Nat) (σ : Nat → Nat → Int32) (β : Bk) (hR : RB (σ 2) β) : CT l G yX12_ends cX12_ends 1 (some .int) 0 [.ref (ad 0)] (WM G ad σ) (some (.int (nI (2 ^ bH β)))) (WM G ad σ) := by
  refine x_meth "BetsOnBetsModel" rfl (by decide +kernel) (by rfl) (Nat.le_of_ble_eq_true rfl) ?_
  intro pP eE sS mM args below meth cC A ls hC hr hk hK hZ hA hH hl
  have hx := hC.1
  have hb := hC.2.1
  have hl : lv_has ls 1 [(0, .ref (ad 0))] := hl
  have hh4 := hR.2.2.1
  have hk6 := hR.2.2.2.1
  have pwh := pw4 hh4
  have pwk := pw6 hk6
  refine lv_iconst (v := 1) hx hb dX12_ends_0 (by decide) ?_
  refine lv_aload_n hx hb dX12_ends_1 rfl (lv_at hl 0 rfl) ?_
  refine gf_X12_13 (v := .ref (ad 2)) hC hK hH 0 rfl rfl dX12_ends_2 ?_
  refine lv_iconst (v := 0) hx hb dX12_ends_5 (by decide) ?_
  refine x_ialN hC hK hH 2 0 rfl rfl (by decide) (Nat.le_of_ble_eq_true rfl) dX12_ends_6 ?_
  refine lv_ishl hx hb dX12_ends_7 ?_
  refine x_topE (y := (nI (2 ^ bH β))) hR.p0 ?_
  exact x_iret hC hr hk hH rfl rfl dX12_ends_8
set_option maxHeartbeats 4000000 in
set_option maxRecDepth 100000 in
theorem k_X12_isEnd (l : Launch) (G : GP) (ad : Nat → Nat) (σ : Nat → Nat → Int32) (e : Int32) (β : Bk) (hR : RB (σ 2) β) : CT l G yX12_isEnd cX12_isEnd 2 (some .boolean) 1 [.ref (ad 0), .int e] (WM G ad σ) (some (.int (bI (0 ≤ e ∧ e < nI (2 ^ bH β))))) (WM G ad σ) := by
  refine x_meth "BetsOnBetsModel" rfl (by decide +kernel) (by rfl) (Nat.le_of_ble_eq_true rfl) ?_
  intro pP eE sS mM args below meth cC A ls hC hr hk hK hZ hA hH hl
  have hx := hC.1
  have hb := hC.2.1
  have hl : lv_has ls 2 [(0, .ref (ad 0)), (1, .int e)] := hl
  have hh4 := hR.2.2.1
  have hk6 := hR.2.2.2.1
  have pwh := pw4 hh4
  have pwk := pw6 hk6
  refine lv_iload_n hx hb dX12_isEnd_0 rfl (lv_at hl 1 rfl) ?_
  refine lv_aload_n hx hb dX12_isEnd_1 rfl (lv_at hl 0 rfl) ?_
  refine x_callVA (ws' := WM G ad σ) (As := []) (rest := [.int e]) (st' := [.int (nI (2 ^ bH β)), .int e]) hC hK hZ hA hl.1 hH (k_X12_ends l G ad σ β hR) lk_X12_35 rfl 0 11 rfl rfl rfl ⟨Nat.le_of_ble_eq_true rfl, Nat.le_of_ble_eq_true rfl⟩ ⟨Nat.le_refl _, Nat.le_refl _⟩ (Nat.le_of_ble_eq_true rfl) rfl dX12_isEnd_2 (fun H locs hH => ?_)
  refine x_callS (ws' := WM G ad σ) (As := [.int e, .int (nI (2 ^ bH β))]) (rest := []) (st' := [.int (bI (0 ≤ e ∧ e < (nI (2 ^ bH β))))]) hC hK hZ hA hl.1 hH (k_X12_isIn l G (pk ad []) (pk σ []) e (nI (2 ^ bH β))) lk_X12_31 [] rfl rfl rfl rfl ⟨Nat.le_of_ble_eq_true rfl, Nat.le_of_ble_eq_true rfl⟩ ⟨Nat.le_refl _, Nat.le_refl _⟩ (Nat.le_of_ble_eq_true rfl) rfl dX12_isEnd_5 (fun H locs hH => ?_)
  exact x_zret hC hr hk hH nar_bI (bI_e (by first | rfl | simp)) rfl dX12_isEnd_8
set_option maxHeartbeats 4000000 in
set_option maxRecDepth 100000 in
theorem k_X12_get (l : Launch) (G : GP) (ad : Nat → Nat) (σ : Nat → Nat → Int32) (b : Int32) (w : Int32) (β : Bk) (bj : Nat) (wj : Nat) (hR : RB (σ 2) β) (hbN : b = nI bj) (hw : w = nI wj) (hbk : bj < 6) (hwk : wj < 7) : CT l G yX12_get cX12_get 3 (some .int) 0 [.ref (ad 0), .int b, .int w] (WM G ad σ) (some (.int (nm β bj wj))) (WM G ad σ) := by
  refine x_meth "BetsOnBetsModel" rfl (by decide +kernel) (by rfl) (Nat.le_of_ble_eq_true rfl) ?_
  intro pP eE sS mM args below meth cC A ls hC hr hk hK hZ hA hH hl
  have hx := hC.1
  have hb := hC.2.1
  have hl : lv_has ls 3 [(0, .ref (ad 0)), (1, .int b), (2, .int w)] := hl
  have hh4 := hR.2.2.1
  have hk6 := hR.2.2.2.1
  have pwh := pw4 hh4
  have pwk := pw6 hk6
  have hbE := hbN
  refine lv_aload_n hx hb dX12_get_0 rfl (lv_at hl 0 rfl) ?_
  refine gf_X12_13 (v := .ref (ad 2)) hC hK hH 0 rfl rfl dX12_get_1 ?_
  refine lv_bipush (v := 10) hx hb dX12_get_4 (by decide) ?_
  refine lv_bipush (v := 7) hx hb dX12_get_6 (by decide) ?_
  refine lv_iload_n hx hb dX12_get_8 rfl (lv_at hl 1 rfl) ?_
  refine lv_imul hx hb dX12_get_9 ?_
  refine lv_iadd hx hb dX12_get_10 ?_
  refine lv_iload_n hx hb dX12_get_11 rfl (lv_at hl 2 rfl) ?_
  refine lv_iadd hx hb dX12_get_12 ?_
  refine x_ialN hC hK hH 2 (10 + (7 * bj + wj)) rfl (by rw [hbE, hw, nIa, nIa, nIm, Int32.add_assoc]; rfl) (by omega) (Nat.le_of_ble_eq_true rfl) dX12_get_13 ?_
  refine x_topE (y := (nm β bj wj)) (hR.2.2.2.2.2.2 _ (by omega)) ?_
  exact x_iret hC hr hk hH rfl rfl dX12_get_14
set_option maxHeartbeats 4000000 in
set_option maxRecDepth 100000 in
theorem k_X12_isSo (l : Launch) (G : GP) (ad : Nat → Nat) (σ : Nat → Nat → Int32) (k : Int32) (e : Int32) (w : Int32) : CT l G yX12_isSo cX12_isSo 3 (some .boolean) 0 [.int k, .int e, .int w] (WE G ad σ) (some (.int (bI (soP k e w)))) (WE G ad σ) := by
  refine x_meth "BetsOnBetsModel" rfl (by decide +kernel) (by rfl) (Nat.le_of_ble_eq_true rfl) ?_
  intro pP eE sS mM args below meth cC A ls hC hr hk hK hZ hA hH hl
  have hx := hC.1
  have hb := hC.2.1
  have hl : lv_has ls 3 [(0, .int k), (1, .int e), (2, .int w)] := hl
  refine lv_iload_n hx hb dX12_isSo_0 rfl (lv_at hl 0 rfl) ?_
  refine lv_bipush (v := 10) hx hb dX12_isSo_1 (by decide) ?_
  refine lv_icmp_ge (tgt := 23) hx hb dX12_isSo_3 (by decide) (fun c3 => ?_) (fun c3 => ?_)
  · refine lv_iload_n hx hb dX12_isSo_23 rfl (lv_at hl 2 rfl) ?_
    refine lv_iload_n hx hb dX12_isSo_24 rfl (lv_at hl 0 rfl) ?_
    refine lv_bipush (v := 10) hx hb dX12_isSo_25 (by decide) ?_
    refine lv_isub hx hb dX12_isSo_27 ?_
    refine lv_ishr hx hb dX12_isSo_28 ?_
    refine lv_iconst (v := 1) hx hb dX12_isSo_29 (by decide) ?_
    refine lv_iand hx hb dX12_isSo_30 ?_
    refine lv_iconst (v := 1) hx hb dX12_isSo_31 (by decide) ?_
    refine lv_icmp_ne (tgt := 39) hx hb dX12_isSo_32 (by decide) (fun c32 => ?_) (fun c32 => ?_)
    · refine lv_iconst (v := 0) hx hb dX12_isSo_39 (by decide) ?_
      exact x_zret hC hr hk hH nar_bI (bI_f (by first | exact soP_f1 c3 c12 | exact soP_f2 c3 c32)) rfl dX12_isSo_40
    · refine lv_iconst (v := 1) hx hb dX12_isSo_35 (by decide) ?_
      refine lv_goto (tgt := 40) hx hb dX12_isSo_36 (by decide) ?_
      exact x_zret hC hr hk hH nar_bI (bI_t (by first | exact soP_t1 c3 c12 | exact soP_t2 c3 c32)) rfl dX12_isSo_40
  · refine lv_iload_n hx hb dX12_isSo_6 rfl (lv_at hl 1 rfl) ?_
    refine lv_iload_n hx hb dX12_isSo_7 rfl (lv_at hl 0 rfl) ?_
    refine lv_ishr hx hb dX12_isSo_8 ?_
    refine lv_iconst (v := 1) hx hb dX12_isSo_9 (by decide) ?_
    refine lv_iand hx hb dX12_isSo_10 ?_
    refine lv_iconst (v := 1) hx hb dX12_isSo_11 (by decide) ?_
    refine lv_icmp_ne (tgt := 19) hx hb dX12_isSo_12 (by decide) (fun c12 => ?_) (fun c12 => ?_)
    · refine lv_iconst (v := 0) hx hb dX12_isSo_19 (by decide) ?_
      refine lv_goto (tgt := 40) hx hb dX12_isSo_20 (by decide) ?_
      exact x_zret hC hr hk hH nar_bI (bI_f (by first | exact soP_f1 c3 c12 | exact soP_f2 c3 c32)) rfl dX12_isSo_40
    · refine lv_iconst (v := 1) hx hb dX12_isSo_15 (by decide) ?_
      refine lv_goto (tgt := 40) hx hb dX12_isSo_16 (by decide) ?_
      exact x_zret hC hr hk hH nar_bI (bI_t (by first | exact soP_t1 c3 c12 | exact soP_t2 c3 c32)) rfl dX12_isSo_40
set_option maxHeartbeats 4000000 in
set_option maxRecDepth 100000 in
theorem k_X12_isWonBy (l : Launch) (G : GP) (ad : Nat → Nat) (σ : Nat → Nat → Int32) (b : Int32) (e : Int32) (w : Int32) (β : Bk) (bj : Nat) (hR : RB (σ 2) β) (hbN : b = nI bj) (hbk : bj < 6) : CT l G yX12_isWonBy cX12_isWonBy 6 (some .boolean) 1 [.ref (ad 0), .int b, .int e, .int w] (WM G ad σ) (some (.int (bI (wonB β bj e w)))) (WM G ad σ) := by
  refine x_meth "BetsOnBetsModel" rfl (by decide +kernel) (by rfl) (Nat.le_of_ble_eq_true rfl) ?_
  intro pP eE sS mM args below meth cC A ls hC hr hk hK hZ hA hH hl
  have hx := hC.1
  have hb := hC.2.1
  have hl : lv_has ls 6 [(0, .ref (ad 0)), (1, .int b), (2, .int e), (3, .int w)] := hl
  have hh4 := hR.2.2.1
  have hk6 := hR.2.2.2.1
  have pwh := pw4 hh4
  have pwk := pw6 hk6
  refine lv_aload_n hx hb dX12_isWonBy_0 rfl (lv_at hl 0 rfl) ?_
  refine lv_iload_n hx hb dX12_isWonBy_1 rfl (lv_at hl 1 rfl) ?_
  refine lv_iconst (v := 1) hx hb dX12_isWonBy_2 (by decide) ?_
  refine x_callVA (ws' := WM G ad σ) (As := [.int b, .int 1]) (rest := []) (st' := [.int (nm β bj 1)]) hC hK hZ hA hl.1 hH (k_X12_get l G ad σ b 1 β bj 1 hR hbN rfl (by omega) (by decide)) lk_X12_96 rfl 0 11 rfl rfl rfl ⟨Nat.le_of_ble_eq_true rfl, Nat.le_of_ble_eq_true rfl⟩ ⟨Nat.le_refl _, Nat.le_refl _⟩ (Nat.le_of_ble_eq_true rfl) rfl dX12_isWonBy_3 (fun H locs hH => ?_)
  refine lv_iload_n hx hb dX12_isWonBy_6 rfl (lv_at hl 2 rfl) ?_
  refine lv_iload_n hx hb dX12_isWonBy_7 rfl (lv_at hl 3 rfl) ?_
  refine x_callS (ws' := WM G ad σ) (As := [.int (nm β bj 1), .int e, .int w]) (rest := []) (st' := [.int (bI (soP (nm β bj 1) e w))]) hC hK hZ hA hl.1 hH (k_X12_isSo l G (pk ad []) (pk σ []) (nm β bj 1) e w) lk_X12_100 [] rfl rfl rfl rfl ⟨Nat.le_of_ble_eq_true rfl, Nat.le_of_ble_eq_true rfl⟩ ⟨Nat.le_refl _, Nat.le_refl _⟩ (Nat.le_of_ble_eq_true rfl) rfl dX12_isWonBy_8 (fun H locs hH => ?_)
  refine lv_istore (lv' := [(4, .int (bI (soP (nm β bj 1) e w))), (0, .ref (ad 0)), (1, .int b), (2, .int e), (3, .int w)]) hx hb dX12_isWonBy_11 hl (by decide) rfl (fun ls hl => ?_)
  refine lv_aload_n hx hb dX12_isWonBy_13 rfl (lv_at hl 1 rfl) ?_
  refine lv_iload_n hx hb dX12_isWonBy_14 rfl (lv_at hl 2 rfl) ?_
  refine lv_iconst (v := 2) hx hb dX12_isWonBy_15 (by decide) ?_
  refine x_callVA (ws' := WM G ad σ) (As := [.int b, .int 2]) (rest := []) (st' := [.int (nm β bj 2)]) hC hK hZ hA hl.1 hH (k_X12_get l G ad σ b 2 β bj 2 hR hbN rfl (by omega) (by decide)) lk_X12_96 rfl 0 11 rfl rfl rfl ⟨Nat.le_of_ble_eq_true rfl, Nat.le_of_ble_eq_true rfl⟩ ⟨Nat.le_refl _, Nat.le_refl _⟩ (Nat.le_of_ble_eq_true rfl) rfl dX12_isWonBy_16 (fun H locs hH => ?_)
  refine lv_iload_n hx hb dX12_isWonBy_19 rfl (lv_at hl 3 rfl) ?_
  refine lv_iload_n hx hb dX12_isWonBy_20 rfl (lv_at hl 4 rfl) ?_
  refine x_callS (ws' := WM G ad σ) (As := [.int (nm β bj 2), .int e, .int w]) (rest := []) (st' := [.int (bI (soP (nm β bj 2) e w))]) hC hK hZ hA hl.1 hH (k_X12_isSo l G (pk ad []) (pk σ []) (nm β bj 2) e w) lk_X12_100 [] rfl rfl rfl rfl ⟨Nat.le_of_ble_eq_true rfl, Nat.le_of_ble_eq_true rfl⟩ ⟨Nat.le_refl _, Nat.le_refl _⟩ (Nat.le_of_ble_eq_true rfl) rfl dX12_isWonBy_21 (fun H locs hH => ?_)
  refine lv_istore (lv' := [(5, .int (bI (soP (nm β bj 2) e w))), (4, .int (bI (soP (nm β bj 1) e w))), (0, .ref (ad 0)), (1, .int b), (2, .int e), (3, .int w)]) hx hb dX12_isWonBy_24 hl (by decide) rfl (fun ls hl => ?_)
  refine lv_aload_n hx hb dX12_isWonBy_26 rfl (lv_at hl 2 rfl) ?_
  refine lv_iload_n hx hb dX12_isWonBy_27 rfl (lv_at hl 3 rfl) ?_
  refine lv_iconst (v := 0) hx hb dX12_isWonBy_28 (by decide) ?_
  refine x_callVA (ws' := WM G ad σ) (As := [.int b, .int 0]) (rest := []) (st' := [.int (nm β bj 0)]) hC hK hZ hA hl.1 hH (k_X12_get l G ad σ b 0 β bj 0 hR hbN rfl (by omega) (by decide)) lk_X12_96 rfl 0 11 rfl rfl rfl ⟨Nat.le_of_ble_eq_true rfl, Nat.le_of_ble_eq_true rfl⟩ ⟨Nat.le_refl _, Nat.le_refl _⟩ (Nat.le_of_ble_eq_true rfl) rfl dX12_isWonBy_29 (fun H locs hH => ?_)
  rcases sw5 (nm β bj 0) with h1 | h2 | h3 | h4 | h5 | h6
  · refine x_topE (y := 1) h1 ?_
    refine lv_tableIn (tgt := 68) hx hb dX12_isWonBy_32 (by decide) (by decide) rfl (by decide) ?_
    refine lv_iload hx hb dX12_isWonBy_68 (lv_at hl 1 rfl) ?_
    refine x_bne (tgt := 77) hC dX12_isWonBy_70 (by decide) (fun c70 => ?_) (fun c70 => ?_)
    · refine lv_iconst (v := 0) hx hb dX12_isWonBy_77 (by decide) ?_
      exact x_zret hC hr hk hH nar_bI (bI_f (by rw [wonB, h1]; simp [wonP]; exact c70)) rfl dX12_isWonBy_78
    · refine lv_iconst (v := 1) hx hb dX12_isWonBy_73 (by decide) ?_
      refine lv_goto (tgt := 78) hx hb dX12_isWonBy_74 (by decide) ?_
      exact x_zret hC hr hk hH nar_bI (bI_t (by rw [wonB, h1]; simp [wonP]; exact c70)) rfl dX12_isWonBy_78
  · refine x_topE (y := 2) h2 ?_
    refine lv_tableIn (tgt := 79) hx hb dX12_isWonBy_32 (by decide) (by decide) rfl (by decide) ?_
    refine lv_iload hx hb dX12_isWonBy_79 (lv_at hl 1 rfl) ?_
    refine x_beq (tgt := 93) hC dX12_isWonBy_81 (by decide) (fun c81 => ?_) (fun c81 => ?_)
    · refine lv_iconst (v := 0) hx hb dX12_isWonBy_93 (by decide) ?_
      exact x_zret hC hr hk hH nar_bI (bI_f (by rw [wonB, h2]; simp [wonP]; first | exact fun z => absurd z c81 | exact fun _ => c86)) rfl dX12_isWonBy_94
    · refine lv_iload hx hb dX12_isWonBy_84 (lv_at hl 0 rfl) ?_
      refine x_beq (tgt := 93) hC dX12_isWonBy_86 (by decide) (fun c86 => ?_) (fun c86 => ?_)
      · refine lv_iconst (v := 0) hx hb dX12_isWonBy_93 (by decide) ?_
        exact x_zret hC hr hk hH nar_bI (bI_f (by rw [wonB, h2]; simp [wonP]; first | exact fun z => absurd z c81 | exact fun _ => c86)) rfl dX12_isWonBy_94
      · refine lv_iconst (v := 1) hx hb dX12_isWonBy_89 (by decide) ?_
        refine lv_goto (tgt := 94) hx hb dX12_isWonBy_90 (by decide) ?_
        exact x_zret hC hr hk hH nar_bI (bI_t (by rw [wonB, h2]; simp [wonP]; exact ⟨c81, c86⟩)) rfl dX12_isWonBy_94
  · refine x_topE (y := 3) h3 ?_
    refine lv_tableIn (tgt := 95) hx hb dX12_isWonBy_32 (by decide) (by decide) rfl (by decide) ?_
    refine lv_iload hx hb dX12_isWonBy_95 (lv_at hl 1 rfl) ?_
    refine x_bne (tgt := 105) hC dX12_isWonBy_97 (by decide) (fun c97 => ?_) (fun c97 => ?_)
    · refine lv_iconst (v := 1) hx hb dX12_isWonBy_105 (by decide) ?_
      refine lv_goto (tgt := 110) hx hb dX12_isWonBy_106 (by decide) ?_
      exact x_zret hC hr hk hH nar_bI (bI_t (by rw [wonB, h3]; simp [wonP]; first | exact Or.inl c97 | exact Or.inr c102)) rfl dX12_isWonBy_110
    · refine lv_iload hx hb dX12_isWonBy_100 (lv_at hl 0 rfl) ?_
      refine x_beq (tgt := 109) hC dX12_isWonBy_102 (by decide) (fun c102 => ?_) (fun c102 => ?_)
      · refine lv_iconst (v := 0) hx hb dX12_isWonBy_109 (by decide) ?_
        exact x_zret hC hr hk hH nar_bI (bI_f (by rw [wonB, h3]; simp [wonP]; exact ⟨c97, c102⟩)) rfl dX12_isWonBy_110
      · refine lv_iconst (v := 1) hx hb dX12_isWonBy_105 (by decide) ?_
        refine lv_goto (tgt := 110) hx hb dX12_isWonBy_106 (by decide) ?_
        exact x_zret hC hr hk hH nar_bI (bI_t (by rw [wonB, h3]; simp [wonP]; first | exact Or.inl c97 | exact Or.inr c102)) rfl dX12_isWonBy_110
  · refine x_topE (y := 4) h4 ?_
    refine lv_tableIn (tgt := 111) hx hb dX12_isWonBy_32 (by decide) (by decide) rfl (by decide) ?_
    refine lv_iload hx hb dX12_isWonBy_111 (lv_at hl 1 rfl) ?_
    refine lv_iload hx hb dX12_isWonBy_113 (lv_at hl 0 rfl) ?_
    refine lv_icmp_eq (tgt := 122) hx hb dX12_isWonBy_115 (by decide) (fun c115 => ?_) (fun c115 => ?_)
    · refine lv_iconst (v := 0) hx hb dX12_isWonBy_122 (by decide) ?_
      exact x_zret hC hr hk hH nar_bI (bI_f (by rw [wonB, h4]; simp [wonP]; exact bI_inj.mp c115)) rfl dX12_isWonBy_123
    · refine lv_iconst (v := 1) hx hb dX12_isWonBy_118 (by decide) ?_
      refine lv_goto (tgt := 123) hx hb dX12_isWonBy_119 (by decide) ?_
      exact x_zret hC hr hk hH nar_bI (bI_t (by rw [wonB, h4]; simp [wonP]; exact fun z => c115 (bI_inj.mpr z))) rfl dX12_isWonBy_123
  · refine x_topE (y := 5) h5 ?_
    refine lv_tableIn (tgt := 124) hx hb dX12_isWonBy_32 (by decide) (by decide) rfl (by decide) ?_
    refine lv_iload hx hb dX12_isWonBy_124 (lv_at hl 1 rfl) ?_
    refine x_bne (tgt := 138) hC dX12_isWonBy_126 (by decide) (fun c126 => ?_) (fun c126 => ?_)
    · refine lv_iconst (v := 0) hx hb dX12_isWonBy_138 (by decide) ?_
      exact x_zret hC hr hk hH nar_bI (bI_f (by rw [wonB, h5]; simp [wonP]; first | exact fun z => absurd c126 z | exact fun _ => c131)) rfl dX12_isWonBy_139
    · refine lv_iload hx hb dX12_isWonBy_129 (lv_at hl 0 rfl) ?_
      refine x_bne (tgt := 138) hC dX12_isWonBy_131 (by decide) (fun c131 => ?_) (fun c131 => ?_)
      · refine lv_iconst (v := 0) hx hb dX12_isWonBy_138 (by decide) ?_
        exact x_zret hC hr hk hH nar_bI (bI_f (by rw [wonB, h5]; simp [wonP]; first | exact fun z => absurd c126 z | exact fun _ => c131)) rfl dX12_isWonBy_139
      · refine lv_iconst (v := 1) hx hb dX12_isWonBy_134 (by decide) ?_
        refine lv_goto (tgt := 139) hx hb dX12_isWonBy_135 (by decide) ?_
        exact x_zret hC hr hk hH nar_bI (bI_t (by rw [wonB, h5]; simp [wonP]; exact ⟨c126, c131⟩)) rfl dX12_isWonBy_139
  · refine lv_tableOut (tgt := 140) hx hb dX12_isWonBy_32 h6 (by decide) ?_
    refine lv_iload hx hb dX12_isWonBy_140 (lv_at hl 1 rfl) ?_
    exact x_zret hC hr hk hH nar_bI (bI_e (by exact (wonP_d h6))) rfl dX12_isWonBy_142
set_option maxHeartbeats 4000000 in
set_option maxRecDepth 100000 in
theorem k_X12_isWay (l : Launch) (G : GP) (ad : Nat → Nat) (σ : Nat → Nat → Int32) (e : Int32) (w : Int32) (β : Bk) (hR : RB (σ 2) β) : CT l G yX12_isWay cX12_isWay 4 (some .boolean) 2 [.ref (ad 0), .int e, .int w] (WM G ad σ) (some (.int (bI (isWayP β e w)))) (WM G ad σ) := by
  refine x_meth "BetsOnBetsModel" rfl (by decide +kernel) (by rfl) (Nat.le_of_ble_eq_true rfl) ?_
  intro pP eE sS mM args below meth cC A ls hC hr hk hK hZ hA hH hl
  have hx := hC.1
  have hb := hC.2.1
  have hl : lv_has ls 4 [(0, .ref (ad 0)), (1, .int e), (2, .int w)] := hl
  have hh4 := hR.2.2.1
  have hk6 := hR.2.2.2.1
  have pwh := pw4 hh4
  have pwk := pw6 hk6
  refine lv_iconst (v := 0) hx hb dX12_isWay_0 (by decide) ?_
  refine lv_istore_n (lv' := [(3, .int 0), (0, .ref (ad 0)), (1, .int e), (2, .int w)]) hx hb dX12_isWay_1 rfl hl (by decide) rfl (fun ls hl => ?_)
  refine x_loop (G := G) (A := A) (H0 := sS.heap) (nL := 4) (α := Nat) (fun q_ => (bK β) - q_) (fun q_ => q_ ≤ bK β ∧ ∀ i, i < q_ → (wonB β i e w ↔ tb w (nI i))) (fun q_ => WM G ad σ) (fun q_ => [(0, .ref (ad 0)), (1, .int e), (2, .int w), (3, .int (nI q_))]) ?_ 0 ⟨by omega, fun i h => absurd h (by omega)⟩ ?_ ?_
  · rintro j hi_j ih_j H locs ls hH hl
    replace hi_j : j ≤ bK β ∧ ∀ i, i < j → (wonB β i e w ↔ tb w (nI i)) := hi_j
    replace hH : Hx G A (WM G ad σ) sS.heap H locs := hH
    replace hl : lv_has ls 4 [(0, .ref (ad 0)), (1, .int e), (2, .int w), (3, .int (nI j))] := hl
    have hi_j1 := hi_j.1
    refine lv_iload_n hx hb dX12_isWay_2 rfl (lv_at hl 3 rfl) ?_
    refine lv_aload_n hx hb dX12_isWay_3 rfl (lv_at hl 0 rfl) ?_
    refine gf_X12_13 (v := .ref (ad 2)) hC hK hH 0 rfl rfl dX12_isWay_4 ?_
    refine lv_iconst (v := 1) hx hb dX12_isWay_7 (by decide) ?_
    refine x_ialN hC hK hH 2 1 rfl rfl (by decide) (Nat.le_of_ble_eq_true rfl) dX12_isWay_8 ?_
    refine lv_icmp_ge (tgt := 44) hx hb dX12_isWay_9 (by decide) (fun c9 => ?_) (fun c9 => ?_)
    · have ge_j := lp_out (n := bK β) hR.2.1 (by omega) (by omega) c9
      have eq_j : j = bK β := by omega
      refine lv_iconst (v := 1) hx hb dX12_isWay_44 (by decide) ?_
      exact x_zret hC hr hk hH nar_bI (bI_t (by intro i hi; exact hi_j.2 i (by omega))) rfl dX12_isWay_45
    · have lt_j := lp_in (n := bK β) hR.2.1 (by omega) (by omega) c9
      refine lv_aload_n hx hb dX12_isWay_12 rfl (lv_at hl 0 rfl) ?_
      refine lv_iload_n hx hb dX12_isWay_13 rfl (lv_at hl 3 rfl) ?_
      refine lv_iload_n hx hb dX12_isWay_14 rfl (lv_at hl 1 rfl) ?_
      refine lv_iload_n hx hb dX12_isWay_15 rfl (lv_at hl 2 rfl) ?_
      refine x_callVA (ws' := WM G ad σ) (As := [.int (nI j), .int e, .int w]) (rest := []) (st' := [.int (bI (wonB β j e w))]) hC hK hZ hA hl.1 hH (k_X12_isWonBy l G ad σ (nI j) e w β j hR rfl (by omega)) lk_X12_104 rfl 0 11 rfl rfl rfl ⟨Nat.le_of_ble_eq_true rfl, Nat.le_of_ble_eq_true rfl⟩ ⟨Nat.le_refl _, Nat.le_refl _⟩ (Nat.le_of_ble_eq_true rfl) rfl dX12_isWay_16 (fun H locs hH => ?_)
      refine lv_iload_n hx hb dX12_isWay_19 rfl (lv_at hl 2 rfl) ?_
      refine lv_iload_n hx hb dX12_isWay_20 rfl (lv_at hl 3 rfl) ?_
      refine lv_ishr hx hb dX12_isWay_21 ?_
      refine lv_iconst (v := 1) hx hb dX12_isWay_22 (by decide) ?_
      refine lv_iand hx hb dX12_isWay_23 ?_
      refine lv_iconst (v := 1) hx hb dX12_isWay_24 (by decide) ?_
      refine lv_icmp_ne (tgt := 32) hx hb dX12_isWay_25 (by decide) (fun c25 => ?_) (fun c25 => ?_)
      · refine lv_iconst (v := 0) hx hb dX12_isWay_32 (by decide) ?_
        refine lv_icmp_eq (tgt := 38) hx hb dX12_isWay_33 (by decide) (fun c33 => ?_) (fun c33 => ?_)
        · refine lv_iinc (v := ((nI j) + 1)) (lv' := [(3, .int ((nI j) + 1)), (0, .ref (ad 0)), (1, .int e), (2, .int w)]) hx hb dX12_isWay_38 hl (k := 3) rfl rfl (by decide) rfl (fun ls hl => ?_)
          refine lv_goto (tgt := 2) hx hb dX12_isWay_41 (by decide) ?_
          exact ih_j (j + 1) (show (j + 1) ≤ bK β ∧ ∀ i, i < (j + 1) → (wonB β i e w ↔ tb w (nI i)) from ⟨by omega, lt_s hi_j.2 (by first | exact ⟨fun _ => c25, fun _ => bI_1.mp c33⟩ | exact ⟨fun z => absurd z (bI_z.mp c33), fun z => absurd z c25⟩)⟩) (show (bK β) - (j + 1) < (bK β) - j from (by omega)) _ _ _ (hH.eq rfl) (lv_eq (lv_sub hl [1, 2, 3, 0] rfl) (lc_s (lc_s (lc_s (lc_i (by first | rfl | exact nI_1 _ | simp : ((nI j) + 1) = (nI (j + 1))) rfl)))))
        · refine lv_iconst (v := 0) hx hb dX12_isWay_36 (by decide) ?_
          exact x_zret hC hr hk hH nar_bI (bI_f (by exact fun z => absurd (z j lt_j) (by first | exact fun q => c33 (bI_t (q.mpr c25)) | exact fun q => c33 (bI_f (fun y => c25 (q.mp y)))))) rfl dX12_isWay_37
      · refine lv_iconst (v := 1) hx hb dX12_isWay_28 (by decide) ?_
        refine lv_goto (tgt := 33) hx hb dX12_isWay_29 (by decide) ?_
        refine lv_icmp_eq (tgt := 38) hx hb dX12_isWay_33 (by decide) (fun c33 => ?_) (fun c33 => ?_)
        · refine lv_iinc (v := ((nI j) + 1)) (lv' := [(3, .int ((nI j) + 1)), (0, .ref (ad 0)), (1, .int e), (2, .int w)]) hx hb dX12_isWay_38 hl (k := 3) rfl rfl (by decide) rfl (fun ls hl => ?_)
          refine lv_goto (tgt := 2) hx hb dX12_isWay_41 (by decide) ?_
          exact ih_j (j + 1) (show (j + 1) ≤ bK β ∧ ∀ i, i < (j + 1) → (wonB β i e w ↔ tb w (nI i)) from ⟨by omega, lt_s hi_j.2 (by first | exact ⟨fun _ => c25, fun _ => bI_1.mp c33⟩ | exact ⟨fun z => absurd z (bI_z.mp c33), fun z => absurd z c25⟩)⟩) (show (bK β) - (j + 1) < (bK β) - j from (by omega)) _ _ _ (hH.eq rfl) (lv_eq (lv_sub hl [1, 2, 3, 0] rfl) (lc_s (lc_s (lc_s (lc_i (by first | rfl | exact nI_1 _ | simp : ((nI j) + 1) = (nI (j + 1))) rfl)))))
        · refine lv_iconst (v := 0) hx hb dX12_isWay_36 (by decide) ?_
          exact x_zret hC hr hk hH nar_bI (bI_f (by exact fun z => absurd (z j lt_j) (by first | exact fun q => c33 (bI_t (q.mpr c25)) | exact fun q => c33 (bI_f (fun y => c25 (q.mp y)))))) rfl dX12_isWay_37
  · exact hH.eq rfl
  · exact lv_eq (lv_sub hl [1, 2, 3, 0] rfl) (lc_s (lc_s (lc_s (lc_i (by first | rfl | simp : 0 = (nI 0)) rfl))))
set_option maxHeartbeats 4000000 in
set_option maxRecDepth 100000 in
theorem k_X12_findsWays (l : Launch) (G : GP) (ad : Nat → Nat) (σ : Nat → Nat → Int32) (e : Int32) (β : Bk) (hR : RB (σ 2) β) : CT l G yX12_findsWays cX12_findsWays 3 none 3 [.ref (ad 0), .int e] (WM G ad σ) none (WM G ad (ua σ 0 (upd (upd (upd (upd (σ 0) 9 ((fwA β e).1)) 10 ((fwA β e).2.1)) 11 ((fwA β e).2.2.1)) 12 ((fwA β e).2.2.2)))) := by
  refine x_meth "BetsOnBetsModel" rfl (by decide +kernel) (by rfl) (Nat.le_of_ble_eq_true rfl) ?_
  intro pP eE sS mM args below meth cC A ls hC hr hk hK hZ hA hH hl
  have hx := hC.1
  have hb := hC.2.1
  have hl : lv_has ls 3 [(0, .ref (ad 0)), (1, .int e)] := hl
  have hh4 := hR.2.2.1
  have hk6 := hR.2.2.2.1
  have pwh := pw4 hh4
  have pwk := pw6 hk6
  refine lv_aload_n hx hb dX12_findsWays_0 rfl (lv_at hl 0 rfl) ?_
  refine lv_iconst (v := 0) hx hb dX12_findsWays_1 (by decide) ?_
  refine pf_X12_107 (ws' := WM G ad (ua σ 0 (upd (σ 0) 9 0))) hC hK hH 0 rfl rfl rfl (Nat.le_of_ble_eq_true rfl) dX12_findsWays_2 rfl (fun H locs hH => ?_)
  refine lv_aload_n hx hb dX12_findsWays_5 rfl (lv_at hl 0 rfl) ?_
  refine lv_bipush (v := (-9)) hx hb dX12_findsWays_6 (by decide) ?_
  refine pf_X12_110 (ws' := WM G ad (ua σ 0 (upd (upd (σ 0) 9 0) 10 (-9)))) hC hK hH 0 rfl rfl rfl (Nat.le_of_ble_eq_true rfl) dX12_findsWays_8 rfl (fun H locs hH => ?_)
  refine lv_aload_n hx hb dX12_findsWays_11 rfl (lv_at hl 0 rfl) ?_
  refine lv_iconst (v := 0) hx hb dX12_findsWays_12 (by decide) ?_
  refine pf_X12_113 (ws' := WM G ad (ua σ 0 (upd (upd (upd (σ 0) 9 0) 10 (-9)) 11 0))) hC hK hH 0 rfl rfl rfl (Nat.le_of_ble_eq_true rfl) dX12_findsWays_13 rfl (fun H locs hH => ?_)
  refine lv_aload_n hx hb dX12_findsWays_16 rfl (lv_at hl 0 rfl) ?_
  refine lv_iconst (v := 1) hx hb dX12_findsWays_17 (by decide) ?_
  refine lv_aload_n hx hb dX12_findsWays_18 rfl (lv_at hl 0 rfl) ?_
  refine gf_X12_13 (v := .ref (ad 2)) hC hK hH 0 rfl rfl dX12_findsWays_19 ?_
  refine lv_iconst (v := 1) hx hb dX12_findsWays_22 (by decide) ?_
  refine x_ialN hC hK hH 2 1 rfl rfl (by decide) (Nat.le_of_ble_eq_true rfl) dX12_findsWays_23 ?_
  refine lv_ishl hx hb dX12_findsWays_24 ?_
  refine x_topE (y := (nI (2 ^ bK β))) hR.p1 ?_
  refine lv_iconst (v := 1) hx hb dX12_findsWays_25 (by decide) ?_
  refine lv_isub hx hb dX12_findsWays_26 ?_
  refine pf_X12_116 (ws' := WM G ad (ua σ 0 (upd (upd (upd (upd (σ 0) 9 0) 10 (-9)) 11 0) 12 ((nI (2 ^ bK β)) - 1)))) hC hK hH 0 rfl rfl rfl (Nat.le_of_ble_eq_true rfl) dX12_findsWays_27 rfl (fun H locs hH => ?_)
  refine lv_iconst (v := 0) hx hb dX12_findsWays_30 (by decide) ?_
  refine lv_istore_n (lv' := [(2, .int 0), (0, .ref (ad 0)), (1, .int e)]) hx hb dX12_findsWays_31 rfl hl (by decide) rfl (fun ls hl => ?_)
  refine x_loop (G := G) (A := A) (H0 := sS.heap) (nL := 3) (α := Nat) (fun q_ => (2 ^ bK β) - q_) (fun q_ => q_ ≤ (2 ^ bK β)) (fun q_ => WM G ad (ua σ 0 (upd (upd (upd (upd (σ 0) 9 ((fw β e q_).1)) 10 ((fw β e q_).2.1)) 11 ((fw β e q_).2.2.1)) 12 ((fw β e q_).2.2.2)))) (fun q_ => [(0, .ref (ad 0)), (1, .int e), (2, .int (nI q_))]) ?_ 0 (Nat.zero_le _) ?_ ?_
  · rintro w hi_w ih_w H locs ls hH hl
    replace hi_w : w ≤ (2 ^ bK β) := hi_w
    replace hH : Hx G A (WM G ad (ua σ 0 (upd (upd (upd (upd (σ 0) 9 ((fw β e w).1)) 10 ((fw β e w).2.1)) 11 ((fw β e w).2.2.1)) 12 ((fw β e w).2.2.2)))) sS.heap H locs := hH
    replace hl : lv_has ls 3 [(0, .ref (ad 0)), (1, .int e), (2, .int (nI w))] := hl
    refine lv_iload_n hx hb dX12_findsWays_32 rfl (lv_at hl 2 rfl) ?_
    refine lv_iconst (v := 1) hx hb dX12_findsWays_33 (by decide) ?_
    refine lv_aload_n hx hb dX12_findsWays_34 rfl (lv_at hl 0 rfl) ?_
    refine gf_X12_13 (v := .ref (ad 2)) hC hK hH 0 rfl rfl dX12_findsWays_35 ?_
    refine lv_iconst (v := 1) hx hb dX12_findsWays_38 (by decide) ?_
    refine x_ialN hC hK hH 2 1 rfl rfl (by decide) (Nat.le_of_ble_eq_true rfl) dX12_findsWays_39 ?_
    refine lv_ishl hx hb dX12_findsWays_40 ?_
    refine x_topE (y := (nI (2 ^ bK β))) hR.p1 ?_
    refine lv_icmp_ge (tgt := 111) hx hb dX12_findsWays_41 (by decide) (fun c41 => ?_) (fun c41 => ?_)
    · have ge_w := lp_out (n := 2 ^ bK β) rfl (by omega) (by omega) c41
      have eq_w : w = 2 ^ bK β := by omega
      exact x_vret hC hr hk hH (congrArg (fun z_ : Nat → Int32 => WM G ad (ua σ 0 z_)) (by rw [eq_w]; rfl : (upd (upd (upd (upd (σ 0) 9 ((fwA β e).1)) 10 ((fwA β e).2.1)) 11 ((fwA β e).2.2.1)) 12 ((fwA β e).2.2.2)) = (upd (upd (upd (upd (σ 0) 9 ((fw β e w).1)) 10 ((fw β e w).2.1)) 11 ((fw β e w).2.2.1)) 12 ((fw β e w).2.2.2)))) dX12_findsWays_111
    · have lt_w := lp_in (n := 2 ^ bK β) rfl (by omega) (by omega) c41
      refine lv_aload_n hx hb dX12_findsWays_44 rfl (lv_at hl 0 rfl) ?_
      refine lv_iload_n hx hb dX12_findsWays_45 rfl (lv_at hl 1 rfl) ?_
      refine lv_iload_n hx hb dX12_findsWays_46 rfl (lv_at hl 2 rfl) ?_
      refine x_callVA (ws' := WM G ad (ua σ 0 (upd (upd (upd (upd (σ 0) 9 ((fw β e w).1)) 10 ((fw β e w).2.1)) 11 ((fw β e w).2.2.1)) 12 ((fw β e w).2.2.2)))) (As := [.int e, .int (nI w)]) (rest := []) (st' := [.int (bI (isWayP β e (nI w)))]) hC hK hZ hA hl.1 hH (k_X12_isWay l G ad (ua σ 0 (upd (upd (upd (upd (σ 0) 9 ((fw β e w).1)) 10 ((fw β e w).2.1)) 11 ((fw β e w).2.2.1)) 12 ((fw β e w).2.2.2))) e (nI w) β hR) lk_X12_119 rfl 0 11 rfl rfl rfl ⟨Nat.le_of_ble_eq_true rfl, Nat.le_of_ble_eq_true rfl⟩ ⟨Nat.le_refl _, Nat.le_refl _⟩ (Nat.le_of_ble_eq_true rfl) rfl dX12_findsWays_47 (fun H locs hH => ?_)
      refine x_bne (tgt := 56) hC dX12_findsWays_50 (by decide) (fun c50 => ?_) (fun c50 => ?_)
      · refine lv_aload_n hx hb dX12_findsWays_56 rfl (lv_at hl 0 rfl) ?_
        refine lv_dup hx hb dX12_findsWays_57 rfl ?_
        refine gf_X12_107 (v := .int ((fw β e w).1)) hC hK hH 0 rfl rfl dX12_findsWays_58 ?_
        refine lv_iconst (v := 1) hx hb dX12_findsWays_61 (by decide) ?_
        refine lv_iadd hx hb dX12_findsWays_62 ?_
        refine pf_X12_107 (ws' := WM G ad (ua σ 0 (upd (upd (upd (upd (σ 0) 9 (((fw β e w).1) + 1)) 10 ((fw β e w).2.1)) 11 ((fw β e w).2.2.1)) 12 ((fw β e w).2.2.2)))) hC hK hH 0 rfl rfl rfl (Nat.le_of_ble_eq_true rfl) dX12_findsWays_63 rfl (fun H locs hH => ?_)
        refine lv_aload_n hx hb dX12_findsWays_66 rfl (lv_at hl 0 rfl) ?_
        refine lv_aload_n hx hb dX12_findsWays_67 rfl (lv_at hl 0 rfl) ?_
        refine gf_X12_110 (v := .int ((fw β e w).2.1)) hC hK hH 0 rfl rfl dX12_findsWays_68 ?_
        refine lv_if_ge (tgt := 78) hx hb dX12_findsWays_71 (by decide) (fun c71 => ?_) (fun c71 => ?_)
        · refine lv_aload_n hx hb dX12_findsWays_78 rfl (lv_at hl 0 rfl) ?_
          refine gf_X12_110 (v := .int ((fw β e w).2.1)) hC hK hH 0 rfl rfl dX12_findsWays_79 ?_
          refine pf_X12_110 (ws' := WM G ad (ua σ 0 (upd (upd (upd (upd (σ 0) 9 (((fw β e w).1) + 1)) 10 ((fw β e w).2.1)) 11 ((fw β e w).2.2.1)) 12 ((fw β e w).2.2.2)))) hC hK hH 0 rfl rfl rfl (Nat.le_of_ble_eq_true rfl) dX12_findsWays_82 rfl (fun H locs hH => ?_)
          refine lv_aload_n hx hb dX12_findsWays_85 rfl (lv_at hl 0 rfl) ?_
          refine lv_dup hx hb dX12_findsWays_86 rfl ?_
          refine gf_X12_113 (v := .int ((fw β e w).2.2.1)) hC hK hH 0 rfl rfl dX12_findsWays_87 ?_
          refine lv_iload_n hx hb dX12_findsWays_90 rfl (lv_at hl 2 rfl) ?_
          refine lv_ior hx hb dX12_findsWays_91 ?_
          refine pf_X12_113 (ws' := WM G ad (ua σ 0 (upd (upd (upd (upd (σ 0) 9 (((fw β e w).1) + 1)) 10 ((fw β e w).2.1)) 11 (((fw β e w).2.2.1) ||| (nI w))) 12 ((fw β e w).2.2.2)))) hC hK hH 0 rfl rfl rfl (Nat.le_of_ble_eq_true rfl) dX12_findsWays_92 rfl (fun H locs hH => ?_)
          refine lv_aload_n hx hb dX12_findsWays_95 rfl (lv_at hl 0 rfl) ?_
          refine lv_dup hx hb dX12_findsWays_96 rfl ?_
          refine gf_X12_116 (v := .int ((fw β e w).2.2.2)) hC hK hH 0 rfl rfl dX12_findsWays_97 ?_
          refine lv_iload_n hx hb dX12_findsWays_100 rfl (lv_at hl 2 rfl) ?_
          refine lv_iand hx hb dX12_findsWays_101 ?_
          refine pf_X12_116 (ws' := WM G ad (ua σ 0 (upd (upd (upd (upd (σ 0) 9 (((fw β e w).1) + 1)) 10 ((fw β e w).2.1)) 11 (((fw β e w).2.2.1) ||| (nI w))) 12 (((fw β e w).2.2.2) &&& (nI w))))) hC hK hH 0 rfl rfl rfl (Nat.le_of_ble_eq_true rfl) dX12_findsWays_102 rfl (fun H locs hH => ?_)
          refine lv_iinc (v := ((nI w) + 1)) (lv' := [(2, .int ((nI w) + 1)), (0, .ref (ad 0)), (1, .int e)]) hx hb dX12_findsWays_105 hl (k := 2) rfl rfl (by decide) rfl (fun ls hl => ?_)
          refine lv_goto (tgt := 32) hx hb dX12_findsWays_108 (by decide) ?_
          exact ih_w (w + 1) (show (w + 1) ≤ (2 ^ bK β) from (by omega)) (show (2 ^ bK β) - (w + 1) < (2 ^ bK β) - w from (by omega)) _ _ _ (hH.eq (congrArg (fun z_ : Nat → Int32 => WM G ad (ua σ 0 z_)) (by first | (rw [fw_f c50]; done) | (rw [fw_t c50, if_pos c71]; done) | (rw [fw_t c50, if_neg c71]; done) : (upd (upd (upd (upd (σ 0) 9 (((fw β e w).1) + 1)) 10 ((fw β e w).2.1)) 11 (((fw β e w).2.2.1) ||| (nI w))) 12 (((fw β e w).2.2.2) &&& (nI w))) = (upd (upd (upd (upd (σ 0) 9 ((fw β e (w + 1)).1)) 10 ((fw β e (w + 1)).2.1)) 11 ((fw β e (w + 1)).2.2.1)) 12 ((fw β e (w + 1)).2.2.2))))) (lv_eq (lv_sub hl [1, 2, 0] rfl) (lc_s (lc_s (lc_i (by first | rfl | exact nI_1 _ | simp : ((nI w) + 1) = (nI (w + 1))) rfl))))
        · refine lv_iload_n hx hb dX12_findsWays_74 rfl (lv_at hl 2 rfl) ?_
          refine lv_goto (tgt := 82) hx hb dX12_findsWays_75 (by decide) ?_
          refine pf_X12_110 (ws' := WM G ad (ua σ 0 (upd (upd (upd (upd (σ 0) 9 (((fw β e w).1) + 1)) 10 (nI w)) 11 ((fw β e w).2.2.1)) 12 ((fw β e w).2.2.2)))) hC hK hH 0 rfl rfl rfl (Nat.le_of_ble_eq_true rfl) dX12_findsWays_82 rfl (fun H locs hH => ?_)
          refine lv_aload_n hx hb dX12_findsWays_85 rfl (lv_at hl 0 rfl) ?_
          refine lv_dup hx hb dX12_findsWays_86 rfl ?_
          refine gf_X12_113 (v := .int ((fw β e w).2.2.1)) hC hK hH 0 rfl rfl dX12_findsWays_87 ?_
          refine lv_iload_n hx hb dX12_findsWays_90 rfl (lv_at hl 2 rfl) ?_
          refine lv_ior hx hb dX12_findsWays_91 ?_
          refine pf_X12_113 (ws' := WM G ad (ua σ 0 (upd (upd (upd (upd (σ 0) 9 (((fw β e w).1) + 1)) 10 (nI w)) 11 (((fw β e w).2.2.1) ||| (nI w))) 12 ((fw β e w).2.2.2)))) hC hK hH 0 rfl rfl rfl (Nat.le_of_ble_eq_true rfl) dX12_findsWays_92 rfl (fun H locs hH => ?_)
          refine lv_aload_n hx hb dX12_findsWays_95 rfl (lv_at hl 0 rfl) ?_
          refine lv_dup hx hb dX12_findsWays_96 rfl ?_
          refine gf_X12_116 (v := .int ((fw β e w).2.2.2)) hC hK hH 0 rfl rfl dX12_findsWays_97 ?_
          refine lv_iload_n hx hb dX12_findsWays_100 rfl (lv_at hl 2 rfl) ?_
          refine lv_iand hx hb dX12_findsWays_101 ?_
          refine pf_X12_116 (ws' := WM G ad (ua σ 0 (upd (upd (upd (upd (σ 0) 9 (((fw β e w).1) + 1)) 10 (nI w)) 11 (((fw β e w).2.2.1) ||| (nI w))) 12 (((fw β e w).2.2.2) &&& (nI w))))) hC hK hH 0 rfl rfl rfl (Nat.le_of_ble_eq_true rfl) dX12_findsWays_102 rfl (fun H locs hH => ?_)
          refine lv_iinc (v := ((nI w) + 1)) (lv' := [(2, .int ((nI w) + 1)), (0, .ref (ad 0)), (1, .int e)]) hx hb dX12_findsWays_105 hl (k := 2) rfl rfl (by decide) rfl (fun ls hl => ?_)
          refine lv_goto (tgt := 32) hx hb dX12_findsWays_108 (by decide) ?_
          exact ih_w (w + 1) (show (w + 1) ≤ (2 ^ bK β) from (by omega)) (show (2 ^ bK β) - (w + 1) < (2 ^ bK β) - w from (by omega)) _ _ _ (hH.eq (congrArg (fun z_ : Nat → Int32 => WM G ad (ua σ 0 z_)) (by first | (rw [fw_f c50]; done) | (rw [fw_t c50, if_pos c71]; done) | (rw [fw_t c50, if_neg c71]; done) : (upd (upd (upd (upd (σ 0) 9 (((fw β e w).1) + 1)) 10 (nI w)) 11 (((fw β e w).2.2.1) ||| (nI w))) 12 (((fw β e w).2.2.2) &&& (nI w))) = (upd (upd (upd (upd (σ 0) 9 ((fw β e (w + 1)).1)) 10 ((fw β e (w + 1)).2.1)) 11 ((fw β e (w + 1)).2.2.1)) 12 ((fw β e (w + 1)).2.2.2))))) (lv_eq (lv_sub hl [1, 2, 0] rfl) (lc_s (lc_s (lc_i (by first | rfl | exact nI_1 _ | simp : ((nI w) + 1) = (nI (w + 1))) rfl))))
      · refine lv_goto (tgt := 105) hx hb dX12_findsWays_53 (by decide) ?_
        refine lv_iinc (v := ((nI w) + 1)) (lv' := [(2, .int ((nI w) + 1)), (0, .ref (ad 0)), (1, .int e)]) hx hb dX12_findsWays_105 hl (k := 2) rfl rfl (by decide) rfl (fun ls hl => ?_)
        refine lv_goto (tgt := 32) hx hb dX12_findsWays_108 (by decide) ?_
        exact ih_w (w + 1) (show (w + 1) ≤ (2 ^ bK β) from (by omega)) (show (2 ^ bK β) - (w + 1) < (2 ^ bK β) - w from (by omega)) _ _ _ (hH.eq (congrArg (fun z_ : Nat → Int32 => WM G ad (ua σ 0 z_)) (by first | (rw [fw_f c50]; done) | (rw [fw_t c50, if_pos c71]; done) | (rw [fw_t c50, if_neg c71]; done) : (upd (upd (upd (upd (σ 0) 9 ((fw β e w).1)) 10 ((fw β e w).2.1)) 11 ((fw β e w).2.2.1)) 12 ((fw β e w).2.2.2)) = (upd (upd (upd (upd (σ 0) 9 ((fw β e (w + 1)).1)) 10 ((fw β e (w + 1)).2.1)) 11 ((fw β e (w + 1)).2.2.1)) 12 ((fw β e (w + 1)).2.2.2))))) (lv_eq (lv_sub hl [1, 2, 0] rfl) (lc_s (lc_s (lc_i (by first | rfl | exact nI_1 _ | simp : ((nI w) + 1) = (nI (w + 1))) rfl))))
  · exact hH.eq (congrArg (fun z_ : Nat → Int32 => WM G ad (ua σ 0 z_)) (by rfl : (upd (upd (upd (upd (σ 0) 9 0) 10 (-9)) 11 0) 12 ((nI (2 ^ bK β)) - 1)) = (upd (upd (upd (upd (σ 0) 9 ((fw β e 0).1)) 10 ((fw β e 0).2.1)) 11 ((fw β e 0).2.2.1)) 12 ((fw β e 0).2.2.2))))
  · exact lv_eq (lv_sub hl [1, 2, 0] rfl) (lc_s (lc_s (lc_i (by first | rfl | simp : 0 = (nI 0)) rfl)))
set_option maxHeartbeats 4000000 in
set_option maxRecDepth 100000 in
theorem k_X12_standingOf (l : Launch) (G : GP) (ad : Nat → Nat) (σ : Nat → Nat → Int32) (b : Int32) : CT l G yX12_standingOf cX12_standingOf 2 (some .int) 0 [.ref (ad 0), .int b] (WM G ad σ) (some (.int (standF (σ 0 9) (σ 0 12) (σ 0 11) b))) (WM G ad σ) := by
  refine x_meth "BetsOnBetsModel" rfl (by decide +kernel) (by rfl) (Nat.le_of_ble_eq_true rfl) ?_
  intro pP eE sS mM args below meth cC A ls hC hr hk hK hZ hA hH hl
  have hx := hC.1
  have hb := hC.2.1
  have hl : lv_has ls 2 [(0, .ref (ad 0)), (1, .int b)] := hl
  refine lv_aload_n hx hb dX12_standingOf_0 rfl (lv_at hl 0 rfl) ?_
  refine gf_X12_107 (v := .int (σ 0 9)) hC hK hH 0 rfl rfl dX12_standingOf_1 ?_
  refine lv_if_ne (tgt := 11) hx hb dX12_standingOf_4 (by decide) (fun c4 => ?_) (fun c4 => ?_)
  · refine lv_aload_n hx hb dX12_standingOf_11 rfl (lv_at hl 0 rfl) ?_
    refine gf_X12_116 (v := .int (σ 0 12)) hC hK hH 0 rfl rfl dX12_standingOf_12 ?_
    refine lv_iload_n hx hb dX12_standingOf_15 rfl (lv_at hl 1 rfl) ?_
    refine lv_ishr hx hb dX12_standingOf_16 ?_
    refine lv_iconst (v := 1) hx hb dX12_standingOf_17 (by decide) ?_
    refine lv_iand hx hb dX12_standingOf_18 ?_
    refine lv_iconst (v := 1) hx hb dX12_standingOf_19 (by decide) ?_
    refine lv_icmp_ne (tgt := 27) hx hb dX12_standingOf_20 (by decide) (fun c20 => ?_) (fun c20 => ?_)
    · refine lv_aload_n hx hb dX12_standingOf_27 rfl (lv_at hl 0 rfl) ?_
      refine gf_X12_113 (v := .int (σ 0 11)) hC hK hH 0 rfl rfl dX12_standingOf_28 ?_
      refine lv_iload_n hx hb dX12_standingOf_31 rfl (lv_at hl 1 rfl) ?_
      refine lv_ishr hx hb dX12_standingOf_32 ?_
      refine lv_iconst (v := 1) hx hb dX12_standingOf_33 (by decide) ?_
      refine lv_iand hx hb dX12_standingOf_34 ?_
      refine lv_if_ne (tgt := 42) hx hb dX12_standingOf_35 (by decide) (fun c35 => ?_) (fun c35 => ?_)
      · refine lv_iconst (v := 2) hx hb dX12_standingOf_42 (by decide) ?_
        exact x_iret hC hr hk hH (by first | (rw [standF, if_pos c4]; done) | (rw [standF, if_neg c4]; exact cI_t c20) | (rw [standF, if_neg c4]; refine (cI_f c20).trans ?_; first | exact if_pos c35 | exact if_neg c35)) rfl dX12_standingOf_43
      · refine lv_iconst (v := 0) hx hb dX12_standingOf_38 (by decide) ?_
        refine lv_goto (tgt := 43) hx hb dX12_standingOf_39 (by decide) ?_
        exact x_iret hC hr hk hH (by first | (rw [standF, if_pos c4]; done) | (rw [standF, if_neg c4]; exact cI_t c20) | (rw [standF, if_neg c4]; refine (cI_f c20).trans ?_; first | exact if_pos c35 | exact if_neg c35)) rfl dX12_standingOf_43
    · refine lv_iconst (v := 1) hx hb dX12_standingOf_23 (by decide) ?_
      refine lv_goto (tgt := 43) hx hb dX12_standingOf_24 (by decide) ?_
      exact x_iret hC hr hk hH (by first | (rw [standF, if_pos c4]; done) | (rw [standF, if_neg c4]; exact cI_t c20) | (rw [standF, if_neg c4]; refine (cI_f c20).trans ?_; first | exact if_pos c35 | exact if_neg c35)) rfl dX12_standingOf_43
  · refine lv_iconst (v := 2) hx hb dX12_standingOf_7 (by decide) ?_
    refine lv_goto (tgt := 43) hx hb dX12_standingOf_8 (by decide) ?_
    exact x_iret hC hr hk hH (by first | (rw [standF, if_pos c4]; done) | (rw [standF, if_neg c4]; exact cI_t c20) | (rw [standF, if_neg c4]; refine (cI_f c20).trans ?_; first | exact if_pos c35 | exact if_neg c35)) rfl dX12_standingOf_43
set_option maxHeartbeats 4000000 in
set_option maxRecDepth 100000 in
theorem k_X12_weightOf (l : Launch) (G : GP) (ad : Nat → Nat) (σ : Nat → Nat → Int32) (e : Int32) (β : Bk) (hR : RB (σ 2) β) : CT l G yX12_weightOf cX12_weightOf 5 (some .long) 0 [.ref (ad 0), .int e] (WM G ad σ) (some (.long (wgtA β e))) (WM G ad σ) := by
  refine x_meth "BetsOnBetsModel" rfl (by decide +kernel) (by rfl) (Nat.le_of_ble_eq_true rfl) ?_
  intro pP eE sS mM args below meth cC A ls hC hr hk hK hZ hA hH hl
  have hx := hC.1
  have hb := hC.2.1
  have hl : lv_has ls 5 [(0, .ref (ad 0)), (1, .int e)] := hl
  have hh4 := hR.2.2.1
  have hk6 := hR.2.2.2.1
  have pwh := pw4 hh4
  have pwk := pw6 hk6
  refine lv_lconst (v := 1) hx hb dX12_weightOf_0 (by decide) ?_
  refine lv_lstore_n (lv' := [(2, .long (1 : Int64)), (0, .ref (ad 0)), (1, .int e)]) hx hb dX12_weightOf_1 rfl hl (by decide) rfl (fun ls hl => ?_)
  refine lv_iconst (v := 0) hx hb dX12_weightOf_2 (by decide) ?_
  refine lv_istore (lv' := [(4, .int 0), (2, .long (1 : Int64)), (0, .ref (ad 0)), (1, .int e)]) hx hb dX12_weightOf_3 hl (by decide) rfl (fun ls hl => ?_)
  refine x_loop (G := G) (A := A) (H0 := sS.heap) (nL := 5) (α := Nat) (fun q_ => (bH β) - q_) (fun q_ => q_ ≤ (bH β)) (fun q_ => WM G ad σ) (fun q_ => [(0, .ref (ad 0)), (1, .int e), (2, .long (wgt β e q_)), (4, .int (nI q_))]) ?_ 0 (Nat.zero_le _) ?_ ?_
  · rintro h hi_h ih_h H locs ls hH hl
    replace hi_h : h ≤ (bH β) := hi_h
    replace hH : Hx G A (WM G ad σ) sS.heap H locs := hH
    replace hl : lv_has ls 5 [(0, .ref (ad 0)), (1, .int e), (2, .long (wgt β e h)), (4, .int (nI h))] := hl
    refine lv_iload hx hb dX12_weightOf_5 (lv_at hl 3 rfl) ?_
    refine lv_aload_n hx hb dX12_weightOf_7 rfl (lv_at hl 0 rfl) ?_
    refine gf_X12_13 (v := .ref (ad 2)) hC hK hH 0 rfl rfl dX12_weightOf_8 ?_
    refine lv_iconst (v := 0) hx hb dX12_weightOf_11 (by decide) ?_
    refine x_ialN hC hK hH 2 0 rfl rfl (by decide) (Nat.le_of_ble_eq_true rfl) dX12_weightOf_12 ?_
    refine lv_icmp_ge (tgt := 61) hx hb dX12_weightOf_13 (by decide) (fun c13 => ?_) (fun c13 => ?_)
    · have ge_h := lp_out (n := bH β) hR.1 (by omega) (by omega) c13
      have eq_h : h = bH β := by omega
      refine lv_lload_n hx hb dX12_weightOf_61 rfl (lv_at hl 2 rfl) ?_
      exact x_lret hC hr hk hH (by rw [eq_h]; rfl) rfl dX12_weightOf_62
    · have lt_h := lp_in (n := bH β) hR.1 (by omega) (by omega) c13
      refine lv_lload_n hx hb dX12_weightOf_16 rfl (lv_at hl 2 rfl) ?_
      refine x_meet1 (G := G) (A := A) (H0 := sS.heap) (nL := 5) (WM G ad σ) [(0, .ref (ad 0)), (1, .int e), (2, .long (wgt β e h)), (4, .int (nI h))] 53 [.long (wfac β e h), .long (wgt β e h)] ?_ ?_
      · intro H locs ls hH hl
        refine lv_lmul hx hb dX12_weightOf_53 ?_
        refine lv_lstore_n (lv' := [(2, .long ((wgt β e h) * (wfac β e h))), (0, .ref (ad 0)), (1, .int e), (4, .int (nI h))]) hx hb dX12_weightOf_54 rfl hl (by decide) rfl (fun ls hl => ?_)
        refine lv_iinc (v := ((nI h) + 1)) (lv' := [(4, .int ((nI h) + 1)), (2, .long ((wgt β e h) * (wfac β e h))), (0, .ref (ad 0)), (1, .int e)]) hx hb dX12_weightOf_55 hl (k := 3) rfl rfl (by decide) rfl (fun ls hl => ?_)
        refine lv_goto (tgt := 5) hx hb dX12_weightOf_58 (by decide) ?_
        exact ih_h (h + 1) (show (h + 1) ≤ (bH β) from (by omega)) (show (bH β) - (h + 1) < (bH β) - h from (by omega)) _ _ _ (hH.eq rfl) (lv_eq (lv_sub hl [2, 3, 1, 0] rfl) (lc_s (lc_s (lc_l (by first | rfl | exact nI_1 _ : ((wgt β e h) * (wfac β e h)) = (wgt β e (h + 1))) (lc_i (by first | rfl | exact nI_1 _ : ((nI h) + 1) = (nI (h + 1))) rfl)))))
      · intro kJ17
        refine lv_iload_n hx hb dX12_weightOf_17 rfl (lv_at hl 1 rfl) ?_
        refine lv_iload hx hb dX12_weightOf_18 (lv_at hl 3 rfl) ?_
        refine lv_ishr hx hb dX12_weightOf_20 ?_
        refine lv_iconst (v := 1) hx hb dX12_weightOf_21 (by decide) ?_
        refine lv_iand hx hb dX12_weightOf_22 ?_
        refine lv_iconst (v := 1) hx hb dX12_weightOf_23 (by decide) ?_
        refine lv_icmp_ne (tgt := 40) hx hb dX12_weightOf_24 (by decide) (fun c24 => ?_) (fun c24 => ?_)
        · refine lv_bipush (v := 100) hx hb dX12_weightOf_40 (by decide) ?_
          refine lv_aload_n hx hb dX12_weightOf_42 rfl (lv_at hl 0 rfl) ?_
          refine gf_X12_13 (v := .ref (ad 2)) hC hK hH 0 rfl rfl dX12_weightOf_43 ?_
          refine lv_iconst (v := 2) hx hb dX12_weightOf_46 (by decide) ?_
          refine lv_iload hx hb dX12_weightOf_47 (lv_at hl 3 rfl) ?_
          refine lv_iadd hx hb dX12_weightOf_49 ?_
          refine x_ialN hC hK hH 2 (2 + h) rfl (by rw [nIa]; rfl) (by omega) (Nat.le_of_ble_eq_true rfl) dX12_weightOf_50 ?_
          refine x_topE (y := (bC β h)) (hR.2.2.2.2.1 _ (by omega)) ?_
          refine lv_isub hx hb dX12_weightOf_51 ?_
          refine lv_i2l (v := ((100 - (bC β h)).toInt64)) hx hb dX12_weightOf_52 rfl ?_
          refine x_topL (y := (wfac β e h)) (by first | exact (cI_t c24).symm | exact (cI_f c24).symm) ?_
          exact kJ17 _ _ _ (hH.eq rfl) (lv_eq (lv_sub hl [0, 1, 2, 3] rfl) (lc_s (lc_s (lc_s (lc_s rfl)))))
        · refine lv_aload_n hx hb dX12_weightOf_27 rfl (lv_at hl 0 rfl) ?_
          refine gf_X12_13 (v := .ref (ad 2)) hC hK hH 0 rfl rfl dX12_weightOf_28 ?_
          refine lv_iconst (v := 2) hx hb dX12_weightOf_31 (by decide) ?_
          refine lv_iload hx hb dX12_weightOf_32 (lv_at hl 3 rfl) ?_
          refine lv_iadd hx hb dX12_weightOf_34 ?_
          refine x_ialN hC hK hH 2 (2 + h) rfl (by rw [nIa]; rfl) (by omega) (Nat.le_of_ble_eq_true rfl) dX12_weightOf_35 ?_
          refine x_topE (y := (bC β h)) (hR.2.2.2.2.1 _ (by omega)) ?_
          refine lv_i2l (v := ((bC β h).toInt64)) hx hb dX12_weightOf_36 rfl ?_
          refine lv_goto (tgt := 53) hx hb dX12_weightOf_37 (by decide) ?_
          refine x_topL (y := (wfac β e h)) (by first | exact (cI_t c24).symm | exact (cI_f c24).symm) ?_
          exact kJ17 _ _ _ (hH.eq rfl) (lv_eq (lv_sub hl [0, 1, 2, 3] rfl) (lc_s (lc_s (lc_s (lc_s rfl)))))
  · exact hH.eq rfl
  · exact lv_eq (lv_sub hl [2, 3, 1, 0] rfl) (lc_s (lc_s (lc_l (by first | rfl | exact nI_1 _ : (1 : Int64) = (wgt β e 0)) (lc_i (by first | rfl | exact nI_1 _ : 0 = (nI 0)) rfl))))
set_option maxHeartbeats 4000000 in
set_option maxRecDepth 100000 in
theorem k_X12_wholeWeight (l : Launch) (G : GP) (ad : Nat → Nat) (σ : Nat → Nat → Int32) (β : Bk) (hR : RB (σ 2) β) : CT l G yX12_wholeWeight cX12_wholeWeight 4 (some .long) 0 [.ref (ad 0)] (WM G ad σ) (some (.long (whl (bH β)))) (WM G ad σ) := by
  refine x_meth "BetsOnBetsModel" rfl (by decide +kernel) (by rfl) (Nat.le_of_ble_eq_true rfl) ?_
  intro pP eE sS mM args below meth cC A ls hC hr hk hK hZ hA hH hl
  have hx := hC.1
  have hb := hC.2.1
  have hl : lv_has ls 4 [(0, .ref (ad 0))] := hl
  have hh4 := hR.2.2.1
  have hk6 := hR.2.2.2.1
  have pwh := pw4 hh4
  have pwk := pw6 hk6
  refine lv_lconst (v := 1) hx hb dX12_wholeWeight_0 (by decide) ?_
  refine lv_lstore_n (lv' := [(1, .long (1 : Int64)), (0, .ref (ad 0))]) hx hb dX12_wholeWeight_1 rfl hl (by decide) rfl (fun ls hl => ?_)
  refine lv_iconst (v := 0) hx hb dX12_wholeWeight_2 (by decide) ?_
  refine lv_istore_n (lv' := [(3, .int 0), (1, .long (1 : Int64)), (0, .ref (ad 0))]) hx hb dX12_wholeWeight_3 rfl hl (by decide) rfl (fun ls hl => ?_)
  refine x_loop (G := G) (A := A) (H0 := sS.heap) (nL := 4) (α := Nat) (fun q_ => (bH β) - q_) (fun q_ => q_ ≤ (bH β)) (fun q_ => WM G ad σ) (fun q_ => [(0, .ref (ad 0)), (1, .long (whl q_)), (3, .int (nI q_))]) ?_ 0 (Nat.zero_le _) ?_ ?_
  · rintro h hi_h ih_h H locs ls hH hl
    replace hi_h : h ≤ (bH β) := hi_h
    replace hH : Hx G A (WM G ad σ) sS.heap H locs := hH
    replace hl : lv_has ls 4 [(0, .ref (ad 0)), (1, .long (whl h)), (3, .int (nI h))] := hl
    refine lv_iload_n hx hb dX12_wholeWeight_4 rfl (lv_at hl 2 rfl) ?_
    refine lv_aload_n hx hb dX12_wholeWeight_5 rfl (lv_at hl 0 rfl) ?_
    refine gf_X12_13 (v := .ref (ad 2)) hC hK hH 0 rfl rfl dX12_wholeWeight_6 ?_
    refine lv_iconst (v := 0) hx hb dX12_wholeWeight_9 (by decide) ?_
    refine x_ialN hC hK hH 2 0 rfl rfl (by decide) (Nat.le_of_ble_eq_true rfl) dX12_wholeWeight_10 ?_
    refine lv_icmp_ge (tgt := 26) hx hb dX12_wholeWeight_11 (by decide) (fun c11 => ?_) (fun c11 => ?_)
    · have ge_h := lp_out (n := bH β) hR.1 (by omega) (by omega) c11
      have eq_h : h = bH β := by omega
      refine lv_lload_n hx hb dX12_wholeWeight_26 rfl (lv_at hl 1 rfl) ?_
      exact x_lret hC hr hk hH (by rw [eq_h]) rfl dX12_wholeWeight_27
    · have lt_h := lp_in (n := bH β) hR.1 (by omega) (by omega) c11
      refine lv_lload_n hx hb dX12_wholeWeight_14 rfl (lv_at hl 1 rfl) ?_
      refine lv_ldc2 (v := 100) hx hb hC.2.2.2.1 (hC.2.2.2.2 _ wd_954) dX12_wholeWeight_15 ?_
      refine lv_lmul hx hb dX12_wholeWeight_18 ?_
      refine lv_lstore_n (lv' := [(1, .long ((whl h) * (100 : Int64))), (0, .ref (ad 0)), (3, .int (nI h))]) hx hb dX12_wholeWeight_19 rfl hl (by decide) rfl (fun ls hl => ?_)
      refine lv_iinc (v := ((nI h) + 1)) (lv' := [(3, .int ((nI h) + 1)), (1, .long ((whl h) * (100 : Int64))), (0, .ref (ad 0))]) hx hb dX12_wholeWeight_20 hl (k := 2) rfl rfl (by decide) rfl (fun ls hl => ?_)
      refine lv_goto (tgt := 4) hx hb dX12_wholeWeight_23 (by decide) ?_
      exact ih_h (h + 1) (show (h + 1) ≤ (bH β) from (by omega)) (show (bH β) - (h + 1) < (bH β) - h from (by omega)) _ _ _ (hH.eq rfl) (lv_eq (lv_sub hl [2, 1, 0] rfl) (lc_s (lc_l (by first | rfl | exact nI_1 _ : ((whl h) * (100 : Int64)) = (whl (h + 1))) (lc_i (by first | rfl | exact nI_1 _ : ((nI h) + 1) = (nI (h + 1))) rfl))))
  · exact hH.eq rfl
  · exact lv_eq (lv_sub hl [2, 1, 0] rfl) (lc_s (lc_l (by first | rfl | exact nI_1 _ : (1 : Int64) = (whl 0)) (lc_i (by first | rfl | exact nI_1 _ : 0 = (nI 0)) rfl)))
set_option maxHeartbeats 4000000 in
set_option maxRecDepth 100000 in
theorem k_X12_purseOf (l : Launch) (G : GP) (ad : Nat → Nat) (σ : Nat → Nat → Int32) (p : Int32) (e : Int32) (β : Bk) (hR : RB (σ 2) β) : CTE l G yX12_purseOf cX12_purseOf 7 (some .int) 4 [.ref (ad 0), .int p, .int e] (WM G ad σ) (some (.int (purA β p e))) (fun z => WM G ad (ua σ 0 (upd (upd (upd (upd (σ 0) 9 (z 0 9)) 10 (z 0 10)) 11 (z 0 11)) 12 (z 0 12)))) := by
  refine x_methE "BetsOnBetsModel" rfl (by decide +kernel) (fun z => by rfl) (Nat.le_of_ble_eq_true rfl) ?_
  intro pP eE sS mM args below meth cC A ls hC hr hk hK hZ hA hH hl
  have hx := hC.1
  have hb := hC.2.1
  have hl : lv_has ls 7 [(0, .ref (ad 0)), (1, .int p), (2, .int e)] := hl
  have hh4 := hR.2.2.1
  have hk6 := hR.2.2.2.1
  have pwh := pw4 hh4
  have pwk := pw6 hk6
  refine lv_aload_n hx hb dX12_purseOf_0 rfl (lv_at hl 0 rfl) ?_
  refine lv_iload_n hx hb dX12_purseOf_1 rfl (lv_at hl 2 rfl) ?_
  refine x_callVA (ws' := WM G ad (ua σ 0 (upd (upd (upd (upd (σ 0) 9 ((fwA β e).1)) 10 ((fwA β e).2.1)) 11 ((fwA β e).2.2.1)) 12 ((fwA β e).2.2.2)))) (As := [.int e]) (rest := []) (st' := []) hC hK hZ hA hl.1 hH (k_X12_findsWays l G ad σ e β hR) lk_X12_125 rfl 0 11 rfl rfl rfl ⟨Nat.le_of_ble_eq_true rfl, Nat.le_of_ble_eq_true rfl⟩ ⟨Nat.le_refl _, Nat.le_refl _⟩ (Nat.le_of_ble_eq_true rfl) rfl dX12_purseOf_2 (fun H locs hH => ?_)
  refine lv_iconst (v := 0) hx hb dX12_purseOf_5 (by decide) ?_
  refine lv_istore_n (lv' := [(3, .int 0), (0, .ref (ad 0)), (1, .int p), (2, .int e)]) hx hb dX12_purseOf_6 rfl hl (by decide) rfl (fun ls hl => ?_)
  refine lv_iconst (v := 0) hx hb dX12_purseOf_7 (by decide) ?_
  refine lv_istore (lv' := [(4, .int 0), (3, .int 0), (0, .ref (ad 0)), (1, .int p), (2, .int e)]) hx hb dX12_purseOf_8 hl (by decide) rfl (fun ls hl => ?_)
  refine x_loop (G := G) (A := A) (H0 := sS.heap) (nL := 7) (α := Nat) (fun q_ => (bK β) - q_) (fun q_ => q_ ≤ (bK β)) (fun q_ => WM G ad (ua σ 0 (upd (upd (upd (upd (σ 0) 9 ((fwA β e).1)) 10 ((fwA β e).2.1)) 11 ((fwA β e).2.2.1)) 12 ((fwA β e).2.2.2)))) (fun q_ => [(0, .ref (ad 0)), (1, .int p), (2, .int e), (3, .int (purR β p e q_)), (4, .int (nI q_))]) ?_ 0 (Nat.zero_le _) ?_ ?_
  · rintro b hi_b ih_b H locs ls hH hl
    replace hi_b : b ≤ (bK β) := hi_b
    replace hH : Hx G A (WM G ad (ua σ 0 (upd (upd (upd (upd (σ 0) 9 ((fwA β e).1)) 10 ((fwA β e).2.1)) 11 ((fwA β e).2.2.1)) 12 ((fwA β e).2.2.2)))) sS.heap H locs := hH
    replace hl : lv_has ls 7 [(0, .ref (ad 0)), (1, .int p), (2, .int e), (3, .int (purR β p e b)), (4, .int (nI b))] := hl
    refine lv_iload hx hb dX12_purseOf_10 (lv_at hl 4 rfl) ?_
    refine lv_aload_n hx hb dX12_purseOf_12 rfl (lv_at hl 0 rfl) ?_
    refine gf_X12_13 (v := .ref (ad 2)) hC hK hH 0 rfl rfl dX12_purseOf_13 ?_
    refine lv_iconst (v := 1) hx hb dX12_purseOf_16 (by decide) ?_
    refine x_ialN hC hK hH 2 1 rfl rfl (by decide) (Nat.le_of_ble_eq_true rfl) dX12_purseOf_17 ?_
    refine lv_icmp_ge (tgt := 119) hx hb dX12_purseOf_18 (by decide) (fun c18 => ?_) (fun c18 => ?_)
    · have ge_b := lp_out (n := bK β) hR.2.1 (by omega) (by omega) c18
      have eq_b : b = bK β := by omega
      refine lv_iload_n hx hb dX12_purseOf_119 rfl (lv_at hl 3 rfl) ?_
      exact x_iretE (ua σ 0 (upd (upd (upd (upd (σ 0) 9 ((fwA β e).1)) 10 ((fwA β e).2.1)) 11 ((fwA β e).2.2.1)) 12 ((fwA β e).2.2.2))) hC hr hk hH (by rw [eq_b]; rfl) rfl dX12_purseOf_120
    · have lt_b := lp_in (n := bK β) hR.2.1 (by omega) (by omega) c18
      refine x_meet1 (G := G) (A := A) (H0 := sS.heap) (nL := 7) (WM G ad (ua σ 0 (upd (upd (upd (upd (σ 0) 9 ((fwA β e).1)) 10 ((fwA β e).2.1)) 11 ((fwA β e).2.2.1)) 12 ((fwA β e).2.2.2)))) [(0, .ref (ad 0)), (1, .int p), (2, .int e), (3, .int (purR β p e b)), (4, .int (nI b))] 53 [.int (sideR β p b)] ?_ ?_
      · intro H locs ls hH hl
        refine lv_istore (lv' := [(5, .int (sideR β p b)), (0, .ref (ad 0)), (1, .int p), (2, .int e), (3, .int (purR β p e b)), (4, .int (nI b))]) hx hb dX12_purseOf_53 hl (by decide) rfl (fun ls hl => ?_)
        refine lv_aload_n hx hb dX12_purseOf_55 rfl (lv_at hl 1 rfl) ?_
        refine lv_iload hx hb dX12_purseOf_56 (lv_at hl 5 rfl) ?_
        refine x_callVA (ws' := WM G ad (ua σ 0 (upd (upd (upd (upd (σ 0) 9 ((fwA β e).1)) 10 ((fwA β e).2.1)) 11 ((fwA β e).2.2.1)) 12 ((fwA β e).2.2.2)))) (As := [.int (nI b)]) (rest := []) (st' := [.int (standF (fwA β e).1 (fwA β e).2.2.2 (fwA β e).2.2.1 (nI b))]) hC hK hZ hA hl.1 hH (k_X12_standingOf l G ad (ua σ 0 (upd (upd (upd (upd (σ 0) 9 ((fwA β e).1)) 10 ((fwA β e).2.1)) 11 ((fwA β e).2.2.1)) 12 ((fwA β e).2.2.2))) (nI b)) lk_X12_129 rfl 0 11 rfl rfl rfl ⟨Nat.le_of_ble_eq_true rfl, Nat.le_of_ble_eq_true rfl⟩ ⟨Nat.le_refl _, Nat.le_refl _⟩ (Nat.le_of_ble_eq_true rfl) rfl dX12_purseOf_58 (fun H locs hH => ?_)
        refine x_topE (y := (stP β e b)) rfl ?_
        refine lv_istore (lv' := [(6, .int (stP β e b)), (5, .int (sideR β p b)), (0, .ref (ad 0)), (1, .int p), (2, .int e), (3, .int (purR β p e b)), (4, .int (nI b))]) hx hb dX12_purseOf_61 hl (by decide) rfl (fun ls hl => ?_)
        refine lv_iload_n hx hb dX12_purseOf_63 rfl (lv_at hl 5 rfl) ?_
        refine x_meet1 (G := G) (A := A) (H0 := sS.heap) (nL := 7) (WM G ad (ua σ 0 (upd (upd (upd (upd (σ 0) 9 ((fwA β e).1)) 10 ((fwA β e).2.1)) 11 ((fwA β e).2.2.1)) 12 ((fwA β e).2.2.2)))) [(0, .ref (ad 0)), (1, .int p), (2, .int e), (3, .int (purR β p e b)), (4, .int (nI b)), (5, .int (sideR β p b)), (6, .int (stP β e b))] 111 [.int (dltR β p e b), .int (purR β p e b)] ?_ ?_
        · intro H locs ls hH hl
          refine lv_iadd hx hb dX12_purseOf_111 ?_
          refine lv_istore_n (lv' := [(3, .int ((purR β p e b) + (dltR β p e b))), (0, .ref (ad 0)), (1, .int p), (2, .int e), (4, .int (nI b)), (5, .int (sideR β p b)), (6, .int (stP β e b))]) hx hb dX12_purseOf_112 rfl hl (by decide) rfl (fun ls hl => ?_)
          refine lv_iinc (v := ((nI b) + 1)) (lv' := [(4, .int ((nI b) + 1)), (3, .int ((purR β p e b) + (dltR β p e b))), (0, .ref (ad 0)), (1, .int p), (2, .int e), (5, .int (sideR β p b)), (6, .int (stP β e b))]) hx hb dX12_purseOf_113 hl (k := 4) rfl rfl (by decide) rfl (fun ls hl => ?_)
          refine lv_goto (tgt := 10) hx hb dX12_purseOf_116 (by decide) ?_
          exact ih_b (b + 1) (show (b + 1) ≤ (bK β) from (by omega)) (show (bK β) - (b + 1) < (bK β) - b from (by omega)) _ _ _ (hH.eq rfl) (lv_eq (lv_sub hl [2, 3, 4, 1, 0] rfl) (lc_s (lc_s (lc_s (lc_i (by first | rfl | exact nI_1 _ : ((purR β p e b) + (dltR β p e b)) = (purR β p e (b + 1))) (lc_i (by first | rfl | exact nI_1 _ : ((nI b) + 1) = (nI (b + 1))) rfl))))))
        · intro kJ64
          refine lv_iload hx hb dX12_purseOf_64 (lv_at hl 0 rfl) ?_
          refine lv_iconst (v := 1) hx hb dX12_purseOf_66 (by decide) ?_
          refine lv_icmp_ne (tgt := 91) hx hb dX12_purseOf_67 (by decide) (fun c67 => ?_) (fun c67 => ?_)
          · refine lv_iload hx hb dX12_purseOf_91 (lv_at hl 0 rfl) ?_
            refine lv_if_ne (tgt := 110) hx hb dX12_purseOf_93 (by decide) (fun c93 => ?_) (fun c93 => ?_)
            · refine lv_iconst (v := 0) hx hb dX12_purseOf_110 (by decide) ?_
              refine x_topE (y := (dltR β p e b)) (by first | exact (if_pos c67).symm | exact ((if_neg c67).trans (if_pos c93)).symm | exact ((if_neg c67).trans (if_neg c93)).symm) ?_
              exact kJ64 _ _ _ (hH.eq rfl) (lv_eq (lv_sub hl [2, 3, 4, 5, 6, 1, 0] rfl) (lc_s (lc_s (lc_s (lc_s (lc_s (lc_s (lc_s rfl))))))))
            · refine lv_iload hx hb dX12_purseOf_96 (lv_at hl 1 rfl) ?_
              refine lv_ineg hx hb dX12_purseOf_98 ?_
              refine lv_aload_n hx hb dX12_purseOf_99 rfl (lv_at hl 2 rfl) ?_
              refine lv_iload hx hb dX12_purseOf_100 (lv_at hl 6 rfl) ?_
              refine lv_iconst (v := 3) hx hb dX12_purseOf_102 (by decide) ?_
              refine x_callVA (ws' := WM G ad (ua σ 0 (upd (upd (upd (upd (σ 0) 9 ((fwA β e).1)) 10 ((fwA β e).2.1)) 11 ((fwA β e).2.2.1)) 12 ((fwA β e).2.2.2)))) (As := [.int (nI b), .int 3]) (rest := [.int (-(sideR β p b)), .int (purR β p e b)]) (st' := [.int (nm β b 3), .int (-(sideR β p b)), .int (purR β p e b)]) hC hK hZ hA hl.1 hH (k_X12_get l G ad (ua σ 0 (upd (upd (upd (upd (σ 0) 9 ((fwA β e).1)) 10 ((fwA β e).2.1)) 11 ((fwA β e).2.2.1)) 12 ((fwA β e).2.2.2))) (nI b) 3 β b 3 hR rfl rfl (by omega) (by decide)) lk_X12_96 rfl 0 11 rfl rfl rfl ⟨Nat.le_of_ble_eq_true rfl, Nat.le_of_ble_eq_true rfl⟩ ⟨Nat.le_refl _, Nat.le_refl _⟩ (Nat.le_of_ble_eq_true rfl) rfl dX12_purseOf_103 (fun H locs hH => ?_)
              refine lv_imul hx hb dX12_purseOf_106 ?_
              refine lv_goto (tgt := 111) hx hb dX12_purseOf_107 (by decide) ?_
              refine x_topE (y := (dltR β p e b)) (by first | exact (if_pos c67).symm | exact ((if_neg c67).trans (if_pos c93)).symm | exact ((if_neg c67).trans (if_neg c93)).symm) ?_
              exact kJ64 _ _ _ (hH.eq rfl) (lv_eq (lv_sub hl [2, 3, 4, 5, 6, 1, 0] rfl) (lc_s (lc_s (lc_s (lc_s (lc_s (lc_s (lc_s rfl))))))))
          · refine lv_iload hx hb dX12_purseOf_70 (lv_at hl 1 rfl) ?_
            refine lv_aload_n hx hb dX12_purseOf_72 rfl (lv_at hl 2 rfl) ?_
            refine lv_iload hx hb dX12_purseOf_73 (lv_at hl 6 rfl) ?_
            refine lv_iconst (v := 3) hx hb dX12_purseOf_75 (by decide) ?_
            refine x_callVA (ws' := WM G ad (ua σ 0 (upd (upd (upd (upd (σ 0) 9 ((fwA β e).1)) 10 ((fwA β e).2.1)) 11 ((fwA β e).2.2.1)) 12 ((fwA β e).2.2.2)))) (As := [.int (nI b), .int 3]) (rest := [.int (sideR β p b), .int (purR β p e b)]) (st' := [.int (nm β b 3), .int (sideR β p b), .int (purR β p e b)]) hC hK hZ hA hl.1 hH (k_X12_get l G ad (ua σ 0 (upd (upd (upd (upd (σ 0) 9 ((fwA β e).1)) 10 ((fwA β e).2.1)) 11 ((fwA β e).2.2.1)) 12 ((fwA β e).2.2.2))) (nI b) 3 β b 3 hR rfl rfl (by omega) (by decide)) lk_X12_96 rfl 0 11 rfl rfl rfl ⟨Nat.le_of_ble_eq_true rfl, Nat.le_of_ble_eq_true rfl⟩ ⟨Nat.le_refl _, Nat.le_refl _⟩ (Nat.le_of_ble_eq_true rfl) rfl dX12_purseOf_76 (fun H locs hH => ?_)
            refine lv_imul hx hb dX12_purseOf_79 ?_
            refine lv_aload_n hx hb dX12_purseOf_80 rfl (lv_at hl 2 rfl) ?_
            refine lv_iload hx hb dX12_purseOf_81 (lv_at hl 6 rfl) ?_
            refine lv_iconst (v := 4) hx hb dX12_purseOf_83 (by decide) ?_
            refine x_callVA (ws' := WM G ad (ua σ 0 (upd (upd (upd (upd (σ 0) 9 ((fwA β e).1)) 10 ((fwA β e).2.1)) 11 ((fwA β e).2.2.1)) 12 ((fwA β e).2.2.2)))) (As := [.int (nI b), .int 4]) (rest := [.int ((sideR β p b) * (nm β b 3)), .int (purR β p e b)]) (st' := [.int (nm β b 4), .int ((sideR β p b) * (nm β b 3)), .int (purR β p e b)]) hC hK hZ hA hl.1 hH (k_X12_get l G ad (ua σ 0 (upd (upd (upd (upd (σ 0) 9 ((fwA β e).1)) 10 ((fwA β e).2.1)) 11 ((fwA β e).2.2.1)) 12 ((fwA β e).2.2.2))) (nI b) 4 β b 4 hR rfl rfl (by omega) (by decide)) lk_X12_96 rfl 0 11 rfl rfl rfl ⟨Nat.le_of_ble_eq_true rfl, Nat.le_of_ble_eq_true rfl⟩ ⟨Nat.le_refl _, Nat.le_refl _⟩ (Nat.le_of_ble_eq_true rfl) rfl dX12_purseOf_84 (fun H locs hH => ?_)
            refine lv_imul hx hb dX12_purseOf_87 ?_
            refine lv_goto (tgt := 111) hx hb dX12_purseOf_88 (by decide) ?_
            refine x_topE (y := (dltR β p e b)) (by first | exact (if_pos c67).symm | exact ((if_neg c67).trans (if_pos c93)).symm | exact ((if_neg c67).trans (if_neg c93)).symm) ?_
            exact kJ64 _ _ _ (hH.eq rfl) (lv_eq (lv_sub hl [2, 3, 4, 5, 6, 1, 0] rfl) (lc_s (lc_s (lc_s (lc_s (lc_s (lc_s (lc_s rfl))))))))
      · intro kJ21
        refine lv_aload_n hx hb dX12_purseOf_21 rfl (lv_at hl 0 rfl) ?_
        refine lv_iload hx hb dX12_purseOf_22 (lv_at hl 4 rfl) ?_
        refine lv_iconst (v := 5) hx hb dX12_purseOf_24 (by decide) ?_
        refine x_callVA (ws' := WM G ad (ua σ 0 (upd (upd (upd (upd (σ 0) 9 ((fwA β e).1)) 10 ((fwA β e).2.1)) 11 ((fwA β e).2.2.1)) 12 ((fwA β e).2.2.2)))) (As := [.int (nI b), .int 5]) (rest := []) (st' := [.int (nm β b 5)]) hC hK hZ hA hl.1 hH (k_X12_get l G ad (ua σ 0 (upd (upd (upd (upd (σ 0) 9 ((fwA β e).1)) 10 ((fwA β e).2.1)) 11 ((fwA β e).2.2.1)) 12 ((fwA β e).2.2.2))) (nI b) 5 β b 5 hR rfl rfl (by omega) (by decide)) lk_X12_96 rfl 0 11 rfl rfl rfl ⟨Nat.le_of_ble_eq_true rfl, Nat.le_of_ble_eq_true rfl⟩ ⟨Nat.le_refl _, Nat.le_refl _⟩ (Nat.le_of_ble_eq_true rfl) rfl dX12_purseOf_25 (fun H locs hH => ?_)
        refine lv_iload_n hx hb dX12_purseOf_28 rfl (lv_at hl 1 rfl) ?_
        refine lv_icmp_ne (tgt := 36) hx hb dX12_purseOf_29 (by decide) (fun c29 => ?_) (fun c29 => ?_)
        · refine lv_aload_n hx hb dX12_purseOf_36 rfl (lv_at hl 0 rfl) ?_
          refine lv_iload hx hb dX12_purseOf_37 (lv_at hl 4 rfl) ?_
          refine lv_bipush (v := 6) hx hb dX12_purseOf_39 (by decide) ?_
          refine x_callVA (ws' := WM G ad (ua σ 0 (upd (upd (upd (upd (σ 0) 9 ((fwA β e).1)) 10 ((fwA β e).2.1)) 11 ((fwA β e).2.2.1)) 12 ((fwA β e).2.2.2)))) (As := [.int (nI b), .int 6]) (rest := []) (st' := [.int (nm β b 6)]) hC hK hZ hA hl.1 hH (k_X12_get l G ad (ua σ 0 (upd (upd (upd (upd (σ 0) 9 ((fwA β e).1)) 10 ((fwA β e).2.1)) 11 ((fwA β e).2.2.1)) 12 ((fwA β e).2.2.2))) (nI b) 6 β b 6 hR rfl rfl (by omega) (by decide)) lk_X12_96 rfl 0 11 rfl rfl rfl ⟨Nat.le_of_ble_eq_true rfl, Nat.le_of_ble_eq_true rfl⟩ ⟨Nat.le_refl _, Nat.le_refl _⟩ (Nat.le_of_ble_eq_true rfl) rfl dX12_purseOf_41 (fun H locs hH => ?_)
          refine lv_iload_n hx hb dX12_purseOf_44 rfl (lv_at hl 1 rfl) ?_
          refine lv_icmp_ne (tgt := 52) hx hb dX12_purseOf_45 (by decide) (fun c45 => ?_) (fun c45 => ?_)
          · refine lv_iconst (v := 0) hx hb dX12_purseOf_52 (by decide) ?_
            refine x_topE (y := (sideR β p b)) (by first | exact (if_pos c29).symm | exact ((if_neg c29).trans (if_pos c45)).symm | exact ((if_neg c29).trans (if_neg c45)).symm) ?_
            exact kJ21 _ _ _ (hH.eq rfl) (lv_eq (lv_sub hl [0, 1, 2, 3, 4] rfl) (lc_s (lc_s (lc_s (lc_s (lc_s rfl))))))
          · refine lv_iconst (v := (-1)) hx hb dX12_purseOf_48 (by decide) ?_
            refine lv_goto (tgt := 53) hx hb dX12_purseOf_49 (by decide) ?_
            refine x_topE (y := (sideR β p b)) (by first | exact (if_pos c29).symm | exact ((if_neg c29).trans (if_pos c45)).symm | exact ((if_neg c29).trans (if_neg c45)).symm) ?_
            exact kJ21 _ _ _ (hH.eq rfl) (lv_eq (lv_sub hl [0, 1, 2, 3, 4] rfl) (lc_s (lc_s (lc_s (lc_s (lc_s rfl))))))
        · refine lv_iconst (v := 1) hx hb dX12_purseOf_32 (by decide) ?_
          refine lv_goto (tgt := 53) hx hb dX12_purseOf_33 (by decide) ?_
          refine x_topE (y := (sideR β p b)) (by first | exact (if_pos c29).symm | exact ((if_neg c29).trans (if_pos c45)).symm | exact ((if_neg c29).trans (if_neg c45)).symm) ?_
          exact kJ21 _ _ _ (hH.eq rfl) (lv_eq (lv_sub hl [0, 1, 2, 3, 4] rfl) (lc_s (lc_s (lc_s (lc_s (lc_s rfl))))))
  · exact hH.eq rfl
  · exact lv_eq (lv_sub hl [2, 3, 4, 1, 0] rfl) (lc_s (lc_s (lc_s (lc_i (by first | rfl | exact nI_1 _ : 0 = (purR β p e 0)) (lc_i (by first | rfl | exact nI_1 _ : 0 = (nI 0)) rfl)))))
end
