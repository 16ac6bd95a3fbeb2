section
-- ===== PART A: goes FIRST, ahead of the names: the tables' words, and 'selects' of the private methods out of them =====
/-- a private method of a class that the tables say can be made, by its rows of tables_1 -/
def lw_okq (q : MethodName × Nat) : Prop := (q.1.cls ≠ "java/lang/invoke/MethodHandle" ∧ q.1.cls ≠ "java/lang/invoke/VarHandle") ∧ Cond.instantiable q.1.cls q.2 ∈ tables_1 ∧ Cond.privateMethod q.1 ∈ tables_1 ∧ Cond.instanceMethod q.1 ∈ tables_1
theorem lw_p0 : lw_okq (⟨"java/lang/Throwable", "fillInStackTrace", "(I)Ljava/lang/Throwable;"⟩, 6) := ⟨⟨by decide +kernel, by decide +kernel⟩, List.mem_of_getElem? (i := 346) (by decide +kernel), List.mem_of_getElem? (i := 344) (by decide +kernel), List.mem_of_getElem? (i := 345) (by decide +kernel)⟩
theorem lw_p1 : lw_okq (⟨"CreditLink$Host", "firstClosed", "()LCreditLink$Channel;"⟩, 14) := ⟨⟨by decide +kernel, by decide +kernel⟩, List.mem_of_getElem? (i := 33) (by decide +kernel), List.mem_of_getElem? (i := 386) (by decide +kernel), List.mem_of_getElem? (i := 387) (by decide +kernel)⟩
theorem lw_p2 : lw_okq (⟨"CreditLink$Host", "nextId", "()I"⟩, 14) := ⟨⟨by decide +kernel, by decide +kernel⟩, List.mem_of_getElem? (i := 33) (by decide +kernel), List.mem_of_getElem? (i := 398) (by decide +kernel), List.mem_of_getElem? (i := 399) (by decide +kernel)⟩
theorem lw_p3 : lw_okq (⟨"CreditLink$Host", "addSignal", "(III)LCreditLink$Row;"⟩, 14) := ⟨⟨by decide +kernel, by decide +kernel⟩, List.mem_of_getElem? (i := 33) (by decide +kernel), List.mem_of_getElem? (i := 402) (by decide +kernel), List.mem_of_getElem? (i := 403) (by decide +kernel)⟩
theorem lw_p4 : lw_okq (⟨"java/util/ArrayList", "add", "(Ljava/lang/Object;[Ljava/lang/Object;I)V"⟩, 3) := ⟨⟨by decide +kernel, by decide +kernel⟩, List.mem_of_getElem? (i := 189) (by decide +kernel), List.mem_of_getElem? (i := 422) (by decide +kernel), List.mem_of_getElem? (i := 423) (by decide +kernel)⟩
theorem lw_p5 : lw_okq (⟨"java/util/ArrayList", "grow", "()[Ljava/lang/Object;"⟩, 3) := ⟨⟨by decide +kernel, by decide +kernel⟩, List.mem_of_getElem? (i := 189) (by decide +kernel), List.mem_of_getElem? (i := 426) (by decide +kernel), List.mem_of_getElem? (i := 427) (by decide +kernel)⟩
theorem lw_p6 : lw_okq (⟨"java/util/ArrayList", "grow", "(I)[Ljava/lang/Object;"⟩, 3) := ⟨⟨by decide +kernel, by decide +kernel⟩, List.mem_of_getElem? (i := 189) (by decide +kernel), List.mem_of_getElem? (i := 430) (by decide +kernel), List.mem_of_getElem? (i := 431) (by decide +kernel)⟩
theorem lw_p7 : lw_okq (⟨"CreditLink", "sendWhatCanGo", "()V"⟩, 3) := ⟨⟨by decide +kernel, by decide +kernel⟩, List.mem_of_getElem? (i := 24) (by decide +kernel), List.mem_of_getElem? (i := 476) (by decide +kernel), List.mem_of_getElem? (i := 477) (by decide +kernel)⟩
theorem lw_p8 : lw_okq (⟨"CreditLink$Host", "hasUnit", "()Z"⟩, 14) := ⟨⟨by decide +kernel, by decide +kernel⟩, List.mem_of_getElem? (i := 33) (by decide +kernel), List.mem_of_getElem? (i := 492) (by decide +kernel), List.mem_of_getElem? (i := 493) (by decide +kernel)⟩
theorem lw_p9 : lw_okq (⟨"CreditLink$Host", "beginSignal", "()Z"⟩, 14) := ⟨⟨by decide +kernel, by decide +kernel⟩, List.mem_of_getElem? (i := 33) (by decide +kernel), List.mem_of_getElem? (i := 496) (by decide +kernel), List.mem_of_getElem? (i := 497) (by decide +kernel)⟩
theorem lw_p10 : lw_okq (⟨"java/util/ArrayList", "fastRemove", "([Ljava/lang/Object;I)V"⟩, 3) := ⟨⟨by decide +kernel, by decide +kernel⟩, List.mem_of_getElem? (i := 189) (by decide +kernel), List.mem_of_getElem? (i := 514) (by decide +kernel), List.mem_of_getElem? (i := 515) (by decide +kernel)⟩
theorem lw_p11 : lw_okq (⟨"CreditLink$Host", "beginSegment", "()Z"⟩, 14) := ⟨⟨by decide +kernel, by decide +kernel⟩, List.mem_of_getElem? (i := 33) (by decide +kernel), List.mem_of_getElem? (i := 524) (by decide +kernel), List.mem_of_getElem? (i := 525) (by decide +kernel)⟩
theorem lw_p12 : lw_okq (⟨"CreditLink$Host", "dropGathered", "()V"⟩, 14) := ⟨⟨by decide +kernel, by decide +kernel⟩, List.mem_of_getElem? (i := 33) (by decide +kernel), List.mem_of_getElem? (i := 640) (by decide +kernel), List.mem_of_getElem? (i := 641) (by decide +kernel)⟩
theorem lw_p13 : lw_okq (⟨"CreditLink$Host", "handleSignal", "()V"⟩, 14) := ⟨⟨by decide +kernel, by decide +kernel⟩, List.mem_of_getElem? (i := 33) (by decide +kernel), List.mem_of_getElem? (i := 652) (by decide +kernel), List.mem_of_getElem? (i := 653) (by decide +kernel)⟩
theorem lw_p14 : lw_okq (⟨"CreditLink$Host", "onRequest", "(I)V"⟩, 14) := ⟨⟨by decide +kernel, by decide +kernel⟩, List.mem_of_getElem? (i := 33) (by decide +kernel), List.mem_of_getElem? (i := 660) (by decide +kernel), List.mem_of_getElem? (i := 661) (by decide +kernel)⟩
theorem lw_p15 : lw_okq (⟨"CreditLink$Host", "told", "(I)I"⟩, 14) := ⟨⟨by decide +kernel, by decide +kernel⟩, List.mem_of_getElem? (i := 33) (by decide +kernel), List.mem_of_getElem? (i := 664) (by decide +kernel), List.mem_of_getElem? (i := 665) (by decide +kernel)⟩
def lw_privs_1 : List (MethodName × Nat) := [(⟨"java/lang/Throwable", "fillInStackTrace", "(I)Ljava/lang/Throwable;"⟩, 6), (⟨"CreditLink$Host", "firstClosed", "()LCreditLink$Channel;"⟩, 14), (⟨"CreditLink$Host", "nextId", "()I"⟩, 14), (⟨"CreditLink$Host", "addSignal", "(III)LCreditLink$Row;"⟩, 14), (⟨"java/util/ArrayList", "add", "(Ljava/lang/Object;[Ljava/lang/Object;I)V"⟩, 3), (⟨"java/util/ArrayList", "grow", "()[Ljava/lang/Object;"⟩, 3), (⟨"java/util/ArrayList", "grow", "(I)[Ljava/lang/Object;"⟩, 3), (⟨"CreditLink", "sendWhatCanGo", "()V"⟩, 3), (⟨"CreditLink$Host", "hasUnit", "()Z"⟩, 14), (⟨"CreditLink$Host", "beginSignal", "()Z"⟩, 14), (⟨"java/util/ArrayList", "fastRemove", "([Ljava/lang/Object;I)V"⟩, 3), (⟨"CreditLink$Host", "beginSegment", "()Z"⟩, 14), (⟨"CreditLink$Host", "dropGathered", "()V"⟩, 14), (⟨"CreditLink$Host", "handleSignal", "()V"⟩, 14), (⟨"CreditLink$Host", "onRequest", "(I)V"⟩, 14), (⟨"CreditLink$Host", "told", "(I)I"⟩, 14)]
theorem lw_r1 : ∀ q ∈ lw_privs_1, lw_okq q := List.forall_mem_cons.mpr ⟨lw_p0, List.forall_mem_cons.mpr ⟨lw_p1, List.forall_mem_cons.mpr ⟨lw_p2, List.forall_mem_cons.mpr ⟨lw_p3, List.forall_mem_cons.mpr ⟨lw_p4, List.forall_mem_cons.mpr ⟨lw_p5, List.forall_mem_cons.mpr ⟨lw_p6, List.forall_mem_cons.mpr ⟨lw_p7, List.forall_mem_cons.mpr ⟨lw_p8, List.forall_mem_cons.mpr ⟨lw_p9, List.forall_mem_cons.mpr ⟨lw_p10, List.forall_mem_cons.mpr ⟨lw_p11, List.forall_mem_cons.mpr ⟨lw_p12, List.forall_mem_cons.mpr ⟨lw_p13, List.forall_mem_cons.mpr ⟨lw_p14, List.forall_mem_cons.mpr ⟨lw_p15, fun _ h => absurd h List.not_mem_nil⟩⟩⟩⟩⟩⟩⟩⟩⟩⟩⟩⟩⟩⟩⟩⟩
theorem lw_p16 : lw_okq (⟨"CreditLink$Host", "judgeRequest", "(IIII)I"⟩, 14) := ⟨⟨by decide +kernel, by decide +kernel⟩, List.mem_of_getElem? (i := 33) (by decide +kernel), List.mem_of_getElem? (i := 668) (by decide +kernel), List.mem_of_getElem? (i := 669) (by decide +kernel)⟩
theorem lw_p17 : lw_okq (⟨"CreditLink$Host", "onAnswer", "(I)V"⟩, 14) := ⟨⟨by decide +kernel, by decide +kernel⟩, List.mem_of_getElem? (i := 33) (by decide +kernel), List.mem_of_getElem? (i := 687) (by decide +kernel), List.mem_of_getElem? (i := 688) (by decide +kernel)⟩
theorem lw_p18 : lw_okq (⟨"CreditLink$Host", "firstBySignal", "(IZ)LCreditLink$Channel;"⟩, 14) := ⟨⟨by decide +kernel, by decide +kernel⟩, List.mem_of_getElem? (i := 33) (by decide +kernel), List.mem_of_getElem? (i := 691) (by decide +kernel), List.mem_of_getElem? (i := 692) (by decide +kernel)⟩
theorem lw_p19 : lw_okq (⟨"CreditLink$Host", "onCredit", "()V"⟩, 14) := ⟨⟨by decide +kernel, by decide +kernel⟩, List.mem_of_getElem? (i := 33) (by decide +kernel), List.mem_of_getElem? (i := 700) (by decide +kernel), List.mem_of_getElem? (i := 701) (by decide +kernel)⟩
theorem lw_p20 : lw_okq (⟨"CreditLink$Host", "onLeave", "(I)V"⟩, 14) := ⟨⟨by decide +kernel, by decide +kernel⟩, List.mem_of_getElem? (i := 33) (by decide +kernel), List.mem_of_getElem? (i := 706) (by decide +kernel), List.mem_of_getElem? (i := 707) (by decide +kernel)⟩
theorem lw_p21 : lw_okq (⟨"CreditLink$Host", "onLeft", "()V"⟩, 14) := ⟨⟨by decide +kernel, by decide +kernel⟩, List.mem_of_getElem? (i := 33) (by decide +kernel), List.mem_of_getElem? (i := 711) (by decide +kernel), List.mem_of_getElem? (i := 712) (by decide +kernel)⟩
theorem lw_p22 : lw_okq (⟨"CreditLink$Host", "onReject", "(I)V"⟩, 14) := ⟨⟨by decide +kernel, by decide +kernel⟩, List.mem_of_getElem? (i := 33) (by decide +kernel), List.mem_of_getElem? (i := 715) (by decide +kernel), List.mem_of_getElem? (i := 716) (by decide +kernel)⟩
theorem lw_p23 : lw_okq (⟨"CreditLink$Host", "handleSegment", "(I)V"⟩, 14) := ⟨⟨by decide +kernel, by decide +kernel⟩, List.mem_of_getElem? (i := 33) (by decide +kernel), List.mem_of_getElem? (i := 719) (by decide +kernel), List.mem_of_getElem? (i := 720) (by decide +kernel)⟩
theorem lw_p24 : lw_okq (⟨"CreditLink$Channel", "keepWholeText", "()Z"⟩, 15) := ⟨⟨by decide +kernel, by decide +kernel⟩, List.mem_of_getElem? (i := 40) (by decide +kernel), List.mem_of_getElem? (i := 728) (by decide +kernel), List.mem_of_getElem? (i := 729) (by decide +kernel)⟩
theorem lw_p25 : lw_okq (⟨"CreditLinkModel", "refused", "(I)Z"⟩, 48) := ⟨⟨by decide +kernel, by decide +kernel⟩, List.mem_of_getElem? (i := 779) (by decide +kernel), List.mem_of_getElem? (i := 943) (by decide +kernel), List.mem_of_getElem? (i := 944) (by decide +kernel)⟩
theorem lw_p26 : lw_okq (⟨"CreditLinkModel", "shift", "(I)I"⟩, 48) := ⟨⟨by decide +kernel, by decide +kernel⟩, List.mem_of_getElem? (i := 779) (by decide +kernel), List.mem_of_getElem? (i := 947) (by decide +kernel), List.mem_of_getElem? (i := 948) (by decide +kernel)⟩
theorem lw_p27 : lw_okq (⟨"CreditLinkModel", "gather", "(IIZ)V"⟩, 48) := ⟨⟨by decide +kernel, by decide +kernel⟩, List.mem_of_getElem? (i := 779) (by decide +kernel), List.mem_of_getElem? (i := 951) (by decide +kernel), List.mem_of_getElem? (i := 952) (by decide +kernel)⟩
theorem lw_p28 : lw_okq (⟨"CreditLinkModel", "unit", "(I)V"⟩, 48) := ⟨⟨by decide +kernel, by decide +kernel⟩, List.mem_of_getElem? (i := 779) (by decide +kernel), List.mem_of_getElem? (i := 956) (by decide +kernel), List.mem_of_getElem? (i := 957) (by decide +kernel)⟩
theorem lw_p29 : lw_okq (⟨"CreditLinkModel", "signal", "(II)V"⟩, 48) := ⟨⟨by decide +kernel, by decide +kernel⟩, List.mem_of_getElem? (i := 779) (by decide +kernel), List.mem_of_getElem? (i := 960) (by decide +kernel), List.mem_of_getElem? (i := 961) (by decide +kernel)⟩
theorem lw_p30 : lw_okq (⟨"CreditLinkModel", "handTwo", "(I)I"⟩, 48) := ⟨⟨by decide +kernel, by decide +kernel⟩, List.mem_of_getElem? (i := 779) (by decide +kernel), List.mem_of_getElem? (i := 964) (by decide +kernel), List.mem_of_getElem? (i := 965) (by decide +kernel)⟩
theorem lw_p31 : lw_okq (⟨"CreditLinkModel", "reject", "(IIII)V"⟩, 48) := ⟨⟨by decide +kernel, by decide +kernel⟩, List.mem_of_getElem? (i := 779) (by decide +kernel), List.mem_of_getElem? (i := 971) (by decide +kernel), List.mem_of_getElem? (i := 972) (by decide +kernel)⟩
def lw_privs_2 : List (MethodName × Nat) := [(⟨"CreditLink$Host", "judgeRequest", "(IIII)I"⟩, 14), (⟨"CreditLink$Host", "onAnswer", "(I)V"⟩, 14), (⟨"CreditLink$Host", "firstBySignal", "(IZ)LCreditLink$Channel;"⟩, 14), (⟨"CreditLink$Host", "onCredit", "()V"⟩, 14), (⟨"CreditLink$Host", "onLeave", "(I)V"⟩, 14), (⟨"CreditLink$Host", "onLeft", "()V"⟩, 14), (⟨"CreditLink$Host", "onReject", "(I)V"⟩, 14), (⟨"CreditLink$Host", "handleSegment", "(I)V"⟩, 14), (⟨"CreditLink$Channel", "keepWholeText", "()Z"⟩, 15), (⟨"CreditLinkModel", "refused", "(I)Z"⟩, 48), (⟨"CreditLinkModel", "shift", "(I)I"⟩, 48), (⟨"CreditLinkModel", "gather", "(IIZ)V"⟩, 48), (⟨"CreditLinkModel", "unit", "(I)V"⟩, 48), (⟨"CreditLinkModel", "signal", "(II)V"⟩, 48), (⟨"CreditLinkModel", "handTwo", "(I)I"⟩, 48), (⟨"CreditLinkModel", "reject", "(IIII)V"⟩, 48)]
theorem lw_r2 : ∀ q ∈ lw_privs_2, lw_okq q := List.forall_mem_cons.mpr ⟨lw_p16, List.forall_mem_cons.mpr ⟨lw_p17, List.forall_mem_cons.mpr ⟨lw_p18, List.forall_mem_cons.mpr ⟨lw_p19, List.forall_mem_cons.mpr ⟨lw_p20, List.forall_mem_cons.mpr ⟨lw_p21, List.forall_mem_cons.mpr ⟨lw_p22, List.forall_mem_cons.mpr ⟨lw_p23, List.forall_mem_cons.mpr ⟨lw_p24, List.forall_mem_cons.mpr ⟨lw_p25, List.forall_mem_cons.mpr ⟨lw_p26, List.forall_mem_cons.mpr ⟨lw_p27, List.forall_mem_cons.mpr ⟨lw_p28, List.forall_mem_cons.mpr ⟨lw_p29, List.forall_mem_cons.mpr ⟨lw_p30, List.forall_mem_cons.mpr ⟨lw_p31, fun _ h => absurd h List.not_mem_nil⟩⟩⟩⟩⟩⟩⟩⟩⟩⟩⟩⟩⟩⟩⟩⟩
theorem lw_p32 : lw_okq (⟨"CreditLinkModel", "begin", "(III)V"⟩, 48) := ⟨⟨by decide +kernel, by decide +kernel⟩, List.mem_of_getElem? (i := 779) (by decide +kernel), List.mem_of_getElem? (i := 975) (by decide +kernel), List.mem_of_getElem? (i := 976) (by decide +kernel)⟩
theorem lw_p33 : lw_okq (⟨"CreditLinkModel", "two", "(I)V"⟩, 48) := ⟨⟨by decide +kernel, by decide +kernel⟩, List.mem_of_getElem? (i := 779) (by decide +kernel), List.mem_of_getElem? (i := 979) (by decide +kernel), List.mem_of_getElem? (i := 980) (by decide +kernel)⟩
theorem lw_p34 : lw_okq (⟨"CreditLinkModel", "wait", "(I)V"⟩, 48) := ⟨⟨by decide +kernel, by decide +kernel⟩, List.mem_of_getElem? (i := 779) (by decide +kernel), List.mem_of_getElem? (i := 983) (by decide +kernel), List.mem_of_getElem? (i := 984) (by decide +kernel)⟩
theorem lw_p35 : lw_okq (⟨"CreditLinkModel", "request", "(II)V"⟩, 48) := ⟨⟨by decide +kernel, by decide +kernel⟩, List.mem_of_getElem? (i := 779) (by decide +kernel), List.mem_of_getElem? (i := 987) (by decide +kernel), List.mem_of_getElem? (i := 988) (by decide +kernel)⟩
theorem lw_p36 : lw_okq (⟨"CreditLinkModel", "resultOf", "(IIIII)I"⟩, 48) := ⟨⟨by decide +kernel, by decide +kernel⟩, List.mem_of_getElem? (i := 779) (by decide +kernel), List.mem_of_getElem? (i := 991) (by decide +kernel), List.mem_of_getElem? (i := 992) (by decide +kernel)⟩
theorem lw_p37 : lw_okq (⟨"CreditLinkModel", "firstClosed", "(I)I"⟩, 48) := ⟨⟨by decide +kernel, by decide +kernel⟩, List.mem_of_getElem? (i := 779) (by decide +kernel), List.mem_of_getElem? (i := 998) (by decide +kernel), List.mem_of_getElem? (i := 999) (by decide +kernel)⟩
theorem lw_p38 : lw_okq (⟨"CreditLinkModel", "credit", "(I)V"⟩, 48) := ⟨⟨by decide +kernel, by decide +kernel⟩, List.mem_of_getElem? (i := 779) (by decide +kernel), List.mem_of_getElem? (i := 1002) (by decide +kernel), List.mem_of_getElem? (i := 1003) (by decide +kernel)⟩
theorem lw_p39 : lw_okq (⟨"CreditLinkModel", "leaveNow", "(II)V"⟩, 48) := ⟨⟨by decide +kernel, by decide +kernel⟩, List.mem_of_getElem? (i := 779) (by decide +kernel), List.mem_of_getElem? (i := 1006) (by decide +kernel), List.mem_of_getElem? (i := 1007) (by decide +kernel)⟩
theorem lw_p40 : lw_okq (⟨"CreditLinkModel", "dropTexts", "(I)V"⟩, 48) := ⟨⟨by decide +kernel, by decide +kernel⟩, List.mem_of_getElem? (i := 779) (by decide +kernel), List.mem_of_getElem? (i := 1010) (by decide +kernel), List.mem_of_getElem? (i := 1011) (by decide +kernel)⟩
theorem lw_p41 : lw_okq (⟨"CreditLinkModel", "takeId", "(I)I"⟩, 48) := ⟨⟨by decide +kernel, by decide +kernel⟩, List.mem_of_getElem? (i := 779) (by decide +kernel), List.mem_of_getElem? (i := 1014) (by decide +kernel), List.mem_of_getElem? (i := 1015) (by decide +kernel)⟩
theorem lw_p42 : lw_okq (⟨"CreditLinkModel", "close", "(I)V"⟩, 48) := ⟨⟨by decide +kernel, by decide +kernel⟩, List.mem_of_getElem? (i := 779) (by decide +kernel), List.mem_of_getElem? (i := 1018) (by decide +kernel), List.mem_of_getElem? (i := 1019) (by decide +kernel)⟩
theorem lw_p43 : lw_okq (⟨"CreditLinkModel", "byId", "(III)V"⟩, 48) := ⟨⟨by decide +kernel, by decide +kernel⟩, List.mem_of_getElem? (i := 779) (by decide +kernel), List.mem_of_getElem? (i := 1022) (by decide +kernel), List.mem_of_getElem? (i := 1023) (by decide +kernel)⟩
theorem lw_p44 : lw_okq (⟨"CreditLinkModel", "response", "(I)V"⟩, 48) := ⟨⟨by decide +kernel, by decide +kernel⟩, List.mem_of_getElem? (i := 779) (by decide +kernel), List.mem_of_getElem? (i := 1026) (by decide +kernel), List.mem_of_getElem? (i := 1027) (by decide +kernel)⟩
theorem lw_p45 : lw_okq (⟨"CreditLinkModel", "segment", "(IIII)V"⟩, 48) := ⟨⟨by decide +kernel, by decide +kernel⟩, List.mem_of_getElem? (i := 779) (by decide +kernel), List.mem_of_getElem? (i := 1030) (by decide +kernel), List.mem_of_getElem? (i := 1031) (by decide +kernel)⟩
theorem lw_p46 : lw_okq (⟨"CreditLinkModel", "sendBoth", "()V"⟩, 48) := ⟨⟨by decide +kernel, by decide +kernel⟩, List.mem_of_getElem? (i := 779) (by decide +kernel), List.mem_of_getElem? (i := 1034) (by decide +kernel), List.mem_of_getElem? (i := 1035) (by decide +kernel)⟩
theorem lw_p47 : lw_okq (⟨"CreditLinkModel", "sendAll", "(I)V"⟩, 48) := ⟨⟨by decide +kernel, by decide +kernel⟩, List.mem_of_getElem? (i := 779) (by decide +kernel), List.mem_of_getElem? (i := 1038) (by decide +kernel), List.mem_of_getElem? (i := 1039) (by decide +kernel)⟩
def lw_privs_3 : List (MethodName × Nat) := [(⟨"CreditLinkModel", "begin", "(III)V"⟩, 48), (⟨"CreditLinkModel", "two", "(I)V"⟩, 48), (⟨"CreditLinkModel", "wait", "(I)V"⟩, 48), (⟨"CreditLinkModel", "request", "(II)V"⟩, 48), (⟨"CreditLinkModel", "resultOf", "(IIIII)I"⟩, 48), (⟨"CreditLinkModel", "firstClosed", "(I)I"⟩, 48), (⟨"CreditLinkModel", "credit", "(I)V"⟩, 48), (⟨"CreditLinkModel", "leaveNow", "(II)V"⟩, 48), (⟨"CreditLinkModel", "dropTexts", "(I)V"⟩, 48), (⟨"CreditLinkModel", "takeId", "(I)I"⟩, 48), (⟨"CreditLinkModel", "close", "(I)V"⟩, 48), (⟨"CreditLinkModel", "byId", "(III)V"⟩, 48), (⟨"CreditLinkModel", "response", "(I)V"⟩, 48), (⟨"CreditLinkModel", "segment", "(IIII)V"⟩, 48), (⟨"CreditLinkModel", "sendBoth", "()V"⟩, 48), (⟨"CreditLinkModel", "sendAll", "(I)V"⟩, 48)]
theorem lw_r3 : ∀ q ∈ lw_privs_3, lw_okq q := List.forall_mem_cons.mpr ⟨lw_p32, List.forall_mem_cons.mpr ⟨lw_p33, List.forall_mem_cons.mpr ⟨lw_p34, List.forall_mem_cons.mpr ⟨lw_p35, List.forall_mem_cons.mpr ⟨lw_p36, List.forall_mem_cons.mpr ⟨lw_p37, List.forall_mem_cons.mpr ⟨lw_p38, List.forall_mem_cons.mpr ⟨lw_p39, List.forall_mem_cons.mpr ⟨lw_p40, List.forall_mem_cons.mpr ⟨lw_p41, List.forall_mem_cons.mpr ⟨lw_p42, List.forall_mem_cons.mpr ⟨lw_p43, List.forall_mem_cons.mpr ⟨lw_p44, List.forall_mem_cons.mpr ⟨lw_p45, List.forall_mem_cons.mpr ⟨lw_p46, List.forall_mem_cons.mpr ⟨lw_p47, fun _ h => absurd h List.not_mem_nil⟩⟩⟩⟩⟩⟩⟩⟩⟩⟩⟩⟩⟩⟩⟩⟩
theorem lw_p48 : lw_okq (⟨"CreditLinkModel", "buffersOf", "(I)I"⟩, 48) := ⟨⟨by decide +kernel, by decide +kernel⟩, List.mem_of_getElem? (i := 779) (by decide +kernel), List.mem_of_getElem? (i := 1042) (by decide +kernel), List.mem_of_getElem? (i := 1043) (by decide +kernel)⟩
theorem lw_p49 : lw_okq (⟨"CreditLinkModel", "nextChannel", "(I)I"⟩, 48) := ⟨⟨by decide +kernel, by decide +kernel⟩, List.mem_of_getElem? (i := 779) (by decide +kernel), List.mem_of_getElem? (i := 1046) (by decide +kernel), List.mem_of_getElem? (i := 1047) (by decide +kernel)⟩
theorem lw_p50 : lw_okq (⟨"CreditLinkModel", "beginSignal", "(I)V"⟩, 48) := ⟨⟨by decide +kernel, by decide +kernel⟩, List.mem_of_getElem? (i := 779) (by decide +kernel), List.mem_of_getElem? (i := 1050) (by decide +kernel), List.mem_of_getElem? (i := 1051) (by decide +kernel)⟩
theorem lw_p51 : lw_okq (⟨"CreditLinkModel", "unitHead", "(III)V"⟩, 48) := ⟨⟨by decide +kernel, by decide +kernel⟩, List.mem_of_getElem? (i := 779) (by decide +kernel), List.mem_of_getElem? (i := 1054) (by decide +kernel), List.mem_of_getElem? (i := 1055) (by decide +kernel)⟩
theorem lw_p52 : lw_okq (⟨"CreditLinkModel", "unitByte", "(II)V"⟩, 48) := ⟨⟨by decide +kernel, by decide +kernel⟩, List.mem_of_getElem? (i := 779) (by decide +kernel), List.mem_of_getElem? (i := 1058) (by decide +kernel), List.mem_of_getElem? (i := 1059) (by decide +kernel)⟩
theorem lw_p53 : lw_okq (⟨"CreditLinkModel", "beginSegment", "(II)V"⟩, 48) := ⟨⟨by decide +kernel, by decide +kernel⟩, List.mem_of_getElem? (i := 779) (by decide +kernel), List.mem_of_getElem? (i := 1062) (by decide +kernel), List.mem_of_getElem? (i := 1063) (by decide +kernel)⟩
theorem lw_p54 : lw_okq (⟨"CreditLinkModel", "textByte", "(II)I"⟩, 48) := ⟨⟨by decide +kernel, by decide +kernel⟩, List.mem_of_getElem? (i := 779) (by decide +kernel), List.mem_of_getElem? (i := 1066) (by decide +kernel), List.mem_of_getElem? (i := 1067) (by decide +kernel)⟩
theorem lw_p55 : lw_okq (⟨"CreditLinkModel", "post", "(IIIZZI)V"⟩, 48) := ⟨⟨by decide +kernel, by decide +kernel⟩, List.mem_of_getElem? (i := 779) (by decide +kernel), List.mem_of_getElem? (i := 1070) (by decide +kernel), List.mem_of_getElem? (i := 1071) (by decide +kernel)⟩
theorem lw_p56 : lw_okq (⟨"CreditLinkModel", "wrong", "(IIZ)I"⟩, 48) := ⟨⟨by decide +kernel, by decide +kernel⟩, List.mem_of_getElem? (i := 779) (by decide +kernel), List.mem_of_getElem? (i := 1105) (by decide +kernel), List.mem_of_getElem? (i := 1106) (by decide +kernel)⟩
def lw_privs_4 : List (MethodName × Nat) := [(⟨"CreditLinkModel", "buffersOf", "(I)I"⟩, 48), (⟨"CreditLinkModel", "nextChannel", "(I)I"⟩, 48), (⟨"CreditLinkModel", "beginSignal", "(I)V"⟩, 48), (⟨"CreditLinkModel", "unitHead", "(III)V"⟩, 48), (⟨"CreditLinkModel", "unitByte", "(II)V"⟩, 48), (⟨"CreditLinkModel", "beginSegment", "(II)V"⟩, 48), (⟨"CreditLinkModel", "textByte", "(II)I"⟩, 48), (⟨"CreditLinkModel", "post", "(IIIZZI)V"⟩, 48), (⟨"CreditLinkModel", "wrong", "(IIZ)I"⟩, 48)]
theorem lw_r4 : ∀ q ∈ lw_privs_4, lw_okq q := List.forall_mem_cons.mpr ⟨lw_p48, List.forall_mem_cons.mpr ⟨lw_p49, List.forall_mem_cons.mpr ⟨lw_p50, List.forall_mem_cons.mpr ⟨lw_p51, List.forall_mem_cons.mpr ⟨lw_p52, List.forall_mem_cons.mpr ⟨lw_p53, List.forall_mem_cons.mpr ⟨lw_p54, List.forall_mem_cons.mpr ⟨lw_p55, List.forall_mem_cons.mpr ⟨lw_p56, fun _ h => absurd h List.not_mem_nil⟩⟩⟩⟩⟩⟩⟩⟩⟩
def lw_privs : List (MethodName × Nat) := lw_privs_1 ++ (lw_privs_2 ++ (lw_privs_3 ++ (lw_privs_4)))
def lw_tbl : List Cond := k2_sels lw_privs ++ tables_1
theorem lw_privs_ok : ∀ q ∈ lw_privs, lw_okq q := by
  show ∀ q ∈ lw_privs_1 ++ (lw_privs_2 ++ (lw_privs_3 ++ (lw_privs_4))), lw_okq q
  exact List.forall_mem_append.mpr ⟨lw_r1, List.forall_mem_append.mpr ⟨lw_r2, List.forall_mem_append.mpr ⟨lw_r3, lw_r4⟩⟩⟩
end
section
def RX0 : String := "CreditLink$Channel"
def TX0 : u_T := fun k => match k with
  | 0 => ("CreditLink$Channel", "number", "I", true)
  | 1 => ("CreditLink$Channel", "state", "I", false)
  | 2 => ("CreditLink$Channel", "id", "I", false)
  | 3 => ("CreditLink$Channel", "mtu", "I", false)
  | 4 => ("CreditLink$Channel", "mps", "I", false)
  | 5 => ("CreditLink$Channel", "given", "I", false)
  | 6 => ("CreditLink$Channel", "far", "I", false)
  | 7 => ("CreditLink$Channel", "farMtu", "I", false)
  | 8 => ("CreditLink$Channel", "farMps", "I", false)
  | 9 => ("CreditLink$Channel", "credits", "I", false)
  | 10 => ("CreditLink$Channel", "toSend", "LCreditLink$Texts;", true)
  | 11 => ("CreditLink$Channel", "gone", "I", false)
  | 12 => ("CreditLink$Channel", "received", "LCreditLink$Texts;", true)
  | 13 => ("CreditLink$Channel", "gathered", "LCreditLink$Row;", true)
  | _ => ("CreditLink$Channel", "due", "I", false)
def tyX0 : Nat → FieldType := fun k => match k with
  | 0 => .int
  | 1 => .int
  | 2 => .int
  | 3 => .int
  | 4 => .int
  | 5 => .int
  | 6 => .int
  | 7 => .int
  | 8 => .int
  | 9 => .int
  | 10 => .object "CreditLink$Texts"
  | 11 => .int
  | 12 => .object "CreditLink$Texts"
  | 13 => .object "CreditLink$Row"
  | _ => .int
abbrev wsX00 : List Cond := u_ws RX0 TX0 15
theorem nmX0 : ∀ a, a < 15 → ∀ b, b < 15 → a ≠ b → (TX0 a).2.1 ≠ (TX0 b).2.1 := by decide +kernel
theorem tyX0_ok : ∀ k, k < 15 → parseFieldDescriptor (TX0 k).2.2.1 = some (tyX0 k) := by decide +kernel
abbrev cX0_init : ByteArray := prog_2_method_1_code
def yX0_init : MethodName := ⟨RX0, "<init>", "(I)V"⟩
abbrev cX0_setOwn : ByteArray := prog_2_method_2_code
def yX0_setOwn : MethodName := ⟨RX0, "setOwn", "(III)V"⟩
abbrev cX0_open : ByteArray := prog_2_method_3_code
def yX0_open : MethodName := ⟨RX0, "open", "(IIII)V"⟩
abbrev cX0_close : ByteArray := prog_2_method_4_code
def yX0_close : MethodName := ⟨RX0, "close", "()V"⟩
abbrev cX0_forgetTexts : ByteArray := prog_2_method_5_code
def yX0_forgetTexts : MethodName := ⟨RX0, "forgetTexts", "()V"⟩
abbrev cX0_hasFar : ByteArray := prog_2_method_6_code
def yX0_hasFar : MethodName := ⟨RX0, "hasFar", "(I)Z"⟩
abbrev cX0_putText : ByteArray := prog_2_method_7_code
def yX0_putText : MethodName := ⟨RX0, "putText", "(LCreditLink$Row;)Z"⟩
abbrev cX0_hasSegment : ByteArray := prog_2_method_8_code
def yX0_hasSegment : MethodName := ⟨RX0, "hasSegment", "()Z"⟩
abbrev cX0_writeSegment : ByteArray := prog_2_method_9_code
def yX0_writeSegment : MethodName := ⟨RX0, "writeSegment", "(LCreditLink$Row;)V"⟩
abbrev cX0_readSegment : ByteArray := prog_2_method_10_code
def yX0_readSegment : MethodName := ⟨RX0, "readSegment", "(LCreditLink$Row;)Z"⟩
abbrev cX0_keepWholeText : ByteArray := prog_2_method_11_code
def yX0_keepWholeText : MethodName := ⟨RX0, "keepWholeText", "()Z"⟩
def RX1 : String := "CreditLink$Host"
def TX1 : u_T := fun k => match k with
  | 0 => ("CreditLink$Host", "channels", "[LCreditLink$Channel;", true)
  | 1 => ("CreditLink$Host", "serviceMtu", "[I", true)
  | 2 => ("CreditLink$Host", "serviceMps", "[I", true)
  | 3 => ("CreditLink$Host", "serviceCredits", "[I", true)
  | 4 => ("CreditLink$Host", "way", "LCreditLink$Way;", true)
  | 5 => ("CreditLink$Host", "waiting", "Ljava/util/ArrayList;", true)
  | 6 => ("CreditLink$Host", "begun", "LCreditLink$Row;", true)
  | 7 => ("CreditLink$Host", "begunGone", "I", false)
  | 8 => ("CreditLink$Host", "gathered", "LCreditLink$Row;", true)
  | 9 => ("CreditLink$Host", "lastId", "I", false)
  | 10 => ("CreditLink$Host", "nextSender", "I", false)
  | 11 => ("CreditLink$Host", "units", "I", false)
  | 12 => ("CreditLink$Host", "dropped", "I", false)
  | _ => ("CreditLink$Host", "rejected", "I", false)
def tyX1 : Nat → FieldType := fun k => match k with
  | 0 => .array (.object "CreditLink$Channel")
  | 1 => .array .int
  | 2 => .array .int
  | 3 => .array .int
  | 4 => .object "CreditLink$Way"
  | 5 => .object "java/util/ArrayList"
  | 6 => .object "CreditLink$Row"
  | 7 => .int
  | 8 => .object "CreditLink$Row"
  | 9 => .int
  | 10 => .int
  | 11 => .int
  | 12 => .int
  | _ => .int
abbrev wsX10 : List Cond := u_ws RX1 TX1 14
theorem nmX1 : ∀ a, a < 14 → ∀ b, b < 14 → a ≠ b → (TX1 a).2.1 ≠ (TX1 b).2.1 := by decide +kernel
theorem tyX1_ok : ∀ k, k < 14 → parseFieldDescriptor (TX1 k).2.2.1 = some (tyX1 k) := by decide +kernel
abbrev cX1_init : ByteArray := prog_3_method_1_code
def yX1_init : MethodName := ⟨RX1, "<init>", "()V"⟩
abbrev cX1_tellService : ByteArray := prog_3_method_2_code
def yX1_tellService : MethodName := ⟨RX1, "tellService", "(IIII)V"⟩
abbrev cX1_hasService : ByteArray := prog_3_method_3_code
def yX1_hasService : MethodName := ⟨RX1, "hasService", "(I)Z"⟩
abbrev cX1_ask : ByteArray := prog_3_method_4_code
def yX1_ask : MethodName := ⟨RX1, "ask", "(IIII)I"⟩
abbrev cX1_giveCredits : ByteArray := prog_3_method_5_code
def yX1_giveCredits : MethodName := ⟨RX1, "giveCredits", "(LCreditLink$Channel;I)V"⟩
abbrev cX1_beginLeaving : ByteArray := prog_3_method_6_code
def yX1_beginLeaving : MethodName := ⟨RX1, "beginLeaving", "(LCreditLink$Channel;)V"⟩
abbrev cX1_nextId : ByteArray := prog_3_method_7_code
def yX1_nextId : MethodName := ⟨RX1, "nextId", "()I"⟩
abbrev cX1_addSignal : ByteArray := prog_3_method_8_code
def yX1_addSignal : MethodName := ⟨RX1, "addSignal", "(III)LCreditLink$Row;"⟩
abbrev cX1_sendOn : ByteArray := prog_3_method_9_code
def yX1_sendOn : MethodName := ⟨RX1, "sendOn", "(LCreditLink$Way;)V"⟩
abbrev cX1_hasUnit : ByteArray := prog_3_method_10_code
def yX1_hasUnit : MethodName := ⟨RX1, "hasUnit", "()Z"⟩
abbrev cX1_beginSignal : ByteArray := prog_3_method_11_code
def yX1_beginSignal : MethodName := ⟨RX1, "beginSignal", "()Z"⟩
abbrev cX1_beginSegment : ByteArray := prog_3_method_12_code
def yX1_beginSegment : MethodName := ⟨RX1, "beginSegment", "()Z"⟩
abbrev cX1_gather : ByteArray := prog_3_method_13_code
def yX1_gather : MethodName := ⟨RX1, "gather", "(LCreditLink$Packet;)Z"⟩
abbrev cX1_dropGathered : ByteArray := prog_3_method_14_code
def yX1_dropGathered : MethodName := ⟨RX1, "dropGathered", "()V"⟩
abbrev cX1_handleUnit : ByteArray := prog_3_method_15_code
def yX1_handleUnit : MethodName := ⟨RX1, "handleUnit", "()V"⟩
abbrev cX1_handleSegment : ByteArray := prog_3_method_16_code
def yX1_handleSegment : MethodName := ⟨RX1, "handleSegment", "(I)V"⟩
abbrev cX1_handleSignal : ByteArray := prog_3_method_17_code
def yX1_handleSignal : MethodName := ⟨RX1, "handleSignal", "()V"⟩
abbrev cX1_isSignal : ByteArray := prog_3_method_18_code
def yX1_isSignal : MethodName := ⟨RX1, "isSignal", "(II)Z"⟩
abbrev cX1_told : ByteArray := prog_3_method_19_code
def yX1_told : MethodName := ⟨RX1, "told", "(I)I"⟩
abbrev cX1_onRequest : ByteArray := prog_3_method_20_code
def yX1_onRequest : MethodName := ⟨RX1, "onRequest", "(I)V"⟩
abbrev cX1_judgeRequest : ByteArray := prog_3_method_21_code
def yX1_judgeRequest : MethodName := ⟨RX1, "judgeRequest", "(IIII)I"⟩
abbrev cX1_onAnswer : ByteArray := prog_3_method_22_code
def yX1_onAnswer : MethodName := ⟨RX1, "onAnswer", "(I)V"⟩
abbrev cX1_onCredit : ByteArray := prog_3_method_23_code
def yX1_onCredit : MethodName := ⟨RX1, "onCredit", "()V"⟩
abbrev cX1_onLeave : ByteArray := prog_3_method_24_code
def yX1_onLeave : MethodName := ⟨RX1, "onLeave", "(I)V"⟩
abbrev cX1_onLeft : ByteArray := prog_3_method_25_code
def yX1_onLeft : MethodName := ⟨RX1, "onLeft", "()V"⟩
abbrev cX1_onReject : ByteArray := prog_3_method_26_code
def yX1_onReject : MethodName := ⟨RX1, "onReject", "(I)V"⟩
abbrev cX1_firstClosed : ByteArray := prog_3_method_27_code
def yX1_firstClosed : MethodName := ⟨RX1, "firstClosed", "()LCreditLink$Channel;"⟩
abbrev cX1_firstBySignal : ByteArray := prog_3_method_28_code
def yX1_firstBySignal : MethodName := ⟨RX1, "firstBySignal", "(IZ)LCreditLink$Channel;"⟩
def RX2 : String := "CreditLink$Packet"
def TX2 : u_T := fun k => match k with
  | 0 => ("CreditLink$Packet", "bytes", "LCreditLink$Row;", true)
  | 1 => ("CreditLink$Packet", "marked", "Z", false)
  | _ => ("CreditLink$Packet", "sent", "Z", false)
def tyX2 : Nat → FieldType := fun k => match k with
  | 0 => .object "CreditLink$Row"
  | 1 => .boolean
  | _ => .boolean
abbrev wsX20 : List Cond := u_ws RX2 TX2 3
theorem nmX2 : ∀ a, a < 3 → ∀ b, b < 3 → a ≠ b → (TX2 a).2.1 ≠ (TX2 b).2.1 := by decide +kernel
theorem tyX2_ok : ∀ k, k < 3 → parseFieldDescriptor (TX2 k).2.2.1 = some (tyX2 k) := by decide +kernel
abbrev cX2_init : ByteArray := prog_4_method_1_code
def yX2_init : MethodName := ⟨RX2, "<init>", "()V"⟩
def RX3 : String := "CreditLink$Row"
def TX3 : u_T := fun k => match k with
  | 0 => ("CreditLink$Row", "bytes", "[B", true)
  | _ => ("CreditLink$Row", "size", "I", false)
def tyX3 : Nat → FieldType := fun k => match k with
  | 0 => .array .byte
  | _ => .int
abbrev wsX30 : List Cond := u_ws RX3 TX3 2
theorem nmX3 : ∀ a, a < 2 → ∀ b, b < 2 → a ≠ b → (TX3 a).2.1 ≠ (TX3 b).2.1 := by decide +kernel
theorem tyX3_ok : ∀ k, k < 2 → parseFieldDescriptor (TX3 k).2.2.1 = some (tyX3 k) := by decide +kernel
abbrev cX3_init : ByteArray := prog_5_method_1_code
def yX3_init : MethodName := ⟨RX3, "<init>", "(I)V"⟩
abbrev cX3_clear : ByteArray := prog_5_method_2_code
def yX3_clear : MethodName := ⟨RX3, "clear", "()V"⟩
abbrev cX3_add : ByteArray := prog_5_method_3_code
def yX3_add : MethodName := ⟨RX3, "add", "(I)V"⟩
abbrev cX3_addNumber : ByteArray := prog_5_method_4_code
def yX3_addNumber : MethodName := ⟨RX3, "addNumber", "(I)V"⟩
abbrev cX3_addPart : ByteArray := prog_5_method_5_code
def yX3_addPart : MethodName := ⟨RX3, "addPart", "(LCreditLink$Row;II)V"⟩
abbrev cX3_at : ByteArray := prog_5_method_6_code
def yX3_at : MethodName := ⟨RX3, "at", "(I)I"⟩
abbrev cX3_numberAt : ByteArray := prog_5_method_7_code
def yX3_numberAt : MethodName := ⟨RX3, "numberAt", "(I)I"⟩
def RX4 : String := "CreditLink$Texts"
def TX4 : u_T := fun k => match k with
  | 0 => ("CreditLink$Texts", "rows", "[LCreditLink$Row;", true)
  | 1 => ("CreditLink$Texts", "head", "I", false)
  | _ => ("CreditLink$Texts", "many", "I", false)
def tyX4 : Nat → FieldType := fun k => match k with
  | 0 => .array (.object "CreditLink$Row")
  | 1 => .int
  | _ => .int
abbrev wsX40 : List Cond := u_ws RX4 TX4 3
theorem nmX4 : ∀ a, a < 3 → ∀ b, b < 3 → a ≠ b → (TX4 a).2.1 ≠ (TX4 b).2.1 := by decide +kernel
theorem tyX4_ok : ∀ k, k < 3 → parseFieldDescriptor (TX4 k).2.2.1 = some (tyX4 k) := by decide +kernel
abbrev cX4_init : ByteArray := prog_6_method_1_code
def yX4_init : MethodName := ⟨RX4, "<init>", "(II)V"⟩
abbrev cX4_clear : ByteArray := prog_6_method_2_code
def yX4_clear : MethodName := ⟨RX4, "clear", "()V"⟩
abbrev cX4_first : ByteArray := prog_6_method_3_code
def yX4_first : MethodName := ⟨RX4, "first", "()LCreditLink$Row;"⟩
abbrev cX4_addEmpty : ByteArray := prog_6_method_4_code
def yX4_addEmpty : MethodName := ⟨RX4, "addEmpty", "()LCreditLink$Row;"⟩
abbrev cX4_dropFirst : ByteArray := prog_6_method_5_code
def yX4_dropFirst : MethodName := ⟨RX4, "dropFirst", "()V"⟩
def RX5 : String := "CreditLink$Way"
def TX5 : u_T := fun k => match k with
  | 0 => ("CreditLink$Way", "packets", "[LCreditLink$Packet;", true)
  | 1 => ("CreditLink$Way", "head", "I", false)
  | 2 => ("CreditLink$Way", "many", "I", false)
  | _ => ("CreditLink$Way", "sentOnes", "I", false)
def tyX5 : Nat → FieldType := fun k => match k with
  | 0 => .array (.object "CreditLink$Packet")
  | 1 => .int
  | 2 => .int
  | _ => .int
abbrev wsX50 : List Cond := u_ws RX5 TX5 4
theorem nmX5 : ∀ a, a < 4 → ∀ b, b < 4 → a ≠ b → (TX5 a).2.1 ≠ (TX5 b).2.1 := by decide +kernel
theorem tyX5_ok : ∀ k, k < 4 → parseFieldDescriptor (TX5 k).2.2.1 = some (tyX5 k) := by decide +kernel
abbrev cX5_init : ByteArray := prog_7_method_1_code
def yX5_init : MethodName := ⟨RX5, "<init>", "()V"⟩
abbrev cX5_hasRoomFor : ByteArray := prog_7_method_2_code
def yX5_hasRoomFor : MethodName := ⟨RX5, "hasRoomFor", "(I)Z"⟩
abbrev cX5_freeBuffers : ByteArray := prog_7_method_3_code
def yX5_freeBuffers : MethodName := ⟨RX5, "freeBuffers", "()I"⟩
abbrev cX5_firstPacket : ByteArray := prog_7_method_4_code
def yX5_firstPacket : MethodName := ⟨RX5, "firstPacket", "()LCreditLink$Packet;"⟩
abbrev cX5_put : ByteArray := prog_7_method_5_code
def yX5_put : MethodName := ⟨RX5, "put", "(LCreditLink$Row;IZ)V"⟩
abbrev cX5_dropFirst : ByteArray := prog_7_method_6_code
def yX5_dropFirst : MethodName := ⟨RX5, "dropFirst", "()Z"⟩
def RX6 : String := "CreditLink"
def TX6 : u_T := fun k => match k with
  | 0 => ("CreditLink", "hosts", "[LCreditLink$Host;", true)
  | 1 => ("CreditLink", "store", "LCreditLink$Row;", true)
  | _ => ("CreditLink", "injected", "LCreditLink$Row;", true)
def tyX6 : Nat → FieldType := fun k => match k with
  | 0 => .array (.object "CreditLink$Host")
  | 1 => .object "CreditLink$Row"
  | _ => .object "CreditLink$Row"
abbrev wsX60 : List Cond := u_ws RX6 TX6 3
theorem nmX6 : ∀ a, a < 3 → ∀ b, b < 3 → a ≠ b → (TX6 a).2.1 ≠ (TX6 b).2.1 := by decide +kernel
theorem tyX6_ok : ∀ k, k < 3 → parseFieldDescriptor (TX6 k).2.2.1 = some (tyX6 k) := by decide +kernel
abbrev cX6_init : ByteArray := prog_1_method_1_code
def yX6_init : MethodName := ⟨RX6, "<init>", "()V"⟩
abbrev cX6_service : ByteArray := prog_1_method_2_code
def yX6_service : MethodName := ⟨RX6, "service", "(IIIII)V"⟩
abbrev cX6_connect : ByteArray := prog_1_method_3_code
def yX6_connect : MethodName := ⟨RX6, "connect", "(IIIII)I"⟩
abbrev cX6_feed : ByteArray := prog_1_method_4_code
def yX6_feed : MethodName := ⟨RX6, "feed", "(IIIII)I"⟩
abbrev cX6_erase : ByteArray := prog_1_method_5_code
def yX6_erase : MethodName := ⟨RX6, "erase", "()I"⟩
abbrev cX6_send : ByteArray := prog_1_method_6_code
def yX6_send : MethodName := ⟨RX6, "send", "(II)I"⟩
abbrev cX6_grant : ByteArray := prog_1_method_7_code
def yX6_grant : MethodName := ⟨RX6, "grant", "(III)I"⟩
abbrev cX6_leave : ByteArray := prog_1_method_8_code
def yX6_leave : MethodName := ⟨RX6, "leave", "(II)V"⟩
abbrev cX6_take : ByteArray := prog_1_method_9_code
def yX6_take : MethodName := ⟨RX6, "take", "(I)I"⟩
abbrev cX6_lose : ByteArray := prog_1_method_10_code
def yX6_lose : MethodName := ⟨RX6, "lose", "(I)Z"⟩
abbrev cX6_inject : ByteArray := prog_1_method_11_code
def yX6_inject : MethodName := ⟨RX6, "inject", "(III)I"⟩
abbrev cX6_receive : ByteArray := prog_1_method_12_code
def yX6_receive : MethodName := ⟨RX6, "receive", "(II)I"⟩
abbrev cX6_octet : ByteArray := prog_1_method_13_code
def yX6_octet : MethodName := ⟨RX6, "octet", "(I)I"⟩
abbrev cX6_channel : ByteArray := prog_1_method_14_code
def yX6_channel : MethodName := ⟨RX6, "channel", "(III)I"⟩
abbrev cX6_count : ByteArray := prog_1_method_15_code
def yX6_count : MethodName := ⟨RX6, "count", "(II)I"⟩
abbrev cX6_isHost : ByteArray := prog_1_method_16_code
def yX6_isHost : MethodName := ⟨RX6, "isHost", "(I)Z"⟩
abbrev cX6_isChannel : ByteArray := prog_1_method_17_code
def yX6_isChannel : MethodName := ⟨RX6, "isChannel", "(I)Z"⟩
abbrev cX6_isOffer : ByteArray := prog_1_method_18_code
def yX6_isOffer : MethodName := ⟨RX6, "isOffer", "(IIII)Z"⟩
abbrev cX6_isFar : ByteArray := prog_1_method_19_code
def yX6_isFar : MethodName := ⟨RX6, "isFar", "(I)Z"⟩
abbrev cX6_sendWhatCanGo : ByteArray := prog_1_method_20_code
def yX6_sendWhatCanGo : MethodName := ⟨RX6, "sendWhatCanGo", "()V"⟩
def RX7 : String := "CreditLinkModel"
def TX7 : u_T := fun k => match k with
  | 0 => ("CreditLinkModel", "fault", "I", false)
  | 1 => ("CreditLinkModel", "store", "[I", true)
  | 2 => ("CreditLinkModel", "storeSize", "I", false)
  | 3 => ("CreditLinkModel", "isService", "[Z", true)
  | 4 => ("CreditLinkModel", "serviceMtu", "[I", true)
  | 5 => ("CreditLinkModel", "serviceMps", "[I", true)
  | 6 => ("CreditLinkModel", "serviceCredits", "[I", true)
  | 7 => ("CreditLinkModel", "state", "[I", true)
  | 8 => ("CreditLinkModel", "mtu", "[I", true)
  | 9 => ("CreditLinkModel", "mps", "[I", true)
  | 10 => ("CreditLinkModel", "given", "[I", true)
  | 11 => ("CreditLinkModel", "far", "[I", true)
  | 12 => ("CreditLinkModel", "farMtu", "[I", true)
  | 13 => ("CreditLinkModel", "farMps", "[I", true)
  | 14 => ("CreditLinkModel", "credits", "[I", true)
  | 15 => ("CreditLinkModel", "idOf", "[I", true)
  | 16 => ("CreditLinkModel", "texts", "[I", true)
  | 17 => ("CreditLinkModel", "textSize", "[I", true)
  | 18 => ("CreditLinkModel", "textBytes", "[I", true)
  | 19 => ("CreditLinkModel", "come", "[I", true)
  | 20 => ("CreditLinkModel", "due", "[I", true)
  | 21 => ("CreditLinkModel", "got", "[I", true)
  | 22 => ("CreditLinkModel", "gotBytes", "[I", true)
  | 23 => ("CreditLinkModel", "kept", "[I", true)
  | 24 => ("CreditLinkModel", "keptSize", "[I", true)
  | 25 => ("CreditLinkModel", "keptBytes", "[I", true)
  | 26 => ("CreditLinkModel", "firstSignal", "[I", true)
  | 27 => ("CreditLinkModel", "signals", "[I", true)
  | 28 => ("CreditLinkModel", "signalSize", "[I", true)
  | 29 => ("CreditLinkModel", "signalBytes", "[I", true)
  | 30 => ("CreditLinkModel", "nextId", "[I", true)
  | 31 => ("CreditLinkModel", "lastChannel", "[I", true)
  | 32 => ("CreditLinkModel", "unitSize", "[I", true)
  | 33 => ("CreditLinkModel", "unitAt", "[I", true)
  | 34 => ("CreditLinkModel", "unitBytes", "[I", true)
  | 35 => ("CreditLinkModel", "packets", "[I", true)
  | 36 => ("CreditLinkModel", "packetSize", "[I", true)
  | 37 => ("CreditLinkModel", "isMarked", "[Z", true)
  | 38 => ("CreditLinkModel", "isOwn", "[Z", true)
  | 39 => ("CreditLinkModel", "packetBytes", "[I", true)
  | 40 => ("CreditLinkModel", "gathered", "[I", true)
  | 41 => ("CreditLinkModel", "gatherBytes", "[I", true)
  | 42 => ("CreditLinkModel", "units", "[I", true)
  | 43 => ("CreditLinkModel", "dropped", "[I", true)
  | 44 => ("CreditLinkModel", "rejected", "[I", true)
  | 45 => ("CreditLinkModel", "hand", "[I", true)
  | 46 => ("CreditLinkModel", "made", "[I", true)
  | _ => ("CreditLinkModel", "madeSize", "I", false)
def tyX7 : Nat → FieldType := fun k => match k with
  | 0 => .int
  | 1 => .array .int
  | 2 => .int
  | 3 => .array .boolean
  | 4 => .array .int
  | 5 => .array .int
  | 6 => .array .int
  | 7 => .array .int
  | 8 => .array .int
  | 9 => .array .int
  | 10 => .array .int
  | 11 => .array .int
  | 12 => .array .int
  | 13 => .array .int
  | 14 => .array .int
  | 15 => .array .int
  | 16 => .array .int
  | 17 => .array .int
  | 18 => .array .int
  | 19 => .array .int
  | 20 => .array .int
  | 21 => .array .int
  | 22 => .array .int
  | 23 => .array .int
  | 24 => .array .int
  | 25 => .array .int
  | 26 => .array .int
  | 27 => .array .int
  | 28 => .array .int
  | 29 => .array .int
  | 30 => .array .int
  | 31 => .array .int
  | 32 => .array .int
  | 33 => .array .int
  | 34 => .array .int
  | 35 => .array .int
  | 36 => .array .int
  | 37 => .array .boolean
  | 38 => .array .boolean
  | 39 => .array .int
  | 40 => .array .int
  | 41 => .array .int
  | 42 => .array .int
  | 43 => .array .int
  | 44 => .array .int
  | 45 => .array .int
  | 46 => .array .int
  | _ => .int
abbrev wsX70 : List Cond := u_ws RX7 TX7 48
theorem nmX7 : ∀ a, a < 48 → ∀ b, b < 48 → a ≠ b → (TX7 a).2.1 ≠ (TX7 b).2.1 := by decide +kernel
theorem tyX7_ok : ∀ k, k < 48 → parseFieldDescriptor (TX7 k).2.2.1 = some (tyX7 k) := by decide +kernel
abbrev cX7_init : ByteArray := prog_9_method_1_code
def yX7_init : MethodName := ⟨RX7, "<init>", "()V"⟩
abbrev cX7_thrown : ByteArray := prog_9_method_2_code
def yX7_thrown : MethodName := ⟨RX7, "thrown", "()I"⟩
abbrev cX7_refused : ByteArray := prog_9_method_3_code
def yX7_refused : MethodName := ⟨RX7, "refused", "(I)Z"⟩
abbrev cX7_isIn : ByteArray := prog_9_method_4_code
def yX7_isIn : MethodName := ⟨RX7, "isIn", "(III)Z"⟩
abbrev cX7_isHost : ByteArray := prog_9_method_5_code
def yX7_isHost : MethodName := ⟨RX7, "isHost", "(I)Z"⟩
abbrev cX7_isChannel : ByteArray := prog_9_method_6_code
def yX7_isChannel : MethodName := ⟨RX7, "isChannel", "(II)Z"⟩
abbrev cX7_buffersOf : ByteArray := prog_9_method_7_code
def yX7_buffersOf : MethodName := ⟨RX7, "buffersOf", "(I)I"⟩
abbrev cX7_post : ByteArray := prog_9_method_8_code
def yX7_post : MethodName := ⟨RX7, "post", "(IIIZZI)V"⟩
abbrev cX7_unitHead : ByteArray := prog_9_method_9_code
def yX7_unitHead : MethodName := ⟨RX7, "unitHead", "(III)V"⟩
abbrev cX7_unitByte : ByteArray := prog_9_method_10_code
def yX7_unitByte : MethodName := ⟨RX7, "unitByte", "(II)V"⟩
abbrev cX7_beginSignal : ByteArray := prog_9_method_11_code
def yX7_beginSignal : MethodName := ⟨RX7, "beginSignal", "(I)V"⟩
abbrev cX7_textByte : ByteArray := prog_9_method_12_code
def yX7_textByte : MethodName := ⟨RX7, "textByte", "(II)I"⟩
abbrev cX7_beginSegment : ByteArray := prog_9_method_13_code
def yX7_beginSegment : MethodName := ⟨RX7, "beginSegment", "(II)V"⟩
abbrev cX7_nextChannel : ByteArray := prog_9_method_14_code
def yX7_nextChannel : MethodName := ⟨RX7, "nextChannel", "(I)I"⟩
abbrev cX7_sendAll : ByteArray := prog_9_method_15_code
def yX7_sendAll : MethodName := ⟨RX7, "sendAll", "(I)V"⟩
abbrev cX7_sendBoth : ByteArray := prog_9_method_16_code
def yX7_sendBoth : MethodName := ⟨RX7, "sendBoth", "()V"⟩
abbrev cX7_begin : ByteArray := prog_9_method_17_code
def yX7_begin : MethodName := ⟨RX7, "begin", "(III)V"⟩
abbrev cX7_two : ByteArray := prog_9_method_18_code
def yX7_two : MethodName := ⟨RX7, "two", "(I)V"⟩
abbrev cX7_wait : ByteArray := prog_9_method_19_code
def yX7_wait : MethodName := ⟨RX7, "wait", "(I)V"⟩
abbrev cX7_takeId : ByteArray := prog_9_method_20_code
def yX7_takeId : MethodName := ⟨RX7, "takeId", "(I)I"⟩
abbrev cX7_dropTexts : ByteArray := prog_9_method_21_code
def yX7_dropTexts : MethodName := ⟨RX7, "dropTexts", "(I)V"⟩
abbrev cX7_leaveNow : ByteArray := prog_9_method_22_code
def yX7_leaveNow : MethodName := ⟨RX7, "leaveNow", "(II)V"⟩
abbrev cX7_close : ByteArray := prog_9_method_23_code
def yX7_close : MethodName := ⟨RX7, "close", "(I)V"⟩
abbrev cX7_firstClosed : ByteArray := prog_9_method_24_code
def yX7_firstClosed : MethodName := ⟨RX7, "firstClosed", "(I)I"⟩
abbrev cX7_reject : ByteArray := prog_9_method_25_code
def yX7_reject : MethodName := ⟨RX7, "reject", "(IIII)V"⟩
abbrev cX7_handTwo : ByteArray := prog_9_method_26_code
def yX7_handTwo : MethodName := ⟨RX7, "handTwo", "(I)I"⟩
abbrev cX7_isSound : ByteArray := prog_9_method_27_code
def yX7_isSound : MethodName := ⟨RX7, "isSound", "(II)Z"⟩
abbrev cX7_resultOf : ByteArray := prog_9_method_28_code
def yX7_resultOf : MethodName := ⟨RX7, "resultOf", "(IIIII)I"⟩
abbrev cX7_request : ByteArray := prog_9_method_29_code
def yX7_request : MethodName := ⟨RX7, "request", "(II)V"⟩
abbrev cX7_response : ByteArray := prog_9_method_30_code
def yX7_response : MethodName := ⟨RX7, "response", "(I)V"⟩
abbrev cX7_credit : ByteArray := prog_9_method_31_code
def yX7_credit : MethodName := ⟨RX7, "credit", "(I)V"⟩
abbrev cX7_signal : ByteArray := prog_9_method_32_code
def yX7_signal : MethodName := ⟨RX7, "signal", "(II)V"⟩
abbrev cX7_byId : ByteArray := prog_9_method_33_code
def yX7_byId : MethodName := ⟨RX7, "byId", "(III)V"⟩
abbrev cX7_segment : ByteArray := prog_9_method_34_code
def yX7_segment : MethodName := ⟨RX7, "segment", "(IIII)V"⟩
abbrev cX7_unit : ByteArray := prog_9_method_35_code
def yX7_unit : MethodName := ⟨RX7, "unit", "(I)V"⟩
abbrev cX7_shift : ByteArray := prog_9_method_36_code
def yX7_shift : MethodName := ⟨RX7, "shift", "(I)I"⟩
abbrev cX7_gather : ByteArray := prog_9_method_37_code
def yX7_gather : MethodName := ⟨RX7, "gather", "(IIZ)V"⟩
abbrev cX7_take : ByteArray := prog_9_method_38_code
def yX7_take : MethodName := ⟨RX7, "take", "(I)I"⟩
abbrev cX7_lose : ByteArray := prog_9_method_39_code
def yX7_lose : MethodName := ⟨RX7, "lose", "(I)Z"⟩
abbrev cX7_inject : ByteArray := prog_9_method_40_code
def yX7_inject : MethodName := ⟨RX7, "inject", "(III)I"⟩
abbrev cX7_isTold : ByteArray := prog_9_method_41_code
def yX7_isTold : MethodName := ⟨RX7, "isTold", "(IIIII)Z"⟩
abbrev cX7_service : ByteArray := prog_9_method_42_code
def yX7_service : MethodName := ⟨RX7, "service", "(IIIII)V"⟩
abbrev cX7_connect : ByteArray := prog_9_method_43_code
def yX7_connect : MethodName := ⟨RX7, "connect", "(IIIII)I"⟩
abbrev cX7_feed : ByteArray := prog_9_method_44_code
def yX7_feed : MethodName := ⟨RX7, "feed", "(IIIII)I"⟩
abbrev cX7_erase : ByteArray := prog_9_method_45_code
def yX7_erase : MethodName := ⟨RX7, "erase", "()I"⟩
abbrev cX7_wrong : ByteArray := prog_9_method_46_code
def yX7_wrong : MethodName := ⟨RX7, "wrong", "(IIZ)I"⟩
abbrev cX7_send : ByteArray := prog_9_method_47_code
def yX7_send : MethodName := ⟨RX7, "send", "(II)I"⟩
abbrev cX7_grant : ByteArray := prog_9_method_48_code
def yX7_grant : MethodName := ⟨RX7, "grant", "(III)I"⟩
abbrev cX7_leave : ByteArray := prog_9_method_49_code
def yX7_leave : MethodName := ⟨RX7, "leave", "(II)V"⟩
abbrev cX7_receive : ByteArray := prog_9_method_50_code
def yX7_receive : MethodName := ⟨RX7, "receive", "(II)I"⟩
abbrev cX7_octet : ByteArray := prog_9_method_51_code
def yX7_octet : MethodName := ⟨RX7, "octet", "(I)I"⟩
abbrev cX7_channel : ByteArray := prog_9_method_52_code
def yX7_channel : MethodName := ⟨RX7, "channel", "(III)I"⟩
abbrev cX7_count : ByteArray := prog_9_method_53_code
def yX7_count : MethodName := ⟨RX7, "count", "(II)I"⟩
def RJx145de : String := "java/io/Serializable"
def TJx145de : u_T := fun k => match k with
  | _ => ("", "", "", false)
def tyJx145de : Nat → FieldType := fun k => match k with
  | _ => .int
abbrev wsJx145de0 : List Cond := u_ws RJx145de TJx145de 0
theorem nmJx145de : ∀ a, a < 0 → ∀ b, b < 0 → a ≠ b → (TJx145de a).2.1 ≠ (TJx145de b).2.1 := by decide +kernel
theorem tyJx145de_ok : ∀ k, k < 0 → parseFieldDescriptor (TJx145de k).2.2.1 = some (tyJx145de k) := by decide +kernel
def RJx8e188 : String := "java/lang/Cloneable"
def TJx8e188 : u_T := fun k => match k with
  | _ => ("", "", "", false)
def tyJx8e188 : Nat → FieldType := fun k => match k with
  | _ => .int
abbrev wsJx8e1880 : List Cond := u_ws RJx8e188 TJx8e188 0
theorem nmJx8e188 : ∀ a, a < 0 → ∀ b, b < 0 → a ≠ b → (TJx8e188 a).2.1 ≠ (TJx8e188 b).2.1 := by decide +kernel
theorem tyJx8e188_ok : ∀ k, k < 0 → parseFieldDescriptor (TJx8e188 k).2.2.1 = some (tyJx8e188 k) := by decide +kernel
def RJxab1ab : String := "java/lang/Iterable"
def TJxab1ab : u_T := fun k => match k with
  | _ => ("", "", "", false)
def tyJxab1ab : Nat → FieldType := fun k => match k with
  | _ => .int
abbrev wsJxab1ab0 : List Cond := u_ws RJxab1ab TJxab1ab 0
theorem nmJxab1ab : ∀ a, a < 0 → ∀ b, b < 0 → a ≠ b → (TJxab1ab a).2.1 ≠ (TJxab1ab b).2.1 := by decide +kernel
theorem tyJxab1ab_ok : ∀ k, k < 0 → parseFieldDescriptor (TJxab1ab k).2.2.1 = some (tyJxab1ab k) := by decide +kernel
def RJ9 : String := "java/lang/Math"
def TJ9 : u_T := fun k => match k with
  | _ => ("", "", "", false)
def tyJ9 : Nat → FieldType := fun k => match k with
  | _ => .int
abbrev wsJ90 : List Cond := u_ws RJ9 TJ9 0
theorem nmJ9 : ∀ a, a < 0 → ∀ b, b < 0 → a ≠ b → (TJ9 a).2.1 ≠ (TJ9 b).2.1 := by decide +kernel
theorem tyJ9_ok : ∀ k, k < 0 → parseFieldDescriptor (TJ9 k).2.2.1 = some (tyJ9 k) := by decide +kernel
abbrev cJ9_max_7cf53 : ByteArray := prog_16_method_65_code
def yJ9_max_7cf53 : MethodName := ⟨RJ9, "max", "(II)I"⟩
abbrev cJ9_min_7cf53 : ByteArray := prog_16_method_69_code
def yJ9_min_7cf53 : MethodName := ⟨RJ9, "min", "(II)I"⟩
def RJ10 : String := "java/lang/System"
def TJ10 : u_T := fun k => match k with
  | _ => ("", "", "", false)
def tyJ10 : Nat → FieldType := fun k => match k with
  | _ => .int
abbrev wsJ100 : List Cond := u_ws RJ10 TJ10 0
theorem nmJ10 : ∀ a, a < 0 → ∀ b, b < 0 → a ≠ b → (TJ10 a).2.1 ≠ (TJ10 b).2.1 := by decide +kernel
theorem tyJ10_ok : ∀ k, k < 0 → parseFieldDescriptor (TJ10 k).2.2.1 = some (tyJ10 k) := by decide +kernel
def RJxa1e45 : String := "java/util/AbstractCollection"
def TJxa1e45 : u_T := fun k => match k with
  | _ => ("", "", "", false)
def tyJxa1e45 : Nat → FieldType := fun k => match k with
  | _ => .int
abbrev wsJxa1e450 : List Cond := u_ws RJxa1e45 TJxa1e45 0
theorem nmJxa1e45 : ∀ a, a < 0 → ∀ b, b < 0 → a ≠ b → (TJxa1e45 a).2.1 ≠ (TJxa1e45 b).2.1 := by decide +kernel
theorem tyJxa1e45_ok : ∀ k, k < 0 → parseFieldDescriptor (TJxa1e45 k).2.2.1 = some (tyJxa1e45 k) := by decide +kernel
abbrev cJxa1e45_init_da8c8 : ByteArray := prog_20_method_1_code
def yJxa1e45_init_da8c8 : MethodName := ⟨RJxa1e45, "<init>", "()V"⟩
def RJxc12de : String := "java/util/AbstractList"
def TJxc12de : u_T := fun k => match k with
  | _ => ("", "", "", false)
def tyJxc12de : Nat → FieldType := fun k => match k with
  | _ => .int
abbrev wsJxc12de0 : List Cond := u_ws RJxc12de TJxc12de 0
theorem nmJxc12de : ∀ a, a < 0 → ∀ b, b < 0 → a ≠ b → (TJxc12de a).2.1 ≠ (TJxc12de b).2.1 := by decide +kernel
theorem tyJxc12de_ok : ∀ k, k < 0 → parseFieldDescriptor (TJxc12de k).2.2.1 = some (tyJxc12de k) := by decide +kernel
abbrev cJxc12de_init_da8c8 : ByteArray := prog_21_method_1_code
def yJxc12de_init_da8c8 : MethodName := ⟨RJxc12de, "<init>", "()V"⟩
def RJx4a65c : String := "java/util/ArrayList"
def TJx4a65c : u_T := fun k => match k with
  | 0 => ("java/util/AbstractList", "modCount", "I", false)
  | 1 => ("java/util/ArrayList", "elementData", "[Ljava/lang/Object;", false)
  | _ => ("java/util/ArrayList", "size", "I", false)
def tyJx4a65c : Nat → FieldType := fun k => match k with
  | 0 => .int
  | 1 => .array (.object "java/lang/Object")
  | _ => .int
abbrev wsJx4a65c0 : List Cond := u_ws RJx4a65c TJx4a65c 3
theorem nmJx4a65c : ∀ a, a < 3 → ∀ b, b < 3 → a ≠ b → (TJx4a65c a).2.1 ≠ (TJx4a65c b).2.1 := by decide +kernel
theorem tyJx4a65c_ok : ∀ k, k < 3 → parseFieldDescriptor (TJx4a65c k).2.2.1 = some (tyJx4a65c k) := by decide +kernel
abbrev cJx4a65c_init_da8c8 : ByteArray := prog_22_method_2_code
def yJx4a65c_init_da8c8 : MethodName := ⟨RJx4a65c, "<init>", "()V"⟩
abbrev cJx4a65c_grow_92f84 : ByteArray := prog_22_method_6_code
def yJx4a65c_grow_92f84 : MethodName := ⟨RJx4a65c, "grow", "(I)[Ljava/lang/Object;"⟩
abbrev cJx4a65c_grow_d5877 : ByteArray := prog_22_method_7_code
def yJx4a65c_grow_d5877 : MethodName := ⟨RJx4a65c, "grow", "()[Ljava/lang/Object;"⟩
abbrev cJx4a65c_size_8abf5 : ByteArray := prog_22_method_8_code
def yJx4a65c_size_8abf5 : MethodName := ⟨RJx4a65c, "size", "()I"⟩
abbrev cJx4a65c_isEmpty_aae02 : ByteArray := prog_22_method_9_code
def yJx4a65c_isEmpty_aae02 : MethodName := ⟨RJx4a65c, "isEmpty", "()Z"⟩
abbrev cJx4a65c_add_72be8 : ByteArray := prog_22_method_24_code
def yJx4a65c_add_72be8 : MethodName := ⟨RJx4a65c, "add", "(Ljava/lang/Object;[Ljava/lang/Object;I)V"⟩
abbrev cJx4a65c_add_9ea2d : ByteArray := prog_22_method_25_code
def yJx4a65c_add_9ea2d : MethodName := ⟨RJx4a65c, "add", "(Ljava/lang/Object;)Z"⟩
abbrev cJx4a65c_remove_915e3 : ByteArray := prog_22_method_29_code
def yJx4a65c_remove_915e3 : MethodName := ⟨RJx4a65c, "remove", "(I)Ljava/lang/Object;"⟩
abbrev cJx4a65c_fastRemove_b59b0 : ByteArray := prog_22_method_39_code
def yJx4a65c_fastRemove_b59b0 : MethodName := ⟨RJx4a65c, "fastRemove", "([Ljava/lang/Object;I)V"⟩
def RJ7 : String := "java/util/Arrays"
def TJ7 : u_T := fun k => match k with
  | _ => ("", "", "", false)
def tyJ7 : Nat → FieldType := fun k => match k with
  | _ => .int
abbrev wsJ70 : List Cond := u_ws RJ7 TJ7 0
theorem nmJ7 : ∀ a, a < 0 → ∀ b, b < 0 → a ≠ b → (TJ7 a).2.1 ≠ (TJ7 b).2.1 := by decide +kernel
theorem tyJ7_ok : ∀ k, k < 0 → parseFieldDescriptor (TJ7 k).2.2.1 = some (tyJ7 k) := by decide +kernel
abbrev cJ7_copyOf_1904c : ByteArray := prog_23_method_119_code
def yJ7_copyOf_1904c : MethodName := ⟨RJ7, "copyOf", "([Ljava/lang/Object;I)[Ljava/lang/Object;"⟩
abbrev cJ7_copyOf_6403c : ByteArray := prog_23_method_120_code
def yJ7_copyOf_6403c : MethodName := ⟨RJ7, "copyOf", "([Ljava/lang/Object;ILjava/lang/Class;)[Ljava/lang/Object;"⟩
def RJx5ef63 : String := "java/util/Collection"
def TJx5ef63 : u_T := fun k => match k with
  | _ => ("", "", "", false)
def tyJx5ef63 : Nat → FieldType := fun k => match k with
  | _ => .int
abbrev wsJx5ef630 : List Cond := u_ws RJx5ef63 TJx5ef63 0
theorem nmJx5ef63 : ∀ a, a < 0 → ∀ b, b < 0 → a ≠ b → (TJx5ef63 a).2.1 ≠ (TJx5ef63 b).2.1 := by decide +kernel
theorem tyJx5ef63_ok : ∀ k, k < 0 → parseFieldDescriptor (TJx5ef63 k).2.2.1 = some (tyJx5ef63 k) := by decide +kernel
def RJxbd725 : String := "java/util/List"
def TJxbd725 : u_T := fun k => match k with
  | _ => ("", "", "", false)
def tyJxbd725 : Nat → FieldType := fun k => match k with
  | _ => .int
abbrev wsJxbd7250 : List Cond := u_ws RJxbd725 TJxbd725 0
theorem nmJxbd725 : ∀ a, a < 0 → ∀ b, b < 0 → a ≠ b → (TJxbd725 a).2.1 ≠ (TJxbd725 b).2.1 := by decide +kernel
theorem tyJxbd725_ok : ∀ k, k < 0 → parseFieldDescriptor (TJxbd725 k).2.2.1 = some (tyJxbd725 k) := by decide +kernel
def RJ15 : String := "java/util/Objects"
def TJ15 : u_T := fun k => match k with
  | _ => ("", "", "", false)
def tyJ15 : Nat → FieldType := fun k => match k with
  | _ => .int
abbrev wsJ150 : List Cond := u_ws RJ15 TJ15 0
theorem nmJ15 : ∀ a, a < 0 → ∀ b, b < 0 → a ≠ b → (TJ15 a).2.1 ≠ (TJ15 b).2.1 := by decide +kernel
theorem tyJ15_ok : ∀ k, k < 0 → parseFieldDescriptor (TJ15 k).2.2.1 = some (tyJ15 k) := by decide +kernel
abbrev cJ15_checkIndex_7cf53 : ByteArray := prog_26_method_17_code
def yJ15_checkIndex_7cf53 : MethodName := ⟨RJ15, "checkIndex", "(II)I"⟩
def RJxf0a74 : String := "java/util/RandomAccess"
def TJxf0a74 : u_T := fun k => match k with
  | _ => ("", "", "", false)
def tyJxf0a74 : Nat → FieldType := fun k => match k with
  | _ => .int
abbrev wsJxf0a740 : List Cond := u_ws RJxf0a74 TJxf0a74 0
theorem nmJxf0a74 : ∀ a, a < 0 → ∀ b, b < 0 → a ≠ b → (TJxf0a74 a).2.1 ≠ (TJxf0a74 b).2.1 := by decide +kernel
theorem tyJxf0a74_ok : ∀ k, k < 0 → parseFieldDescriptor (TJxf0a74 k).2.2.1 = some (tyJxf0a74 k) := by decide +kernel
def RJxa66e6 : String := "java/util/SequencedCollection"
def TJxa66e6 : u_T := fun k => match k with
  | _ => ("", "", "", false)
def tyJxa66e6 : Nat → FieldType := fun k => match k with
  | _ => .int
abbrev wsJxa66e60 : List Cond := u_ws RJxa66e6 TJxa66e6 0
theorem nmJxa66e6 : ∀ a, a < 0 → ∀ b, b < 0 → a ≠ b → (TJxa66e6 a).2.1 ≠ (TJxa66e6 b).2.1 := by decide +kernel
theorem tyJxa66e6_ok : ∀ k, k < 0 → parseFieldDescriptor (TJxa66e6 k).2.2.1 = some (tyJxa66e6 k) := by decide +kernel
def RJ8 : String := "jdk/internal/util/ArraysSupport"
def TJ8 : u_T := fun k => match k with
  | _ => ("", "", "", false)
def tyJ8 : Nat → FieldType := fun k => match k with
  | _ => .int
abbrev wsJ80 : List Cond := u_ws RJ8 TJ8 0
theorem nmJ8 : ∀ a, a < 0 → ∀ b, b < 0 → a ≠ b → (TJ8 a).2.1 ≠ (TJ8 b).2.1 := by decide +kernel
theorem tyJ8_ok : ∀ k, k < 0 → parseFieldDescriptor (TJ8 k).2.2.1 = some (tyJ8 k) := by decide +kernel
abbrev cJ8_newLength_cabcc : ByteArray := prog_29_method_27_code
def yJ8_newLength_cabcc : MethodName := ⟨RJ8, "newLength", "(III)I"⟩
abbrev cJ8_hugeLength_7cf53 : ByteArray := prog_29_method_28_code
def yJ8_hugeLength_7cf53 : MethodName := ⟨RJ8, "hugeLength", "(II)I"⟩
def RJ3 : String := "jdk/internal/util/Preconditions"
def TJ3 : u_T := fun k => match k with
  | _ => ("", "", "", false)
def tyJ3 : Nat → FieldType := fun k => match k with
  | _ => .int
abbrev wsJ30 : List Cond := u_ws RJ3 TJ3 0
theorem nmJ3 : ∀ a, a < 0 → ∀ b, b < 0 → a ≠ b → (TJ3 a).2.1 ≠ (TJ3 b).2.1 := by decide +kernel
theorem tyJ3_ok : ∀ k, k < 0 → parseFieldDescriptor (TJ3 k).2.2.1 = some (tyJ3 k) := by decide +kernel
abbrev cJ3_checkIndex_8e157 : ByteArray := prog_30_method_11_code
def yJ3_checkIndex_8e157 : MethodName := ⟨RJ3, "checkIndex", "(IILjava/util/function/BiFunction;)I"⟩
def RL : String := "CreditLinkLaw"
abbrev cL_service : ByteArray := method_3_code
def yL_service : MethodName := ⟨RL, "service", "(LCreditLink;IIIII)I"⟩
abbrev cL_connect : ByteArray := method_4_code
def yL_connect : MethodName := ⟨RL, "connect", "(LCreditLink;IIIII[J)I"⟩
abbrev cL_feed : ByteArray := method_5_code
def yL_feed : MethodName := ⟨RL, "feed", "(LCreditLink;IIIII[J)I"⟩
abbrev cL_send : ByteArray := method_6_code
def yL_send : MethodName := ⟨RL, "send", "(LCreditLink;II[J)I"⟩
abbrev cL_grant : ByteArray := method_7_code
def yL_grant : MethodName := ⟨RL, "grant", "(LCreditLink;III[J)I"⟩
abbrev cL_leave : ByteArray := method_8_code
def yL_leave : MethodName := ⟨RL, "leave", "(LCreditLink;II)I"⟩
abbrev cL_take : ByteArray := method_9_code
def yL_take : MethodName := ⟨RL, "take", "(LCreditLink;I[J)I"⟩
abbrev cL_lose : ByteArray := method_10_code
def yL_lose : MethodName := ⟨RL, "lose", "(LCreditLink;I[J)I"⟩
abbrev cL_inject : ByteArray := method_11_code
def yL_inject : MethodName := ⟨RL, "inject", "(LCreditLink;III[J)I"⟩
abbrev cL_receive : ByteArray := method_12_code
def yL_receive : MethodName := ⟨RL, "receive", "(LCreditLink;II[J)I"⟩
abbrev cL_channel : ByteArray := method_13_code
def yL_channel : MethodName := ⟨RL, "channel", "(LCreditLink;III[J)I"⟩
abbrev cL_count : ByteArray := method_14_code
def yL_count : MethodName := ⟨RL, "count", "(LCreditLink;II[J)I"⟩
abbrev cL_law : ByteArray := code
def yL_law : MethodName := ⟨RL, "law", "([I)Z"⟩
abbrev vwCl : List vw_C := [(RJx4a65c, TJx4a65c, 3), (RX0, TX0, 15), (RX1, TX1, 14), (RX2, TX2, 3), (RX3, TX3, 2), (RX4, TX4, 3), (RX5, TX5, 4), (RX6, TX6, 3), (RX7, TX7, 48)]
end
section
/-! THE METHODS AS TABLES. An entry: place, instruction, its length, and what its number means here (a, b, w). -/
abbrev ev_I : Type := Nat × Instr × Nat × Nat × Nat × Int32
abbrev ev_Md : Type := MethodName × ByteArray × Nat × Option FieldType × Nat × Nat × Nat × Nat × Nat
def ev_on (k : Nat) : String := match k with
  | 0 => RX0
  | 1 => RX1
  | 2 => RX2
  | 3 => RX3
  | 4 => RX4
  | 5 => RX5
  | 6 => RX6
  | 7 => RX7
  | 8 => RJx4a65c
  | 9 => RJxc12de
  | 10 => RJxa1e45
  | 11 => RJ15
  | 12 => RJ3
  | 13 => RJ7
  | 14 => RJ8
  | _ => RL
def kc_X0_init : List ev_I := [(0, .aload_n 0, 1, 0, 0, 0), (1, .invokespecial 3, 3, 0, 5, 0), (4, .aload_n 0, 1, 0, 0, 0), (5, .iload_n 1, 1, 0, 0, 0), (6, .putfield 9, 3, 1, 0, 0), (9, .aload_n 0, 1, 0, 0, 0), (10, .new 15, 3, 5, 0, 0), (13, .dup, 1, 0, 0, 0), (14, .iconst 2, 1, 0, 0, 2), (15, .bipush 122, 2, 0, 0, 122), (17, .invokespecial 17, 3, 47, 2, 0), (20, .putfield 20, 3, 1, 10, 0), (23, .aload_n 0, 1, 0, 0, 0), (24, .new 15, 3, 5, 0, 0), (27, .dup, 1, 0, 0, 0), (28, .iconst 4, 1, 0, 0, 4), (29, .bipush 100, 2, 0, 0, 100), (31, .invokespecial 17, 3, 47, 2, 0), (34, .putfield 24, 3, 1, 12, 0), (37, .aload_n 0, 1, 0, 0, 0), (38, .new 27, 3, 4, 0, 0), (41, .dup, 1, 0, 0, 0), (42, .bipush 100, 2, 0, 0, 100), (44, .invokespecial 29, 3, 40, 2, 0), (47, .putfield 32, 3, 1, 13, 0), (50, .aload_n 0, 1, 0, 0, 0), (51, .iconst (-1), 1, 0, 0, (-1)), (52, .putfield 36, 3, 1, 14, 0), (55, .return_, 1, 0, 0, 0)]
def kc_X0_setOwn : List ev_I := [(0, .aload_n 0, 1, 0, 0, 0), (1, .iload_n 1, 1, 0, 0, 0), (2, .putfield 39, 3, 1, 3, 0), (5, .aload_n 0, 1, 0, 0, 0), (6, .iload_n 2, 1, 0, 0, 0), (7, .putfield 42, 3, 1, 4, 0), (10, .aload_n 0, 1, 0, 0, 0), (11, .iload_n 3, 1, 0, 0, 0), (12, .putfield 45, 3, 1, 5, 0), (15, .aload_n 0, 1, 0, 0, 0), (16, .getfield 24, 3, 1, 12, 0), (19, .invokevirtual 48, 3, 48, 1, 0), (22, .return_, 1, 0, 0, 0)]
def kc_X0_open : List ev_I := [(0, .aload_n 0, 1, 0, 0, 0), (1, .iconst 2, 1, 0, 0, 2), (2, .putfield 51, 3, 1, 1, 0), (5, .aload_n 0, 1, 0, 0, 0), (6, .iload_n 1, 1, 0, 0, 0), (7, .putfield 54, 3, 1, 6, 0), (10, .aload_n 0, 1, 0, 0, 0), (11, .iload_n 2, 1, 0, 0, 0), (12, .putfield 57, 3, 1, 7, 0), (15, .aload_n 0, 1, 0, 0, 0), (16, .iload_n 3, 1, 0, 0, 0), (17, .putfield 60, 3, 1, 8, 0), (20, .aload_n 0, 1, 0, 0, 0), (21, .iload 4, 2, 0, 0, 0), (23, .putfield 63, 3, 1, 9, 0), (26, .return_, 1, 0, 0, 0)]
def kc_X0_close : List ev_I := [(0, .aload_n 0, 1, 0, 0, 0), (1, .iconst 0, 1, 0, 0, 0), (2, .putfield 51, 3, 1, 1, 0), (5, .aload_n 0, 1, 0, 0, 0), (6, .iconst 0, 1, 0, 0, 0), (7, .putfield 45, 3, 1, 5, 0), (10, .aload_n 0, 1, 0, 0, 0), (11, .iconst 0, 1, 0, 0, 0), (12, .putfield 54, 3, 1, 6, 0), (15, .aload_n 0, 1, 0, 0, 0), (16, .iconst 0, 1, 0, 0, 0), (17, .putfield 57, 3, 1, 7, 0), (20, .aload_n 0, 1, 0, 0, 0), (21, .iconst 0, 1, 0, 0, 0), (22, .putfield 60, 3, 1, 8, 0), (25, .aload_n 0, 1, 0, 0, 0), (26, .iconst 0, 1, 0, 0, 0), (27, .putfield 63, 3, 1, 9, 0), (30, .aload_n 0, 1, 0, 0, 0), (31, .invokevirtual 66, 3, 4, 1, 0), (34, .return_, 1, 0, 0, 0)]
def kc_X0_forgetTexts : List ev_I := [(0, .aload_n 0, 1, 0, 0, 0), (1, .getfield 20, 3, 1, 10, 0), (4, .invokevirtual 48, 3, 48, 1, 0), (7, .aload_n 0, 1, 0, 0, 0), (8, .iconst 0, 1, 0, 0, 0), (9, .putfield 69, 3, 1, 11, 0), (12, .aload_n 0, 1, 0, 0, 0), (13, .getfield 32, 3, 1, 13, 0), (16, .invokevirtual 72, 3, 41, 1, 0), (19, .aload_n 0, 1, 0, 0, 0), (20, .iconst (-1), 1, 0, 0, (-1)), (21, .putfield 36, 3, 1, 14, 0), (24, .return_, 1, 0, 0, 0)]
def kc_X0_hasFar : List ev_I := [(0, .aload_n 0, 1, 0, 0, 0), (1, .getfield 51, 3, 1, 1, 0), (4, .iconst 2, 1, 0, 0, 2), (5, .if_icmp .eq 11, 3, 16, 0, 0), (8, .aload_n 0, 1, 0, 0, 0), (9, .getfield 51, 3, 1, 1, 0), (12, .iconst 3, 1, 0, 0, 3), (13, .if_icmp .ne 15, 3, 28, 0, 0), (16, .aload_n 0, 1, 0, 0, 0), (17, .getfield 54, 3, 1, 6, 0), (20, .iload_n 1, 1, 0, 0, 0), (21, .if_icmp .ne 7, 3, 28, 0, 0), (24, .iconst 1, 1, 0, 0, 1), (25, .goto 4, 3, 29, 0, 0), (28, .iconst 0, 1, 0, 0, 0), (29, .ireturn, 1, 0, 0, 0)]
def kc_X0_putText : List ev_I := [(0, .aload_n 1, 1, 0, 0, 0), (1, .getfield 73, 3, 4, 1, 1), (4, .aload_n 0, 1, 0, 0, 0), (5, .getfield 57, 3, 1, 7, 0), (8, .if_icmp .le 5, 3, 13, 0, 0), (11, .iconst 0, 1, 0, 0, 0), (12, .ireturn, 1, 0, 0, 0), (13, .aload_n 0, 1, 0, 0, 0), (14, .getfield 20, 3, 1, 10, 0), (17, .invokevirtual 76, 3, 50, 1, 0), (20, .astore_n 2, 1, 0, 0, 0), (21, .aload_n 2, 1, 0, 0, 0), (22, .ifnonnull 5, 3, 27, 0, 0), (25, .iconst 0, 1, 0, 0, 0), (26, .ireturn, 1, 0, 0, 0), (27, .aload_n 2, 1, 0, 0, 0), (28, .aload_n 1, 1, 0, 0, 0), (29, .getfield 73, 3, 4, 1, 1), (32, .invokevirtual 80, 3, 43, 1, 0), (35, .aload_n 2, 1, 0, 0, 0), (36, .aload_n 1, 1, 0, 0, 0), (37, .iconst 0, 1, 0, 0, 0), (38, .aload_n 1, 1, 0, 0, 0), (39, .getfield 73, 3, 4, 1, 1), (42, .invokevirtual 83, 3, 44, 1, 0), (45, .iconst 1, 1, 0, 0, 1), (46, .ireturn, 1, 0, 0, 0)]
def kc_X0_hasSegment : List ev_I := [(0, .aload_n 0, 1, 0, 0, 0), (1, .getfield 51, 3, 1, 1, 0), (4, .iconst 2, 1, 0, 0, 2), (5, .if_icmp .ne 24, 3, 29, 0, 0), (8, .aload_n 0, 1, 0, 0, 0), (9, .getfield 20, 3, 1, 10, 0), (12, .getfield 87, 3, 5, 2, 1), (15, .ifCond .le 14, 3, 29, 0, 0), (18, .aload_n 0, 1, 0, 0, 0), (19, .getfield 63, 3, 1, 9, 0), (22, .ifCond .le 7, 3, 29, 0, 0), (25, .iconst 1, 1, 0, 0, 1), (26, .goto 4, 3, 30, 0, 0), (29, .iconst 0, 1, 0, 0, 0), (30, .ireturn, 1, 0, 0, 0)]
def kc_X0_writeSegment : List ev_I := [(0, .aload_n 0, 1, 0, 0, 0), (1, .getfield 20, 3, 1, 10, 0), (4, .invokevirtual 90, 3, 49, 1, 0), (7, .astore_n 2, 1, 0, 0, 0), (8, .aload_n 2, 1, 0, 0, 0), (9, .ifnonnull 4, 3, 13, 0, 0), (12, .return_, 1, 0, 0, 0), (13, .aload_n 0, 1, 0, 0, 0), (14, .getfield 60, 3, 1, 8, 0), (17, .aload_n 2, 1, 0, 0, 0), (18, .getfield 73, 3, 4, 1, 1), (21, .aload_n 0, 1, 0, 0, 0), (22, .getfield 69, 3, 1, 11, 0), (25, .isub, 1, 0, 0, 0), (26, .invokestatic 93, 3, 0, 7, 0), (29, .istore_n 3, 1, 0, 0, 0), (30, .aload_n 1, 1, 0, 0, 0), (31, .iload_n 3, 1, 0, 0, 0), (32, .invokevirtual 80, 3, 43, 1, 0), (35, .aload_n 1, 1, 0, 0, 0), (36, .aload_n 0, 1, 0, 0, 0), (37, .getfield 54, 3, 1, 6, 0), (40, .invokevirtual 80, 3, 43, 1, 0), (43, .aload_n 1, 1, 0, 0, 0), (44, .aload_n 2, 1, 0, 0, 0), (45, .aload_n 0, 1, 0, 0, 0), (46, .getfield 69, 3, 1, 11, 0), (49, .iload_n 3, 1, 0, 0, 0), (50, .invokevirtual 83, 3, 44, 1, 0), (53, .aload_n 0, 1, 0, 0, 0), (54, .dup, 1, 0, 0, 0), (55, .getfield 63, 3, 1, 9, 0), (58, .iconst 1, 1, 0, 0, 1), (59, .isub, 1, 0, 0, 0), (60, .putfield 63, 3, 1, 9, 0), (63, .aload_n 0, 1, 0, 0, 0), (64, .dup, 1, 0, 0, 0), (65, .getfield 69, 3, 1, 11, 0), (68, .iload_n 3, 1, 0, 0, 0), (69, .iadd, 1, 0, 0, 0), (70, .putfield 69, 3, 1, 11, 0), (73, .aload_n 0, 1, 0, 0, 0), (74, .getfield 69, 3, 1, 11, 0), (77, .aload_n 2, 1, 0, 0, 0), (78, .getfield 73, 3, 4, 1, 1), (81, .if_icmp .lt 15, 3, 96, 0, 0), (84, .aload_n 0, 1, 0, 0, 0), (85, .getfield 20, 3, 1, 10, 0), (88, .invokevirtual 99, 3, 51, 1, 0), (91, .aload_n 0, 1, 0, 0, 0), (92, .iconst 0, 1, 0, 0, 0), (93, .putfield 69, 3, 1, 11, 0), (96, .return_, 1, 0, 0, 0)]
def kc_X0_readSegment : List ev_I := [(0, .aload_n 1, 1, 0, 0, 0), (1, .getfield 73, 3, 4, 1, 1), (4, .iconst 4, 1, 0, 0, 4), (5, .isub, 1, 0, 0, 0), (6, .istore_n 2, 1, 0, 0, 0), (7, .aload_n 0, 1, 0, 0, 0), (8, .getfield 45, 3, 1, 5, 0), (11, .ifCond .eq 15, 3, 26, 0, 0), (14, .iload_n 2, 1, 0, 0, 0), (15, .ifCond .eq 11, 3, 26, 0, 0), (18, .iload_n 2, 1, 0, 0, 0), (19, .aload_n 0, 1, 0, 0, 0), (20, .getfield 42, 3, 1, 4, 0), (23, .if_icmp .le 5, 3, 28, 0, 0), (26, .iconst 0, 1, 0, 0, 0), (27, .ireturn, 1, 0, 0, 0), (28, .aload_n 0, 1, 0, 0, 0), (29, .dup, 1, 0, 0, 0), (30, .getfield 45, 3, 1, 5, 0), (33, .iconst 1, 1, 0, 0, 1), (34, .isub, 1, 0, 0, 0), (35, .putfield 45, 3, 1, 5, 0), (38, .iconst 4, 1, 0, 0, 4), (39, .istore_n 3, 1, 0, 0, 0), (40, .aload_n 0, 1, 0, 0, 0), (41, .getfield 36, 3, 1, 14, 0), (44, .iconst (-1), 1, 0, 0, (-1)), (45, .if_icmp .ne 34, 3, 79, 0, 0), (48, .iload_n 2, 1, 0, 0, 0), (49, .iconst 2, 1, 0, 0, 2), (50, .if_icmp .lt 15, 3, 65, 0, 0), (53, .aload_n 1, 1, 0, 0, 0), (54, .iconst 4, 1, 0, 0, 4), (55, .invokevirtual 102, 3, 46, 1, 0), (58, .aload_n 0, 1, 0, 0, 0), (59, .getfield 39, 3, 1, 3, 0), (62, .if_icmp .le 5, 3, 67, 0, 0), (65, .iconst 0, 1, 0, 0, 0), (66, .ireturn, 1, 0, 0, 0), (67, .aload_n 0, 1, 0, 0, 0), (68, .aload_n 1, 1, 0, 0, 0), (69, .iconst 4, 1, 0, 0, 4), (70, .invokevirtual 102, 3, 46, 1, 0), (73, .putfield 36, 3, 1, 14, 0), (76, .iinc 3 2, 3, 0, 0, 2), (79, .aload_n 0, 1, 0, 0, 0), (80, .getfield 32, 3, 1, 13, 0), (83, .getfield 73, 3, 4, 1, 1), (86, .aload_n 1, 1, 0, 0, 0), (87, .getfield 73, 3, 4, 1, 1), (90, .iadd, 1, 0, 0, 0), (91, .iload_n 3, 1, 0, 0, 0), (92, .isub, 1, 0, 0, 0), (93, .aload_n 0, 1, 0, 0, 0), (94, .getfield 36, 3, 1, 14, 0), (97, .if_icmp .le 5, 3, 102, 0, 0), (100, .iconst 0, 1, 0, 0, 0), (101, .ireturn, 1, 0, 0, 0), (102, .aload_n 0, 1, 0, 0, 0), (103, .getfield 32, 3, 1, 13, 0), (106, .aload_n 1, 1, 0, 0, 0), (107, .iload_n 3, 1, 0, 0, 0), (108, .aload_n 1, 1, 0, 0, 0), (109, .getfield 73, 3, 4, 1, 1), (112, .iload_n 3, 1, 0, 0, 0), (113, .isub, 1, 0, 0, 0), (114, .invokevirtual 83, 3, 44, 1, 0), (117, .aload_n 0, 1, 0, 0, 0), (118, .getfield 32, 3, 1, 13, 0), (121, .getfield 73, 3, 4, 1, 1), (124, .aload_n 0, 1, 0, 0, 0), (125, .getfield 36, 3, 1, 14, 0), (128, .if_icmp .lt 10, 3, 138, 0, 0), (131, .aload_n 0, 1, 0, 0, 0), (132, .invokevirtual 106, 3, 10, 1, 0), (135, .ifCond .eq 7, 3, 142, 0, 0), (138, .iconst 1, 1, 0, 0, 1), (139, .goto 4, 3, 143, 0, 0), (142, .iconst 0, 1, 0, 0, 0), (143, .ireturn, 1, 0, 0, 0)]
def kc_X0_keepWholeText : List ev_I := [(0, .aload_n 0, 1, 0, 0, 0), (1, .getfield 24, 3, 1, 12, 0), (4, .invokevirtual 76, 3, 50, 1, 0), (7, .astore_n 1, 1, 0, 0, 0), (8, .aload_n 1, 1, 0, 0, 0), (9, .ifnonnull 5, 3, 14, 0, 0), (12, .iconst 0, 1, 0, 0, 0), (13, .ireturn, 1, 0, 0, 0), (14, .aload_n 1, 1, 0, 0, 0), (15, .aload_n 0, 1, 0, 0, 0), (16, .getfield 32, 3, 1, 13, 0), (19, .iconst 0, 1, 0, 0, 0), (20, .aload_n 0, 1, 0, 0, 0), (21, .getfield 32, 3, 1, 13, 0), (24, .getfield 73, 3, 4, 1, 1), (27, .invokevirtual 83, 3, 44, 1, 0), (30, .aload_n 0, 1, 0, 0, 0), (31, .getfield 32, 3, 1, 13, 0), (34, .invokevirtual 72, 3, 41, 1, 0), (37, .aload_n 0, 1, 0, 0, 0), (38, .iconst (-1), 1, 0, 0, (-1)), (39, .putfield 36, 3, 1, 14, 0), (42, .iconst 1, 1, 0, 0, 1), (43, .ireturn, 1, 0, 0, 0)]
def kc_X1_init : List ev_I := [(0, .aload_n 0, 1, 0, 0, 0), (1, .invokespecial 3, 3, 0, 5, 0), (4, .aload_n 0, 1, 0, 0, 0), (5, .iconst 4, 1, 0, 0, 4), (6, .anewarray 9, 3, 4, 0, 0), (9, .putfield 11, 3, 2, 0, 0), (12, .iconst 0, 1, 0, 0, 0), (13, .istore_n 1, 1, 0, 0, 0), (14, .iload_n 1, 1, 0, 0, 0), (15, .iconst 4, 1, 0, 0, 4), (16, .if_icmp .ge 26, 3, 42, 0, 0), (19, .aload_n 0, 1, 0, 0, 0), (20, .getfield 11, 3, 2, 0, 0), (23, .iload_n 1, 1, 0, 0, 0), (24, .new 9, 3, 1, 0, 0), (27, .dup, 1, 0, 0, 0), (28, .bipush 64, 2, 0, 0, 64), (30, .iload_n 1, 1, 0, 0, 0), (31, .iadd, 1, 0, 0, 0), (32, .invokespecial 17, 3, 0, 2, 0), (35, .aastore, 1, 4, 1, 0), (36, .iinc 1 1, 3, 0, 0, 1), (39, .goto (-25), 3, 14, 0, 0), (42, .aload_n 0, 1, 0, 0, 0), (43, .bipush 10, 2, 0, 0, 10), (45, .newarray .int, 2, 1, 0, 0), (47, .putfield 20, 3, 2, 1, 0), (50, .aload_n 0, 1, 0, 0, 0), (51, .bipush 10, 2, 0, 0, 10), (53, .newarray .int, 2, 1, 0, 0), (55, .putfield 24, 3, 2, 2, 0), (58, .aload_n 0, 1, 0, 0, 0), (59, .bipush 10, 2, 0, 0, 10), (61, .newarray .int, 2, 1, 0, 0), (63, .putfield 27, 3, 2, 3, 0), (66, .aload_n 0, 1, 0, 0, 0), (67, .new 30, 3, 6, 0, 0), (70, .dup, 1, 0, 0, 0), (71, .invokespecial 32, 3, 52, 2, 0), (74, .putfield 33, 3, 2, 4, 0), (77, .aload_n 0, 1, 0, 0, 0), (78, .new 37, 3, 0, 0, 0), (81, .dup, 1, 0, 0, 0), (82, .invokespecial 39, 3, 133, 2, 0), (85, .putfield 40, 3, 2, 5, 0), (88, .aload_n 0, 1, 0, 0, 0), (89, .new 44, 3, 4, 0, 0), (92, .dup, 1, 0, 0, 0), (93, .sipush 128, 3, 0, 0, 128), (96, .invokespecial 46, 3, 40, 2, 0), (99, .putfield 47, 3, 2, 6, 0), (102, .aload_n 0, 1, 0, 0, 0), (103, .new 44, 3, 4, 0, 0), (106, .dup, 1, 0, 0, 0), (107, .sipush 128, 3, 0, 0, 128), (110, .invokespecial 46, 3, 40, 2, 0), (113, .putfield 51, 3, 2, 8, 0), (116, .return_, 1, 0, 0, 0)]
def kc_X1_tellService : List ev_I := [(0, .aload_n 0, 1, 0, 0, 0), (1, .getfield 20, 3, 2, 1, 0), (4, .iload_n 1, 1, 0, 0, 0), (5, .iload_n 2, 1, 0, 0, 0), (6, .iastore, 1, 0, 0, 0), (7, .aload_n 0, 1, 0, 0, 0), (8, .getfield 24, 3, 2, 2, 0), (11, .iload_n 1, 1, 0, 0, 0), (12, .iload_n 3, 1, 0, 0, 0), (13, .iastore, 1, 0, 0, 0), (14, .aload_n 0, 1, 0, 0, 0), (15, .getfield 27, 3, 2, 3, 0), (18, .iload_n 1, 1, 0, 0, 0), (19, .iload 4, 2, 0, 0, 0), (21, .iastore, 1, 0, 0, 0), (22, .return_, 1, 0, 0, 0)]
def kc_X1_hasService : List ev_I := [(0, .iload_n 1, 1, 0, 0, 0), (1, .iconst 1, 1, 0, 0, 1), (2, .if_icmp .lt 22, 3, 24, 0, 0), (5, .iload_n 1, 1, 0, 0, 0), (6, .bipush 9, 2, 0, 0, 9), (8, .if_icmp .gt 16, 3, 24, 0, 0), (11, .aload_n 0, 1, 0, 0, 0), (12, .getfield 20, 3, 2, 1, 0), (15, .iload_n 1, 1, 0, 0, 0), (16, .iaload, 1, 0, 0, 0), (17, .ifCond .le 7, 3, 24, 0, 0), (20, .iconst 1, 1, 0, 0, 1), (21, .goto 4, 3, 25, 0, 0), (24, .iconst 0, 1, 0, 0, 0), (25, .ireturn, 1, 0, 0, 0)]
def kc_X1_ask : List ev_I := [(0, .aload_n 0, 1, 0, 0, 0), (1, .invokevirtual 54, 3, 37, 1, 0), (4, .astore 5, 2, 0, 0, 0), (6, .aload 5, 2, 0, 0, 0), (8, .ifnonnull 6, 3, 14, 0, 0), (11, .bipush (-2), 2, 0, 0, (-2)), (13, .ireturn, 1, 0, 0, 0), (14, .aload 5, 2, 0, 0, 0), (16, .iload_n 2, 1, 0, 0, 0), (17, .iload_n 3, 1, 0, 0, 0), (18, .iload 4, 2, 0, 0, 0), (20, .invokevirtual 58, 3, 1, 1, 0), (23, .aload 5, 2, 0, 0, 0), (25, .iconst 1, 1, 0, 0, 1), (26, .putfield 62, 3, 1, 1, 1), (29, .aload 5, 2, 0, 0, 0), (31, .aload_n 0, 1, 0, 0, 0), (32, .invokevirtual 66, 3, 17, 1, 0), (35, .putfield 70, 3, 1, 2, 1), (38, .aload_n 0, 1, 0, 0, 0), (39, .bipush 20, 2, 0, 0, 20), (41, .aload 5, 2, 0, 0, 0), (43, .getfield 70, 3, 1, 2, 1), (46, .iconst 5, 1, 0, 0, 5), (47, .invokevirtual 73, 3, 18, 1, 0), (50, .astore 6, 2, 0, 0, 0), (52, .aload 6, 2, 0, 0, 0), (54, .iload_n 1, 1, 0, 0, 0), (55, .invokevirtual 77, 3, 43, 1, 0), (58, .aload 6, 2, 0, 0, 0), (60, .aload 5, 2, 0, 0, 0), (62, .getfield 80, 3, 1, 0, 1), (65, .invokevirtual 77, 3, 43, 1, 0), (68, .aload 6, 2, 0, 0, 0), (70, .iload_n 2, 1, 0, 0, 0), (71, .invokevirtual 77, 3, 43, 1, 0), (74, .aload 6, 2, 0, 0, 0), (76, .iload_n 3, 1, 0, 0, 0), (77, .invokevirtual 77, 3, 43, 1, 0), (80, .aload 6, 2, 0, 0, 0), (82, .iload 4, 2, 0, 0, 0), (84, .invokevirtual 77, 3, 43, 1, 0), (87, .aload 5, 2, 0, 0, 0), (89, .getfield 80, 3, 1, 0, 1), (92, .ireturn, 1, 0, 0, 0)]
def kc_X1_giveCredits : List ev_I := [(0, .aload_n 1, 1, 0, 0, 0), (1, .dup, 1, 0, 0, 0), (2, .getfield 83, 3, 1, 5, 1), (5, .iload_n 2, 1, 0, 0, 0), (6, .iadd, 1, 0, 0, 0), (7, .putfield 83, 3, 1, 5, 1), (10, .aload_n 0, 1, 0, 0, 0), (11, .bipush 22, 2, 0, 0, 22), (13, .aload_n 0, 1, 0, 0, 0), (14, .invokevirtual 66, 3, 17, 1, 0), (17, .iconst 2, 1, 0, 0, 2), (18, .invokevirtual 73, 3, 18, 1, 0), (21, .astore_n 3, 1, 0, 0, 0), (22, .aload_n 3, 1, 0, 0, 0), (23, .aload_n 1, 1, 0, 0, 0), (24, .getfield 80, 3, 1, 0, 1), (27, .invokevirtual 77, 3, 43, 1, 0), (30, .aload_n 3, 1, 0, 0, 0), (31, .iload_n 2, 1, 0, 0, 0), (32, .invokevirtual 77, 3, 43, 1, 0), (35, .return_, 1, 0, 0, 0)]
def kc_X1_beginLeaving : List ev_I := [(0, .aload_n 1, 1, 0, 0, 0), (1, .iconst 3, 1, 0, 0, 3), (2, .putfield 62, 3, 1, 1, 1), (5, .aload_n 1, 1, 0, 0, 0), (6, .aload_n 0, 1, 0, 0, 0), (7, .invokevirtual 66, 3, 17, 1, 0), (10, .putfield 70, 3, 1, 2, 1), (13, .aload_n 1, 1, 0, 0, 0), (14, .invokevirtual 86, 3, 4, 1, 0), (17, .aload_n 0, 1, 0, 0, 0), (18, .bipush 6, 2, 0, 0, 6), (20, .aload_n 1, 1, 0, 0, 0), (21, .getfield 70, 3, 1, 2, 1), (24, .iconst 2, 1, 0, 0, 2), (25, .invokevirtual 73, 3, 18, 1, 0), (28, .astore_n 2, 1, 0, 0, 0), (29, .aload_n 2, 1, 0, 0, 0), (30, .aload_n 1, 1, 0, 0, 0), (31, .getfield 89, 3, 1, 6, 1), (34, .invokevirtual 77, 3, 43, 1, 0), (37, .aload_n 2, 1, 0, 0, 0), (38, .aload_n 1, 1, 0, 0, 0), (39, .getfield 80, 3, 1, 0, 1), (42, .invokevirtual 77, 3, 43, 1, 0), (45, .return_, 1, 0, 0, 0)]
def kc_X1_nextId : List ev_I := [(0, .aload_n 0, 1, 0, 0, 0), (1, .aload_n 0, 1, 0, 0, 0), (2, .getfield 92, 3, 2, 9, 0), (5, .sipush 255, 3, 0, 0, 255), (8, .if_icmp .ge 12, 3, 20, 0, 0), (11, .aload_n 0, 1, 0, 0, 0), (12, .getfield 92, 3, 2, 9, 0), (15, .iconst 1, 1, 0, 0, 1), (16, .iadd, 1, 0, 0, 0), (17, .goto 4, 3, 21, 0, 0), (20, .iconst 1, 1, 0, 0, 1), (21, .putfield 92, 3, 2, 9, 0), (24, .aload_n 0, 1, 0, 0, 0), (25, .getfield 92, 3, 2, 9, 0), (28, .ireturn, 1, 0, 0, 0)]
def kc_X1_addSignal : List ev_I := [(0, .new 44, 3, 4, 0, 0), (3, .dup, 1, 0, 0, 0), (4, .bipush 14, 2, 0, 0, 14), (6, .invokespecial 46, 3, 40, 2, 0), (9, .astore 4, 2, 0, 0, 0), (11, .aload 4, 2, 0, 0, 0), (13, .iload_n 1, 1, 0, 0, 0), (14, .invokevirtual 95, 3, 42, 1, 0), (17, .aload 4, 2, 0, 0, 0), (19, .iload_n 2, 1, 0, 0, 0), (20, .invokevirtual 95, 3, 42, 1, 0), (23, .aload 4, 2, 0, 0, 0), (25, .iconst 2, 1, 0, 0, 2), (26, .iload_n 3, 1, 0, 0, 0), (27, .imul, 1, 0, 0, 0), (28, .invokevirtual 77, 3, 43, 1, 0), (31, .aload_n 0, 1, 0, 0, 0), (32, .getfield 40, 3, 2, 5, 0), (35, .invokevirtual 98, 3, 136, 1, 0), (38, .sipush 512, 3, 0, 0, 512), (41, .if_icmp .ge 13, 3, 54, 0, 0), (44, .aload_n 0, 1, 0, 0, 0), (45, .getfield 40, 3, 2, 5, 0), (48, .aload 4, 2, 0, 0, 0), (50, .invokevirtual 101, 3, 139, 1, 0), (53, .pop, 1, 0, 0, 0), (54, .aload 4, 2, 0, 0, 0), (56, .areturn, 1, 0, 0, 0)]
def kc_X1_sendOn : List ev_I := [(0, .aload_n 1, 1, 0, 0, 0), (1, .invokevirtual 104, 3, 54, 1, 0), (4, .istore_n 2, 1, 0, 0, 0), (5, .iload_n 2, 1, 0, 0, 0), (6, .ifCond .le 59, 3, 65, 0, 0), (9, .aload_n 1, 1, 0, 0, 0), (10, .iconst 1, 1, 0, 0, 1), (11, .invokevirtual 107, 3, 53, 1, 0), (14, .ifCond .eq 10, 3, 24, 0, 0), (17, .aload_n 0, 1, 0, 0, 0), (18, .invokevirtual 111, 3, 20, 1, 0), (21, .ifCond .ne 4, 3, 25, 0, 0), (24, .return_, 1, 0, 0, 0), (25, .aload_n 1, 1, 0, 0, 0), (26, .aload_n 0, 1, 0, 0, 0), (27, .getfield 47, 3, 2, 6, 0), (30, .aload_n 0, 1, 0, 0, 0), (31, .getfield 115, 3, 2, 7, 0), (34, .iconst 1, 1, 0, 0, 1), (35, .invokevirtual 118, 3, 56, 1, 0), (38, .aload_n 0, 1, 0, 0, 0), (39, .aload_n 0, 1, 0, 0, 0), (40, .getfield 115, 3, 2, 7, 0), (43, .bipush 27, 2, 0, 0, 27), (45, .iadd, 1, 0, 0, 0), (46, .aload_n 0, 1, 0, 0, 0), (47, .getfield 47, 3, 2, 6, 0), (50, .getfield 122, 3, 4, 1, 1), (53, .invokestatic 124, 3, 0, 7, 0), (56, .putfield 115, 3, 2, 7, 0), (59, .iinc 2 (-1), 3, 0, 0, (-1)), (62, .goto (-57), 3, 5, 0, 0), (65, .return_, 1, 0, 0, 0)]
def kc_X1_hasUnit : List ev_I := [(0, .aload_n 0, 1, 0, 0, 0), (1, .getfield 115, 3, 2, 7, 0), (4, .aload_n 0, 1, 0, 0, 0), (5, .getfield 47, 3, 2, 6, 0), (8, .getfield 122, 3, 4, 1, 1), (11, .if_icmp .lt 17, 3, 28, 0, 0), (14, .aload_n 0, 1, 0, 0, 0), (15, .invokevirtual 130, 3, 21, 1, 0), (18, .ifCond .ne 10, 3, 28, 0, 0), (21, .aload_n 0, 1, 0, 0, 0), (22, .invokevirtual 133, 3, 22, 1, 0), (25, .ifCond .eq 7, 3, 32, 0, 0), (28, .iconst 1, 1, 0, 0, 1), (29, .goto 4, 3, 33, 0, 0), (32, .iconst 0, 1, 0, 0, 0), (33, .ireturn, 1, 0, 0, 0)]
def kc_X1_beginSignal : List ev_I := [(0, .aload_n 0, 1, 0, 0, 0), (1, .getfield 40, 3, 2, 5, 0), (4, .invokevirtual 136, 3, 137, 1, 0), (7, .ifCond .eq 5, 3, 12, 0, 0), (10, .iconst 0, 1, 0, 0, 0), (11, .ireturn, 1, 0, 0, 0), (12, .aload_n 0, 1, 0, 0, 0), (13, .getfield 40, 3, 2, 5, 0), (16, .iconst 0, 1, 0, 0, 0), (17, .invokevirtual 139, 3, 140, 1, 0), (20, .checkcast 44, 3, 4, 0, 0), (23, .astore_n 1, 1, 0, 0, 0), (24, .aload_n 0, 1, 0, 0, 0), (25, .getfield 47, 3, 2, 6, 0), (28, .invokevirtual 143, 3, 41, 1, 0), (31, .aload_n 0, 1, 0, 0, 0), (32, .iconst 0, 1, 0, 0, 0), (33, .putfield 115, 3, 2, 7, 0), (36, .aload_n 0, 1, 0, 0, 0), (37, .getfield 47, 3, 2, 6, 0), (40, .aload_n 1, 1, 0, 0, 0), (41, .getfield 122, 3, 4, 1, 1), (44, .invokevirtual 77, 3, 43, 1, 0), (47, .aload_n 0, 1, 0, 0, 0), (48, .getfield 47, 3, 2, 6, 0), (51, .iconst 5, 1, 0, 0, 5), (52, .invokevirtual 77, 3, 43, 1, 0), (55, .aload_n 0, 1, 0, 0, 0), (56, .getfield 47, 3, 2, 6, 0), (59, .aload_n 1, 1, 0, 0, 0), (60, .iconst 0, 1, 0, 0, 0), (61, .aload_n 1, 1, 0, 0, 0), (62, .getfield 122, 3, 4, 1, 1), (65, .invokevirtual 146, 3, 44, 1, 0), (68, .iconst 1, 1, 0, 0, 1), (69, .ireturn, 1, 0, 0, 0)]
def kc_X1_beginSegment : List ev_I := [(0, .iconst 0, 1, 0, 0, 0), (1, .istore_n 1, 1, 0, 0, 0), (2, .iload_n 1, 1, 0, 0, 0), (3, .iconst 4, 1, 0, 0, 4), (4, .if_icmp .ge 66, 3, 70, 0, 0), (7, .aload_n 0, 1, 0, 0, 0), (8, .getfield 150, 3, 2, 10, 0), (11, .iload_n 1, 1, 0, 0, 0), (12, .iadd, 1, 0, 0, 0), (13, .iconst 4, 1, 0, 0, 4), (14, .irem, 1, 0, 0, 0), (15, .istore_n 2, 1, 0, 0, 0), (16, .aload_n 0, 1, 0, 0, 0), (17, .getfield 11, 3, 2, 0, 0), (20, .iload_n 2, 1, 0, 0, 0), (21, .aaload, 1, 0, 0, 0), (22, .invokevirtual 153, 3, 7, 1, 0), (25, .ifCond .eq 39, 3, 64, 0, 0), (28, .aload_n 0, 1, 0, 0, 0), (29, .getfield 47, 3, 2, 6, 0), (32, .invokevirtual 143, 3, 41, 1, 0), (35, .aload_n 0, 1, 0, 0, 0), (36, .iconst 0, 1, 0, 0, 0), (37, .putfield 115, 3, 2, 7, 0), (40, .aload_n 0, 1, 0, 0, 0), (41, .getfield 11, 3, 2, 0, 0), (44, .iload_n 2, 1, 0, 0, 0), (45, .aaload, 1, 0, 0, 0), (46, .aload_n 0, 1, 0, 0, 0), (47, .getfield 47, 3, 2, 6, 0), (50, .invokevirtual 156, 3, 8, 1, 0), (53, .aload_n 0, 1, 0, 0, 0), (54, .iload_n 2, 1, 0, 0, 0), (55, .iconst 1, 1, 0, 0, 1), (56, .iadd, 1, 0, 0, 0), (57, .iconst 4, 1, 0, 0, 4), (58, .irem, 1, 0, 0, 0), (59, .putfield 150, 3, 2, 10, 0), (62, .iconst 1, 1, 0, 0, 1), (63, .ireturn, 1, 0, 0, 0), (64, .iinc 1 1, 3, 0, 0, 1), (67, .goto (-65), 3, 2, 0, 0), (70, .iconst 0, 1, 0, 0, 0), (71, .ireturn, 1, 0, 0, 0)]
def kc_X1_gather : List ev_I := [(0, .aload_n 1, 1, 0, 0, 0), (1, .getfield 160, 3, 3, 1, 1), (4, .ifCond .eq 17, 3, 21, 0, 0), (7, .aload_n 0, 1, 0, 0, 0), (8, .getfield 51, 3, 2, 8, 0), (11, .getfield 122, 3, 4, 1, 1), (14, .ifCond .le 7, 3, 21, 0, 0), (17, .aload_n 0, 1, 0, 0, 0), (18, .invokevirtual 166, 3, 24, 1, 0), (21, .aload_n 1, 1, 0, 0, 0), (22, .getfield 160, 3, 3, 1, 1), (25, .ifCond .ne 17, 3, 42, 0, 0), (28, .aload_n 0, 1, 0, 0, 0), (29, .getfield 51, 3, 2, 8, 0), (32, .getfield 122, 3, 4, 1, 1), (35, .ifCond .ne 7, 3, 42, 0, 0), (38, .iconst 1, 1, 0, 0, 1), (39, .goto 4, 3, 43, 0, 0), (42, .iconst 0, 1, 0, 0, 0), (43, .istore_n 2, 1, 0, 0, 0), (44, .iload_n 2, 1, 0, 0, 0), (45, .ifCond .ne 24, 3, 69, 0, 0), (48, .aload_n 0, 1, 0, 0, 0), (49, .getfield 51, 3, 2, 8, 0), (52, .getfield 122, 3, 4, 1, 1), (55, .aload_n 1, 1, 0, 0, 0), (56, .getfield 169, 3, 3, 0, 1), (59, .getfield 122, 3, 4, 1, 1), (62, .iadd, 1, 0, 0, 0), (63, .sipush 128, 3, 0, 0, 128), (66, .if_icmp .le 9, 3, 75, 0, 0), (69, .aload_n 0, 1, 0, 0, 0), (70, .invokevirtual 166, 3, 24, 1, 0), (73, .iconst 0, 1, 0, 0, 0), (74, .ireturn, 1, 0, 0, 0), (75, .aload_n 0, 1, 0, 0, 0), (76, .getfield 51, 3, 2, 8, 0), (79, .aload_n 1, 1, 0, 0, 0), (80, .getfield 169, 3, 3, 0, 1), (83, .iconst 0, 1, 0, 0, 0), (84, .aload_n 1, 1, 0, 0, 0), (85, .getfield 169, 3, 3, 0, 1), (88, .getfield 122, 3, 4, 1, 1), (91, .invokevirtual 146, 3, 44, 1, 0), (94, .aload_n 0, 1, 0, 0, 0), (95, .getfield 51, 3, 2, 8, 0), (98, .getfield 122, 3, 4, 1, 1), (101, .iconst 4, 1, 0, 0, 4), (102, .if_icmp .ge 5, 3, 107, 0, 0), (105, .iconst 0, 1, 0, 0, 0), (106, .ireturn, 1, 0, 0, 0), (107, .iconst 4, 1, 0, 0, 4), (108, .aload_n 0, 1, 0, 0, 0), (109, .getfield 51, 3, 2, 8, 0), (112, .iconst 0, 1, 0, 0, 0), (113, .invokevirtual 172, 3, 46, 1, 0), (116, .iadd, 1, 0, 0, 0), (117, .istore_n 3, 1, 0, 0, 0), (118, .aload_n 0, 1, 0, 0, 0), (119, .getfield 51, 3, 2, 8, 0), (122, .getfield 122, 3, 4, 1, 1), (125, .iload_n 3, 1, 0, 0, 0), (126, .if_icmp .le 9, 3, 135, 0, 0), (129, .aload_n 0, 1, 0, 0, 0), (130, .invokevirtual 166, 3, 24, 1, 0), (133, .iconst 0, 1, 0, 0, 0), (134, .ireturn, 1, 0, 0, 0), (135, .aload_n 0, 1, 0, 0, 0), (136, .getfield 51, 3, 2, 8, 0), (139, .getfield 122, 3, 4, 1, 1), (142, .iload_n 3, 1, 0, 0, 0), (143, .if_icmp .ne 7, 3, 150, 0, 0), (146, .iconst 1, 1, 0, 0, 1), (147, .goto 4, 3, 151, 0, 0), (150, .iconst 0, 1, 0, 0, 0), (151, .ireturn, 1, 0, 0, 0)]
def kc_X1_dropGathered : List ev_I := [(0, .aload_n 0, 1, 0, 0, 0), (1, .getfield 51, 3, 2, 8, 0), (4, .invokevirtual 143, 3, 41, 1, 0), (7, .aload_n 0, 1, 0, 0, 0), (8, .dup, 1, 0, 0, 0), (9, .getfield 176, 3, 2, 12, 0), (12, .iconst 1, 1, 0, 0, 1), (13, .iadd, 1, 0, 0, 0), (14, .putfield 176, 3, 2, 12, 0), (17, .return_, 1, 0, 0, 0)]
def kc_X1_handleUnit : List ev_I := [(0, .aload_n 0, 1, 0, 0, 0), (1, .dup, 1, 0, 0, 0), (2, .getfield 179, 3, 2, 11, 0), (5, .iconst 1, 1, 0, 0, 1), (6, .iadd, 1, 0, 0, 0), (7, .putfield 179, 3, 2, 11, 0), (10, .aload_n 0, 1, 0, 0, 0), (11, .getfield 51, 3, 2, 8, 0), (14, .iconst 2, 1, 0, 0, 2), (15, .invokevirtual 172, 3, 46, 1, 0), (18, .istore_n 1, 1, 0, 0, 0), (19, .iload_n 1, 1, 0, 0, 0), (20, .iconst 5, 1, 0, 0, 5), (21, .if_icmp .ne 10, 3, 31, 0, 0), (24, .aload_n 0, 1, 0, 0, 0), (25, .invokevirtual 182, 3, 27, 1, 0), (28, .goto 8, 3, 36, 0, 0), (31, .aload_n 0, 1, 0, 0, 0), (32, .iload_n 1, 1, 0, 0, 0), (33, .invokevirtual 185, 3, 26, 1, 0), (36, .aload_n 0, 1, 0, 0, 0), (37, .getfield 51, 3, 2, 8, 0), (40, .invokevirtual 143, 3, 41, 1, 0), (43, .return_, 1, 0, 0, 0)]
def kc_X1_handleSegment : List ev_I := [(0, .iload_n 1, 1, 0, 0, 0), (1, .invokestatic 188, 3, 74, 3, 0), (4, .ifCond .eq 19, 3, 23, 0, 0), (7, .aload_n 0, 1, 0, 0, 0), (8, .getfield 11, 3, 2, 0, 0), (11, .iload_n 1, 1, 0, 0, 0), (12, .bipush 64, 2, 0, 0, 64), (14, .isub, 1, 0, 0, 0), (15, .aaload, 1, 0, 0, 0), (16, .getfield 62, 3, 1, 1, 1), (19, .iconst 2, 1, 0, 0, 2), (20, .if_icmp .eq 14, 3, 34, 0, 0), (23, .aload_n 0, 1, 0, 0, 0), (24, .dup, 1, 0, 0, 0), (25, .getfield 176, 3, 2, 12, 0), (28, .iconst 1, 1, 0, 0, 1), (29, .iadd, 1, 0, 0, 0), (30, .putfield 176, 3, 2, 12, 0), (33, .return_, 1, 0, 0, 0), (34, .aload_n 0, 1, 0, 0, 0), (35, .getfield 11, 3, 2, 0, 0), (38, .iload_n 1, 1, 0, 0, 0), (39, .bipush 64, 2, 0, 0, 64), (41, .isub, 1, 0, 0, 0), (42, .aaload, 1, 0, 0, 0), (43, .astore_n 2, 1, 0, 0, 0), (44, .aload_n 2, 1, 0, 0, 0), (45, .aload_n 0, 1, 0, 0, 0), (46, .getfield 51, 3, 2, 8, 0), (49, .invokevirtual 191, 3, 9, 1, 0), (52, .ifCond .ne 8, 3, 60, 0, 0), (55, .aload_n 0, 1, 0, 0, 0), (56, .aload_n 2, 1, 0, 0, 0), (57, .invokevirtual 195, 3, 16, 1, 0), (60, .return_, 1, 0, 0, 0)]
def kc_X1_handleSignal : List ev_I := [(0, .aload_n 0, 1, 0, 0, 0), (1, .getfield 51, 3, 2, 8, 0), (4, .getfield 122, 3, 4, 1, 1), (7, .iconst 4, 1, 0, 0, 4), (8, .isub, 1, 0, 0, 0), (9, .iconst 4, 1, 0, 0, 4), (10, .isub, 1, 0, 0, 0), (11, .istore_n 1, 1, 0, 0, 0), (12, .aload_n 0, 1, 0, 0, 0), (13, .getfield 51, 3, 2, 8, 0), (16, .iconst 4, 1, 0, 0, 4), (17, .invokevirtual 199, 3, 45, 1, 0), (20, .istore_n 2, 1, 0, 0, 0), (21, .aload_n 0, 1, 0, 0, 0), (22, .getfield 51, 3, 2, 8, 0), (25, .iconst 5, 1, 0, 0, 5), (26, .invokevirtual 199, 3, 45, 1, 0), (29, .istore_n 3, 1, 0, 0, 0), (30, .iload_n 1, 1, 0, 0, 0), (31, .ifCond .lt 7, 3, 38, 0, 0), (34, .iload_n 3, 1, 0, 0, 0), (35, .ifCond .ne 4, 3, 39, 0, 0), (38, .return_, 1, 0, 0, 0), (39, .aload_n 0, 1, 0, 0, 0), (40, .getfield 51, 3, 2, 8, 0), (43, .bipush 6, 2, 0, 0, 6), (45, .invokevirtual 172, 3, 46, 1, 0), (48, .iload_n 1, 1, 0, 0, 0), (49, .if_icmp .ne 11, 3, 60, 0, 0), (52, .iload_n 2, 1, 0, 0, 0), (53, .iload_n 1, 1, 0, 0, 0), (54, .invokestatic 202, 3, 28, 0, 0), (57, .ifCond .ne 25, 3, 82, 0, 0), (60, .aload_n 0, 1, 0, 0, 0), (61, .dup, 1, 0, 0, 0), (62, .getfield 206, 3, 2, 13, 0), (65, .iconst 1, 1, 0, 0, 1), (66, .iadd, 1, 0, 0, 0), (67, .putfield 206, 3, 2, 13, 0), (70, .aload_n 0, 1, 0, 0, 0), (71, .iconst 1, 1, 0, 0, 1), (72, .iload_n 3, 1, 0, 0, 0), (73, .iconst 1, 1, 0, 0, 1), (74, .invokevirtual 73, 3, 18, 1, 0), (77, .iconst 0, 1, 0, 0, 0), (78, .invokevirtual 77, 3, 43, 1, 0), (81, .return_, 1, 0, 0, 0), (82, .iload_n 2, 1, 0, 0, 0), (83, .lookupswitch 87 #[(6, 72), (7, 80), (20, 49), (21, 57), (22, 65)], 49, 0, 0, 0), (132, .aload_n 0, 1, 0, 0, 0), (133, .iload_n 3, 1, 0, 0, 0), (134, .invokevirtual 209, 3, 30, 1, 0), (137, .goto 38, 3, 175, 0, 0), (140, .aload_n 0, 1, 0, 0, 0), (141, .iload_n 3, 1, 0, 0, 0), (142, .invokevirtual 212, 3, 32, 1, 0), (145, .goto 30, 3, 175, 0, 0), (148, .aload_n 0, 1, 0, 0, 0), (149, .invokevirtual 215, 3, 33, 1, 0), (152, .goto 23, 3, 175, 0, 0), (155, .aload_n 0, 1, 0, 0, 0), (156, .iload_n 3, 1, 0, 0, 0), (157, .invokevirtual 218, 3, 34, 1, 0), (160, .goto 15, 3, 175, 0, 0), (163, .aload_n 0, 1, 0, 0, 0), (164, .invokevirtual 221, 3, 35, 1, 0), (167, .goto 8, 3, 175, 0, 0), (170, .aload_n 0, 1, 0, 0, 0), (171, .iload_n 3, 1, 0, 0, 0), (172, .invokevirtual 224, 3, 36, 1, 0), (175, .return_, 1, 0, 0, 0)]
def kc_X1_isSignal : List ev_I := [(0, .iload_n 0, 1, 0, 0, 0), (1, .lookupswitch 99 #[(1, 82), (6, 71), (7, 71), (20, 59), (21, 59), (22, 71)], 59, 0, 0, 0), (60, .iload_n 1, 1, 0, 0, 0), (61, .bipush 10, 2, 0, 0, 10), (63, .if_icmp .ne 7, 3, 70, 0, 0), (66, .iconst 1, 1, 0, 0, 1), (67, .goto 4, 3, 71, 0, 0), (70, .iconst 0, 1, 0, 0, 0), (71, .ireturn, 1, 0, 0, 0), (72, .iload_n 1, 1, 0, 0, 0), (73, .iconst 4, 1, 0, 0, 4), (74, .if_icmp .ne 7, 3, 81, 0, 0), (77, .iconst 1, 1, 0, 0, 1), (78, .goto 4, 3, 82, 0, 0), (81, .iconst 0, 1, 0, 0, 0), (82, .ireturn, 1, 0, 0, 0), (83, .iload_n 1, 1, 0, 0, 0), (84, .iconst 2, 1, 0, 0, 2), (85, .if_icmp .eq 9, 3, 94, 0, 0), (88, .iload_n 1, 1, 0, 0, 0), (89, .bipush 6, 2, 0, 0, 6), (91, .if_icmp .ne 7, 3, 98, 0, 0), (94, .iconst 1, 1, 0, 0, 1), (95, .goto 4, 3, 99, 0, 0), (98, .iconst 0, 1, 0, 0, 0), (99, .ireturn, 1, 0, 0, 0), (100, .iconst 0, 1, 0, 0, 0), (101, .ireturn, 1, 0, 0, 0)]
def kc_X1_told : List ev_I := [(0, .aload_n 0, 1, 0, 0, 0), (1, .getfield 51, 3, 2, 8, 0), (4, .bipush 8, 2, 0, 0, 8), (6, .iconst 2, 1, 0, 0, 2), (7, .iload_n 1, 1, 0, 0, 0), (8, .imul, 1, 0, 0, 0), (9, .iadd, 1, 0, 0, 0), (10, .invokevirtual 172, 3, 46, 1, 0), (13, .ireturn, 1, 0, 0, 0)]
def kc_X1_onRequest : List ev_I := [(0, .aload_n 0, 1, 0, 0, 0), (1, .iconst 0, 1, 0, 0, 0), (2, .invokevirtual 227, 3, 29, 1, 0), (5, .istore_n 2, 1, 0, 0, 0), (6, .aload_n 0, 1, 0, 0, 0), (7, .iload_n 2, 1, 0, 0, 0), (8, .aload_n 0, 1, 0, 0, 0), (9, .iconst 1, 1, 0, 0, 1), (10, .invokevirtual 227, 3, 29, 1, 0), (13, .aload_n 0, 1, 0, 0, 0), (14, .iconst 2, 1, 0, 0, 2), (15, .invokevirtual 227, 3, 29, 1, 0), (18, .aload_n 0, 1, 0, 0, 0), (19, .iconst 3, 1, 0, 0, 3), (20, .invokevirtual 227, 3, 29, 1, 0), (23, .invokevirtual 230, 3, 31, 1, 0), (26, .istore_n 3, 1, 0, 0, 0), (27, .aload_n 0, 1, 0, 0, 0), (28, .invokevirtual 54, 3, 37, 1, 0), (31, .astore 4, 2, 0, 0, 0), (33, .aload_n 0, 1, 0, 0, 0), (34, .bipush 21, 2, 0, 0, 21), (36, .iload_n 1, 1, 0, 0, 0), (37, .iconst 5, 1, 0, 0, 5), (38, .invokevirtual 73, 3, 18, 1, 0), (41, .astore 5, 2, 0, 0, 0), (43, .iload_n 3, 1, 0, 0, 0), (44, .ifCond .ne 99, 3, 143, 0, 0), (47, .aload 4, 2, 0, 0, 0), (49, .ifnull 94, 3, 143, 0, 0), (52, .aload 4, 2, 0, 0, 0), (54, .aload_n 0, 1, 0, 0, 0), (55, .getfield 20, 3, 2, 1, 0), (58, .iload_n 2, 1, 0, 0, 0), (59, .iaload, 1, 0, 0, 0), (60, .aload_n 0, 1, 0, 0, 0), (61, .getfield 24, 3, 2, 2, 0), (64, .iload_n 2, 1, 0, 0, 0), (65, .iaload, 1, 0, 0, 0), (66, .aload_n 0, 1, 0, 0, 0), (67, .getfield 27, 3, 2, 3, 0), (70, .iload_n 2, 1, 0, 0, 0), (71, .iaload, 1, 0, 0, 0), (72, .invokevirtual 58, 3, 1, 1, 0), (75, .aload 4, 2, 0, 0, 0), (77, .aload_n 0, 1, 0, 0, 0), (78, .iconst 1, 1, 0, 0, 1), (79, .invokevirtual 227, 3, 29, 1, 0), (82, .aload_n 0, 1, 0, 0, 0), (83, .iconst 2, 1, 0, 0, 2), (84, .invokevirtual 227, 3, 29, 1, 0), (87, .aload_n 0, 1, 0, 0, 0), (88, .iconst 3, 1, 0, 0, 3), (89, .invokevirtual 227, 3, 29, 1, 0), (92, .aload_n 0, 1, 0, 0, 0), (93, .iconst 4, 1, 0, 0, 4), (94, .invokevirtual 227, 3, 29, 1, 0), (97, .invokevirtual 234, 3, 2, 1, 0), (100, .aload 5, 2, 0, 0, 0), (102, .aload 4, 2, 0, 0, 0), (104, .getfield 80, 3, 1, 0, 1), (107, .invokevirtual 77, 3, 43, 1, 0), (110, .aload 5, 2, 0, 0, 0), (112, .aload 4, 2, 0, 0, 0), (114, .getfield 238, 3, 1, 3, 1), (117, .invokevirtual 77, 3, 43, 1, 0), (120, .aload 5, 2, 0, 0, 0), (122, .aload 4, 2, 0, 0, 0), (124, .getfield 241, 3, 1, 4, 1), (127, .invokevirtual 77, 3, 43, 1, 0), (130, .aload 5, 2, 0, 0, 0), (132, .aload 4, 2, 0, 0, 0), (134, .getfield 83, 3, 1, 5, 1), (137, .invokevirtual 77, 3, 43, 1, 0), (140, .goto 24, 3, 164, 0, 0), (143, .iconst 0, 1, 0, 0, 0), (144, .istore 6, 2, 0, 0, 0), (146, .iload 6, 2, 0, 0, 0), (148, .iconst 4, 1, 0, 0, 4), (149, .if_icmp .ge 15, 3, 164, 0, 0), (152, .aload 5, 2, 0, 0, 0), (154, .iconst 0, 1, 0, 0, 0), (155, .invokevirtual 77, 3, 43, 1, 0), (158, .iinc 6 1, 3, 0, 0, 1), (161, .goto (-15), 3, 146, 0, 0), (164, .aload 5, 2, 0, 0, 0), (166, .iload_n 3, 1, 0, 0, 0), (167, .invokevirtual 77, 3, 43, 1, 0), (170, .return_, 1, 0, 0, 0)]
def kc_X1_judgeRequest : List ev_I := [(0, .aload_n 0, 1, 0, 0, 0), (1, .iload_n 1, 1, 0, 0, 0), (2, .invokevirtual 244, 3, 13, 1, 0), (5, .ifCond .ne 5, 3, 10, 0, 0), (8, .iconst 2, 1, 0, 0, 2), (9, .ireturn, 1, 0, 0, 0), (10, .iload_n 3, 1, 0, 0, 0), (11, .bipush 23, 2, 0, 0, 23), (13, .if_icmp .lt 10, 3, 23, 0, 0), (16, .iload 4, 2, 0, 0, 0), (18, .bipush 23, 2, 0, 0, 23), (20, .if_icmp .ge 6, 3, 26, 0, 0), (23, .bipush 11, 2, 0, 0, 11), (25, .ireturn, 1, 0, 0, 0), (26, .iload_n 2, 1, 0, 0, 0), (27, .invokestatic 247, 3, 76, 3, 0), (30, .ifCond .ne 6, 3, 36, 0, 0), (33, .bipush 9, 2, 0, 0, 9), (35, .ireturn, 1, 0, 0, 0), (36, .iconst 0, 1, 0, 0, 0), (37, .istore 5, 2, 0, 0, 0), (39, .iload 5, 2, 0, 0, 0), (41, .iconst 4, 1, 0, 0, 4), (42, .if_icmp .ge 26, 3, 68, 0, 0), (45, .aload_n 0, 1, 0, 0, 0), (46, .getfield 11, 3, 2, 0, 0), (49, .iload 5, 2, 0, 0, 0), (51, .aaload, 1, 0, 0, 0), (52, .iload_n 2, 1, 0, 0, 0), (53, .invokevirtual 250, 3, 5, 1, 0), (56, .ifCond .eq 6, 3, 62, 0, 0), (59, .bipush 10, 2, 0, 0, 10), (61, .ireturn, 1, 0, 0, 0), (62, .iinc 5 1, 3, 0, 0, 1), (65, .goto (-26), 3, 39, 0, 0), (68, .aload_n 0, 1, 0, 0, 0), (69, .invokevirtual 54, 3, 37, 1, 0), (72, .ifnonnull 7, 3, 79, 0, 0), (75, .iconst 4, 1, 0, 0, 4), (76, .goto 4, 3, 80, 0, 0), (79, .iconst 0, 1, 0, 0, 0), (80, .ireturn, 1, 0, 0, 0)]
def kc_X1_onAnswer : List ev_I := [(0, .aload_n 0, 1, 0, 0, 0), (1, .iload_n 1, 1, 0, 0, 0), (2, .iconst 0, 1, 0, 0, 0), (3, .invokevirtual 253, 3, 38, 1, 0), (6, .astore_n 2, 1, 0, 0, 0), (7, .aload_n 2, 1, 0, 0, 0), (8, .ifnonnull 4, 3, 12, 0, 0), (11, .return_, 1, 0, 0, 0), (12, .aload_n 0, 1, 0, 0, 0), (13, .iconst 4, 1, 0, 0, 4), (14, .invokevirtual 227, 3, 29, 1, 0), (17, .ifCond .ne 38, 3, 55, 0, 0), (20, .aload_n 0, 1, 0, 0, 0), (21, .iconst 0, 1, 0, 0, 0), (22, .invokevirtual 227, 3, 29, 1, 0), (25, .invokestatic 247, 3, 76, 3, 0), (28, .ifCond .eq 27, 3, 55, 0, 0), (31, .aload_n 0, 1, 0, 0, 0), (32, .iconst 1, 1, 0, 0, 1), (33, .invokevirtual 227, 3, 29, 1, 0), (36, .bipush 23, 2, 0, 0, 23), (38, .if_icmp .lt 17, 3, 55, 0, 0), (41, .aload_n 0, 1, 0, 0, 0), (42, .iconst 2, 1, 0, 0, 2), (43, .invokevirtual 227, 3, 29, 1, 0), (46, .bipush 23, 2, 0, 0, 23), (48, .if_icmp .lt 7, 3, 55, 0, 0), (51, .iconst 1, 1, 0, 0, 1), (52, .goto 4, 3, 56, 0, 0), (55, .iconst 0, 1, 0, 0, 0), (56, .istore_n 3, 1, 0, 0, 0), (57, .iload_n 3, 1, 0, 0, 0), (58, .ifCond .eq 30, 3, 88, 0, 0), (61, .aload_n 2, 1, 0, 0, 0), (62, .aload_n 0, 1, 0, 0, 0), (63, .iconst 0, 1, 0, 0, 0), (64, .invokevirtual 227, 3, 29, 1, 0), (67, .aload_n 0, 1, 0, 0, 0), (68, .iconst 1, 1, 0, 0, 1), (69, .invokevirtual 227, 3, 29, 1, 0), (72, .aload_n 0, 1, 0, 0, 0), (73, .iconst 2, 1, 0, 0, 2), (74, .invokevirtual 227, 3, 29, 1, 0), (77, .aload_n 0, 1, 0, 0, 0), (78, .iconst 3, 1, 0, 0, 3), (79, .invokevirtual 227, 3, 29, 1, 0), (82, .invokevirtual 234, 3, 2, 1, 0), (85, .goto 7, 3, 92, 0, 0), (88, .aload_n 2, 1, 0, 0, 0), (89, .invokevirtual 257, 3, 3, 1, 0), (92, .return_, 1, 0, 0, 0)]
def kc_X1_onCredit : List ev_I := [(0, .iconst 0, 1, 0, 0, 0), (1, .istore_n 1, 1, 0, 0, 0), (2, .iload_n 1, 1, 0, 0, 0), (3, .iconst 4, 1, 0, 0, 4), (4, .if_icmp .ge 83, 3, 87, 0, 0), (7, .aload_n 0, 1, 0, 0, 0), (8, .getfield 11, 3, 2, 0, 0), (11, .iload_n 1, 1, 0, 0, 0), (12, .aaload, 1, 0, 0, 0), (13, .astore_n 2, 1, 0, 0, 0), (14, .aload_n 2, 1, 0, 0, 0), (15, .getfield 62, 3, 1, 1, 1), (18, .iconst 2, 1, 0, 0, 2), (19, .if_icmp .ne 62, 3, 81, 0, 0), (22, .aload_n 2, 1, 0, 0, 0), (23, .getfield 89, 3, 1, 6, 1), (26, .aload_n 0, 1, 0, 0, 0), (27, .iconst 0, 1, 0, 0, 0), (28, .invokevirtual 227, 3, 29, 1, 0), (31, .if_icmp .ne 50, 3, 81, 0, 0), (34, .aload_n 0, 1, 0, 0, 0), (35, .iconst 1, 1, 0, 0, 1), (36, .invokevirtual 227, 3, 29, 1, 0), (39, .ifCond .eq 19, 3, 58, 0, 0), (42, .aload_n 2, 1, 0, 0, 0), (43, .getfield 260, 3, 1, 9, 1), (46, .aload_n 0, 1, 0, 0, 0), (47, .iconst 1, 1, 0, 0, 1), (48, .invokevirtual 227, 3, 29, 1, 0), (51, .iadd, 1, 0, 0, 0), (52, .ldc_w 263, 3, 0, 0, 65535), (55, .if_icmp .le 11, 3, 66, 0, 0), (58, .aload_n 0, 1, 0, 0, 0), (59, .aload_n 2, 1, 0, 0, 0), (60, .invokevirtual 195, 3, 16, 1, 0), (63, .goto 17, 3, 80, 0, 0), (66, .aload_n 2, 1, 0, 0, 0), (67, .dup, 1, 0, 0, 0), (68, .getfield 260, 3, 1, 9, 1), (71, .aload_n 0, 1, 0, 0, 0), (72, .iconst 1, 1, 0, 0, 1), (73, .invokevirtual 227, 3, 29, 1, 0), (76, .iadd, 1, 0, 0, 0), (77, .putfield 260, 3, 1, 9, 1), (80, .return_, 1, 0, 0, 0), (81, .iinc 1 1, 3, 0, 0, 1), (84, .goto (-82), 3, 2, 0, 0), (87, .return_, 1, 0, 0, 0)]
def kc_X1_onLeave : List ev_I := [(0, .aload_n 0, 1, 0, 0, 0), (1, .iconst 0, 1, 0, 0, 0), (2, .invokevirtual 227, 3, 29, 1, 0), (5, .invokestatic 188, 3, 74, 3, 0), (8, .ifCond .eq 55, 3, 63, 0, 0), (11, .aload_n 0, 1, 0, 0, 0), (12, .getfield 11, 3, 2, 0, 0), (15, .aload_n 0, 1, 0, 0, 0), (16, .iconst 0, 1, 0, 0, 0), (17, .invokevirtual 227, 3, 29, 1, 0), (20, .bipush 64, 2, 0, 0, 64), (22, .isub, 1, 0, 0, 0), (23, .aaload, 1, 0, 0, 0), (24, .aload_n 0, 1, 0, 0, 0), (25, .iconst 1, 1, 0, 0, 1), (26, .invokevirtual 227, 3, 29, 1, 0), (29, .invokevirtual 250, 3, 5, 1, 0), (32, .ifCond .eq 31, 3, 63, 0, 0), (35, .aload_n 0, 1, 0, 0, 0), (36, .getfield 11, 3, 2, 0, 0), (39, .aload_n 0, 1, 0, 0, 0), (40, .iconst 0, 1, 0, 0, 0), (41, .invokevirtual 227, 3, 29, 1, 0), (44, .bipush 64, 2, 0, 0, 64), (46, .isub, 1, 0, 0, 0), (47, .aaload, 1, 0, 0, 0), (48, .invokevirtual 257, 3, 3, 1, 0), (51, .aload_n 0, 1, 0, 0, 0), (52, .bipush 7, 2, 0, 0, 7), (54, .iload_n 1, 1, 0, 0, 0), (55, .iconst 2, 1, 0, 0, 2), (56, .invokevirtual 73, 3, 18, 1, 0), (59, .astore_n 2, 1, 0, 0, 0), (60, .goto 26, 3, 86, 0, 0), (63, .aload_n 0, 1, 0, 0, 0), (64, .dup, 1, 0, 0, 0), (65, .getfield 206, 3, 2, 13, 0), (68, .iconst 1, 1, 0, 0, 1), (69, .iadd, 1, 0, 0, 0), (70, .putfield 206, 3, 2, 13, 0), (73, .aload_n 0, 1, 0, 0, 0), (74, .iconst 1, 1, 0, 0, 1), (75, .iload_n 1, 1, 0, 0, 0), (76, .iconst 3, 1, 0, 0, 3), (77, .invokevirtual 73, 3, 18, 1, 0), (80, .astore_n 2, 1, 0, 0, 0), (81, .aload_n 2, 1, 0, 0, 0), (82, .iconst 2, 1, 0, 0, 2), (83, .invokevirtual 77, 3, 43, 1, 0), (86, .aload_n 2, 1, 0, 0, 0), (87, .aload_n 0, 1, 0, 0, 0), (88, .iconst 0, 1, 0, 0, 0), (89, .invokevirtual 227, 3, 29, 1, 0), (92, .invokevirtual 77, 3, 43, 1, 0), (95, .aload_n 2, 1, 0, 0, 0), (96, .aload_n 0, 1, 0, 0, 0), (97, .iconst 1, 1, 0, 0, 1), (98, .invokevirtual 227, 3, 29, 1, 0), (101, .invokevirtual 77, 3, 43, 1, 0), (104, .return_, 1, 0, 0, 0)]
def kc_X1_onLeft : List ev_I := [(0, .aload_n 0, 1, 0, 0, 0), (1, .iconst 1, 1, 0, 0, 1), (2, .invokevirtual 227, 3, 29, 1, 0), (5, .invokestatic 188, 3, 74, 3, 0), (8, .ifCond .eq 41, 3, 49, 0, 0), (11, .aload_n 0, 1, 0, 0, 0), (12, .getfield 11, 3, 2, 0, 0), (15, .aload_n 0, 1, 0, 0, 0), (16, .iconst 1, 1, 0, 0, 1), (17, .invokevirtual 227, 3, 29, 1, 0), (20, .bipush 64, 2, 0, 0, 64), (22, .isub, 1, 0, 0, 0), (23, .aaload, 1, 0, 0, 0), (24, .astore_n 1, 1, 0, 0, 0), (25, .aload_n 1, 1, 0, 0, 0), (26, .getfield 62, 3, 1, 1, 1), (29, .iconst 3, 1, 0, 0, 3), (30, .if_icmp .ne 19, 3, 49, 0, 0), (33, .aload_n 1, 1, 0, 0, 0), (34, .getfield 89, 3, 1, 6, 1), (37, .aload_n 0, 1, 0, 0, 0), (38, .iconst 0, 1, 0, 0, 0), (39, .invokevirtual 227, 3, 29, 1, 0), (42, .if_icmp .ne 7, 3, 49, 0, 0), (45, .aload_n 1, 1, 0, 0, 0), (46, .invokevirtual 257, 3, 3, 1, 0), (49, .return_, 1, 0, 0, 0)]
def kc_X1_onReject : List ev_I := [(0, .aload_n 0, 1, 0, 0, 0), (1, .iload_n 1, 1, 0, 0, 0), (2, .iconst 1, 1, 0, 0, 1), (3, .invokevirtual 253, 3, 38, 1, 0), (6, .astore_n 2, 1, 0, 0, 0), (7, .aload_n 2, 1, 0, 0, 0), (8, .ifnull 7, 3, 15, 0, 0), (11, .aload_n 2, 1, 0, 0, 0), (12, .invokevirtual 257, 3, 3, 1, 0), (15, .return_, 1, 0, 0, 0)]
def kc_X1_firstClosed : List ev_I := [(0, .iconst 0, 1, 0, 0, 0), (1, .istore_n 1, 1, 0, 0, 0), (2, .iload_n 1, 1, 0, 0, 0), (3, .iconst 4, 1, 0, 0, 4), (4, .if_icmp .ge 28, 3, 32, 0, 0), (7, .aload_n 0, 1, 0, 0, 0), (8, .getfield 11, 3, 2, 0, 0), (11, .iload_n 1, 1, 0, 0, 0), (12, .aaload, 1, 0, 0, 0), (13, .getfield 62, 3, 1, 1, 1), (16, .ifCond .ne 10, 3, 26, 0, 0), (19, .aload_n 0, 1, 0, 0, 0), (20, .getfield 11, 3, 2, 0, 0), (23, .iload_n 1, 1, 0, 0, 0), (24, .aaload, 1, 0, 0, 0), (25, .areturn, 1, 0, 0, 0), (26, .iinc 1 1, 3, 0, 0, 1), (29, .goto (-27), 3, 2, 0, 0), (32, .aconst_null, 1, 0, 0, 0), (33, .areturn, 1, 0, 0, 0)]
def kc_X1_firstBySignal : List ev_I := [(0, .iconst 0, 1, 0, 0, 0), (1, .istore_n 3, 1, 0, 0, 0), (2, .iload_n 3, 1, 0, 0, 0), (3, .iconst 4, 1, 0, 0, 4), (4, .if_icmp .ge 63, 3, 67, 0, 0), (7, .aload_n 0, 1, 0, 0, 0), (8, .getfield 11, 3, 2, 0, 0), (11, .iload_n 3, 1, 0, 0, 0), (12, .aaload, 1, 0, 0, 0), (13, .astore 4, 2, 0, 0, 0), (15, .aload 4, 2, 0, 0, 0), (17, .getfield 62, 3, 1, 1, 1), (20, .iconst 1, 1, 0, 0, 1), (21, .if_icmp .eq 16, 3, 37, 0, 0), (24, .iload_n 2, 1, 0, 0, 0), (25, .ifCond .eq 16, 3, 41, 0, 0), (28, .aload 4, 2, 0, 0, 0), (30, .getfield 62, 3, 1, 1, 1), (33, .iconst 3, 1, 0, 0, 3), (34, .if_icmp .ne 7, 3, 41, 0, 0), (37, .iconst 1, 1, 0, 0, 1), (38, .goto 4, 3, 42, 0, 0), (41, .iconst 0, 1, 0, 0, 0), (42, .istore 5, 2, 0, 0, 0), (44, .iload 5, 2, 0, 0, 0), (46, .ifCond .eq 15, 3, 61, 0, 0), (49, .aload 4, 2, 0, 0, 0), (51, .getfield 70, 3, 1, 2, 1), (54, .iload_n 1, 1, 0, 0, 0), (55, .if_icmp .ne 6, 3, 61, 0, 0), (58, .aload 4, 2, 0, 0, 0), (60, .areturn, 1, 0, 0, 0), (61, .iinc 3 1, 3, 0, 0, 1), (64, .goto (-62), 3, 2, 0, 0), (67, .aconst_null, 1, 0, 0, 0), (68, .areturn, 1, 0, 0, 0)]
def kc_X2_init : List ev_I := [(0, .aload_n 0, 1, 0, 0, 0), (1, .invokespecial 3, 3, 0, 5, 0), (4, .aload_n 0, 1, 0, 0, 0), (5, .new 9, 3, 4, 0, 0), (8, .dup, 1, 0, 0, 0), (9, .bipush 27, 2, 0, 0, 27), (11, .invokespecial 11, 3, 40, 2, 0), (14, .putfield 14, 3, 3, 0, 0), (17, .return_, 1, 0, 0, 0)]
def kc_X3_init : List ev_I := [(0, .aload_n 0, 1, 0, 0, 0), (1, .invokespecial 3, 3, 0, 5, 0), (4, .aload_n 0, 1, 0, 0, 0), (5, .iload_n 1, 1, 0, 0, 0), (6, .newarray .byte, 2, 0, 0, 0), (8, .putfield 9, 3, 4, 0, 0), (11, .return_, 1, 0, 0, 0)]
def kc_X3_clear : List ev_I := [(0, .aload_n 0, 1, 0, 0, 0), (1, .iconst 0, 1, 0, 0, 0), (2, .putfield 15, 3, 4, 1, 0), (5, .return_, 1, 0, 0, 0)]
def kc_X3_add : List ev_I := [(0, .aload_n 0, 1, 0, 0, 0), (1, .getfield 15, 3, 4, 1, 0), (4, .aload_n 0, 1, 0, 0, 0), (5, .getfield 9, 3, 4, 0, 0), (8, .arraylength, 1, 0, 0, 0), (9, .if_icmp .ge 24, 3, 33, 0, 0), (12, .aload_n 0, 1, 0, 0, 0), (13, .getfield 9, 3, 4, 0, 0), (16, .aload_n 0, 1, 0, 0, 0), (17, .getfield 15, 3, 4, 1, 0), (20, .iload_n 1, 1, 0, 0, 0), (21, .i2b, 1, 0, 0, 0), (22, .bastore, 1, 0, 0, 0), (23, .aload_n 0, 1, 0, 0, 0), (24, .dup, 1, 0, 0, 0), (25, .getfield 15, 3, 4, 1, 0), (28, .iconst 1, 1, 0, 0, 1), (29, .iadd, 1, 0, 0, 0), (30, .putfield 15, 3, 4, 1, 0), (33, .return_, 1, 0, 0, 0)]
def kc_X3_addNumber : List ev_I := [(0, .aload_n 0, 1, 0, 0, 0), (1, .getfield 15, 3, 4, 1, 0), (4, .aload_n 0, 1, 0, 0, 0), (5, .getfield 9, 3, 4, 0, 0), (8, .arraylength, 1, 0, 0, 0), (9, .iconst 1, 1, 0, 0, 1), (10, .isub, 1, 0, 0, 0), (11, .if_icmp .ge 40, 3, 51, 0, 0), (14, .aload_n 0, 1, 0, 0, 0), (15, .getfield 9, 3, 4, 0, 0), (18, .aload_n 0, 1, 0, 0, 0), (19, .getfield 15, 3, 4, 1, 0), (22, .iload_n 1, 1, 0, 0, 0), (23, .i2b, 1, 0, 0, 0), (24, .bastore, 1, 0, 0, 0), (25, .aload_n 0, 1, 0, 0, 0), (26, .getfield 9, 3, 4, 0, 0), (29, .aload_n 0, 1, 0, 0, 0), (30, .getfield 15, 3, 4, 1, 0), (33, .iconst 1, 1, 0, 0, 1), (34, .iadd, 1, 0, 0, 0), (35, .iload_n 1, 1, 0, 0, 0), (36, .bipush 8, 2, 0, 0, 8), (38, .ishr, 1, 0, 0, 0), (39, .i2b, 1, 0, 0, 0), (40, .bastore, 1, 0, 0, 0), (41, .aload_n 0, 1, 0, 0, 0), (42, .dup, 1, 0, 0, 0), (43, .getfield 15, 3, 4, 1, 0), (46, .iconst 2, 1, 0, 0, 2), (47, .iadd, 1, 0, 0, 0), (48, .putfield 15, 3, 4, 1, 0), (51, .return_, 1, 0, 0, 0)]
def kc_X3_addPart : List ev_I := [(0, .iconst 0, 1, 0, 0, 0), (1, .istore 4, 2, 0, 0, 0), (3, .iload 4, 2, 0, 0, 0), (5, .iload_n 3, 1, 0, 0, 0), (6, .if_icmp .ge 67, 3, 73, 0, 0), (9, .iload_n 2, 1, 0, 0, 0), (10, .iload 4, 2, 0, 0, 0), (12, .iadd, 1, 0, 0, 0), (13, .istore 5, 2, 0, 0, 0), (15, .iload 5, 2, 0, 0, 0), (17, .ifCond .lt 50, 3, 67, 0, 0), (20, .iload 5, 2, 0, 0, 0), (22, .aload_n 1, 1, 0, 0, 0), (23, .getfield 15, 3, 4, 1, 0), (26, .if_icmp .ge 41, 3, 67, 0, 0), (29, .aload_n 0, 1, 0, 0, 0), (30, .getfield 15, 3, 4, 1, 0), (33, .aload_n 0, 1, 0, 0, 0), (34, .getfield 9, 3, 4, 0, 0), (37, .arraylength, 1, 0, 0, 0), (38, .if_icmp .ge 29, 3, 67, 0, 0), (41, .aload_n 0, 1, 0, 0, 0), (42, .getfield 9, 3, 4, 0, 0), (45, .aload_n 0, 1, 0, 0, 0), (46, .getfield 15, 3, 4, 1, 0), (49, .aload_n 1, 1, 0, 0, 0), (50, .getfield 9, 3, 4, 0, 0), (53, .iload 5, 2, 0, 0, 0), (55, .baload, 1, 0, 0, 0), (56, .bastore, 1, 0, 0, 0), (57, .aload_n 0, 1, 0, 0, 0), (58, .dup, 1, 0, 0, 0), (59, .getfield 15, 3, 4, 1, 0), (62, .iconst 1, 1, 0, 0, 1), (63, .iadd, 1, 0, 0, 0), (64, .putfield 15, 3, 4, 1, 0), (67, .iinc 4 1, 3, 0, 0, 1), (70, .goto (-67), 3, 3, 0, 0), (73, .return_, 1, 0, 0, 0)]
def kc_X3_at : List ev_I := [(0, .iload_n 1, 1, 0, 0, 0), (1, .ifCond .lt 24, 3, 25, 0, 0), (4, .iload_n 1, 1, 0, 0, 0), (5, .aload_n 0, 1, 0, 0, 0), (6, .getfield 15, 3, 4, 1, 0), (9, .if_icmp .ge 16, 3, 25, 0, 0), (12, .aload_n 0, 1, 0, 0, 0), (13, .getfield 9, 3, 4, 0, 0), (16, .iload_n 1, 1, 0, 0, 0), (17, .baload, 1, 0, 0, 0), (18, .sipush 255, 3, 0, 0, 255), (21, .iand, 1, 0, 0, 0), (22, .goto 4, 3, 26, 0, 0), (25, .iconst (-1), 1, 0, 0, (-1)), (26, .ireturn, 1, 0, 0, 0)]
def kc_X3_numberAt : List ev_I := [(0, .iload_n 1, 1, 0, 0, 0), (1, .ifCond .lt 42, 3, 43, 0, 0), (4, .iload_n 1, 1, 0, 0, 0), (5, .aload_n 0, 1, 0, 0, 0), (6, .getfield 15, 3, 4, 1, 0), (9, .iconst 1, 1, 0, 0, 1), (10, .isub, 1, 0, 0, 0), (11, .if_icmp .ge 32, 3, 43, 0, 0), (14, .aload_n 0, 1, 0, 0, 0), (15, .getfield 9, 3, 4, 0, 0), (18, .iload_n 1, 1, 0, 0, 0), (19, .baload, 1, 0, 0, 0), (20, .sipush 255, 3, 0, 0, 255), (23, .iand, 1, 0, 0, 0), (24, .aload_n 0, 1, 0, 0, 0), (25, .getfield 9, 3, 4, 0, 0), (28, .iload_n 1, 1, 0, 0, 0), (29, .iconst 1, 1, 0, 0, 1), (30, .iadd, 1, 0, 0, 0), (31, .baload, 1, 0, 0, 0), (32, .sipush 255, 3, 0, 0, 255), (35, .iand, 1, 0, 0, 0), (36, .bipush 8, 2, 0, 0, 8), (38, .ishl, 1, 0, 0, 0), (39, .ior, 1, 0, 0, 0), (40, .goto 4, 3, 44, 0, 0), (43, .iconst 0, 1, 0, 0, 0), (44, .ireturn, 1, 0, 0, 0)]
def kc_X4_init : List ev_I := [(0, .aload_n 0, 1, 0, 0, 0), (1, .invokespecial 1, 3, 0, 5, 0), (4, .aload_n 0, 1, 0, 0, 0), (5, .iload_n 1, 1, 0, 0, 0), (6, .anewarray 7, 3, 7, 0, 0), (9, .putfield 9, 3, 5, 0, 0), (12, .iconst 0, 1, 0, 0, 0), (13, .istore_n 3, 1, 0, 0, 0), (14, .iload_n 3, 1, 0, 0, 0), (15, .iload_n 1, 1, 0, 0, 0), (16, .if_icmp .ge 23, 3, 39, 0, 0), (19, .aload_n 0, 1, 0, 0, 0), (20, .getfield 9, 3, 5, 0, 0), (23, .iload_n 3, 1, 0, 0, 0), (24, .new 7, 3, 4, 0, 0), (27, .dup, 1, 0, 0, 0), (28, .iload_n 2, 1, 0, 0, 0), (29, .invokespecial 15, 3, 40, 2, 0), (32, .aastore, 1, 7, 4, 0), (33, .iinc 3 1, 3, 0, 0, 1), (36, .goto (-22), 3, 14, 0, 0), (39, .return_, 1, 0, 0, 0)]
def kc_X4_clear : List ev_I := [(0, .aload_n 0, 1, 0, 0, 0), (1, .iconst 0, 1, 0, 0, 0), (2, .putfield 18, 3, 5, 2, 0), (5, .return_, 1, 0, 0, 0)]
def kc_X4_first : List ev_I := [(0, .aload_n 0, 1, 0, 0, 0), (1, .getfield 18, 3, 5, 2, 0), (4, .ifCond .le 15, 3, 19, 0, 0), (7, .aload_n 0, 1, 0, 0, 0), (8, .getfield 9, 3, 5, 0, 0), (11, .aload_n 0, 1, 0, 0, 0), (12, .getfield 22, 3, 5, 1, 0), (15, .aaload, 1, 0, 0, 0), (16, .goto 4, 3, 20, 0, 0), (19, .aconst_null, 1, 0, 0, 0), (20, .areturn, 1, 0, 0, 0)]
def kc_X4_addEmpty : List ev_I := [(0, .aload_n 0, 1, 0, 0, 0), (1, .getfield 18, 3, 5, 2, 0), (4, .aload_n 0, 1, 0, 0, 0), (5, .getfield 9, 3, 5, 0, 0), (8, .arraylength, 1, 0, 0, 0), (9, .if_icmp .lt 5, 3, 14, 0, 0), (12, .aconst_null, 1, 0, 0, 0), (13, .areturn, 1, 0, 0, 0), (14, .aload_n 0, 1, 0, 0, 0), (15, .getfield 22, 3, 5, 1, 0), (18, .aload_n 0, 1, 0, 0, 0), (19, .getfield 18, 3, 5, 2, 0), (22, .iadd, 1, 0, 0, 0), (23, .istore_n 1, 1, 0, 0, 0), (24, .aload_n 0, 1, 0, 0, 0), (25, .getfield 9, 3, 5, 0, 0), (28, .iload_n 1, 1, 0, 0, 0), (29, .aload_n 0, 1, 0, 0, 0), (30, .getfield 9, 3, 5, 0, 0), (33, .arraylength, 1, 0, 0, 0), (34, .if_icmp .ge 7, 3, 41, 0, 0), (37, .iload_n 1, 1, 0, 0, 0), (38, .goto 10, 3, 48, 0, 0), (41, .iload_n 1, 1, 0, 0, 0), (42, .aload_n 0, 1, 0, 0, 0), (43, .getfield 9, 3, 5, 0, 0), (46, .arraylength, 1, 0, 0, 0), (47, .isub, 1, 0, 0, 0), (48, .aaload, 1, 0, 0, 0), (49, .astore_n 2, 1, 0, 0, 0), (50, .aload_n 2, 1, 0, 0, 0), (51, .invokevirtual 25, 3, 41, 1, 0), (54, .aload_n 0, 1, 0, 0, 0), (55, .dup, 1, 0, 0, 0), (56, .getfield 18, 3, 5, 2, 0), (59, .iconst 1, 1, 0, 0, 1), (60, .iadd, 1, 0, 0, 0), (61, .putfield 18, 3, 5, 2, 0), (64, .aload_n 2, 1, 0, 0, 0), (65, .areturn, 1, 0, 0, 0)]
def kc_X4_dropFirst : List ev_I := [(0, .aload_n 0, 1, 0, 0, 0), (1, .getfield 18, 3, 5, 2, 0), (4, .ifCond .le 41, 3, 45, 0, 0), (7, .aload_n 0, 1, 0, 0, 0), (8, .aload_n 0, 1, 0, 0, 0), (9, .getfield 22, 3, 5, 1, 0), (12, .iconst 1, 1, 0, 0, 1), (13, .iadd, 1, 0, 0, 0), (14, .aload_n 0, 1, 0, 0, 0), (15, .getfield 9, 3, 5, 0, 0), (18, .arraylength, 1, 0, 0, 0), (19, .if_icmp .ge 12, 3, 31, 0, 0), (22, .aload_n 0, 1, 0, 0, 0), (23, .getfield 22, 3, 5, 1, 0), (26, .iconst 1, 1, 0, 0, 1), (27, .iadd, 1, 0, 0, 0), (28, .goto 4, 3, 32, 0, 0), (31, .iconst 0, 1, 0, 0, 0), (32, .putfield 22, 3, 5, 1, 0), (35, .aload_n 0, 1, 0, 0, 0), (36, .dup, 1, 0, 0, 0), (37, .getfield 18, 3, 5, 2, 0), (40, .iconst 1, 1, 0, 0, 1), (41, .isub, 1, 0, 0, 0), (42, .putfield 18, 3, 5, 2, 0), (45, .return_, 1, 0, 0, 0)]
def kc_X5_init : List ev_I := [(0, .aload_n 0, 1, 0, 0, 0), (1, .invokespecial 3, 3, 0, 5, 0), (4, .aload_n 0, 1, 0, 0, 0), (5, .bipush 32, 2, 0, 0, 32), (7, .anewarray 9, 3, 6, 0, 0), (10, .putfield 11, 3, 6, 0, 0), (13, .iconst 0, 1, 0, 0, 0), (14, .istore_n 1, 1, 0, 0, 0), (15, .iload_n 1, 1, 0, 0, 0), (16, .bipush 32, 2, 0, 0, 32), (18, .if_icmp .ge 22, 3, 40, 0, 0), (21, .aload_n 0, 1, 0, 0, 0), (22, .getfield 11, 3, 6, 0, 0), (25, .iload_n 1, 1, 0, 0, 0), (26, .new 9, 3, 3, 0, 0), (29, .dup, 1, 0, 0, 0), (30, .invokespecial 17, 3, 39, 2, 0), (33, .aastore, 1, 6, 3, 0), (34, .iinc 1 1, 3, 0, 0, 1), (37, .goto (-22), 3, 15, 0, 0), (40, .return_, 1, 0, 0, 0)]
def kc_X5_hasRoomFor : List ev_I := [(0, .aload_n 0, 1, 0, 0, 0), (1, .getfield 18, 3, 6, 2, 0), (4, .iload_n 1, 1, 0, 0, 0), (5, .iadd, 1, 0, 0, 0), (6, .bipush 32, 2, 0, 0, 32), (8, .if_icmp .gt 7, 3, 15, 0, 0), (11, .iconst 1, 1, 0, 0, 1), (12, .goto 4, 3, 16, 0, 0), (15, .iconst 0, 1, 0, 0, 0), (16, .ireturn, 1, 0, 0, 0)]
def kc_X5_freeBuffers : List ev_I := [(0, .iconst 4, 1, 0, 0, 4), (1, .aload_n 0, 1, 0, 0, 0), (2, .getfield 22, 3, 6, 3, 0), (5, .isub, 1, 0, 0, 0), (6, .ireturn, 1, 0, 0, 0)]
def kc_X5_firstPacket : List ev_I := [(0, .aload_n 0, 1, 0, 0, 0), (1, .getfield 18, 3, 6, 2, 0), (4, .ifCond .le 15, 3, 19, 0, 0), (7, .aload_n 0, 1, 0, 0, 0), (8, .getfield 11, 3, 6, 0, 0), (11, .aload_n 0, 1, 0, 0, 0), (12, .getfield 25, 3, 6, 1, 0), (15, .aaload, 1, 0, 0, 0), (16, .goto 4, 3, 20, 0, 0), (19, .aconst_null, 1, 0, 0, 0), (20, .areturn, 1, 0, 0, 0)]
def kc_X5_put : List ev_I := [(0, .aload_n 0, 1, 0, 0, 0), (1, .getfield 18, 3, 6, 2, 0), (4, .bipush 32, 2, 0, 0, 32), (6, .if_icmp .ge 90, 3, 96, 0, 0), (9, .aload_n 0, 1, 0, 0, 0), (10, .getfield 11, 3, 6, 0, 0), (13, .aload_n 0, 1, 0, 0, 0), (14, .getfield 25, 3, 6, 1, 0), (17, .aload_n 0, 1, 0, 0, 0), (18, .getfield 18, 3, 6, 2, 0), (21, .iadd, 1, 0, 0, 0), (22, .bipush 32, 2, 0, 0, 32), (24, .irem, 1, 0, 0, 0), (25, .aaload, 1, 0, 0, 0), (26, .astore 4, 2, 0, 0, 0), (28, .aload 4, 2, 0, 0, 0), (30, .getfield 28, 3, 3, 0, 1), (33, .invokevirtual 32, 3, 41, 1, 0), (36, .aload 4, 2, 0, 0, 0), (38, .getfield 28, 3, 3, 0, 1), (41, .aload_n 1, 1, 0, 0, 0), (42, .iload_n 2, 1, 0, 0, 0), (43, .bipush 27, 2, 0, 0, 27), (45, .invokevirtual 37, 3, 44, 1, 0), (48, .aload 4, 2, 0, 0, 0), (50, .iload_n 2, 1, 0, 0, 0), (51, .ifCond .ne 7, 3, 58, 0, 0), (54, .iconst 1, 1, 0, 0, 1), (55, .goto 4, 3, 59, 0, 0), (58, .iconst 0, 1, 0, 0, 0), (59, .putfield 41, 3, 3, 1, 1), (62, .aload 4, 2, 0, 0, 0), (64, .iload_n 3, 1, 0, 0, 0), (65, .putfield 45, 3, 3, 2, 1), (68, .aload_n 0, 1, 0, 0, 0), (69, .dup, 1, 0, 0, 0), (70, .getfield 18, 3, 6, 2, 0), (73, .iconst 1, 1, 0, 0, 1), (74, .iadd, 1, 0, 0, 0), (75, .putfield 18, 3, 6, 2, 0), (78, .aload_n 0, 1, 0, 0, 0), (79, .dup, 1, 0, 0, 0), (80, .getfield 22, 3, 6, 3, 0), (83, .iload_n 3, 1, 0, 0, 0), (84, .ifCond .eq 7, 3, 91, 0, 0), (87, .iconst 1, 1, 0, 0, 1), (88, .goto 4, 3, 92, 0, 0), (91, .iconst 0, 1, 0, 0, 0), (92, .iadd, 1, 0, 0, 0), (93, .putfield 22, 3, 6, 3, 0), (96, .return_, 1, 0, 0, 0)]
def kc_X5_dropFirst : List ev_I := [(0, .aload_n 0, 1, 0, 0, 0), (1, .getfield 18, 3, 6, 2, 0), (4, .ifCond .ne 5, 3, 9, 0, 0), (7, .iconst 0, 1, 0, 0, 0), (8, .ireturn, 1, 0, 0, 0), (9, .aload_n 0, 1, 0, 0, 0), (10, .dup, 1, 0, 0, 0), (11, .getfield 22, 3, 6, 3, 0), (14, .aload_n 0, 1, 0, 0, 0), (15, .getfield 11, 3, 6, 0, 0), (18, .aload_n 0, 1, 0, 0, 0), (19, .getfield 25, 3, 6, 1, 0), (22, .aaload, 1, 0, 0, 0), (23, .getfield 45, 3, 3, 2, 1), (26, .ifCond .eq 7, 3, 33, 0, 0), (29, .iconst 1, 1, 0, 0, 1), (30, .goto 4, 3, 34, 0, 0), (33, .iconst 0, 1, 0, 0, 0), (34, .isub, 1, 0, 0, 0), (35, .putfield 22, 3, 6, 3, 0), (38, .aload_n 0, 1, 0, 0, 0), (39, .aload_n 0, 1, 0, 0, 0), (40, .getfield 25, 3, 6, 1, 0), (43, .iconst 1, 1, 0, 0, 1), (44, .iadd, 1, 0, 0, 0), (45, .bipush 32, 2, 0, 0, 32), (47, .irem, 1, 0, 0, 0), (48, .putfield 25, 3, 6, 1, 0), (51, .aload_n 0, 1, 0, 0, 0), (52, .dup, 1, 0, 0, 0), (53, .getfield 18, 3, 6, 2, 0), (56, .iconst 1, 1, 0, 0, 1), (57, .isub, 1, 0, 0, 0), (58, .putfield 18, 3, 6, 2, 0), (61, .iconst 1, 1, 0, 0, 1), (62, .ireturn, 1, 0, 0, 0)]
def kc_X6_init : List ev_I := [(0, .aload_n 0, 1, 0, 0, 0), (1, .invokespecial 1, 3, 0, 5, 0), (4, .aload_n 0, 1, 0, 0, 0), (5, .iconst 2, 1, 0, 0, 2), (6, .anewarray 9, 3, 5, 0, 0), (9, .putfield 11, 3, 7, 0, 0), (12, .iconst 0, 1, 0, 0, 0), (13, .istore_n 1, 1, 0, 0, 0), (14, .iload_n 1, 1, 0, 0, 0), (15, .iconst 2, 1, 0, 0, 2), (16, .if_icmp .ge 22, 3, 38, 0, 0), (19, .aload_n 0, 1, 0, 0, 0), (20, .getfield 11, 3, 7, 0, 0), (23, .iload_n 1, 1, 0, 0, 0), (24, .new 9, 3, 2, 0, 0), (27, .dup, 1, 0, 0, 0), (28, .invokespecial 15, 3, 11, 2, 0), (31, .aastore, 1, 5, 2, 0), (32, .iinc 1 1, 3, 0, 0, 1), (35, .goto (-21), 3, 14, 0, 0), (38, .aload_n 0, 1, 0, 0, 0), (39, .new 16, 3, 4, 0, 0), (42, .dup, 1, 0, 0, 0), (43, .bipush 120, 2, 0, 0, 120), (45, .invokespecial 18, 3, 40, 2, 0), (48, .putfield 21, 3, 7, 1, 0), (51, .aload_n 0, 1, 0, 0, 0), (52, .new 16, 3, 4, 0, 0), (55, .dup, 1, 0, 0, 0), (56, .bipush 124, 2, 0, 0, 124), (58, .invokespecial 18, 3, 40, 2, 0), (61, .putfield 25, 3, 7, 2, 0), (64, .return_, 1, 0, 0, 0)]
def kc_X6_service : List ev_I := [(0, .iload_n 1, 1, 0, 0, 0), (1, .invokestatic 28, 3, 73, 0, 0), (4, .ifCond .eq 15, 3, 19, 0, 0), (7, .iload_n 2, 1, 0, 0, 0), (8, .iload_n 3, 1, 0, 0, 0), (9, .iload 4, 2, 0, 0, 0), (11, .iload 5, 2, 0, 0, 0), (13, .invokestatic 32, 3, 75, 0, 0), (16, .ifCond .ne 11, 3, 27, 0, 0), (19, .new 36, 3, 0, 99, 0), (22, .dup, 1, 0, 0, 0), (23, .invokespecial 38, 3, 0, 99, 0), (26, .athrow, 1, 0, 0, 0), (27, .aload_n 0, 1, 0, 0, 0), (28, .getfield 11, 3, 7, 0, 0), (31, .iload_n 1, 1, 0, 0, 0), (32, .aaload, 1, 0, 0, 0), (33, .iload_n 2, 1, 0, 0, 0), (34, .iload_n 3, 1, 0, 0, 0), (35, .iload 4, 2, 0, 0, 0), (37, .iload 5, 2, 0, 0, 0), (39, .invokevirtual 39, 3, 12, 1, 0), (42, .return_, 1, 0, 0, 0)]
def kc_X6_connect : List ev_I := [(0, .iload_n 1, 1, 0, 0, 0), (1, .invokestatic 28, 3, 73, 0, 0), (4, .ifCond .eq 15, 3, 19, 0, 0), (7, .iload_n 2, 1, 0, 0, 0), (8, .iload_n 3, 1, 0, 0, 0), (9, .iload 4, 2, 0, 0, 0), (11, .iload 5, 2, 0, 0, 0), (13, .invokestatic 32, 3, 75, 0, 0), (16, .ifCond .ne 11, 3, 27, 0, 0), (19, .new 36, 3, 0, 99, 0), (22, .dup, 1, 0, 0, 0), (23, .invokespecial 38, 3, 0, 99, 0), (26, .athrow, 1, 0, 0, 0), (27, .aload_n 0, 1, 0, 0, 0), (28, .getfield 11, 3, 7, 0, 0), (31, .iload_n 1, 1, 0, 0, 0), (32, .aaload, 1, 0, 0, 0), (33, .iload_n 2, 1, 0, 0, 0), (34, .iload_n 3, 1, 0, 0, 0), (35, .iload 4, 2, 0, 0, 0), (37, .iload 5, 2, 0, 0, 0), (39, .invokevirtual 43, 3, 14, 1, 0), (42, .istore 6, 2, 0, 0, 0), (44, .aload_n 0, 1, 0, 0, 0), (45, .invokevirtual 47, 3, 77, 1, 0), (48, .iload 6, 2, 0, 0, 0), (50, .ireturn, 1, 0, 0, 0)]
def kc_X6_feed : List ev_I := [(0, .iload_n 1, 1, 0, 0, 0), (1, .ifCond .lt 9, 3, 10, 0, 0), (4, .iload_n 1, 1, 0, 0, 0), (5, .bipush 16, 2, 0, 0, 16), (7, .if_icmp .le 11, 3, 18, 0, 0), (10, .new 36, 3, 0, 99, 0), (13, .dup, 1, 0, 0, 0), (14, .invokespecial 38, 3, 0, 99, 0), (17, .athrow, 1, 0, 0, 0), (18, .aload_n 0, 1, 0, 0, 0), (19, .getfield 21, 3, 7, 1, 0), (22, .getfield 50, 3, 4, 1, 1), (25, .iload_n 1, 1, 0, 0, 0), (26, .iadd, 1, 0, 0, 0), (27, .bipush 120, 2, 0, 0, 120), (29, .if_icmp .le 11, 3, 40, 0, 0), (32, .new 54, 3, 0, 99, 0), (35, .dup, 1, 0, 0, 0), (36, .invokespecial 56, 3, 0, 99, 0), (39, .athrow, 1, 0, 0, 0), (40, .iconst 0, 1, 0, 0, 0), (41, .istore 6, 2, 0, 0, 0), (43, .iload 6, 2, 0, 0, 0), (45, .iload_n 1, 1, 0, 0, 0), (46, .if_icmp .ge 66, 3, 112, 0, 0), (49, .iload 6, 2, 0, 0, 0), (51, .iconst 4, 1, 0, 0, 4), (52, .if_icmp .ge 7, 3, 59, 0, 0), (55, .iload_n 2, 1, 0, 0, 0), (56, .goto 28, 3, 84, 0, 0), (59, .iload 6, 2, 0, 0, 0), (61, .bipush 8, 2, 0, 0, 8), (63, .if_icmp .ge 7, 3, 70, 0, 0), (66, .iload_n 3, 1, 0, 0, 0), (67, .goto 17, 3, 84, 0, 0), (70, .iload 6, 2, 0, 0, 0), (72, .bipush 12, 2, 0, 0, 12), (74, .if_icmp .ge 8, 3, 82, 0, 0), (77, .iload 4, 2, 0, 0, 0), (79, .goto 5, 3, 84, 0, 0), (82, .iload 5, 2, 0, 0, 0), (84, .istore 7, 2, 0, 0, 0), (86, .aload_n 0, 1, 0, 0, 0), (87, .getfield 21, 3, 7, 1, 0), (90, .iload 7, 2, 0, 0, 0), (92, .bipush 24, 2, 0, 0, 24), (94, .bipush 8, 2, 0, 0, 8), (96, .iload 6, 2, 0, 0, 0), (98, .iconst 4, 1, 0, 0, 4), (99, .irem, 1, 0, 0, 0), (100, .imul, 1, 0, 0, 0), (101, .isub, 1, 0, 0, 0), (102, .ishr, 1, 0, 0, 0), (103, .invokevirtual 57, 3, 42, 1, 0), (106, .iinc 6 1, 3, 0, 0, 1), (109, .goto (-66), 3, 43, 0, 0), (112, .aload_n 0, 1, 0, 0, 0), (113, .getfield 21, 3, 7, 1, 0), (116, .getfield 50, 3, 4, 1, 1), (119, .ireturn, 1, 0, 0, 0)]
def kc_X6_erase : List ev_I := [(0, .aload_n 0, 1, 0, 0, 0), (1, .getfield 21, 3, 7, 1, 0), (4, .getfield 50, 3, 4, 1, 1), (7, .istore_n 1, 1, 0, 0, 0), (8, .aload_n 0, 1, 0, 0, 0), (9, .getfield 21, 3, 7, 1, 0), (12, .invokevirtual 60, 3, 41, 1, 0), (15, .iload_n 1, 1, 0, 0, 0), (16, .ireturn, 1, 0, 0, 0)]
def kc_X6_send : List ev_I := [(0, .iload_n 1, 1, 0, 0, 0), (1, .invokestatic 28, 3, 73, 0, 0), (4, .ifCond .eq 10, 3, 14, 0, 0), (7, .iload_n 2, 1, 0, 0, 0), (8, .invokestatic 63, 3, 74, 0, 0), (11, .ifCond .ne 11, 3, 22, 0, 0), (14, .new 36, 3, 0, 99, 0), (17, .dup, 1, 0, 0, 0), (18, .invokespecial 38, 3, 0, 99, 0), (21, .athrow, 1, 0, 0, 0), (22, .aload_n 0, 1, 0, 0, 0), (23, .getfield 11, 3, 7, 0, 0), (26, .iload_n 1, 1, 0, 0, 0), (27, .aaload, 1, 0, 0, 0), (28, .getfield 66, 3, 2, 0, 1), (31, .iload_n 2, 1, 0, 0, 0), (32, .bipush 64, 2, 0, 0, 64), (34, .isub, 1, 0, 0, 0), (35, .aaload, 1, 0, 0, 0), (36, .astore_n 3, 1, 0, 0, 0), (37, .aload_n 3, 1, 0, 0, 0), (38, .getfield 70, 3, 1, 1, 1), (41, .iconst 2, 1, 0, 0, 2), (42, .if_icmp .eq 11, 3, 53, 0, 0), (45, .new 54, 3, 0, 99, 0), (48, .dup, 1, 0, 0, 0), (49, .invokespecial 56, 3, 0, 99, 0), (52, .athrow, 1, 0, 0, 0), (53, .aload_n 3, 1, 0, 0, 0), (54, .aload_n 0, 1, 0, 0, 0), (55, .getfield 21, 3, 7, 1, 0), (58, .invokevirtual 75, 3, 6, 1, 0), (61, .ifCond .ne 6, 3, 67, 0, 0), (64, .bipush (-2), 2, 0, 0, (-2)), (66, .ireturn, 1, 0, 0, 0), (67, .aload_n 3, 1, 0, 0, 0), (68, .getfield 79, 3, 1, 10, 1), (71, .getfield 83, 3, 5, 2, 1), (74, .istore 4, 2, 0, 0, 0), (76, .aload_n 0, 1, 0, 0, 0), (77, .getfield 21, 3, 7, 1, 0), (80, .invokevirtual 60, 3, 41, 1, 0), (83, .aload_n 0, 1, 0, 0, 0), (84, .invokevirtual 47, 3, 77, 1, 0), (87, .iload 4, 2, 0, 0, 0), (89, .ireturn, 1, 0, 0, 0)]
def kc_X6_grant : List ev_I := [(0, .iload_n 1, 1, 0, 0, 0), (1, .invokestatic 28, 3, 73, 0, 0), (4, .ifCond .eq 22, 3, 26, 0, 0), (7, .iload_n 2, 1, 0, 0, 0), (8, .invokestatic 63, 3, 74, 0, 0), (11, .ifCond .eq 15, 3, 26, 0, 0), (14, .iload_n 3, 1, 0, 0, 0), (15, .iconst 1, 1, 0, 0, 1), (16, .if_icmp .lt 10, 3, 26, 0, 0), (19, .iload_n 3, 1, 0, 0, 0), (20, .sipush 1000, 3, 0, 0, 1000), (23, .if_icmp .le 11, 3, 34, 0, 0), (26, .new 36, 3, 0, 99, 0), (29, .dup, 1, 0, 0, 0), (30, .invokespecial 38, 3, 0, 99, 0), (33, .athrow, 1, 0, 0, 0), (34, .aload_n 0, 1, 0, 0, 0), (35, .getfield 11, 3, 7, 0, 0), (38, .iload_n 1, 1, 0, 0, 0), (39, .aaload, 1, 0, 0, 0), (40, .getfield 66, 3, 2, 0, 1), (43, .iload_n 2, 1, 0, 0, 0), (44, .bipush 64, 2, 0, 0, 64), (46, .isub, 1, 0, 0, 0), (47, .aaload, 1, 0, 0, 0), (48, .astore 4, 2, 0, 0, 0), (50, .aload 4, 2, 0, 0, 0), (52, .getfield 70, 3, 1, 1, 1), (55, .iconst 2, 1, 0, 0, 2), (56, .if_icmp .eq 11, 3, 67, 0, 0), (59, .new 54, 3, 0, 99, 0), (62, .dup, 1, 0, 0, 0), (63, .invokespecial 56, 3, 0, 99, 0), (66, .athrow, 1, 0, 0, 0), (67, .aload 4, 2, 0, 0, 0), (69, .getfield 88, 3, 1, 5, 1), (72, .iload_n 3, 1, 0, 0, 0), (73, .iadd, 1, 0, 0, 0), (74, .ldc 91, 2, 0, 0, 65535), (76, .if_icmp .le 6, 3, 82, 0, 0), (79, .bipush (-2), 2, 0, 0, (-2)), (81, .ireturn, 1, 0, 0, 0), (82, .aload_n 0, 1, 0, 0, 0), (83, .getfield 11, 3, 7, 0, 0), (86, .iload_n 1, 1, 0, 0, 0), (87, .aaload, 1, 0, 0, 0), (88, .aload 4, 2, 0, 0, 0), (90, .iload_n 3, 1, 0, 0, 0), (91, .invokevirtual 92, 3, 15, 1, 0), (94, .aload_n 0, 1, 0, 0, 0), (95, .invokevirtual 47, 3, 77, 1, 0), (98, .aload 4, 2, 0, 0, 0), (100, .getfield 88, 3, 1, 5, 1), (103, .ireturn, 1, 0, 0, 0)]
def kc_X6_leave : List ev_I := [(0, .iload_n 1, 1, 0, 0, 0), (1, .invokestatic 28, 3, 73, 0, 0), (4, .ifCond .eq 10, 3, 14, 0, 0), (7, .iload_n 2, 1, 0, 0, 0), (8, .invokestatic 63, 3, 74, 0, 0), (11, .ifCond .ne 11, 3, 22, 0, 0), (14, .new 36, 3, 0, 99, 0), (17, .dup, 1, 0, 0, 0), (18, .invokespecial 38, 3, 0, 99, 0), (21, .athrow, 1, 0, 0, 0), (22, .aload_n 0, 1, 0, 0, 0), (23, .getfield 11, 3, 7, 0, 0), (26, .iload_n 1, 1, 0, 0, 0), (27, .aaload, 1, 0, 0, 0), (28, .getfield 66, 3, 2, 0, 1), (31, .iload_n 2, 1, 0, 0, 0), (32, .bipush 64, 2, 0, 0, 64), (34, .isub, 1, 0, 0, 0), (35, .aaload, 1, 0, 0, 0), (36, .astore_n 3, 1, 0, 0, 0), (37, .aload_n 3, 1, 0, 0, 0), (38, .getfield 70, 3, 1, 1, 1), (41, .iconst 2, 1, 0, 0, 2), (42, .if_icmp .eq 11, 3, 53, 0, 0), (45, .new 54, 3, 0, 99, 0), (48, .dup, 1, 0, 0, 0), (49, .invokespecial 56, 3, 0, 99, 0), (52, .athrow, 1, 0, 0, 0), (53, .aload_n 0, 1, 0, 0, 0), (54, .getfield 11, 3, 7, 0, 0), (57, .iload_n 1, 1, 0, 0, 0), (58, .aaload, 1, 0, 0, 0), (59, .aload_n 3, 1, 0, 0, 0), (60, .invokevirtual 96, 3, 16, 1, 0), (63, .aload_n 0, 1, 0, 0, 0), (64, .invokevirtual 47, 3, 77, 1, 0), (67, .return_, 1, 0, 0, 0)]
def kc_X6_take : List ev_I := [(0, .iload_n 1, 1, 0, 0, 0), (1, .invokestatic 28, 3, 73, 0, 0), (4, .ifCond .ne 11, 3, 15, 0, 0), (7, .new 36, 3, 0, 99, 0), (10, .dup, 1, 0, 0, 0), (11, .invokespecial 38, 3, 0, 99, 0), (14, .athrow, 1, 0, 0, 0), (15, .aload_n 0, 1, 0, 0, 0), (16, .getfield 11, 3, 7, 0, 0), (19, .iload_n 1, 1, 0, 0, 0), (20, .aaload, 1, 0, 0, 0), (21, .astore_n 2, 1, 0, 0, 0), (22, .aload_n 2, 1, 0, 0, 0), (23, .getfield 100, 3, 2, 4, 1), (26, .invokevirtual 104, 3, 55, 1, 0), (29, .astore_n 3, 1, 0, 0, 0), (30, .aload_n 3, 1, 0, 0, 0), (31, .ifnonnull 5, 3, 36, 0, 0), (34, .iconst (-1), 1, 0, 0, (-1)), (35, .ireturn, 1, 0, 0, 0), (36, .aload_n 3, 1, 0, 0, 0), (37, .getfield 110, 3, 3, 0, 1), (40, .getfield 50, 3, 4, 1, 1), (43, .istore 4, 2, 0, 0, 0), (45, .aload_n 2, 1, 0, 0, 0), (46, .aload_n 3, 1, 0, 0, 0), (47, .invokevirtual 115, 3, 23, 1, 0), (50, .ifCond .eq 7, 3, 57, 0, 0), (53, .aload_n 2, 1, 0, 0, 0), (54, .invokevirtual 119, 3, 25, 1, 0), (57, .aload_n 2, 1, 0, 0, 0), (58, .getfield 100, 3, 2, 4, 1), (61, .invokevirtual 122, 3, 57, 1, 0), (64, .pop, 1, 0, 0, 0), (65, .aload_n 0, 1, 0, 0, 0), (66, .invokevirtual 47, 3, 77, 1, 0), (69, .iload 4, 2, 0, 0, 0), (71, .ireturn, 1, 0, 0, 0)]
def kc_X6_lose : List ev_I := [(0, .iload_n 1, 1, 0, 0, 0), (1, .invokestatic 28, 3, 73, 0, 0), (4, .ifCond .ne 11, 3, 15, 0, 0), (7, .new 36, 3, 0, 99, 0), (10, .dup, 1, 0, 0, 0), (11, .invokespecial 38, 3, 0, 99, 0), (14, .athrow, 1, 0, 0, 0), (15, .aload_n 0, 1, 0, 0, 0), (16, .getfield 11, 3, 7, 0, 0), (19, .iload_n 1, 1, 0, 0, 0), (20, .aaload, 1, 0, 0, 0), (21, .getfield 100, 3, 2, 4, 1), (24, .invokevirtual 122, 3, 57, 1, 0), (27, .istore_n 2, 1, 0, 0, 0), (28, .aload_n 0, 1, 0, 0, 0), (29, .invokevirtual 47, 3, 77, 1, 0), (32, .iload_n 2, 1, 0, 0, 0), (33, .ireturn, 1, 0, 0, 0)]
def kc_X6_inject : List ev_I := [(0, .iload_n 1, 1, 0, 0, 0), (1, .invokestatic 28, 3, 73, 0, 0), (4, .ifCond .eq 23, 3, 27, 0, 0), (7, .iload_n 2, 1, 0, 0, 0), (8, .ifCond .lt 19, 3, 27, 0, 0), (11, .iload_n 2, 1, 0, 0, 0), (12, .ldc 91, 2, 0, 0, 65535), (14, .if_icmp .gt 13, 3, 27, 0, 0), (17, .iload_n 3, 1, 0, 0, 0), (18, .ifCond .lt 9, 3, 27, 0, 0), (21, .iload_n 3, 1, 0, 0, 0), (22, .bipush 100, 2, 0, 0, 100), (24, .if_icmp .le 11, 3, 35, 0, 0), (27, .new 36, 3, 0, 99, 0), (30, .dup, 1, 0, 0, 0), (31, .invokespecial 38, 3, 0, 99, 0), (34, .athrow, 1, 0, 0, 0), (35, .aload_n 0, 1, 0, 0, 0), (36, .getfield 11, 3, 7, 0, 0), (39, .iload_n 1, 1, 0, 0, 0), (40, .aaload, 1, 0, 0, 0), (41, .getfield 100, 3, 2, 4, 1), (44, .astore 4, 2, 0, 0, 0), (46, .iconst 4, 1, 0, 0, 4), (47, .aload_n 0, 1, 0, 0, 0), (48, .getfield 21, 3, 7, 1, 0), (51, .getfield 50, 3, 4, 1, 1), (54, .iadd, 1, 0, 0, 0), (55, .bipush 27, 2, 0, 0, 27), (57, .iadd, 1, 0, 0, 0), (58, .iconst 1, 1, 0, 0, 1), (59, .isub, 1, 0, 0, 0), (60, .bipush 27, 2, 0, 0, 27), (62, .idiv, 1, 0, 0, 0), (63, .istore 5, 2, 0, 0, 0), (65, .aload 4, 2, 0, 0, 0), (67, .iload 5, 2, 0, 0, 0), (69, .invokevirtual 126, 3, 53, 1, 0), (72, .ifCond .ne 6, 3, 78, 0, 0), (75, .bipush (-2), 2, 0, 0, (-2)), (77, .ireturn, 1, 0, 0, 0), (78, .aload_n 0, 1, 0, 0, 0), (79, .getfield 25, 3, 7, 2, 0), (82, .invokevirtual 60, 3, 41, 1, 0), (85, .aload_n 0, 1, 0, 0, 0), (86, .getfield 25, 3, 7, 2, 0), (89, .aload_n 0, 1, 0, 0, 0), (90, .getfield 21, 3, 7, 1, 0), (93, .getfield 50, 3, 4, 1, 1), (96, .iload_n 3, 1, 0, 0, 0), (97, .iadd, 1, 0, 0, 0), (98, .invokevirtual 129, 3, 43, 1, 0), (101, .aload_n 0, 1, 0, 0, 0), (102, .getfield 25, 3, 7, 2, 0), (105, .iload_n 2, 1, 0, 0, 0), (106, .invokevirtual 129, 3, 43, 1, 0), (109, .aload_n 0, 1, 0, 0, 0), (110, .getfield 25, 3, 7, 2, 0), (113, .aload_n 0, 1, 0, 0, 0), (114, .getfield 21, 3, 7, 1, 0), (117, .iconst 0, 1, 0, 0, 0), (118, .aload_n 0, 1, 0, 0, 0), (119, .getfield 21, 3, 7, 1, 0), (122, .getfield 50, 3, 4, 1, 1), (125, .invokevirtual 132, 3, 44, 1, 0), (128, .iconst 0, 1, 0, 0, 0), (129, .istore 6, 2, 0, 0, 0), (131, .iload 6, 2, 0, 0, 0), (133, .iload 5, 2, 0, 0, 0), (135, .if_icmp .ge 24, 3, 159, 0, 0), (138, .aload 4, 2, 0, 0, 0), (140, .aload_n 0, 1, 0, 0, 0), (141, .getfield 25, 3, 7, 2, 0), (144, .iload 6, 2, 0, 0, 0), (146, .bipush 27, 2, 0, 0, 27), (148, .imul, 1, 0, 0, 0), (149, .iconst 0, 1, 0, 0, 0), (150, .invokevirtual 136, 3, 56, 1, 0), (153, .iinc 6 1, 3, 0, 0, 1), (156, .goto (-25), 3, 131, 0, 0), (159, .iload 5, 2, 0, 0, 0), (161, .ireturn, 1, 0, 0, 0)]
def kc_X6_receive : List ev_I := [(0, .iload_n 1, 1, 0, 0, 0), (1, .invokestatic 28, 3, 73, 0, 0), (4, .ifCond .eq 10, 3, 14, 0, 0), (7, .iload_n 2, 1, 0, 0, 0), (8, .invokestatic 63, 3, 74, 0, 0), (11, .ifCond .ne 11, 3, 22, 0, 0), (14, .new 36, 3, 0, 99, 0), (17, .dup, 1, 0, 0, 0), (18, .invokespecial 38, 3, 0, 99, 0), (21, .athrow, 1, 0, 0, 0), (22, .aload_n 0, 1, 0, 0, 0), (23, .getfield 11, 3, 7, 0, 0), (26, .iload_n 1, 1, 0, 0, 0), (27, .aaload, 1, 0, 0, 0), (28, .getfield 66, 3, 2, 0, 1), (31, .iload_n 2, 1, 0, 0, 0), (32, .bipush 64, 2, 0, 0, 64), (34, .isub, 1, 0, 0, 0), (35, .aaload, 1, 0, 0, 0), (36, .getfield 140, 3, 1, 12, 1), (39, .astore_n 3, 1, 0, 0, 0), (40, .aload_n 3, 1, 0, 0, 0), (41, .invokevirtual 143, 3, 49, 1, 0), (44, .astore 4, 2, 0, 0, 0), (46, .aload 4, 2, 0, 0, 0), (48, .ifnonnull 5, 3, 53, 0, 0), (51, .iconst (-1), 1, 0, 0, (-1)), (52, .ireturn, 1, 0, 0, 0), (53, .aload_n 0, 1, 0, 0, 0), (54, .getfield 21, 3, 7, 1, 0), (57, .invokevirtual 60, 3, 41, 1, 0), (60, .aload_n 0, 1, 0, 0, 0), (61, .getfield 21, 3, 7, 1, 0), (64, .aload 4, 2, 0, 0, 0), (66, .iconst 0, 1, 0, 0, 0), (67, .aload 4, 2, 0, 0, 0), (69, .getfield 50, 3, 4, 1, 1), (72, .invokevirtual 132, 3, 44, 1, 0), (75, .aload_n 3, 1, 0, 0, 0), (76, .invokevirtual 147, 3, 51, 1, 0), (79, .aload_n 0, 1, 0, 0, 0), (80, .getfield 21, 3, 7, 1, 0), (83, .getfield 50, 3, 4, 1, 1), (86, .ireturn, 1, 0, 0, 0)]
def kc_X6_octet : List ev_I := [(0, .aload_n 0, 1, 0, 0, 0), (1, .getfield 21, 3, 7, 1, 0), (4, .iload_n 1, 1, 0, 0, 0), (5, .invokevirtual 149, 3, 45, 1, 0), (8, .ireturn, 1, 0, 0, 0)]
def kc_X6_channel : List ev_I := [(0, .iload_n 1, 1, 0, 0, 0), (1, .invokestatic 28, 3, 73, 0, 0), (4, .ifCond .eq 20, 3, 24, 0, 0), (7, .iload_n 2, 1, 0, 0, 0), (8, .invokestatic 63, 3, 74, 0, 0), (11, .ifCond .eq 13, 3, 24, 0, 0), (14, .iload_n 3, 1, 0, 0, 0), (15, .ifCond .lt 9, 3, 24, 0, 0), (18, .iload_n 3, 1, 0, 0, 0), (19, .bipush 7, 2, 0, 0, 7), (21, .if_icmp .le 11, 3, 32, 0, 0), (24, .new 36, 3, 0, 99, 0), (27, .dup, 1, 0, 0, 0), (28, .invokespecial 38, 3, 0, 99, 0), (31, .athrow, 1, 0, 0, 0), (32, .aload_n 0, 1, 0, 0, 0), (33, .getfield 11, 3, 7, 0, 0), (36, .iload_n 1, 1, 0, 0, 0), (37, .aaload, 1, 0, 0, 0), (38, .getfield 66, 3, 2, 0, 1), (41, .iload_n 2, 1, 0, 0, 0), (42, .bipush 64, 2, 0, 0, 64), (44, .isub, 1, 0, 0, 0), (45, .aaload, 1, 0, 0, 0), (46, .astore 4, 2, 0, 0, 0), (48, .iload_n 3, 1, 0, 0, 0), (49, .tableswitch 91 0 6 #[43, 49, 55, 61, 67, 76, 85], 43, 0, 0, 0), (92, .aload 4, 2, 0, 0, 0), (94, .getfield 70, 3, 1, 1, 1), (97, .ireturn, 1, 0, 0, 0), (98, .aload 4, 2, 0, 0, 0), (100, .getfield 153, 3, 1, 6, 1), (103, .ireturn, 1, 0, 0, 0), (104, .aload 4, 2, 0, 0, 0), (106, .getfield 156, 3, 1, 9, 1), (109, .ireturn, 1, 0, 0, 0), (110, .aload 4, 2, 0, 0, 0), (112, .getfield 88, 3, 1, 5, 1), (115, .ireturn, 1, 0, 0, 0), (116, .aload 4, 2, 0, 0, 0), (118, .getfield 79, 3, 1, 10, 1), (121, .getfield 83, 3, 5, 2, 1), (124, .ireturn, 1, 0, 0, 0), (125, .aload 4, 2, 0, 0, 0), (127, .getfield 140, 3, 1, 12, 1), (130, .getfield 83, 3, 5, 2, 1), (133, .ireturn, 1, 0, 0, 0), (134, .aload 4, 2, 0, 0, 0), (136, .getfield 159, 3, 1, 7, 1), (139, .ireturn, 1, 0, 0, 0), (140, .aload 4, 2, 0, 0, 0), (142, .getfield 162, 3, 1, 8, 1), (145, .ireturn, 1, 0, 0, 0)]
def kc_X6_count : List ev_I := [(0, .iload_n 1, 1, 0, 0, 0), (1, .invokestatic 28, 3, 73, 0, 0), (4, .ifCond .eq 13, 3, 17, 0, 0), (7, .iload_n 2, 1, 0, 0, 0), (8, .ifCond .lt 9, 3, 17, 0, 0), (11, .iload_n 2, 1, 0, 0, 0), (12, .bipush 6, 2, 0, 0, 6), (14, .if_icmp .le 11, 3, 25, 0, 0), (17, .new 36, 3, 0, 99, 0), (20, .dup, 1, 0, 0, 0), (21, .invokespecial 38, 3, 0, 99, 0), (24, .athrow, 1, 0, 0, 0), (25, .aload_n 0, 1, 0, 0, 0), (26, .getfield 11, 3, 7, 0, 0), (29, .iload_n 1, 1, 0, 0, 0), (30, .aaload, 1, 0, 0, 0), (31, .astore_n 3, 1, 0, 0, 0), (32, .iload_n 2, 1, 0, 0, 0), (33, .tableswitch 85 0 5 #[39, 54, 62, 70, 75, 80], 39, 0, 0, 0), (72, .aload_n 0, 1, 0, 0, 0), (73, .getfield 11, 3, 7, 0, 0), (76, .iconst 1, 1, 0, 0, 1), (77, .iload_n 1, 1, 0, 0, 0), (78, .isub, 1, 0, 0, 0), (79, .aaload, 1, 0, 0, 0), (80, .getfield 100, 3, 2, 4, 1), (83, .invokevirtual 165, 3, 54, 1, 0), (86, .ireturn, 1, 0, 0, 0), (87, .aload_n 3, 1, 0, 0, 0), (88, .getfield 100, 3, 2, 4, 1), (91, .getfield 169, 3, 6, 2, 1), (94, .ireturn, 1, 0, 0, 0), (95, .aload_n 3, 1, 0, 0, 0), (96, .getfield 170, 3, 2, 5, 1), (99, .invokevirtual 174, 3, 136, 1, 0), (102, .ireturn, 1, 0, 0, 0), (103, .aload_n 3, 1, 0, 0, 0), (104, .getfield 178, 3, 2, 11, 1), (107, .ireturn, 1, 0, 0, 0), (108, .aload_n 3, 1, 0, 0, 0), (109, .getfield 181, 3, 2, 12, 1), (112, .ireturn, 1, 0, 0, 0), (113, .aload_n 3, 1, 0, 0, 0), (114, .getfield 184, 3, 2, 13, 1), (117, .ireturn, 1, 0, 0, 0), (118, .aload_n 3, 1, 0, 0, 0), (119, .getfield 187, 3, 2, 8, 1), (122, .getfield 50, 3, 4, 1, 1), (125, .ireturn, 1, 0, 0, 0)]
def kc_X6_isHost : List ev_I := [(0, .iload_n 0, 1, 0, 0, 0), (1, .ifCond .lt 12, 3, 13, 0, 0), (4, .iload_n 0, 1, 0, 0, 0), (5, .iconst 2, 1, 0, 0, 2), (6, .if_icmp .ge 7, 3, 13, 0, 0), (9, .iconst 1, 1, 0, 0, 1), (10, .goto 4, 3, 14, 0, 0), (13, .iconst 0, 1, 0, 0, 0), (14, .ireturn, 1, 0, 0, 0)]
def kc_X6_isChannel : List ev_I := [(0, .iload_n 0, 1, 0, 0, 0), (1, .bipush 64, 2, 0, 0, 64), (3, .if_icmp .lt 13, 3, 16, 0, 0), (6, .iload_n 0, 1, 0, 0, 0), (7, .bipush 68, 2, 0, 0, 68), (9, .if_icmp .ge 7, 3, 16, 0, 0), (12, .iconst 1, 1, 0, 0, 1), (13, .goto 4, 3, 17, 0, 0), (16, .iconst 0, 1, 0, 0, 0), (17, .ireturn, 1, 0, 0, 0)]
def kc_X6_isOffer : List ev_I := [(0, .iload_n 0, 1, 0, 0, 0), (1, .iconst 1, 1, 0, 0, 1), (2, .if_icmp .lt 48, 3, 50, 0, 0), (5, .iload_n 0, 1, 0, 0, 0), (6, .bipush 9, 2, 0, 0, 9), (8, .if_icmp .gt 42, 3, 50, 0, 0), (11, .iload_n 1, 1, 0, 0, 0), (12, .bipush 23, 2, 0, 0, 23), (14, .if_icmp .lt 36, 3, 50, 0, 0), (17, .iload_n 1, 1, 0, 0, 0), (18, .bipush 100, 2, 0, 0, 100), (20, .if_icmp .gt 30, 3, 50, 0, 0), (23, .iload_n 2, 1, 0, 0, 0), (24, .bipush 23, 2, 0, 0, 23), (26, .if_icmp .lt 24, 3, 50, 0, 0), (29, .iload_n 2, 1, 0, 0, 0), (30, .bipush 100, 2, 0, 0, 100), (32, .if_icmp .gt 18, 3, 50, 0, 0), (35, .iload_n 3, 1, 0, 0, 0), (36, .ifCond .lt 14, 3, 50, 0, 0), (39, .iload_n 3, 1, 0, 0, 0), (40, .sipush 1000, 3, 0, 0, 1000), (43, .if_icmp .gt 7, 3, 50, 0, 0), (46, .iconst 1, 1, 0, 0, 1), (47, .goto 4, 3, 51, 0, 0), (50, .iconst 0, 1, 0, 0, 0), (51, .ireturn, 1, 0, 0, 0)]
def kc_X6_isFar : List ev_I := [(0, .iload_n 0, 1, 0, 0, 0), (1, .bipush 64, 2, 0, 0, 64), (3, .if_icmp .lt 13, 3, 16, 0, 0), (6, .iload_n 0, 1, 0, 0, 0), (7, .bipush 127, 2, 0, 0, 127), (9, .if_icmp .gt 7, 3, 16, 0, 0), (12, .iconst 1, 1, 0, 0, 1), (13, .goto 4, 3, 17, 0, 0), (16, .iconst 0, 1, 0, 0, 0), (17, .ireturn, 1, 0, 0, 0)]
def kc_X6_sendWhatCanGo : List ev_I := [(0, .iconst 0, 1, 0, 0, 0), (1, .istore_n 1, 1, 0, 0, 0), (2, .iload_n 1, 1, 0, 0, 0), (3, .iconst 2, 1, 0, 0, 2), (4, .if_icmp .ge 29, 3, 33, 0, 0), (7, .aload_n 0, 1, 0, 0, 0), (8, .getfield 11, 3, 7, 0, 0), (11, .iload_n 1, 1, 0, 0, 0), (12, .aaload, 1, 0, 0, 0), (13, .aload_n 0, 1, 0, 0, 0), (14, .getfield 11, 3, 7, 0, 0), (17, .iconst 1, 1, 0, 0, 1), (18, .iload_n 1, 1, 0, 0, 0), (19, .isub, 1, 0, 0, 0), (20, .aaload, 1, 0, 0, 0), (21, .getfield 100, 3, 2, 4, 1), (24, .invokevirtual 190, 3, 19, 1, 0), (27, .iinc 1 1, 3, 0, 0, 1), (30, .goto (-28), 3, 2, 0, 0), (33, .return_, 1, 0, 0, 0)]
def kc_X7_init : List ev_I := [(0, .aload_n 0, 1, 0, 0, 0), (1, .invokespecial 1, 3, 0, 5, 0), (4, .aload_n 0, 1, 0, 0, 0), (5, .bipush 120, 2, 0, 0, 120), (7, .newarray .int, 2, 1, 0, 0), (9, .putfield 7, 3, 8, 1, 0), (12, .aload_n 0, 1, 0, 0, 0), (13, .bipush 20, 2, 0, 0, 20), (15, .newarray .boolean, 2, 2, 0, 0), (17, .putfield 13, 3, 8, 3, 0), (20, .aload_n 0, 1, 0, 0, 0), (21, .bipush 20, 2, 0, 0, 20), (23, .newarray .int, 2, 1, 0, 0), (25, .putfield 17, 3, 8, 4, 0), (28, .aload_n 0, 1, 0, 0, 0), (29, .bipush 20, 2, 0, 0, 20), (31, .newarray .int, 2, 1, 0, 0), (33, .putfield 20, 3, 8, 5, 0), (36, .aload_n 0, 1, 0, 0, 0), (37, .bipush 20, 2, 0, 0, 20), (39, .newarray .int, 2, 1, 0, 0), (41, .putfield 23, 3, 8, 6, 0), (44, .aload_n 0, 1, 0, 0, 0), (45, .bipush 8, 2, 0, 0, 8), (47, .newarray .int, 2, 1, 0, 0), (49, .putfield 26, 3, 8, 7, 0), (52, .aload_n 0, 1, 0, 0, 0), (53, .bipush 8, 2, 0, 0, 8), (55, .newarray .int, 2, 1, 0, 0), (57, .putfield 29, 3, 8, 8, 0), (60, .aload_n 0, 1, 0, 0, 0), (61, .bipush 8, 2, 0, 0, 8), (63, .newarray .int, 2, 1, 0, 0), (65, .putfield 32, 3, 8, 9, 0), (68, .aload_n 0, 1, 0, 0, 0), (69, .bipush 8, 2, 0, 0, 8), (71, .newarray .int, 2, 1, 0, 0), (73, .putfield 35, 3, 8, 10, 0), (76, .aload_n 0, 1, 0, 0, 0), (77, .bipush 8, 2, 0, 0, 8), (79, .newarray .int, 2, 1, 0, 0), (81, .putfield 38, 3, 8, 11, 0), (84, .aload_n 0, 1, 0, 0, 0), (85, .bipush 8, 2, 0, 0, 8), (87, .newarray .int, 2, 1, 0, 0), (89, .putfield 41, 3, 8, 12, 0), (92, .aload_n 0, 1, 0, 0, 0), (93, .bipush 8, 2, 0, 0, 8), (95, .newarray .int, 2, 1, 0, 0), (97, .putfield 44, 3, 8, 13, 0), (100, .aload_n 0, 1, 0, 0, 0), (101, .bipush 8, 2, 0, 0, 8), (103, .newarray .int, 2, 1, 0, 0), (105, .putfield 47, 3, 8, 14, 0), (108, .aload_n 0, 1, 0, 0, 0), (109, .bipush 8, 2, 0, 0, 8), (111, .newarray .int, 2, 1, 0, 0), (113, .putfield 50, 3, 8, 15, 0), (116, .aload_n 0, 1, 0, 0, 0), (117, .bipush 8, 2, 0, 0, 8), (119, .newarray .int, 2, 1, 0, 0), (121, .putfield 53, 3, 8, 16, 0), (124, .aload_n 0, 1, 0, 0, 0), (125, .bipush 16, 2, 0, 0, 16), (127, .newarray .int, 2, 1, 0, 0), (129, .putfield 56, 3, 8, 17, 0), (132, .aload_n 0, 1, 0, 0, 0), (133, .sipush 1920, 3, 0, 0, 1920), (136, .newarray .int, 2, 1, 0, 0), (138, .putfield 59, 3, 8, 18, 0), (141, .aload_n 0, 1, 0, 0, 0), (142, .bipush 8, 2, 0, 0, 8), (144, .newarray .int, 2, 1, 0, 0), (146, .putfield 62, 3, 8, 19, 0), (149, .aload_n 0, 1, 0, 0, 0), (150, .bipush 8, 2, 0, 0, 8), (152, .newarray .int, 2, 1, 0, 0), (154, .putfield 65, 3, 8, 20, 0), (157, .aload_n 0, 1, 0, 0, 0), (158, .bipush 8, 2, 0, 0, 8), (160, .newarray .int, 2, 1, 0, 0), (162, .putfield 68, 3, 8, 21, 0), (165, .aload_n 0, 1, 0, 0, 0), (166, .sipush 1024, 3, 0, 0, 1024), (169, .newarray .int, 2, 1, 0, 0), (171, .putfield 71, 3, 8, 22, 0), (174, .aload_n 0, 1, 0, 0, 0), (175, .bipush 8, 2, 0, 0, 8), (177, .newarray .int, 2, 1, 0, 0), (179, .putfield 74, 3, 8, 23, 0), (182, .aload_n 0, 1, 0, 0, 0), (183, .bipush 32, 2, 0, 0, 32), (185, .newarray .int, 2, 1, 0, 0), (187, .putfield 77, 3, 8, 24, 0), (190, .aload_n 0, 1, 0, 0, 0), (191, .sipush 4096, 3, 0, 0, 4096), (194, .newarray .int, 2, 1, 0, 0), (196, .putfield 80, 3, 8, 25, 0), (199, .aload_n 0, 1, 0, 0, 0), (200, .iconst 2, 1, 0, 0, 2), (201, .newarray .int, 2, 1, 0, 0), (203, .putfield 83, 3, 8, 26, 0), (206, .aload_n 0, 1, 0, 0, 0), (207, .iconst 2, 1, 0, 0, 2), (208, .newarray .int, 2, 1, 0, 0), (210, .putfield 86, 3, 8, 27, 0), (213, .aload_n 0, 1, 0, 0, 0), (214, .sipush 4096, 3, 0, 0, 4096), (217, .newarray .int, 2, 1, 0, 0), (219, .putfield 89, 3, 8, 28, 0), (222, .aload_n 0, 1, 0, 0, 0), (223, .ldc 92, 2, 0, 0, 57344), (225, .newarray .int, 2, 1, 0, 0), (227, .putfield 93, 3, 8, 29, 0), (230, .aload_n 0, 1, 0, 0, 0), (231, .iconst 2, 1, 0, 0, 2), (232, .newarray .int, 2, 1, 0, 0), (234, .putfield 96, 3, 8, 30, 0), (237, .aload_n 0, 1, 0, 0, 0), (238, .iconst 2, 1, 0, 0, 2), (239, .newarray .int, 2, 1, 0, 0), (241, .putfield 99, 3, 8, 31, 0), (244, .aload_n 0, 1, 0, 0, 0), (245, .iconst 2, 1, 0, 0, 2), (246, .newarray .int, 2, 1, 0, 0), (248, .putfield 102, 3, 8, 32, 0), (251, .aload_n 0, 1, 0, 0, 0), (252, .iconst 2, 1, 0, 0, 2), (253, .newarray .int, 2, 1, 0, 0), (255, .putfield 105, 3, 8, 33, 0), (258, .aload_n 0, 1, 0, 0, 0), (259, .sipush 320, 3, 0, 0, 320), (262, .newarray .int, 2, 1, 0, 0), (264, .putfield 108, 3, 8, 34, 0), (267, .aload_n 0, 1, 0, 0, 0), (268, .iconst 2, 1, 0, 0, 2), (269, .newarray .int, 2, 1, 0, 0), (271, .putfield 111, 3, 8, 35, 0), (274, .aload_n 0, 1, 0, 0, 0), (275, .bipush 64, 2, 0, 0, 64), (277, .newarray .int, 2, 1, 0, 0), (279, .putfield 114, 3, 8, 36, 0), (282, .aload_n 0, 1, 0, 0, 0), (283, .bipush 64, 2, 0, 0, 64), (285, .newarray .boolean, 2, 2, 0, 0), (287, .putfield 117, 3, 8, 37, 0), (290, .aload_n 0, 1, 0, 0, 0), (291, .bipush 64, 2, 0, 0, 64), (293, .newarray .boolean, 2, 2, 0, 0), (295, .putfield 120, 3, 8, 38, 0), (298, .aload_n 0, 1, 0, 0, 0), (299, .sipush 1728, 3, 0, 0, 1728), (302, .newarray .int, 2, 1, 0, 0), (304, .putfield 123, 3, 8, 39, 0), (307, .aload_n 0, 1, 0, 0, 0), (308, .iconst 2, 1, 0, 0, 2), (309, .newarray .int, 2, 1, 0, 0), (311, .putfield 126, 3, 8, 40, 0), (314, .aload_n 0, 1, 0, 0, 0), (315, .sipush 320, 3, 0, 0, 320), (318, .newarray .int, 2, 1, 0, 0), (320, .putfield 129, 3, 8, 41, 0), (323, .aload_n 0, 1, 0, 0, 0), (324, .iconst 2, 1, 0, 0, 2), (325, .newarray .int, 2, 1, 0, 0), (327, .putfield 132, 3, 8, 42, 0), (330, .aload_n 0, 1, 0, 0, 0), (331, .iconst 2, 1, 0, 0, 2), (332, .newarray .int, 2, 1, 0, 0), (334, .putfield 135, 3, 8, 43, 0), (337, .aload_n 0, 1, 0, 0, 0), (338, .iconst 2, 1, 0, 0, 2), (339, .newarray .int, 2, 1, 0, 0), (341, .putfield 138, 3, 8, 44, 0), (344, .aload_n 0, 1, 0, 0, 0), (345, .bipush 32, 2, 0, 0, 32), (347, .newarray .int, 2, 1, 0, 0), (349, .putfield 141, 3, 8, 45, 0), (352, .aload_n 0, 1, 0, 0, 0), (353, .bipush 16, 2, 0, 0, 16), (355, .newarray .int, 2, 1, 0, 0), (357, .putfield 144, 3, 8, 46, 0), (360, .iconst 0, 1, 0, 0, 0), (361, .istore_n 1, 1, 0, 0, 0), (362, .iload_n 1, 1, 0, 0, 0), (363, .bipush 8, 2, 0, 0, 8), (365, .if_icmp .ge 16, 3, 381, 0, 0), (368, .aload_n 0, 1, 0, 0, 0), (369, .getfield 65, 3, 8, 20, 0), (372, .iload_n 1, 1, 0, 0, 0), (373, .iconst (-1), 1, 0, 0, (-1)), (374, .iastore, 1, 0, 0, 0), (375, .iinc 1 1, 3, 0, 0, 1), (378, .goto (-16), 3, 362, 0, 0), (381, .aload_n 0, 1, 0, 0, 0), (382, .getfield 96, 3, 8, 30, 0), (385, .iconst 0, 1, 0, 0, 0), (386, .iconst 1, 1, 0, 0, 1), (387, .iastore, 1, 0, 0, 0), (388, .aload_n 0, 1, 0, 0, 0), (389, .getfield 96, 3, 8, 30, 0), (392, .iconst 1, 1, 0, 0, 1), (393, .iconst 1, 1, 0, 0, 1), (394, .iastore, 1, 0, 0, 0), (395, .aload_n 0, 1, 0, 0, 0), (396, .getfield 99, 3, 8, 31, 0), (399, .iconst 0, 1, 0, 0, 0), (400, .iconst 3, 1, 0, 0, 3), (401, .iastore, 1, 0, 0, 0), (402, .aload_n 0, 1, 0, 0, 0), (403, .getfield 99, 3, 8, 31, 0), (406, .iconst 1, 1, 0, 0, 1), (407, .iconst 3, 1, 0, 0, 3), (408, .iastore, 1, 0, 0, 0), (409, .return_, 1, 0, 0, 0)]
def kc_X7_thrown : List ev_I := [(0, .aload_n 0, 1, 0, 0, 0), (1, .getfield 147, 3, 8, 0, 0), (4, .ireturn, 1, 0, 0, 0)]
def kc_X7_refused : List ev_I := [(0, .aload_n 0, 1, 0, 0, 0), (1, .iload_n 1, 1, 0, 0, 0), (2, .putfield 147, 3, 8, 0, 0), (5, .iload_n 1, 1, 0, 0, 0), (6, .ifCond .le 7, 3, 13, 0, 0), (9, .iconst 1, 1, 0, 0, 1), (10, .goto 4, 3, 14, 0, 0), (13, .iconst 0, 1, 0, 0, 0), (14, .ireturn, 1, 0, 0, 0)]
def kc_X7_isIn : List ev_I := [(0, .iload_n 0, 1, 0, 0, 0), (1, .iload_n 1, 1, 0, 0, 0), (2, .if_icmp .lt 12, 3, 14, 0, 0), (5, .iload_n 0, 1, 0, 0, 0), (6, .iload_n 2, 1, 0, 0, 0), (7, .if_icmp .gt 7, 3, 14, 0, 0), (10, .iconst 1, 1, 0, 0, 1), (11, .goto 4, 3, 15, 0, 0), (14, .iconst 0, 1, 0, 0, 0), (15, .ireturn, 1, 0, 0, 0)]
def kc_X7_isHost : List ev_I := [(0, .iload_n 0, 1, 0, 0, 0), (1, .ifCond .eq 8, 3, 9, 0, 0), (4, .iload_n 0, 1, 0, 0, 0), (5, .iconst 1, 1, 0, 0, 1), (6, .if_icmp .ne 7, 3, 13, 0, 0), (9, .iconst 1, 1, 0, 0, 1), (10, .goto 4, 3, 14, 0, 0), (13, .iconst 0, 1, 0, 0, 0), (14, .ireturn, 1, 0, 0, 0)]
def kc_X7_isChannel : List ev_I := [(0, .iload_n 0, 1, 0, 0, 0), (1, .invokestatic 151, 3, 82, 0, 0), (4, .ifCond .eq 18, 3, 22, 0, 0), (7, .iload_n 1, 1, 0, 0, 0), (8, .bipush 64, 2, 0, 0, 64), (10, .bipush 67, 2, 0, 0, 67), (12, .invokestatic 155, 3, 81, 0, 0), (15, .ifCond .eq 7, 3, 22, 0, 0), (18, .iconst 1, 1, 0, 0, 1), (19, .goto 4, 3, 23, 0, 0), (22, .iconst 0, 1, 0, 0, 0), (23, .ireturn, 1, 0, 0, 0)]
def kc_X7_buffersOf : List ev_I := [(0, .iconst 4, 1, 0, 0, 4), (1, .istore_n 2, 1, 0, 0, 0), (2, .iconst 0, 1, 0, 0, 0), (3, .istore_n 3, 1, 0, 0, 0), (4, .iload_n 3, 1, 0, 0, 0), (5, .aload_n 0, 1, 0, 0, 0), (6, .getfield 111, 3, 8, 35, 0), (9, .iconst 1, 1, 0, 0, 1), (10, .iload_n 1, 1, 0, 0, 0), (11, .isub, 1, 0, 0, 0), (12, .iaload, 1, 0, 0, 0), (13, .if_icmp .ge 33, 3, 46, 0, 0), (16, .aload_n 0, 1, 0, 0, 0), (17, .getfield 120, 3, 8, 38, 0), (20, .bipush 32, 2, 0, 0, 32), (22, .iconst 1, 1, 0, 0, 1), (23, .iload_n 1, 1, 0, 0, 0), (24, .isub, 1, 0, 0, 0), (25, .imul, 1, 0, 0, 0), (26, .iload_n 3, 1, 0, 0, 0), (27, .iadd, 1, 0, 0, 0), (28, .baload, 1, 0, 0, 0), (29, .ifCond .eq 9, 3, 38, 0, 0), (32, .iload_n 2, 1, 0, 0, 0), (33, .iconst 1, 1, 0, 0, 1), (34, .isub, 1, 0, 0, 0), (35, .goto 4, 3, 39, 0, 0), (38, .iload_n 2, 1, 0, 0, 0), (39, .istore_n 2, 1, 0, 0, 0), (40, .iinc 3 1, 3, 0, 0, 1), (43, .goto (-39), 3, 4, 0, 0), (46, .iload_n 2, 1, 0, 0, 0), (47, .ireturn, 1, 0, 0, 0)]
def kc_X7_post : List ev_I := [(0, .bipush 32, 2, 0, 0, 32), (2, .iload_n 1, 1, 0, 0, 0), (3, .imul, 1, 0, 0, 0), (4, .aload_n 0, 1, 0, 0, 0), (5, .getfield 111, 3, 8, 35, 0), (8, .iload_n 1, 1, 0, 0, 0), (9, .iaload, 1, 0, 0, 0), (10, .iadd, 1, 0, 0, 0), (11, .istore 7, 2, 0, 0, 0), (13, .aload_n 0, 1, 0, 0, 0), (14, .getfield 114, 3, 8, 36, 0), (17, .iload 7, 2, 0, 0, 0), (19, .iload_n 3, 1, 0, 0, 0), (20, .iastore, 1, 0, 0, 0), (21, .aload_n 0, 1, 0, 0, 0), (22, .getfield 117, 3, 8, 37, 0), (25, .iload 7, 2, 0, 0, 0), (27, .iload 4, 2, 0, 0, 0), (29, .bastore, 1, 0, 0, 0), (30, .aload_n 0, 1, 0, 0, 0), (31, .getfield 120, 3, 8, 38, 0), (34, .iload 7, 2, 0, 0, 0), (36, .iload 5, 2, 0, 0, 0), (38, .bastore, 1, 0, 0, 0), (39, .iconst 0, 1, 0, 0, 0), (40, .istore 8, 2, 0, 0, 0), (42, .iload 8, 2, 0, 0, 0), (44, .iload_n 3, 1, 0, 0, 0), (45, .if_icmp .ge 38, 3, 83, 0, 0), (48, .aload_n 0, 1, 0, 0, 0), (49, .getfield 123, 3, 8, 39, 0), (52, .bipush 27, 2, 0, 0, 27), (54, .iload 7, 2, 0, 0, 0), (56, .imul, 1, 0, 0, 0), (57, .iload 8, 2, 0, 0, 0), (59, .iadd, 1, 0, 0, 0), (60, .aload_n 0, 1, 0, 0, 0), (61, .getfield 108, 3, 8, 34, 0), (64, .sipush 160, 3, 0, 0, 160), (67, .iload 6, 2, 0, 0, 0), (69, .imul, 1, 0, 0, 0), (70, .iload_n 2, 1, 0, 0, 0), (71, .iadd, 1, 0, 0, 0), (72, .iload 8, 2, 0, 0, 0), (74, .iadd, 1, 0, 0, 0), (75, .iaload, 1, 0, 0, 0), (76, .iastore, 1, 0, 0, 0), (77, .iinc 8 1, 3, 0, 0, 1), (80, .goto (-38), 3, 42, 0, 0), (83, .aload_n 0, 1, 0, 0, 0), (84, .getfield 111, 3, 8, 35, 0), (87, .iload_n 1, 1, 0, 0, 0), (88, .dup2, 1, 0, 0, 0), (89, .iaload, 1, 0, 0, 0), (90, .iconst 1, 1, 0, 0, 1), (91, .iadd, 1, 0, 0, 0), (92, .iastore, 1, 0, 0, 0), (93, .return_, 1, 0, 0, 0)]
def kc_X7_unitHead : List ev_I := [(0, .sipush 160, 3, 0, 0, 160), (3, .iload_n 1, 1, 0, 0, 0), (4, .imul, 1, 0, 0, 0), (5, .istore 4, 2, 0, 0, 0), (7, .aload_n 0, 1, 0, 0, 0), (8, .getfield 108, 3, 8, 34, 0), (11, .iload 4, 2, 0, 0, 0), (13, .iload_n 2, 1, 0, 0, 0), (14, .sipush 255, 3, 0, 0, 255), (17, .iand, 1, 0, 0, 0), (18, .iastore, 1, 0, 0, 0), (19, .aload_n 0, 1, 0, 0, 0), (20, .getfield 108, 3, 8, 34, 0), (23, .iload 4, 2, 0, 0, 0), (25, .iconst 1, 1, 0, 0, 1), (26, .iadd, 1, 0, 0, 0), (27, .iload_n 2, 1, 0, 0, 0), (28, .bipush 8, 2, 0, 0, 8), (30, .ishr, 1, 0, 0, 0), (31, .sipush 255, 3, 0, 0, 255), (34, .iand, 1, 0, 0, 0), (35, .iastore, 1, 0, 0, 0), (36, .aload_n 0, 1, 0, 0, 0), (37, .getfield 108, 3, 8, 34, 0), (40, .iload 4, 2, 0, 0, 0), (42, .iconst 2, 1, 0, 0, 2), (43, .iadd, 1, 0, 0, 0), (44, .iload_n 3, 1, 0, 0, 0), (45, .sipush 255, 3, 0, 0, 255), (48, .iand, 1, 0, 0, 0), (49, .iastore, 1, 0, 0, 0), (50, .aload_n 0, 1, 0, 0, 0), (51, .getfield 108, 3, 8, 34, 0), (54, .iload 4, 2, 0, 0, 0), (56, .iconst 3, 1, 0, 0, 3), (57, .iadd, 1, 0, 0, 0), (58, .iload_n 3, 1, 0, 0, 0), (59, .bipush 8, 2, 0, 0, 8), (61, .ishr, 1, 0, 0, 0), (62, .sipush 255, 3, 0, 0, 255), (65, .iand, 1, 0, 0, 0), (66, .iastore, 1, 0, 0, 0), (67, .aload_n 0, 1, 0, 0, 0), (68, .getfield 102, 3, 8, 32, 0), (71, .iload_n 1, 1, 0, 0, 0), (72, .iconst 4, 1, 0, 0, 4), (73, .iastore, 1, 0, 0, 0), (74, .aload_n 0, 1, 0, 0, 0), (75, .getfield 105, 3, 8, 33, 0), (78, .iload_n 1, 1, 0, 0, 0), (79, .iconst 0, 1, 0, 0, 0), (80, .iastore, 1, 0, 0, 0), (81, .return_, 1, 0, 0, 0)]
def kc_X7_unitByte : List ev_I := [(0, .aload_n 0, 1, 0, 0, 0), (1, .getfield 108, 3, 8, 34, 0), (4, .sipush 160, 3, 0, 0, 160), (7, .iload_n 1, 1, 0, 0, 0), (8, .imul, 1, 0, 0, 0), (9, .aload_n 0, 1, 0, 0, 0), (10, .getfield 102, 3, 8, 32, 0), (13, .iload_n 1, 1, 0, 0, 0), (14, .iaload, 1, 0, 0, 0), (15, .iadd, 1, 0, 0, 0), (16, .iload_n 2, 1, 0, 0, 0), (17, .iastore, 1, 0, 0, 0), (18, .aload_n 0, 1, 0, 0, 0), (19, .getfield 102, 3, 8, 32, 0), (22, .iload_n 1, 1, 0, 0, 0), (23, .dup2, 1, 0, 0, 0), (24, .iaload, 1, 0, 0, 0), (25, .iconst 1, 1, 0, 0, 1), (26, .iadd, 1, 0, 0, 0), (27, .iastore, 1, 0, 0, 0), (28, .return_, 1, 0, 0, 0)]
def kc_X7_beginSignal : List ev_I := [(0, .sipush 2048, 3, 0, 0, 2048), (3, .iload_n 1, 1, 0, 0, 0), (4, .imul, 1, 0, 0, 0), (5, .aload_n 0, 1, 0, 0, 0), (6, .getfield 83, 3, 8, 26, 0), (9, .iload_n 1, 1, 0, 0, 0), (10, .iaload, 1, 0, 0, 0), (11, .iadd, 1, 0, 0, 0), (12, .istore_n 2, 1, 0, 0, 0), (13, .aload_n 0, 1, 0, 0, 0), (14, .iload_n 1, 1, 0, 0, 0), (15, .aload_n 0, 1, 0, 0, 0), (16, .getfield 89, 3, 8, 28, 0), (19, .iload_n 2, 1, 0, 0, 0), (20, .iaload, 1, 0, 0, 0), (21, .iconst 5, 1, 0, 0, 5), (22, .invokevirtual 159, 3, 86, 1, 0), (25, .iconst 0, 1, 0, 0, 0), (26, .istore_n 3, 1, 0, 0, 0), (27, .iload_n 3, 1, 0, 0, 0), (28, .aload_n 0, 1, 0, 0, 0), (29, .getfield 89, 3, 8, 28, 0), (32, .iload_n 2, 1, 0, 0, 0), (33, .iaload, 1, 0, 0, 0), (34, .if_icmp .ge 25, 3, 59, 0, 0), (37, .aload_n 0, 1, 0, 0, 0), (38, .iload_n 1, 1, 0, 0, 0), (39, .aload_n 0, 1, 0, 0, 0), (40, .getfield 93, 3, 8, 29, 0), (43, .bipush 14, 2, 0, 0, 14), (45, .iload_n 2, 1, 0, 0, 0), (46, .imul, 1, 0, 0, 0), (47, .iload_n 3, 1, 0, 0, 0), (48, .iadd, 1, 0, 0, 0), (49, .iaload, 1, 0, 0, 0), (50, .invokevirtual 163, 3, 87, 1, 0), (53, .iinc 3 1, 3, 0, 0, 1), (56, .goto (-29), 3, 27, 0, 0), (59, .aload_n 0, 1, 0, 0, 0), (60, .getfield 83, 3, 8, 26, 0), (63, .iload_n 1, 1, 0, 0, 0), (64, .dup2, 1, 0, 0, 0), (65, .iaload, 1, 0, 0, 0), (66, .iconst 1, 1, 0, 0, 1), (67, .iadd, 1, 0, 0, 0), (68, .iastore, 1, 0, 0, 0), (69, .aload_n 0, 1, 0, 0, 0), (70, .getfield 86, 3, 8, 27, 0), (73, .iload_n 1, 1, 0, 0, 0), (74, .dup2, 1, 0, 0, 0), (75, .iaload, 1, 0, 0, 0), (76, .iconst 1, 1, 0, 0, 1), (77, .isub, 1, 0, 0, 0), (78, .iastore, 1, 0, 0, 0), (79, .return_, 1, 0, 0, 0)]
def kc_X7_textByte : List ev_I := [(0, .iload_n 2, 1, 0, 0, 0), (1, .ifCond .ne 16, 3, 17, 0, 0), (4, .aload_n 0, 1, 0, 0, 0), (5, .getfield 56, 3, 8, 17, 0), (8, .iload_n 1, 1, 0, 0, 0), (9, .iaload, 1, 0, 0, 0), (10, .sipush 255, 3, 0, 0, 255), (13, .iand, 1, 0, 0, 0), (14, .goto 33, 3, 47, 0, 0), (17, .iload_n 2, 1, 0, 0, 0), (18, .iconst 1, 1, 0, 0, 1), (19, .if_icmp .ne 15, 3, 34, 0, 0), (22, .aload_n 0, 1, 0, 0, 0), (23, .getfield 56, 3, 8, 17, 0), (26, .iload_n 1, 1, 0, 0, 0), (27, .iaload, 1, 0, 0, 0), (28, .bipush 8, 2, 0, 0, 8), (30, .ishr, 1, 0, 0, 0), (31, .goto 16, 3, 47, 0, 0), (34, .aload_n 0, 1, 0, 0, 0), (35, .getfield 59, 3, 8, 18, 0), (38, .bipush 120, 2, 0, 0, 120), (40, .iload_n 1, 1, 0, 0, 0), (41, .imul, 1, 0, 0, 0), (42, .iload_n 2, 1, 0, 0, 0), (43, .iadd, 1, 0, 0, 0), (44, .iconst 2, 1, 0, 0, 2), (45, .isub, 1, 0, 0, 0), (46, .iaload, 1, 0, 0, 0), (47, .ireturn, 1, 0, 0, 0)]
def kc_X7_beginSegment : List ev_I := [(0, .iconst 2, 1, 0, 0, 2), (1, .iload_n 2, 1, 0, 0, 0), (2, .imul, 1, 0, 0, 0), (3, .istore_n 3, 1, 0, 0, 0), (4, .aload_n 0, 1, 0, 0, 0), (5, .getfield 56, 3, 8, 17, 0), (8, .iload_n 3, 1, 0, 0, 0), (9, .iaload, 1, 0, 0, 0), (10, .iconst 2, 1, 0, 0, 2), (11, .iadd, 1, 0, 0, 0), (12, .istore 4, 2, 0, 0, 0), (14, .iload 4, 2, 0, 0, 0), (16, .aload_n 0, 1, 0, 0, 0), (17, .getfield 62, 3, 8, 19, 0), (20, .iload_n 2, 1, 0, 0, 0), (21, .iaload, 1, 0, 0, 0), (22, .isub, 1, 0, 0, 0), (23, .aload_n 0, 1, 0, 0, 0), (24, .getfield 44, 3, 8, 13, 0), (27, .iload_n 2, 1, 0, 0, 0), (28, .iaload, 1, 0, 0, 0), (29, .if_icmp .ge 15, 3, 44, 0, 0), (32, .iload 4, 2, 0, 0, 0), (34, .aload_n 0, 1, 0, 0, 0), (35, .getfield 62, 3, 8, 19, 0), (38, .iload_n 2, 1, 0, 0, 0), (39, .iaload, 1, 0, 0, 0), (40, .isub, 1, 0, 0, 0), (41, .goto 9, 3, 50, 0, 0), (44, .aload_n 0, 1, 0, 0, 0), (45, .getfield 44, 3, 8, 13, 0), (48, .iload_n 2, 1, 0, 0, 0), (49, .iaload, 1, 0, 0, 0), (50, .istore 5, 2, 0, 0, 0), (52, .aload_n 0, 1, 0, 0, 0), (53, .iload_n 1, 1, 0, 0, 0), (54, .iload 5, 2, 0, 0, 0), (56, .aload_n 0, 1, 0, 0, 0), (57, .getfield 38, 3, 8, 11, 0), (60, .iload_n 2, 1, 0, 0, 0), (61, .iaload, 1, 0, 0, 0), (62, .invokevirtual 159, 3, 86, 1, 0), (65, .iconst 0, 1, 0, 0, 0), (66, .istore 6, 2, 0, 0, 0), (68, .iload 6, 2, 0, 0, 0), (70, .iload 5, 2, 0, 0, 0), (72, .if_icmp .ge 28, 3, 100, 0, 0), (75, .aload_n 0, 1, 0, 0, 0), (76, .iload_n 1, 1, 0, 0, 0), (77, .aload_n 0, 1, 0, 0, 0), (78, .iload_n 3, 1, 0, 0, 0), (79, .aload_n 0, 1, 0, 0, 0), (80, .getfield 62, 3, 8, 19, 0), (83, .iload_n 2, 1, 0, 0, 0), (84, .iaload, 1, 0, 0, 0), (85, .iload 6, 2, 0, 0, 0), (87, .iadd, 1, 0, 0, 0), (88, .invokevirtual 167, 3, 89, 1, 0), (91, .invokevirtual 163, 3, 87, 1, 0), (94, .iinc 6 1, 3, 0, 0, 1), (97, .goto (-29), 3, 68, 0, 0), (100, .aload_n 0, 1, 0, 0, 0), (101, .getfield 62, 3, 8, 19, 0), (104, .iload_n 2, 1, 0, 0, 0), (105, .aload_n 0, 1, 0, 0, 0), (106, .getfield 62, 3, 8, 19, 0), (109, .iload_n 2, 1, 0, 0, 0), (110, .iaload, 1, 0, 0, 0), (111, .iload 5, 2, 0, 0, 0), (113, .iadd, 1, 0, 0, 0), (114, .iastore, 1, 0, 0, 0), (115, .aload_n 0, 1, 0, 0, 0), (116, .getfield 47, 3, 8, 14, 0), (119, .iload_n 2, 1, 0, 0, 0), (120, .dup2, 1, 0, 0, 0), (121, .iaload, 1, 0, 0, 0), (122, .iconst 1, 1, 0, 0, 1), (123, .isub, 1, 0, 0, 0), (124, .iastore, 1, 0, 0, 0), (125, .aload_n 0, 1, 0, 0, 0), (126, .getfield 99, 3, 8, 31, 0), (129, .iload_n 1, 1, 0, 0, 0), (130, .iload_n 2, 1, 0, 0, 0), (131, .iconst 4, 1, 0, 0, 4), (132, .irem, 1, 0, 0, 0), (133, .iastore, 1, 0, 0, 0), (134, .aload_n 0, 1, 0, 0, 0), (135, .getfield 62, 3, 8, 19, 0), (138, .iload_n 2, 1, 0, 0, 0), (139, .iaload, 1, 0, 0, 0), (140, .iload 4, 2, 0, 0, 0), (142, .if_icmp .ne 77, 3, 219, 0, 0), (145, .aload_n 0, 1, 0, 0, 0), (146, .getfield 62, 3, 8, 19, 0), (149, .iload_n 2, 1, 0, 0, 0), (150, .iconst 0, 1, 0, 0, 0), (151, .iastore, 1, 0, 0, 0), (152, .aload_n 0, 1, 0, 0, 0), (153, .getfield 53, 3, 8, 16, 0), (156, .iload_n 2, 1, 0, 0, 0), (157, .dup2, 1, 0, 0, 0), (158, .iaload, 1, 0, 0, 0), (159, .iconst 1, 1, 0, 0, 1), (160, .isub, 1, 0, 0, 0), (161, .iastore, 1, 0, 0, 0), (162, .aload_n 0, 1, 0, 0, 0), (163, .getfield 56, 3, 8, 17, 0), (166, .iload_n 3, 1, 0, 0, 0), (167, .aload_n 0, 1, 0, 0, 0), (168, .getfield 56, 3, 8, 17, 0), (171, .iload_n 3, 1, 0, 0, 0), (172, .iconst 1, 1, 0, 0, 1), (173, .iadd, 1, 0, 0, 0), (174, .iaload, 1, 0, 0, 0), (175, .iastore, 1, 0, 0, 0), (176, .iconst 0, 1, 0, 0, 0), (177, .istore 6, 2, 0, 0, 0), (179, .iload 6, 2, 0, 0, 0), (181, .bipush 120, 2, 0, 0, 120), (183, .if_icmp .ge 36, 3, 219, 0, 0), (186, .aload_n 0, 1, 0, 0, 0), (187, .getfield 59, 3, 8, 18, 0), (190, .bipush 120, 2, 0, 0, 120), (192, .iload_n 3, 1, 0, 0, 0), (193, .imul, 1, 0, 0, 0), (194, .iload 6, 2, 0, 0, 0), (196, .iadd, 1, 0, 0, 0), (197, .aload_n 0, 1, 0, 0, 0), (198, .getfield 59, 3, 8, 18, 0), (201, .bipush 120, 2, 0, 0, 120), (203, .iload_n 3, 1, 0, 0, 0), (204, .imul, 1, 0, 0, 0), (205, .bipush 120, 2, 0, 0, 120), (207, .iadd, 1, 0, 0, 0), (208, .iload 6, 2, 0, 0, 0), (210, .iadd, 1, 0, 0, 0), (211, .iaload, 1, 0, 0, 0), (212, .iastore, 1, 0, 0, 0), (213, .iinc 6 1, 3, 0, 0, 1), (216, .goto (-37), 3, 179, 0, 0), (219, .return_, 1, 0, 0, 0)]
def kc_X7_nextChannel : List ev_I := [(0, .iconst 1, 1, 0, 0, 1), (1, .istore_n 2, 1, 0, 0, 0), (2, .iload_n 2, 1, 0, 0, 0), (3, .iconst 4, 1, 0, 0, 4), (4, .if_icmp .gt 54, 3, 58, 0, 0), (7, .iconst 4, 1, 0, 0, 4), (8, .iload_n 1, 1, 0, 0, 0), (9, .imul, 1, 0, 0, 0), (10, .aload_n 0, 1, 0, 0, 0), (11, .getfield 99, 3, 8, 31, 0), (14, .iload_n 1, 1, 0, 0, 0), (15, .iaload, 1, 0, 0, 0), (16, .iload_n 2, 1, 0, 0, 0), (17, .iadd, 1, 0, 0, 0), (18, .iconst 4, 1, 0, 0, 4), (19, .irem, 1, 0, 0, 0), (20, .iadd, 1, 0, 0, 0), (21, .istore_n 3, 1, 0, 0, 0), (22, .aload_n 0, 1, 0, 0, 0), (23, .getfield 26, 3, 8, 7, 0), (26, .iload_n 3, 1, 0, 0, 0), (27, .iaload, 1, 0, 0, 0), (28, .iconst 2, 1, 0, 0, 2), (29, .if_icmp .ne 23, 3, 52, 0, 0), (32, .aload_n 0, 1, 0, 0, 0), (33, .getfield 53, 3, 8, 16, 0), (36, .iload_n 3, 1, 0, 0, 0), (37, .iaload, 1, 0, 0, 0), (38, .ifCond .le 14, 3, 52, 0, 0), (41, .aload_n 0, 1, 0, 0, 0), (42, .getfield 47, 3, 8, 14, 0), (45, .iload_n 3, 1, 0, 0, 0), (46, .iaload, 1, 0, 0, 0), (47, .ifCond .le 5, 3, 52, 0, 0), (50, .iload_n 3, 1, 0, 0, 0), (51, .ireturn, 1, 0, 0, 0), (52, .iinc 2 1, 3, 0, 0, 1), (55, .goto (-53), 3, 2, 0, 0), (58, .iconst (-1), 1, 0, 0, (-1)), (59, .ireturn, 1, 0, 0, 0)]
def kc_X7_sendAll : List ev_I := [(0, .iconst 1, 1, 0, 0, 1), (1, .istore_n 2, 1, 0, 0, 0), (2, .iload_n 2, 1, 0, 0, 0), (3, .ifCond .eq 158, 3, 161, 0, 0), (6, .aload_n 0, 1, 0, 0, 0), (7, .iload_n 1, 1, 0, 0, 0), (8, .invokevirtual 171, 3, 84, 1, 0), (11, .ifCond .le 150, 3, 161, 0, 0), (14, .aload_n 0, 1, 0, 0, 0), (15, .getfield 111, 3, 8, 35, 0), (18, .iconst 1, 1, 0, 0, 1), (19, .iload_n 1, 1, 0, 0, 0), (20, .isub, 1, 0, 0, 0), (21, .iaload, 1, 0, 0, 0), (22, .bipush 32, 2, 0, 0, 32), (24, .if_icmp .ge 137, 3, 161, 0, 0), (27, .aload_n 0, 1, 0, 0, 0), (28, .getfield 105, 3, 8, 33, 0), (31, .iload_n 1, 1, 0, 0, 0), (32, .iaload, 1, 0, 0, 0), (33, .aload_n 0, 1, 0, 0, 0), (34, .getfield 102, 3, 8, 32, 0), (37, .iload_n 1, 1, 0, 0, 0), (38, .iaload, 1, 0, 0, 0), (39, .if_icmp .ne 41, 3, 80, 0, 0), (42, .aload_n 0, 1, 0, 0, 0), (43, .iload_n 1, 1, 0, 0, 0), (44, .invokevirtual 175, 3, 91, 1, 0), (47, .istore_n 3, 1, 0, 0, 0), (48, .aload_n 0, 1, 0, 0, 0), (49, .getfield 86, 3, 8, 27, 0), (52, .iload_n 1, 1, 0, 0, 0), (53, .iaload, 1, 0, 0, 0), (54, .ifCond .le 11, 3, 65, 0, 0), (57, .aload_n 0, 1, 0, 0, 0), (58, .iload_n 1, 1, 0, 0, 0), (59, .invokevirtual 178, 3, 88, 1, 0), (62, .goto 18, 3, 80, 0, 0), (65, .iload_n 3, 1, 0, 0, 0), (66, .ifCond .lt 12, 3, 78, 0, 0), (69, .aload_n 0, 1, 0, 0, 0), (70, .iload_n 1, 1, 0, 0, 0), (71, .iload_n 3, 1, 0, 0, 0), (72, .invokevirtual 182, 3, 90, 1, 0), (75, .goto 5, 3, 80, 0, 0), (78, .iconst 0, 1, 0, 0, 0), (79, .istore_n 2, 1, 0, 0, 0), (80, .iload_n 2, 1, 0, 0, 0), (81, .ifCond .eq (-79), 3, 2, 0, 0), (84, .aload_n 0, 1, 0, 0, 0), (85, .getfield 102, 3, 8, 32, 0), (88, .iload_n 1, 1, 0, 0, 0), (89, .iaload, 1, 0, 0, 0), (90, .aload_n 0, 1, 0, 0, 0), (91, .getfield 105, 3, 8, 33, 0), (94, .iload_n 1, 1, 0, 0, 0), (95, .iaload, 1, 0, 0, 0), (96, .isub, 1, 0, 0, 0), (97, .istore_n 3, 1, 0, 0, 0), (98, .iload_n 3, 1, 0, 0, 0), (99, .bipush 27, 2, 0, 0, 27), (101, .if_icmp .ge 7, 3, 108, 0, 0), (104, .iload_n 3, 1, 0, 0, 0), (105, .goto 5, 3, 110, 0, 0), (108, .bipush 27, 2, 0, 0, 27), (110, .istore 4, 2, 0, 0, 0), (112, .aload_n 0, 1, 0, 0, 0), (113, .iconst 1, 1, 0, 0, 1), (114, .iload_n 1, 1, 0, 0, 0), (115, .isub, 1, 0, 0, 0), (116, .aload_n 0, 1, 0, 0, 0), (117, .getfield 105, 3, 8, 33, 0), (120, .iload_n 1, 1, 0, 0, 0), (121, .iaload, 1, 0, 0, 0), (122, .iload 4, 2, 0, 0, 0), (124, .aload_n 0, 1, 0, 0, 0), (125, .getfield 105, 3, 8, 33, 0), (128, .iload_n 1, 1, 0, 0, 0), (129, .iaload, 1, 0, 0, 0), (130, .ifCond .ne 7, 3, 137, 0, 0), (133, .iconst 1, 1, 0, 0, 1), (134, .goto 4, 3, 138, 0, 0), (137, .iconst 0, 1, 0, 0, 0), (138, .iconst 1, 1, 0, 0, 1), (139, .iload_n 1, 1, 0, 0, 0), (140, .invokevirtual 185, 3, 85, 1, 0), (143, .aload_n 0, 1, 0, 0, 0), (144, .getfield 105, 3, 8, 33, 0), (147, .iload_n 1, 1, 0, 0, 0), (148, .aload_n 0, 1, 0, 0, 0), (149, .getfield 105, 3, 8, 33, 0), (152, .iload_n 1, 1, 0, 0, 0), (153, .iaload, 1, 0, 0, 0), (154, .iload 4, 2, 0, 0, 0), (156, .iadd, 1, 0, 0, 0), (157, .iastore, 1, 0, 0, 0), (158, .goto (-156), 3, 2, 0, 0), (161, .return_, 1, 0, 0, 0)]
def kc_X7_sendBoth : List ev_I := [(0, .aload_n 0, 1, 0, 0, 0), (1, .iconst 0, 1, 0, 0, 0), (2, .invokevirtual 189, 3, 92, 1, 0), (5, .aload_n 0, 1, 0, 0, 0), (6, .iconst 1, 1, 0, 0, 1), (7, .invokevirtual 189, 3, 92, 1, 0), (10, .return_, 1, 0, 0, 0)]
def kc_X7_begin : List ev_I := [(0, .aload_n 0, 1, 0, 0, 0), (1, .getfield 144, 3, 8, 46, 0), (4, .iconst 0, 1, 0, 0, 0), (5, .iload_n 1, 1, 0, 0, 0), (6, .iastore, 1, 0, 0, 0), (7, .aload_n 0, 1, 0, 0, 0), (8, .getfield 144, 3, 8, 46, 0), (11, .iconst 1, 1, 0, 0, 1), (12, .iload_n 2, 1, 0, 0, 0), (13, .iastore, 1, 0, 0, 0), (14, .aload_n 0, 1, 0, 0, 0), (15, .getfield 144, 3, 8, 46, 0), (18, .iconst 2, 1, 0, 0, 2), (19, .iload_n 3, 1, 0, 0, 0), (20, .sipush 255, 3, 0, 0, 255), (23, .iand, 1, 0, 0, 0), (24, .iastore, 1, 0, 0, 0), (25, .aload_n 0, 1, 0, 0, 0), (26, .getfield 144, 3, 8, 46, 0), (29, .iconst 3, 1, 0, 0, 3), (30, .iload_n 3, 1, 0, 0, 0), (31, .bipush 8, 2, 0, 0, 8), (33, .ishr, 1, 0, 0, 0), (34, .iastore, 1, 0, 0, 0), (35, .aload_n 0, 1, 0, 0, 0), (36, .iconst 4, 1, 0, 0, 4), (37, .putfield 192, 3, 8, 47, 0), (40, .return_, 1, 0, 0, 0)]
def kc_X7_two : List ev_I := [(0, .aload_n 0, 1, 0, 0, 0), (1, .getfield 144, 3, 8, 46, 0), (4, .aload_n 0, 1, 0, 0, 0), (5, .getfield 192, 3, 8, 47, 0), (8, .iload_n 1, 1, 0, 0, 0), (9, .sipush 255, 3, 0, 0, 255), (12, .iand, 1, 0, 0, 0), (13, .iastore, 1, 0, 0, 0), (14, .aload_n 0, 1, 0, 0, 0), (15, .getfield 144, 3, 8, 46, 0), (18, .aload_n 0, 1, 0, 0, 0), (19, .getfield 192, 3, 8, 47, 0), (22, .iconst 1, 1, 0, 0, 1), (23, .iadd, 1, 0, 0, 0), (24, .iload_n 1, 1, 0, 0, 0), (25, .bipush 8, 2, 0, 0, 8), (27, .ishr, 1, 0, 0, 0), (28, .sipush 255, 3, 0, 0, 255), (31, .iand, 1, 0, 0, 0), (32, .iastore, 1, 0, 0, 0), (33, .aload_n 0, 1, 0, 0, 0), (34, .aload_n 0, 1, 0, 0, 0), (35, .getfield 192, 3, 8, 47, 0), (38, .iconst 2, 1, 0, 0, 2), (39, .iadd, 1, 0, 0, 0), (40, .putfield 192, 3, 8, 47, 0), (43, .return_, 1, 0, 0, 0)]
def kc_X7_wait : List ev_I := [(0, .sipush 2048, 3, 0, 0, 2048), (3, .iload_n 1, 1, 0, 0, 0), (4, .imul, 1, 0, 0, 0), (5, .aload_n 0, 1, 0, 0, 0), (6, .getfield 83, 3, 8, 26, 0), (9, .iload_n 1, 1, 0, 0, 0), (10, .iaload, 1, 0, 0, 0), (11, .iadd, 1, 0, 0, 0), (12, .aload_n 0, 1, 0, 0, 0), (13, .getfield 86, 3, 8, 27, 0), (16, .iload_n 1, 1, 0, 0, 0), (17, .iaload, 1, 0, 0, 0), (18, .iadd, 1, 0, 0, 0), (19, .istore_n 2, 1, 0, 0, 0), (20, .aload_n 0, 1, 0, 0, 0), (21, .getfield 89, 3, 8, 28, 0), (24, .iload_n 2, 1, 0, 0, 0), (25, .aload_n 0, 1, 0, 0, 0), (26, .getfield 192, 3, 8, 47, 0), (29, .iastore, 1, 0, 0, 0), (30, .iconst 0, 1, 0, 0, 0), (31, .istore_n 3, 1, 0, 0, 0), (32, .iload_n 3, 1, 0, 0, 0), (33, .aload_n 0, 1, 0, 0, 0), (34, .getfield 192, 3, 8, 47, 0), (37, .if_icmp .ge 26, 3, 63, 0, 0), (40, .aload_n 0, 1, 0, 0, 0), (41, .getfield 93, 3, 8, 29, 0), (44, .bipush 14, 2, 0, 0, 14), (46, .iload_n 2, 1, 0, 0, 0), (47, .imul, 1, 0, 0, 0), (48, .iload_n 3, 1, 0, 0, 0), (49, .iadd, 1, 0, 0, 0), (50, .aload_n 0, 1, 0, 0, 0), (51, .getfield 144, 3, 8, 46, 0), (54, .iload_n 3, 1, 0, 0, 0), (55, .iaload, 1, 0, 0, 0), (56, .iastore, 1, 0, 0, 0), (57, .iinc 3 1, 3, 0, 0, 1), (60, .goto (-28), 3, 32, 0, 0), (63, .aload_n 0, 1, 0, 0, 0), (64, .getfield 86, 3, 8, 27, 0), (67, .iload_n 1, 1, 0, 0, 0), (68, .dup2, 1, 0, 0, 0), (69, .iaload, 1, 0, 0, 0), (70, .iconst 1, 1, 0, 0, 1), (71, .iadd, 1, 0, 0, 0), (72, .iastore, 1, 0, 0, 0), (73, .return_, 1, 0, 0, 0)]
def kc_X7_takeId : List ev_I := [(0, .aload_n 0, 1, 0, 0, 0), (1, .getfield 96, 3, 8, 30, 0), (4, .iload_n 1, 1, 0, 0, 0), (5, .iaload, 1, 0, 0, 0), (6, .istore_n 2, 1, 0, 0, 0), (7, .aload_n 0, 1, 0, 0, 0), (8, .getfield 96, 3, 8, 30, 0), (11, .iload_n 1, 1, 0, 0, 0), (12, .iload_n 2, 1, 0, 0, 0), (13, .sipush 255, 3, 0, 0, 255), (16, .if_icmp .ne 7, 3, 23, 0, 0), (19, .iconst 1, 1, 0, 0, 1), (20, .goto 6, 3, 26, 0, 0), (23, .iload_n 2, 1, 0, 0, 0), (24, .iconst 1, 1, 0, 0, 1), (25, .iadd, 1, 0, 0, 0), (26, .iastore, 1, 0, 0, 0), (27, .iload_n 2, 1, 0, 0, 0), (28, .ireturn, 1, 0, 0, 0)]
def kc_X7_dropTexts : List ev_I := [(0, .aload_n 0, 1, 0, 0, 0), (1, .getfield 53, 3, 8, 16, 0), (4, .iload_n 1, 1, 0, 0, 0), (5, .iconst 0, 1, 0, 0, 0), (6, .iastore, 1, 0, 0, 0), (7, .aload_n 0, 1, 0, 0, 0), (8, .getfield 62, 3, 8, 19, 0), (11, .iload_n 1, 1, 0, 0, 0), (12, .iconst 0, 1, 0, 0, 0), (13, .iastore, 1, 0, 0, 0), (14, .aload_n 0, 1, 0, 0, 0), (15, .getfield 65, 3, 8, 20, 0), (18, .iload_n 1, 1, 0, 0, 0), (19, .iconst (-1), 1, 0, 0, (-1)), (20, .iastore, 1, 0, 0, 0), (21, .aload_n 0, 1, 0, 0, 0), (22, .getfield 68, 3, 8, 21, 0), (25, .iload_n 1, 1, 0, 0, 0), (26, .iconst 0, 1, 0, 0, 0), (27, .iastore, 1, 0, 0, 0), (28, .return_, 1, 0, 0, 0)]
def kc_X7_leaveNow : List ev_I := [(0, .aload_n 0, 1, 0, 0, 0), (1, .getfield 26, 3, 8, 7, 0), (4, .iload_n 2, 1, 0, 0, 0), (5, .iconst 3, 1, 0, 0, 3), (6, .iastore, 1, 0, 0, 0), (7, .aload_n 0, 1, 0, 0, 0), (8, .iload_n 2, 1, 0, 0, 0), (9, .invokevirtual 195, 3, 98, 1, 0), (12, .aload_n 0, 1, 0, 0, 0), (13, .getfield 50, 3, 8, 15, 0), (16, .iload_n 2, 1, 0, 0, 0), (17, .aload_n 0, 1, 0, 0, 0), (18, .iload_n 1, 1, 0, 0, 0), (19, .invokevirtual 198, 3, 97, 1, 0), (22, .iastore, 1, 0, 0, 0), (23, .aload_n 0, 1, 0, 0, 0), (24, .bipush 6, 2, 0, 0, 6), (26, .aload_n 0, 1, 0, 0, 0), (27, .getfield 50, 3, 8, 15, 0), (30, .iload_n 2, 1, 0, 0, 0), (31, .iaload, 1, 0, 0, 0), (32, .iconst 4, 1, 0, 0, 4), (33, .invokevirtual 201, 3, 94, 1, 0), (36, .aload_n 0, 1, 0, 0, 0), (37, .aload_n 0, 1, 0, 0, 0), (38, .getfield 38, 3, 8, 11, 0), (41, .iload_n 2, 1, 0, 0, 0), (42, .iaload, 1, 0, 0, 0), (43, .invokevirtual 204, 3, 95, 1, 0), (46, .aload_n 0, 1, 0, 0, 0), (47, .bipush 64, 2, 0, 0, 64), (49, .iload_n 2, 1, 0, 0, 0), (50, .iconst 4, 1, 0, 0, 4), (51, .irem, 1, 0, 0, 0), (52, .iadd, 1, 0, 0, 0), (53, .invokevirtual 204, 3, 95, 1, 0), (56, .aload_n 0, 1, 0, 0, 0), (57, .iload_n 1, 1, 0, 0, 0), (58, .invokevirtual 207, 3, 96, 1, 0), (61, .return_, 1, 0, 0, 0)]
def kc_X7_close : List ev_I := [(0, .aload_n 0, 1, 0, 0, 0), (1, .getfield 26, 3, 8, 7, 0), (4, .iload_n 1, 1, 0, 0, 0), (5, .iconst 0, 1, 0, 0, 0), (6, .iastore, 1, 0, 0, 0), (7, .aload_n 0, 1, 0, 0, 0), (8, .iload_n 1, 1, 0, 0, 0), (9, .invokevirtual 195, 3, 98, 1, 0), (12, .aload_n 0, 1, 0, 0, 0), (13, .getfield 38, 3, 8, 11, 0), (16, .iload_n 1, 1, 0, 0, 0), (17, .iconst 0, 1, 0, 0, 0), (18, .iastore, 1, 0, 0, 0), (19, .aload_n 0, 1, 0, 0, 0), (20, .getfield 47, 3, 8, 14, 0), (23, .iload_n 1, 1, 0, 0, 0), (24, .iconst 0, 1, 0, 0, 0), (25, .iastore, 1, 0, 0, 0), (26, .aload_n 0, 1, 0, 0, 0), (27, .getfield 35, 3, 8, 10, 0), (30, .iload_n 1, 1, 0, 0, 0), (31, .iconst 0, 1, 0, 0, 0), (32, .iastore, 1, 0, 0, 0), (33, .aload_n 0, 1, 0, 0, 0), (34, .getfield 41, 3, 8, 12, 0), (37, .iload_n 1, 1, 0, 0, 0), (38, .iconst 0, 1, 0, 0, 0), (39, .iastore, 1, 0, 0, 0), (40, .aload_n 0, 1, 0, 0, 0), (41, .getfield 44, 3, 8, 13, 0), (44, .iload_n 1, 1, 0, 0, 0), (45, .iconst 0, 1, 0, 0, 0), (46, .iastore, 1, 0, 0, 0), (47, .return_, 1, 0, 0, 0)]
def kc_X7_firstClosed : List ev_I := [(0, .iconst 4, 1, 0, 0, 4), (1, .iload_n 1, 1, 0, 0, 0), (2, .imul, 1, 0, 0, 0), (3, .istore_n 2, 1, 0, 0, 0), (4, .iload_n 2, 1, 0, 0, 0), (5, .iconst 4, 1, 0, 0, 4), (6, .iload_n 1, 1, 0, 0, 0), (7, .imul, 1, 0, 0, 0), (8, .iconst 4, 1, 0, 0, 4), (9, .iadd, 1, 0, 0, 0), (10, .if_icmp .ge 20, 3, 30, 0, 0), (13, .aload_n 0, 1, 0, 0, 0), (14, .getfield 26, 3, 8, 7, 0), (17, .iload_n 2, 1, 0, 0, 0), (18, .iaload, 1, 0, 0, 0), (19, .ifCond .ne 5, 3, 24, 0, 0), (22, .iload_n 2, 1, 0, 0, 0), (23, .ireturn, 1, 0, 0, 0), (24, .iinc 2 1, 3, 0, 0, 1), (27, .goto (-23), 3, 4, 0, 0), (30, .iconst (-1), 1, 0, 0, (-1)), (31, .ireturn, 1, 0, 0, 0)]
def kc_X7_reject : List ev_I := [(0, .aload_n 0, 1, 0, 0, 0), (1, .getfield 138, 3, 8, 44, 0), (4, .iload_n 1, 1, 0, 0, 0), (5, .dup2, 1, 0, 0, 0), (6, .iaload, 1, 0, 0, 0), (7, .iconst 1, 1, 0, 0, 1), (8, .iadd, 1, 0, 0, 0), (9, .iastore, 1, 0, 0, 0), (10, .aload_n 0, 1, 0, 0, 0), (11, .iconst 1, 1, 0, 0, 1), (12, .iload_n 2, 1, 0, 0, 0), (13, .iconst 2, 1, 0, 0, 2), (14, .iload 4, 2, 0, 0, 0), (16, .iadd, 1, 0, 0, 0), (17, .invokevirtual 201, 3, 94, 1, 0), (20, .aload_n 0, 1, 0, 0, 0), (21, .iload_n 3, 1, 0, 0, 0), (22, .invokevirtual 204, 3, 95, 1, 0), (25, .iconst 0, 1, 0, 0, 0), (26, .istore 5, 2, 0, 0, 0), (28, .iload 5, 2, 0, 0, 0), (30, .iload 4, 2, 0, 0, 0), (32, .if_icmp .ge 37, 3, 69, 0, 0), (35, .aload_n 0, 1, 0, 0, 0), (36, .getfield 144, 3, 8, 46, 0), (39, .aload_n 0, 1, 0, 0, 0), (40, .getfield 192, 3, 8, 47, 0), (43, .aload_n 0, 1, 0, 0, 0), (44, .getfield 141, 3, 8, 45, 0), (47, .iconst 4, 1, 0, 0, 4), (48, .iload 5, 2, 0, 0, 0), (50, .iadd, 1, 0, 0, 0), (51, .iaload, 1, 0, 0, 0), (52, .iastore, 1, 0, 0, 0), (53, .aload_n 0, 1, 0, 0, 0), (54, .dup, 1, 0, 0, 0), (55, .getfield 192, 3, 8, 47, 0), (58, .iconst 1, 1, 0, 0, 1), (59, .iadd, 1, 0, 0, 0), (60, .putfield 192, 3, 8, 47, 0), (63, .iinc 5 1, 3, 0, 0, 1), (66, .goto (-38), 3, 28, 0, 0), (69, .aload_n 0, 1, 0, 0, 0), (70, .iload_n 1, 1, 0, 0, 0), (71, .invokevirtual 207, 3, 96, 1, 0), (74, .return_, 1, 0, 0, 0)]
def kc_X7_handTwo : List ev_I := [(0, .aload_n 0, 1, 0, 0, 0), (1, .getfield 141, 3, 8, 45, 0), (4, .iload_n 1, 1, 0, 0, 0), (5, .iaload, 1, 0, 0, 0), (6, .aload_n 0, 1, 0, 0, 0), (7, .getfield 141, 3, 8, 45, 0), (10, .iload_n 1, 1, 0, 0, 0), (11, .iconst 1, 1, 0, 0, 1), (12, .iadd, 1, 0, 0, 0), (13, .iaload, 1, 0, 0, 0), (14, .bipush 8, 2, 0, 0, 8), (16, .ishl, 1, 0, 0, 0), (17, .ior, 1, 0, 0, 0), (18, .ireturn, 1, 0, 0, 0)]
def kc_X7_isSound : List ev_I := [(0, .iload_n 1, 1, 0, 0, 0), (1, .bipush 10, 2, 0, 0, 10), (3, .if_icmp .ne 15, 3, 18, 0, 0), (6, .iload_n 0, 1, 0, 0, 0), (7, .bipush 20, 2, 0, 0, 20), (9, .if_icmp .eq 48, 3, 57, 0, 0), (12, .iload_n 0, 1, 0, 0, 0), (13, .bipush 21, 2, 0, 0, 21), (15, .if_icmp .eq 42, 3, 57, 0, 0), (18, .iload_n 1, 1, 0, 0, 0), (19, .iconst 4, 1, 0, 0, 4), (20, .if_icmp .ne 21, 3, 41, 0, 0), (23, .iload_n 0, 1, 0, 0, 0), (24, .bipush 22, 2, 0, 0, 22), (26, .if_icmp .eq 31, 3, 57, 0, 0), (29, .iload_n 0, 1, 0, 0, 0), (30, .bipush 6, 2, 0, 0, 6), (32, .if_icmp .eq 25, 3, 57, 0, 0), (35, .iload_n 0, 1, 0, 0, 0), (36, .bipush 7, 2, 0, 0, 7), (38, .if_icmp .eq 19, 3, 57, 0, 0), (41, .iload_n 0, 1, 0, 0, 0), (42, .iconst 1, 1, 0, 0, 1), (43, .if_icmp .ne 18, 3, 61, 0, 0), (46, .iload_n 1, 1, 0, 0, 0), (47, .iconst 2, 1, 0, 0, 2), (48, .if_icmp .eq 9, 3, 57, 0, 0), (51, .iload_n 1, 1, 0, 0, 0), (52, .bipush 6, 2, 0, 0, 6), (54, .if_icmp .ne 7, 3, 61, 0, 0), (57, .iconst 1, 1, 0, 0, 1), (58, .goto 4, 3, 62, 0, 0), (61, .iconst 0, 1, 0, 0, 0), (62, .ireturn, 1, 0, 0, 0)]
def kc_X7_resultOf : List ev_I := [(0, .iload_n 2, 1, 0, 0, 0), (1, .iconst 1, 1, 0, 0, 1), (2, .bipush 9, 2, 0, 0, 9), (4, .invokestatic 155, 3, 81, 0, 0), (7, .ifCond .eq 17, 3, 24, 0, 0), (10, .aload_n 0, 1, 0, 0, 0), (11, .getfield 13, 3, 8, 3, 0), (14, .bipush 10, 2, 0, 0, 10), (16, .iload_n 1, 1, 0, 0, 0), (17, .imul, 1, 0, 0, 0), (18, .iload_n 2, 1, 0, 0, 0), (19, .iadd, 1, 0, 0, 0), (20, .baload, 1, 0, 0, 0), (21, .ifCond .ne 5, 3, 26, 0, 0), (24, .iconst 2, 1, 0, 0, 2), (25, .ireturn, 1, 0, 0, 0), (26, .iload 4, 2, 0, 0, 0), (28, .bipush 23, 2, 0, 0, 23), (30, .if_icmp .lt 10, 3, 40, 0, 0), (33, .iload 5, 2, 0, 0, 0), (35, .bipush 23, 2, 0, 0, 23), (37, .if_icmp .ge 6, 3, 43, 0, 0), (40, .bipush 11, 2, 0, 0, 11), (42, .ireturn, 1, 0, 0, 0), (43, .iload_n 3, 1, 0, 0, 0), (44, .bipush 64, 2, 0, 0, 64), (46, .bipush 127, 2, 0, 0, 127), (48, .invokestatic 155, 3, 81, 0, 0), (51, .ifCond .ne 6, 3, 57, 0, 0), (54, .bipush 9, 2, 0, 0, 9), (56, .ireturn, 1, 0, 0, 0), (57, .iconst 4, 1, 0, 0, 4), (58, .iload_n 1, 1, 0, 0, 0), (59, .imul, 1, 0, 0, 0), (60, .istore 6, 2, 0, 0, 0), (62, .iload 6, 2, 0, 0, 0), (64, .iconst 4, 1, 0, 0, 4), (65, .iload_n 1, 1, 0, 0, 0), (66, .imul, 1, 0, 0, 0), (67, .iconst 4, 1, 0, 0, 4), (68, .iadd, 1, 0, 0, 0), (69, .if_icmp .ge 45, 3, 114, 0, 0), (72, .aload_n 0, 1, 0, 0, 0), (73, .getfield 26, 3, 8, 7, 0), (76, .iload 6, 2, 0, 0, 0), (78, .iaload, 1, 0, 0, 0), (79, .iconst 2, 1, 0, 0, 2), (80, .if_icmp .eq 14, 3, 94, 0, 0), (83, .aload_n 0, 1, 0, 0, 0), (84, .getfield 26, 3, 8, 7, 0), (87, .iload 6, 2, 0, 0, 0), (89, .iaload, 1, 0, 0, 0), (90, .iconst 3, 1, 0, 0, 3), (91, .if_icmp .ne 17, 3, 108, 0, 0), (94, .aload_n 0, 1, 0, 0, 0), (95, .getfield 38, 3, 8, 11, 0), (98, .iload 6, 2, 0, 0, 0), (100, .iaload, 1, 0, 0, 0), (101, .iload_n 3, 1, 0, 0, 0), (102, .if_icmp .ne 6, 3, 108, 0, 0), (105, .bipush 10, 2, 0, 0, 10), (107, .ireturn, 1, 0, 0, 0), (108, .iinc 6 1, 3, 0, 0, 1), (111, .goto (-49), 3, 62, 0, 0), (114, .aload_n 0, 1, 0, 0, 0), (115, .iload_n 1, 1, 0, 0, 0), (116, .invokevirtual 210, 3, 101, 1, 0), (119, .ifCond .ge 7, 3, 126, 0, 0), (122, .iconst 4, 1, 0, 0, 4), (123, .goto 4, 3, 127, 0, 0), (126, .iconst 0, 1, 0, 0, 0), (127, .ireturn, 1, 0, 0, 0)]
def kc_X7_request : List ev_I := [(0, .aload_n 0, 1, 0, 0, 0), (1, .iconst 4, 1, 0, 0, 4), (2, .invokevirtual 213, 3, 103, 1, 0), (5, .istore_n 3, 1, 0, 0, 0), (6, .aload_n 0, 1, 0, 0, 0), (7, .iload_n 1, 1, 0, 0, 0), (8, .iload_n 3, 1, 0, 0, 0), (9, .aload_n 0, 1, 0, 0, 0), (10, .bipush 6, 2, 0, 0, 6), (12, .invokevirtual 213, 3, 103, 1, 0), (15, .aload_n 0, 1, 0, 0, 0), (16, .bipush 8, 2, 0, 0, 8), (18, .invokevirtual 213, 3, 103, 1, 0), (21, .aload_n 0, 1, 0, 0, 0), (22, .bipush 10, 2, 0, 0, 10), (24, .invokevirtual 213, 3, 103, 1, 0), (27, .invokevirtual 216, 3, 105, 1, 0), (30, .istore 4, 2, 0, 0, 0), (32, .aload_n 0, 1, 0, 0, 0), (33, .bipush 21, 2, 0, 0, 21), (35, .iload_n 2, 1, 0, 0, 0), (36, .bipush 10, 2, 0, 0, 10), (38, .invokevirtual 201, 3, 94, 1, 0), (41, .iload 4, 2, 0, 0, 0), (43, .ifCond .eq 26, 3, 69, 0, 0), (46, .iconst 0, 1, 0, 0, 0), (47, .istore 5, 2, 0, 0, 0), (49, .iload 5, 2, 0, 0, 0), (51, .iconst 4, 1, 0, 0, 4), (52, .if_icmp .ge 14, 3, 66, 0, 0), (55, .aload_n 0, 1, 0, 0, 0), (56, .iconst 0, 1, 0, 0, 0), (57, .invokevirtual 204, 3, 95, 1, 0), (60, .iinc 5 1, 3, 0, 0, 1), (63, .goto (-14), 3, 49, 0, 0), (66, .goto 172, 3, 238, 0, 0), (69, .aload_n 0, 1, 0, 0, 0), (70, .iload_n 1, 1, 0, 0, 0), (71, .invokevirtual 210, 3, 101, 1, 0), (74, .istore 5, 2, 0, 0, 0), (76, .bipush 10, 2, 0, 0, 10), (78, .iload_n 1, 1, 0, 0, 0), (79, .imul, 1, 0, 0, 0), (80, .iload_n 3, 1, 0, 0, 0), (81, .iadd, 1, 0, 0, 0), (82, .istore 6, 2, 0, 0, 0), (84, .aload_n 0, 1, 0, 0, 0), (85, .getfield 26, 3, 8, 7, 0), (88, .iload 5, 2, 0, 0, 0), (90, .iconst 2, 1, 0, 0, 2), (91, .iastore, 1, 0, 0, 0), (92, .aload_n 0, 1, 0, 0, 0), (93, .getfield 74, 3, 8, 23, 0), (96, .iload 5, 2, 0, 0, 0), (98, .iconst 0, 1, 0, 0, 0), (99, .iastore, 1, 0, 0, 0), (100, .aload_n 0, 1, 0, 0, 0), (101, .getfield 29, 3, 8, 8, 0), (104, .iload 5, 2, 0, 0, 0), (106, .aload_n 0, 1, 0, 0, 0), (107, .getfield 17, 3, 8, 4, 0), (110, .iload 6, 2, 0, 0, 0), (112, .iaload, 1, 0, 0, 0), (113, .iastore, 1, 0, 0, 0), (114, .aload_n 0, 1, 0, 0, 0), (115, .getfield 32, 3, 8, 9, 0), (118, .iload 5, 2, 0, 0, 0), (120, .aload_n 0, 1, 0, 0, 0), (121, .getfield 20, 3, 8, 5, 0), (124, .iload 6, 2, 0, 0, 0), (126, .iaload, 1, 0, 0, 0), (127, .iastore, 1, 0, 0, 0), (128, .aload_n 0, 1, 0, 0, 0), (129, .getfield 35, 3, 8, 10, 0), (132, .iload 5, 2, 0, 0, 0), (134, .aload_n 0, 1, 0, 0, 0), (135, .getfield 23, 3, 8, 6, 0), (138, .iload 6, 2, 0, 0, 0), (140, .iaload, 1, 0, 0, 0), (141, .iastore, 1, 0, 0, 0), (142, .aload_n 0, 1, 0, 0, 0), (143, .getfield 38, 3, 8, 11, 0), (146, .iload 5, 2, 0, 0, 0), (148, .aload_n 0, 1, 0, 0, 0), (149, .bipush 6, 2, 0, 0, 6), (151, .invokevirtual 213, 3, 103, 1, 0), (154, .iastore, 1, 0, 0, 0), (155, .aload_n 0, 1, 0, 0, 0), (156, .getfield 41, 3, 8, 12, 0), (159, .iload 5, 2, 0, 0, 0), (161, .aload_n 0, 1, 0, 0, 0), (162, .bipush 8, 2, 0, 0, 8), (164, .invokevirtual 213, 3, 103, 1, 0), (167, .iastore, 1, 0, 0, 0), (168, .aload_n 0, 1, 0, 0, 0), (169, .getfield 44, 3, 8, 13, 0), (172, .iload 5, 2, 0, 0, 0), (174, .aload_n 0, 1, 0, 0, 0), (175, .bipush 10, 2, 0, 0, 10), (177, .invokevirtual 213, 3, 103, 1, 0), (180, .iastore, 1, 0, 0, 0), (181, .aload_n 0, 1, 0, 0, 0), (182, .getfield 47, 3, 8, 14, 0), (185, .iload 5, 2, 0, 0, 0), (187, .aload_n 0, 1, 0, 0, 0), (188, .bipush 12, 2, 0, 0, 12), (190, .invokevirtual 213, 3, 103, 1, 0), (193, .iastore, 1, 0, 0, 0), (194, .aload_n 0, 1, 0, 0, 0), (195, .bipush 64, 2, 0, 0, 64), (197, .iload 5, 2, 0, 0, 0), (199, .iconst 4, 1, 0, 0, 4), (200, .irem, 1, 0, 0, 0), (201, .iadd, 1, 0, 0, 0), (202, .invokevirtual 204, 3, 95, 1, 0), (205, .aload_n 0, 1, 0, 0, 0), (206, .aload_n 0, 1, 0, 0, 0), (207, .getfield 29, 3, 8, 8, 0), (210, .iload 5, 2, 0, 0, 0), (212, .iaload, 1, 0, 0, 0), (213, .invokevirtual 204, 3, 95, 1, 0), (216, .aload_n 0, 1, 0, 0, 0), (217, .aload_n 0, 1, 0, 0, 0), (218, .getfield 32, 3, 8, 9, 0), (221, .iload 5, 2, 0, 0, 0), (223, .iaload, 1, 0, 0, 0), (224, .invokevirtual 204, 3, 95, 1, 0), (227, .aload_n 0, 1, 0, 0, 0), (228, .aload_n 0, 1, 0, 0, 0), (229, .getfield 35, 3, 8, 10, 0), (232, .iload 5, 2, 0, 0, 0), (234, .iaload, 1, 0, 0, 0), (235, .invokevirtual 204, 3, 95, 1, 0), (238, .aload_n 0, 1, 0, 0, 0), (239, .iload 4, 2, 0, 0, 0), (241, .invokevirtual 204, 3, 95, 1, 0), (244, .aload_n 0, 1, 0, 0, 0), (245, .iload_n 1, 1, 0, 0, 0), (246, .invokevirtual 207, 3, 96, 1, 0), (249, .return_, 1, 0, 0, 0)]
def kc_X7_response : List ev_I := [(0, .aload_n 0, 1, 0, 0, 0), (1, .bipush 12, 2, 0, 0, 12), (3, .invokevirtual 213, 3, 103, 1, 0), (6, .ifCond .ne 44, 3, 50, 0, 0), (9, .aload_n 0, 1, 0, 0, 0), (10, .iconst 4, 1, 0, 0, 4), (11, .invokevirtual 213, 3, 103, 1, 0), (14, .bipush 64, 2, 0, 0, 64), (16, .bipush 127, 2, 0, 0, 127), (18, .invokestatic 155, 3, 81, 0, 0), (21, .ifCond .eq 29, 3, 50, 0, 0), (24, .aload_n 0, 1, 0, 0, 0), (25, .bipush 6, 2, 0, 0, 6), (27, .invokevirtual 213, 3, 103, 1, 0), (30, .bipush 23, 2, 0, 0, 23), (32, .if_icmp .lt 18, 3, 50, 0, 0), (35, .aload_n 0, 1, 0, 0, 0), (36, .bipush 8, 2, 0, 0, 8), (38, .invokevirtual 213, 3, 103, 1, 0), (41, .bipush 23, 2, 0, 0, 23), (43, .if_icmp .lt 7, 3, 50, 0, 0), (46, .iconst 1, 1, 0, 0, 1), (47, .goto 4, 3, 51, 0, 0), (50, .iconst 0, 1, 0, 0, 0), (51, .istore_n 2, 1, 0, 0, 0), (52, .iload_n 2, 1, 0, 0, 0), (53, .ifCond .ne 9, 3, 62, 0, 0), (56, .aload_n 0, 1, 0, 0, 0), (57, .iload_n 1, 1, 0, 0, 0), (58, .invokevirtual 220, 3, 100, 1, 0), (61, .return_, 1, 0, 0, 0), (62, .aload_n 0, 1, 0, 0, 0), (63, .getfield 26, 3, 8, 7, 0), (66, .iload_n 1, 1, 0, 0, 0), (67, .iconst 2, 1, 0, 0, 2), (68, .iastore, 1, 0, 0, 0), (69, .aload_n 0, 1, 0, 0, 0), (70, .getfield 74, 3, 8, 23, 0), (73, .iload_n 1, 1, 0, 0, 0), (74, .iconst 0, 1, 0, 0, 0), (75, .iastore, 1, 0, 0, 0), (76, .aload_n 0, 1, 0, 0, 0), (77, .getfield 38, 3, 8, 11, 0), (80, .iload_n 1, 1, 0, 0, 0), (81, .aload_n 0, 1, 0, 0, 0), (82, .iconst 4, 1, 0, 0, 4), (83, .invokevirtual 213, 3, 103, 1, 0), (86, .iastore, 1, 0, 0, 0), (87, .aload_n 0, 1, 0, 0, 0), (88, .getfield 41, 3, 8, 12, 0), (91, .iload_n 1, 1, 0, 0, 0), (92, .aload_n 0, 1, 0, 0, 0), (93, .bipush 6, 2, 0, 0, 6), (95, .invokevirtual 213, 3, 103, 1, 0), (98, .iastore, 1, 0, 0, 0), (99, .aload_n 0, 1, 0, 0, 0), (100, .getfield 44, 3, 8, 13, 0), (103, .iload_n 1, 1, 0, 0, 0), (104, .aload_n 0, 1, 0, 0, 0), (105, .bipush 8, 2, 0, 0, 8), (107, .invokevirtual 213, 3, 103, 1, 0), (110, .iastore, 1, 0, 0, 0), (111, .aload_n 0, 1, 0, 0, 0), (112, .getfield 47, 3, 8, 14, 0), (115, .iload_n 1, 1, 0, 0, 0), (116, .aload_n 0, 1, 0, 0, 0), (117, .bipush 10, 2, 0, 0, 10), (119, .invokevirtual 213, 3, 103, 1, 0), (122, .iastore, 1, 0, 0, 0), (123, .return_, 1, 0, 0, 0)]
def kc_X7_credit : List ev_I := [(0, .iconst 4, 1, 0, 0, 4), (1, .iload_n 1, 1, 0, 0, 0), (2, .imul, 1, 0, 0, 0), (3, .istore_n 2, 1, 0, 0, 0), (4, .iload_n 2, 1, 0, 0, 0), (5, .iconst 4, 1, 0, 0, 4), (6, .iload_n 1, 1, 0, 0, 0), (7, .imul, 1, 0, 0, 0), (8, .iconst 4, 1, 0, 0, 4), (9, .iadd, 1, 0, 0, 0), (10, .if_icmp .ge 81, 3, 91, 0, 0), (13, .aload_n 0, 1, 0, 0, 0), (14, .getfield 26, 3, 8, 7, 0), (17, .iload_n 2, 1, 0, 0, 0), (18, .iaload, 1, 0, 0, 0), (19, .iconst 2, 1, 0, 0, 2), (20, .if_icmp .ne 65, 3, 85, 0, 0), (23, .aload_n 0, 1, 0, 0, 0), (24, .getfield 38, 3, 8, 11, 0), (27, .iload_n 2, 1, 0, 0, 0), (28, .iaload, 1, 0, 0, 0), (29, .aload_n 0, 1, 0, 0, 0), (30, .iconst 4, 1, 0, 0, 4), (31, .invokevirtual 213, 3, 103, 1, 0), (34, .if_icmp .ne 51, 3, 85, 0, 0), (37, .aload_n 0, 1, 0, 0, 0), (38, .bipush 6, 2, 0, 0, 6), (40, .invokevirtual 213, 3, 103, 1, 0), (43, .istore_n 3, 1, 0, 0, 0), (44, .iload_n 3, 1, 0, 0, 0), (45, .ifCond .eq 16, 3, 61, 0, 0), (48, .aload_n 0, 1, 0, 0, 0), (49, .getfield 47, 3, 8, 14, 0), (52, .iload_n 2, 1, 0, 0, 0), (53, .iaload, 1, 0, 0, 0), (54, .iload_n 3, 1, 0, 0, 0), (55, .iadd, 1, 0, 0, 0), (56, .ldc 223, 2, 0, 0, 65535), (58, .if_icmp .le 12, 3, 70, 0, 0), (61, .aload_n 0, 1, 0, 0, 0), (62, .iload_n 1, 1, 0, 0, 0), (63, .iload_n 2, 1, 0, 0, 0), (64, .invokevirtual 224, 3, 99, 1, 0), (67, .goto 17, 3, 84, 0, 0), (70, .aload_n 0, 1, 0, 0, 0), (71, .getfield 47, 3, 8, 14, 0), (74, .iload_n 2, 1, 0, 0, 0), (75, .aload_n 0, 1, 0, 0, 0), (76, .getfield 47, 3, 8, 14, 0), (79, .iload_n 2, 1, 0, 0, 0), (80, .iaload, 1, 0, 0, 0), (81, .iload_n 3, 1, 0, 0, 0), (82, .iadd, 1, 0, 0, 0), (83, .iastore, 1, 0, 0, 0), (84, .return_, 1, 0, 0, 0), (85, .iinc 2 1, 3, 0, 0, 1), (88, .goto (-84), 3, 4, 0, 0), (91, .return_, 1, 0, 0, 0)]
def kc_X7_signal : List ev_I := [(0, .aload_n 0, 1, 0, 0, 0), (1, .getfield 141, 3, 8, 45, 0), (4, .iconst 1, 1, 0, 0, 1), (5, .iaload, 1, 0, 0, 0), (6, .istore_n 3, 1, 0, 0, 0), (7, .aload_n 0, 1, 0, 0, 0), (8, .iconst 2, 1, 0, 0, 2), (9, .invokevirtual 213, 3, 103, 1, 0), (12, .istore 4, 2, 0, 0, 0), (14, .aload_n 0, 1, 0, 0, 0), (15, .getfield 141, 3, 8, 45, 0), (18, .iconst 0, 1, 0, 0, 0), (19, .iaload, 1, 0, 0, 0), (20, .istore 5, 2, 0, 0, 0), (22, .iload_n 2, 1, 0, 0, 0), (23, .iconst 4, 1, 0, 0, 4), (24, .if_icmp .lt 7, 3, 31, 0, 0), (27, .iload_n 3, 1, 0, 0, 0), (28, .ifCond .ne 4, 3, 32, 0, 0), (31, .return_, 1, 0, 0, 0), (32, .iload 4, 2, 0, 0, 0), (34, .iload_n 2, 1, 0, 0, 0), (35, .iconst 4, 1, 0, 0, 4), (36, .isub, 1, 0, 0, 0), (37, .if_icmp .ne 13, 3, 50, 0, 0), (40, .iload 5, 2, 0, 0, 0), (42, .iload 4, 2, 0, 0, 0), (44, .invokestatic 227, 3, 104, 0, 0), (47, .ifCond .ne 12, 3, 59, 0, 0), (50, .aload_n 0, 1, 0, 0, 0), (51, .iload_n 1, 1, 0, 0, 0), (52, .iload_n 3, 1, 0, 0, 0), (53, .iconst 0, 1, 0, 0, 0), (54, .iconst 0, 1, 0, 0, 0), (55, .invokevirtual 231, 3, 102, 1, 0), (58, .return_, 1, 0, 0, 0), (59, .iload 5, 2, 0, 0, 0), (61, .bipush 20, 2, 0, 0, 20), (63, .if_icmp .ne 12, 3, 75, 0, 0), (66, .aload_n 0, 1, 0, 0, 0), (67, .iload_n 1, 1, 0, 0, 0), (68, .iload_n 3, 1, 0, 0, 0), (69, .invokevirtual 235, 3, 106, 1, 0), (72, .goto 226, 3, 298, 0, 0), (75, .iload 5, 2, 0, 0, 0), (77, .bipush 22, 2, 0, 0, 22), (79, .if_icmp .ne 11, 3, 90, 0, 0), (82, .aload_n 0, 1, 0, 0, 0), (83, .iload_n 1, 1, 0, 0, 0), (84, .invokevirtual 238, 3, 108, 1, 0), (87, .goto 211, 3, 298, 0, 0), (90, .iload 5, 2, 0, 0, 0), (92, .bipush 6, 2, 0, 0, 6), (94, .if_icmp .ne 121, 3, 215, 0, 0), (97, .aload_n 0, 1, 0, 0, 0), (98, .iconst 4, 1, 0, 0, 4), (99, .invokevirtual 213, 3, 103, 1, 0), (102, .bipush 64, 2, 0, 0, 64), (104, .isub, 1, 0, 0, 0), (105, .istore 6, 2, 0, 0, 0), (107, .iconst 4, 1, 0, 0, 4), (108, .iload_n 1, 1, 0, 0, 0), (109, .imul, 1, 0, 0, 0), (110, .iload 6, 2, 0, 0, 0), (112, .iadd, 1, 0, 0, 0), (113, .istore 7, 2, 0, 0, 0), (115, .iload 6, 2, 0, 0, 0), (117, .iconst 0, 1, 0, 0, 0), (118, .iconst 3, 1, 0, 0, 3), (119, .invokestatic 155, 3, 81, 0, 0), (122, .ifCond .eq 82, 3, 204, 0, 0), (125, .aload_n 0, 1, 0, 0, 0), (126, .getfield 26, 3, 8, 7, 0), (129, .iload 7, 2, 0, 0, 0), (131, .iaload, 1, 0, 0, 0), (132, .iconst 2, 1, 0, 0, 2), (133, .if_icmp .eq 14, 3, 147, 0, 0), (136, .aload_n 0, 1, 0, 0, 0), (137, .getfield 26, 3, 8, 7, 0), (140, .iload 7, 2, 0, 0, 0), (142, .iaload, 1, 0, 0, 0), (143, .iconst 3, 1, 0, 0, 3), (144, .if_icmp .ne 60, 3, 204, 0, 0), (147, .aload_n 0, 1, 0, 0, 0), (148, .getfield 38, 3, 8, 11, 0), (151, .iload 7, 2, 0, 0, 0), (153, .iaload, 1, 0, 0, 0), (154, .aload_n 0, 1, 0, 0, 0), (155, .bipush 6, 2, 0, 0, 6), (157, .invokevirtual 213, 3, 103, 1, 0), (160, .if_icmp .ne 44, 3, 204, 0, 0), (163, .aload_n 0, 1, 0, 0, 0), (164, .iload 7, 2, 0, 0, 0), (166, .invokevirtual 220, 3, 100, 1, 0), (169, .aload_n 0, 1, 0, 0, 0), (170, .bipush 7, 2, 0, 0, 7), (172, .iload_n 3, 1, 0, 0, 0), (173, .iconst 4, 1, 0, 0, 4), (174, .invokevirtual 201, 3, 94, 1, 0), (177, .aload_n 0, 1, 0, 0, 0), (178, .aload_n 0, 1, 0, 0, 0), (179, .iconst 4, 1, 0, 0, 4), (180, .invokevirtual 213, 3, 103, 1, 0), (183, .invokevirtual 204, 3, 95, 1, 0), (186, .aload_n 0, 1, 0, 0, 0), (187, .aload_n 0, 1, 0, 0, 0), (188, .bipush 6, 2, 0, 0, 6), (190, .invokevirtual 213, 3, 103, 1, 0), (193, .invokevirtual 204, 3, 95, 1, 0), (196, .aload_n 0, 1, 0, 0, 0), (197, .iload_n 1, 1, 0, 0, 0), (198, .invokevirtual 207, 3, 96, 1, 0), (201, .goto 11, 3, 212, 0, 0), (204, .aload_n 0, 1, 0, 0, 0), (205, .iload_n 1, 1, 0, 0, 0), (206, .iload_n 3, 1, 0, 0, 0), (207, .iconst 2, 1, 0, 0, 2), (208, .iconst 4, 1, 0, 0, 4), (209, .invokevirtual 231, 3, 102, 1, 0), (212, .goto 86, 3, 298, 0, 0), (215, .iload 5, 2, 0, 0, 0), (217, .bipush 7, 2, 0, 0, 7), (219, .if_icmp .ne 71, 3, 290, 0, 0), (222, .aload_n 0, 1, 0, 0, 0), (223, .bipush 6, 2, 0, 0, 6), (225, .invokevirtual 213, 3, 103, 1, 0), (228, .bipush 64, 2, 0, 0, 64), (230, .isub, 1, 0, 0, 0), (231, .istore 6, 2, 0, 0, 0), (233, .iload 6, 2, 0, 0, 0), (235, .iconst 0, 1, 0, 0, 0), (236, .iconst 3, 1, 0, 0, 3), (237, .invokestatic 155, 3, 81, 0, 0), (240, .ifCond .eq 47, 3, 287, 0, 0), (243, .aload_n 0, 1, 0, 0, 0), (244, .getfield 26, 3, 8, 7, 0), (247, .iconst 4, 1, 0, 0, 4), (248, .iload_n 1, 1, 0, 0, 0), (249, .imul, 1, 0, 0, 0), (250, .iload 6, 2, 0, 0, 0), (252, .iadd, 1, 0, 0, 0), (253, .iaload, 1, 0, 0, 0), (254, .iconst 3, 1, 0, 0, 3), (255, .if_icmp .ne 32, 3, 287, 0, 0), (258, .aload_n 0, 1, 0, 0, 0), (259, .getfield 38, 3, 8, 11, 0), (262, .iconst 4, 1, 0, 0, 4), (263, .iload_n 1, 1, 0, 0, 0), (264, .imul, 1, 0, 0, 0), (265, .iload 6, 2, 0, 0, 0), (267, .iadd, 1, 0, 0, 0), (268, .iaload, 1, 0, 0, 0), (269, .aload_n 0, 1, 0, 0, 0), (270, .iconst 4, 1, 0, 0, 4), (271, .invokevirtual 213, 3, 103, 1, 0), (274, .if_icmp .ne 13, 3, 287, 0, 0), (277, .aload_n 0, 1, 0, 0, 0), (278, .iconst 4, 1, 0, 0, 4), (279, .iload_n 1, 1, 0, 0, 0), (280, .imul, 1, 0, 0, 0), (281, .iload 6, 2, 0, 0, 0), (283, .iadd, 1, 0, 0, 0), (284, .invokevirtual 220, 3, 100, 1, 0), (287, .goto 11, 3, 298, 0, 0), (290, .aload_n 0, 1, 0, 0, 0), (291, .iload_n 1, 1, 0, 0, 0), (292, .iload_n 3, 1, 0, 0, 0), (293, .iload 5, 2, 0, 0, 0), (295, .invokevirtual 241, 3, 110, 1, 0), (298, .return_, 1, 0, 0, 0)]
def kc_X7_byId : List ev_I := [(0, .iconst 4, 1, 0, 0, 4), (1, .iload_n 1, 1, 0, 0, 0), (2, .imul, 1, 0, 0, 0), (3, .istore 4, 2, 0, 0, 0), (5, .iload 4, 2, 0, 0, 0), (7, .iconst 4, 1, 0, 0, 4), (8, .iload_n 1, 1, 0, 0, 0), (9, .imul, 1, 0, 0, 0), (10, .iconst 4, 1, 0, 0, 4), (11, .iadd, 1, 0, 0, 0), (12, .if_icmp .ge 89, 3, 101, 0, 0), (15, .aload_n 0, 1, 0, 0, 0), (16, .getfield 50, 3, 8, 15, 0), (19, .iload 4, 2, 0, 0, 0), (21, .iaload, 1, 0, 0, 0), (22, .iload_n 2, 1, 0, 0, 0), (23, .if_icmp .ne 27, 3, 50, 0, 0), (26, .aload_n 0, 1, 0, 0, 0), (27, .getfield 26, 3, 8, 7, 0), (30, .iload 4, 2, 0, 0, 0), (32, .iaload, 1, 0, 0, 0), (33, .iconst 1, 1, 0, 0, 1), (34, .if_icmp .ne 16, 3, 50, 0, 0), (37, .iload_n 3, 1, 0, 0, 0), (38, .bipush 21, 2, 0, 0, 21), (40, .if_icmp .ne 10, 3, 50, 0, 0), (43, .aload_n 0, 1, 0, 0, 0), (44, .iload 4, 2, 0, 0, 0), (46, .invokevirtual 244, 3, 107, 1, 0), (49, .return_, 1, 0, 0, 0), (50, .aload_n 0, 1, 0, 0, 0), (51, .getfield 50, 3, 8, 15, 0), (54, .iload 4, 2, 0, 0, 0), (56, .iaload, 1, 0, 0, 0), (57, .iload_n 2, 1, 0, 0, 0), (58, .if_icmp .ne 37, 3, 95, 0, 0), (61, .aload_n 0, 1, 0, 0, 0), (62, .getfield 26, 3, 8, 7, 0), (65, .iload 4, 2, 0, 0, 0), (67, .iaload, 1, 0, 0, 0), (68, .iconst 1, 1, 0, 0, 1), (69, .if_icmp .eq 14, 3, 83, 0, 0), (72, .aload_n 0, 1, 0, 0, 0), (73, .getfield 26, 3, 8, 7, 0), (76, .iload 4, 2, 0, 0, 0), (78, .iaload, 1, 0, 0, 0), (79, .iconst 3, 1, 0, 0, 3), (80, .if_icmp .ne 15, 3, 95, 0, 0), (83, .iload_n 3, 1, 0, 0, 0), (84, .iconst 1, 1, 0, 0, 1), (85, .if_icmp .ne 10, 3, 95, 0, 0), (88, .aload_n 0, 1, 0, 0, 0), (89, .iload 4, 2, 0, 0, 0), (91, .invokevirtual 220, 3, 100, 1, 0), (94, .return_, 1, 0, 0, 0), (95, .iinc 4 1, 3, 0, 0, 1), (98, .goto (-93), 3, 5, 0, 0), (101, .return_, 1, 0, 0, 0)]
def kc_X7_segment : List ev_I := [(0, .aload_n 0, 1, 0, 0, 0), (1, .getfield 35, 3, 8, 10, 0), (4, .iload_n 2, 1, 0, 0, 0), (5, .iaload, 1, 0, 0, 0), (6, .ifCond .eq 19, 3, 25, 0, 0), (9, .iload 4, 2, 0, 0, 0), (11, .ifCond .eq 14, 3, 25, 0, 0), (14, .iload 4, 2, 0, 0, 0), (16, .aload_n 0, 1, 0, 0, 0), (17, .getfield 32, 3, 8, 9, 0), (20, .iload_n 2, 1, 0, 0, 0), (21, .iaload, 1, 0, 0, 0), (22, .if_icmp .le 10, 3, 32, 0, 0), (25, .aload_n 0, 1, 0, 0, 0), (26, .iload_n 1, 1, 0, 0, 0), (27, .iload_n 2, 1, 0, 0, 0), (28, .invokevirtual 224, 3, 99, 1, 0), (31, .return_, 1, 0, 0, 0), (32, .aload_n 0, 1, 0, 0, 0), (33, .getfield 35, 3, 8, 10, 0), (36, .iload_n 2, 1, 0, 0, 0), (37, .dup2, 1, 0, 0, 0), (38, .iaload, 1, 0, 0, 0), (39, .iconst 1, 1, 0, 0, 1), (40, .isub, 1, 0, 0, 0), (41, .iastore, 1, 0, 0, 0), (42, .iload_n 3, 1, 0, 0, 0), (43, .istore 5, 2, 0, 0, 0), (45, .iload 4, 2, 0, 0, 0), (47, .istore 6, 2, 0, 0, 0), (49, .aload_n 0, 1, 0, 0, 0), (50, .getfield 65, 3, 8, 20, 0), (53, .iload_n 2, 1, 0, 0, 0), (54, .iaload, 1, 0, 0, 0), (55, .ifCond .ge 86, 3, 141, 0, 0), (58, .iload 4, 2, 0, 0, 0), (60, .iconst 2, 1, 0, 0, 2), (61, .if_icmp .ge 7, 3, 68, 0, 0), (64, .iconst 0, 1, 0, 0, 0), (65, .goto 23, 3, 88, 0, 0), (68, .aload_n 0, 1, 0, 0, 0), (69, .getfield 129, 3, 8, 41, 0), (72, .iload 5, 2, 0, 0, 0), (74, .iaload, 1, 0, 0, 0), (75, .aload_n 0, 1, 0, 0, 0), (76, .getfield 129, 3, 8, 41, 0), (79, .iload 5, 2, 0, 0, 0), (81, .iconst 1, 1, 0, 0, 1), (82, .iadd, 1, 0, 0, 0), (83, .iaload, 1, 0, 0, 0), (84, .bipush 8, 2, 0, 0, 8), (86, .ishl, 1, 0, 0, 0), (87, .ior, 1, 0, 0, 0), (88, .istore 7, 2, 0, 0, 0), (90, .iload 4, 2, 0, 0, 0), (92, .iconst 2, 1, 0, 0, 2), (93, .if_icmp .lt 14, 3, 107, 0, 0), (96, .iload 7, 2, 0, 0, 0), (98, .aload_n 0, 1, 0, 0, 0), (99, .getfield 29, 3, 8, 8, 0), (102, .iload_n 2, 1, 0, 0, 0), (103, .iaload, 1, 0, 0, 0), (104, .if_icmp .le 10, 3, 114, 0, 0), (107, .aload_n 0, 1, 0, 0, 0), (108, .iload_n 1, 1, 0, 0, 0), (109, .iload_n 2, 1, 0, 0, 0), (110, .invokevirtual 224, 3, 99, 1, 0), (113, .return_, 1, 0, 0, 0), (114, .aload_n 0, 1, 0, 0, 0), (115, .getfield 65, 3, 8, 20, 0), (118, .iload_n 2, 1, 0, 0, 0), (119, .iload 7, 2, 0, 0, 0), (121, .iastore, 1, 0, 0, 0), (122, .aload_n 0, 1, 0, 0, 0), (123, .getfield 68, 3, 8, 21, 0), (126, .iload_n 2, 1, 0, 0, 0), (127, .iconst 0, 1, 0, 0, 0), (128, .iastore, 1, 0, 0, 0), (129, .iload 5, 2, 0, 0, 0), (131, .iconst 2, 1, 0, 0, 2), (132, .iadd, 1, 0, 0, 0), (133, .istore 5, 2, 0, 0, 0), (135, .iload 6, 2, 0, 0, 0), (137, .iconst 2, 1, 0, 0, 2), (138, .isub, 1, 0, 0, 0), (139, .istore 6, 2, 0, 0, 0), (141, .aload_n 0, 1, 0, 0, 0), (142, .getfield 68, 3, 8, 21, 0), (145, .iload_n 2, 1, 0, 0, 0), (146, .iaload, 1, 0, 0, 0), (147, .iload 6, 2, 0, 0, 0), (149, .iadd, 1, 0, 0, 0), (150, .aload_n 0, 1, 0, 0, 0), (151, .getfield 65, 3, 8, 20, 0), (154, .iload_n 2, 1, 0, 0, 0), (155, .iaload, 1, 0, 0, 0), (156, .if_icmp .gt 31, 3, 187, 0, 0), (159, .aload_n 0, 1, 0, 0, 0), (160, .getfield 68, 3, 8, 21, 0), (163, .iload_n 2, 1, 0, 0, 0), (164, .iaload, 1, 0, 0, 0), (165, .iload 6, 2, 0, 0, 0), (167, .iadd, 1, 0, 0, 0), (168, .aload_n 0, 1, 0, 0, 0), (169, .getfield 65, 3, 8, 20, 0), (172, .iload_n 2, 1, 0, 0, 0), (173, .iaload, 1, 0, 0, 0), (174, .if_icmp .ne 20, 3, 194, 0, 0), (177, .aload_n 0, 1, 0, 0, 0), (178, .getfield 74, 3, 8, 23, 0), (181, .iload_n 2, 1, 0, 0, 0), (182, .iaload, 1, 0, 0, 0), (183, .iconst 4, 1, 0, 0, 4), (184, .if_icmp .ne 10, 3, 194, 0, 0), (187, .aload_n 0, 1, 0, 0, 0), (188, .iload_n 1, 1, 0, 0, 0), (189, .iload_n 2, 1, 0, 0, 0), (190, .invokevirtual 224, 3, 99, 1, 0), (193, .return_, 1, 0, 0, 0), (194, .iconst 0, 1, 0, 0, 0), (195, .istore 7, 2, 0, 0, 0), (197, .iload 7, 2, 0, 0, 0), (199, .iload 6, 2, 0, 0, 0), (201, .if_icmp .ge 39, 3, 240, 0, 0), (204, .aload_n 0, 1, 0, 0, 0), (205, .getfield 71, 3, 8, 22, 0), (208, .sipush 128, 3, 0, 0, 128), (211, .iload_n 2, 1, 0, 0, 0), (212, .imul, 1, 0, 0, 0), (213, .aload_n 0, 1, 0, 0, 0), (214, .getfield 68, 3, 8, 21, 0), (217, .iload_n 2, 1, 0, 0, 0), (218, .iaload, 1, 0, 0, 0), (219, .iadd, 1, 0, 0, 0), (220, .iload 7, 2, 0, 0, 0), (222, .iadd, 1, 0, 0, 0), (223, .aload_n 0, 1, 0, 0, 0), (224, .getfield 129, 3, 8, 41, 0), (227, .iload 5, 2, 0, 0, 0), (229, .iload 7, 2, 0, 0, 0), (231, .iadd, 1, 0, 0, 0), (232, .iaload, 1, 0, 0, 0), (233, .iastore, 1, 0, 0, 0), (234, .iinc 7 1, 3, 0, 0, 1), (237, .goto (-40), 3, 197, 0, 0), (240, .aload_n 0, 1, 0, 0, 0), (241, .getfield 68, 3, 8, 21, 0), (244, .iload_n 2, 1, 0, 0, 0), (245, .aload_n 0, 1, 0, 0, 0), (246, .getfield 68, 3, 8, 21, 0), (249, .iload_n 2, 1, 0, 0, 0), (250, .iaload, 1, 0, 0, 0), (251, .iload 6, 2, 0, 0, 0), (253, .iadd, 1, 0, 0, 0), (254, .iastore, 1, 0, 0, 0), (255, .aload_n 0, 1, 0, 0, 0), (256, .getfield 68, 3, 8, 21, 0), (259, .iload_n 2, 1, 0, 0, 0), (260, .iaload, 1, 0, 0, 0), (261, .aload_n 0, 1, 0, 0, 0), (262, .getfield 65, 3, 8, 20, 0), (265, .iload_n 2, 1, 0, 0, 0), (266, .iaload, 1, 0, 0, 0), (267, .if_icmp .ne 99, 3, 366, 0, 0), (270, .iconst 4, 1, 0, 0, 4), (271, .iload_n 2, 1, 0, 0, 0), (272, .imul, 1, 0, 0, 0), (273, .aload_n 0, 1, 0, 0, 0), (274, .getfield 74, 3, 8, 23, 0), (277, .iload_n 2, 1, 0, 0, 0), (278, .iaload, 1, 0, 0, 0), (279, .iadd, 1, 0, 0, 0), (280, .istore 7, 2, 0, 0, 0), (282, .aload_n 0, 1, 0, 0, 0), (283, .getfield 77, 3, 8, 24, 0), (286, .iload 7, 2, 0, 0, 0), (288, .aload_n 0, 1, 0, 0, 0), (289, .getfield 65, 3, 8, 20, 0), (292, .iload_n 2, 1, 0, 0, 0), (293, .iaload, 1, 0, 0, 0), (294, .iastore, 1, 0, 0, 0), (295, .iconst 0, 1, 0, 0, 0), (296, .istore 8, 2, 0, 0, 0), (298, .iload 8, 2, 0, 0, 0), (300, .aload_n 0, 1, 0, 0, 0), (301, .getfield 65, 3, 8, 20, 0), (304, .iload_n 2, 1, 0, 0, 0), (305, .iaload, 1, 0, 0, 0), (306, .if_icmp .ge 36, 3, 342, 0, 0), (309, .aload_n 0, 1, 0, 0, 0), (310, .getfield 80, 3, 8, 25, 0), (313, .sipush 128, 3, 0, 0, 128), (316, .iload 7, 2, 0, 0, 0), (318, .imul, 1, 0, 0, 0), (319, .iload 8, 2, 0, 0, 0), (321, .iadd, 1, 0, 0, 0), (322, .aload_n 0, 1, 0, 0, 0), (323, .getfield 71, 3, 8, 22, 0), (326, .sipush 128, 3, 0, 0, 128), (329, .iload_n 2, 1, 0, 0, 0), (330, .imul, 1, 0, 0, 0), (331, .iload 8, 2, 0, 0, 0), (333, .iadd, 1, 0, 0, 0), (334, .iaload, 1, 0, 0, 0), (335, .iastore, 1, 0, 0, 0), (336, .iinc 8 1, 3, 0, 0, 1), (339, .goto (-41), 3, 298, 0, 0), (342, .aload_n 0, 1, 0, 0, 0), (343, .getfield 74, 3, 8, 23, 0), (346, .iload_n 2, 1, 0, 0, 0), (347, .dup2, 1, 0, 0, 0), (348, .iaload, 1, 0, 0, 0), (349, .iconst 1, 1, 0, 0, 1), (350, .iadd, 1, 0, 0, 0), (351, .iastore, 1, 0, 0, 0), (352, .aload_n 0, 1, 0, 0, 0), (353, .getfield 65, 3, 8, 20, 0), (356, .iload_n 2, 1, 0, 0, 0), (357, .iconst (-1), 1, 0, 0, (-1)), (358, .iastore, 1, 0, 0, 0), (359, .aload_n 0, 1, 0, 0, 0), (360, .getfield 68, 3, 8, 21, 0), (363, .iload_n 2, 1, 0, 0, 0), (364, .iconst 0, 1, 0, 0, 0), (365, .iastore, 1, 0, 0, 0), (366, .return_, 1, 0, 0, 0)]
def kc_X7_unit : List ev_I := [(0, .aload_n 0, 1, 0, 0, 0), (1, .getfield 132, 3, 8, 42, 0), (4, .iload_n 1, 1, 0, 0, 0), (5, .dup2, 1, 0, 0, 0), (6, .iaload, 1, 0, 0, 0), (7, .iconst 1, 1, 0, 0, 1), (8, .iadd, 1, 0, 0, 0), (9, .iastore, 1, 0, 0, 0), (10, .sipush 160, 3, 0, 0, 160), (13, .iload_n 1, 1, 0, 0, 0), (14, .imul, 1, 0, 0, 0), (15, .istore_n 2, 1, 0, 0, 0), (16, .aload_n 0, 1, 0, 0, 0), (17, .getfield 126, 3, 8, 40, 0), (20, .iload_n 1, 1, 0, 0, 0), (21, .iaload, 1, 0, 0, 0), (22, .iconst 4, 1, 0, 0, 4), (23, .isub, 1, 0, 0, 0), (24, .istore_n 3, 1, 0, 0, 0), (25, .aload_n 0, 1, 0, 0, 0), (26, .getfield 129, 3, 8, 41, 0), (29, .iload_n 2, 1, 0, 0, 0), (30, .iconst 2, 1, 0, 0, 2), (31, .iadd, 1, 0, 0, 0), (32, .iaload, 1, 0, 0, 0), (33, .aload_n 0, 1, 0, 0, 0), (34, .getfield 129, 3, 8, 41, 0), (37, .iload_n 2, 1, 0, 0, 0), (38, .iconst 3, 1, 0, 0, 3), (39, .iadd, 1, 0, 0, 0), (40, .iaload, 1, 0, 0, 0), (41, .bipush 8, 2, 0, 0, 8), (43, .ishl, 1, 0, 0, 0), (44, .ior, 1, 0, 0, 0), (45, .istore 4, 2, 0, 0, 0), (47, .aload_n 0, 1, 0, 0, 0), (48, .getfield 126, 3, 8, 40, 0), (51, .iload_n 1, 1, 0, 0, 0), (52, .iconst 0, 1, 0, 0, 0), (53, .iastore, 1, 0, 0, 0), (54, .iload 4, 2, 0, 0, 0), (56, .iconst 5, 1, 0, 0, 5), (57, .if_icmp .ne 56, 3, 113, 0, 0), (60, .iconst 0, 1, 0, 0, 0), (61, .istore 5, 2, 0, 0, 0), (63, .iload 5, 2, 0, 0, 0), (65, .bipush 32, 2, 0, 0, 32), (67, .if_icmp .ge 37, 3, 104, 0, 0), (70, .aload_n 0, 1, 0, 0, 0), (71, .getfield 141, 3, 8, 45, 0), (74, .iload 5, 2, 0, 0, 0), (76, .iload 5, 2, 0, 0, 0), (78, .iload_n 3, 1, 0, 0, 0), (79, .if_icmp .ge 17, 3, 96, 0, 0), (82, .aload_n 0, 1, 0, 0, 0), (83, .getfield 129, 3, 8, 41, 0), (86, .iload_n 2, 1, 0, 0, 0), (87, .iconst 4, 1, 0, 0, 4), (88, .iadd, 1, 0, 0, 0), (89, .iload 5, 2, 0, 0, 0), (91, .iadd, 1, 0, 0, 0), (92, .iaload, 1, 0, 0, 0), (93, .goto 4, 3, 97, 0, 0), (96, .iconst 0, 1, 0, 0, 0), (97, .iastore, 1, 0, 0, 0), (98, .iinc 5 1, 3, 0, 0, 1), (101, .goto (-38), 3, 63, 0, 0), (104, .aload_n 0, 1, 0, 0, 0), (105, .iload_n 1, 1, 0, 0, 0), (106, .iload_n 3, 1, 0, 0, 0), (107, .invokevirtual 247, 3, 109, 1, 0), (110, .goto 64, 3, 174, 0, 0), (113, .iload 4, 2, 0, 0, 0), (115, .bipush 64, 2, 0, 0, 64), (117, .bipush 67, 2, 0, 0, 67), (119, .invokestatic 155, 3, 81, 0, 0), (122, .ifCond .eq 42, 3, 164, 0, 0), (125, .aload_n 0, 1, 0, 0, 0), (126, .getfield 26, 3, 8, 7, 0), (129, .iconst 4, 1, 0, 0, 4), (130, .iload_n 1, 1, 0, 0, 0), (131, .imul, 1, 0, 0, 0), (132, .iload 4, 2, 0, 0, 0), (134, .iadd, 1, 0, 0, 0), (135, .bipush 64, 2, 0, 0, 64), (137, .isub, 1, 0, 0, 0), (138, .iaload, 1, 0, 0, 0), (139, .iconst 2, 1, 0, 0, 2), (140, .if_icmp .ne 24, 3, 164, 0, 0), (143, .aload_n 0, 1, 0, 0, 0), (144, .iload_n 1, 1, 0, 0, 0), (145, .iconst 4, 1, 0, 0, 4), (146, .iload_n 1, 1, 0, 0, 0), (147, .imul, 1, 0, 0, 0), (148, .iload 4, 2, 0, 0, 0), (150, .iadd, 1, 0, 0, 0), (151, .bipush 64, 2, 0, 0, 64), (153, .isub, 1, 0, 0, 0), (154, .iload_n 2, 1, 0, 0, 0), (155, .iconst 4, 1, 0, 0, 4), (156, .iadd, 1, 0, 0, 0), (157, .iload_n 3, 1, 0, 0, 0), (158, .invokevirtual 250, 3, 111, 1, 0), (161, .goto 13, 3, 174, 0, 0), (164, .aload_n 0, 1, 0, 0, 0), (165, .getfield 135, 3, 8, 43, 0), (168, .iload_n 1, 1, 0, 0, 0), (169, .dup2, 1, 0, 0, 0), (170, .iaload, 1, 0, 0, 0), (171, .iconst 1, 1, 0, 0, 1), (172, .iadd, 1, 0, 0, 0), (173, .iastore, 1, 0, 0, 0), (174, .return_, 1, 0, 0, 0)]
def kc_X7_shift : List ev_I := [(0, .bipush 32, 2, 0, 0, 32), (2, .iload_n 1, 1, 0, 0, 0), (3, .imul, 1, 0, 0, 0), (4, .istore_n 2, 1, 0, 0, 0), (5, .aload_n 0, 1, 0, 0, 0), (6, .getfield 114, 3, 8, 36, 0), (9, .iload_n 2, 1, 0, 0, 0), (10, .iaload, 1, 0, 0, 0), (11, .istore_n 3, 1, 0, 0, 0), (12, .iconst 0, 1, 0, 0, 0), (13, .istore 4, 2, 0, 0, 0), (15, .iload 4, 2, 0, 0, 0), (17, .iload_n 3, 1, 0, 0, 0), (18, .if_icmp .ge 28, 3, 46, 0, 0), (21, .aload_n 0, 1, 0, 0, 0), (22, .getfield 141, 3, 8, 45, 0), (25, .iload 4, 2, 0, 0, 0), (27, .aload_n 0, 1, 0, 0, 0), (28, .getfield 123, 3, 8, 39, 0), (31, .bipush 27, 2, 0, 0, 27), (33, .iload_n 2, 1, 0, 0, 0), (34, .imul, 1, 0, 0, 0), (35, .iload 4, 2, 0, 0, 0), (37, .iadd, 1, 0, 0, 0), (38, .iaload, 1, 0, 0, 0), (39, .iastore, 1, 0, 0, 0), (40, .iinc 4 1, 3, 0, 0, 1), (43, .goto (-28), 3, 15, 0, 0), (46, .aload_n 0, 1, 0, 0, 0), (47, .getfield 111, 3, 8, 35, 0), (50, .iload_n 1, 1, 0, 0, 0), (51, .dup2, 1, 0, 0, 0), (52, .iaload, 1, 0, 0, 0), (53, .iconst 1, 1, 0, 0, 1), (54, .isub, 1, 0, 0, 0), (55, .iastore, 1, 0, 0, 0), (56, .iload_n 2, 1, 0, 0, 0), (57, .istore 4, 2, 0, 0, 0), (59, .iload 4, 2, 0, 0, 0), (61, .iload_n 2, 1, 0, 0, 0), (62, .aload_n 0, 1, 0, 0, 0), (63, .getfield 111, 3, 8, 35, 0), (66, .iload_n 1, 1, 0, 0, 0), (67, .iaload, 1, 0, 0, 0), (68, .iadd, 1, 0, 0, 0), (69, .if_icmp .ge 102, 3, 171, 0, 0), (72, .aload_n 0, 1, 0, 0, 0), (73, .getfield 114, 3, 8, 36, 0), (76, .iload 4, 2, 0, 0, 0), (78, .aload_n 0, 1, 0, 0, 0), (79, .getfield 114, 3, 8, 36, 0), (82, .iload 4, 2, 0, 0, 0), (84, .iconst 1, 1, 0, 0, 1), (85, .iadd, 1, 0, 0, 0), (86, .iaload, 1, 0, 0, 0), (87, .iastore, 1, 0, 0, 0), (88, .aload_n 0, 1, 0, 0, 0), (89, .getfield 117, 3, 8, 37, 0), (92, .iload 4, 2, 0, 0, 0), (94, .aload_n 0, 1, 0, 0, 0), (95, .getfield 117, 3, 8, 37, 0), (98, .iload 4, 2, 0, 0, 0), (100, .iconst 1, 1, 0, 0, 1), (101, .iadd, 1, 0, 0, 0), (102, .baload, 1, 0, 0, 0), (103, .bastore, 1, 0, 0, 0), (104, .aload_n 0, 1, 0, 0, 0), (105, .getfield 120, 3, 8, 38, 0), (108, .iload 4, 2, 0, 0, 0), (110, .aload_n 0, 1, 0, 0, 0), (111, .getfield 120, 3, 8, 38, 0), (114, .iload 4, 2, 0, 0, 0), (116, .iconst 1, 1, 0, 0, 1), (117, .iadd, 1, 0, 0, 0), (118, .baload, 1, 0, 0, 0), (119, .bastore, 1, 0, 0, 0), (120, .iconst 0, 1, 0, 0, 0), (121, .istore 5, 2, 0, 0, 0), (123, .iload 5, 2, 0, 0, 0), (125, .bipush 27, 2, 0, 0, 27), (127, .if_icmp .ge 38, 3, 165, 0, 0), (130, .aload_n 0, 1, 0, 0, 0), (131, .getfield 123, 3, 8, 39, 0), (134, .bipush 27, 2, 0, 0, 27), (136, .iload 4, 2, 0, 0, 0), (138, .imul, 1, 0, 0, 0), (139, .iload 5, 2, 0, 0, 0), (141, .iadd, 1, 0, 0, 0), (142, .aload_n 0, 1, 0, 0, 0), (143, .getfield 123, 3, 8, 39, 0), (146, .bipush 27, 2, 0, 0, 27), (148, .iload 4, 2, 0, 0, 0), (150, .imul, 1, 0, 0, 0), (151, .bipush 27, 2, 0, 0, 27), (153, .iadd, 1, 0, 0, 0), (154, .iload 5, 2, 0, 0, 0), (156, .iadd, 1, 0, 0, 0), (157, .iaload, 1, 0, 0, 0), (158, .iastore, 1, 0, 0, 0), (159, .iinc 5 1, 3, 0, 0, 1), (162, .goto (-39), 3, 123, 0, 0), (165, .iinc 4 1, 3, 0, 0, 1), (168, .goto (-109), 3, 59, 0, 0), (171, .iload_n 3, 1, 0, 0, 0), (172, .ireturn, 1, 0, 0, 0)]
def kc_X7_gather : List ev_I := [(0, .iload_n 3, 1, 0, 0, 0), (1, .ifCond .eq 45, 3, 46, 0, 0), (4, .aload_n 0, 1, 0, 0, 0), (5, .getfield 135, 3, 8, 43, 0), (8, .iload_n 1, 1, 0, 0, 0), (9, .aload_n 0, 1, 0, 0, 0), (10, .getfield 126, 3, 8, 40, 0), (13, .iload_n 1, 1, 0, 0, 0), (14, .iaload, 1, 0, 0, 0), (15, .ifCond .le 14, 3, 29, 0, 0), (18, .aload_n 0, 1, 0, 0, 0), (19, .getfield 135, 3, 8, 43, 0), (22, .iload_n 1, 1, 0, 0, 0), (23, .iaload, 1, 0, 0, 0), (24, .iconst 1, 1, 0, 0, 1), (25, .iadd, 1, 0, 0, 0), (26, .goto 9, 3, 35, 0, 0), (29, .aload_n 0, 1, 0, 0, 0), (30, .getfield 135, 3, 8, 43, 0), (33, .iload_n 1, 1, 0, 0, 0), (34, .iaload, 1, 0, 0, 0), (35, .iastore, 1, 0, 0, 0), (36, .aload_n 0, 1, 0, 0, 0), (37, .getfield 126, 3, 8, 40, 0), (40, .iload_n 1, 1, 0, 0, 0), (41, .iconst 0, 1, 0, 0, 0), (42, .iastore, 1, 0, 0, 0), (43, .goto 55, 3, 98, 0, 0), (46, .aload_n 0, 1, 0, 0, 0), (47, .getfield 126, 3, 8, 40, 0), (50, .iload_n 1, 1, 0, 0, 0), (51, .iaload, 1, 0, 0, 0), (52, .ifCond .ne 14, 3, 66, 0, 0), (55, .aload_n 0, 1, 0, 0, 0), (56, .getfield 135, 3, 8, 43, 0), (59, .iload_n 1, 1, 0, 0, 0), (60, .dup2, 1, 0, 0, 0), (61, .iaload, 1, 0, 0, 0), (62, .iconst 1, 1, 0, 0, 1), (63, .iadd, 1, 0, 0, 0), (64, .iastore, 1, 0, 0, 0), (65, .return_, 1, 0, 0, 0), (66, .aload_n 0, 1, 0, 0, 0), (67, .getfield 126, 3, 8, 40, 0), (70, .iload_n 1, 1, 0, 0, 0), (71, .iaload, 1, 0, 0, 0), (72, .iload_n 2, 1, 0, 0, 0), (73, .iadd, 1, 0, 0, 0), (74, .sipush 128, 3, 0, 0, 128), (77, .if_icmp .le 21, 3, 98, 0, 0), (80, .aload_n 0, 1, 0, 0, 0), (81, .getfield 126, 3, 8, 40, 0), (84, .iload_n 1, 1, 0, 0, 0), (85, .iconst 0, 1, 0, 0, 0), (86, .iastore, 1, 0, 0, 0), (87, .aload_n 0, 1, 0, 0, 0), (88, .getfield 135, 3, 8, 43, 0), (91, .iload_n 1, 1, 0, 0, 0), (92, .dup2, 1, 0, 0, 0), (93, .iaload, 1, 0, 0, 0), (94, .iconst 1, 1, 0, 0, 1), (95, .iadd, 1, 0, 0, 0), (96, .iastore, 1, 0, 0, 0), (97, .return_, 1, 0, 0, 0), (98, .sipush 160, 3, 0, 0, 160), (101, .iload_n 1, 1, 0, 0, 0), (102, .imul, 1, 0, 0, 0), (103, .istore 4, 2, 0, 0, 0), (105, .iconst 0, 1, 0, 0, 0), (106, .istore 5, 2, 0, 0, 0), (108, .iload 5, 2, 0, 0, 0), (110, .iload_n 2, 1, 0, 0, 0), (111, .if_icmp .ge 33, 3, 144, 0, 0), (114, .aload_n 0, 1, 0, 0, 0), (115, .getfield 129, 3, 8, 41, 0), (118, .iload 4, 2, 0, 0, 0), (120, .aload_n 0, 1, 0, 0, 0), (121, .getfield 126, 3, 8, 40, 0), (124, .iload_n 1, 1, 0, 0, 0), (125, .iaload, 1, 0, 0, 0), (126, .iadd, 1, 0, 0, 0), (127, .iload 5, 2, 0, 0, 0), (129, .iadd, 1, 0, 0, 0), (130, .aload_n 0, 1, 0, 0, 0), (131, .getfield 141, 3, 8, 45, 0), (134, .iload 5, 2, 0, 0, 0), (136, .iaload, 1, 0, 0, 0), (137, .iastore, 1, 0, 0, 0), (138, .iinc 5 1, 3, 0, 0, 1), (141, .goto (-33), 3, 108, 0, 0), (144, .aload_n 0, 1, 0, 0, 0), (145, .getfield 126, 3, 8, 40, 0), (148, .iload_n 1, 1, 0, 0, 0), (149, .aload_n 0, 1, 0, 0, 0), (150, .getfield 126, 3, 8, 40, 0), (153, .iload_n 1, 1, 0, 0, 0), (154, .iaload, 1, 0, 0, 0), (155, .iload_n 2, 1, 0, 0, 0), (156, .iadd, 1, 0, 0, 0), (157, .iastore, 1, 0, 0, 0), (158, .aload_n 0, 1, 0, 0, 0), (159, .getfield 126, 3, 8, 40, 0), (162, .iload_n 1, 1, 0, 0, 0), (163, .iaload, 1, 0, 0, 0), (164, .iconst 4, 1, 0, 0, 4), (165, .if_icmp .ge 8, 3, 173, 0, 0), (168, .ldc 223, 2, 0, 0, 65535), (170, .goto 23, 3, 193, 0, 0), (173, .aload_n 0, 1, 0, 0, 0), (174, .getfield 129, 3, 8, 41, 0), (177, .iload 4, 2, 0, 0, 0), (179, .iaload, 1, 0, 0, 0), (180, .aload_n 0, 1, 0, 0, 0), (181, .getfield 129, 3, 8, 41, 0), (184, .iload 4, 2, 0, 0, 0), (186, .iconst 1, 1, 0, 0, 1), (187, .iadd, 1, 0, 0, 0), (188, .iaload, 1, 0, 0, 0), (189, .bipush 8, 2, 0, 0, 8), (191, .ishl, 1, 0, 0, 0), (192, .ior, 1, 0, 0, 0), (193, .istore 5, 2, 0, 0, 0), (195, .aload_n 0, 1, 0, 0, 0), (196, .getfield 126, 3, 8, 40, 0), (199, .iload_n 1, 1, 0, 0, 0), (200, .iaload, 1, 0, 0, 0), (201, .iconst 4, 1, 0, 0, 4), (202, .isub, 1, 0, 0, 0), (203, .iload 5, 2, 0, 0, 0), (205, .if_icmp .ne 11, 3, 216, 0, 0), (208, .aload_n 0, 1, 0, 0, 0), (209, .iload_n 1, 1, 0, 0, 0), (210, .invokevirtual 253, 3, 112, 1, 0), (213, .goto 43, 3, 256, 0, 0), (216, .aload_n 0, 1, 0, 0, 0), (217, .getfield 126, 3, 8, 40, 0), (220, .iload_n 1, 1, 0, 0, 0), (221, .iaload, 1, 0, 0, 0), (222, .iconst 3, 1, 0, 0, 3), (223, .if_icmp .le 33, 3, 256, 0, 0), (226, .aload_n 0, 1, 0, 0, 0), (227, .getfield 126, 3, 8, 40, 0), (230, .iload_n 1, 1, 0, 0, 0), (231, .iaload, 1, 0, 0, 0), (232, .iconst 4, 1, 0, 0, 4), (233, .isub, 1, 0, 0, 0), (234, .iload 5, 2, 0, 0, 0), (236, .if_icmp .le 20, 3, 256, 0, 0), (239, .aload_n 0, 1, 0, 0, 0), (240, .getfield 126, 3, 8, 40, 0), (243, .iload_n 1, 1, 0, 0, 0), (244, .iconst 0, 1, 0, 0, 0), (245, .iastore, 1, 0, 0, 0), (246, .aload_n 0, 1, 0, 0, 0), (247, .getfield 135, 3, 8, 43, 0), (250, .iload_n 1, 1, 0, 0, 0), (251, .dup2, 1, 0, 0, 0), (252, .iaload, 1, 0, 0, 0), (253, .iconst 1, 1, 0, 0, 1), (254, .iadd, 1, 0, 0, 0), (255, .iastore, 1, 0, 0, 0), (256, .return_, 1, 0, 0, 0)]
def kc_X7_take : List ev_I := [(0, .aload_n 0, 1, 0, 0, 0), (1, .iload_n 1, 1, 0, 0, 0), (2, .invokestatic 151, 3, 82, 0, 0), (5, .ifCond .eq 7, 3, 12, 0, 0), (8, .iconst 0, 1, 0, 0, 0), (9, .goto 4, 3, 13, 0, 0), (12, .iconst 1, 1, 0, 0, 1), (13, .invokevirtual 256, 3, 80, 1, 0), (16, .ifCond .eq 5, 3, 21, 0, 0), (19, .iconst 0, 1, 0, 0, 0), (20, .ireturn, 1, 0, 0, 0), (21, .aload_n 0, 1, 0, 0, 0), (22, .getfield 111, 3, 8, 35, 0), (25, .iload_n 1, 1, 0, 0, 0), (26, .iaload, 1, 0, 0, 0), (27, .ifCond .ne 5, 3, 32, 0, 0), (30, .iconst (-1), 1, 0, 0, (-1)), (31, .ireturn, 1, 0, 0, 0), (32, .aload_n 0, 1, 0, 0, 0), (33, .getfield 117, 3, 8, 37, 0), (36, .bipush 32, 2, 0, 0, 32), (38, .iload_n 1, 1, 0, 0, 0), (39, .imul, 1, 0, 0, 0), (40, .baload, 1, 0, 0, 0), (41, .istore_n 2, 1, 0, 0, 0), (42, .aload_n 0, 1, 0, 0, 0), (43, .iload_n 1, 1, 0, 0, 0), (44, .invokevirtual 259, 3, 113, 1, 0), (47, .istore_n 3, 1, 0, 0, 0), (48, .aload_n 0, 1, 0, 0, 0), (49, .iload_n 1, 1, 0, 0, 0), (50, .iload_n 3, 1, 0, 0, 0), (51, .iload_n 2, 1, 0, 0, 0), (52, .invokevirtual 262, 3, 114, 1, 0), (55, .aload_n 0, 1, 0, 0, 0), (56, .invokevirtual 266, 3, 93, 1, 0), (59, .iload_n 3, 1, 0, 0, 0), (60, .ireturn, 1, 0, 0, 0)]
def kc_X7_lose : List ev_I := [(0, .aload_n 0, 1, 0, 0, 0), (1, .iload_n 1, 1, 0, 0, 0), (2, .invokestatic 151, 3, 82, 0, 0), (5, .ifCond .eq 7, 3, 12, 0, 0), (8, .iconst 0, 1, 0, 0, 0), (9, .goto 4, 3, 13, 0, 0), (12, .iconst 1, 1, 0, 0, 1), (13, .invokevirtual 256, 3, 80, 1, 0), (16, .ifCond .eq 5, 3, 21, 0, 0), (19, .iconst 0, 1, 0, 0, 0), (20, .ireturn, 1, 0, 0, 0), (21, .aload_n 0, 1, 0, 0, 0), (22, .getfield 111, 3, 8, 35, 0), (25, .iload_n 1, 1, 0, 0, 0), (26, .iaload, 1, 0, 0, 0), (27, .ifCond .ne 5, 3, 32, 0, 0), (30, .iconst 0, 1, 0, 0, 0), (31, .ireturn, 1, 0, 0, 0), (32, .aload_n 0, 1, 0, 0, 0), (33, .iload_n 1, 1, 0, 0, 0), (34, .invokevirtual 259, 3, 113, 1, 0), (37, .pop, 1, 0, 0, 0), (38, .aload_n 0, 1, 0, 0, 0), (39, .invokevirtual 266, 3, 93, 1, 0), (42, .iconst 1, 1, 0, 0, 1), (43, .ireturn, 1, 0, 0, 0)]
def kc_X7_inject : List ev_I := [(0, .aload_n 0, 1, 0, 0, 0), (1, .iload_n 1, 1, 0, 0, 0), (2, .invokestatic 151, 3, 82, 0, 0), (5, .ifCond .eq 27, 3, 32, 0, 0), (8, .iload_n 2, 1, 0, 0, 0), (9, .iconst 0, 1, 0, 0, 0), (10, .ldc 223, 2, 0, 0, 65535), (12, .invokestatic 155, 3, 81, 0, 0), (15, .ifCond .eq 17, 3, 32, 0, 0), (18, .iload_n 3, 1, 0, 0, 0), (19, .iconst 0, 1, 0, 0, 0), (20, .bipush 100, 2, 0, 0, 100), (22, .invokestatic 155, 3, 81, 0, 0), (25, .ifCond .eq 7, 3, 32, 0, 0), (28, .iconst 0, 1, 0, 0, 0), (29, .goto 4, 3, 33, 0, 0), (32, .iconst 1, 1, 0, 0, 1), (33, .invokevirtual 256, 3, 80, 1, 0), (36, .ifCond .eq 5, 3, 41, 0, 0), (39, .iconst 0, 1, 0, 0, 0), (40, .ireturn, 1, 0, 0, 0), (41, .aload_n 0, 1, 0, 0, 0), (42, .getfield 269, 3, 8, 2, 0), (45, .iconst 4, 1, 0, 0, 4), (46, .iadd, 1, 0, 0, 0), (47, .istore 4, 2, 0, 0, 0), (49, .iload 4, 2, 0, 0, 0), (51, .bipush 27, 2, 0, 0, 27), (53, .iadd, 1, 0, 0, 0), (54, .iconst 1, 1, 0, 0, 1), (55, .isub, 1, 0, 0, 0), (56, .bipush 27, 2, 0, 0, 27), (58, .idiv, 1, 0, 0, 0), (59, .istore 5, 2, 0, 0, 0), (61, .aload_n 0, 1, 0, 0, 0), (62, .getfield 111, 3, 8, 35, 0), (65, .iload_n 1, 1, 0, 0, 0), (66, .iaload, 1, 0, 0, 0), (67, .iload 5, 2, 0, 0, 0), (69, .iadd, 1, 0, 0, 0), (70, .bipush 32, 2, 0, 0, 32), (72, .if_icmp .le 6, 3, 78, 0, 0), (75, .bipush (-2), 2, 0, 0, (-2)), (77, .ireturn, 1, 0, 0, 0), (78, .aload_n 0, 1, 0, 0, 0), (79, .getfield 269, 3, 8, 2, 0), (82, .iload_n 3, 1, 0, 0, 0), (83, .iadd, 1, 0, 0, 0), (84, .istore 6, 2, 0, 0, 0), (86, .iconst 0, 1, 0, 0, 0), (87, .istore 7, 2, 0, 0, 0), (89, .iload 7, 2, 0, 0, 0), (91, .iload 5, 2, 0, 0, 0), (93, .if_icmp .ge 197, 3, 290, 0, 0), (96, .bipush 32, 2, 0, 0, 32), (98, .iload_n 1, 1, 0, 0, 0), (99, .imul, 1, 0, 0, 0), (100, .aload_n 0, 1, 0, 0, 0), (101, .getfield 111, 3, 8, 35, 0), (104, .iload_n 1, 1, 0, 0, 0), (105, .iaload, 1, 0, 0, 0), (106, .iadd, 1, 0, 0, 0), (107, .istore 8, 2, 0, 0, 0), (109, .iload 4, 2, 0, 0, 0), (111, .bipush 27, 2, 0, 0, 27), (113, .iload 7, 2, 0, 0, 0), (115, .imul, 1, 0, 0, 0), (116, .isub, 1, 0, 0, 0), (117, .bipush 27, 2, 0, 0, 27), (119, .if_icmp .ge 14, 3, 133, 0, 0), (122, .iload 4, 2, 0, 0, 0), (124, .bipush 27, 2, 0, 0, 27), (126, .iload 7, 2, 0, 0, 0), (128, .imul, 1, 0, 0, 0), (129, .isub, 1, 0, 0, 0), (130, .goto 5, 3, 135, 0, 0), (133, .bipush 27, 2, 0, 0, 27), (135, .istore 9, 2, 0, 0, 0), (137, .aload_n 0, 1, 0, 0, 0), (138, .getfield 114, 3, 8, 36, 0), (141, .iload 8, 2, 0, 0, 0), (143, .iload 9, 2, 0, 0, 0), (145, .iastore, 1, 0, 0, 0), (146, .aload_n 0, 1, 0, 0, 0), (147, .getfield 117, 3, 8, 37, 0), (150, .iload 8, 2, 0, 0, 0), (152, .iload 7, 2, 0, 0, 0), (154, .ifCond .ne 7, 3, 161, 0, 0), (157, .iconst 1, 1, 0, 0, 1), (158, .goto 4, 3, 162, 0, 0), (161, .iconst 0, 1, 0, 0, 0), (162, .bastore, 1, 0, 0, 0), (163, .aload_n 0, 1, 0, 0, 0), (164, .getfield 120, 3, 8, 38, 0), (167, .iload 8, 2, 0, 0, 0), (169, .iconst 0, 1, 0, 0, 0), (170, .bastore, 1, 0, 0, 0), (171, .iconst 0, 1, 0, 0, 0), (172, .istore 10, 2, 0, 0, 0), (174, .iload 10, 2, 0, 0, 0), (176, .iload 9, 2, 0, 0, 0), (178, .if_icmp .ge 96, 3, 274, 0, 0), (181, .bipush 27, 2, 0, 0, 27), (183, .iload 7, 2, 0, 0, 0), (185, .imul, 1, 0, 0, 0), (186, .iload 10, 2, 0, 0, 0), (188, .iadd, 1, 0, 0, 0), (189, .istore 11, 2, 0, 0, 0), (191, .aload_n 0, 1, 0, 0, 0), (192, .getfield 123, 3, 8, 39, 0), (195, .bipush 27, 2, 0, 0, 27), (197, .iload 8, 2, 0, 0, 0), (199, .imul, 1, 0, 0, 0), (200, .iload 10, 2, 0, 0, 0), (202, .iadd, 1, 0, 0, 0), (203, .iload 11, 2, 0, 0, 0), (205, .ifCond .ne 12, 3, 217, 0, 0), (208, .iload 6, 2, 0, 0, 0), (210, .sipush 255, 3, 0, 0, 255), (213, .iand, 1, 0, 0, 0), (214, .goto 53, 3, 267, 0, 0), (217, .iload 11, 2, 0, 0, 0), (219, .iconst 1, 1, 0, 0, 1), (220, .if_icmp .ne 11, 3, 231, 0, 0), (223, .iload 6, 2, 0, 0, 0), (225, .bipush 8, 2, 0, 0, 8), (227, .ishr, 1, 0, 0, 0), (228, .goto 39, 3, 267, 0, 0), (231, .iload 11, 2, 0, 0, 0), (233, .iconst 2, 1, 0, 0, 2), (234, .if_icmp .ne 11, 3, 245, 0, 0), (237, .iload_n 2, 1, 0, 0, 0), (238, .sipush 255, 3, 0, 0, 255), (241, .iand, 1, 0, 0, 0), (242, .goto 25, 3, 267, 0, 0), (245, .iload 11, 2, 0, 0, 0), (247, .iconst 3, 1, 0, 0, 3), (248, .if_icmp .ne 10, 3, 258, 0, 0), (251, .iload_n 2, 1, 0, 0, 0), (252, .bipush 8, 2, 0, 0, 8), (254, .ishr, 1, 0, 0, 0), (255, .goto 12, 3, 267, 0, 0), (258, .aload_n 0, 1, 0, 0, 0), (259, .getfield 7, 3, 8, 1, 0), (262, .iload 11, 2, 0, 0, 0), (264, .iconst 4, 1, 0, 0, 4), (265, .isub, 1, 0, 0, 0), (266, .iaload, 1, 0, 0, 0), (267, .iastore, 1, 0, 0, 0), (268, .iinc 10 1, 3, 0, 0, 1), (271, .goto (-97), 3, 174, 0, 0), (274, .aload_n 0, 1, 0, 0, 0), (275, .getfield 111, 3, 8, 35, 0), (278, .iload_n 1, 1, 0, 0, 0), (279, .dup2, 1, 0, 0, 0), (280, .iaload, 1, 0, 0, 0), (281, .iconst 1, 1, 0, 0, 1), (282, .iadd, 1, 0, 0, 0), (283, .iastore, 1, 0, 0, 0), (284, .iinc 7 1, 3, 0, 0, 1), (287, .goto (-198), 3, 89, 0, 0), (290, .aload_n 0, 1, 0, 0, 0), (291, .invokevirtual 266, 3, 93, 1, 0), (294, .iload 5, 2, 0, 0, 0), (296, .ireturn, 1, 0, 0, 0)]
def kc_X7_isTold : List ev_I := [(0, .iload_n 0, 1, 0, 0, 0), (1, .invokestatic 151, 3, 82, 0, 0), (4, .ifCond .eq 51, 3, 55, 0, 0), (7, .iload_n 1, 1, 0, 0, 0), (8, .iconst 1, 1, 0, 0, 1), (9, .bipush 9, 2, 0, 0, 9), (11, .invokestatic 155, 3, 81, 0, 0), (14, .ifCond .eq 41, 3, 55, 0, 0), (17, .iload_n 2, 1, 0, 0, 0), (18, .bipush 23, 2, 0, 0, 23), (20, .bipush 100, 2, 0, 0, 100), (22, .invokestatic 155, 3, 81, 0, 0), (25, .ifCond .eq 30, 3, 55, 0, 0), (28, .iload_n 3, 1, 0, 0, 0), (29, .bipush 23, 2, 0, 0, 23), (31, .bipush 100, 2, 0, 0, 100), (33, .invokestatic 155, 3, 81, 0, 0), (36, .ifCond .eq 19, 3, 55, 0, 0), (39, .iload 4, 2, 0, 0, 0), (41, .iconst 0, 1, 0, 0, 0), (42, .sipush 1000, 3, 0, 0, 1000), (45, .invokestatic 155, 3, 81, 0, 0), (48, .ifCond .eq 7, 3, 55, 0, 0), (51, .iconst 1, 1, 0, 0, 1), (52, .goto 4, 3, 56, 0, 0), (55, .iconst 0, 1, 0, 0, 0), (56, .ireturn, 1, 0, 0, 0)]
def kc_X7_service : List ev_I := [(0, .aload_n 0, 1, 0, 0, 0), (1, .iload_n 1, 1, 0, 0, 0), (2, .iload_n 2, 1, 0, 0, 0), (3, .iload_n 3, 1, 0, 0, 0), (4, .iload 4, 2, 0, 0, 0), (6, .iload 5, 2, 0, 0, 0), (8, .invokestatic 272, 3, 118, 0, 0), (11, .ifCond .eq 7, 3, 18, 0, 0), (14, .iconst 0, 1, 0, 0, 0), (15, .goto 4, 3, 19, 0, 0), (18, .iconst 1, 1, 0, 0, 1), (19, .invokevirtual 256, 3, 80, 1, 0), (22, .ifCond .eq 4, 3, 26, 0, 0), (25, .return_, 1, 0, 0, 0), (26, .aload_n 0, 1, 0, 0, 0), (27, .getfield 13, 3, 8, 3, 0), (30, .bipush 10, 2, 0, 0, 10), (32, .iload_n 1, 1, 0, 0, 0), (33, .imul, 1, 0, 0, 0), (34, .iload_n 2, 1, 0, 0, 0), (35, .iadd, 1, 0, 0, 0), (36, .iconst 1, 1, 0, 0, 1), (37, .bastore, 1, 0, 0, 0), (38, .aload_n 0, 1, 0, 0, 0), (39, .getfield 17, 3, 8, 4, 0), (42, .bipush 10, 2, 0, 0, 10), (44, .iload_n 1, 1, 0, 0, 0), (45, .imul, 1, 0, 0, 0), (46, .iload_n 2, 1, 0, 0, 0), (47, .iadd, 1, 0, 0, 0), (48, .iload_n 3, 1, 0, 0, 0), (49, .iastore, 1, 0, 0, 0), (50, .aload_n 0, 1, 0, 0, 0), (51, .getfield 20, 3, 8, 5, 0), (54, .bipush 10, 2, 0, 0, 10), (56, .iload_n 1, 1, 0, 0, 0), (57, .imul, 1, 0, 0, 0), (58, .iload_n 2, 1, 0, 0, 0), (59, .iadd, 1, 0, 0, 0), (60, .iload 4, 2, 0, 0, 0), (62, .iastore, 1, 0, 0, 0), (63, .aload_n 0, 1, 0, 0, 0), (64, .getfield 23, 3, 8, 6, 0), (67, .bipush 10, 2, 0, 0, 10), (69, .iload_n 1, 1, 0, 0, 0), (70, .imul, 1, 0, 0, 0), (71, .iload_n 2, 1, 0, 0, 0), (72, .iadd, 1, 0, 0, 0), (73, .iload 5, 2, 0, 0, 0), (75, .iastore, 1, 0, 0, 0), (76, .return_, 1, 0, 0, 0)]
def kc_X7_connect : List ev_I := [(0, .aload_n 0, 1, 0, 0, 0), (1, .iload_n 1, 1, 0, 0, 0), (2, .iload_n 2, 1, 0, 0, 0), (3, .iload_n 3, 1, 0, 0, 0), (4, .iload 4, 2, 0, 0, 0), (6, .iload 5, 2, 0, 0, 0), (8, .invokestatic 272, 3, 118, 0, 0), (11, .ifCond .eq 7, 3, 18, 0, 0), (14, .iconst 0, 1, 0, 0, 0), (15, .goto 4, 3, 19, 0, 0), (18, .iconst 1, 1, 0, 0, 1), (19, .invokevirtual 256, 3, 80, 1, 0), (22, .ifCond .eq 5, 3, 27, 0, 0), (25, .iconst 0, 1, 0, 0, 0), (26, .ireturn, 1, 0, 0, 0), (27, .aload_n 0, 1, 0, 0, 0), (28, .iload_n 1, 1, 0, 0, 0), (29, .invokevirtual 210, 3, 101, 1, 0), (32, .istore 6, 2, 0, 0, 0), (34, .iload 6, 2, 0, 0, 0), (36, .ifCond .ge 6, 3, 42, 0, 0), (39, .bipush (-2), 2, 0, 0, (-2)), (41, .ireturn, 1, 0, 0, 0), (42, .aload_n 0, 1, 0, 0, 0), (43, .getfield 26, 3, 8, 7, 0), (46, .iload 6, 2, 0, 0, 0), (48, .iconst 1, 1, 0, 0, 1), (49, .iastore, 1, 0, 0, 0), (50, .aload_n 0, 1, 0, 0, 0), (51, .getfield 74, 3, 8, 23, 0), (54, .iload 6, 2, 0, 0, 0), (56, .iconst 0, 1, 0, 0, 0), (57, .iastore, 1, 0, 0, 0), (58, .aload_n 0, 1, 0, 0, 0), (59, .getfield 29, 3, 8, 8, 0), (62, .iload 6, 2, 0, 0, 0), (64, .iload_n 3, 1, 0, 0, 0), (65, .iastore, 1, 0, 0, 0), (66, .aload_n 0, 1, 0, 0, 0), (67, .getfield 32, 3, 8, 9, 0), (70, .iload 6, 2, 0, 0, 0), (72, .iload 4, 2, 0, 0, 0), (74, .iastore, 1, 0, 0, 0), (75, .aload_n 0, 1, 0, 0, 0), (76, .getfield 35, 3, 8, 10, 0), (79, .iload 6, 2, 0, 0, 0), (81, .iload 5, 2, 0, 0, 0), (83, .iastore, 1, 0, 0, 0), (84, .aload_n 0, 1, 0, 0, 0), (85, .getfield 50, 3, 8, 15, 0), (88, .iload 6, 2, 0, 0, 0), (90, .aload_n 0, 1, 0, 0, 0), (91, .iload_n 1, 1, 0, 0, 0), (92, .invokevirtual 198, 3, 97, 1, 0), (95, .iastore, 1, 0, 0, 0), (96, .aload_n 0, 1, 0, 0, 0), (97, .bipush 20, 2, 0, 0, 20), (99, .aload_n 0, 1, 0, 0, 0), (100, .getfield 50, 3, 8, 15, 0), (103, .iload 6, 2, 0, 0, 0), (105, .iaload, 1, 0, 0, 0), (106, .bipush 10, 2, 0, 0, 10), (108, .invokevirtual 201, 3, 94, 1, 0), (111, .aload_n 0, 1, 0, 0, 0), (112, .iload_n 2, 1, 0, 0, 0), (113, .invokevirtual 204, 3, 95, 1, 0), (116, .aload_n 0, 1, 0, 0, 0), (117, .bipush 64, 2, 0, 0, 64), (119, .iload 6, 2, 0, 0, 0), (121, .iconst 4, 1, 0, 0, 4), (122, .irem, 1, 0, 0, 0), (123, .iadd, 1, 0, 0, 0), (124, .invokevirtual 204, 3, 95, 1, 0), (127, .aload_n 0, 1, 0, 0, 0), (128, .iload_n 3, 1, 0, 0, 0), (129, .invokevirtual 204, 3, 95, 1, 0), (132, .aload_n 0, 1, 0, 0, 0), (133, .iload 4, 2, 0, 0, 0), (135, .invokevirtual 204, 3, 95, 1, 0), (138, .aload_n 0, 1, 0, 0, 0), (139, .iload 5, 2, 0, 0, 0), (141, .invokevirtual 204, 3, 95, 1, 0), (144, .aload_n 0, 1, 0, 0, 0), (145, .iload_n 1, 1, 0, 0, 0), (146, .invokevirtual 207, 3, 96, 1, 0), (149, .aload_n 0, 1, 0, 0, 0), (150, .invokevirtual 266, 3, 93, 1, 0), (153, .bipush 64, 2, 0, 0, 64), (155, .iload 6, 2, 0, 0, 0), (157, .iconst 4, 1, 0, 0, 4), (158, .irem, 1, 0, 0, 0), (159, .iadd, 1, 0, 0, 0), (160, .ireturn, 1, 0, 0, 0)]
def kc_X7_feed : List ev_I := [(0, .aload_n 0, 1, 0, 0, 0), (1, .iload_n 1, 1, 0, 0, 0), (2, .iconst 0, 1, 0, 0, 0), (3, .bipush 16, 2, 0, 0, 16), (5, .invokestatic 155, 3, 81, 0, 0), (8, .ifCond .ne 7, 3, 15, 0, 0), (11, .iconst 1, 1, 0, 0, 1), (12, .goto 19, 3, 31, 0, 0), (15, .aload_n 0, 1, 0, 0, 0), (16, .getfield 269, 3, 8, 2, 0), (19, .iload_n 1, 1, 0, 0, 0), (20, .iadd, 1, 0, 0, 0), (21, .bipush 120, 2, 0, 0, 120), (23, .if_icmp .le 7, 3, 30, 0, 0), (26, .iconst 2, 1, 0, 0, 2), (27, .goto 4, 3, 31, 0, 0), (30, .iconst 0, 1, 0, 0, 0), (31, .invokevirtual 256, 3, 80, 1, 0), (34, .ifCond .eq 5, 3, 39, 0, 0), (37, .iconst 0, 1, 0, 0, 0), (38, .ireturn, 1, 0, 0, 0), (39, .iconst 0, 1, 0, 0, 0), (40, .istore 6, 2, 0, 0, 0), (42, .iload 6, 2, 0, 0, 0), (44, .iload_n 1, 1, 0, 0, 0), (45, .if_icmp .ge 82, 3, 127, 0, 0), (48, .iload 6, 2, 0, 0, 0), (50, .iconst 4, 1, 0, 0, 4), (51, .if_icmp .ge 7, 3, 58, 0, 0), (54, .iload_n 2, 1, 0, 0, 0), (55, .goto 28, 3, 83, 0, 0), (58, .iload 6, 2, 0, 0, 0), (60, .bipush 8, 2, 0, 0, 8), (62, .if_icmp .ge 7, 3, 69, 0, 0), (65, .iload_n 3, 1, 0, 0, 0), (66, .goto 17, 3, 83, 0, 0), (69, .iload 6, 2, 0, 0, 0), (71, .bipush 12, 2, 0, 0, 12), (73, .if_icmp .ge 8, 3, 81, 0, 0), (76, .iload 4, 2, 0, 0, 0), (78, .goto 5, 3, 83, 0, 0), (81, .iload 5, 2, 0, 0, 0), (83, .istore 7, 2, 0, 0, 0), (85, .aload_n 0, 1, 0, 0, 0), (86, .getfield 7, 3, 8, 1, 0), (89, .aload_n 0, 1, 0, 0, 0), (90, .getfield 269, 3, 8, 2, 0), (93, .iload 7, 2, 0, 0, 0), (95, .bipush 24, 2, 0, 0, 24), (97, .bipush 8, 2, 0, 0, 8), (99, .iload 6, 2, 0, 0, 0), (101, .iconst 4, 1, 0, 0, 4), (102, .irem, 1, 0, 0, 0), (103, .imul, 1, 0, 0, 0), (104, .isub, 1, 0, 0, 0), (105, .ishr, 1, 0, 0, 0), (106, .sipush 255, 3, 0, 0, 255), (109, .iand, 1, 0, 0, 0), (110, .iastore, 1, 0, 0, 0), (111, .aload_n 0, 1, 0, 0, 0), (112, .dup, 1, 0, 0, 0), (113, .getfield 269, 3, 8, 2, 0), (116, .iconst 1, 1, 0, 0, 1), (117, .iadd, 1, 0, 0, 0), (118, .putfield 269, 3, 8, 2, 0), (121, .iinc 6 1, 3, 0, 0, 1), (124, .goto (-82), 3, 42, 0, 0), (127, .aload_n 0, 1, 0, 0, 0), (128, .getfield 269, 3, 8, 2, 0), (131, .ireturn, 1, 0, 0, 0)]
def kc_X7_erase : List ev_I := [(0, .aload_n 0, 1, 0, 0, 0), (1, .iconst 0, 1, 0, 0, 0), (2, .putfield 147, 3, 8, 0, 0), (5, .aload_n 0, 1, 0, 0, 0), (6, .getfield 269, 3, 8, 2, 0), (9, .istore_n 1, 1, 0, 0, 0), (10, .aload_n 0, 1, 0, 0, 0), (11, .iconst 0, 1, 0, 0, 0), (12, .putfield 269, 3, 8, 2, 0), (15, .iload_n 1, 1, 0, 0, 0), (16, .ireturn, 1, 0, 0, 0)]
def kc_X7_wrong : List ev_I := [(0, .iload_n 1, 1, 0, 0, 0), (1, .iload_n 2, 1, 0, 0, 0), (2, .invokestatic 276, 3, 83, 0, 0), (5, .ifCond .eq 7, 3, 12, 0, 0), (8, .iload_n 3, 1, 0, 0, 0), (9, .ifCond .ne 5, 3, 14, 0, 0), (12, .iconst 1, 1, 0, 0, 1), (13, .ireturn, 1, 0, 0, 0), (14, .aload_n 0, 1, 0, 0, 0), (15, .getfield 26, 3, 8, 7, 0), (18, .iconst 4, 1, 0, 0, 4), (19, .iload_n 1, 1, 0, 0, 0), (20, .imul, 1, 0, 0, 0), (21, .iload_n 2, 1, 0, 0, 0), (22, .iadd, 1, 0, 0, 0), (23, .bipush 64, 2, 0, 0, 64), (25, .isub, 1, 0, 0, 0), (26, .iaload, 1, 0, 0, 0), (27, .iconst 2, 1, 0, 0, 2), (28, .if_icmp .ne 7, 3, 35, 0, 0), (31, .iconst 0, 1, 0, 0, 0), (32, .goto 4, 3, 36, 0, 0), (35, .iconst 2, 1, 0, 0, 2), (36, .ireturn, 1, 0, 0, 0)]
def kc_X7_send : List ev_I := [(0, .aload_n 0, 1, 0, 0, 0), (1, .aload_n 0, 1, 0, 0, 0), (2, .iload_n 1, 1, 0, 0, 0), (3, .iload_n 2, 1, 0, 0, 0), (4, .iconst 1, 1, 0, 0, 1), (5, .invokevirtual 279, 3, 123, 1, 0), (8, .invokevirtual 256, 3, 80, 1, 0), (11, .ifCond .eq 5, 3, 16, 0, 0), (14, .iconst 0, 1, 0, 0, 0), (15, .ireturn, 1, 0, 0, 0), (16, .iconst 4, 1, 0, 0, 4), (17, .iload_n 1, 1, 0, 0, 0), (18, .imul, 1, 0, 0, 0), (19, .iload_n 2, 1, 0, 0, 0), (20, .iadd, 1, 0, 0, 0), (21, .bipush 64, 2, 0, 0, 64), (23, .isub, 1, 0, 0, 0), (24, .istore_n 3, 1, 0, 0, 0), (25, .aload_n 0, 1, 0, 0, 0), (26, .getfield 269, 3, 8, 2, 0), (29, .aload_n 0, 1, 0, 0, 0), (30, .getfield 41, 3, 8, 12, 0), (33, .iload_n 3, 1, 0, 0, 0), (34, .iaload, 1, 0, 0, 0), (35, .if_icmp .gt 13, 3, 48, 0, 0), (38, .aload_n 0, 1, 0, 0, 0), (39, .getfield 53, 3, 8, 16, 0), (42, .iload_n 3, 1, 0, 0, 0), (43, .iaload, 1, 0, 0, 0), (44, .iconst 2, 1, 0, 0, 2), (45, .if_icmp .ne 6, 3, 51, 0, 0), (48, .bipush (-2), 2, 0, 0, (-2)), (50, .ireturn, 1, 0, 0, 0), (51, .iconst 2, 1, 0, 0, 2), (52, .iload_n 3, 1, 0, 0, 0), (53, .imul, 1, 0, 0, 0), (54, .aload_n 0, 1, 0, 0, 0), (55, .getfield 53, 3, 8, 16, 0), (58, .iload_n 3, 1, 0, 0, 0), (59, .iaload, 1, 0, 0, 0), (60, .iadd, 1, 0, 0, 0), (61, .istore 4, 2, 0, 0, 0), (63, .aload_n 0, 1, 0, 0, 0), (64, .getfield 56, 3, 8, 17, 0), (67, .iload 4, 2, 0, 0, 0), (69, .aload_n 0, 1, 0, 0, 0), (70, .getfield 269, 3, 8, 2, 0), (73, .iastore, 1, 0, 0, 0), (74, .iconst 0, 1, 0, 0, 0), (75, .istore 5, 2, 0, 0, 0), (77, .iload 5, 2, 0, 0, 0), (79, .aload_n 0, 1, 0, 0, 0), (80, .getfield 269, 3, 8, 2, 0), (83, .if_icmp .ge 29, 3, 112, 0, 0), (86, .aload_n 0, 1, 0, 0, 0), (87, .getfield 59, 3, 8, 18, 0), (90, .bipush 120, 2, 0, 0, 120), (92, .iload 4, 2, 0, 0, 0), (94, .imul, 1, 0, 0, 0), (95, .iload 5, 2, 0, 0, 0), (97, .iadd, 1, 0, 0, 0), (98, .aload_n 0, 1, 0, 0, 0), (99, .getfield 7, 3, 8, 1, 0), (102, .iload 5, 2, 0, 0, 0), (104, .iaload, 1, 0, 0, 0), (105, .iastore, 1, 0, 0, 0), (106, .iinc 5 1, 3, 0, 0, 1), (109, .goto (-32), 3, 77, 0, 0), (112, .aload_n 0, 1, 0, 0, 0), (113, .getfield 53, 3, 8, 16, 0), (116, .iload_n 3, 1, 0, 0, 0), (117, .dup2, 1, 0, 0, 0), (118, .iaload, 1, 0, 0, 0), (119, .iconst 1, 1, 0, 0, 1), (120, .iadd, 1, 0, 0, 0), (121, .iastore, 1, 0, 0, 0), (122, .aload_n 0, 1, 0, 0, 0), (123, .iconst 0, 1, 0, 0, 0), (124, .putfield 269, 3, 8, 2, 0), (127, .aload_n 0, 1, 0, 0, 0), (128, .getfield 53, 3, 8, 16, 0), (131, .iload_n 3, 1, 0, 0, 0), (132, .iaload, 1, 0, 0, 0), (133, .istore 5, 2, 0, 0, 0), (135, .aload_n 0, 1, 0, 0, 0), (136, .invokevirtual 266, 3, 93, 1, 0), (139, .iload 5, 2, 0, 0, 0), (141, .ireturn, 1, 0, 0, 0)]
def kc_X7_grant : List ev_I := [(0, .aload_n 0, 1, 0, 0, 0), (1, .aload_n 0, 1, 0, 0, 0), (2, .iload_n 1, 1, 0, 0, 0), (3, .iload_n 2, 1, 0, 0, 0), (4, .iload_n 3, 1, 0, 0, 0), (5, .iconst 1, 1, 0, 0, 1), (6, .sipush 1000, 3, 0, 0, 1000), (9, .invokestatic 155, 3, 81, 0, 0), (12, .invokevirtual 279, 3, 123, 1, 0), (15, .invokevirtual 256, 3, 80, 1, 0), (18, .ifCond .eq 5, 3, 23, 0, 0), (21, .iconst 0, 1, 0, 0, 0), (22, .ireturn, 1, 0, 0, 0), (23, .iconst 4, 1, 0, 0, 4), (24, .iload_n 1, 1, 0, 0, 0), (25, .imul, 1, 0, 0, 0), (26, .iload_n 2, 1, 0, 0, 0), (27, .iadd, 1, 0, 0, 0), (28, .bipush 64, 2, 0, 0, 64), (30, .isub, 1, 0, 0, 0), (31, .istore 4, 2, 0, 0, 0), (33, .aload_n 0, 1, 0, 0, 0), (34, .getfield 35, 3, 8, 10, 0), (37, .iload 4, 2, 0, 0, 0), (39, .iaload, 1, 0, 0, 0), (40, .iload_n 3, 1, 0, 0, 0), (41, .iadd, 1, 0, 0, 0), (42, .ldc 223, 2, 0, 0, 65535), (44, .if_icmp .le 6, 3, 50, 0, 0), (47, .bipush (-2), 2, 0, 0, (-2)), (49, .ireturn, 1, 0, 0, 0), (50, .aload_n 0, 1, 0, 0, 0), (51, .getfield 35, 3, 8, 10, 0), (54, .iload 4, 2, 0, 0, 0), (56, .aload_n 0, 1, 0, 0, 0), (57, .getfield 35, 3, 8, 10, 0), (60, .iload 4, 2, 0, 0, 0), (62, .iaload, 1, 0, 0, 0), (63, .iload_n 3, 1, 0, 0, 0), (64, .iadd, 1, 0, 0, 0), (65, .iastore, 1, 0, 0, 0), (66, .aload_n 0, 1, 0, 0, 0), (67, .bipush 22, 2, 0, 0, 22), (69, .aload_n 0, 1, 0, 0, 0), (70, .iload_n 1, 1, 0, 0, 0), (71, .invokevirtual 198, 3, 97, 1, 0), (74, .iconst 4, 1, 0, 0, 4), (75, .invokevirtual 201, 3, 94, 1, 0), (78, .aload_n 0, 1, 0, 0, 0), (79, .iload_n 2, 1, 0, 0, 0), (80, .invokevirtual 204, 3, 95, 1, 0), (83, .aload_n 0, 1, 0, 0, 0), (84, .iload_n 3, 1, 0, 0, 0), (85, .invokevirtual 204, 3, 95, 1, 0), (88, .aload_n 0, 1, 0, 0, 0), (89, .iload_n 1, 1, 0, 0, 0), (90, .invokevirtual 207, 3, 96, 1, 0), (93, .aload_n 0, 1, 0, 0, 0), (94, .invokevirtual 266, 3, 93, 1, 0), (97, .aload_n 0, 1, 0, 0, 0), (98, .getfield 35, 3, 8, 10, 0), (101, .iload 4, 2, 0, 0, 0), (103, .iaload, 1, 0, 0, 0), (104, .ireturn, 1, 0, 0, 0)]
def kc_X7_leave : List ev_I := [(0, .aload_n 0, 1, 0, 0, 0), (1, .aload_n 0, 1, 0, 0, 0), (2, .iload_n 1, 1, 0, 0, 0), (3, .iload_n 2, 1, 0, 0, 0), (4, .iconst 1, 1, 0, 0, 1), (5, .invokevirtual 279, 3, 123, 1, 0), (8, .invokevirtual 256, 3, 80, 1, 0), (11, .ifCond .eq 4, 3, 15, 0, 0), (14, .return_, 1, 0, 0, 0), (15, .aload_n 0, 1, 0, 0, 0), (16, .iload_n 1, 1, 0, 0, 0), (17, .iconst 4, 1, 0, 0, 4), (18, .iload_n 1, 1, 0, 0, 0), (19, .imul, 1, 0, 0, 0), (20, .iload_n 2, 1, 0, 0, 0), (21, .iadd, 1, 0, 0, 0), (22, .bipush 64, 2, 0, 0, 64), (24, .isub, 1, 0, 0, 0), (25, .invokevirtual 224, 3, 99, 1, 0), (28, .aload_n 0, 1, 0, 0, 0), (29, .invokevirtual 266, 3, 93, 1, 0), (32, .return_, 1, 0, 0, 0)]
def kc_X7_receive : List ev_I := [(0, .aload_n 0, 1, 0, 0, 0), (1, .iload_n 1, 1, 0, 0, 0), (2, .iload_n 2, 1, 0, 0, 0), (3, .invokestatic 276, 3, 83, 0, 0), (6, .ifCond .eq 7, 3, 13, 0, 0), (9, .iconst 0, 1, 0, 0, 0), (10, .goto 4, 3, 14, 0, 0), (13, .iconst 1, 1, 0, 0, 1), (14, .invokevirtual 256, 3, 80, 1, 0), (17, .ifCond .eq 5, 3, 22, 0, 0), (20, .iconst 0, 1, 0, 0, 0), (21, .ireturn, 1, 0, 0, 0), (22, .iconst 4, 1, 0, 0, 4), (23, .iload_n 1, 1, 0, 0, 0), (24, .imul, 1, 0, 0, 0), (25, .iload_n 2, 1, 0, 0, 0), (26, .iadd, 1, 0, 0, 0), (27, .bipush 64, 2, 0, 0, 64), (29, .isub, 1, 0, 0, 0), (30, .istore_n 3, 1, 0, 0, 0), (31, .aload_n 0, 1, 0, 0, 0), (32, .getfield 74, 3, 8, 23, 0), (35, .iload_n 3, 1, 0, 0, 0), (36, .iaload, 1, 0, 0, 0), (37, .ifCond .ne 5, 3, 42, 0, 0), (40, .iconst (-1), 1, 0, 0, (-1)), (41, .ireturn, 1, 0, 0, 0), (42, .iconst 4, 1, 0, 0, 4), (43, .iload_n 3, 1, 0, 0, 0), (44, .imul, 1, 0, 0, 0), (45, .istore 4, 2, 0, 0, 0), (47, .aload_n 0, 1, 0, 0, 0), (48, .aload_n 0, 1, 0, 0, 0), (49, .getfield 77, 3, 8, 24, 0), (52, .iload 4, 2, 0, 0, 0), (54, .iaload, 1, 0, 0, 0), (55, .putfield 269, 3, 8, 2, 0), (58, .iconst 0, 1, 0, 0, 0), (59, .istore 5, 2, 0, 0, 0), (61, .iload 5, 2, 0, 0, 0), (63, .aload_n 0, 1, 0, 0, 0), (64, .getfield 269, 3, 8, 2, 0), (67, .if_icmp .ge 30, 3, 97, 0, 0), (70, .aload_n 0, 1, 0, 0, 0), (71, .getfield 7, 3, 8, 1, 0), (74, .iload 5, 2, 0, 0, 0), (76, .aload_n 0, 1, 0, 0, 0), (77, .getfield 80, 3, 8, 25, 0), (80, .sipush 128, 3, 0, 0, 128), (83, .iload 4, 2, 0, 0, 0), (85, .imul, 1, 0, 0, 0), (86, .iload 5, 2, 0, 0, 0), (88, .iadd, 1, 0, 0, 0), (89, .iaload, 1, 0, 0, 0), (90, .iastore, 1, 0, 0, 0), (91, .iinc 5 1, 3, 0, 0, 1), (94, .goto (-33), 3, 61, 0, 0), (97, .aload_n 0, 1, 0, 0, 0), (98, .getfield 74, 3, 8, 23, 0), (101, .iload_n 3, 1, 0, 0, 0), (102, .dup2, 1, 0, 0, 0), (103, .iaload, 1, 0, 0, 0), (104, .iconst 1, 1, 0, 0, 1), (105, .isub, 1, 0, 0, 0), (106, .iastore, 1, 0, 0, 0), (107, .iload 4, 2, 0, 0, 0), (109, .istore 5, 2, 0, 0, 0), (111, .iload 5, 2, 0, 0, 0), (113, .iload 4, 2, 0, 0, 0), (115, .aload_n 0, 1, 0, 0, 0), (116, .getfield 74, 3, 8, 23, 0), (119, .iload_n 3, 1, 0, 0, 0), (120, .iaload, 1, 0, 0, 0), (121, .iadd, 1, 0, 0, 0), (122, .if_icmp .ge 74, 3, 196, 0, 0), (125, .aload_n 0, 1, 0, 0, 0), (126, .getfield 77, 3, 8, 24, 0), (129, .iload 5, 2, 0, 0, 0), (131, .aload_n 0, 1, 0, 0, 0), (132, .getfield 77, 3, 8, 24, 0), (135, .iload 5, 2, 0, 0, 0), (137, .iconst 1, 1, 0, 0, 1), (138, .iadd, 1, 0, 0, 0), (139, .iaload, 1, 0, 0, 0), (140, .iastore, 1, 0, 0, 0), (141, .iconst 0, 1, 0, 0, 0), (142, .istore 6, 2, 0, 0, 0), (144, .iload 6, 2, 0, 0, 0), (146, .sipush 128, 3, 0, 0, 128), (149, .if_icmp .ge 41, 3, 190, 0, 0), (152, .aload_n 0, 1, 0, 0, 0), (153, .getfield 80, 3, 8, 25, 0), (156, .sipush 128, 3, 0, 0, 128), (159, .iload 5, 2, 0, 0, 0), (161, .imul, 1, 0, 0, 0), (162, .iload 6, 2, 0, 0, 0), (164, .iadd, 1, 0, 0, 0), (165, .aload_n 0, 1, 0, 0, 0), (166, .getfield 80, 3, 8, 25, 0), (169, .sipush 128, 3, 0, 0, 128), (172, .iload 5, 2, 0, 0, 0), (174, .imul, 1, 0, 0, 0), (175, .sipush 128, 3, 0, 0, 128), (178, .iadd, 1, 0, 0, 0), (179, .iload 6, 2, 0, 0, 0), (181, .iadd, 1, 0, 0, 0), (182, .iaload, 1, 0, 0, 0), (183, .iastore, 1, 0, 0, 0), (184, .iinc 6 1, 3, 0, 0, 1), (187, .goto (-43), 3, 144, 0, 0), (190, .iinc 5 1, 3, 0, 0, 1), (193, .goto (-82), 3, 111, 0, 0), (196, .aload_n 0, 1, 0, 0, 0), (197, .getfield 269, 3, 8, 2, 0), (200, .ireturn, 1, 0, 0, 0)]
def kc_X7_octet : List ev_I := [(0, .aload_n 0, 1, 0, 0, 0), (1, .iconst 0, 1, 0, 0, 0), (2, .putfield 147, 3, 8, 0, 0), (5, .iload_n 1, 1, 0, 0, 0), (6, .iconst 0, 1, 0, 0, 0), (7, .aload_n 0, 1, 0, 0, 0), (8, .getfield 269, 3, 8, 2, 0), (11, .iconst 1, 1, 0, 0, 1), (12, .isub, 1, 0, 0, 0), (13, .invokestatic 155, 3, 81, 0, 0), (16, .ifCond .eq 12, 3, 28, 0, 0), (19, .aload_n 0, 1, 0, 0, 0), (20, .getfield 7, 3, 8, 1, 0), (23, .iload_n 1, 1, 0, 0, 0), (24, .iaload, 1, 0, 0, 0), (25, .goto 4, 3, 29, 0, 0), (28, .iconst (-1), 1, 0, 0, (-1)), (29, .ireturn, 1, 0, 0, 0)]
def kc_X7_channel : List ev_I := [(0, .aload_n 0, 1, 0, 0, 0), (1, .iload_n 1, 1, 0, 0, 0), (2, .iload_n 2, 1, 0, 0, 0), (3, .invokestatic 276, 3, 83, 0, 0), (6, .ifCond .eq 17, 3, 23, 0, 0), (9, .iload_n 3, 1, 0, 0, 0), (10, .iconst 0, 1, 0, 0, 0), (11, .bipush 7, 2, 0, 0, 7), (13, .invokestatic 155, 3, 81, 0, 0), (16, .ifCond .eq 7, 3, 23, 0, 0), (19, .iconst 0, 1, 0, 0, 0), (20, .goto 4, 3, 24, 0, 0), (23, .iconst 1, 1, 0, 0, 1), (24, .invokevirtual 256, 3, 80, 1, 0), (27, .ifCond .eq 5, 3, 32, 0, 0), (30, .iconst 0, 1, 0, 0, 0), (31, .ireturn, 1, 0, 0, 0), (32, .iconst 4, 1, 0, 0, 4), (33, .iload_n 1, 1, 0, 0, 0), (34, .imul, 1, 0, 0, 0), (35, .iload_n 2, 1, 0, 0, 0), (36, .iadd, 1, 0, 0, 0), (37, .bipush 64, 2, 0, 0, 64), (39, .isub, 1, 0, 0, 0), (40, .istore 4, 2, 0, 0, 0), (42, .iload_n 3, 1, 0, 0, 0), (43, .tableswitch 97 0 6 #[41, 49, 57, 65, 73, 81, 89], 41, 0, 0, 0), (84, .aload_n 0, 1, 0, 0, 0), (85, .getfield 26, 3, 8, 7, 0), (88, .iload 4, 2, 0, 0, 0), (90, .iaload, 1, 0, 0, 0), (91, .ireturn, 1, 0, 0, 0), (92, .aload_n 0, 1, 0, 0, 0), (93, .getfield 38, 3, 8, 11, 0), (96, .iload 4, 2, 0, 0, 0), (98, .iaload, 1, 0, 0, 0), (99, .ireturn, 1, 0, 0, 0), (100, .aload_n 0, 1, 0, 0, 0), (101, .getfield 47, 3, 8, 14, 0), (104, .iload 4, 2, 0, 0, 0), (106, .iaload, 1, 0, 0, 0), (107, .ireturn, 1, 0, 0, 0), (108, .aload_n 0, 1, 0, 0, 0), (109, .getfield 35, 3, 8, 10, 0), (112, .iload 4, 2, 0, 0, 0), (114, .iaload, 1, 0, 0, 0), (115, .ireturn, 1, 0, 0, 0), (116, .aload_n 0, 1, 0, 0, 0), (117, .getfield 53, 3, 8, 16, 0), (120, .iload 4, 2, 0, 0, 0), (122, .iaload, 1, 0, 0, 0), (123, .ireturn, 1, 0, 0, 0), (124, .aload_n 0, 1, 0, 0, 0), (125, .getfield 74, 3, 8, 23, 0), (128, .iload 4, 2, 0, 0, 0), (130, .iaload, 1, 0, 0, 0), (131, .ireturn, 1, 0, 0, 0), (132, .aload_n 0, 1, 0, 0, 0), (133, .getfield 41, 3, 8, 12, 0), (136, .iload 4, 2, 0, 0, 0), (138, .iaload, 1, 0, 0, 0), (139, .ireturn, 1, 0, 0, 0), (140, .aload_n 0, 1, 0, 0, 0), (141, .getfield 44, 3, 8, 13, 0), (144, .iload 4, 2, 0, 0, 0), (146, .iaload, 1, 0, 0, 0), (147, .ireturn, 1, 0, 0, 0)]
def kc_X7_count : List ev_I := [(0, .aload_n 0, 1, 0, 0, 0), (1, .iload_n 1, 1, 0, 0, 0), (2, .invokestatic 151, 3, 82, 0, 0), (5, .ifCond .eq 17, 3, 22, 0, 0), (8, .iload_n 2, 1, 0, 0, 0), (9, .iconst 0, 1, 0, 0, 0), (10, .bipush 6, 2, 0, 0, 6), (12, .invokestatic 155, 3, 81, 0, 0), (15, .ifCond .eq 7, 3, 22, 0, 0), (18, .iconst 0, 1, 0, 0, 0), (19, .goto 4, 3, 23, 0, 0), (22, .iconst 1, 1, 0, 0, 1), (23, .invokevirtual 256, 3, 80, 1, 0), (26, .ifCond .eq 5, 3, 31, 0, 0), (29, .iconst 0, 1, 0, 0, 0), (30, .ireturn, 1, 0, 0, 0), (31, .iload_n 2, 1, 0, 0, 0), (32, .tableswitch 81 0 5 #[40, 46, 53, 60, 67, 74], 40, 0, 0, 0), (72, .aload_n 0, 1, 0, 0, 0), (73, .iload_n 1, 1, 0, 0, 0), (74, .invokevirtual 171, 3, 84, 1, 0), (77, .ireturn, 1, 0, 0, 0), (78, .aload_n 0, 1, 0, 0, 0), (79, .getfield 111, 3, 8, 35, 0), (82, .iload_n 1, 1, 0, 0, 0), (83, .iaload, 1, 0, 0, 0), (84, .ireturn, 1, 0, 0, 0), (85, .aload_n 0, 1, 0, 0, 0), (86, .getfield 86, 3, 8, 27, 0), (89, .iload_n 1, 1, 0, 0, 0), (90, .iaload, 1, 0, 0, 0), (91, .ireturn, 1, 0, 0, 0), (92, .aload_n 0, 1, 0, 0, 0), (93, .getfield 132, 3, 8, 42, 0), (96, .iload_n 1, 1, 0, 0, 0), (97, .iaload, 1, 0, 0, 0), (98, .ireturn, 1, 0, 0, 0), (99, .aload_n 0, 1, 0, 0, 0), (100, .getfield 135, 3, 8, 43, 0), (103, .iload_n 1, 1, 0, 0, 0), (104, .iaload, 1, 0, 0, 0), (105, .ireturn, 1, 0, 0, 0), (106, .aload_n 0, 1, 0, 0, 0), (107, .getfield 138, 3, 8, 44, 0), (110, .iload_n 1, 1, 0, 0, 0), (111, .iaload, 1, 0, 0, 0), (112, .ireturn, 1, 0, 0, 0), (113, .aload_n 0, 1, 0, 0, 0), (114, .getfield 126, 3, 8, 40, 0), (117, .iload_n 1, 1, 0, 0, 0), (118, .iaload, 1, 0, 0, 0), (119, .ireturn, 1, 0, 0, 0)]
def kc_Jxa1e45_init_da8c8 : List ev_I := [(0, .aload_n 0, 1, 0, 0, 0), (1, .invokespecial 1, 3, 0, 5, 0), (4, .return_, 1, 0, 0, 0)]
def kc_Jxc12de_init_da8c8 : List ev_I := [(0, .aload_n 0, 1, 0, 0, 0), (1, .invokespecial 1, 3, 131, 2, 0), (4, .aload_n 0, 1, 0, 0, 0), (5, .iconst 0, 1, 0, 0, 0), (6, .putfield 7, 3, 0, 0, 0), (9, .return_, 1, 0, 0, 0)]
def kc_Jx4a65c_init_da8c8 : List ev_I := [(0, .aload_n 0, 1, 0, 0, 0), (1, .invokespecial 1, 3, 132, 2, 0), (4, .aload_n 0, 1, 0, 0, 0), (5, .getstatic 39, 3, 0, 99, 0), (8, .putfield 9, 3, 0, 1, 0), (11, .return_, 1, 0, 0, 0)]
def kc_Jx4a65c_grow_92f84 : List ev_I := [(0, .aload_n 0, 1, 0, 0, 0), (1, .getfield 9, 3, 0, 1, 0), (4, .arraylength, 1, 0, 0, 0), (5, .istore_n 2, 1, 0, 0, 0), (6, .iload_n 2, 1, 0, 0, 0), (7, .ifCond .gt 13, 3, 20, 0, 0), (10, .aload_n 0, 1, 0, 0, 0), (11, .getfield 9, 3, 0, 1, 0), (14, .getstatic 39, 3, 0, 99, 0), (17, .if_acmp .eq 28, 3, 45, 0, 0), (20, .iload_n 2, 1, 0, 0, 0), (21, .iload_n 1, 1, 0, 0, 0), (22, .iload_n 2, 1, 0, 0, 0), (23, .isub, 1, 0, 0, 0), (24, .iload_n 2, 1, 0, 0, 0), (25, .iconst 1, 1, 0, 0, 1), (26, .ishr, 1, 0, 0, 0), (27, .invokestatic 73, 3, 145, 0, 0), (30, .istore_n 3, 1, 0, 0, 0), (31, .aload_n 0, 1, 0, 0, 0), (32, .aload_n 0, 1, 0, 0, 0), (33, .getfield 9, 3, 0, 1, 0), (36, .iload_n 3, 1, 0, 0, 0), (37, .invokestatic 66, 3, 142, 0, 0), (40, .dup_x1, 1, 0, 0, 0), (41, .putfield 9, 3, 0, 1, 0), (44, .areturn, 1, 0, 0, 0), (45, .aload_n 0, 1, 0, 0, 0), (46, .bipush 10, 2, 0, 0, 10), (48, .iload_n 1, 1, 0, 0, 0), (49, .invokestatic 79, 3, 0, 6, 0), (52, .anewarray 7, 3, 8, 0, 0), (55, .dup_x1, 1, 0, 0, 0), (56, .putfield 9, 3, 0, 1, 0), (59, .areturn, 1, 0, 0, 0)]
def kc_Jx4a65c_grow_d5877 : List ev_I := [(0, .aload_n 0, 1, 0, 0, 0), (1, .aload_n 0, 1, 0, 0, 0), (2, .getfield 48, 3, 0, 2, 0), (5, .iconst 1, 1, 0, 0, 1), (6, .iadd, 1, 0, 0, 0), (7, .invokevirtual 69, 3, 134, 1, 0), (10, .areturn, 1, 0, 0, 0)]
def kc_Jx4a65c_size_8abf5 : List ev_I := [(0, .aload_n 0, 1, 0, 0, 0), (1, .getfield 48, 3, 0, 2, 0), (4, .ireturn, 1, 0, 0, 0)]
def kc_Jx4a65c_isEmpty_aae02 : List ev_I := [(0, .aload_n 0, 1, 0, 0, 0), (1, .getfield 48, 3, 0, 2, 0), (4, .ifCond .ne 7, 3, 11, 0, 0), (7, .iconst 1, 1, 0, 0, 1), (8, .goto 4, 3, 12, 0, 0), (11, .iconst 0, 1, 0, 0, 0), (12, .ireturn, 1, 0, 0, 0)]
def kc_Jx4a65c_add_72be8 : List ev_I := [(0, .iload_n 3, 1, 0, 0, 0), (1, .aload_n 2, 1, 0, 0, 0), (2, .arraylength, 1, 0, 0, 0), (3, .if_icmp .ne 8, 3, 11, 0, 0), (6, .aload_n 0, 1, 0, 0, 0), (7, .invokevirtual 129, 3, 135, 1, 0), (10, .astore_n 2, 1, 0, 0, 0), (11, .aload_n 2, 1, 0, 0, 0), (12, .iload_n 3, 1, 0, 0, 0), (13, .aload_n 1, 1, 0, 0, 0), (14, .aastore, 1, 8, 4, 0), (15, .aload_n 0, 1, 0, 0, 0), (16, .iload_n 3, 1, 0, 0, 0), (17, .iconst 1, 1, 0, 0, 1), (18, .iadd, 1, 0, 0, 0), (19, .putfield 48, 3, 0, 2, 0), (22, .return_, 1, 0, 0, 0)]
def kc_Jx4a65c_add_9ea2d : List ev_I := [(0, .aload_n 0, 1, 0, 0, 0), (1, .dup, 1, 0, 0, 0), (2, .getfield 63, 3, 0, 0, 2), (5, .iconst 1, 1, 0, 0, 1), (6, .iadd, 1, 0, 0, 0), (7, .putfield 63, 3, 0, 0, 2), (10, .aload_n 0, 1, 0, 0, 0), (11, .aload_n 1, 1, 0, 0, 0), (12, .aload_n 0, 1, 0, 0, 0), (13, .getfield 9, 3, 0, 1, 0), (16, .aload_n 0, 1, 0, 0, 0), (17, .getfield 48, 3, 0, 2, 0), (20, .invokevirtual 131, 3, 138, 1, 0), (23, .iconst 1, 1, 0, 0, 1), (24, .ireturn, 1, 0, 0, 0)]
def kc_Jx4a65c_remove_915e3 : List ev_I := [(0, .iload_n 1, 1, 0, 0, 0), (1, .aload_n 0, 1, 0, 0, 0), (2, .getfield 48, 3, 0, 2, 0), (5, .invokestatic 118, 3, 144, 0, 0), (8, .pop, 1, 0, 0, 0), (9, .aload_n 0, 1, 0, 0, 0), (10, .getfield 9, 3, 0, 1, 0), (13, .astore_n 2, 1, 0, 0, 0), (14, .aload_n 2, 1, 0, 0, 0), (15, .iload_n 1, 1, 0, 0, 0), (16, .aaload, 1, 0, 0, 0), (17, .astore_n 3, 1, 0, 0, 0), (18, .aload_n 0, 1, 0, 0, 0), (19, .aload_n 2, 1, 0, 0, 0), (20, .iload_n 1, 1, 0, 0, 0), (21, .invokevirtual 144, 3, 141, 1, 0), (24, .aload_n 3, 1, 0, 0, 0), (25, .areturn, 1, 0, 0, 0)]
def kc_Jx4a65c_fastRemove_b59b0 : List ev_I := [(0, .aload_n 0, 1, 0, 0, 0), (1, .dup, 1, 0, 0, 0), (2, .getfield 63, 3, 0, 0, 2), (5, .iconst 1, 1, 0, 0, 1), (6, .iadd, 1, 0, 0, 0), (7, .putfield 63, 3, 0, 0, 2), (10, .aload_n 0, 1, 0, 0, 0), (11, .getfield 48, 3, 0, 2, 0), (14, .iconst 1, 1, 0, 0, 1), (15, .isub, 1, 0, 0, 0), (16, .dup, 1, 0, 0, 0), (17, .istore_n 3, 1, 0, 0, 0), (18, .iload_n 2, 1, 0, 0, 0), (19, .if_icmp .le 15, 3, 34, 0, 0), (22, .aload_n 1, 1, 0, 0, 0), (23, .iload_n 2, 1, 0, 0, 0), (24, .iconst 1, 1, 0, 0, 1), (25, .iadd, 1, 0, 0, 0), (26, .aload_n 1, 1, 0, 0, 0), (27, .iload_n 2, 1, 0, 0, 0), (28, .iload_n 3, 1, 0, 0, 0), (29, .iload_n 2, 1, 0, 0, 0), (30, .isub, 1, 0, 0, 0), (31, .invokestatic 112, 3, 0, 99, 0), (34, .aload_n 1, 1, 0, 0, 0), (35, .aload_n 0, 1, 0, 0, 0), (36, .iload_n 3, 1, 0, 0, 0), (37, .dup_x1, 1, 0, 0, 0), (38, .putfield 48, 3, 0, 2, 0), (41, .aconst_null, 1, 0, 0, 0), (42, .aastore, 1, 8, 4, 0), (43, .return_, 1, 0, 0, 0)]
def kc_J7_copyOf_1904c : List ev_I := [(0, .aload_n 0, 1, 0, 0, 0), (1, .iload_n 1, 1, 0, 0, 0), (2, .aload_n 0, 1, 0, 0, 0), (3, .invokevirtual 86, 3, 0, 99, 0), (6, .invokestatic 300, 3, 143, 0, 0), (9, .areturn, 1, 0, 0, 0)]
def kc_J7_copyOf_6403c : List ev_I := [(0, .aload_n 2, 1, 0, 0, 0), (1, .ldc 110, 2, 0, 99, 0), (3, .if_acmp .ne 10, 3, 13, 0, 0), (6, .iload_n 1, 1, 0, 0, 0), (7, .anewarray 2, 3, 8, 0, 0), (10, .goto 14, 3, 24, 0, 0), (13, .aload_n 2, 1, 0, 0, 0), (14, .invokevirtual 90, 3, 0, 99, 0), (17, .iload_n 1, 1, 0, 0, 0), (18, .invokestatic 95, 3, 0, 99, 0), (21, .checkcast 110, 3, 0, 99, 0), (24, .astore_n 3, 1, 0, 0, 0), (25, .aload_n 0, 1, 0, 0, 0), (26, .iconst 0, 1, 0, 0, 0), (27, .aload_n 3, 1, 0, 0, 0), (28, .iconst 0, 1, 0, 0, 0), (29, .aload_n 0, 1, 0, 0, 0), (30, .arraylength, 1, 0, 0, 0), (31, .iload_n 1, 1, 0, 0, 0), (32, .invokestatic 304, 3, 0, 7, 0), (35, .invokestatic 150, 3, 0, 99, 0), (38, .aload_n 3, 1, 0, 0, 0), (39, .areturn, 1, 0, 0, 0)]
def kc_J15_checkIndex_7cf53 : List ev_I := [(0, .iload_n 0, 1, 0, 0, 0), (1, .iload_n 1, 1, 0, 0, 0), (2, .aconst_null, 1, 0, 0, 0), (3, .invokestatic 105, 3, 147, 0, 0), (6, .ireturn, 1, 0, 0, 0)]
def kc_J8_newLength_cabcc : List ev_I := [(0, .iload_n 0, 1, 0, 0, 0), (1, .iload_n 1, 1, 0, 0, 0), (2, .iload_n 2, 1, 0, 0, 0), (3, .invokestatic 194, 3, 0, 6, 0), (6, .iadd, 1, 0, 0, 0), (7, .istore_n 3, 1, 0, 0, 0), (8, .iconst 0, 1, 0, 0, 0), (9, .iload_n 3, 1, 0, 0, 0), (10, .if_icmp .ge 11, 3, 21, 0, 0), (13, .iload_n 3, 1, 0, 0, 0), (14, .ldc 200, 2, 0, 0, 2147483639), (16, .if_icmp .gt 5, 3, 21, 0, 0), (19, .iload_n 3, 1, 0, 0, 0), (20, .ireturn, 1, 0, 0, 0), (21, .iload_n 0, 1, 0, 0, 0), (22, .iload_n 1, 1, 0, 0, 0), (23, .invokestatic 201, 3, 146, 0, 0), (26, .ireturn, 1, 0, 0, 0)]
def kc_J8_hugeLength_7cf53 : List ev_I := [(0, .iload_n 0, 1, 0, 0, 0), (1, .iload_n 1, 1, 0, 0, 0), (2, .iadd, 1, 0, 0, 0), (3, .istore_n 2, 1, 0, 0, 0), (4, .iload_n 2, 1, 0, 0, 0), (5, .ifCond .ge 44, 3, 49, 0, 0), (8, .new 204, 3, 0, 99, 0), (11, .dup, 1, 0, 0, 0), (12, .new 89, 3, 0, 99, 0), (15, .dup, 1, 0, 0, 0), (16, .invokespecial 91, 3, 0, 99, 0), (19, .ldc 206, 2, 0, 99, 0), (21, .invokevirtual 94, 3, 0, 99, 0), (24, .iload_n 0, 1, 0, 0, 0), (25, .invokevirtual 98, 3, 0, 99, 0), (28, .ldc 208, 2, 0, 99, 0), (30, .invokevirtual 94, 3, 0, 99, 0), (33, .iload_n 1, 1, 0, 0, 0), (34, .invokevirtual 98, 3, 0, 99, 0), (37, .ldc 210, 2, 0, 99, 0), (39, .invokevirtual 94, 3, 0, 99, 0), (42, .invokevirtual 101, 3, 0, 99, 0), (45, .invokespecial 212, 3, 0, 99, 0), (48, .athrow, 1, 0, 0, 0), (49, .iload_n 2, 1, 0, 0, 0), (50, .ldc 200, 2, 0, 0, 2147483639), (52, .if_icmp .gt 6, 3, 58, 0, 0), (55, .ldc 200, 2, 0, 0, 2147483639), (57, .ireturn, 1, 0, 0, 0), (58, .iload_n 2, 1, 0, 0, 0), (59, .ireturn, 1, 0, 0, 0)]
def kc_J3_checkIndex_8e157 : List ev_I := [(0, .iload_n 0, 1, 0, 0, 0), (1, .ifCond .lt 8, 3, 9, 0, 0), (4, .iload_n 0, 1, 0, 0, 0), (5, .iload_n 1, 1, 0, 0, 0), (6, .if_icmp .lt 10, 3, 16, 0, 0), (9, .aload_n 2, 1, 0, 0, 0), (10, .iload_n 0, 1, 0, 0, 0), (11, .iload_n 1, 1, 0, 0, 0), (12, .invokestatic 95, 3, 0, 99, 0), (15, .athrow, 1, 0, 0, 0), (16, .iload_n 0, 1, 0, 0, 0), (17, .ireturn, 1, 0, 0, 0)]
def kc_L_service : List ev_I := [(0, .aload_n 0, 1, 0, 0, 0), (1, .iload_n 1, 1, 0, 0, 0), (2, .iload_n 2, 1, 0, 0, 0), (3, .iload_n 3, 1, 0, 0, 0), (4, .iload 4, 2, 0, 0, 0), (6, .iload 5, 2, 0, 0, 0), (8, .invokevirtual 7, 3, 0, 99, 0), (11, .goto 7, 3, 18, 0, 0), (14, .astore 6, 2, 0, 0, 0), (16, .iconst 1, 1, 0, 0, 1), (17, .ireturn, 1, 0, 0, 0), (18, .iconst 0, 1, 0, 0, 0), (19, .ireturn, 1, 0, 0, 0)]
def kc_L_connect : List ev_I := [(0, .aload 6, 2, 0, 0, 0), (2, .iconst 0, 1, 0, 0, 0), (3, .aload_n 0, 1, 0, 0, 0), (4, .iload_n 1, 1, 0, 0, 0), (5, .iload_n 2, 1, 0, 0, 0), (6, .iload_n 3, 1, 0, 0, 0), (7, .iload 4, 2, 0, 0, 0), (9, .iload 5, 2, 0, 0, 0), (11, .invokevirtual 15, 3, 0, 99, 0), (14, .i2l, 1, 0, 0, 0), (15, .lastore, 1, 0, 0, 0), (16, .goto 7, 3, 23, 0, 0), (19, .astore 7, 2, 0, 0, 0), (21, .iconst 1, 1, 0, 0, 1), (22, .ireturn, 1, 0, 0, 0), (23, .iconst 0, 1, 0, 0, 0), (24, .ireturn, 1, 0, 0, 0)]
def kc_L_feed : List ev_I := [(0, .aload 6, 2, 0, 0, 0), (2, .iconst 0, 1, 0, 0, 0), (3, .aload_n 0, 1, 0, 0, 0), (4, .iload_n 1, 1, 0, 0, 0), (5, .iload_n 2, 1, 0, 0, 0), (6, .iload_n 3, 1, 0, 0, 0), (7, .iload 4, 2, 0, 0, 0), (9, .iload 5, 2, 0, 0, 0), (11, .invokevirtual 19, 3, 0, 99, 0), (14, .i2l, 1, 0, 0, 0), (15, .lastore, 1, 0, 0, 0), (16, .goto 11, 3, 27, 0, 0), (19, .astore 7, 2, 0, 0, 0), (21, .iconst 1, 1, 0, 0, 1), (22, .ireturn, 1, 0, 0, 0), (23, .astore 7, 2, 0, 0, 0), (25, .iconst 2, 1, 0, 0, 2), (26, .ireturn, 1, 0, 0, 0), (27, .iconst 0, 1, 0, 0, 0), (28, .ireturn, 1, 0, 0, 0)]
def kc_L_send : List ev_I := [(0, .aload_n 3, 1, 0, 0, 0), (1, .iconst 0, 1, 0, 0, 0), (2, .aload_n 0, 1, 0, 0, 0), (3, .iload_n 1, 1, 0, 0, 0), (4, .iload_n 2, 1, 0, 0, 0), (5, .invokevirtual 24, 3, 0, 99, 0), (8, .i2l, 1, 0, 0, 0), (9, .lastore, 1, 0, 0, 0), (10, .goto 11, 3, 21, 0, 0), (13, .astore 4, 2, 0, 0, 0), (15, .iconst 1, 1, 0, 0, 1), (16, .ireturn, 1, 0, 0, 0), (17, .astore 4, 2, 0, 0, 0), (19, .iconst 2, 1, 0, 0, 2), (20, .ireturn, 1, 0, 0, 0), (21, .iconst 0, 1, 0, 0, 0), (22, .ireturn, 1, 0, 0, 0)]
def kc_L_grant : List ev_I := [(0, .aload 4, 2, 0, 0, 0), (2, .iconst 0, 1, 0, 0, 0), (3, .aload_n 0, 1, 0, 0, 0), (4, .iload_n 1, 1, 0, 0, 0), (5, .iload_n 2, 1, 0, 0, 0), (6, .iload_n 3, 1, 0, 0, 0), (7, .invokevirtual 28, 3, 0, 99, 0), (10, .i2l, 1, 0, 0, 0), (11, .lastore, 1, 0, 0, 0), (12, .goto 11, 3, 23, 0, 0), (15, .astore 5, 2, 0, 0, 0), (17, .iconst 1, 1, 0, 0, 1), (18, .ireturn, 1, 0, 0, 0), (19, .astore 5, 2, 0, 0, 0), (21, .iconst 2, 1, 0, 0, 2), (22, .ireturn, 1, 0, 0, 0), (23, .iconst 0, 1, 0, 0, 0), (24, .ireturn, 1, 0, 0, 0)]
def kc_L_leave : List ev_I := [(0, .aload_n 0, 1, 0, 0, 0), (1, .iload_n 1, 1, 0, 0, 0), (2, .iload_n 2, 1, 0, 0, 0), (3, .invokevirtual 32, 3, 0, 99, 0), (6, .goto 9, 3, 15, 0, 0), (9, .astore_n 3, 1, 0, 0, 0), (10, .iconst 1, 1, 0, 0, 1), (11, .ireturn, 1, 0, 0, 0), (12, .astore_n 3, 1, 0, 0, 0), (13, .iconst 2, 1, 0, 0, 2), (14, .ireturn, 1, 0, 0, 0), (15, .iconst 0, 1, 0, 0, 0), (16, .ireturn, 1, 0, 0, 0)]
def kc_L_take : List ev_I := [(0, .aload_n 2, 1, 0, 0, 0), (1, .iconst 0, 1, 0, 0, 0), (2, .aload_n 0, 1, 0, 0, 0), (3, .iload_n 1, 1, 0, 0, 0), (4, .invokevirtual 36, 3, 0, 99, 0), (7, .i2l, 1, 0, 0, 0), (8, .lastore, 1, 0, 0, 0), (9, .goto 6, 3, 15, 0, 0), (12, .astore_n 3, 1, 0, 0, 0), (13, .iconst 1, 1, 0, 0, 1), (14, .ireturn, 1, 0, 0, 0), (15, .iconst 0, 1, 0, 0, 0), (16, .ireturn, 1, 0, 0, 0)]
def kc_L_lose : List ev_I := [(0, .aload_n 2, 1, 0, 0, 0), (1, .iconst 0, 1, 0, 0, 0), (2, .aload_n 0, 1, 0, 0, 0), (3, .iload_n 1, 1, 0, 0, 0), (4, .invokevirtual 40, 3, 0, 99, 0), (7, .ifCond .eq 7, 3, 14, 0, 0), (10, .lconst 1, 1, 0, 0, 0), (11, .goto 4, 3, 15, 0, 0), (14, .lconst 0, 1, 0, 0, 0), (15, .lastore, 1, 0, 0, 0), (16, .goto 6, 3, 22, 0, 0), (19, .astore_n 3, 1, 0, 0, 0), (20, .iconst 1, 1, 0, 0, 1), (21, .ireturn, 1, 0, 0, 0), (22, .iconst 0, 1, 0, 0, 0), (23, .ireturn, 1, 0, 0, 0)]
def kc_L_inject : List ev_I := [(0, .aload 4, 2, 0, 0, 0), (2, .iconst 0, 1, 0, 0, 0), (3, .aload_n 0, 1, 0, 0, 0), (4, .iload_n 1, 1, 0, 0, 0), (5, .iload_n 2, 1, 0, 0, 0), (6, .iload_n 3, 1, 0, 0, 0), (7, .invokevirtual 44, 3, 0, 99, 0), (10, .i2l, 1, 0, 0, 0), (11, .lastore, 1, 0, 0, 0), (12, .goto 7, 3, 19, 0, 0), (15, .astore 5, 2, 0, 0, 0), (17, .iconst 1, 1, 0, 0, 1), (18, .ireturn, 1, 0, 0, 0), (19, .iconst 0, 1, 0, 0, 0), (20, .ireturn, 1, 0, 0, 0)]
def kc_L_receive : List ev_I := [(0, .aload_n 3, 1, 0, 0, 0), (1, .iconst 0, 1, 0, 0, 0), (2, .aload_n 0, 1, 0, 0, 0), (3, .iload_n 1, 1, 0, 0, 0), (4, .iload_n 2, 1, 0, 0, 0), (5, .invokevirtual 47, 3, 0, 99, 0), (8, .i2l, 1, 0, 0, 0), (9, .lastore, 1, 0, 0, 0), (10, .goto 7, 3, 17, 0, 0), (13, .astore 4, 2, 0, 0, 0), (15, .iconst 1, 1, 0, 0, 1), (16, .ireturn, 1, 0, 0, 0), (17, .iconst 0, 1, 0, 0, 0), (18, .ireturn, 1, 0, 0, 0)]
def kc_L_channel : List ev_I := [(0, .aload 4, 2, 0, 0, 0), (2, .iconst 0, 1, 0, 0, 0), (3, .aload_n 0, 1, 0, 0, 0), (4, .iload_n 1, 1, 0, 0, 0), (5, .iload_n 2, 1, 0, 0, 0), (6, .iload_n 3, 1, 0, 0, 0), (7, .invokevirtual 50, 3, 0, 99, 0), (10, .i2l, 1, 0, 0, 0), (11, .lastore, 1, 0, 0, 0), (12, .goto 7, 3, 19, 0, 0), (15, .astore 5, 2, 0, 0, 0), (17, .iconst 1, 1, 0, 0, 1), (18, .ireturn, 1, 0, 0, 0), (19, .iconst 0, 1, 0, 0, 0), (20, .ireturn, 1, 0, 0, 0)]
def kc_L_count : List ev_I := [(0, .aload_n 3, 1, 0, 0, 0), (1, .iconst 0, 1, 0, 0, 0), (2, .aload_n 0, 1, 0, 0, 0), (3, .iload_n 1, 1, 0, 0, 0), (4, .iload_n 2, 1, 0, 0, 0), (5, .invokevirtual 53, 3, 0, 99, 0), (8, .i2l, 1, 0, 0, 0), (9, .lastore, 1, 0, 0, 0), (10, .goto 7, 3, 17, 0, 0), (13, .astore 4, 2, 0, 0, 0), (15, .iconst 1, 1, 0, 0, 1), (16, .ireturn, 1, 0, 0, 0), (17, .iconst 0, 1, 0, 0, 0), (18, .ireturn, 1, 0, 0, 0)]
def kc_L_law_0 : List ev_I := [(0, .new 8, 3, 7, 0, 0), (3, .dup, 1, 0, 0, 0), (4, .invokespecial 56, 3, 58, 2, 0), (7, .astore_n 1, 1, 0, 0, 0), (8, .new 57, 3, 8, 0, 0), (11, .dup, 1, 0, 0, 0), (12, .invokespecial 59, 3, 78, 2, 0), (15, .astore_n 2, 1, 0, 0, 0), (16, .iconst 1, 1, 0, 0, 1), (17, .newarray .long, 2, 3, 0, 0), (19, .astore_n 3, 1, 0, 0, 0), (20, .iconst 0, 1, 0, 0, 0), (21, .istore 4, 2, 0, 0, 0), (23, .iload 4, 2, 0, 0, 0), (25, .aload_n 0, 1, 0, 0, 0), (26, .arraylength, 1, 0, 0, 0), (27, .bipush 6, 2, 0, 0, 6), (29, .isub, 1, 0, 0, 0), (30, .if_icmp .gt 1029, 3, 1059, 0, 0), (33, .aload_n 0, 1, 0, 0, 0), (34, .iload 4, 2, 0, 0, 0), (36, .iaload, 1, 0, 0, 0), (37, .bipush 15, 2, 0, 0, 15), (39, .iand, 1, 0, 0, 0), (40, .tableswitch 1013 0 13 #[72, 156, 260, 364, 377, 445, 525, 573, 629, 692, 772, 840, 865, 945], 72, 0, 0, 0), (112, .aload_n 1, 1, 0, 0, 0), (113, .aload_n 0, 1, 0, 0, 0), (114, .iload 4, 2, 0, 0, 0), (116, .iconst 1, 1, 0, 0, 1), (117, .iadd, 1, 0, 0, 0), (118, .iaload, 1, 0, 0, 0), (119, .aload_n 0, 1, 0, 0, 0), (120, .iload 4, 2, 0, 0, 0), (122, .iconst 2, 1, 0, 0, 2), (123, .iadd, 1, 0, 0, 0), (124, .iaload, 1, 0, 0, 0), (125, .aload_n 0, 1, 0, 0, 0), (126, .iload 4, 2, 0, 0, 0), (128, .iconst 3, 1, 0, 0, 3), (129, .iadd, 1, 0, 0, 0), (130, .iaload, 1, 0, 0, 0), (131, .aload_n 0, 1, 0, 0, 0), (132, .iload 4, 2, 0, 0, 0), (134, .iconst 4, 1, 0, 0, 4), (135, .iadd, 1, 0, 0, 0), (136, .iaload, 1, 0, 0, 0), (137, .aload_n 0, 1, 0, 0, 0), (138, .iload 4, 2, 0, 0, 0), (140, .iconst 5, 1, 0, 0, 5), (141, .iadd, 1, 0, 0, 0), (142, .iaload, 1, 0, 0, 0), (143, .invokestatic 60, 3, 0, 99, 0), (146, .istore 5, 2, 0, 0, 0), (148, .aload_n 2, 1, 0, 0, 0), (149, .aload_n 0, 1, 0, 0, 0), (150, .iload 4, 2, 0, 0, 0)]
def kc_L_law_1 : List ev_I := [(152, .iconst 1, 1, 0, 0, 1), (153, .iadd, 1, 0, 0, 0), (154, .iaload, 1, 0, 0, 0), (155, .aload_n 0, 1, 0, 0, 0), (156, .iload 4, 2, 0, 0, 0), (158, .iconst 2, 1, 0, 0, 2), (159, .iadd, 1, 0, 0, 0), (160, .iaload, 1, 0, 0, 0), (161, .aload_n 0, 1, 0, 0, 0), (162, .iload 4, 2, 0, 0, 0), (164, .iconst 3, 1, 0, 0, 3), (165, .iadd, 1, 0, 0, 0), (166, .iaload, 1, 0, 0, 0), (167, .aload_n 0, 1, 0, 0, 0), (168, .iload 4, 2, 0, 0, 0), (170, .iconst 4, 1, 0, 0, 4), (171, .iadd, 1, 0, 0, 0), (172, .iaload, 1, 0, 0, 0), (173, .aload_n 0, 1, 0, 0, 0), (174, .iload 4, 2, 0, 0, 0), (176, .iconst 5, 1, 0, 0, 5), (177, .iadd, 1, 0, 0, 0), (178, .iaload, 1, 0, 0, 0), (179, .invokevirtual 65, 3, 119, 1, 0), (182, .aload_n 2, 1, 0, 0, 0), (183, .invokevirtual 66, 3, 79, 1, 0), (186, .iload 5, 2, 0, 0, 0), (188, .if_icmp .eq 5, 3, 193, 0, 0), (191, .iconst 0, 1, 0, 0, 0), (192, .ireturn, 1, 0, 0, 0), (193, .goto 860, 3, 1053, 0, 0), (196, .aload_n 1, 1, 0, 0, 0), (197, .aload_n 0, 1, 0, 0, 0), (198, .iload 4, 2, 0, 0, 0), (200, .iconst 1, 1, 0, 0, 1), (201, .iadd, 1, 0, 0, 0), (202, .iaload, 1, 0, 0, 0), (203, .aload_n 0, 1, 0, 0, 0), (204, .iload 4, 2, 0, 0, 0), (206, .iconst 2, 1, 0, 0, 2), (207, .iadd, 1, 0, 0, 0), (208, .iaload, 1, 0, 0, 0), (209, .aload_n 0, 1, 0, 0, 0), (210, .iload 4, 2, 0, 0, 0), (212, .iconst 3, 1, 0, 0, 3), (213, .iadd, 1, 0, 0, 0), (214, .iaload, 1, 0, 0, 0), (215, .aload_n 0, 1, 0, 0, 0), (216, .iload 4, 2, 0, 0, 0), (218, .iconst 4, 1, 0, 0, 4), (219, .iadd, 1, 0, 0, 0), (220, .iaload, 1, 0, 0, 0), (221, .aload_n 0, 1, 0, 0, 0), (222, .iload 4, 2, 0, 0, 0), (224, .iconst 5, 1, 0, 0, 5), (225, .iadd, 1, 0, 0, 0)]
def kc_L_law_2 : List ev_I := [(226, .iaload, 1, 0, 0, 0), (227, .aload_n 3, 1, 0, 0, 0), (228, .invokestatic 70, 3, 0, 99, 0), (231, .istore 5, 2, 0, 0, 0), (233, .aload_n 2, 1, 0, 0, 0), (234, .aload_n 0, 1, 0, 0, 0), (235, .iload 4, 2, 0, 0, 0), (237, .iconst 1, 1, 0, 0, 1), (238, .iadd, 1, 0, 0, 0), (239, .iaload, 1, 0, 0, 0), (240, .aload_n 0, 1, 0, 0, 0), (241, .iload 4, 2, 0, 0, 0), (243, .iconst 2, 1, 0, 0, 2), (244, .iadd, 1, 0, 0, 0), (245, .iaload, 1, 0, 0, 0), (246, .aload_n 0, 1, 0, 0, 0), (247, .iload 4, 2, 0, 0, 0), (249, .iconst 3, 1, 0, 0, 3), (250, .iadd, 1, 0, 0, 0), (251, .iaload, 1, 0, 0, 0), (252, .aload_n 0, 1, 0, 0, 0), (253, .iload 4, 2, 0, 0, 0), (255, .iconst 4, 1, 0, 0, 4), (256, .iadd, 1, 0, 0, 0), (257, .iaload, 1, 0, 0, 0), (258, .aload_n 0, 1, 0, 0, 0), (259, .iload 4, 2, 0, 0, 0), (261, .iconst 5, 1, 0, 0, 5), (262, .iadd, 1, 0, 0, 0), (263, .iaload, 1, 0, 0, 0), (264, .invokevirtual 73, 3, 120, 1, 0), (267, .istore 6, 2, 0, 0, 0), (269, .aload_n 2, 1, 0, 0, 0), (270, .invokevirtual 66, 3, 79, 1, 0), (273, .iload 5, 2, 0, 0, 0), (275, .if_icmp .eq 5, 3, 280, 0, 0), (278, .iconst 0, 1, 0, 0, 0), (279, .ireturn, 1, 0, 0, 0), (280, .iload 5, 2, 0, 0, 0), (282, .ifCond .ne 15, 3, 297, 0, 0), (285, .aload_n 3, 1, 0, 0, 0), (286, .iconst 0, 1, 0, 0, 0), (287, .laload, 1, 0, 0, 0), (288, .iload 6, 2, 0, 0, 0), (290, .i2l, 1, 0, 0, 0), (291, .lcmp, 1, 0, 0, 0), (292, .ifCond .eq 5, 3, 297, 0, 0), (295, .iconst 0, 1, 0, 0, 0), (296, .ireturn, 1, 0, 0, 0), (297, .goto 756, 3, 1053, 0, 0), (300, .aload_n 1, 1, 0, 0, 0), (301, .aload_n 0, 1, 0, 0, 0), (302, .iload 4, 2, 0, 0, 0), (304, .iconst 1, 1, 0, 0, 1), (305, .iadd, 1, 0, 0, 0), (306, .iaload, 1, 0, 0, 0)]
def kc_L_law_3 : List ev_I := [(307, .aload_n 0, 1, 0, 0, 0), (308, .iload 4, 2, 0, 0, 0), (310, .iconst 2, 1, 0, 0, 2), (311, .iadd, 1, 0, 0, 0), (312, .iaload, 1, 0, 0, 0), (313, .aload_n 0, 1, 0, 0, 0), (314, .iload 4, 2, 0, 0, 0), (316, .iconst 3, 1, 0, 0, 3), (317, .iadd, 1, 0, 0, 0), (318, .iaload, 1, 0, 0, 0), (319, .aload_n 0, 1, 0, 0, 0), (320, .iload 4, 2, 0, 0, 0), (322, .iconst 4, 1, 0, 0, 4), (323, .iadd, 1, 0, 0, 0), (324, .iaload, 1, 0, 0, 0), (325, .aload_n 0, 1, 0, 0, 0), (326, .iload 4, 2, 0, 0, 0), (328, .iconst 5, 1, 0, 0, 5), (329, .iadd, 1, 0, 0, 0), (330, .iaload, 1, 0, 0, 0), (331, .aload_n 3, 1, 0, 0, 0), (332, .invokestatic 74, 3, 0, 99, 0), (335, .istore 5, 2, 0, 0, 0), (337, .aload_n 2, 1, 0, 0, 0), (338, .aload_n 0, 1, 0, 0, 0), (339, .iload 4, 2, 0, 0, 0), (341, .iconst 1, 1, 0, 0, 1), (342, .iadd, 1, 0, 0, 0), (343, .iaload, 1, 0, 0, 0), (344, .aload_n 0, 1, 0, 0, 0), (345, .iload 4, 2, 0, 0, 0), (347, .iconst 2, 1, 0, 0, 2), (348, .iadd, 1, 0, 0, 0), (349, .iaload, 1, 0, 0, 0), (350, .aload_n 0, 1, 0, 0, 0), (351, .iload 4, 2, 0, 0, 0), (353, .iconst 3, 1, 0, 0, 3), (354, .iadd, 1, 0, 0, 0), (355, .iaload, 1, 0, 0, 0), (356, .aload_n 0, 1, 0, 0, 0), (357, .iload 4, 2, 0, 0, 0), (359, .iconst 4, 1, 0, 0, 4), (360, .iadd, 1, 0, 0, 0), (361, .iaload, 1, 0, 0, 0), (362, .aload_n 0, 1, 0, 0, 0), (363, .iload 4, 2, 0, 0, 0), (365, .iconst 5, 1, 0, 0, 5), (366, .iadd, 1, 0, 0, 0), (367, .iaload, 1, 0, 0, 0), (368, .invokevirtual 76, 3, 121, 1, 0), (371, .istore 6, 2, 0, 0, 0), (373, .aload_n 2, 1, 0, 0, 0), (374, .invokevirtual 66, 3, 79, 1, 0), (377, .iload 5, 2, 0, 0, 0), (379, .if_icmp .eq 5, 3, 384, 0, 0), (382, .iconst 0, 1, 0, 0, 0)]
def kc_L_law_4 : List ev_I := [(383, .ireturn, 1, 0, 0, 0), (384, .iload 5, 2, 0, 0, 0), (386, .ifCond .ne 15, 3, 401, 0, 0), (389, .aload_n 3, 1, 0, 0, 0), (390, .iconst 0, 1, 0, 0, 0), (391, .laload, 1, 0, 0, 0), (392, .iload 6, 2, 0, 0, 0), (394, .i2l, 1, 0, 0, 0), (395, .lcmp, 1, 0, 0, 0), (396, .ifCond .eq 5, 3, 401, 0, 0), (399, .iconst 0, 1, 0, 0, 0), (400, .ireturn, 1, 0, 0, 0), (401, .goto 652, 3, 1053, 0, 0), (404, .aload_n 1, 1, 0, 0, 0), (405, .invokevirtual 77, 3, 62, 1, 0), (408, .aload_n 2, 1, 0, 0, 0), (409, .invokevirtual 80, 3, 122, 1, 0), (412, .if_icmp .eq 641, 3, 1053, 0, 0), (415, .iconst 0, 1, 0, 0, 0), (416, .ireturn, 1, 0, 0, 0), (417, .aload_n 1, 1, 0, 0, 0), (418, .aload_n 0, 1, 0, 0, 0), (419, .iload 4, 2, 0, 0, 0), (421, .iconst 1, 1, 0, 0, 1), (422, .iadd, 1, 0, 0, 0), (423, .iaload, 1, 0, 0, 0), (424, .aload_n 0, 1, 0, 0, 0), (425, .iload 4, 2, 0, 0, 0), (427, .iconst 2, 1, 0, 0, 2), (428, .iadd, 1, 0, 0, 0), (429, .iaload, 1, 0, 0, 0), (430, .aload_n 3, 1, 0, 0, 0), (431, .invokestatic 81, 3, 0, 99, 0), (434, .istore 5, 2, 0, 0, 0), (436, .aload_n 2, 1, 0, 0, 0), (437, .aload_n 0, 1, 0, 0, 0), (438, .iload 4, 2, 0, 0, 0), (440, .iconst 1, 1, 0, 0, 1), (441, .iadd, 1, 0, 0, 0), (442, .iaload, 1, 0, 0, 0), (443, .aload_n 0, 1, 0, 0, 0), (444, .iload 4, 2, 0, 0, 0), (446, .iconst 2, 1, 0, 0, 2), (447, .iadd, 1, 0, 0, 0), (448, .iaload, 1, 0, 0, 0), (449, .invokevirtual 84, 3, 124, 1, 0), (452, .istore 6, 2, 0, 0, 0), (454, .aload_n 2, 1, 0, 0, 0), (455, .invokevirtual 66, 3, 79, 1, 0), (458, .iload 5, 2, 0, 0, 0), (460, .if_icmp .eq 5, 3, 465, 0, 0), (463, .iconst 0, 1, 0, 0, 0), (464, .ireturn, 1, 0, 0, 0), (465, .iload 5, 2, 0, 0, 0), (467, .ifCond .ne 15, 3, 482, 0, 0), (470, .aload_n 3, 1, 0, 0, 0)]
def kc_L_law_5 : List ev_I := [(471, .iconst 0, 1, 0, 0, 0), (472, .laload, 1, 0, 0, 0), (473, .iload 6, 2, 0, 0, 0), (475, .i2l, 1, 0, 0, 0), (476, .lcmp, 1, 0, 0, 0), (477, .ifCond .eq 5, 3, 482, 0, 0), (480, .iconst 0, 1, 0, 0, 0), (481, .ireturn, 1, 0, 0, 0), (482, .goto 571, 3, 1053, 0, 0), (485, .aload_n 1, 1, 0, 0, 0), (486, .aload_n 0, 1, 0, 0, 0), (487, .iload 4, 2, 0, 0, 0), (489, .iconst 1, 1, 0, 0, 1), (490, .iadd, 1, 0, 0, 0), (491, .iaload, 1, 0, 0, 0), (492, .aload_n 0, 1, 0, 0, 0), (493, .iload 4, 2, 0, 0, 0), (495, .iconst 2, 1, 0, 0, 2), (496, .iadd, 1, 0, 0, 0), (497, .iaload, 1, 0, 0, 0), (498, .aload_n 0, 1, 0, 0, 0), (499, .iload 4, 2, 0, 0, 0), (501, .iconst 3, 1, 0, 0, 3), (502, .iadd, 1, 0, 0, 0), (503, .iaload, 1, 0, 0, 0), (504, .aload_n 3, 1, 0, 0, 0), (505, .invokestatic 85, 3, 0, 99, 0), (508, .istore 5, 2, 0, 0, 0), (510, .aload_n 2, 1, 0, 0, 0), (511, .aload_n 0, 1, 0, 0, 0), (512, .iload 4, 2, 0, 0, 0), (514, .iconst 1, 1, 0, 0, 1), (515, .iadd, 1, 0, 0, 0), (516, .iaload, 1, 0, 0, 0), (517, .aload_n 0, 1, 0, 0, 0), (518, .iload 4, 2, 0, 0, 0), (520, .iconst 2, 1, 0, 0, 2), (521, .iadd, 1, 0, 0, 0), (522, .iaload, 1, 0, 0, 0), (523, .aload_n 0, 1, 0, 0, 0), (524, .iload 4, 2, 0, 0, 0), (526, .iconst 3, 1, 0, 0, 3), (527, .iadd, 1, 0, 0, 0), (528, .iaload, 1, 0, 0, 0), (529, .invokevirtual 88, 3, 125, 1, 0), (532, .istore 6, 2, 0, 0, 0), (534, .aload_n 2, 1, 0, 0, 0), (535, .invokevirtual 66, 3, 79, 1, 0), (538, .iload 5, 2, 0, 0, 0), (540, .if_icmp .eq 5, 3, 545, 0, 0), (543, .iconst 0, 1, 0, 0, 0), (544, .ireturn, 1, 0, 0, 0), (545, .iload 5, 2, 0, 0, 0), (547, .ifCond .ne 15, 3, 562, 0, 0), (550, .aload_n 3, 1, 0, 0, 0), (551, .iconst 0, 1, 0, 0, 0)]
def kc_L_law_6 : List ev_I := [(552, .laload, 1, 0, 0, 0), (553, .iload 6, 2, 0, 0, 0), (555, .i2l, 1, 0, 0, 0), (556, .lcmp, 1, 0, 0, 0), (557, .ifCond .eq 5, 3, 562, 0, 0), (560, .iconst 0, 1, 0, 0, 0), (561, .ireturn, 1, 0, 0, 0), (562, .goto 491, 3, 1053, 0, 0), (565, .aload_n 1, 1, 0, 0, 0), (566, .aload_n 0, 1, 0, 0, 0), (567, .iload 4, 2, 0, 0, 0), (569, .iconst 1, 1, 0, 0, 1), (570, .iadd, 1, 0, 0, 0), (571, .iaload, 1, 0, 0, 0), (572, .aload_n 0, 1, 0, 0, 0), (573, .iload 4, 2, 0, 0, 0), (575, .iconst 2, 1, 0, 0, 2), (576, .iadd, 1, 0, 0, 0), (577, .iaload, 1, 0, 0, 0), (578, .invokestatic 89, 3, 0, 99, 0), (581, .istore 5, 2, 0, 0, 0), (583, .aload_n 2, 1, 0, 0, 0), (584, .aload_n 0, 1, 0, 0, 0), (585, .iload 4, 2, 0, 0, 0), (587, .iconst 1, 1, 0, 0, 1), (588, .iadd, 1, 0, 0, 0), (589, .iaload, 1, 0, 0, 0), (590, .aload_n 0, 1, 0, 0, 0), (591, .iload 4, 2, 0, 0, 0), (593, .iconst 2, 1, 0, 0, 2), (594, .iadd, 1, 0, 0, 0), (595, .iaload, 1, 0, 0, 0), (596, .invokevirtual 92, 3, 126, 1, 0), (599, .aload_n 2, 1, 0, 0, 0), (600, .invokevirtual 66, 3, 79, 1, 0), (603, .iload 5, 2, 0, 0, 0), (605, .if_icmp .eq 5, 3, 610, 0, 0), (608, .iconst 0, 1, 0, 0, 0), (609, .ireturn, 1, 0, 0, 0), (610, .goto 443, 3, 1053, 0, 0), (613, .aload_n 1, 1, 0, 0, 0), (614, .aload_n 0, 1, 0, 0, 0), (615, .iload 4, 2, 0, 0, 0), (617, .iconst 1, 1, 0, 0, 1), (618, .iadd, 1, 0, 0, 0), (619, .iaload, 1, 0, 0, 0), (620, .aload_n 3, 1, 0, 0, 0), (621, .invokestatic 93, 3, 0, 99, 0), (624, .istore 5, 2, 0, 0, 0), (626, .aload_n 2, 1, 0, 0, 0), (627, .aload_n 0, 1, 0, 0, 0), (628, .iload 4, 2, 0, 0, 0), (630, .iconst 1, 1, 0, 0, 1), (631, .iadd, 1, 0, 0, 0), (632, .iaload, 1, 0, 0, 0), (633, .invokevirtual 96, 3, 115, 1, 0)]
def kc_L_law_7 : List ev_I := [(636, .istore 6, 2, 0, 0, 0), (638, .aload_n 2, 1, 0, 0, 0), (639, .invokevirtual 66, 3, 79, 1, 0), (642, .iload 5, 2, 0, 0, 0), (644, .if_icmp .eq 5, 3, 649, 0, 0), (647, .iconst 0, 1, 0, 0, 0), (648, .ireturn, 1, 0, 0, 0), (649, .iload 5, 2, 0, 0, 0), (651, .ifCond .ne 15, 3, 666, 0, 0), (654, .aload_n 3, 1, 0, 0, 0), (655, .iconst 0, 1, 0, 0, 0), (656, .laload, 1, 0, 0, 0), (657, .iload 6, 2, 0, 0, 0), (659, .i2l, 1, 0, 0, 0), (660, .lcmp, 1, 0, 0, 0), (661, .ifCond .eq 5, 3, 666, 0, 0), (664, .iconst 0, 1, 0, 0, 0), (665, .ireturn, 1, 0, 0, 0), (666, .goto 387, 3, 1053, 0, 0), (669, .aload_n 1, 1, 0, 0, 0), (670, .aload_n 0, 1, 0, 0, 0), (671, .iload 4, 2, 0, 0, 0), (673, .iconst 1, 1, 0, 0, 1), (674, .iadd, 1, 0, 0, 0), (675, .iaload, 1, 0, 0, 0), (676, .aload_n 3, 1, 0, 0, 0), (677, .invokestatic 97, 3, 0, 99, 0), (680, .istore 5, 2, 0, 0, 0), (682, .aload_n 2, 1, 0, 0, 0), (683, .aload_n 0, 1, 0, 0, 0), (684, .iload 4, 2, 0, 0, 0), (686, .iconst 1, 1, 0, 0, 1), (687, .iadd, 1, 0, 0, 0), (688, .iaload, 1, 0, 0, 0), (689, .invokevirtual 99, 3, 116, 1, 0), (692, .istore 6, 2, 0, 0, 0), (694, .aload_n 2, 1, 0, 0, 0), (695, .invokevirtual 66, 3, 79, 1, 0), (698, .iload 5, 2, 0, 0, 0), (700, .if_icmp .eq 5, 3, 705, 0, 0), (703, .iconst 0, 1, 0, 0, 0), (704, .ireturn, 1, 0, 0, 0), (705, .iload 5, 2, 0, 0, 0), (707, .ifCond .ne 22, 3, 729, 0, 0), (710, .aload_n 3, 1, 0, 0, 0), (711, .iconst 0, 1, 0, 0, 0), (712, .laload, 1, 0, 0, 0), (713, .iload 6, 2, 0, 0, 0), (715, .ifCond .eq 7, 3, 722, 0, 0), (718, .lconst 1, 1, 0, 0, 0), (719, .goto 4, 3, 723, 0, 0), (722, .lconst 0, 1, 0, 0, 0), (723, .lcmp, 1, 0, 0, 0), (724, .ifCond .eq 5, 3, 729, 0, 0), (727, .iconst 0, 1, 0, 0, 0), (728, .ireturn, 1, 0, 0, 0)]
def kc_L_law_8 : List ev_I := [(729, .goto 324, 3, 1053, 0, 0), (732, .aload_n 1, 1, 0, 0, 0), (733, .aload_n 0, 1, 0, 0, 0), (734, .iload 4, 2, 0, 0, 0), (736, .iconst 1, 1, 0, 0, 1), (737, .iadd, 1, 0, 0, 0), (738, .iaload, 1, 0, 0, 0), (739, .aload_n 0, 1, 0, 0, 0), (740, .iload 4, 2, 0, 0, 0), (742, .iconst 2, 1, 0, 0, 2), (743, .iadd, 1, 0, 0, 0), (744, .iaload, 1, 0, 0, 0), (745, .aload_n 0, 1, 0, 0, 0), (746, .iload 4, 2, 0, 0, 0), (748, .iconst 3, 1, 0, 0, 3), (749, .iadd, 1, 0, 0, 0), (750, .iaload, 1, 0, 0, 0), (751, .aload_n 3, 1, 0, 0, 0), (752, .invokestatic 100, 3, 0, 99, 0), (755, .istore 5, 2, 0, 0, 0), (757, .aload_n 2, 1, 0, 0, 0), (758, .aload_n 0, 1, 0, 0, 0), (759, .iload 4, 2, 0, 0, 0), (761, .iconst 1, 1, 0, 0, 1), (762, .iadd, 1, 0, 0, 0), (763, .iaload, 1, 0, 0, 0), (764, .aload_n 0, 1, 0, 0, 0), (765, .iload 4, 2, 0, 0, 0), (767, .iconst 2, 1, 0, 0, 2), (768, .iadd, 1, 0, 0, 0), (769, .iaload, 1, 0, 0, 0), (770, .aload_n 0, 1, 0, 0, 0), (771, .iload 4, 2, 0, 0, 0), (773, .iconst 3, 1, 0, 0, 3), (774, .iadd, 1, 0, 0, 0), (775, .iaload, 1, 0, 0, 0), (776, .invokevirtual 102, 3, 117, 1, 0), (779, .istore 6, 2, 0, 0, 0), (781, .aload_n 2, 1, 0, 0, 0), (782, .invokevirtual 66, 3, 79, 1, 0), (785, .iload 5, 2, 0, 0, 0), (787, .if_icmp .eq 5, 3, 792, 0, 0), (790, .iconst 0, 1, 0, 0, 0), (791, .ireturn, 1, 0, 0, 0), (792, .iload 5, 2, 0, 0, 0), (794, .ifCond .ne 15, 3, 809, 0, 0), (797, .aload_n 3, 1, 0, 0, 0), (798, .iconst 0, 1, 0, 0, 0), (799, .laload, 1, 0, 0, 0), (800, .iload 6, 2, 0, 0, 0), (802, .i2l, 1, 0, 0, 0), (803, .lcmp, 1, 0, 0, 0), (804, .ifCond .eq 5, 3, 809, 0, 0), (807, .iconst 0, 1, 0, 0, 0), (808, .ireturn, 1, 0, 0, 0), (809, .goto 244, 3, 1053, 0, 0)]
def kc_L_law_9 : List ev_I := [(812, .aload_n 1, 1, 0, 0, 0), (813, .aload_n 0, 1, 0, 0, 0), (814, .iload 4, 2, 0, 0, 0), (816, .iconst 1, 1, 0, 0, 1), (817, .iadd, 1, 0, 0, 0), (818, .iaload, 1, 0, 0, 0), (819, .aload_n 0, 1, 0, 0, 0), (820, .iload 4, 2, 0, 0, 0), (822, .iconst 2, 1, 0, 0, 2), (823, .iadd, 1, 0, 0, 0), (824, .iaload, 1, 0, 0, 0), (825, .aload_n 3, 1, 0, 0, 0), (826, .invokestatic 103, 3, 0, 99, 0), (829, .istore 5, 2, 0, 0, 0), (831, .aload_n 2, 1, 0, 0, 0), (832, .aload_n 0, 1, 0, 0, 0), (833, .iload 4, 2, 0, 0, 0), (835, .iconst 1, 1, 0, 0, 1), (836, .iadd, 1, 0, 0, 0), (837, .iaload, 1, 0, 0, 0), (838, .aload_n 0, 1, 0, 0, 0), (839, .iload 4, 2, 0, 0, 0), (841, .iconst 2, 1, 0, 0, 2), (842, .iadd, 1, 0, 0, 0), (843, .iaload, 1, 0, 0, 0), (844, .invokevirtual 105, 3, 127, 1, 0), (847, .istore 6, 2, 0, 0, 0), (849, .aload_n 2, 1, 0, 0, 0), (850, .invokevirtual 66, 3, 79, 1, 0), (853, .iload 5, 2, 0, 0, 0), (855, .if_icmp .eq 5, 3, 860, 0, 0), (858, .iconst 0, 1, 0, 0, 0), (859, .ireturn, 1, 0, 0, 0), (860, .iload 5, 2, 0, 0, 0), (862, .ifCond .ne 15, 3, 877, 0, 0), (865, .aload_n 3, 1, 0, 0, 0), (866, .iconst 0, 1, 0, 0, 0), (867, .laload, 1, 0, 0, 0), (868, .iload 6, 2, 0, 0, 0), (870, .i2l, 1, 0, 0, 0), (871, .lcmp, 1, 0, 0, 0), (872, .ifCond .eq 5, 3, 877, 0, 0), (875, .iconst 0, 1, 0, 0, 0), (876, .ireturn, 1, 0, 0, 0), (877, .goto 176, 3, 1053, 0, 0), (880, .aload_n 1, 1, 0, 0, 0), (881, .aload_n 0, 1, 0, 0, 0), (882, .iload 4, 2, 0, 0, 0), (884, .iconst 1, 1, 0, 0, 1), (885, .iadd, 1, 0, 0, 0), (886, .iaload, 1, 0, 0, 0), (887, .invokevirtual 106, 3, 70, 1, 0), (890, .aload_n 2, 1, 0, 0, 0), (891, .aload_n 0, 1, 0, 0, 0), (892, .iload 4, 2, 0, 0, 0), (894, .iconst 1, 1, 0, 0, 1)]
def kc_L_law_10 : List ev_I := [(895, .iadd, 1, 0, 0, 0), (896, .iaload, 1, 0, 0, 0), (897, .invokevirtual 109, 3, 128, 1, 0), (900, .if_icmp .eq 153, 3, 1053, 0, 0), (903, .iconst 0, 1, 0, 0, 0), (904, .ireturn, 1, 0, 0, 0), (905, .aload_n 1, 1, 0, 0, 0), (906, .aload_n 0, 1, 0, 0, 0), (907, .iload 4, 2, 0, 0, 0), (909, .iconst 1, 1, 0, 0, 1), (910, .iadd, 1, 0, 0, 0), (911, .iaload, 1, 0, 0, 0), (912, .aload_n 0, 1, 0, 0, 0), (913, .iload 4, 2, 0, 0, 0), (915, .iconst 2, 1, 0, 0, 2), (916, .iadd, 1, 0, 0, 0), (917, .iaload, 1, 0, 0, 0), (918, .aload_n 0, 1, 0, 0, 0), (919, .iload 4, 2, 0, 0, 0), (921, .iconst 3, 1, 0, 0, 3), (922, .iadd, 1, 0, 0, 0), (923, .iaload, 1, 0, 0, 0), (924, .aload_n 3, 1, 0, 0, 0), (925, .invokestatic 110, 3, 0, 99, 0), (928, .istore 5, 2, 0, 0, 0), (930, .aload_n 2, 1, 0, 0, 0), (931, .aload_n 0, 1, 0, 0, 0), (932, .iload 4, 2, 0, 0, 0), (934, .iconst 1, 1, 0, 0, 1), (935, .iadd, 1, 0, 0, 0), (936, .iaload, 1, 0, 0, 0), (937, .aload_n 0, 1, 0, 0, 0), (938, .iload 4, 2, 0, 0, 0), (940, .iconst 2, 1, 0, 0, 2), (941, .iadd, 1, 0, 0, 0), (942, .iaload, 1, 0, 0, 0), (943, .aload_n 0, 1, 0, 0, 0), (944, .iload 4, 2, 0, 0, 0), (946, .iconst 3, 1, 0, 0, 3), (947, .iadd, 1, 0, 0, 0), (948, .iaload, 1, 0, 0, 0), (949, .invokevirtual 112, 3, 129, 1, 0), (952, .istore 6, 2, 0, 0, 0), (954, .aload_n 2, 1, 0, 0, 0), (955, .invokevirtual 66, 3, 79, 1, 0), (958, .iload 5, 2, 0, 0, 0), (960, .if_icmp .eq 5, 3, 965, 0, 0), (963, .iconst 0, 1, 0, 0, 0), (964, .ireturn, 1, 0, 0, 0), (965, .iload 5, 2, 0, 0, 0), (967, .ifCond .ne 15, 3, 982, 0, 0), (970, .aload_n 3, 1, 0, 0, 0), (971, .iconst 0, 1, 0, 0, 0), (972, .laload, 1, 0, 0, 0), (973, .iload 6, 2, 0, 0, 0), (975, .i2l, 1, 0, 0, 0)]
def kc_L_law_11 : List ev_I := [(976, .lcmp, 1, 0, 0, 0), (977, .ifCond .eq 5, 3, 982, 0, 0), (980, .iconst 0, 1, 0, 0, 0), (981, .ireturn, 1, 0, 0, 0), (982, .goto 71, 3, 1053, 0, 0), (985, .aload_n 1, 1, 0, 0, 0), (986, .aload_n 0, 1, 0, 0, 0), (987, .iload 4, 2, 0, 0, 0), (989, .iconst 1, 1, 0, 0, 1), (990, .iadd, 1, 0, 0, 0), (991, .iaload, 1, 0, 0, 0), (992, .aload_n 0, 1, 0, 0, 0), (993, .iload 4, 2, 0, 0, 0), (995, .iconst 2, 1, 0, 0, 2), (996, .iadd, 1, 0, 0, 0), (997, .iaload, 1, 0, 0, 0), (998, .aload_n 3, 1, 0, 0, 0), (999, .invokestatic 113, 3, 0, 99, 0), (1002, .istore 5, 2, 0, 0, 0), (1004, .aload_n 2, 1, 0, 0, 0), (1005, .aload_n 0, 1, 0, 0, 0), (1006, .iload 4, 2, 0, 0, 0), (1008, .iconst 1, 1, 0, 0, 1), (1009, .iadd, 1, 0, 0, 0), (1010, .iaload, 1, 0, 0, 0), (1011, .aload_n 0, 1, 0, 0, 0), (1012, .iload 4, 2, 0, 0, 0), (1014, .iconst 2, 1, 0, 0, 2), (1015, .iadd, 1, 0, 0, 0), (1016, .iaload, 1, 0, 0, 0), (1017, .invokevirtual 115, 3, 130, 1, 0), (1020, .istore 6, 2, 0, 0, 0), (1022, .aload_n 2, 1, 0, 0, 0), (1023, .invokevirtual 66, 3, 79, 1, 0), (1026, .iload 5, 2, 0, 0, 0), (1028, .if_icmp .eq 5, 3, 1033, 0, 0), (1031, .iconst 0, 1, 0, 0, 0), (1032, .ireturn, 1, 0, 0, 0), (1033, .iload 5, 2, 0, 0, 0), (1035, .ifCond .ne 15, 3, 1050, 0, 0), (1038, .aload_n 3, 1, 0, 0, 0), (1039, .iconst 0, 1, 0, 0, 0), (1040, .laload, 1, 0, 0, 0), (1041, .iload 6, 2, 0, 0, 0), (1043, .i2l, 1, 0, 0, 0), (1044, .lcmp, 1, 0, 0, 0), (1045, .ifCond .eq 5, 3, 1050, 0, 0), (1048, .iconst 0, 1, 0, 0, 0), (1049, .ireturn, 1, 0, 0, 0), (1050, .goto 3, 3, 1053, 0, 0), (1053, .iinc 4 6, 3, 0, 0, 6), (1056, .goto (-1033), 3, 23, 0, 0), (1059, .iconst 1, 1, 0, 0, 1), (1060, .ireturn, 1, 0, 0, 0)]
def kc_L_law : List ev_I := kc_L_law_0 ++ (kc_L_law_1 ++ (kc_L_law_2 ++ (kc_L_law_3 ++ (kc_L_law_4 ++ (kc_L_law_5 ++ (kc_L_law_6 ++ (kc_L_law_7 ++ (kc_L_law_8 ++ (kc_L_law_9 ++ (kc_L_law_10 ++ (kc_L_law_11)))))))))))
def ev_ms : List (ev_Md × List ev_I) := [((yX0_init, cX0_init, 2, none, 0, 1, 2, 22, 1184), kc_X0_init),
  ((yX0_setOwn, cX0_setOwn, 4, none, 0, 3, 1, 0, 0), kc_X0_setOwn),
  ((yX0_open, cX0_open, 5, none, 0, 4, 1, 0, 0), kc_X0_open),
  ((yX0_close, cX0_close, 1, none, 0, 0, 1, 0, 0), kc_X0_close),
  ((yX0_forgetTexts, cX0_forgetTexts, 1, none, 0, 0, 1, 0, 0), kc_X0_forgetTexts),
  ((yX0_hasFar, cX0_hasFar, 2, (some .boolean), 0, 1, 1, 0, 0), kc_X0_hasFar),
  ((yX0_putText, cX0_putText, 3, (some .boolean), 0, 1, 1, 0, 0), kc_X0_putText),
  ((yX0_hasSegment, cX0_hasSegment, 1, (some .boolean), 0, 0, 1, 0, 0), kc_X0_hasSegment),
  ((yX0_writeSegment, cX0_writeSegment, 4, none, 0, 1, 1, 0, 0), kc_X0_writeSegment),
  ((yX0_readSegment, cX0_readSegment, 4, (some .boolean), 0, 1, 1, 0, 0), kc_X0_readSegment),
  ((yX0_keepWholeText, cX0_keepWholeText, 2, (some .boolean), 0, 0, 1, 0, 0), kc_X0_keepWholeText),
  ((yX1_init, cX1_init, 2, none, 1, 0, 2, 199, 9385), kc_X1_init),
  ((yX1_tellService, cX1_tellService, 5, none, 1, 4, 1, 0, 0), kc_X1_tellService),
  ((yX1_hasService, cX1_hasService, 2, (some .boolean), 1, 1, 1, 0, 0), kc_X1_hasService),
  ((yX1_ask, cX1_ask, 7, (some .int), 1, 4, 1, 3, 730), kc_X1_ask),
  ((yX1_giveCredits, cX1_giveCredits, 4, none, 1, 2, 1, 3, 730), kc_X1_giveCredits),
  ((yX1_beginLeaving, cX1_beginLeaving, 3, none, 1, 1, 1, 3, 730), kc_X1_beginLeaving),
  ((yX1_nextId, cX1_nextId, 1, (some .int), 1, 0, 1, 0, 0), kc_X1_nextId),
  ((yX1_addSignal, cX1_addSignal, 5, (some (.object "CreditLink$Row")), 1, 3, 1, 3, 730), kc_X1_addSignal),
  ((yX1_sendOn, cX1_sendOn, 3, none, 1, 1, 1, 0, 0), kc_X1_sendOn),
  ((yX1_hasUnit, cX1_hasUnit, 1, (some .boolean), 1, 0, 1, 0, 0), kc_X1_hasUnit),
  ((yX1_beginSignal, cX1_beginSignal, 2, (some .boolean), 1, 0, 1, 0, 0), kc_X1_beginSignal),
  ((yX1_beginSegment, cX1_beginSegment, 3, (some .boolean), 1, 0, 1, 0, 0), kc_X1_beginSegment),
  ((yX1_gather, cX1_gather, 4, (some .boolean), 1, 1, 1, 0, 0), kc_X1_gather),
  ((yX1_dropGathered, cX1_dropGathered, 1, none, 1, 0, 1, 0, 0), kc_X1_dropGathered),
  ((yX1_handleUnit, cX1_handleUnit, 2, none, 1, 0, 1, 3, 730), kc_X1_handleUnit),
  ((yX1_handleSegment, cX1_handleSegment, 3, none, 1, 1, 1, 3, 730), kc_X1_handleSegment),
  ((yX1_handleSignal, cX1_handleSignal, 4, none, 1, 0, 1, 3, 730), kc_X1_handleSignal),
  ((yX1_isSignal, cX1_isSignal, 2, (some .boolean), 1, 2, 0, 0, 0), kc_X1_isSignal),
  ((yX1_told, cX1_told, 2, (some .int), 1, 1, 1, 0, 0), kc_X1_told),
  ((yX1_onRequest, cX1_onRequest, 7, none, 1, 1, 1, 3, 730), kc_X1_onRequest),
  ((yX1_judgeRequest, cX1_judgeRequest, 6, (some .int), 1, 4, 1, 0, 0), kc_X1_judgeRequest),
  ((yX1_onAnswer, cX1_onAnswer, 4, none, 1, 1, 1, 0, 0), kc_X1_onAnswer),
  ((yX1_onCredit, cX1_onCredit, 3, none, 1, 0, 1, 3, 730), kc_X1_onCredit),
  ((yX1_onLeave, cX1_onLeave, 3, none, 1, 1, 1, 3, 730), kc_X1_onLeave),
  ((yX1_onLeft, cX1_onLeft, 2, none, 1, 0, 1, 0, 0), kc_X1_onLeft),
  ((yX1_onReject, cX1_onReject, 3, none, 1, 1, 1, 0, 0), kc_X1_onReject),
  ((yX1_firstClosed, cX1_firstClosed, 2, (some (.object "CreditLink$Channel")), 1, 0, 1, 0, 0), kc_X1_firstClosed),
  ((yX1_firstBySignal, cX1_firstBySignal, 6, (some (.object "CreditLink$Channel")), 1, 2, 1, 0, 0), kc_X1_firstBySignal),
  ((yX2_init, cX2_init, 1, none, 2, 0, 2, 2, 130), kc_X2_init),
  ((yX3_init, cX3_init, 2, none, 3, 1, 2, 1, 128), kc_X3_init),
  ((yX3_clear, cX3_clear, 1, none, 3, 0, 1, 0, 0), kc_X3_clear),
  ((yX3_add, cX3_add, 2, none, 3, 1, 1, 0, 0), kc_X3_add),
  ((yX3_addNumber, cX3_addNumber, 2, none, 3, 1, 1, 0, 0), kc_X3_addNumber),
  ((yX3_addPart, cX3_addPart, 6, none, 3, 3, 1, 0, 0), kc_X3_addPart),
  ((yX3_at, cX3_at, 2, (some .int), 3, 1, 1, 0, 0), kc_X3_at),
  ((yX3_numberAt, cX3_numberAt, 2, (some .int), 3, 1, 1, 0, 0), kc_X3_numberAt),
  ((yX4_init, cX4_init, 4, none, 4, 2, 2, 9, 524), kc_X4_init),
  ((yX4_clear, cX4_clear, 1, none, 4, 0, 1, 0, 0), kc_X4_clear),
  ((yX4_first, cX4_first, 1, (some (.object "CreditLink$Row")), 4, 0, 1, 0, 0), kc_X4_first),
  ((yX4_addEmpty, cX4_addEmpty, 3, (some (.object "CreditLink$Row")), 4, 0, 1, 0, 0), kc_X4_addEmpty),
  ((yX4_dropFirst, cX4_dropFirst, 1, none, 4, 0, 1, 0, 0), kc_X4_dropFirst),
  ((yX5_init, cX5_init, 2, none, 5, 0, 2, 97, 4288), kc_X5_init),
  ((yX5_hasRoomFor, cX5_hasRoomFor, 2, (some .boolean), 5, 1, 1, 0, 0), kc_X5_hasRoomFor),
  ((yX5_freeBuffers, cX5_freeBuffers, 1, (some .int), 5, 0, 1, 0, 0), kc_X5_freeBuffers),
  ((yX5_firstPacket, cX5_firstPacket, 1, (some (.object "CreditLink$Packet")), 5, 0, 1, 0, 0), kc_X5_firstPacket),
  ((yX5_put, cX5_put, 5, none, 5, 3, 1, 0, 0), kc_X5_put),
  ((yX5_dropFirst, cX5_dropFirst, 1, (some .boolean), 5, 0, 1, 0, 0), kc_X5_dropFirst),
  ((yX6_init, cX6_init, 2, none, 6, 0, 2, 405, 19060), kc_X6_init),
  ((yX6_service, cX6_service, 6, none, 6, 5, 1, 4, 740), kc_X6_service),
  ((yX6_connect, cX6_connect, 7, (some .int), 6, 5, 1, 4, 740), kc_X6_connect),
  ((yX6_feed, cX6_feed, 8, (some .int), 6, 5, 1, 4, 740), kc_X6_feed),
  ((yX6_erase, cX6_erase, 2, (some .int), 6, 0, 1, 0, 0), kc_X6_erase),
  ((yX6_send, cX6_send, 5, (some .int), 6, 2, 1, 4, 740), kc_X6_send),
  ((yX6_grant, cX6_grant, 5, (some .int), 6, 3, 1, 4, 740), kc_X6_grant),
  ((yX6_leave, cX6_leave, 4, none, 6, 2, 1, 4, 740), kc_X6_leave),
  ((yX6_take, cX6_take, 5, (some .int), 6, 1, 1, 4, 740), kc_X6_take),
  ((yX6_lose, cX6_lose, 3, (some .boolean), 6, 1, 1, 4, 740), kc_X6_lose),
  ((yX6_inject, cX6_inject, 7, (some .int), 6, 3, 1, 4, 740), kc_X6_inject),
  ((yX6_receive, cX6_receive, 5, (some .int), 6, 2, 1, 4, 740), kc_X6_receive),
  ((yX6_octet, cX6_octet, 2, (some .int), 6, 1, 1, 0, 0), kc_X6_octet),
  ((yX6_channel, cX6_channel, 5, (some .int), 6, 3, 1, 4, 740), kc_X6_channel),
  ((yX6_count, cX6_count, 4, (some .int), 6, 2, 1, 4, 740), kc_X6_count),
  ((yX6_isHost, cX6_isHost, 1, (some .boolean), 6, 1, 0, 0, 0), kc_X6_isHost),
  ((yX6_isChannel, cX6_isChannel, 1, (some .boolean), 6, 1, 0, 0, 0), kc_X6_isChannel),
  ((yX6_isOffer, cX6_isOffer, 4, (some .boolean), 6, 4, 0, 0, 0), kc_X6_isOffer),
  ((yX6_isFar, cX6_isFar, 1, (some .boolean), 6, 1, 0, 0, 0), kc_X6_isFar),
  ((yX6_sendWhatCanGo, cX6_sendWhatCanGo, 2, none, 6, 0, 1, 0, 0), kc_X6_sendWhatCanGo),
  ((yX7_init, cX7_init, 2, none, 7, 0, 2, 48, 80000), kc_X7_init),
  ((yX7_thrown, cX7_thrown, 1, (some .int), 7, 0, 1, 0, 0), kc_X7_thrown),
  ((yX7_refused, cX7_refused, 2, (some .boolean), 7, 1, 1, 0, 0), kc_X7_refused),
  ((yX7_isIn, cX7_isIn, 3, (some .boolean), 7, 3, 0, 0, 0), kc_X7_isIn),
  ((yX7_isHost, cX7_isHost, 1, (some .boolean), 7, 1, 0, 0, 0), kc_X7_isHost),
  ((yX7_isChannel, cX7_isChannel, 2, (some .boolean), 7, 2, 0, 0, 0), kc_X7_isChannel),
  ((yX7_buffersOf, cX7_buffersOf, 4, (some .int), 7, 1, 1, 0, 0), kc_X7_buffersOf),
  ((yX7_post, cX7_post, 9, none, 7, 6, 1, 0, 0), kc_X7_post),
  ((yX7_unitHead, cX7_unitHead, 5, none, 7, 3, 1, 0, 0), kc_X7_unitHead),
  ((yX7_unitByte, cX7_unitByte, 3, none, 7, 2, 1, 0, 0), kc_X7_unitByte),
  ((yX7_beginSignal, cX7_beginSignal, 4, none, 7, 1, 1, 0, 0), kc_X7_beginSignal),
  ((yX7_textByte, cX7_textByte, 3, (some .int), 7, 2, 1, 0, 0), kc_X7_textByte),
  ((yX7_beginSegment, cX7_beginSegment, 7, none, 7, 2, 1, 0, 0), kc_X7_beginSegment),
  ((yX7_nextChannel, cX7_nextChannel, 4, (some .int), 7, 1, 1, 0, 0), kc_X7_nextChannel),
  ((yX7_sendAll, cX7_sendAll, 5, none, 7, 1, 1, 0, 0), kc_X7_sendAll),
  ((yX7_sendBoth, cX7_sendBoth, 1, none, 7, 0, 1, 0, 0), kc_X7_sendBoth),
  ((yX7_begin, cX7_begin, 4, none, 7, 3, 1, 0, 0), kc_X7_begin),
  ((yX7_two, cX7_two, 2, none, 7, 1, 1, 0, 0), kc_X7_two),
  ((yX7_wait, cX7_wait, 4, none, 7, 1, 1, 0, 0), kc_X7_wait),
  ((yX7_takeId, cX7_takeId, 3, (some .int), 7, 1, 1, 0, 0), kc_X7_takeId),
  ((yX7_dropTexts, cX7_dropTexts, 2, none, 7, 1, 1, 0, 0), kc_X7_dropTexts),
  ((yX7_leaveNow, cX7_leaveNow, 3, none, 7, 2, 1, 0, 0), kc_X7_leaveNow),
  ((yX7_close, cX7_close, 2, none, 7, 1, 1, 0, 0), kc_X7_close),
  ((yX7_firstClosed, cX7_firstClosed, 3, (some .int), 7, 1, 1, 0, 0), kc_X7_firstClosed),
  ((yX7_reject, cX7_reject, 6, none, 7, 4, 1, 0, 0), kc_X7_reject),
  ((yX7_handTwo, cX7_handTwo, 2, (some .int), 7, 1, 1, 0, 0), kc_X7_handTwo),
  ((yX7_isSound, cX7_isSound, 2, (some .boolean), 7, 2, 0, 0, 0), kc_X7_isSound),
  ((yX7_resultOf, cX7_resultOf, 7, (some .int), 7, 5, 1, 0, 0), kc_X7_resultOf),
  ((yX7_request, cX7_request, 7, none, 7, 2, 1, 0, 0), kc_X7_request),
  ((yX7_response, cX7_response, 3, none, 7, 1, 1, 0, 0), kc_X7_response),
  ((yX7_credit, cX7_credit, 4, none, 7, 1, 1, 0, 0), kc_X7_credit),
  ((yX7_signal, cX7_signal, 8, none, 7, 2, 1, 0, 0), kc_X7_signal),
  ((yX7_byId, cX7_byId, 5, none, 7, 3, 1, 0, 0), kc_X7_byId),
  ((yX7_segment, cX7_segment, 9, none, 7, 4, 1, 0, 0), kc_X7_segment),
  ((yX7_unit, cX7_unit, 6, none, 7, 1, 1, 0, 0), kc_X7_unit),
  ((yX7_shift, cX7_shift, 6, (some .int), 7, 1, 1, 0, 0), kc_X7_shift),
  ((yX7_gather, cX7_gather, 6, none, 7, 3, 1, 0, 0), kc_X7_gather),
  ((yX7_take, cX7_take, 4, (some .int), 7, 1, 1, 0, 0), kc_X7_take),
  ((yX7_lose, cX7_lose, 2, (some .boolean), 7, 1, 1, 0, 0), kc_X7_lose),
  ((yX7_inject, cX7_inject, 12, (some .int), 7, 3, 1, 0, 0), kc_X7_inject),
  ((yX7_isTold, cX7_isTold, 5, (some .boolean), 7, 5, 0, 0, 0), kc_X7_isTold),
  ((yX7_service, cX7_service, 6, none, 7, 5, 1, 0, 0), kc_X7_service),
  ((yX7_connect, cX7_connect, 7, (some .int), 7, 5, 1, 0, 0), kc_X7_connect),
  ((yX7_feed, cX7_feed, 8, (some .int), 7, 5, 1, 0, 0), kc_X7_feed),
  ((yX7_erase, cX7_erase, 2, (some .int), 7, 0, 1, 0, 0), kc_X7_erase),
  ((yX7_wrong, cX7_wrong, 4, (some .int), 7, 3, 1, 0, 0), kc_X7_wrong),
  ((yX7_send, cX7_send, 6, (some .int), 7, 2, 1, 0, 0), kc_X7_send),
  ((yX7_grant, cX7_grant, 5, (some .int), 7, 3, 1, 0, 0), kc_X7_grant),
  ((yX7_leave, cX7_leave, 3, none, 7, 2, 1, 0, 0), kc_X7_leave),
  ((yX7_receive, cX7_receive, 7, (some .int), 7, 2, 1, 0, 0), kc_X7_receive),
  ((yX7_octet, cX7_octet, 2, (some .int), 7, 1, 1, 0, 0), kc_X7_octet),
  ((yX7_channel, cX7_channel, 5, (some .int), 7, 3, 1, 0, 0), kc_X7_channel),
  ((yX7_count, cX7_count, 3, (some .int), 7, 2, 1, 0, 0), kc_X7_count),
  ((yJxa1e45_init_da8c8, cJxa1e45_init_da8c8, 1, none, 10, 0, 2, 0, 0), kc_Jxa1e45_init_da8c8),
  ((yJxc12de_init_da8c8, cJxc12de_init_da8c8, 1, none, 9, 0, 2, 0, 0), kc_Jxc12de_init_da8c8),
  ((yJx4a65c_init_da8c8, cJx4a65c_init_da8c8, 1, none, 8, 0, 2, 0, 0), kc_Jx4a65c_init_da8c8),
  ((yJx4a65c_grow_92f84, cJx4a65c_grow_92f84, 4, (some (.array (.object "java/lang/Object"))), 8, 1, 1, 1, 600), kc_Jx4a65c_grow_92f84),
  ((yJx4a65c_grow_d5877, cJx4a65c_grow_d5877, 1, (some (.array (.object "java/lang/Object"))), 8, 0, 1, 1, 600), kc_Jx4a65c_grow_d5877),
  ((yJx4a65c_size_8abf5, cJx4a65c_size_8abf5, 1, (some .int), 8, 0, 1, 0, 0), kc_Jx4a65c_size_8abf5),
  ((yJx4a65c_isEmpty_aae02, cJx4a65c_isEmpty_aae02, 1, (some .boolean), 8, 0, 1, 0, 0), kc_Jx4a65c_isEmpty_aae02),
  ((yJx4a65c_add_72be8, cJx4a65c_add_72be8, 4, none, 8, 3, 1, 1, 600), kc_Jx4a65c_add_72be8),
  ((yJx4a65c_add_9ea2d, cJx4a65c_add_9ea2d, 2, (some .boolean), 8, 1, 1, 1, 600), kc_Jx4a65c_add_9ea2d),
  ((yJx4a65c_remove_915e3, cJx4a65c_remove_915e3, 4, (some (.object "java/lang/Object")), 8, 1, 1, 0, 0), kc_Jx4a65c_remove_915e3),
  ((yJx4a65c_fastRemove_b59b0, cJx4a65c_fastRemove_b59b0, 4, none, 8, 2, 1, 0, 0), kc_Jx4a65c_fastRemove_b59b0),
  ((yJ7_copyOf_1904c, cJ7_copyOf_1904c, 2, (some (.array (.object "java/lang/Object"))), 13, 2, 0, 1, 600), kc_J7_copyOf_1904c),
  ((yJ7_copyOf_6403c, cJ7_copyOf_6403c, 4, (some (.array (.object "java/lang/Object"))), 13, 3, 0, 1, 600), kc_J7_copyOf_6403c),
  ((yJ15_checkIndex_7cf53, cJ15_checkIndex_7cf53, 2, (some .int), 11, 2, 0, 0, 0), kc_J15_checkIndex_7cf53),
  ((yJ8_newLength_cabcc, cJ8_newLength_cabcc, 4, (some .int), 14, 3, 0, 0, 0), kc_J8_newLength_cabcc),
  ((yJ8_hugeLength_7cf53, cJ8_hugeLength_7cf53, 3, (some .int), 14, 2, 0, 0, 0), kc_J8_hugeLength_7cf53),
  ((yJ3_checkIndex_8e157, cJ3_checkIndex_8e157, 3, (some .int), 12, 3, 0, 0, 0), kc_J3_checkIndex_8e157)]
def ev_fz : List ((Nat × Nat × Nat × Nat × Int32) × Nat × Nat) := [((0, 9, 1, 0, 0), 140, 0), ((0, 20, 1, 10, 0), 163, 0), ((0, 24, 1, 12, 0), 166, 0), ((0, 32, 1, 13, 0), 168, 0), ((0, 36, 1, 14, 0), 169, 0), ((0, 39, 1, 3, 0), 146, 0), ((0, 42, 1, 4, 0), 148, 0), ((0, 45, 1, 5, 0), 150, 0), ((0, 51, 1, 1, 0), 142, 0), ((0, 54, 1, 6, 0), 153, 0), ((0, 57, 1, 7, 0), 156, 0), ((0, 60, 1, 8, 0), 158, 0), ((0, 63, 1, 9, 0), 160, 0), ((0, 69, 1, 11, 0), 165, 0), ((0, 73, 4, 1, 1), 118, 0), ((0, 87, 5, 2, 1), 130, 0), ((1, 11, 2, 0, 0), 273, 0), ((1, 20, 2, 1, 0), 275, 0), ((1, 24, 2, 2, 0), 276, 0), ((1, 27, 2, 3, 0), 277, 0), ((1, 33, 2, 4, 0), 278, 0), ((1, 40, 2, 5, 0), 280, 0), ((1, 47, 2, 6, 0), 282, 0), ((1, 51, 2, 8, 0), 284, 0), ((1, 62, 1, 1, 1), 143, 0), ((1, 70, 1, 2, 1), 145, 0), ((1, 80, 1, 0, 1), 141, 0), ((1, 83, 1, 5, 1), 151, 0), ((1, 89, 1, 6, 1), 154, 0), ((1, 92, 2, 9, 0), 286, 0), ((1, 115, 2, 7, 0), 283, 0), ((1, 122, 4, 1, 1), 119, 0), ((1, 150, 2, 10, 0), 287, 0), ((1, 160, 3, 1, 1), 221, 0), ((1, 169, 3, 0, 1), 219, 0), ((1, 176, 2, 12, 0), 290, 0), ((1, 179, 2, 11, 0), 288, 0), ((1, 206, 2, 13, 0), 293, 0), ((1, 238, 1, 3, 1), 147, 0), ((1, 241, 1, 4, 1), 149, 0), ((1, 260, 1, 9, 1), 162, 0), ((2, 14, 3, 0, 0), 216, 0), ((3, 9, 4, 0, 0), 115, 0), ((3, 15, 4, 1, 0), 116, 0), ((4, 9, 5, 0, 0), 126, 0), ((4, 18, 5, 2, 0), 128, 0), ((4, 22, 5, 1, 0), 127, 0), ((5, 11, 6, 0, 0), 231, 0), ((5, 18, 6, 2, 0), 233, 0), ((5, 22, 6, 3, 0), 235, 0), ((5, 25, 6, 1, 0), 232, 0), ((5, 28, 3, 0, 1), 217, 0), ((5, 41, 3, 1, 1), 220, 0), ((5, 45, 3, 2, 1), 222, 0), ((6, 11, 7, 0, 0), 325, 0), ((6, 21, 7, 1, 0), 326, 0), ((6, 25, 7, 2, 0), 327, 0), ((6, 50, 4, 1, 1), 117, 0), ((6, 66, 2, 0, 1), 274, 0), ((6, 70, 1, 1, 1), 144, 0), ((6, 79, 1, 10, 1), 164, 0), ((6, 83, 5, 2, 1), 129, 0), ((6, 88, 1, 5, 1), 152, 0), ((6, 100, 2, 4, 1), 279, 0), ((6, 110, 3, 0, 1), 218, 0), ((6, 140, 1, 12, 1), 167, 0), ((6, 153, 1, 6, 1), 155, 0), ((6, 156, 1, 9, 1), 161, 0), ((6, 159, 1, 7, 1), 157, 0), ((6, 162, 1, 8, 1), 159, 0), ((6, 169, 6, 2, 1), 234, 0), ((6, 170, 2, 5, 1), 281, 0), ((6, 178, 2, 11, 1), 289, 0), ((6, 181, 2, 12, 1), 291, 0), ((6, 184, 2, 13, 1), 292, 0), ((6, 187, 2, 8, 1), 285, 0), ((7, 7, 8, 1, 0), 843, 0), ((7, 13, 8, 3, 0), 845, 0), ((7, 17, 8, 4, 0), 846, 0), ((7, 20, 8, 5, 0), 847, 0), ((7, 23, 8, 6, 0), 848, 0), ((7, 26, 8, 7, 0), 849, 0), ((7, 29, 8, 8, 0), 850, 0), ((7, 32, 8, 9, 0), 851, 0), ((7, 35, 8, 10, 0), 852, 0), ((7, 38, 8, 11, 0), 853, 0), ((7, 41, 8, 12, 0), 854, 0), ((7, 44, 8, 13, 0), 855, 0), ((7, 47, 8, 14, 0), 856, 0), ((7, 50, 8, 15, 0), 857, 0), ((7, 53, 8, 16, 0), 858, 0), ((7, 56, 8, 17, 0), 859, 0), ((7, 59, 8, 18, 0), 860, 0), ((7, 62, 8, 19, 0), 861, 0), ((7, 65, 8, 20, 0), 862, 0), ((7, 68, 8, 21, 0), 863, 0), ((7, 71, 8, 22, 0), 864, 0), ((7, 74, 8, 23, 0), 865, 0), ((7, 77, 8, 24, 0), 866, 0), ((7, 80, 8, 25, 0), 867, 0), ((7, 83, 8, 26, 0), 868, 0), ((7, 86, 8, 27, 0), 869, 0), ((7, 89, 8, 28, 0), 870, 0), ((7, 93, 8, 29, 0), 871, 0), ((7, 96, 8, 30, 0), 872, 0), ((7, 99, 8, 31, 0), 873, 0), ((7, 102, 8, 32, 0), 874, 0), ((7, 105, 8, 33, 0), 875, 0), ((7, 108, 8, 34, 0), 876, 0), ((7, 111, 8, 35, 0), 877, 0), ((7, 114, 8, 36, 0), 878, 0), ((7, 117, 8, 37, 0), 879, 0), ((7, 120, 8, 38, 0), 880, 0), ((7, 123, 8, 39, 0), 881, 0), ((7, 126, 8, 40, 0), 882, 0), ((7, 129, 8, 41, 0), 883, 0), ((7, 132, 8, 42, 0), 884, 0), ((7, 135, 8, 43, 0), 885, 0), ((7, 138, 8, 44, 0), 886, 0), ((7, 141, 8, 45, 0), 887, 0), ((7, 144, 8, 46, 0), 888, 0), ((7, 147, 8, 0, 0), 842, 0), ((7, 192, 8, 47, 0), 889, 0), ((7, 269, 8, 2, 0), 844, 0), ((8, 9, 0, 1, 0), 259, 0), ((8, 48, 0, 2, 0), 260, 0), ((8, 63, 0, 0, 2), 262, 263), ((9, 7, 0, 0, 0), 261, 0)]
def ev_ft : List (Nat × Nat × Nat × Nat × Int32) := [(0, 9, 1, 0, 0), (0, 20, 1, 10, 0), (0, 24, 1, 12, 0), (0, 32, 1, 13, 0), (0, 36, 1, 14, 0), (0, 39, 1, 3, 0), (0, 42, 1, 4, 0), (0, 45, 1, 5, 0), (0, 51, 1, 1, 0), (0, 54, 1, 6, 0), (0, 57, 1, 7, 0), (0, 60, 1, 8, 0), (0, 63, 1, 9, 0), (0, 69, 1, 11, 0), (0, 73, 4, 1, 1), (0, 87, 5, 2, 1), (1, 11, 2, 0, 0), (1, 20, 2, 1, 0), (1, 24, 2, 2, 0), (1, 27, 2, 3, 0), (1, 33, 2, 4, 0), (1, 40, 2, 5, 0), (1, 47, 2, 6, 0), (1, 51, 2, 8, 0), (1, 62, 1, 1, 1), (1, 70, 1, 2, 1), (1, 80, 1, 0, 1), (1, 83, 1, 5, 1), (1, 89, 1, 6, 1), (1, 92, 2, 9, 0), (1, 115, 2, 7, 0), (1, 122, 4, 1, 1), (1, 150, 2, 10, 0), (1, 160, 3, 1, 1), (1, 169, 3, 0, 1), (1, 176, 2, 12, 0), (1, 179, 2, 11, 0), (1, 206, 2, 13, 0), (1, 238, 1, 3, 1), (1, 241, 1, 4, 1), (1, 260, 1, 9, 1), (2, 14, 3, 0, 0), (3, 9, 4, 0, 0), (3, 15, 4, 1, 0), (4, 9, 5, 0, 0), (4, 18, 5, 2, 0), (4, 22, 5, 1, 0), (5, 11, 6, 0, 0), (5, 18, 6, 2, 0), (5, 22, 6, 3, 0), (5, 25, 6, 1, 0), (5, 28, 3, 0, 1), (5, 41, 3, 1, 1), (5, 45, 3, 2, 1), (6, 11, 7, 0, 0), (6, 21, 7, 1, 0), (6, 25, 7, 2, 0), (6, 50, 4, 1, 1), (6, 66, 2, 0, 1), (6, 70, 1, 1, 1), (6, 79, 1, 10, 1), (6, 83, 5, 2, 1), (6, 88, 1, 5, 1), (6, 100, 2, 4, 1), (6, 110, 3, 0, 1), (6, 140, 1, 12, 1), (6, 153, 1, 6, 1), (6, 156, 1, 9, 1), (6, 159, 1, 7, 1), (6, 162, 1, 8, 1), (6, 169, 6, 2, 1), (6, 170, 2, 5, 1), (6, 178, 2, 11, 1), (6, 181, 2, 12, 1), (6, 184, 2, 13, 1), (6, 187, 2, 8, 1), (7, 7, 8, 1, 0), (7, 13, 8, 3, 0), (7, 17, 8, 4, 0), (7, 20, 8, 5, 0), (7, 23, 8, 6, 0), (7, 26, 8, 7, 0), (7, 29, 8, 8, 0), (7, 32, 8, 9, 0), (7, 35, 8, 10, 0), (7, 38, 8, 11, 0), (7, 41, 8, 12, 0), (7, 44, 8, 13, 0), (7, 47, 8, 14, 0), (7, 50, 8, 15, 0), (7, 53, 8, 16, 0), (7, 56, 8, 17, 0), (7, 59, 8, 18, 0), (7, 62, 8, 19, 0), (7, 65, 8, 20, 0), (7, 68, 8, 21, 0), (7, 71, 8, 22, 0), (7, 74, 8, 23, 0), (7, 77, 8, 24, 0), (7, 80, 8, 25, 0), (7, 83, 8, 26, 0), (7, 86, 8, 27, 0), (7, 89, 8, 28, 0), (7, 93, 8, 29, 0), (7, 96, 8, 30, 0), (7, 99, 8, 31, 0), (7, 102, 8, 32, 0), (7, 105, 8, 33, 0), (7, 108, 8, 34, 0), (7, 111, 8, 35, 0), (7, 114, 8, 36, 0), (7, 117, 8, 37, 0), (7, 120, 8, 38, 0), (7, 123, 8, 39, 0), (7, 126, 8, 40, 0), (7, 129, 8, 41, 0), (7, 132, 8, 42, 0), (7, 135, 8, 43, 0), (7, 138, 8, 44, 0), (7, 141, 8, 45, 0), (7, 144, 8, 46, 0), (7, 147, 8, 0, 0), (7, 192, 8, 47, 0), (7, 269, 8, 2, 0), (8, 9, 0, 1, 0), (8, 48, 0, 2, 0), (8, 63, 0, 0, 2), (9, 7, 0, 0, 0)]
def ev_mz : List ((Nat × Nat × Nat × Nat) × Nat × Nat × Nat × Nat) := [((0, 3, 0, 5), 101, 0, 0, 0), ((0, 17, 47, 2), 104, 61, 105, 0), ((0, 29, 40, 2), 139, 62, 112, 0), ((0, 48, 48, 1), 450, 61, 451, 452), ((0, 66, 4, 1), 755, 60, 677, 678), ((0, 72, 41, 1), 680, 62, 340, 341), ((0, 76, 50, 1), 648, 61, 649, 650), ((0, 80, 43, 1), 597, 62, 467, 468), ((0, 83, 44, 1), 598, 62, 577, 578), ((0, 90, 49, 1), 592, 61, 593, 594), ((0, 93, 0, 7), 596, 0, 0, 0), ((0, 99, 51, 1), 599, 61, 600, 601), ((0, 102, 46, 1), 783, 62, 701, 702), ((0, 106, 10, 1), 784, 60, 786, 24), ((1, 3, 0, 5), 94, 0, 0, 0), ((1, 17, 0, 2), 98, 60, 99, 0), ((1, 32, 52, 2), 203, 63, 204, 0), ((1, 39, 133, 2), 247, 67, 248, 0), ((1, 46, 40, 2), 272, 62, 112, 0), ((1, 54, 37, 1), 442, 59, 444, 1), ((1, 58, 1, 1), 446, 60, 447, 448), ((1, 66, 17, 1), 454, 59, 456, 2), ((1, 73, 18, 1), 458, 59, 460, 3), ((1, 77, 43, 1), 466, 62, 467, 468), ((1, 86, 4, 1), 676, 60, 677, 678), ((1, 95, 42, 1), 462, 62, 463, 464), ((1, 98, 136, 1), 470, 67, 471, 472), ((1, 101, 139, 1), 474, 67, 475, 476), ((1, 104, 54, 1), 540, 63, 541, 542), ((1, 107, 53, 1), 544, 63, 545, 546), ((1, 111, 20, 1), 548, 59, 550, 8), ((1, 118, 56, 1), 603, 63, 604, 605), ((1, 124, 0, 7), 609, 0, 0, 0), ((1, 130, 21, 1), 552, 59, 554, 9), ((1, 133, 22, 1), 580, 59, 582, 11), ((1, 136, 137, 1), 556, 67, 557, 558), ((1, 139, 140, 1), 560, 67, 561, 562), ((1, 143, 41, 1), 575, 62, 340, 341), ((1, 146, 44, 1), 576, 62, 577, 578), ((1, 153, 7, 1), 584, 60, 585, 586), ((1, 156, 8, 1), 588, 60, 589, 590), ((1, 166, 24, 1), 696, 59, 698, 12), ((1, 172, 46, 1), 700, 62, 701, 702), ((1, 182, 27, 1), 708, 59, 710, 13), ((1, 185, 26, 1), 775, 59, 777, 23), ((1, 188, 74, 3), 766, 58, 642, 0), ((1, 191, 9, 1), 779, 60, 780, 781), ((1, 195, 16, 1), 761, 59, 673, 674), ((1, 199, 45, 1), 712, 62, 348, 349), ((1, 202, 28, 0), 713, 59, 714, 0), ((1, 209, 30, 1), 716, 59, 718, 14), ((1, 212, 32, 1), 743, 59, 745, 17), ((1, 215, 33, 1), 756, 59, 758, 19), ((1, 218, 34, 1), 762, 59, 764, 20), ((1, 221, 35, 1), 767, 59, 769, 21), ((1, 224, 36, 1), 771, 59, 773, 22), ((1, 227, 29, 1), 720, 59, 722, 15), ((1, 230, 31, 1), 724, 59, 726, 16), ((1, 234, 2, 1), 739, 60, 740, 741), ((1, 244, 13, 1), 728, 59, 729, 730), ((1, 247, 76, 3), 732, 58, 733, 0), ((1, 250, 5, 1), 735, 60, 736, 737), ((1, 253, 38, 1), 747, 59, 749, 18), ((1, 257, 3, 1), 751, 60, 752, 753), ((2, 3, 0, 5), 213, 0, 0, 0), ((2, 11, 40, 2), 215, 62, 112, 0), ((3, 3, 0, 5), 114, 0, 0, 0), ((4, 1, 0, 5), 107, 0, 0, 0), ((4, 15, 40, 2), 111, 62, 112, 0), ((4, 25, 41, 1), 652, 62, 340, 341), ((5, 3, 0, 5), 206, 0, 0, 0), ((5, 17, 39, 2), 210, 64, 211, 0), ((5, 32, 41, 1), 607, 62, 340, 341), ((5, 37, 44, 1), 608, 62, 577, 578), ((6, 1, 0, 5), 85, 0, 0, 0), ((6, 15, 11, 2), 91, 59, 92, 0), ((6, 18, 40, 2), 324, 62, 112, 0), ((6, 28, 73, 0), 359, 58, 360, 0), ((6, 32, 75, 0), 362, 58, 363, 0), ((6, 39, 12, 1), 427, 59, 428, 429), ((6, 43, 14, 1), 438, 59, 439, 440), ((6, 47, 77, 1), 532, 58, 534, 7), ((6, 57, 42, 1), 633, 62, 463, 464), ((6, 60, 41, 1), 339, 62, 340, 341), ((6, 63, 74, 0), 641, 58, 642, 0), ((6, 75, 6, 1), 644, 60, 645, 646), ((6, 92, 15, 1), 661, 59, 662, 663), ((6, 96, 16, 1), 672, 59, 673, 674), ((6, 104, 55, 1), 688, 63, 689, 690), ((6, 115, 23, 1), 692, 59, 693, 694), ((6, 119, 25, 1), 704, 59, 705, 706), ((6, 122, 57, 1), 788, 63, 789, 790), ((6, 126, 53, 1), 806, 63, 545, 546), ((6, 129, 43, 1), 807, 62, 467, 468), ((6, 132, 44, 1), 808, 62, 577, 578), ((6, 136, 56, 1), 809, 63, 604, 605), ((6, 143, 49, 1), 817, 61, 593, 594), ((6, 147, 51, 1), 818, 61, 600, 601), ((6, 149, 45, 1), 347, 62, 348, 349), ((6, 165, 54, 1), 833, 63, 541, 542), ((6, 174, 136, 1), 834, 67, 471, 472), ((6, 190, 19, 1), 536, 59, 537, 538), ((7, 1, 0, 5), 840, 0, 0, 0), ((7, 151, 82, 0), 996, 68, 997, 0), ((7, 155, 81, 0), 1051, 68, 1052, 0), ((7, 159, 86, 1), 1110, 68, 1112, 51), ((7, 163, 87, 1), 1114, 68, 1116, 52), ((7, 167, 89, 1), 1122, 68, 1124, 54), ((7, 171, 84, 1), 1098, 68, 1100, 48), ((7, 175, 91, 1), 1102, 68, 1104, 49), ((7, 178, 88, 1), 1106, 68, 1108, 50), ((7, 182, 90, 1), 1118, 68, 1120, 53), ((7, 185, 85, 1), 1126, 68, 1128, 55), ((7, 189, 92, 1), 1094, 68, 1096, 47), ((7, 195, 98, 1), 1066, 68, 1068, 40), ((7, 198, 97, 1), 1070, 68, 1072, 41), ((7, 201, 94, 1), 1031, 68, 1033, 32), ((7, 204, 95, 1), 1035, 68, 1037, 33), ((7, 207, 96, 1), 1039, 68, 1041, 34), ((7, 210, 101, 1), 1054, 68, 1056, 37), ((7, 213, 103, 1), 1020, 68, 1022, 30), ((7, 216, 105, 1), 1047, 68, 1049, 36), ((7, 220, 100, 1), 1074, 68, 1076, 42), ((7, 224, 99, 1), 1062, 68, 1064, 39), ((7, 227, 104, 0), 1024, 68, 1025, 0), ((7, 231, 102, 1), 1027, 68, 1029, 31), ((7, 235, 106, 1), 1043, 68, 1045, 35), ((7, 238, 108, 1), 1058, 68, 1060, 38), ((7, 241, 110, 1), 1078, 68, 1080, 43), ((7, 244, 107, 1), 1082, 68, 1084, 44), ((7, 247, 109, 1), 1016, 68, 1018, 29), ((7, 250, 111, 1), 1086, 68, 1088, 45), ((7, 253, 112, 1), 1012, 68, 1014, 28), ((7, 256, 80, 1), 999, 68, 1001, 25), ((7, 259, 113, 1), 1003, 68, 1005, 26), ((7, 262, 114, 1), 1007, 68, 1009, 27), ((7, 266, 93, 1), 1090, 68, 1092, 46), ((7, 272, 118, 0), 1142, 68, 1143, 0), ((7, 276, 83, 0), 1165, 68, 1166, 0), ((7, 279, 123, 1), 1161, 68, 1163, 56), ((8, 1, 132, 2), 250, 66, 251, 0), ((8, 66, 142, 0), 500, 75, 501, 0), ((8, 69, 134, 1), 486, 67, 488, 6), ((8, 73, 145, 0), 490, 73, 491, 0), ((8, 79, 0, 6), 530, 0, 0, 0), ((8, 118, 144, 0), 564, 77, 565, 0), ((8, 129, 135, 1), 482, 67, 484, 5), ((8, 131, 138, 1), 478, 67, 480, 4), ((8, 144, 141, 1), 570, 67, 572, 10), ((9, 1, 131, 2), 253, 65, 254, 0), ((10, 1, 0, 5), 256, 0, 0, 0), ((11, 105, 147, 0), 567, 78, 568, 0), ((13, 300, 143, 0), 518, 75, 519, 0), ((13, 304, 0, 7), 524, 0, 0, 0), ((14, 194, 0, 6), 493, 0, 0, 0), ((14, 201, 146, 0), 497, 73, 498, 0), ((15, 56, 58, 2), 82, 58, 83, 0), ((15, 59, 78, 2), 837, 68, 838, 0), ((15, 65, 119, 1), 1138, 68, 1139, 1140), ((15, 66, 79, 1), 988, 68, 989, 990), ((15, 73, 120, 1), 1145, 68, 1146, 1147), ((15, 76, 121, 1), 1149, 68, 1150, 1151), ((15, 77, 62, 1), 335, 58, 336, 337), ((15, 80, 122, 1), 1153, 68, 1154, 1155), ((15, 84, 124, 1), 1157, 68, 1158, 1159), ((15, 88, 125, 1), 1168, 68, 1169, 1170), ((15, 92, 126, 1), 1172, 68, 1173, 1174), ((15, 96, 115, 1), 992, 68, 993, 994), ((15, 99, 116, 1), 1130, 68, 1131, 1132), ((15, 102, 117, 1), 1134, 68, 1135, 1136), ((15, 105, 127, 1), 1176, 68, 1177, 1178), ((15, 106, 70, 1), 343, 58, 344, 345), ((15, 109, 128, 1), 1180, 68, 1181, 1182), ((15, 112, 129, 1), 1184, 68, 1185, 1186), ((15, 115, 130, 1), 1188, 68, 1189, 1190)]
def ev_mt : List (Nat × Nat × Nat × Nat) := [(0, 3, 0, 5), (0, 17, 47, 2), (0, 29, 40, 2), (0, 48, 48, 1), (0, 66, 4, 1), (0, 72, 41, 1), (0, 76, 50, 1), (0, 80, 43, 1), (0, 83, 44, 1), (0, 90, 49, 1), (0, 93, 0, 7), (0, 99, 51, 1), (0, 102, 46, 1), (0, 106, 10, 1), (1, 3, 0, 5), (1, 17, 0, 2), (1, 32, 52, 2), (1, 39, 133, 2), (1, 46, 40, 2), (1, 54, 37, 1), (1, 58, 1, 1), (1, 66, 17, 1), (1, 73, 18, 1), (1, 77, 43, 1), (1, 86, 4, 1), (1, 95, 42, 1), (1, 98, 136, 1), (1, 101, 139, 1), (1, 104, 54, 1), (1, 107, 53, 1), (1, 111, 20, 1), (1, 118, 56, 1), (1, 124, 0, 7), (1, 130, 21, 1), (1, 133, 22, 1), (1, 136, 137, 1), (1, 139, 140, 1), (1, 143, 41, 1), (1, 146, 44, 1), (1, 153, 7, 1), (1, 156, 8, 1), (1, 166, 24, 1), (1, 172, 46, 1), (1, 182, 27, 1), (1, 185, 26, 1), (1, 188, 74, 3), (1, 191, 9, 1), (1, 195, 16, 1), (1, 199, 45, 1), (1, 202, 28, 0), (1, 209, 30, 1), (1, 212, 32, 1), (1, 215, 33, 1), (1, 218, 34, 1), (1, 221, 35, 1), (1, 224, 36, 1), (1, 227, 29, 1), (1, 230, 31, 1), (1, 234, 2, 1), (1, 244, 13, 1), (1, 247, 76, 3), (1, 250, 5, 1), (1, 253, 38, 1), (1, 257, 3, 1), (2, 3, 0, 5), (2, 11, 40, 2), (3, 3, 0, 5), (4, 1, 0, 5), (4, 15, 40, 2), (4, 25, 41, 1), (5, 3, 0, 5), (5, 17, 39, 2), (5, 32, 41, 1), (5, 37, 44, 1), (6, 1, 0, 5), (6, 15, 11, 2), (6, 18, 40, 2), (6, 28, 73, 0), (6, 32, 75, 0), (6, 39, 12, 1), (6, 43, 14, 1), (6, 47, 77, 1), (6, 57, 42, 1), (6, 60, 41, 1), (6, 63, 74, 0), (6, 75, 6, 1), (6, 92, 15, 1), (6, 96, 16, 1), (6, 104, 55, 1), (6, 115, 23, 1), (6, 119, 25, 1), (6, 122, 57, 1), (6, 126, 53, 1), (6, 129, 43, 1), (6, 132, 44, 1), (6, 136, 56, 1), (6, 143, 49, 1), (6, 147, 51, 1), (6, 149, 45, 1), (6, 165, 54, 1), (6, 174, 136, 1), (6, 190, 19, 1), (7, 1, 0, 5), (7, 151, 82, 0), (7, 155, 81, 0), (7, 159, 86, 1), (7, 163, 87, 1), (7, 167, 89, 1), (7, 171, 84, 1), (7, 175, 91, 1), (7, 178, 88, 1), (7, 182, 90, 1), (7, 185, 85, 1), (7, 189, 92, 1), (7, 195, 98, 1), (7, 198, 97, 1), (7, 201, 94, 1), (7, 204, 95, 1), (7, 207, 96, 1), (7, 210, 101, 1), (7, 213, 103, 1), (7, 216, 105, 1), (7, 220, 100, 1), (7, 224, 99, 1), (7, 227, 104, 0), (7, 231, 102, 1), (7, 235, 106, 1), (7, 238, 108, 1), (7, 241, 110, 1), (7, 244, 107, 1), (7, 247, 109, 1), (7, 250, 111, 1), (7, 253, 112, 1), (7, 256, 80, 1), (7, 259, 113, 1), (7, 262, 114, 1), (7, 266, 93, 1), (7, 272, 118, 0), (7, 276, 83, 0), (7, 279, 123, 1), (8, 1, 132, 2), (8, 66, 142, 0), (8, 69, 134, 1), (8, 73, 145, 0), (8, 79, 0, 6), (8, 118, 144, 0), (8, 129, 135, 1), (8, 131, 138, 1), (8, 144, 141, 1), (9, 1, 131, 2), (10, 1, 0, 5), (11, 105, 147, 0), (13, 300, 143, 0), (13, 304, 0, 7), (14, 194, 0, 6), (14, 201, 146, 0), (15, 56, 58, 2), (15, 59, 78, 2), (15, 65, 119, 1), (15, 66, 79, 1), (15, 73, 120, 1), (15, 76, 121, 1), (15, 77, 62, 1), (15, 80, 122, 1), (15, 84, 124, 1), (15, 88, 125, 1), (15, 92, 126, 1), (15, 96, 115, 1), (15, 99, 116, 1), (15, 102, 117, 1), (15, 105, 127, 1), (15, 106, 70, 1), (15, 109, 128, 1), (15, 112, 129, 1), (15, 115, 130, 1)]
def ev_cz : List ((Nat × Nat × Nat) × Nat × Nat × Nat) := [((0, 15, 5), 102, 103, 61), ((0, 27, 4), 138, 110, 62), ((1, 9, 1), 95, 97, 60), ((1, 30, 6), 201, 202, 63), ((1, 37, 0), 245, 246, 67), ((1, 44, 4), 271, 110, 62), ((2, 9, 4), 214, 110, 62), ((4, 7, 4), 108, 110, 62), ((5, 9, 3), 207, 209, 64), ((6, 9, 2), 88, 90, 59), ((6, 16, 4), 323, 110, 62), ((15, 8, 7), 80, 81, 58), ((15, 57, 8), 835, 836, 68)]
def ev_ct : List (Nat × Nat × Nat) := [(0, 15, 5), (0, 27, 4), (1, 9, 1), (1, 30, 6), (1, 37, 0), (1, 44, 4), (2, 9, 4), (4, 7, 4), (5, 9, 3), (6, 9, 2), (6, 16, 4), (15, 8, 7), (15, 57, 8)]
def ev_qz : List ((Nat × Nat × Nat) × Nat × Nat) := [((1, 9, 4), 95, 96), ((4, 7, 7), 108, 109), ((5, 9, 6), 207, 208), ((6, 9, 5), 88, 89), ((8, 7, 8), 531, 522), ((13, 2, 8), 523, 522)]
def ev_qt : List (Nat × Nat × Nat) := [(1, 9, 4), (4, 7, 7), (5, 9, 6), (6, 9, 5), (8, 7, 8), (13, 2, 8)]
def ev_kz : List ((Nat × Nat × Int32) × Nat) := [((1, 263, 65535), 760), ((6, 91, 65535), 660), ((7, 92, 57344), 841), ((7, 223, 65535), 1011), ((14, 200, 2147483639), 496)]
def ev_kt : List (Nat × Nat × Int32) := [(1, 263, 65535), (6, 91, 65535), (7, 92, 57344), (7, 223, 65535), (14, 200, 2147483639)]
def ev_lz : List (List Nat) := [[268, 264, 266], [170, 172, 174, 176, 178, 180, 182, 184, 186, 188, 190, 192, 194, 196, 198], [294, 296, 298, 300, 302, 304, 306, 308, 310, 312, 314, 316, 318, 320], [223, 225, 227], [120, 122], [131, 133, 135], [236, 238, 240, 242], [328, 330, 332], [890, 892, 894, 896, 898, 900, 902, 904, 906, 908, 910, 912, 914, 916, 918, 920, 922, 924, 926, 928, 930, 932, 934, 936, 938, 940, 942, 944, 946, 948, 950, 952, 954, 956, 958, 960, 962, 964, 966, 968, 970, 972, 974, 976, 978, 980, 982, 984]]
def ev_wz : List Nat := [100, 449, 742, 754, 679, 738, 647, 587, 591, 782, 787, 93, 430, 731, 441, 664, 675, 457, 461, 539, 551, 555, 583, 695, 699, 707, 778, 711, 715, 723, 719, 727, 746, 759, 765, 770, 774, 445, 750, 212, 113, 342, 465, 469, 579, 350, 703, 106, 453, 595, 651, 602, 205, 547, 543, 691, 606, 791, 84, 358, 437, 617, 338, 640, 659, 671, 687, 798, 805, 816, 346, 825, 832, 361, 643, 364, 734, 535, 839, 991, 1002, 1053, 998, 1167, 1101, 1129, 1113, 1117, 1109, 1125, 1121, 1105, 1097, 1093, 1034, 1038, 1042, 1073, 1069, 1065, 1077, 1057, 1030, 1023, 1026, 1050, 1046, 1085, 1061, 1019, 1081, 1089, 1015, 1006, 1010, 995, 1133, 1137, 1144, 1141, 1148, 1152, 1156, 1164, 1160, 1171, 1175, 1179, 1183, 1187, 1191, 255, 252, 249, 489, 485, 473, 559, 481, 477, 563, 573, 502, 520, 566, 492, 499, 569, 353, 433, 612, 636, 655, 667, 683, 794, 801, 812, 821, 828, 0]
abbrev m_X0_init : Nat := 0
abbrev m_X0_setOwn : Nat := 1
abbrev m_X0_open : Nat := 2
abbrev m_X0_close : Nat := 3
abbrev m_X0_forgetTexts : Nat := 4
abbrev m_X0_hasFar : Nat := 5
abbrev m_X0_putText : Nat := 6
abbrev m_X0_hasSegment : Nat := 7
abbrev m_X0_writeSegment : Nat := 8
abbrev m_X0_readSegment : Nat := 9
abbrev m_X0_keepWholeText : Nat := 10
abbrev m_X1_init : Nat := 11
abbrev m_X1_tellService : Nat := 12
abbrev m_X1_hasService : Nat := 13
abbrev m_X1_ask : Nat := 14
abbrev m_X1_giveCredits : Nat := 15
abbrev m_X1_beginLeaving : Nat := 16
abbrev m_X1_nextId : Nat := 17
abbrev m_X1_addSignal : Nat := 18
abbrev m_X1_sendOn : Nat := 19
abbrev m_X1_hasUnit : Nat := 20
abbrev m_X1_beginSignal : Nat := 21
abbrev m_X1_beginSegment : Nat := 22
abbrev m_X1_gather : Nat := 23
abbrev m_X1_dropGathered : Nat := 24
abbrev m_X1_handleUnit : Nat := 25
abbrev m_X1_handleSegment : Nat := 26
abbrev m_X1_handleSignal : Nat := 27
abbrev m_X1_isSignal : Nat := 28
abbrev m_X1_told : Nat := 29
abbrev m_X1_onRequest : Nat := 30
abbrev m_X1_judgeRequest : Nat := 31
abbrev m_X1_onAnswer : Nat := 32
abbrev m_X1_onCredit : Nat := 33
abbrev m_X1_onLeave : Nat := 34
abbrev m_X1_onLeft : Nat := 35
abbrev m_X1_onReject : Nat := 36
abbrev m_X1_firstClosed : Nat := 37
abbrev m_X1_firstBySignal : Nat := 38
abbrev m_X2_init : Nat := 39
abbrev m_X3_init : Nat := 40
abbrev m_X3_clear : Nat := 41
abbrev m_X3_add : Nat := 42
abbrev m_X3_addNumber : Nat := 43
abbrev m_X3_addPart : Nat := 44
abbrev m_X3_at : Nat := 45
abbrev m_X3_numberAt : Nat := 46
abbrev m_X4_init : Nat := 47
abbrev m_X4_clear : Nat := 48
abbrev m_X4_first : Nat := 49
abbrev m_X4_addEmpty : Nat := 50
abbrev m_X4_dropFirst : Nat := 51
abbrev m_X5_init : Nat := 52
abbrev m_X5_hasRoomFor : Nat := 53
abbrev m_X5_freeBuffers : Nat := 54
abbrev m_X5_firstPacket : Nat := 55
abbrev m_X5_put : Nat := 56
abbrev m_X5_dropFirst : Nat := 57
abbrev m_X6_init : Nat := 58
abbrev m_X6_service : Nat := 59
abbrev m_X6_connect : Nat := 60
abbrev m_X6_feed : Nat := 61
abbrev m_X6_erase : Nat := 62
abbrev m_X6_send : Nat := 63
abbrev m_X6_grant : Nat := 64
abbrev m_X6_leave : Nat := 65
abbrev m_X6_take : Nat := 66
abbrev m_X6_lose : Nat := 67
abbrev m_X6_inject : Nat := 68
abbrev m_X6_receive : Nat := 69
abbrev m_X6_octet : Nat := 70
abbrev m_X6_channel : Nat := 71
abbrev m_X6_count : Nat := 72
abbrev m_X6_isHost : Nat := 73
abbrev m_X6_isChannel : Nat := 74
abbrev m_X6_isOffer : Nat := 75
abbrev m_X6_isFar : Nat := 76
abbrev m_X6_sendWhatCanGo : Nat := 77
abbrev m_X7_init : Nat := 78
abbrev m_X7_thrown : Nat := 79
abbrev m_X7_refused : Nat := 80
abbrev m_X7_isIn : Nat := 81
abbrev m_X7_isHost : Nat := 82
abbrev m_X7_isChannel : Nat := 83
abbrev m_X7_buffersOf : Nat := 84
abbrev m_X7_post : Nat := 85
abbrev m_X7_unitHead : Nat := 86
abbrev m_X7_unitByte : Nat := 87
abbrev m_X7_beginSignal : Nat := 88
abbrev m_X7_textByte : Nat := 89
abbrev m_X7_beginSegment : Nat := 90
abbrev m_X7_nextChannel : Nat := 91
abbrev m_X7_sendAll : Nat := 92
abbrev m_X7_sendBoth : Nat := 93
abbrev m_X7_begin : Nat := 94
abbrev m_X7_two : Nat := 95
abbrev m_X7_wait : Nat := 96
abbrev m_X7_takeId : Nat := 97
abbrev m_X7_dropTexts : Nat := 98
abbrev m_X7_leaveNow : Nat := 99
abbrev m_X7_close : Nat := 100
abbrev m_X7_firstClosed : Nat := 101
abbrev m_X7_reject : Nat := 102
abbrev m_X7_handTwo : Nat := 103
abbrev m_X7_isSound : Nat := 104
abbrev m_X7_resultOf : Nat := 105
abbrev m_X7_request : Nat := 106
abbrev m_X7_response : Nat := 107
abbrev m_X7_credit : Nat := 108
abbrev m_X7_signal : Nat := 109
abbrev m_X7_byId : Nat := 110
abbrev m_X7_segment : Nat := 111
abbrev m_X7_unit : Nat := 112
abbrev m_X7_shift : Nat := 113
abbrev m_X7_gather : Nat := 114
abbrev m_X7_take : Nat := 115
abbrev m_X7_lose : Nat := 116
abbrev m_X7_inject : Nat := 117
abbrev m_X7_isTold : Nat := 118
abbrev m_X7_service : Nat := 119
abbrev m_X7_connect : Nat := 120
abbrev m_X7_feed : Nat := 121
abbrev m_X7_erase : Nat := 122
abbrev m_X7_wrong : Nat := 123
abbrev m_X7_send : Nat := 124
abbrev m_X7_grant : Nat := 125
abbrev m_X7_leave : Nat := 126
abbrev m_X7_receive : Nat := 127
abbrev m_X7_octet : Nat := 128
abbrev m_X7_channel : Nat := 129
abbrev m_X7_count : Nat := 130
abbrev m_Jxa1e45_init_da8c8 : Nat := 131
abbrev m_Jxc12de_init_da8c8 : Nat := 132
abbrev m_Jx4a65c_init_da8c8 : Nat := 133
abbrev m_Jx4a65c_grow_92f84 : Nat := 134
abbrev m_Jx4a65c_grow_d5877 : Nat := 135
abbrev m_Jx4a65c_size_8abf5 : Nat := 136
abbrev m_Jx4a65c_isEmpty_aae02 : Nat := 137
abbrev m_Jx4a65c_add_72be8 : Nat := 138
abbrev m_Jx4a65c_add_9ea2d : Nat := 139
abbrev m_Jx4a65c_remove_915e3 : Nat := 140
abbrev m_Jx4a65c_fastRemove_b59b0 : Nat := 141
abbrev m_J7_copyOf_1904c : Nat := 142
abbrev m_J7_copyOf_6403c : Nat := 143
abbrev m_J15_checkIndex_7cf53 : Nat := 144
abbrev m_J8_newLength_cabcc : Nat := 145
abbrev m_J8_hugeLength_7cf53 : Nat := 146
abbrev m_J3_checkIndex_8e157 : Nat := 147
abbrev m_L_service : Nat := 148
abbrev m_L_connect : Nat := 149
abbrev m_L_feed : Nat := 150
abbrev m_L_send : Nat := 151
abbrev m_L_grant : Nat := 152
abbrev m_L_leave : Nat := 153
abbrev m_L_take : Nat := 154
abbrev m_L_lose : Nat := 155
abbrev m_L_inject : Nat := 156
abbrev m_L_receive : Nat := 157
abbrev m_L_channel : Nat := 158
abbrev m_L_count : Nat := 159
abbrev m_L_law : Nat := 160
end
section
def ev_ty (ci k : Nat) : FieldType := match ci with
  | 0 => tyJx4a65c k
  | 1 => tyX0 k
  | 2 => tyX1 k
  | 3 => tyX2 k
  | 4 => tyX3 k
  | 5 => tyX4 k
  | 6 => tyX5 k
  | 7 => tyX6 k
  | _ => tyX7 k
def ev_nf (ci : Nat) : Nat := match ci with
  | 0 => 3
  | 1 => 15
  | 2 => 14
  | 3 => 3
  | 4 => 2
  | 5 => 3
  | 6 => 4
  | 7 => 3
  | _ => 48
/-! WHAT THE TABLES SAY IS SO: lengths, numbers, links, checked by program. -/
def ev_lenb (i : Instr) (len : Nat) : Bool := match i with
  | .bipush _ | .ldc _ | .iload _ | .aload _ | .istore _ | .astore _ | .newarray _ => len == 2
  | .sipush _ | .ldc_w _ | .iinc _ _ | .goto _ | .ifnull _ | .ifnonnull _ | .ifCond _ _ | .if_icmp _ _ | .if_acmp _ _ | .getfield _ | .putfield _ | .getstatic _ | .new _ | .anewarray _ | .invokestatic _ | .invokespecial _ | .invokevirtual _ | .checkcast _ => len == 3
  | .tableswitch _ _ _ _ | .lookupswitch _ _ => true
  | _ => len == 1
def ev_fin (ci k : Nat) : Bool := match vwCl[ci]? with
  | some q => (q.2.1 k).2.2.2
  | none => false
def ev_opb (oc kd pc : Nat) (i : Instr) (a b : Nat) (w : Int32) : Bool := if b == 99 then true else match i with
  | .iconst v => w == Int32.ofInt v
  | .bipush v => w == (Int8.ofInt v).toInt32
  | .sipush v => w == (Int16.ofInt v).toInt32
  | .ldc k | .ldc_w k => ev_kt.contains (oc, k, w)
  | .iinc _ v => w == Int32.ofInt v
  | .goto o | .ifnull o | .ifnonnull o | .ifCond _ o | .if_icmp _ o => (pc : Int) + o == (a : Int)
  | .getfield k => ev_ft.contains (oc, k, a, b, w)
  | .putfield k => ev_ft.contains (oc, k, a, b, w) && (!ev_fin a b || (kd == 2 && w == 0 && decide ((vwCl.map fun q => q.1)[a]? = some (ev_on oc))))
  | .new k | .checkcast k => ev_ct.contains (oc, k, a)
  | .newarray ty => a == (match ty with | .byte => 0 | .int => 1 | .boolean => 2 | .long => 3 | _ => 77)
  | .anewarray k => ev_qt.contains (oc, k, a)
  | .invokestatic k => ev_mt.contains (oc, k, a, b) && (b == 0 || b == 3 || b == 6 || b == 7)
  | .invokespecial k => ev_mt.contains (oc, k, a, b) && (b == 2 || b == 5)
  | .invokevirtual k => ev_mt.contains (oc, k, a, b) && (b == 1)
  | .aastore => [(7, 4), (4, 1), (5, 2), (6, 3), (8, 4)].contains (a, b)
  | .lookupswitch _ ps => (ps.toList.zip (ps.toList.drop 1)).all (fun (q : (Int × Int) × (Int × Int)) => q.1.1 < q.2.1)
  | _ => true
def ev_okb (oc kd : Nat) (bytes : ByteArray) (q : ev_I) : Bool := decide (decode bytes q.1 = .ok (q.2.1, q.2.2.1)) && ev_lenb q.2.1 q.2.2.1 && ev_opb oc kd q.1 q.2.1 q.2.2.2.1 q.2.2.2.2.1 q.2.2.2.2.2
def ev_wd (i : Nat) (w : Cond) : Bool := decide (lw_tbl[i]? = some w)
def ev_fokb (z : (Nat × Nat × Nat × Nat × Int32) × Nat × Nat) : Bool := match z with
  | ((oc, idx, ci, k, w), i, j) => match vwCl[ci]? with
    | none => false
    | some (C, T, N) => decide (k < N) && (if w == 0 then ev_wd i (Cond.fieldLink (ev_on oc) idx (T k).1 (T k).2.1 (T k).2.2.1)
      else if w == 1 then ev_wd i (Cond.fieldLinkNest (ev_on oc) idx (T k).1 (T k).2.1 (T k).2.2.1 "CreditLink")
      else ev_wd i (Cond.fieldLink (ev_on oc) idx C (T k).2.1 (T k).2.2.1) && ev_wd j (Cond.sameField C (T k).1 (T k).2.1 (T k).2.2.1))
set_option maxRecDepth 100000 in
theorem ev_fz_ok : ev_fz.all ev_fokb = true := by decide +kernel
set_option maxRecDepth 100000 in
theorem ev_fz_ft : ev_fz.map (fun z => z.1) = ev_ft := by rfl
def ev_mokb (z : (Nat × Nat × Nat × Nat) × Nat × Nat × Nat × Nat) : Bool := match z with
  | ((oc, idx, m, b), i1, i2, i3, i4) =>
    if b == 5 then ev_wd i1 (Cond.methodLink (ev_on oc) idx Lib.objectInit)
    else if b == 6 then ev_wd i1 (Cond.methodLink (ev_on oc) idx Lib.Math.max.name)
    else if b == 7 then ev_wd i1 (Cond.methodLink (ev_on oc) idx Lib.Math.min.name)
    else match ev_ms[m]? with
    | none => false
    | some ((y, _, _, _, _, _, kd, _, _), _) => ev_wd i2 (Cond.initialized y.cls) && (
      if b == 0 then ev_wd i1 (Cond.methodLink (ev_on oc) idx y) && ev_wd i3 (Cond.static y)
      else if b == 1 then ev_wd i1 (Cond.methodLink (ev_on oc) idx y) && ev_wd i3 (Cond.instanceMethod y) && ev_wd i4 (Cond.selects y.cls y y)
      else if b == 2 then ev_wd i1 (Cond.methodLink (ev_on oc) idx y) && ev_wd i3 (Cond.instanceMethod y) && decide (y.name = "<init>") && kd == 2
      else ev_wd i1 (Cond.methodLinkNest (ev_on oc) idx y "CreditLink") && ev_wd i3 (Cond.static y))
set_option maxRecDepth 100000 in
theorem ev_mz_ok : ev_mz.all ev_mokb = true := by decide +kernel
set_option maxRecDepth 100000 in
theorem ev_mz_mt : ev_mz.map (fun z => z.1) = ev_mt := by rfl
def ev_cokb (z : (Nat × Nat × Nat) × Nat × Nat × Nat) : Bool := match z with
  | ((oc, idx, ci), i1, i2, i3) => match vwCl[ci]? with
    | none => false
    | some (C, _, N) => ev_wd i1 (Cond.classLink (ev_on oc) idx C) && ev_wd i2 (Cond.instantiable C N) && ev_wd i3 (Cond.initialized C) && decide (N = ev_nf ci)
set_option maxRecDepth 100000 in
theorem ev_cz_ok : ev_cz.all ev_cokb = true := by decide +kernel
theorem ev_cz_ct : ev_cz.map (fun z => z.1) = ev_ct := by rfl
def ev_qn (t : Nat) : String := match t with
  | 4 => RX0
  | 5 => RX1
  | 6 => RX2
  | 7 => RX3
  | _ => "java/lang/Object"
def ev_qokb (z : (Nat × Nat × Nat) × Nat × Nat) : Bool := match z with
  | ((oc, idx, t), i1, i2) => decide (4 ≤ t ∧ t ≤ 8) && ev_wd i1 (Cond.classLink (ev_on oc) idx (ev_qn t)) && ev_wd i2 (Cond.arrayOver (.object (ev_qn t)))
set_option maxRecDepth 100000 in
theorem ev_qz_ok : ev_qz.all ev_qokb = true := by decide +kernel
theorem ev_qz_qt : ev_qz.map (fun z => z.1) = ev_qt := by rfl
def ev_kokb (z : (Nat × Nat × Int32) × Nat) : Bool := ev_wd z.2 (Cond.constant (ev_on z.1.1) z.1.2.1 z.1.2.2)
set_option maxRecDepth 100000 in
theorem ev_kz_ok : ev_kz.all ev_kokb = true := by decide +kernel
theorem ev_kz_kt : ev_kz.map (fun z => z.1) = ev_kt := by rfl
/-- the fields' words of a class are among the tables' -/
def ev_lokb (ci : Nat) : Bool := match vwCl[ci]?, ev_lz[ci]? with
  | some (C, T, N), some z => decide (z.length = N) && (List.range N).all (fun k => ev_wd (z.getD k 0) (u_lay C T k))
  | _, _ => false
set_option maxRecDepth 100000 in
theorem ev_lay_ok : (List.range 9).all ev_lokb = true := by decide +kernel
end
section
set_option maxRecDepth 100000 in
theorem ko_X0_init : kc_X0_init.all (ev_okb 0 2 cX0_init) = true := by decide +kernel
set_option maxRecDepth 100000 in
theorem ko_X0_setOwn : kc_X0_setOwn.all (ev_okb 0 1 cX0_setOwn) = true := by decide +kernel
set_option maxRecDepth 100000 in
theorem ko_X0_open : kc_X0_open.all (ev_okb 0 1 cX0_open) = true := by decide +kernel
set_option maxRecDepth 100000 in
theorem ko_X0_close : kc_X0_close.all (ev_okb 0 1 cX0_close) = true := by decide +kernel
set_option maxRecDepth 100000 in
theorem ko_X0_forgetTexts : kc_X0_forgetTexts.all (ev_okb 0 1 cX0_forgetTexts) = true := by decide +kernel
set_option maxRecDepth 100000 in
theorem ko_X0_hasFar : kc_X0_hasFar.all (ev_okb 0 1 cX0_hasFar) = true := by decide +kernel
set_option maxRecDepth 100000 in
theorem ko_X0_putText : kc_X0_putText.all (ev_okb 0 1 cX0_putText) = true := by decide +kernel
set_option maxRecDepth 100000 in
theorem ko_X0_hasSegment : kc_X0_hasSegment.all (ev_okb 0 1 cX0_hasSegment) = true := by decide +kernel
set_option maxRecDepth 100000 in
theorem ko_X0_writeSegment : kc_X0_writeSegment.all (ev_okb 0 1 cX0_writeSegment) = true := by decide +kernel
set_option maxRecDepth 100000 in
theorem ko_X0_readSegment : kc_X0_readSegment.all (ev_okb 0 1 cX0_readSegment) = true := by decide +kernel
set_option maxRecDepth 100000 in
theorem ko_X0_keepWholeText : kc_X0_keepWholeText.all (ev_okb 0 1 cX0_keepWholeText) = true := by decide +kernel
set_option maxRecDepth 100000 in
theorem ko_X1_init : kc_X1_init.all (ev_okb 1 2 cX1_init) = true := by decide +kernel
set_option maxRecDepth 100000 in
theorem ko_X1_tellService : kc_X1_tellService.all (ev_okb 1 1 cX1_tellService) = true := by decide +kernel
set_option maxRecDepth 100000 in
theorem ko_X1_hasService : kc_X1_hasService.all (ev_okb 1 1 cX1_hasService) = true := by decide +kernel
set_option maxRecDepth 100000 in
theorem ko_X1_ask : kc_X1_ask.all (ev_okb 1 1 cX1_ask) = true := by decide +kernel
set_option maxRecDepth 100000 in
theorem ko_X1_giveCredits : kc_X1_giveCredits.all (ev_okb 1 1 cX1_giveCredits) = true := by decide +kernel
set_option maxRecDepth 100000 in
theorem ko_X1_beginLeaving : kc_X1_beginLeaving.all (ev_okb 1 1 cX1_beginLeaving) = true := by decide +kernel
set_option maxRecDepth 100000 in
theorem ko_X1_nextId : kc_X1_nextId.all (ev_okb 1 1 cX1_nextId) = true := by decide +kernel
set_option maxRecDepth 100000 in
theorem ko_X1_addSignal : kc_X1_addSignal.all (ev_okb 1 1 cX1_addSignal) = true := by decide +kernel
set_option maxRecDepth 100000 in
theorem ko_X1_sendOn : kc_X1_sendOn.all (ev_okb 1 1 cX1_sendOn) = true := by decide +kernel
set_option maxRecDepth 100000 in
theorem ko_X1_hasUnit : kc_X1_hasUnit.all (ev_okb 1 1 cX1_hasUnit) = true := by decide +kernel
set_option maxRecDepth 100000 in
theorem ko_X1_beginSignal : kc_X1_beginSignal.all (ev_okb 1 1 cX1_beginSignal) = true := by decide +kernel
set_option maxRecDepth 100000 in
theorem ko_X1_beginSegment : kc_X1_beginSegment.all (ev_okb 1 1 cX1_beginSegment) = true := by decide +kernel
set_option maxRecDepth 100000 in
theorem ko_X1_gather : kc_X1_gather.all (ev_okb 1 1 cX1_gather) = true := by decide +kernel
set_option maxRecDepth 100000 in
theorem ko_X1_dropGathered : kc_X1_dropGathered.all (ev_okb 1 1 cX1_dropGathered) = true := by decide +kernel
set_option maxRecDepth 100000 in
theorem ko_X1_handleUnit : kc_X1_handleUnit.all (ev_okb 1 1 cX1_handleUnit) = true := by decide +kernel
set_option maxRecDepth 100000 in
theorem ko_X1_handleSegment : kc_X1_handleSegment.all (ev_okb 1 1 cX1_handleSegment) = true := by decide +kernel
set_option maxRecDepth 100000 in
theorem ko_X1_handleSignal : kc_X1_handleSignal.all (ev_okb 1 1 cX1_handleSignal) = true := by decide +kernel
set_option maxRecDepth 100000 in
theorem ko_X1_isSignal : kc_X1_isSignal.all (ev_okb 1 0 cX1_isSignal) = true := by decide +kernel
set_option maxRecDepth 100000 in
theorem ko_X1_told : kc_X1_told.all (ev_okb 1 1 cX1_told) = true := by decide +kernel
set_option maxRecDepth 100000 in
theorem ko_X1_onRequest : kc_X1_onRequest.all (ev_okb 1 1 cX1_onRequest) = true := by decide +kernel
set_option maxRecDepth 100000 in
theorem ko_X1_judgeRequest : kc_X1_judgeRequest.all (ev_okb 1 1 cX1_judgeRequest) = true := by decide +kernel
set_option maxRecDepth 100000 in
theorem ko_X1_onAnswer : kc_X1_onAnswer.all (ev_okb 1 1 cX1_onAnswer) = true := by decide +kernel
set_option maxRecDepth 100000 in
theorem ko_X1_onCredit : kc_X1_onCredit.all (ev_okb 1 1 cX1_onCredit) = true := by decide +kernel
set_option maxRecDepth 100000 in
theorem ko_X1_onLeave : kc_X1_onLeave.all (ev_okb 1 1 cX1_onLeave) = true := by decide +kernel
set_option maxRecDepth 100000 in
theorem ko_X1_onLeft : kc_X1_onLeft.all (ev_okb 1 1 cX1_onLeft) = true := by decide +kernel
set_option maxRecDepth 100000 in
theorem ko_X1_onReject : kc_X1_onReject.all (ev_okb 1 1 cX1_onReject) = true := by decide +kernel
set_option maxRecDepth 100000 in
theorem ko_X1_firstClosed : kc_X1_firstClosed.all (ev_okb 1 1 cX1_firstClosed) = true := by decide +kernel
set_option maxRecDepth 100000 in
theorem ko_X1_firstBySignal : kc_X1_firstBySignal.all (ev_okb 1 1 cX1_firstBySignal) = true := by decide +kernel
set_option maxRecDepth 100000 in
theorem ko_X2_init : kc_X2_init.all (ev_okb 2 2 cX2_init) = true := by decide +kernel
set_option maxRecDepth 100000 in
theorem ko_X3_init : kc_X3_init.all (ev_okb 3 2 cX3_init) = true := by decide +kernel
set_option maxRecDepth 100000 in
theorem ko_X3_clear : kc_X3_clear.all (ev_okb 3 1 cX3_clear) = true := by decide +kernel
set_option maxRecDepth 100000 in
theorem ko_X3_add : kc_X3_add.all (ev_okb 3 1 cX3_add) = true := by decide +kernel
set_option maxRecDepth 100000 in
theorem ko_X3_addNumber : kc_X3_addNumber.all (ev_okb 3 1 cX3_addNumber) = true := by decide +kernel
set_option maxRecDepth 100000 in
theorem ko_X3_addPart : kc_X3_addPart.all (ev_okb 3 1 cX3_addPart) = true := by decide +kernel
set_option maxRecDepth 100000 in
theorem ko_X3_at : kc_X3_at.all (ev_okb 3 1 cX3_at) = true := by decide +kernel
set_option maxRecDepth 100000 in
theorem ko_X3_numberAt : kc_X3_numberAt.all (ev_okb 3 1 cX3_numberAt) = true := by decide +kernel
set_option maxRecDepth 100000 in
theorem ko_X4_init : kc_X4_init.all (ev_okb 4 2 cX4_init) = true := by decide +kernel
set_option maxRecDepth 100000 in
theorem ko_X4_clear : kc_X4_clear.all (ev_okb 4 1 cX4_clear) = true := by decide +kernel
set_option maxRecDepth 100000 in
theorem ko_X4_first : kc_X4_first.all (ev_okb 4 1 cX4_first) = true := by decide +kernel
set_option maxRecDepth 100000 in
theorem ko_X4_addEmpty : kc_X4_addEmpty.all (ev_okb 4 1 cX4_addEmpty) = true := by decide +kernel
set_option maxRecDepth 100000 in
theorem ko_X4_dropFirst : kc_X4_dropFirst.all (ev_okb 4 1 cX4_dropFirst) = true := by decide +kernel
set_option maxRecDepth 100000 in
theorem ko_X5_init : kc_X5_init.all (ev_okb 5 2 cX5_init) = true := by decide +kernel
set_option maxRecDepth 100000 in
theorem ko_X5_hasRoomFor : kc_X5_hasRoomFor.all (ev_okb 5 1 cX5_hasRoomFor) = true := by decide +kernel
set_option maxRecDepth 100000 in
theorem ko_X5_freeBuffers : kc_X5_freeBuffers.all (ev_okb 5 1 cX5_freeBuffers) = true := by decide +kernel
set_option maxRecDepth 100000 in
theorem ko_X5_firstPacket : kc_X5_firstPacket.all (ev_okb 5 1 cX5_firstPacket) = true := by decide +kernel
set_option maxRecDepth 100000 in
theorem ko_X5_put : kc_X5_put.all (ev_okb 5 1 cX5_put) = true := by decide +kernel
set_option maxRecDepth 100000 in
theorem ko_X5_dropFirst : kc_X5_dropFirst.all (ev_okb 5 1 cX5_dropFirst) = true := by decide +kernel
end
section
set_option maxRecDepth 100000 in
theorem ko_X6_init : kc_X6_init.all (ev_okb 6 2 cX6_init) = true := by decide +kernel
set_option maxRecDepth 100000 in
theorem ko_X6_service : kc_X6_service.all (ev_okb 6 1 cX6_service) = true := by decide +kernel
set_option maxRecDepth 100000 in
theorem ko_X6_connect : kc_X6_connect.all (ev_okb 6 1 cX6_connect) = true := by decide +kernel
set_option maxRecDepth 100000 in
theorem ko_X6_feed : kc_X6_feed.all (ev_okb 6 1 cX6_feed) = true := by decide +kernel
set_option maxRecDepth 100000 in
theorem ko_X6_erase : kc_X6_erase.all (ev_okb 6 1 cX6_erase) = true := by decide +kernel
set_option maxRecDepth 100000 in
theorem ko_X6_send : kc_X6_send.all (ev_okb 6 1 cX6_send) = true := by decide +kernel
set_option maxRecDepth 100000 in
theorem ko_X6_grant : kc_X6_grant.all (ev_okb 6 1 cX6_grant) = true := by decide +kernel
set_option maxRecDepth 100000 in
theorem ko_X6_leave : kc_X6_leave.all (ev_okb 6 1 cX6_leave) = true := by decide +kernel
set_option maxRecDepth 100000 in
theorem ko_X6_take : kc_X6_take.all (ev_okb 6 1 cX6_take) = true := by decide +kernel
set_option maxRecDepth 100000 in
theorem ko_X6_lose : kc_X6_lose.all (ev_okb 6 1 cX6_lose) = true := by decide +kernel
set_option maxRecDepth 100000 in
theorem ko_X6_inject : kc_X6_inject.all (ev_okb 6 1 cX6_inject) = true := by decide +kernel
set_option maxRecDepth 100000 in
theorem ko_X6_receive : kc_X6_receive.all (ev_okb 6 1 cX6_receive) = true := by decide +kernel
set_option maxRecDepth 100000 in
theorem ko_X6_octet : kc_X6_octet.all (ev_okb 6 1 cX6_octet) = true := by decide +kernel
set_option maxRecDepth 100000 in
theorem ko_X6_channel : kc_X6_channel.all (ev_okb 6 1 cX6_channel) = true := by decide +kernel
set_option maxRecDepth 100000 in
theorem ko_X6_count : kc_X6_count.all (ev_okb 6 1 cX6_count) = true := by decide +kernel
set_option maxRecDepth 100000 in
theorem ko_X6_isHost : kc_X6_isHost.all (ev_okb 6 0 cX6_isHost) = true := by decide +kernel
set_option maxRecDepth 100000 in
theorem ko_X6_isChannel : kc_X6_isChannel.all (ev_okb 6 0 cX6_isChannel) = true := by decide +kernel
set_option maxRecDepth 100000 in
theorem ko_X6_isOffer : kc_X6_isOffer.all (ev_okb 6 0 cX6_isOffer) = true := by decide +kernel
set_option maxRecDepth 100000 in
theorem ko_X6_isFar : kc_X6_isFar.all (ev_okb 6 0 cX6_isFar) = true := by decide +kernel
set_option maxRecDepth 100000 in
theorem ko_X6_sendWhatCanGo : kc_X6_sendWhatCanGo.all (ev_okb 6 1 cX6_sendWhatCanGo) = true := by decide +kernel
set_option maxRecDepth 100000 in
theorem ko_X7_init : kc_X7_init.all (ev_okb 7 2 cX7_init) = true := by decide +kernel
set_option maxRecDepth 100000 in
theorem ko_X7_thrown : kc_X7_thrown.all (ev_okb 7 1 cX7_thrown) = true := by decide +kernel
set_option maxRecDepth 100000 in
theorem ko_X7_refused : kc_X7_refused.all (ev_okb 7 1 cX7_refused) = true := by decide +kernel
set_option maxRecDepth 100000 in
theorem ko_X7_isIn : kc_X7_isIn.all (ev_okb 7 0 cX7_isIn) = true := by decide +kernel
set_option maxRecDepth 100000 in
theorem ko_X7_isHost : kc_X7_isHost.all (ev_okb 7 0 cX7_isHost) = true := by decide +kernel
set_option maxRecDepth 100000 in
theorem ko_X7_isChannel : kc_X7_isChannel.all (ev_okb 7 0 cX7_isChannel) = true := by decide +kernel
set_option maxRecDepth 100000 in
theorem ko_X7_buffersOf : kc_X7_buffersOf.all (ev_okb 7 1 cX7_buffersOf) = true := by decide +kernel
set_option maxRecDepth 100000 in
theorem ko_X7_post : kc_X7_post.all (ev_okb 7 1 cX7_post) = true := by decide +kernel
set_option maxRecDepth 100000 in
theorem ko_X7_unitHead : kc_X7_unitHead.all (ev_okb 7 1 cX7_unitHead) = true := by decide +kernel
set_option maxRecDepth 100000 in
theorem ko_X7_unitByte : kc_X7_unitByte.all (ev_okb 7 1 cX7_unitByte) = true := by decide +kernel
set_option maxRecDepth 100000 in
theorem ko_X7_beginSignal : kc_X7_beginSignal.all (ev_okb 7 1 cX7_beginSignal) = true := by decide +kernel
set_option maxRecDepth 100000 in
theorem ko_X7_textByte : kc_X7_textByte.all (ev_okb 7 1 cX7_textByte) = true := by decide +kernel
set_option maxRecDepth 100000 in
theorem ko_X7_beginSegment : kc_X7_beginSegment.all (ev_okb 7 1 cX7_beginSegment) = true := by decide +kernel
set_option maxRecDepth 100000 in
theorem ko_X7_nextChannel : kc_X7_nextChannel.all (ev_okb 7 1 cX7_nextChannel) = true := by decide +kernel
set_option maxRecDepth 100000 in
theorem ko_X7_sendAll : kc_X7_sendAll.all (ev_okb 7 1 cX7_sendAll) = true := by decide +kernel
set_option maxRecDepth 100000 in
theorem ko_X7_sendBoth : kc_X7_sendBoth.all (ev_okb 7 1 cX7_sendBoth) = true := by decide +kernel
set_option maxRecDepth 100000 in
theorem ko_X7_begin : kc_X7_begin.all (ev_okb 7 1 cX7_begin) = true := by decide +kernel
set_option maxRecDepth 100000 in
theorem ko_X7_two : kc_X7_two.all (ev_okb 7 1 cX7_two) = true := by decide +kernel
set_option maxRecDepth 100000 in
theorem ko_X7_wait : kc_X7_wait.all (ev_okb 7 1 cX7_wait) = true := by decide +kernel
set_option maxRecDepth 100000 in
theorem ko_X7_takeId : kc_X7_takeId.all (ev_okb 7 1 cX7_takeId) = true := by decide +kernel
set_option maxRecDepth 100000 in
theorem ko_X7_dropTexts : kc_X7_dropTexts.all (ev_okb 7 1 cX7_dropTexts) = true := by decide +kernel
set_option maxRecDepth 100000 in
theorem ko_X7_leaveNow : kc_X7_leaveNow.all (ev_okb 7 1 cX7_leaveNow) = true := by decide +kernel
set_option maxRecDepth 100000 in
theorem ko_X7_close : kc_X7_close.all (ev_okb 7 1 cX7_close) = true := by decide +kernel
set_option maxRecDepth 100000 in
theorem ko_X7_firstClosed : kc_X7_firstClosed.all (ev_okb 7 1 cX7_firstClosed) = true := by decide +kernel
end
section
set_option maxRecDepth 100000 in
theorem ko_X7_reject : kc_X7_reject.all (ev_okb 7 1 cX7_reject) = true := by decide +kernel
set_option maxRecDepth 100000 in
theorem ko_X7_handTwo : kc_X7_handTwo.all (ev_okb 7 1 cX7_handTwo) = true := by decide +kernel
set_option maxRecDepth 100000 in
theorem ko_X7_isSound : kc_X7_isSound.all (ev_okb 7 0 cX7_isSound) = true := by decide +kernel
set_option maxRecDepth 100000 in
theorem ko_X7_resultOf : kc_X7_resultOf.all (ev_okb 7 1 cX7_resultOf) = true := by decide +kernel
set_option maxRecDepth 100000 in
theorem ko_X7_request : kc_X7_request.all (ev_okb 7 1 cX7_request) = true := by decide +kernel
set_option maxRecDepth 100000 in
theorem ko_X7_response : kc_X7_response.all (ev_okb 7 1 cX7_response) = true := by decide +kernel
set_option maxRecDepth 100000 in
theorem ko_X7_credit : kc_X7_credit.all (ev_okb 7 1 cX7_credit) = true := by decide +kernel
set_option maxRecDepth 100000 in
theorem ko_X7_signal : kc_X7_signal.all (ev_okb 7 1 cX7_signal) = true := by decide +kernel
set_option maxRecDepth 100000 in
theorem ko_X7_byId : kc_X7_byId.all (ev_okb 7 1 cX7_byId) = true := by decide +kernel
set_option maxRecDepth 100000 in
theorem ko_X7_segment : kc_X7_segment.all (ev_okb 7 1 cX7_segment) = true := by decide +kernel
set_option maxRecDepth 100000 in
theorem ko_X7_unit : kc_X7_unit.all (ev_okb 7 1 cX7_unit) = true := by decide +kernel
set_option maxRecDepth 100000 in
theorem ko_X7_shift : kc_X7_shift.all (ev_okb 7 1 cX7_shift) = true := by decide +kernel
set_option maxRecDepth 100000 in
theorem ko_X7_gather : kc_X7_gather.all (ev_okb 7 1 cX7_gather) = true := by decide +kernel
set_option maxRecDepth 100000 in
theorem ko_X7_take : kc_X7_take.all (ev_okb 7 1 cX7_take) = true := by decide +kernel
set_option maxRecDepth 100000 in
theorem ko_X7_lose : kc_X7_lose.all (ev_okb 7 1 cX7_lose) = true := by decide +kernel
set_option maxRecDepth 100000 in
theorem ko_X7_inject : kc_X7_inject.all (ev_okb 7 1 cX7_inject) = true := by decide +kernel
set_option maxRecDepth 100000 in
theorem ko_X7_isTold : kc_X7_isTold.all (ev_okb 7 0 cX7_isTold) = true := by decide +kernel
set_option maxRecDepth 100000 in
theorem ko_X7_service : kc_X7_service.all (ev_okb 7 1 cX7_service) = true := by decide +kernel
set_option maxRecDepth 100000 in
theorem ko_X7_connect : kc_X7_connect.all (ev_okb 7 1 cX7_connect) = true := by decide +kernel
end
section
set_option maxRecDepth 100000 in
theorem ko_X7_feed : kc_X7_feed.all (ev_okb 7 1 cX7_feed) = true := by decide +kernel
set_option maxRecDepth 100000 in
theorem ko_X7_erase : kc_X7_erase.all (ev_okb 7 1 cX7_erase) = true := by decide +kernel
set_option maxRecDepth 100000 in
theorem ko_X7_wrong : kc_X7_wrong.all (ev_okb 7 1 cX7_wrong) = true := by decide +kernel
set_option maxRecDepth 100000 in
theorem ko_X7_send : kc_X7_send.all (ev_okb 7 1 cX7_send) = true := by decide +kernel
set_option maxRecDepth 100000 in
theorem ko_X7_grant : kc_X7_grant.all (ev_okb 7 1 cX7_grant) = true := by decide +kernel
set_option maxRecDepth 100000 in
theorem ko_X7_leave : kc_X7_leave.all (ev_okb 7 1 cX7_leave) = true := by decide +kernel
set_option maxRecDepth 100000 in
theorem ko_X7_receive : kc_X7_receive.all (ev_okb 7 1 cX7_receive) = true := by decide +kernel
set_option maxRecDepth 100000 in
theorem ko_X7_octet : kc_X7_octet.all (ev_okb 7 1 cX7_octet) = true := by decide +kernel
set_option maxRecDepth 100000 in
theorem ko_X7_channel : kc_X7_channel.all (ev_okb 7 1 cX7_channel) = true := by decide +kernel
set_option maxRecDepth 100000 in
theorem ko_X7_count : kc_X7_count.all (ev_okb 7 1 cX7_count) = true := by decide +kernel
set_option maxRecDepth 100000 in
theorem ko_Jxa1e45_init_da8c8 : kc_Jxa1e45_init_da8c8.all (ev_okb 10 2 cJxa1e45_init_da8c8) = true := by decide +kernel
set_option maxRecDepth 100000 in
theorem ko_Jxc12de_init_da8c8 : kc_Jxc12de_init_da8c8.all (ev_okb 9 2 cJxc12de_init_da8c8) = true := by decide +kernel
set_option maxRecDepth 100000 in
theorem ko_Jx4a65c_init_da8c8 : kc_Jx4a65c_init_da8c8.all (ev_okb 8 2 cJx4a65c_init_da8c8) = true := by decide +kernel
set_option maxRecDepth 100000 in
theorem ko_Jx4a65c_grow_92f84 : kc_Jx4a65c_grow_92f84.all (ev_okb 8 1 cJx4a65c_grow_92f84) = true := by decide +kernel
set_option maxRecDepth 100000 in
theorem ko_Jx4a65c_grow_d5877 : kc_Jx4a65c_grow_d5877.all (ev_okb 8 1 cJx4a65c_grow_d5877) = true := by decide +kernel
set_option maxRecDepth 100000 in
theorem ko_Jx4a65c_size_8abf5 : kc_Jx4a65c_size_8abf5.all (ev_okb 8 1 cJx4a65c_size_8abf5) = true := by decide +kernel
set_option maxRecDepth 100000 in
theorem ko_Jx4a65c_isEmpty_aae02 : kc_Jx4a65c_isEmpty_aae02.all (ev_okb 8 1 cJx4a65c_isEmpty_aae02) = true := by decide +kernel
set_option maxRecDepth 100000 in
theorem ko_Jx4a65c_add_72be8 : kc_Jx4a65c_add_72be8.all (ev_okb 8 1 cJx4a65c_add_72be8) = true := by decide +kernel
set_option maxRecDepth 100000 in
theorem ko_Jx4a65c_add_9ea2d : kc_Jx4a65c_add_9ea2d.all (ev_okb 8 1 cJx4a65c_add_9ea2d) = true := by decide +kernel
set_option maxRecDepth 100000 in
theorem ko_Jx4a65c_remove_915e3 : kc_Jx4a65c_remove_915e3.all (ev_okb 8 1 cJx4a65c_remove_915e3) = true := by decide +kernel
set_option maxRecDepth 100000 in
theorem ko_Jx4a65c_fastRemove_b59b0 : kc_Jx4a65c_fastRemove_b59b0.all (ev_okb 8 1 cJx4a65c_fastRemove_b59b0) = true := by decide +kernel
set_option maxRecDepth 100000 in
theorem ko_J7_copyOf_1904c : kc_J7_copyOf_1904c.all (ev_okb 13 0 cJ7_copyOf_1904c) = true := by decide +kernel
set_option maxRecDepth 100000 in
theorem ko_J7_copyOf_6403c : kc_J7_copyOf_6403c.all (ev_okb 13 0 cJ7_copyOf_6403c) = true := by decide +kernel
set_option maxRecDepth 100000 in
theorem ko_J15_checkIndex_7cf53 : kc_J15_checkIndex_7cf53.all (ev_okb 11 0 cJ15_checkIndex_7cf53) = true := by decide +kernel
set_option maxRecDepth 100000 in
theorem ko_J8_newLength_cabcc : kc_J8_newLength_cabcc.all (ev_okb 14 0 cJ8_newLength_cabcc) = true := by decide +kernel
set_option maxRecDepth 100000 in
theorem ko_J8_hugeLength_7cf53 : kc_J8_hugeLength_7cf53.all (ev_okb 14 0 cJ8_hugeLength_7cf53) = true := by decide +kernel
set_option maxRecDepth 100000 in
theorem ko_J3_checkIndex_8e157 : kc_J3_checkIndex_8e157.all (ev_okb 12 0 cJ3_checkIndex_8e157) = true := by decide +kernel
set_option maxRecDepth 100000 in
theorem ko_L_service : kc_L_service.all (ev_okb 15 0 cL_service) = true := by decide +kernel
set_option maxRecDepth 100000 in
theorem ko_L_connect : kc_L_connect.all (ev_okb 15 0 cL_connect) = true := by decide +kernel
set_option maxRecDepth 100000 in
theorem ko_L_feed : kc_L_feed.all (ev_okb 15 0 cL_feed) = true := by decide +kernel
set_option maxRecDepth 100000 in
theorem ko_L_send : kc_L_send.all (ev_okb 15 0 cL_send) = true := by decide +kernel
set_option maxRecDepth 100000 in
theorem ko_L_grant : kc_L_grant.all (ev_okb 15 0 cL_grant) = true := by decide +kernel
set_option maxRecDepth 100000 in
theorem ko_L_leave : kc_L_leave.all (ev_okb 15 0 cL_leave) = true := by decide +kernel
set_option maxRecDepth 100000 in
theorem ko_L_take : kc_L_take.all (ev_okb 15 0 cL_take) = true := by decide +kernel
set_option maxRecDepth 100000 in
theorem ko_L_lose : kc_L_lose.all (ev_okb 15 0 cL_lose) = true := by decide +kernel
set_option maxRecDepth 100000 in
theorem ko_L_inject : kc_L_inject.all (ev_okb 15 0 cL_inject) = true := by decide +kernel
set_option maxRecDepth 100000 in
theorem ko_L_receive : kc_L_receive.all (ev_okb 15 0 cL_receive) = true := by decide +kernel
set_option maxRecDepth 100000 in
theorem ko_L_channel : kc_L_channel.all (ev_okb 15 0 cL_channel) = true := by decide +kernel
set_option maxRecDepth 100000 in
theorem ko_L_count : kc_L_count.all (ev_okb 15 0 cL_count) = true := by decide +kernel
end
section
set_option maxRecDepth 100000 in
theorem kw_X0_init : lw_tbl[100]? = some (.code yX0_init cX0_init 2 none) := by rfl
set_option maxRecDepth 100000 in
theorem kw_X0_setOwn : lw_tbl[449]? = some (.code yX0_setOwn cX0_setOwn 4 none) := by rfl
set_option maxRecDepth 100000 in
theorem kw_X0_open : lw_tbl[742]? = some (.code yX0_open cX0_open 5 none) := by rfl
set_option maxRecDepth 100000 in
theorem kw_X0_close : lw_tbl[754]? = some (.code yX0_close cX0_close 1 none) := by rfl
set_option maxRecDepth 100000 in
theorem kw_X0_forgetTexts : lw_tbl[679]? = some (.code yX0_forgetTexts cX0_forgetTexts 1 none) := by rfl
set_option maxRecDepth 100000 in
theorem kw_X0_hasFar : lw_tbl[738]? = some (.code yX0_hasFar cX0_hasFar 2 (some .boolean)) := by rfl
set_option maxRecDepth 100000 in
theorem kw_X0_putText : lw_tbl[647]? = some (.code yX0_putText cX0_putText 3 (some .boolean)) := by rfl
set_option maxRecDepth 100000 in
theorem kw_X0_hasSegment : lw_tbl[587]? = some (.code yX0_hasSegment cX0_hasSegment 1 (some .boolean)) := by rfl
set_option maxRecDepth 100000 in
theorem kw_X0_writeSegment : lw_tbl[591]? = some (.code yX0_writeSegment cX0_writeSegment 4 none) := by rfl
set_option maxRecDepth 100000 in
theorem kw_X0_readSegment : lw_tbl[782]? = some (.code yX0_readSegment cX0_readSegment 4 (some .boolean)) := by rfl
set_option maxRecDepth 100000 in
theorem kw_X0_keepWholeText : lw_tbl[787]? = some (.code yX0_keepWholeText cX0_keepWholeText 2 (some .boolean)) := by rfl
set_option maxRecDepth 100000 in
theorem kw_X1_init : lw_tbl[93]? = some (.code yX1_init cX1_init 2 none) := by rfl
set_option maxRecDepth 100000 in
theorem kw_X1_tellService : lw_tbl[430]? = some (.code yX1_tellService cX1_tellService 5 none) := by rfl
set_option maxRecDepth 100000 in
theorem kw_X1_hasService : lw_tbl[731]? = some (.code yX1_hasService cX1_hasService 2 (some .boolean)) := by rfl
set_option maxRecDepth 100000 in
theorem kw_X1_ask : lw_tbl[441]? = some (.code yX1_ask cX1_ask 7 (some .int)) := by rfl
set_option maxRecDepth 100000 in
theorem kw_X1_giveCredits : lw_tbl[664]? = some (.code yX1_giveCredits cX1_giveCredits 4 none) := by rfl
set_option maxRecDepth 100000 in
theorem kw_X1_beginLeaving : lw_tbl[675]? = some (.code yX1_beginLeaving cX1_beginLeaving 3 none) := by rfl
set_option maxRecDepth 100000 in
theorem kw_X1_nextId : lw_tbl[457]? = some (.code yX1_nextId cX1_nextId 1 (some .int)) := by rfl
set_option maxRecDepth 100000 in
theorem kw_X1_addSignal : lw_tbl[461]? = some (.code yX1_addSignal cX1_addSignal 5 (some (.object "CreditLink$Row"))) := by rfl
set_option maxRecDepth 100000 in
theorem kw_X1_sendOn : lw_tbl[539]? = some (.code yX1_sendOn cX1_sendOn 3 none) := by rfl
set_option maxRecDepth 100000 in
theorem kw_X1_hasUnit : lw_tbl[551]? = some (.code yX1_hasUnit cX1_hasUnit 1 (some .boolean)) := by rfl
set_option maxRecDepth 100000 in
theorem kw_X1_beginSignal : lw_tbl[555]? = some (.code yX1_beginSignal cX1_beginSignal 2 (some .boolean)) := by rfl
set_option maxRecDepth 100000 in
theorem kw_X1_beginSegment : lw_tbl[583]? = some (.code yX1_beginSegment cX1_beginSegment 3 (some .boolean)) := by rfl
set_option maxRecDepth 100000 in
theorem kw_X1_gather : lw_tbl[695]? = some (.code yX1_gather cX1_gather 4 (some .boolean)) := by rfl
set_option maxRecDepth 100000 in
theorem kw_X1_dropGathered : lw_tbl[699]? = some (.code yX1_dropGathered cX1_dropGathered 1 none) := by rfl
set_option maxRecDepth 100000 in
theorem kw_X1_handleUnit : lw_tbl[707]? = some (.code yX1_handleUnit cX1_handleUnit 2 none) := by rfl
set_option maxRecDepth 100000 in
theorem kw_X1_handleSegment : lw_tbl[778]? = some (.code yX1_handleSegment cX1_handleSegment 3 none) := by rfl
set_option maxRecDepth 100000 in
theorem kw_X1_handleSignal : lw_tbl[711]? = some (.code yX1_handleSignal cX1_handleSignal 4 none) := by rfl
set_option maxRecDepth 100000 in
theorem kw_X1_isSignal : lw_tbl[715]? = some (.code yX1_isSignal cX1_isSignal 2 (some .boolean)) := by rfl
set_option maxRecDepth 100000 in
theorem kw_X1_told : lw_tbl[723]? = some (.code yX1_told cX1_told 2 (some .int)) := by rfl
set_option maxRecDepth 100000 in
theorem kw_X1_onRequest : lw_tbl[719]? = some (.code yX1_onRequest cX1_onRequest 7 none) := by rfl
set_option maxRecDepth 100000 in
theorem kw_X1_judgeRequest : lw_tbl[727]? = some (.code yX1_judgeRequest cX1_judgeRequest 6 (some .int)) := by rfl
set_option maxRecDepth 100000 in
theorem kw_X1_onAnswer : lw_tbl[746]? = some (.code yX1_onAnswer cX1_onAnswer 4 none) := by rfl
set_option maxRecDepth 100000 in
theorem kw_X1_onCredit : lw_tbl[759]? = some (.code yX1_onCredit cX1_onCredit 3 none) := by rfl
set_option maxRecDepth 100000 in
theorem kw_X1_onLeave : lw_tbl[765]? = some (.code yX1_onLeave cX1_onLeave 3 none) := by rfl
set_option maxRecDepth 100000 in
theorem kw_X1_onLeft : lw_tbl[770]? = some (.code yX1_onLeft cX1_onLeft 2 none) := by rfl
set_option maxRecDepth 100000 in
theorem kw_X1_onReject : lw_tbl[774]? = some (.code yX1_onReject cX1_onReject 3 none) := by rfl
set_option maxRecDepth 100000 in
theorem kw_X1_firstClosed : lw_tbl[445]? = some (.code yX1_firstClosed cX1_firstClosed 2 (some (.object "CreditLink$Channel"))) := by rfl
set_option maxRecDepth 100000 in
theorem kw_X1_firstBySignal : lw_tbl[750]? = some (.code yX1_firstBySignal cX1_firstBySignal 6 (some (.object "CreditLink$Channel"))) := by rfl
set_option maxRecDepth 100000 in
theorem kw_X2_init : lw_tbl[212]? = some (.code yX2_init cX2_init 1 none) := by rfl
set_option maxRecDepth 100000 in
theorem kw_X3_init : lw_tbl[113]? = some (.code yX3_init cX3_init 2 none) := by rfl
set_option maxRecDepth 100000 in
theorem kw_X3_clear : lw_tbl[342]? = some (.code yX3_clear cX3_clear 1 none) := by rfl
set_option maxRecDepth 100000 in
theorem kw_X3_add : lw_tbl[465]? = some (.code yX3_add cX3_add 2 none) := by rfl
set_option maxRecDepth 100000 in
theorem kw_X3_addNumber : lw_tbl[469]? = some (.code yX3_addNumber cX3_addNumber 2 none) := by rfl
set_option maxRecDepth 100000 in
theorem kw_X3_addPart : lw_tbl[579]? = some (.code yX3_addPart cX3_addPart 6 none) := by rfl
set_option maxRecDepth 100000 in
theorem kw_X3_at : lw_tbl[350]? = some (.code yX3_at cX3_at 2 (some .int)) := by rfl
set_option maxRecDepth 100000 in
theorem kw_X3_numberAt : lw_tbl[703]? = some (.code yX3_numberAt cX3_numberAt 2 (some .int)) := by rfl
set_option maxRecDepth 100000 in
theorem kw_X4_init : lw_tbl[106]? = some (.code yX4_init cX4_init 4 none) := by rfl
set_option maxRecDepth 100000 in
theorem kw_X4_clear : lw_tbl[453]? = some (.code yX4_clear cX4_clear 1 none) := by rfl
set_option maxRecDepth 100000 in
theorem kw_X4_first : lw_tbl[595]? = some (.code yX4_first cX4_first 1 (some (.object "CreditLink$Row"))) := by rfl
set_option maxRecDepth 100000 in
theorem kw_X4_addEmpty : lw_tbl[651]? = some (.code yX4_addEmpty cX4_addEmpty 3 (some (.object "CreditLink$Row"))) := by rfl
set_option maxRecDepth 100000 in
theorem kw_X4_dropFirst : lw_tbl[602]? = some (.code yX4_dropFirst cX4_dropFirst 1 none) := by rfl
set_option maxRecDepth 100000 in
theorem kw_X5_init : lw_tbl[205]? = some (.code yX5_init cX5_init 2 none) := by rfl
set_option maxRecDepth 100000 in
theorem kw_X5_hasRoomFor : lw_tbl[547]? = some (.code yX5_hasRoomFor cX5_hasRoomFor 2 (some .boolean)) := by rfl
set_option maxRecDepth 100000 in
theorem kw_X5_freeBuffers : lw_tbl[543]? = some (.code yX5_freeBuffers cX5_freeBuffers 1 (some .int)) := by rfl
set_option maxRecDepth 100000 in
theorem kw_X5_firstPacket : lw_tbl[691]? = some (.code yX5_firstPacket cX5_firstPacket 1 (some (.object "CreditLink$Packet"))) := by rfl
set_option maxRecDepth 100000 in
theorem kw_X5_put : lw_tbl[606]? = some (.code yX5_put cX5_put 5 none) := by rfl
set_option maxRecDepth 100000 in
theorem kw_X5_dropFirst : lw_tbl[791]? = some (.code yX5_dropFirst cX5_dropFirst 1 (some .boolean)) := by rfl
set_option maxRecDepth 100000 in
theorem kw_X6_init : lw_tbl[84]? = some (.code yX6_init cX6_init 2 none) := by rfl
set_option maxRecDepth 100000 in
theorem kw_X6_service : lw_tbl[358]? = some (.code yX6_service cX6_service 6 none) := by rfl
set_option maxRecDepth 100000 in
theorem kw_X6_connect : lw_tbl[437]? = some (.code yX6_connect cX6_connect 7 (some .int)) := by rfl
set_option maxRecDepth 100000 in
theorem kw_X6_feed : lw_tbl[617]? = some (.code yX6_feed cX6_feed 8 (some .int)) := by rfl
set_option maxRecDepth 100000 in
theorem kw_X6_erase : lw_tbl[338]? = some (.code yX6_erase cX6_erase 2 (some .int)) := by rfl
set_option maxRecDepth 100000 in
theorem kw_X6_send : lw_tbl[640]? = some (.code yX6_send cX6_send 5 (some .int)) := by rfl
set_option maxRecDepth 100000 in
theorem kw_X6_grant : lw_tbl[659]? = some (.code yX6_grant cX6_grant 5 (some .int)) := by rfl
set_option maxRecDepth 100000 in
theorem kw_X6_leave : lw_tbl[671]? = some (.code yX6_leave cX6_leave 4 none) := by rfl
set_option maxRecDepth 100000 in
theorem kw_X6_take : lw_tbl[687]? = some (.code yX6_take cX6_take 5 (some .int)) := by rfl
set_option maxRecDepth 100000 in
theorem kw_X6_lose : lw_tbl[798]? = some (.code yX6_lose cX6_lose 3 (some .boolean)) := by rfl
set_option maxRecDepth 100000 in
theorem kw_X6_inject : lw_tbl[805]? = some (.code yX6_inject cX6_inject 7 (some .int)) := by rfl
set_option maxRecDepth 100000 in
theorem kw_X6_receive : lw_tbl[816]? = some (.code yX6_receive cX6_receive 5 (some .int)) := by rfl
set_option maxRecDepth 100000 in
theorem kw_X6_octet : lw_tbl[346]? = some (.code yX6_octet cX6_octet 2 (some .int)) := by rfl
set_option maxRecDepth 100000 in
theorem kw_X6_channel : lw_tbl[825]? = some (.code yX6_channel cX6_channel 5 (some .int)) := by rfl
set_option maxRecDepth 100000 in
theorem kw_X6_count : lw_tbl[832]? = some (.code yX6_count cX6_count 4 (some .int)) := by rfl
set_option maxRecDepth 100000 in
theorem kw_X6_isHost : lw_tbl[361]? = some (.code yX6_isHost cX6_isHost 1 (some .boolean)) := by rfl
set_option maxRecDepth 100000 in
theorem kw_X6_isChannel : lw_tbl[643]? = some (.code yX6_isChannel cX6_isChannel 1 (some .boolean)) := by rfl
set_option maxRecDepth 100000 in
theorem kw_X6_isOffer : lw_tbl[364]? = some (.code yX6_isOffer cX6_isOffer 4 (some .boolean)) := by rfl
set_option maxRecDepth 100000 in
theorem kw_X6_isFar : lw_tbl[734]? = some (.code yX6_isFar cX6_isFar 1 (some .boolean)) := by rfl
set_option maxRecDepth 100000 in
theorem kw_X6_sendWhatCanGo : lw_tbl[535]? = some (.code yX6_sendWhatCanGo cX6_sendWhatCanGo 2 none) := by rfl
set_option maxRecDepth 100000 in
theorem kw_X7_init : lw_tbl[839]? = some (.code yX7_init cX7_init 2 none) := by rfl
set_option maxRecDepth 100000 in
theorem kw_X7_thrown : lw_tbl[991]? = some (.code yX7_thrown cX7_thrown 1 (some .int)) := by rfl
set_option maxRecDepth 100000 in
theorem kw_X7_refused : lw_tbl[1002]? = some (.code yX7_refused cX7_refused 2 (some .boolean)) := by rfl
set_option maxRecDepth 100000 in
theorem kw_X7_isIn : lw_tbl[1053]? = some (.code yX7_isIn cX7_isIn 3 (some .boolean)) := by rfl
set_option maxRecDepth 100000 in
theorem kw_X7_isHost : lw_tbl[998]? = some (.code yX7_isHost cX7_isHost 1 (some .boolean)) := by rfl
set_option maxRecDepth 100000 in
theorem kw_X7_isChannel : lw_tbl[1167]? = some (.code yX7_isChannel cX7_isChannel 2 (some .boolean)) := by rfl
set_option maxRecDepth 100000 in
theorem kw_X7_buffersOf : lw_tbl[1101]? = some (.code yX7_buffersOf cX7_buffersOf 4 (some .int)) := by rfl
set_option maxRecDepth 100000 in
theorem kw_X7_post : lw_tbl[1129]? = some (.code yX7_post cX7_post 9 none) := by rfl
set_option maxRecDepth 100000 in
theorem kw_X7_unitHead : lw_tbl[1113]? = some (.code yX7_unitHead cX7_unitHead 5 none) := by rfl
set_option maxRecDepth 100000 in
theorem kw_X7_unitByte : lw_tbl[1117]? = some (.code yX7_unitByte cX7_unitByte 3 none) := by rfl
set_option maxRecDepth 100000 in
theorem kw_X7_beginSignal : lw_tbl[1109]? = some (.code yX7_beginSignal cX7_beginSignal 4 none) := by rfl
set_option maxRecDepth 100000 in
theorem kw_X7_textByte : lw_tbl[1125]? = some (.code yX7_textByte cX7_textByte 3 (some .int)) := by rfl
set_option maxRecDepth 100000 in
theorem kw_X7_beginSegment : lw_tbl[1121]? = some (.code yX7_beginSegment cX7_beginSegment 7 none) := by rfl
set_option maxRecDepth 100000 in
theorem kw_X7_nextChannel : lw_tbl[1105]? = some (.code yX7_nextChannel cX7_nextChannel 4 (some .int)) := by rfl
set_option maxRecDepth 100000 in
theorem kw_X7_sendAll : lw_tbl[1097]? = some (.code yX7_sendAll cX7_sendAll 5 none) := by rfl
set_option maxRecDepth 100000 in
theorem kw_X7_sendBoth : lw_tbl[1093]? = some (.code yX7_sendBoth cX7_sendBoth 1 none) := by rfl
set_option maxRecDepth 100000 in
theorem kw_X7_begin : lw_tbl[1034]? = some (.code yX7_begin cX7_begin 4 none) := by rfl
set_option maxRecDepth 100000 in
theorem kw_X7_two : lw_tbl[1038]? = some (.code yX7_two cX7_two 2 none) := by rfl
set_option maxRecDepth 100000 in
theorem kw_X7_wait : lw_tbl[1042]? = some (.code yX7_wait cX7_wait 4 none) := by rfl
set_option maxRecDepth 100000 in
theorem kw_X7_takeId : lw_tbl[1073]? = some (.code yX7_takeId cX7_takeId 3 (some .int)) := by rfl
set_option maxRecDepth 100000 in
theorem kw_X7_dropTexts : lw_tbl[1069]? = some (.code yX7_dropTexts cX7_dropTexts 2 none) := by rfl
set_option maxRecDepth 100000 in
theorem kw_X7_leaveNow : lw_tbl[1065]? = some (.code yX7_leaveNow cX7_leaveNow 3 none) := by rfl
set_option maxRecDepth 100000 in
theorem kw_X7_close : lw_tbl[1077]? = some (.code yX7_close cX7_close 2 none) := by rfl
set_option maxRecDepth 100000 in
theorem kw_X7_firstClosed : lw_tbl[1057]? = some (.code yX7_firstClosed cX7_firstClosed 3 (some .int)) := by rfl
set_option maxRecDepth 100000 in
theorem kw_X7_reject : lw_tbl[1030]? = some (.code yX7_reject cX7_reject 6 none) := by rfl
set_option maxRecDepth 100000 in
theorem kw_X7_handTwo : lw_tbl[1023]? = some (.code yX7_handTwo cX7_handTwo 2 (some .int)) := by rfl
set_option maxRecDepth 100000 in
theorem kw_X7_isSound : lw_tbl[1026]? = some (.code yX7_isSound cX7_isSound 2 (some .boolean)) := by rfl
set_option maxRecDepth 100000 in
theorem kw_X7_resultOf : lw_tbl[1050]? = some (.code yX7_resultOf cX7_resultOf 7 (some .int)) := by rfl
set_option maxRecDepth 100000 in
theorem kw_X7_request : lw_tbl[1046]? = some (.code yX7_request cX7_request 7 none) := by rfl
set_option maxRecDepth 100000 in
theorem kw_X7_response : lw_tbl[1085]? = some (.code yX7_response cX7_response 3 none) := by rfl
set_option maxRecDepth 100000 in
theorem kw_X7_credit : lw_tbl[1061]? = some (.code yX7_credit cX7_credit 4 none) := by rfl
set_option maxRecDepth 100000 in
theorem kw_X7_signal : lw_tbl[1019]? = some (.code yX7_signal cX7_signal 8 none) := by rfl
set_option maxRecDepth 100000 in
theorem kw_X7_byId : lw_tbl[1081]? = some (.code yX7_byId cX7_byId 5 none) := by rfl
set_option maxRecDepth 100000 in
theorem kw_X7_segment : lw_tbl[1089]? = some (.code yX7_segment cX7_segment 9 none) := by rfl
set_option maxRecDepth 100000 in
theorem kw_X7_unit : lw_tbl[1015]? = some (.code yX7_unit cX7_unit 6 none) := by rfl
set_option maxRecDepth 100000 in
theorem kw_X7_shift : lw_tbl[1006]? = some (.code yX7_shift cX7_shift 6 (some .int)) := by rfl
set_option maxRecDepth 100000 in
theorem kw_X7_gather : lw_tbl[1010]? = some (.code yX7_gather cX7_gather 6 none) := by rfl
set_option maxRecDepth 100000 in
theorem kw_X7_take : lw_tbl[995]? = some (.code yX7_take cX7_take 4 (some .int)) := by rfl
set_option maxRecDepth 100000 in
theorem kw_X7_lose : lw_tbl[1133]? = some (.code yX7_lose cX7_lose 2 (some .boolean)) := by rfl
set_option maxRecDepth 100000 in
theorem kw_X7_inject : lw_tbl[1137]? = some (.code yX7_inject cX7_inject 12 (some .int)) := by rfl
set_option maxRecDepth 100000 in
theorem kw_X7_isTold : lw_tbl[1144]? = some (.code yX7_isTold cX7_isTold 5 (some .boolean)) := by rfl
set_option maxRecDepth 100000 in
theorem kw_X7_service : lw_tbl[1141]? = some (.code yX7_service cX7_service 6 none) := by rfl
set_option maxRecDepth 100000 in
theorem kw_X7_connect : lw_tbl[1148]? = some (.code yX7_connect cX7_connect 7 (some .int)) := by rfl
set_option maxRecDepth 100000 in
theorem kw_X7_feed : lw_tbl[1152]? = some (.code yX7_feed cX7_feed 8 (some .int)) := by rfl
set_option maxRecDepth 100000 in
theorem kw_X7_erase : lw_tbl[1156]? = some (.code yX7_erase cX7_erase 2 (some .int)) := by rfl
set_option maxRecDepth 100000 in
theorem kw_X7_wrong : lw_tbl[1164]? = some (.code yX7_wrong cX7_wrong 4 (some .int)) := by rfl
set_option maxRecDepth 100000 in
theorem kw_X7_send : lw_tbl[1160]? = some (.code yX7_send cX7_send 6 (some .int)) := by rfl
set_option maxRecDepth 100000 in
theorem kw_X7_grant : lw_tbl[1171]? = some (.code yX7_grant cX7_grant 5 (some .int)) := by rfl
set_option maxRecDepth 100000 in
theorem kw_X7_leave : lw_tbl[1175]? = some (.code yX7_leave cX7_leave 3 none) := by rfl
set_option maxRecDepth 100000 in
theorem kw_X7_receive : lw_tbl[1179]? = some (.code yX7_receive cX7_receive 7 (some .int)) := by rfl
set_option maxRecDepth 100000 in
theorem kw_X7_octet : lw_tbl[1183]? = some (.code yX7_octet cX7_octet 2 (some .int)) := by rfl
set_option maxRecDepth 100000 in
theorem kw_X7_channel : lw_tbl[1187]? = some (.code yX7_channel cX7_channel 5 (some .int)) := by rfl
set_option maxRecDepth 100000 in
theorem kw_X7_count : lw_tbl[1191]? = some (.code yX7_count cX7_count 3 (some .int)) := by rfl
set_option maxRecDepth 100000 in
theorem kw_Jxa1e45_init_da8c8 : lw_tbl[255]? = some (.code yJxa1e45_init_da8c8 cJxa1e45_init_da8c8 1 none) := by rfl
set_option maxRecDepth 100000 in
theorem kw_Jxc12de_init_da8c8 : lw_tbl[252]? = some (.code yJxc12de_init_da8c8 cJxc12de_init_da8c8 1 none) := by rfl
set_option maxRecDepth 100000 in
theorem kw_Jx4a65c_init_da8c8 : lw_tbl[249]? = some (.code yJx4a65c_init_da8c8 cJx4a65c_init_da8c8 1 none) := by rfl
set_option maxRecDepth 100000 in
theorem kw_Jx4a65c_grow_92f84 : lw_tbl[489]? = some (.code yJx4a65c_grow_92f84 cJx4a65c_grow_92f84 4 (some (.array (.object "java/lang/Object")))) := by rfl
set_option maxRecDepth 100000 in
theorem kw_Jx4a65c_grow_d5877 : lw_tbl[485]? = some (.code yJx4a65c_grow_d5877 cJx4a65c_grow_d5877 1 (some (.array (.object "java/lang/Object")))) := by rfl
set_option maxRecDepth 100000 in
theorem kw_Jx4a65c_size_8abf5 : lw_tbl[473]? = some (.code yJx4a65c_size_8abf5 cJx4a65c_size_8abf5 1 (some .int)) := by rfl
set_option maxRecDepth 100000 in
theorem kw_Jx4a65c_isEmpty_aae02 : lw_tbl[559]? = some (.code yJx4a65c_isEmpty_aae02 cJx4a65c_isEmpty_aae02 1 (some .boolean)) := by rfl
set_option maxRecDepth 100000 in
theorem kw_Jx4a65c_add_72be8 : lw_tbl[481]? = some (.code yJx4a65c_add_72be8 cJx4a65c_add_72be8 4 none) := by rfl
set_option maxRecDepth 100000 in
theorem kw_Jx4a65c_add_9ea2d : lw_tbl[477]? = some (.code yJx4a65c_add_9ea2d cJx4a65c_add_9ea2d 2 (some .boolean)) := by rfl
set_option maxRecDepth 100000 in
theorem kw_Jx4a65c_remove_915e3 : lw_tbl[563]? = some (.code yJx4a65c_remove_915e3 cJx4a65c_remove_915e3 4 (some (.object "java/lang/Object"))) := by rfl
set_option maxRecDepth 100000 in
theorem kw_Jx4a65c_fastRemove_b59b0 : lw_tbl[573]? = some (.code yJx4a65c_fastRemove_b59b0 cJx4a65c_fastRemove_b59b0 4 none) := by rfl
set_option maxRecDepth 100000 in
theorem kw_J7_copyOf_1904c : lw_tbl[502]? = some (.code yJ7_copyOf_1904c cJ7_copyOf_1904c 2 (some (.array (.object "java/lang/Object")))) := by rfl
set_option maxRecDepth 100000 in
theorem kw_J7_copyOf_6403c : lw_tbl[520]? = some (.code yJ7_copyOf_6403c cJ7_copyOf_6403c 4 (some (.array (.object "java/lang/Object")))) := by rfl
set_option maxRecDepth 100000 in
theorem kw_J15_checkIndex_7cf53 : lw_tbl[566]? = some (.code yJ15_checkIndex_7cf53 cJ15_checkIndex_7cf53 2 (some .int)) := by rfl
set_option maxRecDepth 100000 in
theorem kw_J8_newLength_cabcc : lw_tbl[492]? = some (.code yJ8_newLength_cabcc cJ8_newLength_cabcc 4 (some .int)) := by rfl
set_option maxRecDepth 100000 in
theorem kw_J8_hugeLength_7cf53 : lw_tbl[499]? = some (.code yJ8_hugeLength_7cf53 cJ8_hugeLength_7cf53 3 (some .int)) := by rfl
set_option maxRecDepth 100000 in
theorem kw_J3_checkIndex_8e157 : lw_tbl[569]? = some (.code yJ3_checkIndex_8e157 cJ3_checkIndex_8e157 3 (some .int)) := by rfl
def ev_mdok (q : ev_Md × List ev_I) : Prop := Cond.code q.1.1 q.1.2.1 q.1.2.2.1 q.1.2.2.2.1 ∈ lw_tbl ∧ q.2.all (ev_okb q.1.2.2.2.2.1 q.1.2.2.2.2.2.2.1 q.1.2.1) = true
theorem km_X0_init : ev_mdok ((yX0_init, cX0_init, 2, none, 0, 1, 2, 22, 1184), kc_X0_init) := ⟨List.mem_of_getElem? kw_X0_init, ko_X0_init⟩
theorem km_X0_setOwn : ev_mdok ((yX0_setOwn, cX0_setOwn, 4, none, 0, 3, 1, 0, 0), kc_X0_setOwn) := ⟨List.mem_of_getElem? kw_X0_setOwn, ko_X0_setOwn⟩
theorem km_X0_open : ev_mdok ((yX0_open, cX0_open, 5, none, 0, 4, 1, 0, 0), kc_X0_open) := ⟨List.mem_of_getElem? kw_X0_open, ko_X0_open⟩
theorem km_X0_close : ev_mdok ((yX0_close, cX0_close, 1, none, 0, 0, 1, 0, 0), kc_X0_close) := ⟨List.mem_of_getElem? kw_X0_close, ko_X0_close⟩
theorem km_X0_forgetTexts : ev_mdok ((yX0_forgetTexts, cX0_forgetTexts, 1, none, 0, 0, 1, 0, 0), kc_X0_forgetTexts) := ⟨List.mem_of_getElem? kw_X0_forgetTexts, ko_X0_forgetTexts⟩
theorem km_X0_hasFar : ev_mdok ((yX0_hasFar, cX0_hasFar, 2, (some .boolean), 0, 1, 1, 0, 0), kc_X0_hasFar) := ⟨List.mem_of_getElem? kw_X0_hasFar, ko_X0_hasFar⟩
theorem km_X0_putText : ev_mdok ((yX0_putText, cX0_putText, 3, (some .boolean), 0, 1, 1, 0, 0), kc_X0_putText) := ⟨List.mem_of_getElem? kw_X0_putText, ko_X0_putText⟩
theorem km_X0_hasSegment : ev_mdok ((yX0_hasSegment, cX0_hasSegment, 1, (some .boolean), 0, 0, 1, 0, 0), kc_X0_hasSegment) := ⟨List.mem_of_getElem? kw_X0_hasSegment, ko_X0_hasSegment⟩
theorem km_X0_writeSegment : ev_mdok ((yX0_writeSegment, cX0_writeSegment, 4, none, 0, 1, 1, 0, 0), kc_X0_writeSegment) := ⟨List.mem_of_getElem? kw_X0_writeSegment, ko_X0_writeSegment⟩
theorem km_X0_readSegment : ev_mdok ((yX0_readSegment, cX0_readSegment, 4, (some .boolean), 0, 1, 1, 0, 0), kc_X0_readSegment) := ⟨List.mem_of_getElem? kw_X0_readSegment, ko_X0_readSegment⟩
theorem km_X0_keepWholeText : ev_mdok ((yX0_keepWholeText, cX0_keepWholeText, 2, (some .boolean), 0, 0, 1, 0, 0), kc_X0_keepWholeText) := ⟨List.mem_of_getElem? kw_X0_keepWholeText, ko_X0_keepWholeText⟩
theorem km_X1_init : ev_mdok ((yX1_init, cX1_init, 2, none, 1, 0, 2, 199, 9385), kc_X1_init) := ⟨List.mem_of_getElem? kw_X1_init, ko_X1_init⟩
theorem km_X1_tellService : ev_mdok ((yX1_tellService, cX1_tellService, 5, none, 1, 4, 1, 0, 0), kc_X1_tellService) := ⟨List.mem_of_getElem? kw_X1_tellService, ko_X1_tellService⟩
theorem km_X1_hasService : ev_mdok ((yX1_hasService, cX1_hasService, 2, (some .boolean), 1, 1, 1, 0, 0), kc_X1_hasService) := ⟨List.mem_of_getElem? kw_X1_hasService, ko_X1_hasService⟩
theorem km_X1_ask : ev_mdok ((yX1_ask, cX1_ask, 7, (some .int), 1, 4, 1, 3, 730), kc_X1_ask) := ⟨List.mem_of_getElem? kw_X1_ask, ko_X1_ask⟩
theorem km_X1_giveCredits : ev_mdok ((yX1_giveCredits, cX1_giveCredits, 4, none, 1, 2, 1, 3, 730), kc_X1_giveCredits) := ⟨List.mem_of_getElem? kw_X1_giveCredits, ko_X1_giveCredits⟩
theorem km_X1_beginLeaving : ev_mdok ((yX1_beginLeaving, cX1_beginLeaving, 3, none, 1, 1, 1, 3, 730), kc_X1_beginLeaving) := ⟨List.mem_of_getElem? kw_X1_beginLeaving, ko_X1_beginLeaving⟩
theorem km_X1_nextId : ev_mdok ((yX1_nextId, cX1_nextId, 1, (some .int), 1, 0, 1, 0, 0), kc_X1_nextId) := ⟨List.mem_of_getElem? kw_X1_nextId, ko_X1_nextId⟩
theorem km_X1_addSignal : ev_mdok ((yX1_addSignal, cX1_addSignal, 5, (some (.object "CreditLink$Row")), 1, 3, 1, 3, 730), kc_X1_addSignal) := ⟨List.mem_of_getElem? kw_X1_addSignal, ko_X1_addSignal⟩
theorem km_X1_sendOn : ev_mdok ((yX1_sendOn, cX1_sendOn, 3, none, 1, 1, 1, 0, 0), kc_X1_sendOn) := ⟨List.mem_of_getElem? kw_X1_sendOn, ko_X1_sendOn⟩
theorem km_X1_hasUnit : ev_mdok ((yX1_hasUnit, cX1_hasUnit, 1, (some .boolean), 1, 0, 1, 0, 0), kc_X1_hasUnit) := ⟨List.mem_of_getElem? kw_X1_hasUnit, ko_X1_hasUnit⟩
theorem km_X1_beginSignal : ev_mdok ((yX1_beginSignal, cX1_beginSignal, 2, (some .boolean), 1, 0, 1, 0, 0), kc_X1_beginSignal) := ⟨List.mem_of_getElem? kw_X1_beginSignal, ko_X1_beginSignal⟩
theorem km_X1_beginSegment : ev_mdok ((yX1_beginSegment, cX1_beginSegment, 3, (some .boolean), 1, 0, 1, 0, 0), kc_X1_beginSegment) := ⟨List.mem_of_getElem? kw_X1_beginSegment, ko_X1_beginSegment⟩
theorem km_X1_gather : ev_mdok ((yX1_gather, cX1_gather, 4, (some .boolean), 1, 1, 1, 0, 0), kc_X1_gather) := ⟨List.mem_of_getElem? kw_X1_gather, ko_X1_gather⟩
theorem km_X1_dropGathered : ev_mdok ((yX1_dropGathered, cX1_dropGathered, 1, none, 1, 0, 1, 0, 0), kc_X1_dropGathered) := ⟨List.mem_of_getElem? kw_X1_dropGathered, ko_X1_dropGathered⟩
theorem km_X1_handleUnit : ev_mdok ((yX1_handleUnit, cX1_handleUnit, 2, none, 1, 0, 1, 3, 730), kc_X1_handleUnit) := ⟨List.mem_of_getElem? kw_X1_handleUnit, ko_X1_handleUnit⟩
theorem km_X1_handleSegment : ev_mdok ((yX1_handleSegment, cX1_handleSegment, 3, none, 1, 1, 1, 3, 730), kc_X1_handleSegment) := ⟨List.mem_of_getElem? kw_X1_handleSegment, ko_X1_handleSegment⟩
theorem km_X1_handleSignal : ev_mdok ((yX1_handleSignal, cX1_handleSignal, 4, none, 1, 0, 1, 3, 730), kc_X1_handleSignal) := ⟨List.mem_of_getElem? kw_X1_handleSignal, ko_X1_handleSignal⟩
theorem km_X1_isSignal : ev_mdok ((yX1_isSignal, cX1_isSignal, 2, (some .boolean), 1, 2, 0, 0, 0), kc_X1_isSignal) := ⟨List.mem_of_getElem? kw_X1_isSignal, ko_X1_isSignal⟩
theorem km_X1_told : ev_mdok ((yX1_told, cX1_told, 2, (some .int), 1, 1, 1, 0, 0), kc_X1_told) := ⟨List.mem_of_getElem? kw_X1_told, ko_X1_told⟩
theorem km_X1_onRequest : ev_mdok ((yX1_onRequest, cX1_onRequest, 7, none, 1, 1, 1, 3, 730), kc_X1_onRequest) := ⟨List.mem_of_getElem? kw_X1_onRequest, ko_X1_onRequest⟩
theorem km_X1_judgeRequest : ev_mdok ((yX1_judgeRequest, cX1_judgeRequest, 6, (some .int), 1, 4, 1, 0, 0), kc_X1_judgeRequest) := ⟨List.mem_of_getElem? kw_X1_judgeRequest, ko_X1_judgeRequest⟩
theorem km_X1_onAnswer : ev_mdok ((yX1_onAnswer, cX1_onAnswer, 4, none, 1, 1, 1, 0, 0), kc_X1_onAnswer) := ⟨List.mem_of_getElem? kw_X1_onAnswer, ko_X1_onAnswer⟩
theorem km_X1_onCredit : ev_mdok ((yX1_onCredit, cX1_onCredit, 3, none, 1, 0, 1, 3, 730), kc_X1_onCredit) := ⟨List.mem_of_getElem? kw_X1_onCredit, ko_X1_onCredit⟩
theorem km_X1_onLeave : ev_mdok ((yX1_onLeave, cX1_onLeave, 3, none, 1, 1, 1, 3, 730), kc_X1_onLeave) := ⟨List.mem_of_getElem? kw_X1_onLeave, ko_X1_onLeave⟩
theorem km_X1_onLeft : ev_mdok ((yX1_onLeft, cX1_onLeft, 2, none, 1, 0, 1, 0, 0), kc_X1_onLeft) := ⟨List.mem_of_getElem? kw_X1_onLeft, ko_X1_onLeft⟩
theorem km_X1_onReject : ev_mdok ((yX1_onReject, cX1_onReject, 3, none, 1, 1, 1, 0, 0), kc_X1_onReject) := ⟨List.mem_of_getElem? kw_X1_onReject, ko_X1_onReject⟩
theorem km_X1_firstClosed : ev_mdok ((yX1_firstClosed, cX1_firstClosed, 2, (some (.object "CreditLink$Channel")), 1, 0, 1, 0, 0), kc_X1_firstClosed) := ⟨List.mem_of_getElem? kw_X1_firstClosed, ko_X1_firstClosed⟩
theorem km_X1_firstBySignal : ev_mdok ((yX1_firstBySignal, cX1_firstBySignal, 6, (some (.object "CreditLink$Channel")), 1, 2, 1, 0, 0), kc_X1_firstBySignal) := ⟨List.mem_of_getElem? kw_X1_firstBySignal, ko_X1_firstBySignal⟩
theorem km_X2_init : ev_mdok ((yX2_init, cX2_init, 1, none, 2, 0, 2, 2, 130), kc_X2_init) := ⟨List.mem_of_getElem? kw_X2_init, ko_X2_init⟩
theorem km_X3_init : ev_mdok ((yX3_init, cX3_init, 2, none, 3, 1, 2, 1, 128), kc_X3_init) := ⟨List.mem_of_getElem? kw_X3_init, ko_X3_init⟩
theorem km_X3_clear : ev_mdok ((yX3_clear, cX3_clear, 1, none, 3, 0, 1, 0, 0), kc_X3_clear) := ⟨List.mem_of_getElem? kw_X3_clear, ko_X3_clear⟩
theorem km_X3_add : ev_mdok ((yX3_add, cX3_add, 2, none, 3, 1, 1, 0, 0), kc_X3_add) := ⟨List.mem_of_getElem? kw_X3_add, ko_X3_add⟩
theorem km_X3_addNumber : ev_mdok ((yX3_addNumber, cX3_addNumber, 2, none, 3, 1, 1, 0, 0), kc_X3_addNumber) := ⟨List.mem_of_getElem? kw_X3_addNumber, ko_X3_addNumber⟩
theorem km_X3_addPart : ev_mdok ((yX3_addPart, cX3_addPart, 6, none, 3, 3, 1, 0, 0), kc_X3_addPart) := ⟨List.mem_of_getElem? kw_X3_addPart, ko_X3_addPart⟩
theorem km_X3_at : ev_mdok ((yX3_at, cX3_at, 2, (some .int), 3, 1, 1, 0, 0), kc_X3_at) := ⟨List.mem_of_getElem? kw_X3_at, ko_X3_at⟩
theorem km_X3_numberAt : ev_mdok ((yX3_numberAt, cX3_numberAt, 2, (some .int), 3, 1, 1, 0, 0), kc_X3_numberAt) := ⟨List.mem_of_getElem? kw_X3_numberAt, ko_X3_numberAt⟩
theorem km_X4_init : ev_mdok ((yX4_init, cX4_init, 4, none, 4, 2, 2, 9, 524), kc_X4_init) := ⟨List.mem_of_getElem? kw_X4_init, ko_X4_init⟩
theorem km_X4_clear : ev_mdok ((yX4_clear, cX4_clear, 1, none, 4, 0, 1, 0, 0), kc_X4_clear) := ⟨List.mem_of_getElem? kw_X4_clear, ko_X4_clear⟩
theorem km_X4_first : ev_mdok ((yX4_first, cX4_first, 1, (some (.object "CreditLink$Row")), 4, 0, 1, 0, 0), kc_X4_first) := ⟨List.mem_of_getElem? kw_X4_first, ko_X4_first⟩
theorem km_X4_addEmpty : ev_mdok ((yX4_addEmpty, cX4_addEmpty, 3, (some (.object "CreditLink$Row")), 4, 0, 1, 0, 0), kc_X4_addEmpty) := ⟨List.mem_of_getElem? kw_X4_addEmpty, ko_X4_addEmpty⟩
theorem km_X4_dropFirst : ev_mdok ((yX4_dropFirst, cX4_dropFirst, 1, none, 4, 0, 1, 0, 0), kc_X4_dropFirst) := ⟨List.mem_of_getElem? kw_X4_dropFirst, ko_X4_dropFirst⟩
theorem km_X5_init : ev_mdok ((yX5_init, cX5_init, 2, none, 5, 0, 2, 97, 4288), kc_X5_init) := ⟨List.mem_of_getElem? kw_X5_init, ko_X5_init⟩
theorem km_X5_hasRoomFor : ev_mdok ((yX5_hasRoomFor, cX5_hasRoomFor, 2, (some .boolean), 5, 1, 1, 0, 0), kc_X5_hasRoomFor) := ⟨List.mem_of_getElem? kw_X5_hasRoomFor, ko_X5_hasRoomFor⟩
theorem km_X5_freeBuffers : ev_mdok ((yX5_freeBuffers, cX5_freeBuffers, 1, (some .int), 5, 0, 1, 0, 0), kc_X5_freeBuffers) := ⟨List.mem_of_getElem? kw_X5_freeBuffers, ko_X5_freeBuffers⟩
theorem km_X5_firstPacket : ev_mdok ((yX5_firstPacket, cX5_firstPacket, 1, (some (.object "CreditLink$Packet")), 5, 0, 1, 0, 0), kc_X5_firstPacket) := ⟨List.mem_of_getElem? kw_X5_firstPacket, ko_X5_firstPacket⟩
theorem km_X5_put : ev_mdok ((yX5_put, cX5_put, 5, none, 5, 3, 1, 0, 0), kc_X5_put) := ⟨List.mem_of_getElem? kw_X5_put, ko_X5_put⟩
theorem km_X5_dropFirst : ev_mdok ((yX5_dropFirst, cX5_dropFirst, 1, (some .boolean), 5, 0, 1, 0, 0), kc_X5_dropFirst) := ⟨List.mem_of_getElem? kw_X5_dropFirst, ko_X5_dropFirst⟩
theorem km_X6_init : ev_mdok ((yX6_init, cX6_init, 2, none, 6, 0, 2, 405, 19060), kc_X6_init) := ⟨List.mem_of_getElem? kw_X6_init, ko_X6_init⟩
theorem km_X6_service : ev_mdok ((yX6_service, cX6_service, 6, none, 6, 5, 1, 4, 740), kc_X6_service) := ⟨List.mem_of_getElem? kw_X6_service, ko_X6_service⟩
theorem km_X6_connect : ev_mdok ((yX6_connect, cX6_connect, 7, (some .int), 6, 5, 1, 4, 740), kc_X6_connect) := ⟨List.mem_of_getElem? kw_X6_connect, ko_X6_connect⟩
theorem km_X6_feed : ev_mdok ((yX6_feed, cX6_feed, 8, (some .int), 6, 5, 1, 4, 740), kc_X6_feed) := ⟨List.mem_of_getElem? kw_X6_feed, ko_X6_feed⟩
theorem km_X6_erase : ev_mdok ((yX6_erase, cX6_erase, 2, (some .int), 6, 0, 1, 0, 0), kc_X6_erase) := ⟨List.mem_of_getElem? kw_X6_erase, ko_X6_erase⟩
theorem km_X6_send : ev_mdok ((yX6_send, cX6_send, 5, (some .int), 6, 2, 1, 4, 740), kc_X6_send) := ⟨List.mem_of_getElem? kw_X6_send, ko_X6_send⟩
theorem km_X6_grant : ev_mdok ((yX6_grant, cX6_grant, 5, (some .int), 6, 3, 1, 4, 740), kc_X6_grant) := ⟨List.mem_of_getElem? kw_X6_grant, ko_X6_grant⟩
theorem km_X6_leave : ev_mdok ((yX6_leave, cX6_leave, 4, none, 6, 2, 1, 4, 740), kc_X6_leave) := ⟨List.mem_of_getElem? kw_X6_leave, ko_X6_leave⟩
theorem km_X6_take : ev_mdok ((yX6_take, cX6_take, 5, (some .int), 6, 1, 1, 4, 740), kc_X6_take) := ⟨List.mem_of_getElem? kw_X6_take, ko_X6_take⟩
theorem km_X6_lose : ev_mdok ((yX6_lose, cX6_lose, 3, (some .boolean), 6, 1, 1, 4, 740), kc_X6_lose) := ⟨List.mem_of_getElem? kw_X6_lose, ko_X6_lose⟩
theorem km_X6_inject : ev_mdok ((yX6_inject, cX6_inject, 7, (some .int), 6, 3, 1, 4, 740), kc_X6_inject) := ⟨List.mem_of_getElem? kw_X6_inject, ko_X6_inject⟩
theorem km_X6_receive : ev_mdok ((yX6_receive, cX6_receive, 5, (some .int), 6, 2, 1, 4, 740), kc_X6_receive) := ⟨List.mem_of_getElem? kw_X6_receive, ko_X6_receive⟩
theorem km_X6_octet : ev_mdok ((yX6_octet, cX6_octet, 2, (some .int), 6, 1, 1, 0, 0), kc_X6_octet) := ⟨List.mem_of_getElem? kw_X6_octet, ko_X6_octet⟩
theorem km_X6_channel : ev_mdok ((yX6_channel, cX6_channel, 5, (some .int), 6, 3, 1, 4, 740), kc_X6_channel) := ⟨List.mem_of_getElem? kw_X6_channel, ko_X6_channel⟩
theorem km_X6_count : ev_mdok ((yX6_count, cX6_count, 4, (some .int), 6, 2, 1, 4, 740), kc_X6_count) := ⟨List.mem_of_getElem? kw_X6_count, ko_X6_count⟩
theorem km_X6_isHost : ev_mdok ((yX6_isHost, cX6_isHost, 1, (some .boolean), 6, 1, 0, 0, 0), kc_X6_isHost) := ⟨List.mem_of_getElem? kw_X6_isHost, ko_X6_isHost⟩
theorem km_X6_isChannel : ev_mdok ((yX6_isChannel, cX6_isChannel, 1, (some .boolean), 6, 1, 0, 0, 0), kc_X6_isChannel) := ⟨List.mem_of_getElem? kw_X6_isChannel, ko_X6_isChannel⟩
theorem km_X6_isOffer : ev_mdok ((yX6_isOffer, cX6_isOffer, 4, (some .boolean), 6, 4, 0, 0, 0), kc_X6_isOffer) := ⟨List.mem_of_getElem? kw_X6_isOffer, ko_X6_isOffer⟩
theorem km_X6_isFar : ev_mdok ((yX6_isFar, cX6_isFar, 1, (some .boolean), 6, 1, 0, 0, 0), kc_X6_isFar) := ⟨List.mem_of_getElem? kw_X6_isFar, ko_X6_isFar⟩
theorem km_X6_sendWhatCanGo : ev_mdok ((yX6_sendWhatCanGo, cX6_sendWhatCanGo, 2, none, 6, 0, 1, 0, 0), kc_X6_sendWhatCanGo) := ⟨List.mem_of_getElem? kw_X6_sendWhatCanGo, ko_X6_sendWhatCanGo⟩
theorem km_X7_init : ev_mdok ((yX7_init, cX7_init, 2, none, 7, 0, 2, 48, 80000), kc_X7_init) := ⟨List.mem_of_getElem? kw_X7_init, ko_X7_init⟩
theorem km_X7_thrown : ev_mdok ((yX7_thrown, cX7_thrown, 1, (some .int), 7, 0, 1, 0, 0), kc_X7_thrown) := ⟨List.mem_of_getElem? kw_X7_thrown, ko_X7_thrown⟩
theorem km_X7_refused : ev_mdok ((yX7_refused, cX7_refused, 2, (some .boolean), 7, 1, 1, 0, 0), kc_X7_refused) := ⟨List.mem_of_getElem? kw_X7_refused, ko_X7_refused⟩
theorem km_X7_isIn : ev_mdok ((yX7_isIn, cX7_isIn, 3, (some .boolean), 7, 3, 0, 0, 0), kc_X7_isIn) := ⟨List.mem_of_getElem? kw_X7_isIn, ko_X7_isIn⟩
theorem km_X7_isHost : ev_mdok ((yX7_isHost, cX7_isHost, 1, (some .boolean), 7, 1, 0, 0, 0), kc_X7_isHost) := ⟨List.mem_of_getElem? kw_X7_isHost, ko_X7_isHost⟩
theorem km_X7_isChannel : ev_mdok ((yX7_isChannel, cX7_isChannel, 2, (some .boolean), 7, 2, 0, 0, 0), kc_X7_isChannel) := ⟨List.mem_of_getElem? kw_X7_isChannel, ko_X7_isChannel⟩
theorem km_X7_buffersOf : ev_mdok ((yX7_buffersOf, cX7_buffersOf, 4, (some .int), 7, 1, 1, 0, 0), kc_X7_buffersOf) := ⟨List.mem_of_getElem? kw_X7_buffersOf, ko_X7_buffersOf⟩
theorem km_X7_post : ev_mdok ((yX7_post, cX7_post, 9, none, 7, 6, 1, 0, 0), kc_X7_post) := ⟨List.mem_of_getElem? kw_X7_post, ko_X7_post⟩
theorem km_X7_unitHead : ev_mdok ((yX7_unitHead, cX7_unitHead, 5, none, 7, 3, 1, 0, 0), kc_X7_unitHead) := ⟨List.mem_of_getElem? kw_X7_unitHead, ko_X7_unitHead⟩
theorem km_X7_unitByte : ev_mdok ((yX7_unitByte, cX7_unitByte, 3, none, 7, 2, 1, 0, 0), kc_X7_unitByte) := ⟨List.mem_of_getElem? kw_X7_unitByte, ko_X7_unitByte⟩
theorem km_X7_beginSignal : ev_mdok ((yX7_beginSignal, cX7_beginSignal, 4, none, 7, 1, 1, 0, 0), kc_X7_beginSignal) := ⟨List.mem_of_getElem? kw_X7_beginSignal, ko_X7_beginSignal⟩
theorem km_X7_textByte : ev_mdok ((yX7_textByte, cX7_textByte, 3, (some .int), 7, 2, 1, 0, 0), kc_X7_textByte) := ⟨List.mem_of_getElem? kw_X7_textByte, ko_X7_textByte⟩
theorem km_X7_beginSegment : ev_mdok ((yX7_beginSegment, cX7_beginSegment, 7, none, 7, 2, 1, 0, 0), kc_X7_beginSegment) := ⟨List.mem_of_getElem? kw_X7_beginSegment, ko_X7_beginSegment⟩
theorem km_X7_nextChannel : ev_mdok ((yX7_nextChannel, cX7_nextChannel, 4, (some .int), 7, 1, 1, 0, 0), kc_X7_nextChannel) := ⟨List.mem_of_getElem? kw_X7_nextChannel, ko_X7_nextChannel⟩
theorem km_X7_sendAll : ev_mdok ((yX7_sendAll, cX7_sendAll, 5, none, 7, 1, 1, 0, 0), kc_X7_sendAll) := ⟨List.mem_of_getElem? kw_X7_sendAll, ko_X7_sendAll⟩
theorem km_X7_sendBoth : ev_mdok ((yX7_sendBoth, cX7_sendBoth, 1, none, 7, 0, 1, 0, 0), kc_X7_sendBoth) := ⟨List.mem_of_getElem? kw_X7_sendBoth, ko_X7_sendBoth⟩
theorem km_X7_begin : ev_mdok ((yX7_begin, cX7_begin, 4, none, 7, 3, 1, 0, 0), kc_X7_begin) := ⟨List.mem_of_getElem? kw_X7_begin, ko_X7_begin⟩
theorem km_X7_two : ev_mdok ((yX7_two, cX7_two, 2, none, 7, 1, 1, 0, 0), kc_X7_two) := ⟨List.mem_of_getElem? kw_X7_two, ko_X7_two⟩
theorem km_X7_wait : ev_mdok ((yX7_wait, cX7_wait, 4, none, 7, 1, 1, 0, 0), kc_X7_wait) := ⟨List.mem_of_getElem? kw_X7_wait, ko_X7_wait⟩
theorem km_X7_takeId : ev_mdok ((yX7_takeId, cX7_takeId, 3, (some .int), 7, 1, 1, 0, 0), kc_X7_takeId) := ⟨List.mem_of_getElem? kw_X7_takeId, ko_X7_takeId⟩
theorem km_X7_dropTexts : ev_mdok ((yX7_dropTexts, cX7_dropTexts, 2, none, 7, 1, 1, 0, 0), kc_X7_dropTexts) := ⟨List.mem_of_getElem? kw_X7_dropTexts, ko_X7_dropTexts⟩
theorem km_X7_leaveNow : ev_mdok ((yX7_leaveNow, cX7_leaveNow, 3, none, 7, 2, 1, 0, 0), kc_X7_leaveNow) := ⟨List.mem_of_getElem? kw_X7_leaveNow, ko_X7_leaveNow⟩
theorem km_X7_close : ev_mdok ((yX7_close, cX7_close, 2, none, 7, 1, 1, 0, 0), kc_X7_close) := ⟨List.mem_of_getElem? kw_X7_close, ko_X7_close⟩
theorem km_X7_firstClosed : ev_mdok ((yX7_firstClosed, cX7_firstClosed, 3, (some .int), 7, 1, 1, 0, 0), kc_X7_firstClosed) := ⟨List.mem_of_getElem? kw_X7_firstClosed, ko_X7_firstClosed⟩
theorem km_X7_reject : ev_mdok ((yX7_reject, cX7_reject, 6, none, 7, 4, 1, 0, 0), kc_X7_reject) := ⟨List.mem_of_getElem? kw_X7_reject, ko_X7_reject⟩
theorem km_X7_handTwo : ev_mdok ((yX7_handTwo, cX7_handTwo, 2, (some .int), 7, 1, 1, 0, 0), kc_X7_handTwo) := ⟨List.mem_of_getElem? kw_X7_handTwo, ko_X7_handTwo⟩
theorem km_X7_isSound : ev_mdok ((yX7_isSound, cX7_isSound, 2, (some .boolean), 7, 2, 0, 0, 0), kc_X7_isSound) := ⟨List.mem_of_getElem? kw_X7_isSound, ko_X7_isSound⟩
theorem km_X7_resultOf : ev_mdok ((yX7_resultOf, cX7_resultOf, 7, (some .int), 7, 5, 1, 0, 0), kc_X7_resultOf) := ⟨List.mem_of_getElem? kw_X7_resultOf, ko_X7_resultOf⟩
theorem km_X7_request : ev_mdok ((yX7_request, cX7_request, 7, none, 7, 2, 1, 0, 0), kc_X7_request) := ⟨List.mem_of_getElem? kw_X7_request, ko_X7_request⟩
theorem km_X7_response : ev_mdok ((yX7_response, cX7_response, 3, none, 7, 1, 1, 0, 0), kc_X7_response) := ⟨List.mem_of_getElem? kw_X7_response, ko_X7_response⟩
theorem km_X7_credit : ev_mdok ((yX7_credit, cX7_credit, 4, none, 7, 1, 1, 0, 0), kc_X7_credit) := ⟨List.mem_of_getElem? kw_X7_credit, ko_X7_credit⟩
theorem km_X7_signal : ev_mdok ((yX7_signal, cX7_signal, 8, none, 7, 2, 1, 0, 0), kc_X7_signal) := ⟨List.mem_of_getElem? kw_X7_signal, ko_X7_signal⟩
theorem km_X7_byId : ev_mdok ((yX7_byId, cX7_byId, 5, none, 7, 3, 1, 0, 0), kc_X7_byId) := ⟨List.mem_of_getElem? kw_X7_byId, ko_X7_byId⟩
theorem km_X7_segment : ev_mdok ((yX7_segment, cX7_segment, 9, none, 7, 4, 1, 0, 0), kc_X7_segment) := ⟨List.mem_of_getElem? kw_X7_segment, ko_X7_segment⟩
theorem km_X7_unit : ev_mdok ((yX7_unit, cX7_unit, 6, none, 7, 1, 1, 0, 0), kc_X7_unit) := ⟨List.mem_of_getElem? kw_X7_unit, ko_X7_unit⟩
theorem km_X7_shift : ev_mdok ((yX7_shift, cX7_shift, 6, (some .int), 7, 1, 1, 0, 0), kc_X7_shift) := ⟨List.mem_of_getElem? kw_X7_shift, ko_X7_shift⟩
theorem km_X7_gather : ev_mdok ((yX7_gather, cX7_gather, 6, none, 7, 3, 1, 0, 0), kc_X7_gather) := ⟨List.mem_of_getElem? kw_X7_gather, ko_X7_gather⟩
theorem km_X7_take : ev_mdok ((yX7_take, cX7_take, 4, (some .int), 7, 1, 1, 0, 0), kc_X7_take) := ⟨List.mem_of_getElem? kw_X7_take, ko_X7_take⟩
theorem km_X7_lose : ev_mdok ((yX7_lose, cX7_lose, 2, (some .boolean), 7, 1, 1, 0, 0), kc_X7_lose) := ⟨List.mem_of_getElem? kw_X7_lose, ko_X7_lose⟩
theorem km_X7_inject : ev_mdok ((yX7_inject, cX7_inject, 12, (some .int), 7, 3, 1, 0, 0), kc_X7_inject) := ⟨List.mem_of_getElem? kw_X7_inject, ko_X7_inject⟩
theorem km_X7_isTold : ev_mdok ((yX7_isTold, cX7_isTold, 5, (some .boolean), 7, 5, 0, 0, 0), kc_X7_isTold) := ⟨List.mem_of_getElem? kw_X7_isTold, ko_X7_isTold⟩
theorem km_X7_service : ev_mdok ((yX7_service, cX7_service, 6, none, 7, 5, 1, 0, 0), kc_X7_service) := ⟨List.mem_of_getElem? kw_X7_service, ko_X7_service⟩
theorem km_X7_connect : ev_mdok ((yX7_connect, cX7_connect, 7, (some .int), 7, 5, 1, 0, 0), kc_X7_connect) := ⟨List.mem_of_getElem? kw_X7_connect, ko_X7_connect⟩
theorem km_X7_feed : ev_mdok ((yX7_feed, cX7_feed, 8, (some .int), 7, 5, 1, 0, 0), kc_X7_feed) := ⟨List.mem_of_getElem? kw_X7_feed, ko_X7_feed⟩
theorem km_X7_erase : ev_mdok ((yX7_erase, cX7_erase, 2, (some .int), 7, 0, 1, 0, 0), kc_X7_erase) := ⟨List.mem_of_getElem? kw_X7_erase, ko_X7_erase⟩
theorem km_X7_wrong : ev_mdok ((yX7_wrong, cX7_wrong, 4, (some .int), 7, 3, 1, 0, 0), kc_X7_wrong) := ⟨List.mem_of_getElem? kw_X7_wrong, ko_X7_wrong⟩
theorem km_X7_send : ev_mdok ((yX7_send, cX7_send, 6, (some .int), 7, 2, 1, 0, 0), kc_X7_send) := ⟨List.mem_of_getElem? kw_X7_send, ko_X7_send⟩
theorem km_X7_grant : ev_mdok ((yX7_grant, cX7_grant, 5, (some .int), 7, 3, 1, 0, 0), kc_X7_grant) := ⟨List.mem_of_getElem? kw_X7_grant, ko_X7_grant⟩
theorem km_X7_leave : ev_mdok ((yX7_leave, cX7_leave, 3, none, 7, 2, 1, 0, 0), kc_X7_leave) := ⟨List.mem_of_getElem? kw_X7_leave, ko_X7_leave⟩
theorem km_X7_receive : ev_mdok ((yX7_receive, cX7_receive, 7, (some .int), 7, 2, 1, 0, 0), kc_X7_receive) := ⟨List.mem_of_getElem? kw_X7_receive, ko_X7_receive⟩
theorem km_X7_octet : ev_mdok ((yX7_octet, cX7_octet, 2, (some .int), 7, 1, 1, 0, 0), kc_X7_octet) := ⟨List.mem_of_getElem? kw_X7_octet, ko_X7_octet⟩
theorem km_X7_channel : ev_mdok ((yX7_channel, cX7_channel, 5, (some .int), 7, 3, 1, 0, 0), kc_X7_channel) := ⟨List.mem_of_getElem? kw_X7_channel, ko_X7_channel⟩
theorem km_X7_count : ev_mdok ((yX7_count, cX7_count, 3, (some .int), 7, 2, 1, 0, 0), kc_X7_count) := ⟨List.mem_of_getElem? kw_X7_count, ko_X7_count⟩
theorem km_Jxa1e45_init_da8c8 : ev_mdok ((yJxa1e45_init_da8c8, cJxa1e45_init_da8c8, 1, none, 10, 0, 2, 0, 0), kc_Jxa1e45_init_da8c8) := ⟨List.mem_of_getElem? kw_Jxa1e45_init_da8c8, ko_Jxa1e45_init_da8c8⟩
theorem km_Jxc12de_init_da8c8 : ev_mdok ((yJxc12de_init_da8c8, cJxc12de_init_da8c8, 1, none, 9, 0, 2, 0, 0), kc_Jxc12de_init_da8c8) := ⟨List.mem_of_getElem? kw_Jxc12de_init_da8c8, ko_Jxc12de_init_da8c8⟩
theorem km_Jx4a65c_init_da8c8 : ev_mdok ((yJx4a65c_init_da8c8, cJx4a65c_init_da8c8, 1, none, 8, 0, 2, 0, 0), kc_Jx4a65c_init_da8c8) := ⟨List.mem_of_getElem? kw_Jx4a65c_init_da8c8, ko_Jx4a65c_init_da8c8⟩
theorem km_Jx4a65c_grow_92f84 : ev_mdok ((yJx4a65c_grow_92f84, cJx4a65c_grow_92f84, 4, (some (.array (.object "java/lang/Object"))), 8, 1, 1, 1, 600), kc_Jx4a65c_grow_92f84) := ⟨List.mem_of_getElem? kw_Jx4a65c_grow_92f84, ko_Jx4a65c_grow_92f84⟩
theorem km_Jx4a65c_grow_d5877 : ev_mdok ((yJx4a65c_grow_d5877, cJx4a65c_grow_d5877, 1, (some (.array (.object "java/lang/Object"))), 8, 0, 1, 1, 600), kc_Jx4a65c_grow_d5877) := ⟨List.mem_of_getElem? kw_Jx4a65c_grow_d5877, ko_Jx4a65c_grow_d5877⟩
theorem km_Jx4a65c_size_8abf5 : ev_mdok ((yJx4a65c_size_8abf5, cJx4a65c_size_8abf5, 1, (some .int), 8, 0, 1, 0, 0), kc_Jx4a65c_size_8abf5) := ⟨List.mem_of_getElem? kw_Jx4a65c_size_8abf5, ko_Jx4a65c_size_8abf5⟩
theorem km_Jx4a65c_isEmpty_aae02 : ev_mdok ((yJx4a65c_isEmpty_aae02, cJx4a65c_isEmpty_aae02, 1, (some .boolean), 8, 0, 1, 0, 0), kc_Jx4a65c_isEmpty_aae02) := ⟨List.mem_of_getElem? kw_Jx4a65c_isEmpty_aae02, ko_Jx4a65c_isEmpty_aae02⟩
theorem km_Jx4a65c_add_72be8 : ev_mdok ((yJx4a65c_add_72be8, cJx4a65c_add_72be8, 4, none, 8, 3, 1, 1, 600), kc_Jx4a65c_add_72be8) := ⟨List.mem_of_getElem? kw_Jx4a65c_add_72be8, ko_Jx4a65c_add_72be8⟩
theorem km_Jx4a65c_add_9ea2d : ev_mdok ((yJx4a65c_add_9ea2d, cJx4a65c_add_9ea2d, 2, (some .boolean), 8, 1, 1, 1, 600), kc_Jx4a65c_add_9ea2d) := ⟨List.mem_of_getElem? kw_Jx4a65c_add_9ea2d, ko_Jx4a65c_add_9ea2d⟩
theorem km_Jx4a65c_remove_915e3 : ev_mdok ((yJx4a65c_remove_915e3, cJx4a65c_remove_915e3, 4, (some (.object "java/lang/Object")), 8, 1, 1, 0, 0), kc_Jx4a65c_remove_915e3) := ⟨List.mem_of_getElem? kw_Jx4a65c_remove_915e3, ko_Jx4a65c_remove_915e3⟩
theorem km_Jx4a65c_fastRemove_b59b0 : ev_mdok ((yJx4a65c_fastRemove_b59b0, cJx4a65c_fastRemove_b59b0, 4, none, 8, 2, 1, 0, 0), kc_Jx4a65c_fastRemove_b59b0) := ⟨List.mem_of_getElem? kw_Jx4a65c_fastRemove_b59b0, ko_Jx4a65c_fastRemove_b59b0⟩
theorem km_J7_copyOf_1904c : ev_mdok ((yJ7_copyOf_1904c, cJ7_copyOf_1904c, 2, (some (.array (.object "java/lang/Object"))), 13, 2, 0, 1, 600), kc_J7_copyOf_1904c) := ⟨List.mem_of_getElem? kw_J7_copyOf_1904c, ko_J7_copyOf_1904c⟩
theorem km_J7_copyOf_6403c : ev_mdok ((yJ7_copyOf_6403c, cJ7_copyOf_6403c, 4, (some (.array (.object "java/lang/Object"))), 13, 3, 0, 1, 600), kc_J7_copyOf_6403c) := ⟨List.mem_of_getElem? kw_J7_copyOf_6403c, ko_J7_copyOf_6403c⟩
theorem km_J15_checkIndex_7cf53 : ev_mdok ((yJ15_checkIndex_7cf53, cJ15_checkIndex_7cf53, 2, (some .int), 11, 2, 0, 0, 0), kc_J15_checkIndex_7cf53) := ⟨List.mem_of_getElem? kw_J15_checkIndex_7cf53, ko_J15_checkIndex_7cf53⟩
theorem km_J8_newLength_cabcc : ev_mdok ((yJ8_newLength_cabcc, cJ8_newLength_cabcc, 4, (some .int), 14, 3, 0, 0, 0), kc_J8_newLength_cabcc) := ⟨List.mem_of_getElem? kw_J8_newLength_cabcc, ko_J8_newLength_cabcc⟩
theorem km_J8_hugeLength_7cf53 : ev_mdok ((yJ8_hugeLength_7cf53, cJ8_hugeLength_7cf53, 3, (some .int), 14, 2, 0, 0, 0), kc_J8_hugeLength_7cf53) := ⟨List.mem_of_getElem? kw_J8_hugeLength_7cf53, ko_J8_hugeLength_7cf53⟩
theorem km_J3_checkIndex_8e157 : ev_mdok ((yJ3_checkIndex_8e157, cJ3_checkIndex_8e157, 3, (some .int), 12, 3, 0, 0, 0), kc_J3_checkIndex_8e157) := ⟨List.mem_of_getElem? kw_J3_checkIndex_8e157, ko_J3_checkIndex_8e157⟩
set_option maxRecDepth 100000 in
theorem ev_ms_ok : ∀ q ∈ ev_ms, ev_mdok q := by
  unfold ev_ms
  exact List.forall_mem_cons.mpr ⟨km_X0_init, List.forall_mem_cons.mpr ⟨km_X0_setOwn, List.forall_mem_cons.mpr ⟨km_X0_open, List.forall_mem_cons.mpr ⟨km_X0_close, List.forall_mem_cons.mpr ⟨km_X0_forgetTexts, List.forall_mem_cons.mpr ⟨km_X0_hasFar, List.forall_mem_cons.mpr ⟨km_X0_putText, List.forall_mem_cons.mpr ⟨km_X0_hasSegment, List.forall_mem_cons.mpr ⟨km_X0_writeSegment, List.forall_mem_cons.mpr ⟨km_X0_readSegment, List.forall_mem_cons.mpr ⟨km_X0_keepWholeText, List.forall_mem_cons.mpr ⟨km_X1_init, List.forall_mem_cons.mpr ⟨km_X1_tellService, List.forall_mem_cons.mpr ⟨km_X1_hasService, List.forall_mem_cons.mpr ⟨km_X1_ask, List.forall_mem_cons.mpr ⟨km_X1_giveCredits, List.forall_mem_cons.mpr ⟨km_X1_beginLeaving, List.forall_mem_cons.mpr ⟨km_X1_nextId, List.forall_mem_cons.mpr ⟨km_X1_addSignal, List.forall_mem_cons.mpr ⟨km_X1_sendOn, List.forall_mem_cons.mpr ⟨km_X1_hasUnit, List.forall_mem_cons.mpr ⟨km_X1_beginSignal, List.forall_mem_cons.mpr ⟨km_X1_beginSegment, List.forall_mem_cons.mpr ⟨km_X1_gather, List.forall_mem_cons.mpr ⟨km_X1_dropGathered, List.forall_mem_cons.mpr ⟨km_X1_handleUnit, List.forall_mem_cons.mpr ⟨km_X1_handleSegment, List.forall_mem_cons.mpr ⟨km_X1_handleSignal, List.forall_mem_cons.mpr ⟨km_X1_isSignal, List.forall_mem_cons.mpr ⟨km_X1_told, List.forall_mem_cons.mpr ⟨km_X1_onRequest, List.forall_mem_cons.mpr ⟨km_X1_judgeRequest, List.forall_mem_cons.mpr ⟨km_X1_onAnswer, List.forall_mem_cons.mpr ⟨km_X1_onCredit, List.forall_mem_cons.mpr ⟨km_X1_onLeave, List.forall_mem_cons.mpr ⟨km_X1_onLeft, List.forall_mem_cons.mpr ⟨km_X1_onReject, List.forall_mem_cons.mpr ⟨km_X1_firstClosed, List.forall_mem_cons.mpr ⟨km_X1_firstBySignal, List.forall_mem_cons.mpr ⟨km_X2_init, List.forall_mem_cons.mpr ⟨km_X3_init, List.forall_mem_cons.mpr ⟨km_X3_clear, List.forall_mem_cons.mpr ⟨km_X3_add, List.forall_mem_cons.mpr ⟨km_X3_addNumber, List.forall_mem_cons.mpr ⟨km_X3_addPart, List.forall_mem_cons.mpr ⟨km_X3_at, List.forall_mem_cons.mpr ⟨km_X3_numberAt, List.forall_mem_cons.mpr ⟨km_X4_init, List.forall_mem_cons.mpr ⟨km_X4_clear, List.forall_mem_cons.mpr ⟨km_X4_first, List.forall_mem_cons.mpr ⟨km_X4_addEmpty, List.forall_mem_cons.mpr ⟨km_X4_dropFirst, List.forall_mem_cons.mpr ⟨km_X5_init, List.forall_mem_cons.mpr ⟨km_X5_hasRoomFor, List.forall_mem_cons.mpr ⟨km_X5_freeBuffers, List.forall_mem_cons.mpr ⟨km_X5_firstPacket, List.forall_mem_cons.mpr ⟨km_X5_put, List.forall_mem_cons.mpr ⟨km_X5_dropFirst, List.forall_mem_cons.mpr ⟨km_X6_init, List.forall_mem_cons.mpr ⟨km_X6_service, List.forall_mem_cons.mpr ⟨km_X6_connect, List.forall_mem_cons.mpr ⟨km_X6_feed, List.forall_mem_cons.mpr ⟨km_X6_erase, List.forall_mem_cons.mpr ⟨km_X6_send, List.forall_mem_cons.mpr ⟨km_X6_grant, List.forall_mem_cons.mpr ⟨km_X6_leave, List.forall_mem_cons.mpr ⟨km_X6_take, List.forall_mem_cons.mpr ⟨km_X6_lose, List.forall_mem_cons.mpr ⟨km_X6_inject, List.forall_mem_cons.mpr ⟨km_X6_receive, List.forall_mem_cons.mpr ⟨km_X6_octet, List.forall_mem_cons.mpr ⟨km_X6_channel, List.forall_mem_cons.mpr ⟨km_X6_count, List.forall_mem_cons.mpr ⟨km_X6_isHost, List.forall_mem_cons.mpr ⟨km_X6_isChannel, List.forall_mem_cons.mpr ⟨km_X6_isOffer, List.forall_mem_cons.mpr ⟨km_X6_isFar, List.forall_mem_cons.mpr ⟨km_X6_sendWhatCanGo, List.forall_mem_cons.mpr ⟨km_X7_init, List.forall_mem_cons.mpr ⟨km_X7_thrown, List.forall_mem_cons.mpr ⟨km_X7_refused, List.forall_mem_cons.mpr ⟨km_X7_isIn, List.forall_mem_cons.mpr ⟨km_X7_isHost, List.forall_mem_cons.mpr ⟨km_X7_isChannel, List.forall_mem_cons.mpr ⟨km_X7_buffersOf, List.forall_mem_cons.mpr ⟨km_X7_post, List.forall_mem_cons.mpr ⟨km_X7_unitHead, List.forall_mem_cons.mpr ⟨km_X7_unitByte, List.forall_mem_cons.mpr ⟨km_X7_beginSignal, List.forall_mem_cons.mpr ⟨km_X7_textByte, List.forall_mem_cons.mpr ⟨km_X7_beginSegment, List.forall_mem_cons.mpr ⟨km_X7_nextChannel, List.forall_mem_cons.mpr ⟨km_X7_sendAll, List.forall_mem_cons.mpr ⟨km_X7_sendBoth, List.forall_mem_cons.mpr ⟨km_X7_begin, List.forall_mem_cons.mpr ⟨km_X7_two, List.forall_mem_cons.mpr ⟨km_X7_wait, List.forall_mem_cons.mpr ⟨km_X7_takeId, List.forall_mem_cons.mpr ⟨km_X7_dropTexts, List.forall_mem_cons.mpr ⟨km_X7_leaveNow, List.forall_mem_cons.mpr ⟨km_X7_close, List.forall_mem_cons.mpr ⟨km_X7_firstClosed, List.forall_mem_cons.mpr ⟨km_X7_reject, List.forall_mem_cons.mpr ⟨km_X7_handTwo, List.forall_mem_cons.mpr ⟨km_X7_isSound, List.forall_mem_cons.mpr ⟨km_X7_resultOf, List.forall_mem_cons.mpr ⟨km_X7_request, List.forall_mem_cons.mpr ⟨km_X7_response, List.forall_mem_cons.mpr ⟨km_X7_credit, List.forall_mem_cons.mpr ⟨km_X7_signal, List.forall_mem_cons.mpr ⟨km_X7_byId, List.forall_mem_cons.mpr ⟨km_X7_segment, List.forall_mem_cons.mpr ⟨km_X7_unit, List.forall_mem_cons.mpr ⟨km_X7_shift, List.forall_mem_cons.mpr ⟨km_X7_gather, List.forall_mem_cons.mpr ⟨km_X7_take, List.forall_mem_cons.mpr ⟨km_X7_lose, List.forall_mem_cons.mpr ⟨km_X7_inject, List.forall_mem_cons.mpr ⟨km_X7_isTold, List.forall_mem_cons.mpr ⟨km_X7_service, List.forall_mem_cons.mpr ⟨km_X7_connect, List.forall_mem_cons.mpr ⟨km_X7_feed, List.forall_mem_cons.mpr ⟨km_X7_erase, List.forall_mem_cons.mpr ⟨km_X7_wrong, List.forall_mem_cons.mpr ⟨km_X7_send, List.forall_mem_cons.mpr ⟨km_X7_grant, List.forall_mem_cons.mpr ⟨km_X7_leave, List.forall_mem_cons.mpr ⟨km_X7_receive, List.forall_mem_cons.mpr ⟨km_X7_octet, List.forall_mem_cons.mpr ⟨km_X7_channel, List.forall_mem_cons.mpr ⟨km_X7_count, List.forall_mem_cons.mpr ⟨km_Jxa1e45_init_da8c8, List.forall_mem_cons.mpr ⟨km_Jxc12de_init_da8c8, List.forall_mem_cons.mpr ⟨km_Jx4a65c_init_da8c8, List.forall_mem_cons.mpr ⟨km_Jx4a65c_grow_92f84, List.forall_mem_cons.mpr ⟨km_Jx4a65c_grow_d5877, List.forall_mem_cons.mpr ⟨km_Jx4a65c_size_8abf5, List.forall_mem_cons.mpr ⟨km_Jx4a65c_isEmpty_aae02, List.forall_mem_cons.mpr ⟨km_Jx4a65c_add_72be8, List.forall_mem_cons.mpr ⟨km_Jx4a65c_add_9ea2d, List.forall_mem_cons.mpr ⟨km_Jx4a65c_remove_915e3, List.forall_mem_cons.mpr ⟨km_Jx4a65c_fastRemove_b59b0, List.forall_mem_cons.mpr ⟨km_J7_copyOf_1904c, List.forall_mem_cons.mpr ⟨km_J7_copyOf_6403c, List.forall_mem_cons.mpr ⟨km_J15_checkIndex_7cf53, List.forall_mem_cons.mpr ⟨km_J8_newLength_cabcc, List.forall_mem_cons.mpr ⟨km_J8_hugeLength_7cf53, List.forall_mem_cons.mpr ⟨km_J3_checkIndex_8e157, fun _ h => absurd h List.not_mem_nil⟩⟩⟩⟩⟩⟩⟩⟩⟩⟩⟩⟩⟩⟩⟩⟩⟩⟩⟩⟩⟩⟩⟩⟩⟩⟩⟩⟩⟩⟩⟩⟩⟩⟩⟩⟩⟩⟩⟩⟩⟩⟩⟩⟩⟩⟩⟩⟩⟩⟩⟩⟩⟩⟩⟩⟩⟩⟩⟩⟩⟩⟩⟩⟩⟩⟩⟩⟩⟩⟩⟩⟩⟩⟩⟩⟩⟩⟩⟩⟩⟩⟩⟩⟩⟩⟩⟩⟩⟩⟩⟩⟩⟩⟩⟩⟩⟩⟩⟩⟩⟩⟩⟩⟩⟩⟩⟩⟩⟩⟩⟩⟩⟩⟩⟩⟩⟩⟩⟩⟩⟩⟩⟩⟩⟩⟩⟩⟩⟩⟩⟩⟩⟩⟩⟩⟩⟩⟩⟩⟩⟩⟩⟩⟩⟩⟩⟩⟩
def ev_mdb (q : ev_Md) : Bool := plainName q.1.cls && decide (q.1.cls ≠ "java/lang/invoke/MethodHandle") && decide (q.1.cls ≠ "java/lang/invoke/VarHandle") && decide ((parseMethodDescriptor q.1.desc).map (fun d => d.parameters.length) = some q.2.2.2.2.2.1) && decide (q.2.2.1 ≤ 17) && decide (q.1.cls = ev_on q.2.2.2.2.1) && (decide (q.2.2.2.2.2.2.1 = 2) == decide (q.1.name = "<init>"))
set_option maxRecDepth 100000 in
theorem ev_ms_b : ev_ms.all (fun q => ev_mdb q.1) = true := by decide +kernel
end
section
/-! THE MODEL HEAP: what the walk knows of the heap, a partial map from addresses to cells; every cell of it stands in the heap. -/
abbrev ev_H : Type := Nat → Option va_E
def mh_P (D : va_G) (cl : List vw_C) (f : ev_H) (H : Heap) : Prop := ∀ (a : Nat) (e : va_E), f a = some e → va_at D cl (a, e) H
def mh_ls (f : ev_H) (n : Nat) : va_W := (List.range n).filterMap (fun q => (f q).map (fun e => (q, e)))
theorem mh_mem {f : ev_H} {n : Nat} {q : Nat × va_E} : q ∈ mh_ls f n ↔ q.1 < n ∧ f q.1 = some q.2 := by
  unfold mh_ls
  rw [List.mem_filterMap]
  constructor
  · rintro ⟨a, ha, he⟩
    cases hf : f a with
    | none => rw [hf] at he; cases he
    | some e =>
      rw [hf] at he
      cases he
      exact ⟨List.mem_range.mp ha, hf⟩
  · rintro ⟨h1, h2⟩
    exact ⟨q.1, List.mem_range.mpr h1, by rw [h2]; rfl⟩
theorem mh_P.lt {D : va_G} {cl : List vw_C} {f : ev_H} {H : Heap} (h : mh_P D cl f H) {a : Nat} {e : va_E} (he : f a = some e) : a < H.size := (h a e he).lt
theorem mh_P.W {D : va_G} {cl : List vw_C} {f : ev_H} {H : Heap} (h : mh_P D cl f H) : va_P D cl (mh_ls f H.size) H := fun k q hk => h q.1 q.2 (mh_mem.mp (List.mem_of_getElem? hk)).2
theorem mh_keys (f : ev_H) (n : Nat) : ((mh_ls f n).map (fun q => q.1)).Nodup := by
  unfold mh_ls
  have h : ∀ l : List Nat, l.Nodup → ((l.filterMap (fun q => (f q).map (fun e => (q, e)))).map (fun q : Nat × va_E => q.1)).Nodup ∧ ∀ x ∈ (l.filterMap (fun q => (f q).map (fun e => (q, e)))).map (fun q : Nat × va_E => q.1), x ∈ l := by
    intro l
    induction l with
    | nil => intro _; exact ⟨List.nodup_nil, fun x hx => by simp at hx⟩
    | cons a l ih =>
      intro hn
      obtain ⟨hna, hnl⟩ := List.nodup_cons.mp hn
      obtain ⟨h1, h2⟩ := ih hnl
      cases hf : f a with
      | none =>
        simp only [List.filterMap_cons, hf, Option.map_none]
        exact ⟨h1, fun x hx => List.mem_cons_of_mem _ (h2 x hx)⟩
      | some e =>
        simp only [List.filterMap_cons, hf, Option.map_some, List.map_cons]
        refine ⟨List.nodup_cons.mpr ⟨fun hx => hna (h2 a hx), h1⟩, fun x hx => ?_⟩
        rcases List.mem_cons.mp hx with rfl | hx
        · exact List.mem_cons_self
        · exact List.mem_cons_of_mem _ (h2 x hx)
  exact (h _ List.nodup_range).1
theorem mh_D {f : ev_H} {n : Nat} {A : Nat → Prop} (hA : ∀ a e, f a = some e → A a) : va_D A (mh_ls f n) := by
  refine ⟨fun i j p q hi hj hpq => ?_, fun k q hk => hA q.1 q.2 (mh_mem.mp (List.mem_of_getElem? hk)).2⟩
  have hn := mh_keys f n
  have h1 : ((mh_ls f n).map (fun q => q.1))[i]? = some p.1 := by rw [List.getElem?_map, hi]; rfl
  have h2 : ((mh_ls f n).map (fun q => q.1))[j]? = some p.1 := by rw [List.getElem?_map, hj, hpq]; rfl
  have hli := (List.getElem?_eq_some_iff.mp h1).1
  exact (List.getElem?_inj hli hn).mp (h1.trans h2.symm)
theorem mh_at {f : ev_H} {n a : Nat} {e : va_E} (hf : f a = some e) (hn : a < n) : ∃ k : Nat, (mh_ls f n)[k]? = some (a, e) := List.getElem?_of_mem (mh_mem.mpr ⟨hn, hf⟩)
/-- one cell has changed -/
theorem mh_set {D : va_G} {cl : List vw_C} {f : ev_H} {n a k : Nat} {e0 e : va_E} {H1 : Heap} (hn : ∀ (q : Nat) (x : va_E), f q = some x → q < n) (hk : (mh_ls f n)[k]? = some (a, e0)) (h : va_P D cl ((mh_ls f n).set k (a, e)) H1) : mh_P D cl (va_up f a (some e)) H1 := by
  have hkl : k < (mh_ls f n).length := (List.getElem?_eq_some_iff.mp hk).1
  intro q x hq
  unfold va_up at hq
  split at hq
  · next hqa =>
    cases hq
    subst hqa
    exact h k (q, e) (by rw [List.getElem?_set_self hkl])
  · next hqa =>
    obtain ⟨j, hj⟩ := mh_at hq (hn q x hq)
    have hjk : k ≠ j := by
      intro hc
      subst hc
      rw [hj] at hk
      cases hk
      exact hqa rfl
    exact h j (q, x) (by rw [List.getElem?_set_ne hjk]; exact hj)
/-- one cell is new, behind all others -/
theorem mh_push {D : va_G} {cl : List vw_C} {f : ev_H} {H H1 : Heap} {e : va_E} (h : mh_P D cl f H) (ho : ∀ q : Nat, q < H.size → H1[q]? = H[q]?) (he : va_at D cl (H.size, e) H1) : mh_P D cl (va_up f H.size (some e)) H1 := by
  intro q x hq
  unfold va_up at hq
  split at hq
  · next hqa =>
    cases hq
    subst hqa
    exact he
  · next hqa => exact (h q x hq).kept (ho q (h.lt hq))
theorem mh_dom {f : ev_H} {z a : Nat} {e : va_E} (hA : ∀ q x, f q = some x → z ≤ q) (ha : z ≤ a) : ∀ q x, va_up f a (some e) q = some x → z ≤ q := by
  intro q x hq
  unfold va_up at hq
  split at hq
  · next h => rw [h]; exact ha
  · exact hA q x hq
end
section
/-! ONE INSTRUCTION over the model heap, as a predicate: K holds of the next state (of all next states). A state: place, locals, stack, model heap, the heap's size, cells and slots made. -/
abbrev ev_F : Type := Nat × List (Nat × Value) × List Value × ev_H × Nat × Nat × Nat
abbrev ev_P : Type := Option Value → ev_H → Nat → Prop
def ev_at : List ev_I → Nat → Option ev_I
  | [], _ => none
  | q :: r, pc => if pc = q.1 then some q else ev_at r pc
theorem ev_at_mem {code : List ev_I} {pc : Nat} {q : ev_I} (h : ev_at code pc = some q) : q ∈ code ∧ pc = q.1 := by
  induction code with
  | nil => cases h
  | cons a r ih =>
    unfold ev_at at h
    split at h
    · next hp => cases h; exact ⟨List.mem_cons_self, hp⟩
    · exact ⟨List.mem_cons_of_mem _ (ih h).1, (ih h).2⟩
def ev_i (st : List Value) (k : Int32 → List Value → Prop) : Prop := match st with
  | .int v :: r => k v r
  | _ => False
def ev_l (st : List Value) (k : Int64 → List Value → Prop) : Prop := match st with
  | .long v :: r => k v r
  | _ => False
def ev_r (st : List Value) (k : Nat → List Value → Prop) : Prop := match st with
  | .ref v :: r => k v r
  | _ => False
/-- a value of one word on the stack -/
def ev_w (st : List Value) (k : Value → List Value → Prop) : Prop := match st with
  | .int v :: r => k (.int v) r
  | .ref v :: r => k (.ref v) r
  | .null :: r => k .null r
  | _ => False
/-- a reference or null -/
def ev_q (st : List Value) (k : Option Nat → List Value → Prop) : Prop := match st with
  | .ref v :: r => k (some v) r
  | .null :: r => k none r
  | _ => False
def ev_ii (st : List Value) (k : Int32 → Int32 → List Value → Prop) : Prop := ev_i st fun v2 r => ev_i r fun v1 r => k v1 v2 r
def ev_loc : List (Nat × Value) → Nat → (Value → Prop) → Prop
  | [], _, _ => False
  | (j, v) :: r, i, k => if j = i then k v else ev_loc r i k
def ev_vi (v : Value) (k : Int32 → Prop) : Prop := match v with
  | .int n => k n
  | _ => False
def ev_vq (v : Value) (k : Value → Prop) : Prop := match v with
  | .ref a => k (.ref a)
  | .null => k .null
  | _ => False
def ev_del : List (Nat × Value) → Nat → List (Nat × Value)
  | [], _ => []
  | (j, v) :: r, i => if j = i then ev_del r i else (j, v) :: ev_del r i
def ev_set : List (Nat × Value) → Nat → Value → List (Nat × Value)
  | [], i, v => [(i, v)]
  | (j, w) :: r, i, v => if j = i then (i, v) :: ev_del r i else (j, w) :: ev_set r i v
def ev_ob (e : Option va_E) (ci : Nat) (k : List Value → Prop) : Prop := match e with
  | some (.inr (c, fs)) => c = ci ∧ k fs
  | _ => False
def ev_nth (fs : List Value) (j : Nat) (k : Value → Prop) : Prop := match fs[j]? with
  | some v => k v
  | none => False
def ev_ai (e : Option va_E) (cA : ClassId) (k : Nat → (Nat → Int32) → Prop) : Prop := match e with
  | some (.inl (c, n, .inl g)) => c = cA ∧ k n g
  | _ => False
def ev_al (e : Option va_E) (cA : ClassId) (k : Nat → (Nat → Int64) → Prop) : Prop := match e with
  | some (.inl (c, n, .inr (.inl g))) => c = cA ∧ k n g
  | _ => False
/-- an array of references: of any of the kinds -/
def ev_aq (e : Option va_E) (k : ClassId → Nat → (Nat → Option Nat) → Prop) : Prop := match e with
  | some (.inl (c, n, .inr (.inr (.inr (.inr g))))) => k c n g
  | _ => False
def ev_len (e : Option va_E) (k : Nat → Prop) : Prop := match e with
  | some (.inl (_, n, _)) => k n
  | _ => False
def ev_br (c a b : Prop) : Prop := (c → a) ∧ (¬ c → b)
/-- what a field or an answer of a type may be -/
def ev_fit (ty : FieldType) (v : Value) : Prop := match ty, v with
  | .int, .int _ => True
  | .boolean, .int n => n = 0 ∨ n = 1
  | .object _, .ref _ => True
  | .object _, .null => True
  | .array _, .ref _ => True
  | .array _, .null => True
  | _, _ => False
def ev_pop : Nat → List Value → List Value → (List Value → List Value → Prop) → Prop
  | 0, st, acc, k => k acc st
  | _ + 1, [], _, _ => False
  | n + 1, v :: st, acc, k => ev_pop n st (v :: acc) k
def ev_new (ci : Nat) : List Value := (List.range (ev_nf ci)).map fun k => defaultValue (ev_ty ci k)
def ev_tyl (cy : Nat → ClassId) : List (ClassId × FieldType) := [(cy 0, .byte), (cy 1, .int), (cy 2, .boolean), (cy 3, .long), (cy 4, .object RX0), (cy 5, .object RX1), (cy 6, .object RX2), (cy 7, .object RX3), (cy 8, .object "java/lang/Object")]
/-- which kind of array a class's bytes are: the model has booleans -/
def ev_bt (oc : Nat) : Nat := if oc = 7 then 2 else 0
def ev_bn (oc : Nat) (v : Int32) : Int32 := if oc = 7 then vp_nar .boolean v else vp_nar .byte v
def ev_sw (lo : Int) (offs : List Int) (pc : Nat) (v : Int) (k : Nat → Prop) : Prop := ∀ (j : Nat) (off : Int) (tgt : Nat), offs[j]? = some off → v = lo + j → (pc : Int) + off = tgt → k tgt
section ES
variable (cy : Nat → ClassId) (call : Nat → List Value → ev_H → Nat → ev_P → Prop) (sp : ev_F → (ev_F → Prop) → Prop) (oc mc ms nl : Nat) (rt : Option FieldType) (code : List ev_I)
/-- a call of the method m, with its arguments (the receiver first), its budget -/
def ev_inv (K : ev_F → Prop) (g : ev_F) (m : Nat) (vr : Bool) : Prop := match ev_ms[m]? with
  | none => False
  | some ((_, _, _, _, _, na, _, dc, ds), _) => match g with
    | (pc, L, st, f, n, c, sl) => ev_pop (if vr then na + 1 else na) st [] fun as r =>
        (r.map fun v => v.category).sum ≤ 8 ∧ c + dc ≤ mc ∧ sl + ds ≤ ms ∧ call m as f n fun v f' n' => K (pc + 3, L, v.toList ++ r, f', n', c + dc, sl + ds)
def ev_step (K : ev_F → Prop) (Ret : ev_P) (g : ev_F) : Prop := match g with
  | (pc, L, st, f, n, c, sl) => match ev_at code pc with
    | none => False
    | some (_, i, len, a, b, w) =>
      if b = 99 then sp (pc, L, st, f, n, c, sl) K else
      match i with
      | .iconst _ => K (pc + len, L, .int w :: st, f, n, c, sl)
      | .bipush _ => K (pc + len, L, .int w :: st, f, n, c, sl)
      | .sipush _ => K (pc + len, L, .int w :: st, f, n, c, sl)
      | .ldc _ => K (pc + len, L, .int w :: st, f, n, c, sl)
      | .ldc_w _ => K (pc + len, L, .int w :: st, f, n, c, sl)
      | .aconst_null => K (pc + len, L, .null :: st, f, n, c, sl)
      | .lconst k => K (pc + len, L, .long (Int64.ofNat (k : Nat)) :: st, f, n, c, sl)
      | .iload_n j => ev_loc L j fun v => ev_vi v fun v => K (pc + len, L, .int v :: st, f, n, c, sl)
      | .iload j => ev_loc L j fun v => ev_vi v fun v => K (pc + len, L, .int v :: st, f, n, c, sl)
      | .aload_n j => ev_loc L j fun v => ev_vq v fun v => K (pc + len, L, v :: st, f, n, c, sl)
      | .aload j => ev_loc L j fun v => ev_vq v fun v => K (pc + len, L, v :: st, f, n, c, sl)
      | .istore_n j => (j : Nat) < nl ∧ ev_i st fun v r => K (pc + len, ev_set L j (.int v), r, f, n, c, sl)
      | .istore j => j < nl ∧ ev_i st fun v r => K (pc + len, ev_set L j (.int v), r, f, n, c, sl)
      | .astore_n j => (j : Nat) < nl ∧ ev_q st fun v r => K (pc + len, ev_set L j (va_rf v), r, f, n, c, sl)
      | .astore j => j < nl ∧ ev_q st fun v r => K (pc + len, ev_set L j (va_rf v), r, f, n, c, sl)
      | .iinc j _ => j < nl ∧ ev_loc L j fun v => ev_vi v fun v => K (pc + len, ev_set L j (.int (v + w)), st, f, n, c, sl)
      | .iadd => ev_ii st fun u v r => K (pc + len, L, .int (u + v) :: r, f, n, c, sl)
      | .isub => ev_ii st fun u v r => K (pc + len, L, .int (u - v) :: r, f, n, c, sl)
      | .imul => ev_ii st fun u v r => K (pc + len, L, .int (u * v) :: r, f, n, c, sl)
      | .iand => ev_ii st fun u v r => K (pc + len, L, .int (u &&& v) :: r, f, n, c, sl)
      | .ior => ev_ii st fun u v r => K (pc + len, L, .int (u ||| v) :: r, f, n, c, sl)
      | .ishl => ev_ii st fun u v r => K (pc + len, L, .int (u <<< (v &&& 31)) :: r, f, n, c, sl)
      | .ishr => ev_ii st fun u v r => K (pc + len, L, .int (u >>> (v &&& 31)) :: r, f, n, c, sl)
      | .idiv => ev_ii st fun u v r => ¬ v = 0 ∧ K (pc + len, L, .int (u / v) :: r, f, n, c, sl)
      | .irem => ev_ii st fun u v r => ¬ v = 0 ∧ K (pc + len, L, .int (u - u / v * v) :: r, f, n, c, sl)
      | .i2b => ev_i st fun u r => K (pc + len, L, .int u.toInt8.toInt32 :: r, f, n, c, sl)
      | .i2l => ev_i st fun u r => K (pc + len, L, .long u.toInt64 :: r, f, n, c, sl)
      | .lcmp => ev_l st fun v r => ev_l r fun u r => K (pc + len, L, .int (lg_cmp u v) :: r, f, n, c, sl)
      | .dup => ev_w st fun u r => K (pc + len, L, u :: u :: r, f, n, c, sl)
      | .dup_x1 => ev_w st fun u r => ev_w r fun v r => K (pc + len, L, u :: v :: u :: r, f, n, c, sl)
      | .dup2 => ev_w st fun u r => ev_w r fun v r => K (pc + len, L, u :: v :: u :: v :: r, f, n, c, sl)
      | .pop => ev_w st fun _ r => K (pc + len, L, r, f, n, c, sl)
      | .goto _ => K (a, L, st, f, n, c, sl)
      | .ifnull _ => ev_q st fun u r => ev_br (u = none) (K (a, L, r, f, n, c, sl)) (K (pc + len, L, r, f, n, c, sl))
      | .ifnonnull _ => ev_q st fun u r => ev_br (u = none) (K (pc + len, L, r, f, n, c, sl)) (K (a, L, r, f, n, c, sl))
      | .ifCond .eq _ => ev_i st fun u r => ev_br (u = 0) (K (a, L, r, f, n, c, sl)) (K (pc + len, L, r, f, n, c, sl))
      | .ifCond .ne _ => ev_i st fun u r => ev_br (u = 0) (K (pc + len, L, r, f, n, c, sl)) (K (a, L, r, f, n, c, sl))
      | .ifCond .lt _ => ev_i st fun u r => ev_br (u < 0) (K (a, L, r, f, n, c, sl)) (K (pc + len, L, r, f, n, c, sl))
      | .ifCond .ge _ => ev_i st fun u r => ev_br (u < 0) (K (pc + len, L, r, f, n, c, sl)) (K (a, L, r, f, n, c, sl))
      | .ifCond .le _ => ev_i st fun u r => ev_br (u ≤ 0) (K (a, L, r, f, n, c, sl)) (K (pc + len, L, r, f, n, c, sl))
      | .ifCond .gt _ => ev_i st fun u r => ev_br (u ≤ 0) (K (pc + len, L, r, f, n, c, sl)) (K (a, L, r, f, n, c, sl))
      | .if_icmp .eq _ => ev_ii st fun u v r => ev_br (u = v) (K (a, L, r, f, n, c, sl)) (K (pc + len, L, r, f, n, c, sl))
      | .if_icmp .ne _ => ev_ii st fun u v r => ev_br (u = v) (K (pc + len, L, r, f, n, c, sl)) (K (a, L, r, f, n, c, sl))
      | .if_icmp .lt _ => ev_ii st fun u v r => ev_br (u < v) (K (a, L, r, f, n, c, sl)) (K (pc + len, L, r, f, n, c, sl))
      | .if_icmp .ge _ => ev_ii st fun u v r => ev_br (u < v) (K (pc + len, L, r, f, n, c, sl)) (K (a, L, r, f, n, c, sl))
      | .if_icmp .le _ => ev_ii st fun u v r => ev_br (u ≤ v) (K (a, L, r, f, n, c, sl)) (K (pc + len, L, r, f, n, c, sl))
      | .if_icmp .gt _ => ev_ii st fun u v r => ev_br (u ≤ v) (K (pc + len, L, r, f, n, c, sl)) (K (a, L, r, f, n, c, sl))
      | .tableswitch d lo hi offs => ev_i st fun u r => (∀ tgt : Nat, (u.toInt < lo ∨ hi < u.toInt) → (pc : Int) + d = tgt → K (tgt, L, r, f, n, c, sl)) ∧ (¬ u.toInt < lo → ¬ hi < u.toInt → ev_sw lo offs.toList pc u.toInt fun tgt => K (tgt, L, r, f, n, c, sl))
      | .lookupswitch d ps => ev_i st fun u r => ∀ tgt : Nat, (pc : Int) + Op.lookupswitch.offset ps.toList d u.toInt = tgt → K (tgt, L, r, f, n, c, sl)
      | .getfield _ => ev_r st fun q r => ev_ob (f q) a fun fs => ev_nth fs b fun v => K (pc + len, L, v :: r, f, n, c, sl)
      | .putfield _ => ev_w st fun v r => ev_r r fun q r => ev_ob (f q) a fun fs => b < fs.length ∧ ev_fit (ev_ty a b) v ∧ K (pc + len, L, r, va_up f q (some (.inr (a, fs.set b v))), n, c, sl)
      | .arraylength => ev_r st fun q r => ev_len (f q) fun z => K (pc + len, L, .int (Int32.ofNat z) :: r, f, n, c, sl)
      | .iaload => ev_i st fun u r => ev_r r fun q r => ev_ai (f q) (cy 1) fun z g => vp_in u z ∧ K (pc + len, L, .int (g u.toNatClampNeg) :: r, f, n, c, sl)
      | .baload => ev_i st fun u r => ev_r r fun q r => ev_ai (f q) (cy (ev_bt oc)) fun z g => vp_in u z ∧ K (pc + len, L, .int (g u.toNatClampNeg) :: r, f, n, c, sl)
      | .laload => ev_i st fun u r => ev_r r fun q r => ev_al (f q) (cy 3) fun z g => vp_in u z ∧ K (pc + len, L, .long (g u.toNatClampNeg) :: r, f, n, c, sl)
      | .aaload => ev_i st fun u r => ev_r r fun q r => ev_aq (f q) fun _ z g => vp_in u z ∧ K (pc + len, L, va_rf (g u.toNatClampNeg) :: r, f, n, c, sl)
      | .iastore => ev_i st fun v r => ev_i r fun u r => ev_r r fun q r => ev_ai (f q) (cy 1) fun z g => vp_in u z ∧ K (pc + len, L, r, va_up f q (some (.inl (cy 1, z, .inl (upd g u.toNatClampNeg v)))), n, c, sl)
      | .bastore => ev_i st fun v r => ev_i r fun u r => ev_r r fun q r => ev_ai (f q) (cy (ev_bt oc)) fun z g => vp_in u z ∧ K (pc + len, L, r, va_up f q (some (.inl (cy (ev_bt oc), z, .inl (upd g u.toNatClampNeg (ev_bn oc v))))), n, c, sl)
      | .lastore => ev_l st fun v r => ev_i r fun u r => ev_r r fun q r => ev_al (f q) (cy 3) fun z g => vp_in u z ∧ K (pc + len, L, r, va_up f q (some (.inl (cy 3, z, .inr (.inl (vp_updL g u.toNatClampNeg v))))), n, c, sl)
      | .aastore => ev_q st fun v r => ev_i r fun u r => ev_r r fun q r => ev_aq (f q) fun cA z g => cA = cy a ∧ vp_in u z ∧ (match v with | none => True | some v => ev_ob (f v) b fun _ => True) ∧ K (pc + len, L, r, va_up f q (some (.inl (cy a, z, .inr (.inr (.inr (.inr (va_up g u.toNatClampNeg v))))))), n, c, sl)
      | .new _ => c + 1 ≤ mc ∧ sl + ev_nf a ≤ ms ∧ K (pc + len, L, .ref n :: st, va_up f n (some (.inr (a, ev_new a))), n + 1, c + 1, sl + ev_nf a)
      | .newarray ty => ev_i st fun u r => ¬ u < 0 ∧ c + 1 ≤ mc ∧ sl + u.toNatClampNeg ≤ ms ∧ u.toNatClampNeg * 8 ≤ 536870912 ∧ K (pc + len, L, .ref n :: r, va_up f n (some (.inl (cy a, u.toNatClampNeg, match ty with | .long => .inr (.inl fun _ => 0) | _ => .inl fun _ => 0))), n + 1, c + 1, sl + u.toNatClampNeg)
      | .anewarray _ => ev_i st fun u r => ¬ u < 0 ∧ c + 1 ≤ mc ∧ sl + u.toNatClampNeg ≤ ms ∧ u.toNatClampNeg * 4 ≤ 536870912 ∧ K (pc + len, L, .ref n :: r, va_up f n (some (.inl (cy a, u.toNatClampNeg, .inr (.inr (.inr (.inr fun _ => none)))))), n + 1, c + 1, sl + u.toNatClampNeg)
      | .invokestatic _ => if b = 6 then ev_ii st fun u v r => (r.map fun v => v.category).sum ≤ 8 ∧ K (pc + len, L, .int (if u < v then v else u) :: r, f, n, c, sl) else if b = 7 then ev_ii st fun u v r => (r.map fun v => v.category).sum ≤ 8 ∧ K (pc + len, L, .int (if v < u then v else u) :: r, f, n, c, sl) else ev_inv call mc ms K (pc, L, st, f, n, c, sl) a false
      | .invokespecial _ => if b = 5 then ev_r st fun _ r => (r.map fun v => v.category).sum ≤ 8 ∧ K (pc + len, L, r, f, n, c, sl) else ev_inv call mc ms K (pc, L, st, f, n, c, sl) a true
      | .invokevirtual _ => ev_inv call mc ms K (pc, L, st, f, n, c, sl) a true
      | .checkcast _ => ev_q st fun u r => (match u with | none => True | some q => ev_ob (f q) a fun _ => True) ∧ K (pc + len, L, va_rf u :: r, f, n, c, sl)
      | .ireturn => match rt with
        | some ty => ev_i st fun v r => ev_fit ty (.int v) ∧ r = [] ∧ Ret (some (.int v)) f n
        | none => False
      | .areturn => match rt with
        | some ty => ev_q st fun v r => ev_fit ty (va_rf v) ∧ r = [] ∧ Ret (some (va_rf v)) f n
        | none => False
      | .return_ => match rt with
        | none => st = [] ∧ Ret none f n
        | some _ => False
      | _ => False
end ES
end
section
/-! what the eliminators say -/
theorem ev_i_s {st : List Value} {k : Int32 → List Value → Prop} (h : ev_i st k) : ∃ v r, st = .int v :: r ∧ k v r := by
  unfold ev_i at h
  split at h
  · exact ⟨_, _, rfl, h⟩
  · exact h.elim
theorem ev_l_s {st : List Value} {k : Int64 → List Value → Prop} (h : ev_l st k) : ∃ v r, st = .long v :: r ∧ k v r := by
  unfold ev_l at h
  split at h
  · exact ⟨_, _, rfl, h⟩
  · exact h.elim
theorem ev_r_s {st : List Value} {k : Nat → List Value → Prop} (h : ev_r st k) : ∃ v r, st = .ref v :: r ∧ k v r := by
  unfold ev_r at h
  split at h
  · exact ⟨_, _, rfl, h⟩
  · exact h.elim
theorem ev_w_s {st : List Value} {k : Value → List Value → Prop} (h : ev_w st k) : ∃ v r, st = v :: r ∧ v.category = 1 ∧ k v r := by
  unfold ev_w at h
  split at h
  · exact ⟨_, _, rfl, rfl, h⟩
  · exact ⟨_, _, rfl, rfl, h⟩
  · exact ⟨_, _, rfl, rfl, h⟩
  · exact h.elim
theorem ev_q_s {st : List Value} {k : Option Nat → List Value → Prop} (h : ev_q st k) : ∃ v r, st = va_rf v :: r ∧ k v r := by
  unfold ev_q at h
  split at h
  · exact ⟨some _, _, rfl, h⟩
  · exact ⟨none, _, rfl, h⟩
  · exact h.elim
theorem ev_ii_s {st : List Value} {k : Int32 → Int32 → List Value → Prop} (h : ev_ii st k) : ∃ u v r, st = .int v :: .int u :: r ∧ k u v r := by
  obtain ⟨v, r, rfl, h⟩ := ev_i_s h
  obtain ⟨u, r, rfl, h⟩ := ev_i_s h
  exact ⟨u, v, r, rfl, h⟩
theorem ev_loc_s {L : List (Nat × Value)} {i : Nat} {k : Value → Prop} (h : ev_loc L i k) : ∃ v, (i, v) ∈ L ∧ k v := by
  induction L with
  | nil => exact h.elim
  | cons a r ih =>
    obtain ⟨j, v⟩ := a
    unfold ev_loc at h
    split at h
    · next hj => exact ⟨v, by rw [hj]; exact List.mem_cons_self, h⟩
    · obtain ⟨v', h1, h2⟩ := ih h
      exact ⟨v', List.mem_cons_of_mem _ h1, h2⟩
theorem ev_vi_s {v : Value} {k : Int32 → Prop} (h : ev_vi v k) : ∃ n, v = .int n ∧ k n := by
  unfold ev_vi at h
  split at h
  · exact ⟨_, rfl, h⟩
  · exact h.elim
theorem ev_vq_s {v : Value} {k : Value → Prop} (h : ev_vq v k) : ∃ q, v = va_rf q ∧ k v := by
  unfold ev_vq at h
  split at h
  · exact ⟨some _, rfl, h⟩
  · exact ⟨none, rfl, h⟩
  · exact h.elim
theorem ev_ob_s {e : Option va_E} {ci : Nat} {k : List Value → Prop} (h : ev_ob e ci k) : ∃ fs, e = some (.inr (ci, fs)) ∧ k fs := by
  unfold ev_ob at h
  split at h
  · obtain ⟨rfl, h⟩ := h
    exact ⟨_, rfl, h⟩
  · exact h.elim
theorem ev_nth_s {fs : List Value} {j : Nat} {k : Value → Prop} (h : ev_nth fs j k) : ∃ v, fs[j]? = some v ∧ k v := by
  unfold ev_nth at h
  split at h
  · next v hv => exact ⟨v, hv, h⟩
  · exact h.elim
theorem ev_ai_s {e : Option va_E} {cA : ClassId} {k : Nat → (Nat → Int32) → Prop} (h : ev_ai e cA k) : ∃ n g, e = some (.inl (cA, n, .inl g)) ∧ k n g := by
  unfold ev_ai at h
  split at h
  · obtain ⟨rfl, h⟩ := h
    exact ⟨_, _, rfl, h⟩
  · exact h.elim
theorem ev_al_s {e : Option va_E} {cA : ClassId} {k : Nat → (Nat → Int64) → Prop} (h : ev_al e cA k) : ∃ n g, e = some (.inl (cA, n, .inr (.inl g))) ∧ k n g := by
  unfold ev_al at h
  split at h
  · obtain ⟨rfl, h⟩ := h
    exact ⟨_, _, rfl, h⟩
  · exact h.elim
theorem ev_aq_s {e : Option va_E} {k : ClassId → Nat → (Nat → Option Nat) → Prop} (h : ev_aq e k) : ∃ cA n g, e = some (.inl (cA, n, .inr (.inr (.inr (.inr g))))) ∧ k cA n g := by
  unfold ev_aq at h
  split at h
  · exact ⟨_, _, _, rfl, h⟩
  · exact h.elim
theorem ev_len_s {e : Option va_E} {k : Nat → Prop} (h : ev_len e k) : ∃ cA n g, e = some (.inl (cA, n, g)) ∧ k n := by
  unfold ev_len at h
  split at h
  · exact ⟨_, _, _, rfl, h⟩
  · exact h.elim
theorem ev_pop_s : ∀ {n : Nat} {st acc : List Value} {k : List Value → List Value → Prop}, ev_pop n st acc k → ∃ as r, as.length = n ∧ st = as.reverse ++ r ∧ k (as ++ acc) r
  | 0, st, acc, k, h => ⟨[], st, rfl, rfl, h⟩
  | n + 1, [], acc, k, h => h.elim
  | n + 1, v :: st, acc, k, h => by
    obtain ⟨as, r, h1, h2, h3⟩ := ev_pop_s (n := n) (st := st) (acc := v :: acc) (k := k) h
    refine ⟨as ++ [v], r, by simp [h1], by simp [h2], ?_⟩
    rw [List.append_assoc]
    exact h3
theorem ev_del_m {L : List (Nat × Value)} {i : Nat} {q : Nat × Value} (h : q ∈ ev_del L i) : q ∈ L ∧ q.1 ≠ i := by
  induction L with
  | nil => cases h
  | cons a r ih =>
    obtain ⟨j, v⟩ := a
    unfold ev_del at h
    split at h
    · exact ⟨List.mem_cons_of_mem _ (ih h).1, (ih h).2⟩
    · next hj =>
      rcases List.mem_cons.mp h with rfl | h
      · exact ⟨List.mem_cons_self, hj⟩
      · exact ⟨List.mem_cons_of_mem _ (ih h).1, (ih h).2⟩
theorem ev_set_m {L : List (Nat × Value)} {i : Nat} {v : Value} {q : Nat × Value} (h : q ∈ ev_set L i v) : q = (i, v) ∨ (q ∈ L ∧ q.1 ≠ i) := by
  induction L with
  | nil => exact Or.inl (List.mem_singleton.mp h)
  | cons a r ih =>
    obtain ⟨j, w⟩ := a
    unfold ev_set at h
    split at h
    · next hj =>
      rcases List.mem_cons.mp h with rfl | h
      · exact Or.inl rfl
      · exact Or.inr ⟨List.mem_cons_of_mem _ (ev_del_m h).1, (ev_del_m h).2⟩
    · next hj =>
      rcases List.mem_cons.mp h with rfl | h
      · exact Or.inr ⟨List.mem_cons_self, hj⟩
      · rcases ih h with h | h
        · exact Or.inl h
        · exact Or.inr ⟨List.mem_cons_of_mem _ h.1, h.2⟩
theorem ev_set_has {ls : Array Slot} {nl i : Nat} {L : List (Nat × Value)} {v : Value} (h : lv_has ls nl ((i, v) :: L.filter (fun q => !(q.1 == i) && !(q.1 + 1 == i && q.2.category == 2)))) (hc : ∀ q ∈ L, q.2.category = 1) : lv_has ls nl (ev_set L i v) := by
  refine ⟨h.1, h.2.1, fun q hq => h.2.2 q ?_⟩
  rcases ev_set_m hq with rfl | ⟨h1, h2⟩
  · exact List.mem_cons_self
  · refine List.mem_cons_of_mem _ (List.mem_filter.mpr ⟨h1, ?_⟩)
    have := hc q h1
    simp [h2, this]
theorem ev_set_cat {L : List (Nat × Value)} {i : Nat} {v : Value} (hv : v.category = 1) (hc : ∀ q ∈ L, q.2.category = 1) : ∀ q ∈ ev_set L i v, q.2.category = 1 := by
  intro q hq
  rcases ev_set_m hq with rfl | ⟨h1, -⟩
  · exact hv
  · exact hc q h1
theorem ev_rf_cat (q : Option Nat) : (va_rf q).category = 1 := by cases q <;> rfl
theorem ev_has_mem {ls : Array Slot} {nl i : Nat} {L : List (Nat × Value)} {v : Value} (h : lv_has ls nl L) (hm : (i, v) ∈ L) : ls[i]? = some (.val v) := h.2.2 (i, v) hm
/-! what the tables say -/
theorem ev_wd_s {i : Nat} {w : Cond} (h : ev_wd i w = true) : w ∈ lw_tbl := List.mem_of_getElem? (of_decide_eq_true h)
theorem ev_ct_in {α β : Type} {z : List β} {t : List α} (g : β → α) (he : z.map g = t) {r : α} (hr : r ∈ t) : ∃ q ∈ z, g q = r := by
  rw [← he] at hr
  exact List.mem_map.mp hr
theorem ev_ft_s {oc idx ci k : Nat} {w : Int32} (h : ev_ft.contains (oc, idx, ci, k, w) = true) : ∃ C T N, vwCl[ci]? = some (C, T, N) ∧ k < N ∧
    ((w = 0 ∧ Cond.fieldLink (ev_on oc) idx (T k).1 (T k).2.1 (T k).2.2.1 ∈ lw_tbl) ∨ (w = 1 ∧ Cond.fieldLinkNest (ev_on oc) idx (T k).1 (T k).2.1 (T k).2.2.1 "CreditLink" ∈ lw_tbl) ∨
      (w ≠ 0 ∧ Cond.fieldLink (ev_on oc) idx C (T k).2.1 (T k).2.2.1 ∈ lw_tbl ∧ Cond.sameField C (T k).1 (T k).2.1 (T k).2.2.1 ∈ lw_tbl)) := by
  obtain ⟨⟨r, i, j⟩, hz, he⟩ := ev_ct_in (fun z => z.1) ev_fz_ft (List.contains_iff_mem.mp h)
  have hk := List.all_eq_true.mp ev_fz_ok _ hz
  dsimp only at he
  subst he
  unfold ev_fokb at hk
  dsimp only at hk
  split at hk
  · cases hk
  · next C T N hc =>
    rw [Bool.and_eq_true] at hk
    obtain ⟨h1, h2⟩ := hk
    refine ⟨C, T, N, hc, of_decide_eq_true h1, ?_⟩
    split at h2
    · next h0 => exact Or.inl ⟨eq_of_beq h0, ev_wd_s h2⟩
    · next h0 =>
      split at h2
      · next h3 => exact Or.inr (Or.inl ⟨eq_of_beq h3, ev_wd_s h2⟩)
      · rw [Bool.and_eq_true] at h2
        exact Or.inr (Or.inr ⟨fun hw => h0 (by rw [hw]; rfl), ev_wd_s h2.1, ev_wd_s h2.2⟩)
theorem ev_lay_s {ci : Nat} {C : String} {T : u_T} {N : Nat} (hc : vwCl[ci]? = some (C, T, N)) : ∀ w ∈ u_ws C T N, w ∈ lw_tbl.filter goodWord := by
  intro w hw
  have hci : ci < 9 := (List.getElem?_eq_some_iff.mp hc).1
  have hk := List.all_eq_true.mp ev_lay_ok ci (List.mem_range.mpr hci)
  unfold ev_lokb at hk
  rw [hc] at hk
  dsimp only at hk
  split at hk
  · next C' T' N' z hc' hz =>
    cases hc'
    rw [Bool.and_eq_true] at hk
    obtain ⟨j, hj, rfl⟩ := List.mem_map.mp hw
    have h2 := List.all_eq_true.mp hk.2 j hj
    refine List.mem_filter.mpr ⟨ev_wd_s h2, ?_⟩
    unfold u_lay
    split <;> rfl
  · cases hk
theorem ev_ty_s {ci : Nat} {C : String} {T : u_T} {N : Nat} (hc : vwCl[ci]? = some (C, T, N)) : (∀ k, k < N → parseFieldDescriptor (T k).2.2.1 = some (ev_ty ci k)) ∧ (∀ a, a < N → ∀ b, b < N → a ≠ b → (T a).2.1 ≠ (T b).2.1) ∧ N = ev_nf ci := by
  have hci : ci < 9 := (List.getElem?_eq_some_iff.mp hc).1
  match ci, hc with
  | 0, hc => cases hc; exact ⟨tyJx4a65c_ok, nmJx4a65c, rfl⟩
  | 1, hc => cases hc; exact ⟨tyX0_ok, nmX0, rfl⟩
  | 2, hc => cases hc; exact ⟨tyX1_ok, nmX1, rfl⟩
  | 3, hc => cases hc; exact ⟨tyX2_ok, nmX2, rfl⟩
  | 4, hc => cases hc; exact ⟨tyX3_ok, nmX3, rfl⟩
  | 5, hc => cases hc; exact ⟨tyX4_ok, nmX4, rfl⟩
  | 6, hc => cases hc; exact ⟨tyX5_ok, nmX5, rfl⟩
  | 7, hc => cases hc; exact ⟨tyX6_ok, nmX6, rfl⟩
  | 8, hc => cases hc; exact ⟨tyX7_ok, nmX7, rfl⟩
  | k + 9, _ => omega
theorem ev_fit_s {ty : FieldType} {v : Value} (h : ev_fit ty v) : narrow ty v = v ∧ fits ty v = true := by
  unfold ev_fit at h
  split at h
  · exact ⟨rfl, rfl⟩
  · rcases h with rfl | rfl <;> exact ⟨by decide, by decide⟩
  · exact ⟨rfl, rfl⟩
  · exact ⟨rfl, rfl⟩
  · exact ⟨rfl, rfl⟩
  · exact ⟨rfl, rfl⟩
  · exact h.elim
end
section
/-! THE INSTRUCTIONS ARE SOUND, one by one: those that touch the heap -/
def ev_isn : Cond → Bool
  | .fieldLinkNest _ _ _ _ _ _ => true
  | .methodLinkNest _ _ _ _ => true
  | .castable _ _ => true
  | .arrayOver (.object _) => true
  | _ => false
def ev_gw : List Cond := lw_tbl.filter goodWord
def ev_nw : List Cond := lw_tbl.filter ev_isn
theorem ev_nw_warm {w : Cond} (hw : ev_isn w = true) {s U : State} (hW : s.WarmedH U.vm) (h : va_Nw w s) : va_Nw w U := by
  unfold ev_isn at hw
  split at hw
  · exact va_Nw.warmF hW h
  · exact va_Nw.warmM hW h
  · exact va_Nw.warmC hW h
  · exact va_AO.moved hW.alike h
  · cases hw
theorem ev_nw_same {w : Cond} (hw : ev_isn w = true) {u U : State} (h : u.vm = U.vm) (hz : va_Nw w u) : va_Nw w U := by
  unfold ev_isn at hw
  split at hw
  · exact va_Nw.same rfl h hz
  · exact va_Nw.same rfl h hz
  · exact va_Nw.same rfl h hz
  · exact va_AO.moved (h ▸ Vm.Alike.refl u.vm) hz
  · cases hw
def mh_T1 (cy : Nat → ClassId) (e : va_E) : Prop := ∀ (cA : ClassId) (z : Nat) (g : (Nat → Int32) ⊕ (Nat → Int64) ⊕ (Nat → UInt32) ⊕ (Nat → UInt64) ⊕ (Nat → Option Nat)), e = .inl (cA, z, g) → ∃ (t : Nat) (ty : FieldType), (ev_tyl cy)[t]? = some (cA, ty) ∧ ((∃ q, g = .inr (.inr (.inr (.inr q)))) → ∃ C, ty = .object C)
def mh_T (cy : Nat → ClassId) (f : ev_H) : Prop := ∀ (a : Nat) (e : va_E), f a = some e → mh_T1 cy e
theorem mh_T1.ob {cy : Nat → ClassId} {o : Nat × List Value} : mh_T1 cy (.inr o) := fun _ _ _ h => by cases h
theorem mh_T1.i {cy : Nat → ClassId} (t : Nat) {cA : ClassId} {ty : FieldType} {z : Nat} {g : Nat → Int32} (h : (ev_tyl cy)[t]? = some (cA, ty)) : mh_T1 cy (.inl (cA, z, .inl g)) := fun _ _ _ h1 => by cases h1; exact ⟨t, ty, h, fun ⟨q, hq⟩ => by cases hq⟩
theorem mh_T1.l {cy : Nat → ClassId} (t : Nat) {cA : ClassId} {ty : FieldType} {z : Nat} {g : Nat → Int64} (h : (ev_tyl cy)[t]? = some (cA, ty)) : mh_T1 cy (.inl (cA, z, .inr (.inl g))) := fun _ _ _ h1 => by cases h1; exact ⟨t, ty, h, fun ⟨q, hq⟩ => by cases hq⟩
theorem mh_T1.q {cy : Nat → ClassId} (t : Nat) {cA : ClassId} {C : String} {z : Nat} {g : Nat → Option Nat} (h : (ev_tyl cy)[t]? = some (cA, .object C)) : mh_T1 cy (.inl (cA, z, .inr (.inr (.inr (.inr g))))) := fun _ _ _ h1 => by cases h1; exact ⟨t, _, h, fun _ => ⟨C, rfl⟩⟩
theorem mh_T.up {cy : Nat → ClassId} {f : ev_H} {a : Nat} {e : va_E} (h : mh_T cy f) (he : mh_T1 cy e) : mh_T cy (va_up f a (some e)) := by
  intro q y hq
  unfold va_up at hq
  split at hq
  · cases hq; exact he
  · exact h q y hq
theorem mh_one {D : va_G} {cl : List vw_C} {f : ev_H} {H : Heap} (h : mh_P D cl f H) {a : Nat} {e : va_E} (he : f a = some e) : va_P D cl [(a, e)] H := by
  intro k q hk
  have hk0 : k < 1 := (List.getElem?_eq_some_iff.mp hk).1
  have : k = 0 := by omega
  subst this
  cases hk
  exact h a e he
theorem mh_upd {D : va_G} {cl : List vw_C} {f : ev_H} {H H1 : Heap} {a : Nat} {e : va_E} (h : mh_P D cl f H) (ho : ∀ q : Nat, q ≠ a → H1[q]? = H[q]?) (he : va_at D cl (a, e) H1) : mh_P D cl (va_up f a (some e)) H1 := by
  intro q y hq
  unfold va_up at hq
  split at hq
  · next hqa => cases hq; subst hqa; exact he
  · next hqa => exact (h q y hq).kept (ho q hqa)
def ev_J (D : va_G) (cy : Nat → ClassId) (z0 : Nat) (H0 : Heap) (f : ev_H) (n : Nat) (H : Heap) (locs : List Loc) : Prop := H.size = n ∧ mh_P D vwCl f H ∧ (∀ q e, f q = some e → z0 ≤ q) ∧ mh_T cy f ∧ va_S (fun q => z0 ≤ q) H0 H locs
theorem ev_J.set {D : va_G} {cy : Nat → ClassId} {z0 : Nat} {H0 : Heap} {f : ev_H} {n : Nat} {H : Heap} {locs : List Loc} (hJ : ev_J D cy z0 H0 f n H locs) {a k : Nat} {e0 e' : va_E} (hf : f a = some e0) {H1 : Heap} (z : H1.size = H.size) (oq : ∀ q : Nat, q ≠ a → H1[q]? = H[q]?) (he : va_at D vwCl (a, e') H1) (ht : mh_T1 cy e') : ev_J D cy z0 H0 (va_up f a (some e')) n H1 (locs ++ [⟨a, k⟩]) := by
  obtain ⟨h1, h2, h3, h4, h5⟩ := hJ
  exact ⟨z.trans h1, mh_upd h2 oq he, mh_dom h3 (h3 a _ hf), h4.up ht, h5.put z oq (h3 a _ hf)⟩
theorem ev_J.push {D : va_G} {cy : Nat → ClassId} {z0 : Nat} {H0 : Heap} {f : ev_H} {n : Nat} {H : Heap} {locs : List Loc} (hJ : ev_J D cy z0 H0 f n H locs) (hz : z0 ≤ H0.size) {e' : va_E} {H1 : Heap} (z : H1.size = H.size + 1) (oq : ∀ q : Nat, q < H.size → H1[q]? = H[q]?) (he : va_at D vwCl (H.size, e') H1) (ht : mh_T1 cy e') : ev_J D cy z0 H0 (va_up f n (some e')) (n + 1) H1 locs := by
  obtain ⟨h1, h2, h3, h4, h5⟩ := hJ
  have hzn : z0 ≤ n := by rw [← h1]; exact Nat.le_trans hz h5.1
  subst h1
  exact ⟨z, mh_push h2 oq he, mh_dom h3 hzn, h4.up ht, ⟨Nat.le_trans h5.1 (by omega), fun q g1 g2 => (oq q (Nat.lt_of_lt_of_le g1 h5.1)).trans (h5.2.1 q g1 g2), h5.2.2⟩⟩
/-- what holds all along in a method's body -/
def ev_C (p : Program) (s : State) (m : MethodId) (args : Array Value) (meth : Method) (cd : Code) (D : va_G) (cy : Nat → ClassId) (z0 oc kd nl : Nat) (bytes : ByteArray) : Prop :=
  p.tables.exec = Jvm.exec ∧ cd.code = bytes ∧ cd.maxLocals = nl ∧ s.vm.findClass (ev_on oc) = some m.cls ∧ (∀ w ∈ ev_gw, w.before args s = true) ∧ (∀ w ∈ ev_nw, va_Nw w s) ∧ va_K D vwCl (ev_tyl cy) s ∧ z0 ≤ s.heap.size ∧ (kd = 2 → meth.name = "<init>")
theorem ev_gw_in {w : Cond} (h : w ∈ lw_tbl) (hg : goodWord w = true) : w ∈ ev_gw := List.mem_filter.mpr ⟨h, hg⟩
theorem ev_nw_in {w : Cond} (h : w ∈ lw_tbl) (hg : ev_isn w = true) : w ∈ ev_nw := List.mem_filter.mpr ⟨h, hg⟩
set_option maxRecDepth 100000 in
theorem ev_decl {ci : Nat} {C : String} {T : u_T} {N : Nat} (hc : vwCl[ci]? = some (C, T, N)) : ∀ k, k < N → (T k).2.2.2 = true → (T k).1 = C := by
  have hci : ci < 9 := (List.getElem?_eq_some_iff.mp hc).1
  match ci, hc with
  | 0, hc => cases hc; decide +kernel
  | 1, hc => cases hc; decide +kernel
  | 2, hc => cases hc; decide +kernel
  | 3, hc => cases hc; decide +kernel
  | 4, hc => cases hc; decide +kernel
  | 5, hc => cases hc; decide +kernel
  | 6, hc => cases hc; decide +kernel
  | 7, hc => cases hc; decide +kernel
  | 8, hc => cases hc; decide +kernel
  | k + 9, _ => omega
section ER
variable {p : Program} {l : Launch} {e : Env} {R : Room} {s : State} {m : MethodId} {args : Array Value} {below : List Frame} {meth : Method} {cd : Code} {H : Heap} {locs : List Loc} {cells slots : Nat} {Q : State → Prop}
variable {D : va_G} {cy : Nat → ClassId} {z0 oc kd nl : Nat} {bytes : ByteArray} {f : ev_H} {n pc : Nat} {ls : Array Slot} {r : List Value}
theorem es_get (C0 : ev_C p s m args meth cd D cy z0 oc kd nl bytes) (hJ : ev_J D cy z0 s.heap f n H locs) {q a b k : Nat} {fs : List Value} {v : Value} {w : Int32} (hf : f q = some (.inr (a, fs))) (hv : fs[b]? = some v) (ho : ev_ft.contains (oc, k, a, b, w) = true) (hd : decode bytes pc = .ok (.getfield k, 3))
    (kk : W p l e R s m args below meth cd H locs cells slots Q (F0 m (pc + 3) ls (v :: r))) : W p l e R s m args below meth cd H locs cells slots Q (F0 m pc ls (.ref q :: r)) := by
  obtain ⟨hx, hb, hml, hown, hts, hnw, hK, -⟩ := C0
  obtain ⟨C, T, N, hc, hkN, hl⟩ := ev_ft_s ho
  have hP1 := mh_one hJ.2.1 hf
  rcases hl with ⟨-, hl⟩ | ⟨-, hl⟩ | ⟨-, hl, hs⟩
  · exact va_get (D := D) hx hb hts (ev_lay_s hc) hown hK hP1 0 rfl hc b hkN (hts _ (ev_gw_in hl rfl)) (fun _ h => h) hv hd kk
  · exact va_getN (D := D) hx hb hts (ev_lay_s hc) hown hK hP1 0 rfl hc b hkN (va_Nw.use rfl (hnw _ (ev_nw_in hl rfl))) (fun _ h => h) hv hd kk
  · exact va_get (D := D) hx hb hts (ev_lay_s hc) hown hK hP1 0 rfl hc b hkN (hts _ (ev_gw_in hl rfl)) (fun y h => u_same (hts _ (ev_gw_in hs rfl)) y h) hv hd kk
set_option maxHeartbeats 4000000 in
theorem es_put (C0 : ev_C p s m args meth cd D cy z0 oc kd nl bytes) (hJ : ev_J D cy z0 s.heap f n H locs) {q a b k : Nat} {fs : List Value} {v : Value} {w : Int32} (hf : f q = some (.inr (a, fs))) (hbl : b < fs.length) (hfit : ev_fit (ev_ty a b) v) (ho : ev_ft.contains (oc, k, a, b, w) = true) (hfn : ev_fin a b = false ∨ (kd = 2 ∧ w = 0 ∧ (vwCl.map fun q => q.1)[a]? = some (ev_on oc))) (hd : decode bytes pc = .ok (.putfield k, 3))
    (kk : ∀ (H1 : Heap) (locs1 : List Loc), ev_J D cy z0 s.heap (va_up f q (some (.inr (a, fs.set b v)))) n H1 locs1 → W p l e R s m args below meth cd H1 locs1 cells slots Q (F0 m (pc + 3) ls r)) : W p l e R s m args below meth cd H locs cells slots Q (F0 m pc ls (v :: .ref q :: r)) := by
  obtain ⟨hx, hb, hml, hown, hts, hnw, hK, hz, hin⟩ := C0
  obtain ⟨C, T, N, hc, hkN, hl⟩ := ev_ft_s ho
  obtain ⟨hty, hnm, -⟩ := ev_ty_s hc
  obtain ⟨hn, hft⟩ := ev_fit_s hfit
  have hlw := ev_lay_s hc
  have hap := va_apart (own := ev_on oc) hts hlw (ev_ty a) hty hnm hK hc
  obtain ⟨r', h1, cell, q1, q2, q3, q4⟩ := hJ.2.1 q _ hf
  have hr : r' = (C, T, N) := Option.some.inj (h1.symm.trans hc)
  subst hr
  obtain ⟨hS, hfc, kC, hkC, hkind⟩ := hK.1 a _ hc
  obtain ⟨cf, kf, fi, fd, hi, hsl⟩ := hS b hkN
  have hlay := hts _ (hlw _ (u_in_lay hkN))
  have hst := (u_facts hfc hkC (u_lays hts hlw hkN) hi).1
  have fin : ∀ (H' : Heap), H'[q]? = some (cell.setSlot (D.2 a b) v) → H'.size = H.size → (∀ x, x ≠ q → H'[x]? = H[x]?) → W p l e R s m args below meth cd H' (locs ++ [⟨q, D.2 a b⟩]) cells slots Q (F0 m (pc + 3) ls r) := by
    intro H' e1 e2 e3
    exact kk H' _ (hJ.set hf e2 e3 ⟨_, hc, t_OB.to (V := updV (vp_V fs) b v) ⟨_, e1, q2, q3, t_set q4 hap hkN v⟩ (fun j _ => vp_updV_set hbl v j)⟩ mh_T1.ob)
  by_cases hfi : (T b).2.2.2 = true
  · have hfe : ev_fin a b = true := by unfold ev_fin; rw [hc]; exact hfi
    rcases hfn with h0 | ⟨hk2, hw0, hcn⟩
    · rw [hfe] at h0; cases h0
    · have hC : C = ev_on oc := by
        rw [List.getElem?_map, hc] at hcn
        exact Option.some.inj hcn
      unfold u_lay at hlay
      rw [if_pos hfi] at hlay
      have hdl := ev_decl hc b hkN hfi
      have hcf : m.cls = cf := by
        obtain ⟨_, _, c', _, _, _, -, -, hf', -, -, -, hown2, -⟩ := Cond.laysFinal_spec hlay
        have e1 : c' = cf := by have := hi.symm.trans hf'; simp at this; exact this.1.symm
        rw [hdl, hC] at hown2
        rw [← e1]; exact Option.some.inj (hown.symm.trans hown2)
      have h6 := u_fits hfc hkC hkind (Or.inr hlay) hi (hty b hkN) hn hft
      rcases hl with ⟨-, hl⟩ | ⟨hw, hl⟩ | ⟨hw, hl, hs⟩
      · refine W.putFinK hx hb hown (hts _ (ev_gw_in hl rfl)) hi hst hcf (hin hk2) (by rw [q2]; exact h6) q1 q3 (by rw [hsl]; exact k2_hasslot (q4 b hkN)) rfl rfl hd fun H' e1 e2 e3 => ?_
        rw [hsl] at e1 ⊢
        exact fin H' e1 e2 e3
      · rw [hw0] at hw; exact absurd hw (by decide)
      · exact absurd hw0 hw
  · have hff : (T b).2.2.2 = false := by simpa using hfi
    unfold u_lay at hlay
    rw [if_neg hfi] at hlay
    have h6 := u_store hfc hkC hkind hlay hi (hty b hkN) hn hft
    rcases hl with ⟨-, hl⟩ | ⟨-, hl⟩ | ⟨-, hl, hs⟩
    · refine W.putK hx hb (f := fd) ⟨hown, hts _ (ev_gw_in hl rfl), ⟨_, _, _, hi⟩, hst⟩ (by rw [q2]; exact h6) q1 q3 (by rw [hsl]; exact k2_hasslot (q4 b hkN)) rfl rfl hd fun H' e1 e2 e3 => ?_
      rw [hsl] at e1 ⊢
      exact fin H' e1 e2 e3
    · refine va_WputK hx hb (f := fd) hown (va_Nw.use rfl (hnw _ (ev_nw_in hl rfl))) hi hst (by rw [q2]; exact h6) q1 q3 (by rw [hsl]; exact k2_hasslot (q4 b hkN)) rfl rfl hd fun H' e1 e2 e3 => ?_
      rw [hsl] at e1 ⊢
      exact fin H' e1 e2 e3
    · refine W.putK hx hb (f := fd) ⟨hown, hts _ (ev_gw_in hl rfl), ⟨_, _, _, u_same (hts _ (ev_gw_in hs rfl)) _ hi⟩, hst⟩ (by rw [q2]; exact h6) q1 q3 (by rw [hsl]; exact k2_hasslot (q4 b hkN)) rfl rfl hd fun H' e1 e2 e3 => ?_
      rw [hsl] at e1 ⊢
      exact fin H' e1 e2 e3
theorem es_iald (C0 : ev_C p s m args meth cd D cy z0 oc kd nl bytes) (hJ : ev_J D cy z0 s.heap f n H locs) {q z : Nat} {g : Nat → Int32} {u : Int32} (hf : f q = some (.inl (cy 1, z, .inl g))) (hi : vp_in u z) (hd : decode bytes pc = .ok (.iaload, 1))
    (kk : W p l e R s m args below meth cd H locs cells slots Q (F0 m (pc + 1) ls (.int (g u.toNatClampNeg) :: r))) : W p l e R s m args below meth cd H locs cells slots Q (F0 m pc ls (.int u :: .ref q :: r)) := by
  obtain ⟨hx, hb, hml, hown, hts, hnw, hK, -⟩ := C0
  exact va_iald hx hb hK (mh_one hJ.2.1 hf) 0 1 rfl rfl hi hd kk
theorem es_bald (C0 : ev_C p s m args meth cd D cy z0 oc kd nl bytes) (hJ : ev_J D cy z0 s.heap f n H locs) {q z : Nat} {g : Nat → Int32} {u : Int32} (hf : f q = some (.inl (cy (ev_bt oc), z, .inl g))) (hi : vp_in u z) (hd : decode bytes pc = .ok (.baload, 1))
    (kk : W p l e R s m args below meth cd H locs cells slots Q (F0 m (pc + 1) ls (.int (g u.toNatClampNeg) :: r))) : W p l e R s m args below meth cd H locs cells slots Q (F0 m pc ls (.int u :: .ref q :: r)) := by
  obtain ⟨hx, hb, hml, hown, hts, hnw, hK, -⟩ := C0
  unfold ev_bt at hf
  split at hf
  · exact va_zald hx hb hK (mh_one hJ.2.1 hf) 0 2 rfl rfl hi hd kk
  · exact va_bald hx hb hK (mh_one hJ.2.1 hf) 0 0 rfl rfl hi hd kk
theorem es_lald (C0 : ev_C p s m args meth cd D cy z0 oc kd nl bytes) (hJ : ev_J D cy z0 s.heap f n H locs) {q z : Nat} {g : Nat → Int64} {u : Int32} (hf : f q = some (.inl (cy 3, z, .inr (.inl g)))) (hi : vp_in u z) (hd : decode bytes pc = .ok (.laload, 1))
    (kk : W p l e R s m args below meth cd H locs cells slots Q (F0 m (pc + 1) ls (.long (g u.toNatClampNeg) :: r))) : W p l e R s m args below meth cd H locs cells slots Q (F0 m pc ls (.int u :: .ref q :: r)) := by
  obtain ⟨hx, hb, hml, hown, hts, hnw, hK, -⟩ := C0
  exact va_lald hx hb hK (mh_one hJ.2.1 hf) 0 3 rfl rfl hi hd kk
theorem es_aald (C0 : ev_C p s m args meth cd D cy z0 oc kd nl bytes) (hJ : ev_J D cy z0 s.heap f n H locs) {q z : Nat} {cA : ClassId} {g : Nat → Option Nat} {u : Int32} (hf : f q = some (.inl (cA, z, .inr (.inr (.inr (.inr g)))))) (hi : vp_in u z) (hd : decode bytes pc = .ok (.aaload, 1))
    (kk : W p l e R s m args below meth cd H locs cells slots Q (F0 m (pc + 1) ls (va_rf (g u.toNatClampNeg) :: r))) : W p l e R s m args below meth cd H locs cells slots Q (F0 m pc ls (.int u :: .ref q :: r)) := by
  obtain ⟨hx, hb, hml, hown, hts, hnw, hK, -⟩ := C0
  obtain ⟨t, ty, ht, hq⟩ := hJ.2.2.2.1 q _ hf _ _ _ rfl
  obtain ⟨C, rfl⟩ := hq ⟨g, rfl⟩
  exact va_aldq hx hb hK (mh_one hJ.2.1 hf) 0 t rfl ht hi hd kk
theorem es_alen (C0 : ev_C p s m args meth cd D cy z0 oc kd nl bytes) (hJ : ev_J D cy z0 s.heap f n H locs) {q z : Nat} {cA : ClassId} {g : (Nat → Int32) ⊕ (Nat → Int64) ⊕ (Nat → UInt32) ⊕ (Nat → UInt64) ⊕ (Nat → Option Nat)} (hf : f q = some (.inl (cA, z, g))) (hd : decode bytes pc = .ok (.arraylength, 1))
    (kk : W p l e R s m args below meth cd H locs cells slots Q (F0 m (pc + 1) ls (.int (Int32.ofNat z) :: r))) : W p l e R s m args below meth cd H locs cells slots Q (F0 m pc ls (.ref q :: r)) := by
  obtain ⟨hx, hb, hml, hown, hts, hnw, hK, -⟩ := C0
  obtain ⟨t, ty, ht, hq⟩ := hJ.2.2.2.1 q _ hf _ _ _ rfl
  exact va_alen hx hb hK (mh_one hJ.2.1 hf) 0 t rfl ht rfl hd kk
theorem es_iast (C0 : ev_C p s m args meth cd D cy z0 oc kd nl bytes) (hJ : ev_J D cy z0 s.heap f n H locs) {q z : Nat} {g : Nat → Int32} {u v : Int32} (hf : f q = some (.inl (cy 1, z, .inl g))) (hin : vp_in u z) (hd : decode bytes pc = .ok (.iastore, 1))
    (kk : ∀ (H1 : Heap) (locs1 : List Loc), ev_J D cy z0 s.heap (va_up f q (some (.inl (cy 1, z, .inl (upd g u.toNatClampNeg v))))) n H1 locs1 → W p l e R s m args below meth cd H1 locs1 cells slots Q (F0 m (pc + 1) ls r)) : W p l e R s m args below meth cd H locs cells slots Q (F0 m pc ls (.int v :: .int u :: .ref q :: r)) := by
  obtain ⟨hx, hb, hml, hown, hts, hnw, hK, -⟩ := C0
  refine W.iast hx hb (hJ.2.1 q _ hf) ((hK.2 1 _ rfl).1 z (fun j => .int (g j))) (fun q => by cases q) (by show ¬ (u < 0 ∨ (arrV _ _ _).slots.size ≤ _); rw [arrV_size]; exact hin) rfl rfl hd fun H1 e z oq => ?_
  refine kk H1 _ (hJ.set hf z oq ?_ (mh_T1.i 1 rfl))
  show H1[q]? = some (vp_cell _ _)
  rw [e]
  rw [vp_cell_i, vp_cell_i, arrV_store]
  congr 2
  funext j
  by_cases hj : j = u.toNatClampNeg
  · subst hj
    simp [updV, upd]
  · simp [updV, upd, hj]
theorem es_bast (C0 : ev_C p s m args meth cd D cy z0 oc kd nl bytes) (hJ : ev_J D cy z0 s.heap f n H locs) {q z : Nat} {g : Nat → Int32} {u v : Int32} (hf : f q = some (.inl (cy (ev_bt oc), z, .inl g))) (hin : vp_in u z) (hd : decode bytes pc = .ok (.bastore, 1))
    (kk : ∀ (H1 : Heap) (locs1 : List Loc), ev_J D cy z0 s.heap (va_up f q (some (.inl (cy (ev_bt oc), z, .inl (upd g u.toNatClampNeg (ev_bn oc v)))))) n H1 locs1 → W p l e R s m args below meth cd H1 locs1 cells slots Q (F0 m (pc + 1) ls r)) : W p l e R s m args below meth cd H locs cells slots Q (F0 m pc ls (.int v :: .int u :: .ref q :: r)) := by
  obtain ⟨hx, hb, hml, hown, hts, hnw, hK, -⟩ := C0
  by_cases h7 : oc = 7
  · have e1 : ev_bt oc = 2 := by unfold ev_bt; rw [if_pos h7]
    have e2 : ev_bn oc v = vp_nar .boolean v := by unfold ev_bn; rw [if_pos h7]
    rw [e1] at hf kk
    rw [e2] at kk
    refine W.zast hx hb (hJ.2.1 q _ hf) ((hK.2 2 _ rfl).1 z (fun j => .int (g j))) (fun q => by cases q) (by show ¬ (u < 0 ∨ (arrV _ _ _).slots.size ≤ _); rw [arrV_size]; exact hin) rfl rfl hd fun H1 e z oq => ?_
    refine kk H1 _ (hJ.set hf z oq ?_ (mh_T1.i 2 rfl))
    show H1[q]? = some (vp_cell _ _)
    rw [e]
    rw [vp_cell_i, vp_cell_i, arrV_store]
    congr 2
    funext j
    by_cases hj : j = u.toNatClampNeg
    · subst hj
      simp [updV, upd, vp_nar]
      try rfl
    · simp [updV, upd, hj]
  · have e1 : ev_bt oc = 0 := by unfold ev_bt; rw [if_neg h7]
    have e2 : ev_bn oc v = vp_nar .byte v := by unfold ev_bn; rw [if_neg h7]
    rw [e1] at hf kk
    rw [e2] at kk
    refine W.bast hx hb (hJ.2.1 q _ hf) ((hK.2 0 _ rfl).1 z (fun j => .int (g j))) (fun q => by cases q) (by show ¬ (u < 0 ∨ (arrV _ _ _).slots.size ≤ _); rw [arrV_size]; exact hin) rfl rfl hd fun H1 e z oq => ?_
    refine kk H1 _ (hJ.set hf z oq ?_ (mh_T1.i 0 rfl))
    show H1[q]? = some (vp_cell _ _)
    rw [e]
    rw [vp_cell_i, vp_cell_i, arrV_store]
    congr 2
    funext j
    by_cases hj : j = u.toNatClampNeg
    · subst hj
      simp [updV, upd, vp_nar]
      try rfl
    · simp [updV, upd, hj]
theorem es_last (C0 : ev_C p s m args meth cd D cy z0 oc kd nl bytes) (hJ : ev_J D cy z0 s.heap f n H locs) {q z : Nat} {g : Nat → Int64} {u : Int32} {v : Int64} (hf : f q = some (.inl (cy 3, z, .inr (.inl g)))) (hin : vp_in u z) (hd : decode bytes pc = .ok (.lastore, 1))
    (kk : ∀ (H1 : Heap) (locs1 : List Loc), ev_J D cy z0 s.heap (va_up f q (some (.inl (cy 3, z, .inr (.inl (vp_updL g u.toNatClampNeg v)))))) n H1 locs1 → W p l e R s m args below meth cd H1 locs1 cells slots Q (F0 m (pc + 1) ls r)) : W p l e R s m args below meth cd H locs cells slots Q (F0 m pc ls (.long v :: .int u :: .ref q :: r)) := by
  obtain ⟨hx, hb, hml, hown, hts, hnw, hK, -⟩ := C0
  refine W.last hx hb (hJ.2.1 q _ hf) ((hK.2 3 _ rfl).1 z (fun j => .long (g j))) (fun q => by cases q) (by show ¬ (u < 0 ∨ (arrV _ _ _).slots.size ≤ _); rw [arrV_size]; exact hin) rfl rfl hd fun H1 e z oq => ?_
  refine kk H1 _ (hJ.set hf z oq ?_ (mh_T1.l 3 rfl))
  show H1[q]? = some (vp_cell _ _)
  rw [e]
  rw [vp_cell_l, vp_cell_l, arrV_store]
  congr 2
  funext j
  by_cases hj : j = u.toNatClampNeg
  · subst hj
    simp [updV, vp_updL]
  · simp [updV, vp_updL, hj]
end ER
end
section
/-! THE INSTRUCTIONS ARE SOUND: what is made, references stored, calls -/
theorem ev_ct_s {oc idx ci : Nat} (h : ev_ct.contains (oc, idx, ci) = true) : ∃ C T N, vwCl[ci]? = some (C, T, N) ∧ Cond.classLink (ev_on oc) idx C ∈ lw_tbl ∧ Cond.instantiable C N ∈ lw_tbl ∧ Cond.initialized C ∈ lw_tbl ∧ N = ev_nf ci := by
  obtain ⟨⟨r, i1, i2, i3⟩, hz, he⟩ := ev_ct_in (fun z => z.1) ev_cz_ct (List.contains_iff_mem.mp h)
  have hk := List.all_eq_true.mp ev_cz_ok _ hz
  dsimp only at he
  subst he
  unfold ev_cokb at hk
  dsimp only at hk
  split at hk
  · cases hk
  · next C T N hc =>
    simp only [Bool.and_eq_true] at hk
    obtain ⟨⟨⟨h1, h2⟩, h3⟩, h4⟩ := hk
    exact ⟨C, T, N, hc, ev_wd_s h1, ev_wd_s h2, ev_wd_s h3, of_decide_eq_true h4⟩
theorem ev_qt_s {oc idx t : Nat} (h : ev_qt.contains (oc, idx, t) = true) : (4 ≤ t ∧ t ≤ 8) ∧ Cond.classLink (ev_on oc) idx (ev_qn t) ∈ lw_tbl ∧ Cond.arrayOver (.object (ev_qn t)) ∈ lw_tbl := by
  obtain ⟨⟨r, i1, i2⟩, hz, he⟩ := ev_ct_in (fun z => z.1) ev_qz_qt (List.contains_iff_mem.mp h)
  have hk := List.all_eq_true.mp ev_qz_ok _ hz
  dsimp only at he
  subst he
  unfold ev_qokb at hk
  dsimp only at hk
  simp only [Bool.and_eq_true] at hk
  exact ⟨of_decide_eq_true hk.1.1, ev_wd_s hk.1.2, ev_wd_s hk.2⟩
theorem ev_kt_s {oc idx : Nat} {w : Int32} (h : ev_kt.contains (oc, idx, w) = true) : Cond.constant (ev_on oc) idx w ∈ lw_tbl := by
  obtain ⟨⟨r, i1⟩, hz, he⟩ := ev_ct_in (fun z => z.1) ev_kz_kt (List.contains_iff_mem.mp h)
  have hk := List.all_eq_true.mp ev_kz_ok _ hz
  dsimp only at he
  subst he
  exact ev_wd_s hk
theorem ev_qn_t {cy : Nat → ClassId} {t : Nat} (h : 4 ≤ t ∧ t ≤ 8) : (ev_tyl cy)[t]? = some (cy t, .object (ev_qn t)) := by
  obtain ⟨h1, h2⟩ := h
  match t, h1, h2 with
  | 4, _, _ => rfl
  | 5, _, _ => rfl
  | 6, _, _ => rfl
  | 7, _, _ => rfl
  | 8, _, _ => rfl
section ER2
variable {p : Program} {l : Launch} {e : Env} {R : Room} {s : State} {m : MethodId} {args : Array Value} {below : List Frame} {meth : Method} {cd : Code} {H : Heap} {locs : List Loc} {cells slots : Nat} {Q : State → Prop}
variable {D : va_G} {cy : Nat → ClassId} {z0 oc kd nl : Nat} {bytes : ByteArray} {f : ev_H} {n pc : Nat} {ls : Array Slot} {r : List Value}
theorem es_new (C0 : ev_C p s m args meth cd D cy z0 oc kd nl bytes) (hJ : ev_J D cy z0 s.heap f n H locs) {a k : Nat} (ho : ev_ct.contains (oc, k, a) = true) (hc1 : cells + 1 ≤ R.cells) (hs1 : slots + ev_nf a ≤ R.slots) (hd : decode bytes pc = .ok (.new k, 3))
    (kk : ∀ (H1 : Heap), ev_J D cy z0 s.heap (va_up f n (some (.inr (a, ev_new a)))) (n + 1) H1 locs → W p l e R s m args below meth cd H1 locs (cells + 1) (slots + ev_nf a) Q (F0 m (pc + 3) ls (.ref n :: r))) : W p l e R s m args below meth cd H locs cells slots Q (F0 m pc ls r) := by
  obtain ⟨hx, hb, hml, hown, hts, hnw, hK, hz, -⟩ := C0
  obtain ⟨C, T, N, hc, w1, w2, w3, hN⟩ := ev_ct_s ho
  obtain ⟨hty, hnm, -⟩ := ev_ty_s hc
  subst hN
  have hKn := hK.1 a _ hc
  have hn := hJ.1
  refine W.newcK hx hb hown (hts _ (ev_gw_in w1 rfl)) (hts _ (ev_gw_in w2 rfl)) (hts _ (ev_gw_in w3 rfl)) rfl hd hc1 hs1 hKn.2.1 hn fun H1 kC hkC e1 z1 o1 => ?_
  subst hn
  refine kk H1 (hJ.push hz z1 o1 ?_ mh_T1.ob)
  refine ⟨_, hc, (u_born (ev_ty a) hts (ev_lay_s hc) hKn hkC e1 hty).to fun j hj => ?_⟩
  unfold vp_V ev_new
  rw [List.getD_eq_getElem?_getD, List.getElem?_map, List.getElem?_range hj]
  rfl
theorem es_newi (C0 : ev_C p s m args meth cd D cy z0 oc kd nl bytes) (hJ : ev_J D cy z0 s.heap f n H locs) {ty : ArrayType} {t N : Nat} {u : Int32} {cb : Nat} (hn0 : ¬ u < 0) (hN : u.toNatClampNeg = N) (hc1 : cells + 1 ≤ R.cells) (hs1 : slots + N ≤ R.slots) (hd : decode bytes pc = .ok (.newarray ty, 2))
    (hw : Cond.arrayClass (newarray.typeOf ty) ∈ lw_tbl) (ht : (ev_tyl cy)[t]? = some (cy t, newarray.typeOf ty)) (hRA : va_RA s (cy t) (newarray.typeOf ty) → s.vm.findClass ("[" ++ (newarray.typeOf ty).toString) = some (cy t)) (hcb : componentBytes (newarray.typeOf ty) = cb) (hby : N * cb ≤ 536870912)
    {g : (Nat → Int32) ⊕ (Nat → Int64) ⊕ (Nat → UInt32) ⊕ (Nat → UInt64) ⊕ (Nat → Option Nat)} (hg : vp_cell (cy t) (N, g) = arrV (cy t) N (fun _ => defaultValue (newarray.typeOf ty))) (hT : mh_T1 cy (.inl (cy t, N, g)))
    (kk : ∀ (H1 : Heap), ev_J D cy z0 s.heap (va_up f n (some (.inl (cy t, N, g)))) (n + 1) H1 locs → W p l e R s m args below meth cd H1 locs (cells + 1) (slots + N) Q (F0 m (pc + 2) ls (.ref n :: r))) : W p l e R s m args below meth cd H locs cells slots Q (F0 m pc ls (.int u :: r)) := by
  obtain ⟨hx, hb, hml, hown, hts, hnw, hK, hz, -⟩ := C0
  have hn := hJ.1
  refine va_newaK hx hb (hts _ (ev_gw_in hw rfl)) rfl hd rfl hn0 hN (by rw [hcb]; exact hby) hc1 hs1 hn fun H1 cA e1 z1 o1 hAr hNm => ?_
  have hcA : cA = cy t := Option.some.inj (hNm.symm.trans (hRA (hK.2 t _ ht).2))
  subst hcA
  subst hn
  refine kk H1 (hJ.push hz z1 o1 ?_ hT)
  show H1[H.size]? = some (vp_cell _ _)
  rw [hg]
  exact e1
theorem es_anew (C0 : ev_C p s m args meth cd D cy z0 oc kd nl bytes) (hJ : ev_J D cy z0 s.heap f n H locs) {k t : Nat} {u : Int32} (ho : ev_qt.contains (oc, k, t) = true) (hn0 : ¬ u < 0) (hc1 : cells + 1 ≤ R.cells) (hs1 : slots + u.toNatClampNeg ≤ R.slots) (hby : u.toNatClampNeg * 4 ≤ 536870912) (hd : decode bytes pc = .ok (.anewarray k, 3))
    (kk : ∀ (H1 : Heap), ev_J D cy z0 s.heap (va_up f n (some (.inl (cy t, u.toNatClampNeg, .inr (.inr (.inr (.inr fun _ => none))))))) (n + 1) H1 locs → W p l e R s m args below meth cd H1 locs (cells + 1) (slots + u.toNatClampNeg) Q (F0 m (pc + 3) ls (.ref n :: r))) : W p l e R s m args below meth cd H locs cells slots Q (F0 m pc ls (.int u :: r)) := by
  obtain ⟨hx, hb, hml, hown, hts, hnw, hK, hz, -⟩ := C0
  obtain ⟨h48, w1, w2⟩ := ev_qt_s ho
  have ht := ev_qn_t (cy := cy) h48
  have hn := hJ.1
  refine W.anew hx hb hown (hts _ (ev_gw_in w1 rfl)) (va_AO.use (hnw _ (ev_nw_in w2 rfl))) rfl hd rfl hn0 hby hc1 hs1 fun cA kA comp f1 f2 f3 f4 => ?_
  obtain ⟨kA', comp', -, -, -, k4⟩ := (hK.2 t _ ht).2
  have hcA : cA = cy t := Option.some.inj (f1.symm.trans k4)
  subst hcA
  subst hn
  refine kk _ (hJ.push hz (Array.size_push _) (fun q hq => by rw [Array.getElem?_push, if_neg (Nat.ne_of_lt hq)]) ?_ (mh_T1.q t ht))
  show _ = some (vp_cell _ _)
  rw [vp_cell_q, Array.getElem?_push_size]
  exact congrArg some (arrV_new _ _ _)
theorem es_aastN (C0 : ev_C p s m args meth cd D cy z0 oc kd nl bytes) (hJ : ev_J D cy z0 s.heap f n H locs) {q z t : Nat} {C : String} {g : Nat → Option Nat} {u : Int32} (hf : f q = some (.inl (cy t, z, .inr (.inr (.inr (.inr g)))))) (ht : (ev_tyl cy)[t]? = some (cy t, .object C)) (hin : vp_in u z) (hd : decode bytes pc = .ok (.aastore, 1))
    (kk : ∀ (H1 : Heap) (locs1 : List Loc), ev_J D cy z0 s.heap (va_up f q (some (.inl (cy t, z, .inr (.inr (.inr (.inr (va_up g u.toNatClampNeg none)))))))) n H1 locs1 → W p l e R s m args below meth cd H1 locs1 cells slots Q (F0 m (pc + 1) ls r)) : W p l e R s m args below meth cd H locs cells slots Q (F0 m pc ls (.null :: .int u :: .ref q :: r)) := by
  obtain ⟨hx, hb, hml, hown, hts, hnw, hK, hz, -⟩ := C0
  refine va_WaastN (C := C) hx hb (hJ.2.1 q _ hf) ((hK.2 t _ ht).1 z (fun j => va_rf (g j))) (fun h => by cases h) (by show ¬ (u < 0 ∨ (arrV _ _ _).slots.size ≤ _); rw [arrV_size]; exact hin) rfl rfl hd fun H1 e z oq => ?_
  refine kk H1 _ (hJ.set hf z oq ?_ (mh_T1.q t ht))
  show H1[q]? = some (vp_cell _ _)
  rw [e]
  rw [vp_cell_q, vp_cell_q, arrV_store]
  congr 2
  funext j
  by_cases hj : j = u.toNatClampNeg
  · subst hj
    simp [updV, va_up, va_rf]
  · simp [updV, va_up, hj]
theorem es_aast (C0 : ev_C p s m args meth cd D cy z0 oc kd nl bytes) (hJ : ev_J D cy z0 s.heap f n H locs) {q z t v ci : Nat} {C : String} {cC : vw_C} {vs : List Value} {g : Nat → Option Nat} {u : Int32} (hf : f q = some (.inl (cy t, z, .inr (.inr (.inr (.inr g)))))) (ht : (ev_tyl cy)[t]? = some (cy t, .object C)) (hv : f v = some (.inr (ci, vs))) (hci : vwCl[ci]? = some cC) (hcast : C = cC.1 ∨ Cond.castable cC.1 C ∈ lw_tbl) (hin : vp_in u z) (hd : decode bytes pc = .ok (.aastore, 1))
    (kk : ∀ (H1 : Heap) (locs1 : List Loc), ev_J D cy z0 s.heap (va_up f q (some (.inl (cy t, z, .inr (.inr (.inr (.inr (va_up g u.toNatClampNeg (some v))))))))) n H1 locs1 → W p l e R s m args below meth cd H1 locs1 cells slots Q (F0 m (pc + 1) ls r)) : W p l e R s m args below meth cd H locs cells slots Q (F0 m pc ls (.ref v :: .int u :: .ref q :: r)) := by
  obtain ⟨hx, hb, hml, hown, hts, hnw, hK, hz, -⟩ := C0
  have hlt : u.toNatClampNeg < z := Nat.not_le.mp fun q => hin (Or.inr q)
  have h0 : ¬ u < 0 := fun q => hin (Or.inl q)
  obtain ⟨r', hr', cellV, g1, g2, g3, -⟩ := hJ.2.1 v _ hv
  have hcls := (hK.1 ci cC hci).2
  obtain ⟨kA, comp, k1, k2, k3, -⟩ := (hK.2 t _ ht).2
  obtain ⟨kC, hkC, -⟩ := hcls.2
  have hcomp : (∃ kc, s.vm.classes[comp]? = some kc) ∧ s.vm.assignable (D.1 ci) comp = true := by
    rcases hcast with rfl | hcw
    · have hcomp : comp = D.1 ci := Option.some.inj (k3.symm.trans hcls.1)
      subst hcomp
      exact ⟨⟨kC, hkC⟩, va_assign hcls⟩
    · obtain ⟨c3, c4, hc3, hc4, hasg⟩ := Cond.castable_spec (va_Nw.use (A := args) rfl (hnw _ (ev_nw_in hcw rfl)))
      have e1 : c3 = D.1 ci := Option.some.inj (hc3.symm.trans hcls.1)
      have e2 : c4 = comp := Option.some.inj (hc4.symm.trans k3)
      subst e1; subst e2
      obtain ⟨k9, h9, -⟩ := Vm.findClass_spec k3
      exact ⟨⟨k9, h9⟩, hasg⟩
  obtain ⟨⟨kc, hkc⟩, hasg⟩ := hcomp
  refine W.aast hx hb (hJ.2.1 q _ hf) (fun q h => by cases h) (fun h => by cases h) k1 k2 rfl hkc ⟨h0, by show _ < (arrV _ _ _).slots.size; rw [arrV_size]; exact hlt⟩ g1 (fun q h => by rw [g3] at h; cases h) (by rw [g2]; exact hkC) (by rw [g2]; exact hasg) rfl rfl hd fun H1 e z oq => ?_
  refine kk H1 _ (hJ.set hf z oq ?_ (mh_T1.q t ht))
  show H1[q]? = some (vp_cell _ _)
  rw [e]
  rw [vp_cell_q, vp_cell_q, arrV_store]
  congr 2
  funext j
  by_cases hj : j = u.toNatClampNeg
  · subst hj
    simp [updV, va_up, va_rf]
  · simp [updV, va_up, hj]
end ER2
end
section
theorem zz_1 : lw_tbl.length = 1206 := by decide +kernel
end
