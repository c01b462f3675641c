section
-- ===== PART A: goes FIRST, ahead of the names: the tables' words, and 'selects' of the private methods out of them =====
/-- a private method of a class that the tables say can be made, by its rows of tables_1 -/
def lw_okq (q : MethodName × Nat) : Prop := (q.1.cls ≠ "java/lang/invoke/MethodHandle" ∧ q.1.cls ≠ "java/lang/invoke/VarHandle") ∧ Cond.instantiable q.1.cls q.2 ∈ tables_1 ∧ Cond.privateMethod q.1 ∈ tables_1 ∧ Cond.instanceMethod q.1 ∈ tables_1
theorem lw_p0 : lw_okq (⟨"PromiseVats", "isVat", "(I)Z"⟩, 10) := ⟨⟨by decide +kernel, by decide +kernel⟩, List.mem_of_getElem? (i := 22) (by decide +kernel), List.mem_of_getElem? (i := 269) (by decide +kernel), List.mem_of_getElem? (i := 270) (by decide +kernel)⟩
theorem lw_p1 : lw_okq (⟨"PromiseVats", "arrive", "(LPromiseVats$Call;I)V"⟩, 10) := ⟨⟨by decide +kernel, by decide +kernel⟩, List.mem_of_getElem? (i := 22) (by decide +kernel), List.mem_of_getElem? (i := 305) (by decide +kernel), List.mem_of_getElem? (i := 306) (by decide +kernel)⟩
theorem lw_p2 : lw_okq (⟨"PromiseVats", "waitAt", "(LPromiseVats$Promise;LPromiseVats$Call;)V"⟩, 10) := ⟨⟨by decide +kernel, by decide +kernel⟩, List.mem_of_getElem? (i := 22) (by decide +kernel), List.mem_of_getElem? (i := 309) (by decide +kernel), List.mem_of_getElem? (i := 310) (by decide +kernel)⟩
theorem lw_p3 : lw_okq (⟨"PromiseVats", "lose", "(LPromiseVats$Call;)V"⟩, 10) := ⟨⟨by decide +kernel, by decide +kernel⟩, List.mem_of_getElem? (i := 22) (by decide +kernel), List.mem_of_getElem? (i := 313) (by decide +kernel), List.mem_of_getElem? (i := 314) (by decide +kernel)⟩
theorem lw_p4 : lw_okq (⟨"java/util/ArrayList", "add", "(Ljava/lang/Object;[Ljava/lang/Object;I)V"⟩, 3) := ⟨⟨by decide +kernel, by decide +kernel⟩, List.mem_of_getElem? (i := 156) (by decide +kernel), List.mem_of_getElem? (i := 321) (by decide +kernel), List.mem_of_getElem? (i := 322) (by decide +kernel)⟩
theorem lw_p5 : lw_okq (⟨"java/util/ArrayList", "grow", "()[Ljava/lang/Object;"⟩, 3) := ⟨⟨by decide +kernel, by decide +kernel⟩, List.mem_of_getElem? (i := 156) (by decide +kernel), List.mem_of_getElem? (i := 325) (by decide +kernel), List.mem_of_getElem? (i := 326) (by decide +kernel)⟩
theorem lw_p6 : lw_okq (⟨"java/util/ArrayList", "grow", "(I)[Ljava/lang/Object;"⟩, 3) := ⟨⟨by decide +kernel, by decide +kernel⟩, List.mem_of_getElem? (i := 156) (by decide +kernel), List.mem_of_getElem? (i := 329) (by decide +kernel), List.mem_of_getElem? (i := 330) (by decide +kernel)⟩
theorem lw_p7 : lw_okq (⟨"PromiseVats", "postCall", "(LPromiseVats$Call;I)V"⟩, 10) := ⟨⟨by decide +kernel, by decide +kernel⟩, List.mem_of_getElem? (i := 22) (by decide +kernel), List.mem_of_getElem? (i := 371) (by decide +kernel), List.mem_of_getElem? (i := 372) (by decide +kernel)⟩
theorem lw_p8 : lw_okq (⟨"PromiseVats", "packArgument", "(LPromiseVats$Entity;II)V"⟩, 10) := ⟨⟨by decide +kernel, by decide +kernel⟩, List.mem_of_getElem? (i := 22) (by decide +kernel), List.mem_of_getElem? (i := 375) (by decide +kernel), List.mem_of_getElem? (i := 376) (by decide +kernel)⟩
theorem lw_p9 : lw_okq (⟨"PromiseVats", "post", "(IILPromiseVats$Message;)V"⟩, 10) := ⟨⟨by decide +kernel, by decide +kernel⟩, List.mem_of_getElem? (i := 22) (by decide +kernel), List.mem_of_getElem? (i := 405) (by decide +kernel), List.mem_of_getElem? (i := 406) (by decide +kernel)⟩
theorem lw_p10 : lw_okq (⟨"java/util/ArrayList", "fastRemove", "([Ljava/lang/Object;I)V"⟩, 3) := ⟨⟨by decide +kernel, by decide +kernel⟩, List.mem_of_getElem? (i := 156) (by decide +kernel), List.mem_of_getElem? (i := 427) (by decide +kernel), List.mem_of_getElem? (i := 428) (by decide +kernel)⟩
theorem lw_p11 : lw_okq (⟨"PromiseVats", "perform", "(LPromiseVats$Turn;II)V"⟩, 10) := ⟨⟨by decide +kernel, by decide +kernel⟩, List.mem_of_getElem? (i := 22) (by decide +kernel), List.mem_of_getElem? (i := 436) (by decide +kernel), List.mem_of_getElem? (i := 437) (by decide +kernel)⟩
theorem lw_p12 : lw_okq (⟨"PromiseVats", "makeObject", "(LPromiseVats$Turn;I)LPromiseVats$VatObject;"⟩, 10) := ⟨⟨by decide +kernel, by decide +kernel⟩, List.mem_of_getElem? (i := 22) (by decide +kernel), List.mem_of_getElem? (i := 440) (by decide +kernel), List.mem_of_getElem? (i := 441) (by decide +kernel)⟩
theorem lw_p13 : lw_okq (⟨"PromiseVats", "callFrom", "(LPromiseVats$Turn;LPromiseVats$Entity;)LPromiseVats$Promise;"⟩, 10) := ⟨⟨by decide +kernel, by decide +kernel⟩, List.mem_of_getElem? (i := 22) (by decide +kernel), List.mem_of_getElem? (i := 444) (by decide +kernel), List.mem_of_getElem? (i := 445) (by decide +kernel)⟩
theorem lw_p14 : lw_okq (⟨"PromiseVats", "settleLost", "(I)V"⟩, 10) := ⟨⟨by decide +kernel, by decide +kernel⟩, List.mem_of_getElem? (i := 22) (by decide +kernel), List.mem_of_getElem? (i := 479) (by decide +kernel), List.mem_of_getElem? (i := 480) (by decide +kernel)⟩
theorem lw_p15 : lw_okq (⟨"PromiseVats", "resolveIn", "(ILPromiseVats$Promise;LPromiseVats$Entity;)V"⟩, 10) := ⟨⟨by decide +kernel, by decide +kernel⟩, List.mem_of_getElem? (i := 22) (by decide +kernel), List.mem_of_getElem? (i := 483) (by decide +kernel), List.mem_of_getElem? (i := 484) (by decide +kernel)⟩
def lw_privs_1 : List (MethodName × Nat) := [(⟨"PromiseVats", "isVat", "(I)Z"⟩, 10), (⟨"PromiseVats", "arrive", "(LPromiseVats$Call;I)V"⟩, 10), (⟨"PromiseVats", "waitAt", "(LPromiseVats$Promise;LPromiseVats$Call;)V"⟩, 10), (⟨"PromiseVats", "lose", "(LPromiseVats$Call;)V"⟩, 10), (⟨"java/util/ArrayList", "add", "(Ljava/lang/Object;[Ljava/lang/Object;I)V"⟩, 3), (⟨"java/util/ArrayList", "grow", "()[Ljava/lang/Object;"⟩, 3), (⟨"java/util/ArrayList", "grow", "(I)[Ljava/lang/Object;"⟩, 3), (⟨"PromiseVats", "postCall", "(LPromiseVats$Call;I)V"⟩, 10), (⟨"PromiseVats", "packArgument", "(LPromiseVats$Entity;II)V"⟩, 10), (⟨"PromiseVats", "post", "(IILPromiseVats$Message;)V"⟩, 10), (⟨"java/util/ArrayList", "fastRemove", "([Ljava/lang/Object;I)V"⟩, 3), (⟨"PromiseVats", "perform", "(LPromiseVats$Turn;II)V"⟩, 10), (⟨"PromiseVats", "makeObject", "(LPromiseVats$Turn;I)LPromiseVats$VatObject;"⟩, 10), (⟨"PromiseVats", "callFrom", "(LPromiseVats$Turn;LPromiseVats$Entity;)LPromiseVats$Promise;"⟩, 10), (⟨"PromiseVats", "settleLost", "(I)V"⟩, 10), (⟨"PromiseVats", "resolveIn", "(ILPromiseVats$Promise;LPromiseVats$Entity;)V"⟩, 10)]
theorem lw_r1 : ∀ q ∈ lw_privs_1, lw_okq q := List.forall_mem_cons.mpr ⟨lw_p0, List.forall_mem_cons.mpr ⟨lw_p1, List.forall_mem_cons.mpr ⟨lw_p2, List.forall_mem_cons.mpr ⟨lw_p3, List.forall_mem_cons.mpr ⟨lw_p4, List.forall_mem_cons.mpr ⟨lw_p5, List.forall_mem_cons.mpr ⟨lw_p6, List.forall_mem_cons.mpr ⟨lw_p7, List.forall_mem_cons.mpr ⟨lw_p8, List.forall_mem_cons.mpr ⟨lw_p9, List.forall_mem_cons.mpr ⟨lw_p10, List.forall_mem_cons.mpr ⟨lw_p11, List.forall_mem_cons.mpr ⟨lw_p12, List.forall_mem_cons.mpr ⟨lw_p13, List.forall_mem_cons.mpr ⟨lw_p14, List.forall_mem_cons.mpr ⟨lw_p15, fun _ h => absurd h List.not_mem_nil⟩⟩⟩⟩⟩⟩⟩⟩⟩⟩⟩⟩⟩⟩⟩⟩
theorem lw_p16 : lw_okq (⟨"PromiseVats", "unpackArgument", "(LPromiseVats$Entity;II)V"⟩, 10) := ⟨⟨by decide +kernel, by decide +kernel⟩, List.mem_of_getElem? (i := 22) (by decide +kernel), List.mem_of_getElem? (i := 510) (by decide +kernel), List.mem_of_getElem? (i := 511) (by decide +kernel)⟩
theorem lw_p17 : lw_okq (⟨"PromiseVats", "takeMessage", "(LPromiseVats$Message;II)V"⟩, 10) := ⟨⟨by decide +kernel, by decide +kernel⟩, List.mem_of_getElem? (i := 22) (by decide +kernel), List.mem_of_getElem? (i := 514) (by decide +kernel), List.mem_of_getElem? (i := 515) (by decide +kernel)⟩
theorem lw_p18 : lw_okq (⟨"PromiseVats", "findReached", "(I)V"⟩, 10) := ⟨⟨by decide +kernel, by decide +kernel⟩, List.mem_of_getElem? (i := 22) (by decide +kernel), List.mem_of_getElem? (i := 528) (by decide +kernel), List.mem_of_getElem? (i := 529) (by decide +kernel)⟩
theorem lw_p19 : lw_okq (⟨"PromiseVats", "reach", "(LPromiseVats$Entity;)V"⟩, 10) := ⟨⟨by decide +kernel, by decide +kernel⟩, List.mem_of_getElem? (i := 22) (by decide +kernel), List.mem_of_getElem? (i := 532) (by decide +kernel), List.mem_of_getElem? (i := 533) (by decide +kernel)⟩
theorem lw_p20 : lw_okq (⟨"PromiseVats", "reachWanted", "(I)V"⟩, 10) := ⟨⟨by decide +kernel, by decide +kernel⟩, List.mem_of_getElem? (i := 22) (by decide +kernel), List.mem_of_getElem? (i := 536) (by decide +kernel), List.mem_of_getElem? (i := 537) (by decide +kernel)⟩
theorem lw_p21 : lw_okq (⟨"PromiseVats", "reachCalls", "(Ljava/util/ArrayList;)V"⟩, 10) := ⟨⟨by decide +kernel, by decide +kernel⟩, List.mem_of_getElem? (i := 22) (by decide +kernel), List.mem_of_getElem? (i := 564) (by decide +kernel), List.mem_of_getElem? (i := 565) (by decide +kernel)⟩
theorem lw_p22 : lw_okq (⟨"PromiseVats", "reachInside", "(LPromiseVats$Entity;)V"⟩, 10) := ⟨⟨by decide +kernel, by decide +kernel⟩, List.mem_of_getElem? (i := 22) (by decide +kernel), List.mem_of_getElem? (i := 568) (by decide +kernel), List.mem_of_getElem? (i := 569) (by decide +kernel)⟩
theorem lw_p23 : lw_okq (⟨"PromiseVats", "freeUnreached", "(I)I"⟩, 10) := ⟨⟨by decide +kernel, by decide +kernel⟩, List.mem_of_getElem? (i := 22) (by decide +kernel), List.mem_of_getElem? (i := 572) (by decide +kernel), List.mem_of_getElem? (i := 573) (by decide +kernel)⟩
theorem lw_p24 : lw_okq (⟨"PromiseVats", "releaseUnreached", "(I)V"⟩, 10) := ⟨⟨by decide +kernel, by decide +kernel⟩, List.mem_of_getElem? (i := 22) (by decide +kernel), List.mem_of_getElem? (i := 576) (by decide +kernel), List.mem_of_getElem? (i := 577) (by decide +kernel)⟩
theorem lw_p25 : lw_okq (⟨"PromiseVats", "madeEntity", "(I)LPromiseVats$Entity;"⟩, 10) := ⟨⟨by decide +kernel, by decide +kernel⟩, List.mem_of_getElem? (i := 22) (by decide +kernel), List.mem_of_getElem? (i := 603) (by decide +kernel), List.mem_of_getElem? (i := 604) (by decide +kernel)⟩
theorem lw_p26 : lw_okq (⟨"PromiseVats", "liveEntity", "(I)LPromiseVats$Entity;"⟩, 10) := ⟨⟨by decide +kernel, by decide +kernel⟩, List.mem_of_getElem? (i := 22) (by decide +kernel), List.mem_of_getElem? (i := 611) (by decide +kernel), List.mem_of_getElem? (i := 612) (by decide +kernel)⟩
theorem lw_p27 : lw_okq (⟨"PromiseVatsModel", "vat", "(I)Z"⟩, 36) := ⟨⟨by decide +kernel, by decide +kernel⟩, List.mem_of_getElem? (i := 641) (by decide +kernel), List.mem_of_getElem? (i := 771) (by decide +kernel), List.mem_of_getElem? (i := 772) (by decide +kernel)⟩
theorem lw_p28 : lw_okq (⟨"PromiseVatsModel", "oldest", "(I)I"⟩, 36) := ⟨⟨by decide +kernel, by decide +kernel⟩, List.mem_of_getElem? (i := 641) (by decide +kernel), List.mem_of_getElem? (i := 775) (by decide +kernel), List.mem_of_getElem? (i := 776) (by decide +kernel)⟩
theorem lw_p29 : lw_okq (⟨"PromiseVatsModel", "unmail", "(I)V"⟩, 36) := ⟨⟨by decide +kernel, by decide +kernel⟩, List.mem_of_getElem? (i := 641) (by decide +kernel), List.mem_of_getElem? (i := 779) (by decide +kernel), List.mem_of_getElem? (i := 780) (by decide +kernel)⟩
theorem lw_p30 : lw_okq (⟨"PromiseVatsModel", "unpack", "(III)V"⟩, 36) := ⟨⟨by decide +kernel, by decide +kernel⟩, List.mem_of_getElem? (i := 641) (by decide +kernel), List.mem_of_getElem? (i := 783) (by decide +kernel), List.mem_of_getElem? (i := 784) (by decide +kernel)⟩
theorem lw_p31 : lw_okq (⟨"PromiseVatsModel", "post", "(IIIIII)V"⟩, 36) := ⟨⟨by decide +kernel, by decide +kernel⟩, List.mem_of_getElem? (i := 641) (by decide +kernel), List.mem_of_getElem? (i := 787) (by decide +kernel), List.mem_of_getElem? (i := 788) (by decide +kernel)⟩
def lw_privs_2 : List (MethodName × Nat) := [(⟨"PromiseVats", "unpackArgument", "(LPromiseVats$Entity;II)V"⟩, 10), (⟨"PromiseVats", "takeMessage", "(LPromiseVats$Message;II)V"⟩, 10), (⟨"PromiseVats", "findReached", "(I)V"⟩, 10), (⟨"PromiseVats", "reach", "(LPromiseVats$Entity;)V"⟩, 10), (⟨"PromiseVats", "reachWanted", "(I)V"⟩, 10), (⟨"PromiseVats", "reachCalls", "(Ljava/util/ArrayList;)V"⟩, 10), (⟨"PromiseVats", "reachInside", "(LPromiseVats$Entity;)V"⟩, 10), (⟨"PromiseVats", "freeUnreached", "(I)I"⟩, 10), (⟨"PromiseVats", "releaseUnreached", "(I)V"⟩, 10), (⟨"PromiseVats", "madeEntity", "(I)LPromiseVats$Entity;"⟩, 10), (⟨"PromiseVats", "liveEntity", "(I)LPromiseVats$Entity;"⟩, 10), (⟨"PromiseVatsModel", "vat", "(I)Z"⟩, 36), (⟨"PromiseVatsModel", "oldest", "(I)I"⟩, 36), (⟨"PromiseVatsModel", "unmail", "(I)V"⟩, 36), (⟨"PromiseVatsModel", "unpack", "(III)V"⟩, 36), (⟨"PromiseVatsModel", "post", "(IIIIII)V"⟩, 36)]
theorem lw_r2 : ∀ q ∈ lw_privs_2, lw_okq q := List.forall_mem_cons.mpr ⟨lw_p16, List.forall_mem_cons.mpr ⟨lw_p17, List.forall_mem_cons.mpr ⟨lw_p18, List.forall_mem_cons.mpr ⟨lw_p19, List.forall_mem_cons.mpr ⟨lw_p20, List.forall_mem_cons.mpr ⟨lw_p21, List.forall_mem_cons.mpr ⟨lw_p22, List.forall_mem_cons.mpr ⟨lw_p23, List.forall_mem_cons.mpr ⟨lw_p24, List.forall_mem_cons.mpr ⟨lw_p25, List.forall_mem_cons.mpr ⟨lw_p26, List.forall_mem_cons.mpr ⟨lw_p27, List.forall_mem_cons.mpr ⟨lw_p28, List.forall_mem_cons.mpr ⟨lw_p29, List.forall_mem_cons.mpr ⟨lw_p30, List.forall_mem_cons.mpr ⟨lw_p31, fun _ h => absurd h List.not_mem_nil⟩⟩⟩⟩⟩⟩⟩⟩⟩⟩⟩⟩⟩⟩⟩⟩
theorem lw_p32 : lw_okq (⟨"PromiseVatsModel", "go", "(IIIII)V"⟩, 36) := ⟨⟨by decide +kernel, by decide +kernel⟩, List.mem_of_getElem? (i := 641) (by decide +kernel), List.mem_of_getElem? (i := 791) (by decide +kernel), List.mem_of_getElem? (i := 792) (by decide +kernel)⟩
theorem lw_p33 : lw_okq (⟨"PromiseVatsModel", "passes", "(II)Z"⟩, 36) := ⟨⟨by decide +kernel, by decide +kernel⟩, List.mem_of_getElem? (i := 641) (by decide +kernel), List.mem_of_getElem? (i := 795) (by decide +kernel), List.mem_of_getElem? (i := 796) (by decide +kernel)⟩
theorem lw_p34 : lw_okq (⟨"PromiseVatsModel", "waits", "(I)I"⟩, 36) := ⟨⟨by decide +kernel, by decide +kernel⟩, List.mem_of_getElem? (i := 641) (by decide +kernel), List.mem_of_getElem? (i := 799) (by decide +kernel), List.mem_of_getElem? (i := 800) (by decide +kernel)⟩
theorem lw_p35 : lw_okq (⟨"PromiseVatsModel", "pack", "(III)V"⟩, 36) := ⟨⟨by decide +kernel, by decide +kernel⟩, List.mem_of_getElem? (i := 641) (by decide +kernel), List.mem_of_getElem? (i := 803) (by decide +kernel), List.mem_of_getElem? (i := 804) (by decide +kernel)⟩
theorem lw_p36 : lw_okq (⟨"PromiseVatsModel", "rest", "(IIIII)V"⟩, 36) := ⟨⟨by decide +kernel, by decide +kernel⟩, List.mem_of_getElem? (i := 641) (by decide +kernel), List.mem_of_getElem? (i := 807) (by decide +kernel), List.mem_of_getElem? (i := 808) (by decide +kernel)⟩
theorem lw_p37 : lw_okq (⟨"PromiseVatsModel", "settle", "(III)V"⟩, 36) := ⟨⟨by decide +kernel, by decide +kernel⟩, List.mem_of_getElem? (i := 641) (by decide +kernel), List.mem_of_getElem? (i := 811) (by decide +kernel), List.mem_of_getElem? (i := 812) (by decide +kernel)⟩
theorem lw_p38 : lw_okq (⟨"PromiseVatsModel", "unrest", "(I)V"⟩, 36) := ⟨⟨by decide +kernel, by decide +kernel⟩, List.mem_of_getElem? (i := 641) (by decide +kernel), List.mem_of_getElem? (i := 815) (by decide +kernel), List.mem_of_getElem? (i := 816) (by decide +kernel)⟩
theorem lw_p39 : lw_okq (⟨"PromiseVatsModel", "pair", "(IIII)V"⟩, 36) := ⟨⟨by decide +kernel, by decide +kernel⟩, List.mem_of_getElem? (i := 641) (by decide +kernel), List.mem_of_getElem? (i := 819) (by decide +kernel), List.mem_of_getElem? (i := 820) (by decide +kernel)⟩
theorem lw_p40 : lw_okq (⟨"PromiseVatsModel", "mourn", "(I)V"⟩, 36) := ⟨⟨by decide +kernel, by decide +kernel⟩, List.mem_of_getElem? (i := 641) (by decide +kernel), List.mem_of_getElem? (i := 823) (by decide +kernel), List.mem_of_getElem? (i := 824) (by decide +kernel)⟩
theorem lw_p41 : lw_okq (⟨"PromiseVatsModel", "act", "(IIII)I"⟩, 36) := ⟨⟨by decide +kernel, by decide +kernel⟩, List.mem_of_getElem? (i := 641) (by decide +kernel), List.mem_of_getElem? (i := 844) (by decide +kernel), List.mem_of_getElem? (i := 845) (by decide +kernel)⟩
theorem lw_p42 : lw_okq (⟨"PromiseVatsModel", "fresh", "(II)I"⟩, 36) := ⟨⟨by decide +kernel, by decide +kernel⟩, List.mem_of_getElem? (i := 641) (by decide +kernel), List.mem_of_getElem? (i := 848) (by decide +kernel), List.mem_of_getElem? (i := 849) (by decide +kernel)⟩
theorem lw_p43 : lw_okq (⟨"PromiseVatsModel", "send", "(II)I"⟩, 36) := ⟨⟨by decide +kernel, by decide +kernel⟩, List.mem_of_getElem? (i := 641) (by decide +kernel), List.mem_of_getElem? (i := 852) (by decide +kernel), List.mem_of_getElem? (i := 853) (by decide +kernel)⟩
theorem lw_p44 : lw_okq (⟨"PromiseVatsModel", "put", "(I)V"⟩, 36) := ⟨⟨by decide +kernel, by decide +kernel⟩, List.mem_of_getElem? (i := 641) (by decide +kernel), List.mem_of_getElem? (i := 856) (by decide +kernel), List.mem_of_getElem? (i := 857) (by decide +kernel)⟩
theorem lw_p45 : lw_okq (⟨"PromiseVatsModel", "lives", "(I)Z"⟩, 36) := ⟨⟨by decide +kernel, by decide +kernel⟩, List.mem_of_getElem? (i := 641) (by decide +kernel), List.mem_of_getElem? (i := 864) (by decide +kernel), List.mem_of_getElem? (i := 865) (by decide +kernel)⟩
theorem lw_p46 : lw_okq (⟨"PromiseVatsModel", "made", "(I)Z"⟩, 36) := ⟨⟨by decide +kernel, by decide +kernel⟩, List.mem_of_getElem? (i := 641) (by decide +kernel), List.mem_of_getElem? (i := 868) (by decide +kernel), List.mem_of_getElem? (i := 869) (by decide +kernel)⟩
theorem lw_p47 : lw_okq (⟨"PromiseVatsModel", "rooted", "(II)Z"⟩, 36) := ⟨⟨by decide +kernel, by decide +kernel⟩, List.mem_of_getElem? (i := 641) (by decide +kernel), List.mem_of_getElem? (i := 872) (by decide +kernel), List.mem_of_getElem? (i := 873) (by decide +kernel)⟩
def lw_privs_3 : List (MethodName × Nat) := [(⟨"PromiseVatsModel", "go", "(IIIII)V"⟩, 36), (⟨"PromiseVatsModel", "passes", "(II)Z"⟩, 36), (⟨"PromiseVatsModel", "waits", "(I)I"⟩, 36), (⟨"PromiseVatsModel", "pack", "(III)V"⟩, 36), (⟨"PromiseVatsModel", "rest", "(IIIII)V"⟩, 36), (⟨"PromiseVatsModel", "settle", "(III)V"⟩, 36), (⟨"PromiseVatsModel", "unrest", "(I)V"⟩, 36), (⟨"PromiseVatsModel", "pair", "(IIII)V"⟩, 36), (⟨"PromiseVatsModel", "mourn", "(I)V"⟩, 36), (⟨"PromiseVatsModel", "act", "(IIII)I"⟩, 36), (⟨"PromiseVatsModel", "fresh", "(II)I"⟩, 36), (⟨"PromiseVatsModel", "send", "(II)I"⟩, 36), (⟨"PromiseVatsModel", "put", "(I)V"⟩, 36), (⟨"PromiseVatsModel", "lives", "(I)Z"⟩, 36), (⟨"PromiseVatsModel", "made", "(I)Z"⟩, 36), (⟨"PromiseVatsModel", "rooted", "(II)Z"⟩, 36)]
theorem lw_r3 : ∀ q ∈ lw_privs_3, lw_okq q := List.forall_mem_cons.mpr ⟨lw_p32, List.forall_mem_cons.mpr ⟨lw_p33, List.forall_mem_cons.mpr ⟨lw_p34, List.forall_mem_cons.mpr ⟨lw_p35, List.forall_mem_cons.mpr ⟨lw_p36, List.forall_mem_cons.mpr ⟨lw_p37, List.forall_mem_cons.mpr ⟨lw_p38, List.forall_mem_cons.mpr ⟨lw_p39, List.forall_mem_cons.mpr ⟨lw_p40, List.forall_mem_cons.mpr ⟨lw_p41, List.forall_mem_cons.mpr ⟨lw_p42, List.forall_mem_cons.mpr ⟨lw_p43, List.forall_mem_cons.mpr ⟨lw_p44, List.forall_mem_cons.mpr ⟨lw_p45, List.forall_mem_cons.mpr ⟨lw_p46, List.forall_mem_cons.mpr ⟨lw_p47, fun _ h => absurd h List.not_mem_nil⟩⟩⟩⟩⟩⟩⟩⟩⟩⟩⟩⟩⟩⟩⟩⟩
theorem lw_p48 : lw_okq (⟨"PromiseVatsModel", "mark", "(I)V"⟩, 36) := ⟨⟨by decide +kernel, by decide +kernel⟩, List.mem_of_getElem? (i := 641) (by decide +kernel), List.mem_of_getElem? (i := 876) (by decide +kernel), List.mem_of_getElem? (i := 877) (by decide +kernel)⟩
theorem lw_p49 : lw_okq (⟨"PromiseVatsModel", "spread", "(I)V"⟩, 36) := ⟨⟨by decide +kernel, by decide +kernel⟩, List.mem_of_getElem? (i := 641) (by decide +kernel), List.mem_of_getElem? (i := 880) (by decide +kernel), List.mem_of_getElem? (i := 881) (by decide +kernel)⟩
theorem lw_p50 : lw_okq (⟨"PromiseVatsModel", "counts", "(III)Z"⟩, 36) := ⟨⟨by decide +kernel, by decide +kernel⟩, List.mem_of_getElem? (i := 641) (by decide +kernel), List.mem_of_getElem? (i := 892) (by decide +kernel), List.mem_of_getElem? (i := 893) (by decide +kernel)⟩
def lw_privs_4 : List (MethodName × Nat) := [(⟨"PromiseVatsModel", "mark", "(I)V"⟩, 36), (⟨"PromiseVatsModel", "spread", "(I)V"⟩, 36), (⟨"PromiseVatsModel", "counts", "(III)Z"⟩, 36)]
theorem lw_r4 : ∀ q ∈ lw_privs_4, lw_okq q := List.forall_mem_cons.mpr ⟨lw_p48, List.forall_mem_cons.mpr ⟨lw_p49, List.forall_mem_cons.mpr ⟨lw_p50, fun _ h => absurd h List.not_mem_nil⟩⟩⟩
def lw_privs : List (MethodName × Nat) := lw_privs_1 ++ (lw_privs_2 ++ (lw_privs_3 ++ (lw_privs_4)))
def lw_tbl : List Cond := k2_sels lw_privs ++ tables_1
theorem lw_privs_ok : ∀ q ∈ lw_privs, lw_okq q := by
  show ∀ q ∈ lw_privs_1 ++ (lw_privs_2 ++ (lw_privs_3 ++ (lw_privs_4))), lw_okq q
  exact List.forall_mem_append.mpr ⟨lw_r1, List.forall_mem_append.mpr ⟨lw_r2, List.forall_mem_append.mpr ⟨lw_r3, lw_r4⟩⟩⟩
/-- the words of the tables that stay over a warming: what every contract asks -/
def tb_ : List Cond := lw_tbl.filter goodWord
theorem tb_good : GoodIn tb_ tb_ := fun w h => ⟨h, good_of_word (List.mem_filter.mp h).2⟩
theorem tb_in {w : Cond} (i : Nat) (h : tables_1[i]? = some w) (hg : goodWord w = true) : w ∈ tb_ := List.mem_filter.mpr ⟨List.mem_append_right _ (List.mem_of_getElem? h), hg⟩
theorem tb_se {w : Cond} (i : Nat) (h : (k2_sels lw_privs)[i]? = some w) (hg : goodWord w = true) : w ∈ tb_ := List.mem_filter.mpr ⟨List.mem_append_left _ (List.mem_of_getElem? h), hg⟩
end
section
/-! The store: what the walks know of the heap. A cell is a row of ints, a row of references (their type's number, length, contents) or an object (its class's number, its fields). A store: what lies at each address, and how many cells the heap has. A program over it: its answer, the store behind it, the cells and the slots that it has made. -/
abbrev ce_E : Type := (Nat × Nat × (Nat → Int32)) ⊕ (Nat × Nat × (Nat → Option Nat)) ⊕ (Nat × List Value)
abbrev st_S : Type := (Nat → Option ce_E) × Nat
abbrev st_M (α : Type) : Type := st_S → Option (α × st_S × Nat × Nat)
def ce_v (ac : Nat → ClassId) (e : ce_E) : va_E := match e with
  | .inl x => .inl (ac x.1, x.2.1, .inl x.2.2)
  | .inr (.inl x) => .inl (ac x.1, x.2.1, .inr (.inr (.inr (.inr x.2.2))))
  | .inr (.inr o) => .inr o
/-- a row of no places: nobody can write into it -/
def ce_0 (e : ce_E) : Prop := ∃ (t : Nat) (f : Nat → Option Nat), e = .inr (.inl (t, 0, f))
def st_up (st : st_S) (a : Nat) (e : ce_E) : st_S := (fun q => if q = a then some e else st.1 q, st.2)
def st_ad (st : st_S) (e : ce_E) : st_S := (fun q => if q = st.2 then some e else st.1 q, st.2 + 1)
def st_r {α : Type} (a : α) : st_M α := fun st => some (a, st, 0, 0)
def st_b {α β : Type} (x : st_M α) (f : α → st_M β) : st_M β := fun st => match x st with
  | none => none
  | some (a, st1, i1, j1) => match f a st1 with
    | none => none
    | some (b, st2, i2, j2) => some (b, st2, i1 + i2, j1 + j2)
/-- a read, then the rest -/
def st_g {α β : Type} (f : st_S → Option α) (k : α → st_M β) : st_M β := fun st => (f st).bind (fun a => k a st)
/-- a write, then the rest -/
def st_w {β : Type} (f : st_S → Option st_S) (k : st_M β) : st_M β := fun st => (f st).bind k
/-- a new cell of j slots, then the rest -/
def st_n {β : Type} (e : ce_E) (j : Nat) (k : Nat → st_M β) : st_M β := fun st => match k st.2 (st_ad st e) with
  | none => none
  | some (b, st2, i2, j2) => some (b, st2, 1 + i2, j + j2)
theorem st_r_some {α : Type} {a r : α} {st stF : st_S} {i j : Nat} (h : st_r a st = some (r, stF, i, j)) : r = a ∧ stF = st ∧ i = 0 ∧ j = 0 := by
  simp only [st_r, Option.some.injEq, Prod.mk.injEq] at h
  exact ⟨h.1.symm, h.2.1.symm, h.2.2.1.symm, h.2.2.2.symm⟩
theorem st_b_some {α β : Type} {x : st_M α} {f : α → st_M β} {st stF : st_S} {r : β} {i j : Nat} (h : st_b x f st = some (r, stF, i, j)) :
    ∃ (a : α) (st1 : st_S) (i1 j1 i2 j2 : Nat), x st = some (a, st1, i1, j1) ∧ f a st1 = some (r, stF, i2, j2) ∧ i = i1 + i2 ∧ j = j1 + j2 := by
  unfold st_b at h
  split at h
  · cases h
  · rename_i a st1 i1 j1 hx
    split at h
    · cases h
    · rename_i b st2 i2 j2 hf
      simp only [Option.some.injEq, Prod.mk.injEq] at h
      obtain ⟨rfl, rfl, rfl, rfl⟩ := h
      exact ⟨a, st1, i1, j1, i2, j2, hx, hf, rfl, rfl⟩
theorem st_g_some {α β : Type} {f : st_S → Option α} {k : α → st_M β} {st : st_S} {x : β × st_S × Nat × Nat} (h : st_g f k st = some x) : ∃ a : α, f st = some a ∧ k a st = some x := Option.bind_eq_some_iff.mp h
theorem st_w_some {β : Type} {f : st_S → Option st_S} {k : st_M β} {st : st_S} {x : β × st_S × Nat × Nat} (h : st_w f k st = some x) : ∃ st1 : st_S, f st = some st1 ∧ k st1 = some x := Option.bind_eq_some_iff.mp h
theorem st_n_some {β : Type} {e : ce_E} {j0 : Nat} {k : Nat → st_M β} {st stF : st_S} {r : β} {i j : Nat} (h : st_n e j0 k st = some (r, stF, i, j)) :
    ∃ i2 j2 : Nat, k st.2 (st_ad st e) = some (r, stF, i2, j2) ∧ i = 1 + i2 ∧ j = j0 + j2 := by
  unfold st_n at h
  split at h
  · cases h
  · rename_i b st2 i2 j2 hk
    simp only [Option.some.injEq, Prod.mk.injEq] at h
    obtain ⟨rfl, rfl, rfl, rfl⟩ := h
    exact ⟨i2, j2, hk, rfl, rfl⟩
/-! what a program reads and writes -/
/-- a field of an object of one of the classes cis -/
def so_g (st : st_S) (r : Option Nat) (cis : List Nat) (k : Nat) : Option Value := match r with
  | none => none
  | some a => match st.1 a with
    | some (.inr (.inr o)) => if o.1 ∈ cis then o.2[k]? else none
    | _ => none
def so_vi (v : Value) : Option Int32 := match v with
  | .int x => some x
  | _ => none
def so_vq (v : Value) : Option (Option Nat) := match v with
  | .null => some none
  | .ref a => some (some a)
  | _ => none
def so_gi (r : Option Nat) (cis : List Nat) (k : Nat) (st : st_S) : Option Int32 := (so_g st r cis k).bind so_vi
def so_gq (r : Option Nat) (cis : List Nat) (k : Nat) (st : st_S) : Option (Option Nat) := (so_g st r cis k).bind so_vq
def so_p (r : Option Nat) (cis : List Nat) (k : Nat) (v : Value) (st : st_S) : Option st_S := match r with
  | none => none
  | some a => match st.1 a with
    | some (.inr (.inr o)) => if o.1 ∈ cis ∧ k < o.2.length then some (st_up st a (.inr (.inr (o.1, o.2.set k v)))) else none
    | _ => none
/-- the class of an object -/
def so_c (r : Option Nat) (st : st_S) : Option Nat := match r with
  | none => none
  | some a => match st.1 a with
    | some (.inr (.inr o)) => some o.1
    | _ => none
/-- rows of type t: a place read, a place written, the length -/
def so_li (r : Option Nat) (t : Nat) (x : Int32) (st : st_S) : Option Int32 := match r with
  | none => none
  | some a => match st.1 a with
    | some (.inl o) => if o.1 = t ∧ ¬ x < 0 ∧ x.toNatClampNeg < o.2.1 then some (o.2.2 x.toNatClampNeg) else none
    | _ => none
def so_si (r : Option Nat) (t : Nat) (x y : Int32) (st : st_S) : Option st_S := match r with
  | none => none
  | some a => match st.1 a with
    | some (.inl o) => if o.1 = t ∧ ¬ x < 0 ∧ x.toNatClampNeg < o.2.1 then some (st_up st a (.inl (o.1, o.2.1, upd o.2.2 x.toNatClampNeg y))) else none
    | _ => none
def so_lq (r : Option Nat) (ts : List Nat) (x : Int32) (st : st_S) : Option (Option Nat) := match r with
  | none => none
  | some a => match st.1 a with
    | some (.inr (.inl o)) => if o.1 ∈ ts ∧ ¬ x < 0 ∧ x.toNatClampNeg < o.2.1 then some (o.2.2 x.toNatClampNeg) else none
    | _ => none
/-- what is stored is null or an object of one of the classes cis -/
def so_is (st : st_S) (q : Option Nat) (cis : List Nat) : Bool := match q with
  | none => true
  | some b => match st.1 b with
    | some (.inr (.inr o)) => decide (o.1 ∈ cis)
    | _ => false
def so_sq (r : Option Nat) (ts : List Nat) (cis : List Nat) (x : Int32) (q : Option Nat) (st : st_S) : Option st_S := match r with
  | none => none
  | some a => match st.1 a with
    | some (.inr (.inl o)) => if o.1 ∈ ts ∧ ¬ x < 0 ∧ x.toNatClampNeg < o.2.1 ∧ so_is st q cis = true then some (st_up st a (.inr (.inl (o.1, o.2.1, va_up o.2.2 x.toNatClampNeg q)))) else none
    | _ => none
def so_n (r : Option Nat) (ts : List Nat) (st : st_S) : Option Int32 := match r with
  | none => none
  | some a => match st.1 a with
    | some (.inl o) => if o.1 ∈ ts then some (Int32.ofNat o.2.1) else none
    | some (.inr (.inl o)) => if o.1 ∈ ts then some (Int32.ofNat o.2.1) else none
    | _ => none
theorem so_g_some {st : st_S} {r : Option Nat} {cis : List Nat} {k : Nat} {v : Value} (h : so_g st r cis k = some v) : ∃ (a ci : Nat) (fs : List Value), r = some a ∧ st.1 a = some (.inr (.inr (ci, fs))) ∧ ci ∈ cis ∧ fs[k]? = some v := by
  unfold so_g at h
  split at h
  · cases h
  · rename_i a
    split at h
    · rename_i o ho
      obtain ⟨ci, fs⟩ := o
      split at h
      · rename_i hc
        exact ⟨a, ci, fs, rfl, ho, hc, h⟩
      · cases h
    · cases h
theorem so_gi_some {st : st_S} {r : Option Nat} {cis : List Nat} {k : Nat} {x : Int32} (h : so_gi r cis k st = some x) : so_g st r cis k = some (.int x) := by
  obtain ⟨v, h1, h2⟩ := Option.bind_eq_some_iff.mp h
  rw [h1]
  cases v <;> simp_all [so_vi]
theorem so_gq_some {st : st_S} {r : Option Nat} {cis : List Nat} {k : Nat} {x : Option Nat} (h : so_gq r cis k st = some x) : so_g st r cis k = some (va_rf x) := by
  obtain ⟨v, h1, h2⟩ := Option.bind_eq_some_iff.mp h
  rw [h1]
  cases v <;> simp_all [so_vq, va_rf] <;> (subst h2; rfl)
theorem so_p_some {st st' : st_S} {r : Option Nat} {cis : List Nat} {k : Nat} {v : Value} (h : so_p r cis k v st = some st') : ∃ (a ci : Nat) (fs : List Value), r = some a ∧ st.1 a = some (.inr (.inr (ci, fs))) ∧ ci ∈ cis ∧ k < fs.length ∧ st' = st_up st a (.inr (.inr (ci, fs.set k v))) := by
  unfold so_p at h
  split at h
  · cases h
  · rename_i a
    split at h
    · rename_i o ho
      obtain ⟨ci, fs⟩ := o
      split at h
      · rename_i hc
        exact ⟨a, ci, fs, rfl, ho, hc.1, hc.2, (Option.some.inj h).symm⟩
      · cases h
    · cases h
theorem so_c_some {st : st_S} {r : Option Nat} {ci : Nat} (h : so_c r st = some ci) : ∃ (a : Nat) (fs : List Value), r = some a ∧ st.1 a = some (.inr (.inr (ci, fs))) := by
  unfold so_c at h
  split at h
  · cases h
  · rename_i a
    split at h
    · rename_i o ho
      obtain ⟨cj, fs⟩ := o
      cases h
      exact ⟨a, fs, rfl, ho⟩
    · cases h
theorem so_li_some {st : st_S} {r : Option Nat} {t : Nat} {x y : Int32} (h : so_li r t x st = some y) : ∃ (a n : Nat) (f : Nat → Int32), r = some a ∧ st.1 a = some (.inl (t, n, f)) ∧ vp_in x n ∧ y = f x.toNatClampNeg := by
  unfold so_li at h
  split at h
  · cases h
  · rename_i a
    split at h
    · rename_i o ho
      obtain ⟨t', n, f⟩ := o
      split at h
      · rename_i hc
        obtain ⟨rfl, h1, h2⟩ := hc
        exact ⟨a, n, f, rfl, ho, fun z => z.elim h1 (fun z => Nat.not_le.mpr h2 z), (Option.some.inj h).symm⟩
      · cases h
    · cases h
theorem so_si_some {st st' : st_S} {r : Option Nat} {t : Nat} {x y : Int32} (h : so_si r t x y st = some st') : ∃ (a n : Nat) (f : Nat → Int32), r = some a ∧ st.1 a = some (.inl (t, n, f)) ∧ vp_in x n ∧ st' = st_up st a (.inl (t, n, upd f x.toNatClampNeg y)) := by
  unfold so_si at h
  split at h
  · cases h
  · rename_i a
    split at h
    · rename_i o ho
      obtain ⟨t', n, f⟩ := o
      split at h
      · rename_i hc
        obtain ⟨rfl, h1, h2⟩ := hc
        exact ⟨a, n, f, rfl, ho, fun z => z.elim h1 (fun z => Nat.not_le.mpr h2 z), (Option.some.inj h).symm⟩
      · cases h
    · cases h
theorem so_lq_some {st : st_S} {r : Option Nat} {ts : List Nat} {x : Int32} {y : Option Nat} (h : so_lq r ts x st = some y) : ∃ (a t n : Nat) (f : Nat → Option Nat), r = some a ∧ st.1 a = some (.inr (.inl (t, n, f))) ∧ t ∈ ts ∧ vp_in x n ∧ y = f x.toNatClampNeg := by
  unfold so_lq at h
  split at h
  · cases h
  · rename_i a
    split at h
    · rename_i o ho
      obtain ⟨t', n, f⟩ := o
      split at h
      · rename_i hc
        obtain ⟨h0, h1, h2⟩ := hc
        exact ⟨a, t', n, f, rfl, ho, h0, fun z => z.elim h1 (fun z => Nat.not_le.mpr h2 z), (Option.some.inj h).symm⟩
      · cases h
    · cases h
theorem so_sq_some {st st' : st_S} {r : Option Nat} {ts cis : List Nat} {x : Int32} {q : Option Nat} (h : so_sq r ts cis x q st = some st') : ∃ (a t n : Nat) (f : Nat → Option Nat), r = some a ∧ st.1 a = some (.inr (.inl (t, n, f))) ∧ t ∈ ts ∧ vp_in x n ∧ so_is st q cis = true ∧ st' = st_up st a (.inr (.inl (t, n, va_up f x.toNatClampNeg q))) := by
  unfold so_sq at h
  split at h
  · cases h
  · rename_i a
    split at h
    · rename_i o ho
      obtain ⟨t', n, f⟩ := o
      split at h
      · rename_i hc
        obtain ⟨h0, h1, h2, h3⟩ := hc
        exact ⟨a, t', n, f, rfl, ho, h0, fun z => z.elim h1 (fun z => Nat.not_le.mpr h2 z), h3, (Option.some.inj h).symm⟩
      · cases h
    · cases h
theorem so_is_some {st : st_S} {b : Nat} {cis : List Nat} (h : so_is st (some b) cis = true) : ∃ (ci : Nat) (fs : List Value), st.1 b = some (.inr (.inr (ci, fs))) ∧ ci ∈ cis := by
  unfold so_is at h
  split at h
  · rename_i z
    cases z
  · rename_i b' z
    cases z
    split at h
    · rename_i o ho
      exact ⟨o.1, o.2, ho, of_decide_eq_true h⟩
    · cases h
end
section
/-! The rows of the walks over stores: one a kind of instruction. -/
/-- the heap H holds the store st: all of it at a0 or above, but rows of no places -/
def wd_ (D : va_G) (cl : List vw_C) (ac : Nat → ClassId) (a0 : Nat) (st : st_S) (H : Heap) : Prop :=
  H.size = st.2 ∧ a0 ≤ st.2 ∧ ∀ (a : Nat) (e : ce_E), st.1 a = some e → (a0 ≤ a ∨ ce_0 e) ∧ va_at D cl (a, ce_v ac e) H
theorem wd_up {D : va_G} {cl : List vw_C} {ac : Nat → ClassId} {a0 : Nat} {st : st_S} {H H1 : Heap} {a : Nat} {e : ce_E} (h : wd_ D cl ac a0 st H) (he : va_at D cl (a, ce_v ac e) H1) (hz : H1.size = H.size) (oq : ∀ q : Nat, q ≠ a → H1[q]? = H[q]?) (ha : a0 ≤ a) : wd_ D cl ac a0 (st_up st a e) H1 := by
  obtain ⟨h1, h2, h3⟩ := h
  refine ⟨hz.trans h1, h2, fun b x hb => ?_⟩
  by_cases hba : b = a
  · subst hba
    simp only [st_up, if_pos] at hb
    cases hb
    exact ⟨Or.inl ha, he⟩
  · simp only [st_up, if_neg hba] at hb
    exact ⟨(h3 b x hb).1, (h3 b x hb).2.kept (oq b hba)⟩
theorem wd_ad {D : va_G} {cl : List vw_C} {ac : Nat → ClassId} {a0 : Nat} {st : st_S} {H H1 : Heap} {e : ce_E} (h : wd_ D cl ac a0 st H) (he : va_at D cl (st.2, ce_v ac e) H1) (hz : H1.size = st.2 + 1) (oq : ∀ q : Nat, q < st.2 → H1[q]? = H[q]?) : wd_ D cl ac a0 (st_ad st e) H1 := by
  obtain ⟨h1, h2, h3⟩ := h
  refine ⟨hz, Nat.le_succ_of_le h2, fun b x hb => ?_⟩
  by_cases hba : b = st.2
  · subst hba
    simp only [st_ad, if_pos] at hb
    cases hb
    exact ⟨Or.inl h2, he⟩
  · simp only [st_ad, if_neg hba] at hb
    have hlt : b < st.2 := by rw [← h1]; exact (h3 b x hb).2.lt
    exact ⟨(h3 b x hb).1, (h3 b x hb).2.kept (oq b hlt)⟩
/-- and since H0 nothing below a0 has changed -/
def ww_ (D : va_G) (cl : List vw_C) (ac : Nat → ClassId) (a0 : Nat) (st : st_S) (H0 H : Heap) (locs : List Loc) : Prop :=
  wd_ D cl ac a0 st H ∧ va_S (fun q => a0 ≤ q) H0 H locs ∧ a0 ≤ H0.size
/-- what a walk knows of its method and of the tables -/
def cx_ (p : Program) (s : State) (m : MethodId) (args : Array Value) (c : Code) (cc : ByteArray) (nL : Nat) (own : String) (tb : List Cond) (D : va_G) (cl : List vw_C) (tys : List (ClassId × FieldType)) : Prop :=
  p.tables.exec = Jvm.exec ∧ c.code = cc ∧ c.maxLocals = nL ∧ s.vm.findClass own = some m.cls ∧ (∀ w ∈ tb, w.before args s = true) ∧ va_K D cl tys s
/-- a class of the list: its fields' words, types and names -/
def cf_ (cl : List vw_C) (tb : List Cond) (ci : Nat) (C : String) (T : u_T) (N : Nat) (ty : Nat → FieldType) : Prop :=
  cl[ci]? = some (C, T, N) ∧ (∀ w ∈ u_ws C T N, w ∈ tb) ∧ (∀ k, k < N → parseFieldDescriptor (T k).2.2.1 = some (ty k)) ∧ ∀ a, a < N → ∀ b, b < N → a ≠ b → (T a).2.1 ≠ (T b).2.1
/-- field k of each of the classes cis -/
def ff_ (cl : List vw_C) (tb : List Cond) (cis : List Nat) (k : Nat) (dcl nm ds : String) (fin : Bool) : Prop :=
  ∀ ci ∈ cis, ∃ (C : String) (T : u_T) (N : Nat) (ty : Nat → FieldType), cf_ cl tb ci C T N ty ∧ k < N ∧ T k = (dcl, nm, ds, fin)
theorem ff_1 {cl : List vw_C} {tb : List Cond} {ci k N : Nat} {dcl nm ds C : String} {fin : Bool} {T : u_T} {ty : Nat → FieldType} (h : cf_ cl tb ci C T N ty) (hk : k < N) (hT : T k = (dcl, nm, ds, fin)) : ff_ cl tb [ci] k dcl nm ds fin := by
  intro cj hj
  rw [List.mem_singleton.mp hj]
  exact ⟨C, T, N, ty, h, hk, hT⟩
theorem ff_c {cl : List vw_C} {tb : List Cond} {ci k N : Nat} {cis : List Nat} {dcl nm ds C : String} {fin : Bool} {T : u_T} {ty : Nat → FieldType} (h : cf_ cl tb ci C T N ty) (hk : k < N) (hT : T k = (dcl, nm, ds, fin)) (h2 : ff_ cl tb cis k dcl nm ds fin) : ff_ cl tb (ci :: cis) k dcl nm ds fin := by
  intro cj hj
  rcases List.mem_cons.mp hj with rfl | hj
  · exact ⟨C, T, N, ty, h, hk, hT⟩
  · exact h2 cj hj
theorem va_P1 {D : va_G} {cl : List vw_C} {x : Nat × va_E} {H : Heap} (h : va_at D cl x H) : va_P D cl [x] H := by
  intro i q hi
  have hz : i < 1 := (List.getElem?_eq_some_iff.mp hi).1
  rw [show i = 0 by omega] at hi
  cases hi
  exact h
section RRA
variable {p : Program} {l : Launch} {e : Env} {R : Room} {s : State} {m : MethodId} {args : Array Value} {below : List Frame} {meth : Method} {c : Code} {H : Heap} {locs : List Loc} {cells slots : Nat} {Q : State → Prop}
variable {cc : ByteArray} {pc nL : Nat} {ls : Array Slot} {rest : List Value} {D : va_G} {cl : List vw_C} {ac : Nat → ClassId} {tys : List (ClassId × FieldType)} {a0 : Nat} {H0 : Heap} {st st' : st_S} {own : String} {tb : List Cond}
theorem rr_get {cis : List Nat} {k index : Nat} {dcl nm ds ref : String} {fin : Bool} {v : Value} {r : Option Nat} (X : cx_ p s m args c cc nL own tb D cl tys) (hw : ww_ D cl ac a0 st H0 H locs) (hf : ff_ cl tb cis k dcl nm ds fin) (hv : so_g st r cis k = some v)
    (hlink : Cond.fieldLink own index ref nm ds ∈ tb) (hsame : ref = dcl ∨ Cond.sameField ref dcl nm ds ∈ tb) (hdg : decode cc pc = .ok (.getfield index, 3))
    (kk : W p l e R s m args below meth c H locs cells slots Q (F0 m (pc + 3) ls (v :: rest))) : W p l e R s m args below meth c H locs cells slots Q (F0 m pc ls (va_rf r :: rest)) := by
  obtain ⟨a, ci, fs, rfl, ha, hc, hk⟩ := so_g_some hv
  obtain ⟨C, T, N, ty, ⟨h1, h2, -, -⟩, hkN, hT⟩ := hf ci hc
  obtain ⟨x1, x2, x3, x4, x5, x6⟩ := X
  have hP : va_P D cl [(a, .inr (ci, fs))] H := va_P1 (hw.1.2.2 a _ ha).2
  have hl : (Cond.fieldLink own index ref (T k).2.1 (T k).2.2.1).before args s = true := by rw [hT]; exact x5 _ hlink
  have hs : ∀ x, s.fieldFound? (T k).1 (T k).2.1 (T k).2.2.1 = some x → s.fieldFound? ref (T k).2.1 (T k).2.2.1 = some x := by
    rw [hT]
    intro x hx
    rcases hsame with rfl | h
    · exact hx
    · exact u_same (x5 _ h) x hx
  exact va_get (D := D) (ci := ci) (v := v) (C := C) (T := T) (N := N) x1 x2 x5 h2 x4 x6 hP 0 rfl h1 k hkN hl hs hk hdg kk
theorem rr_geti {cis : List Nat} {k index : Nat} {dcl nm ds ref : String} {fin : Bool} {v : Int32} {r : Option Nat} (X : cx_ p s m args c cc nL own tb D cl tys) (hw : ww_ D cl ac a0 st H0 H locs) (hf : ff_ cl tb cis k dcl nm ds fin) (hv : so_gi r cis k st = some v)
    (hlink : Cond.fieldLink own index ref nm ds ∈ tb) (hsame : ref = dcl ∨ Cond.sameField ref dcl nm ds ∈ tb) (hdg : decode cc pc = .ok (.getfield index, 3))
    (kk : W p l e R s m args below meth c H locs cells slots Q (F0 m (pc + 3) ls (.int v :: rest))) : W p l e R s m args below meth c H locs cells slots Q (F0 m pc ls (va_rf r :: rest)) :=
  rr_get X hw hf (so_gi_some hv) hlink hsame hdg kk
theorem rr_getq {cis : List Nat} {k index : Nat} {dcl nm ds ref : String} {fin : Bool} {v : Option Nat} {r : Option Nat} (X : cx_ p s m args c cc nL own tb D cl tys) (hw : ww_ D cl ac a0 st H0 H locs) (hf : ff_ cl tb cis k dcl nm ds fin) (hv : so_gq r cis k st = some v)
    (hlink : Cond.fieldLink own index ref nm ds ∈ tb) (hsame : ref = dcl ∨ Cond.sameField ref dcl nm ds ∈ tb) (hdg : decode cc pc = .ok (.getfield index, 3))
    (kk : W p l e R s m args below meth c H locs cells slots Q (F0 m (pc + 3) ls (va_rf v :: rest))) : W p l e R s m args below meth c H locs cells slots Q (F0 m pc ls (va_rf r :: rest)) :=
  rr_get X hw hf (so_gq_some hv) hlink hsame hdg kk
theorem rr_put {cis : List Nat} {k index : Nat} {dcl nm ds ref : String} {v : Value} {ty : FieldType} {r : Option Nat} (X : cx_ p s m args c cc nL own tb D cl tys) (hw : ww_ D cl ac a0 st H0 H locs) (hf : ff_ cl tb cis k dcl nm ds false) (hv : so_p r cis k v st = some st')
    (hlink : Cond.fieldLink own index ref nm ds ∈ tb) (hsame : ref = dcl ∨ Cond.sameField ref dcl nm ds ∈ tb) (hd : parseFieldDescriptor ds = some ty) (hn : narrow ty v = v) (hfit : fits ty v = true) (hdg : decode cc pc = .ok (.putfield index, 3))
    (kk : ∀ (H1 : Heap) (locs1 : List Loc), ww_ D cl ac a0 st' H0 H1 locs1 → W p l e R s m args below meth c H1 locs1 cells slots Q (F0 m (pc + 3) ls rest)) : W p l e R s m args below meth c H locs cells slots Q (F0 m pc ls (v :: va_rf r :: rest)) := by
  obtain ⟨a, ci, fs, rfl, ha, hc, hl, rfl⟩ := so_p_some hv
  obtain ⟨C, T, N, ty0, ⟨g1, g2, g3, g4⟩, hkN, hT⟩ := hf ci hc
  obtain ⟨x1, x2, x3, x4, x5, x6⟩ := X
  have hap := va_apart (own := own) x5 g2 ty0 g3 g4 x6 g1
  have hat := hw.1.2.2 a _ ha
  have ha0 : a0 ≤ a := hat.1.elim id (fun ⟨_, _, z⟩ => by cases z)
  obtain ⟨r, h1, cell, q1, q2, q3, q4⟩ : va_at D cl (a, .inr (ci, fs)) H := hat.2
  have hr : r = (C, T, N) := Option.some.inj (h1.symm.trans g1)
  subst hr
  obtain ⟨hS, hfc, kC, hkC, hkind⟩ := x6.1 ci _ g1
  obtain ⟨cf, kf, fi, f, hi, hsl⟩ := hS k hkN
  have hi : s.fieldFound? (T k).1 (T k).2.1 (T k).2.2.1 = some (cf, kf, fi, f) := hi
  have hlay := x5 _ (g2 _ (u_in_lay hkN))
  unfold u_lay at hlay
  rw [if_neg (by rw [hT]; simp)] at hlay
  have hst := (u_facts hfc hkC (u_lays x5 g2 hkN) hi).1
  have h6 := u_store hfc hkC hkind hlay hi (by rw [hT]; exact hd) hn hfit
  have hi2 : s.fieldFound? ref nm ds = some (cf, kf, fi, f) := by
    have hi3 : s.fieldFound? dcl nm ds = some (cf, kf, fi, f) := by have := hi; rw [hT] at this; exact this
    rcases hsame with rfl | h
    · exact hi3
    · exact u_same (x5 _ h) _ hi3
  refine W.putK x1 x2 (f := f) (own := own) (ref := ref) (name := nm) (desc := ds) (index := index) ⟨x4, x5 _ hlink, ⟨_, _, _, hi2⟩, hst⟩ (by rw [q2]; exact h6) q1 q3 (by rw [hsl]; exact k2_hasslot (q4 k hkN)) rfl rfl hdg fun H' e1 e2 e3 => ?_
  rw [hsl] at e1
  exact kk H' _ ⟨wd_up hw.1 ⟨_, g1, t_OB.to (V := updV (vp_V fs) k v) ⟨_, e1, q2, q3, t_set q4 hap hkN v⟩ (fun j _ => vp_updV_set hl v j)⟩ e2 e3 ha0, va_S.put hw.2.1 e2 e3 ha0, hw.2.2⟩
/-- a final field, in its class's constructor -/
theorem rr_putF {cis : List Nat} {k index : Nat} {nm ds : String} {v : Value} {ty : FieldType} {r : Option Nat} (X : cx_ p s m args c cc nL own tb D cl tys) (hw : ww_ D cl ac a0 st H0 H locs) (hf : ff_ cl tb cis k own nm ds true) (hv : so_p r cis k v st = some st')
    (hlink : Cond.fieldLink own index own nm ds ∈ tb) (hin : meth.name = "<init>") (hd : parseFieldDescriptor ds = some ty) (hn : narrow ty v = v) (hfit : fits ty v = true) (hdg : decode cc pc = .ok (.putfield index, 3))
    (kk : ∀ (H1 : Heap) (locs1 : List Loc), ww_ D cl ac a0 st' H0 H1 locs1 → W p l e R s m args below meth c H1 locs1 cells slots Q (F0 m (pc + 3) ls rest)) : W p l e R s m args below meth c H locs cells slots Q (F0 m pc ls (v :: va_rf r :: rest)) := by
  obtain ⟨a, ci, fs, rfl, ha, hc, hl, rfl⟩ := so_p_some hv
  obtain ⟨C, T, N, ty0, ⟨g1, g2, g3, g4⟩, hkN, hT⟩ := hf ci hc
  obtain ⟨x1, x2, x3, x4, x5, x6⟩ := X
  have hap := va_apart (own := own) x5 g2 ty0 g3 g4 x6 g1
  have hat := hw.1.2.2 a _ ha
  have ha0 : a0 ≤ a := hat.1.elim id (fun ⟨_, _, z⟩ => by cases z)
  obtain ⟨r, h1, cell, q1, q2, q3, q4⟩ : va_at D cl (a, .inr (ci, fs)) H := hat.2
  have hr : r = (C, T, N) := Option.some.inj (h1.symm.trans g1)
  subst hr
  obtain ⟨hS, hfc, kC, hkC, hkind⟩ := x6.1 ci _ g1
  obtain ⟨cf, kf, fi, f, hi, hsl⟩ := hS k hkN
  have hi : s.fieldFound? (T k).1 (T k).2.1 (T k).2.2.1 = some (cf, kf, fi, f) := hi
  have hlay := x5 _ (g2 _ (u_in_lay hkN))
  unfold u_lay at hlay
  rw [if_pos (by rw [hT])] at hlay
  have hst := (u_facts hfc hkC (u_lays x5 g2 hkN) hi).1
  have hcf : m.cls = cf := by
    obtain ⟨_, _, c', _, _, _, -, -, hf', -, -, -, hown2, -⟩ := Cond.laysFinal_spec hlay
    have e1 : c' = cf := by have := hi.symm.trans hf'; simp at this; exact this.1.symm
    rw [hT] at hown2
    rw [← e1]
    exact Option.some.inj (x4.symm.trans hown2)
  have h6 := u_fits hfc hkC hkind (Or.inr hlay) hi (by rw [hT]; exact hd) hn hfit
  have hi2 : s.fieldFound? own nm ds = some (cf, kf, fi, f) := by have := hi; rw [hT] at this; exact this
  refine W.putFinK x1 x2 (own := own) (ref := own) (name := nm) (desc := ds) (index := index) x4 (x5 _ hlink) hi2 hst hcf hin (by rw [q2]; exact h6) q1 q3 (by rw [hsl]; exact k2_hasslot (q4 k hkN)) rfl rfl hdg fun H' e1 e2 e3 => ?_
  rw [hsl] at e1
  exact kk H' _ ⟨wd_up hw.1 ⟨_, g1, t_OB.to (V := updV (vp_V fs) k v) ⟨_, e1, q2, q3, t_set q4 hap hkN v⟩ (fun j _ => vp_updV_set hl v j)⟩ e2 e3 ha0, va_S.put hw.2.1 e2 e3 ha0, hw.2.2⟩
theorem rr_iald {t : Nat} {r : Option Nat} {x y : Int32} (X : cx_ p s m args c cc nL own tb D cl tys) (hw : ww_ D cl ac a0 st H0 H locs) (ht : tys[t]? = some (ac t, .int)) (hv : so_li r t x st = some y) (hdg : decode cc pc = .ok (.iaload, 1))
    (kk : W p l e R s m args below meth c H locs cells slots Q (F0 m (pc + 1) ls (.int y :: rest))) : W p l e R s m args below meth c H locs cells slots Q (F0 m pc ls (.int x :: va_rf r :: rest)) := by
  obtain ⟨a, n, f, rfl, ha, hin, rfl⟩ := so_li_some hv
  have hP : va_P D cl [(a, .inl (ac t, n, .inl f))] H := va_P1 (hw.1.2.2 a _ ha).2
  exact va_iald X.1 X.2.1 X.2.2.2.2.2 hP 0 t rfl ht hin hdg kk
theorem rr_iast {t : Nat} {r : Option Nat} {x y : Int32} (X : cx_ p s m args c cc nL own tb D cl tys) (hw : ww_ D cl ac a0 st H0 H locs) (ht : tys[t]? = some (ac t, .int)) (hv : so_si r t x y st = some st') (hdg : decode cc pc = .ok (.iastore, 1))
    (kk : ∀ (H1 : Heap) (locs1 : List Loc), ww_ D cl ac a0 st' H0 H1 locs1 → W p l e R s m args below meth c H1 locs1 cells slots Q (F0 m (pc + 1) ls rest)) : W p l e R s m args below meth c H locs cells slots Q (F0 m pc ls (.int y :: .int x :: va_rf r :: rest)) := by
  obtain ⟨a, n, f, rfl, ha, hin, rfl⟩ := so_si_some hv
  have hat := hw.1.2.2 a _ ha
  have ha0 : a0 ≤ a := hat.1.elim id (fun ⟨_, _, z⟩ => by cases z)
  have hc : H[a]? = some (vp_cell (ac t) (n, .inl f)) := hat.2
  refine W.iast X.1 X.2.1 hc ((X.2.2.2.2.2.2 t _ ht).1 n (fun j => .int (f j))) (fun q => by cases q) (by show ¬ (x < 0 ∨ (arrV _ _ _).slots.size ≤ _); rw [arrV_size]; exact hin) rfl rfl hdg fun H1 e1 z oq => ?_
  refine kk H1 _ ⟨wd_up hw.1 ?_ z oq ha0, va_S.put hw.2.1 z oq ha0, hw.2.2⟩
  show H1[a]? = some (vp_cell _ _)
  rw [e1, vp_cell_i, vp_cell_i, arrV_store]
  congr 2
  funext q
  by_cases hq : q = x.toNatClampNeg
  · subst hq
    simp [updV, upd]
  · simp [updV, upd, hq]
theorem rr_aald {ts : List Nat} {r y : Option Nat} {x : Int32} (X : cx_ p s m args c cc nL own tb D cl tys) (hw : ww_ D cl ac a0 st H0 H locs) (ht : ∀ t ∈ ts, ∃ E : String, tys[t]? = some (ac t, .object E)) (hv : so_lq r ts x st = some y) (hdg : decode cc pc = .ok (.aaload, 1))
    (kk : W p l e R s m args below meth c H locs cells slots Q (F0 m (pc + 1) ls (va_rf y :: rest))) : W p l e R s m args below meth c H locs cells slots Q (F0 m pc ls (.int x :: va_rf r :: rest)) := by
  obtain ⟨a, t, n, f, rfl, ha, hm, hin, rfl⟩ := so_lq_some hv
  obtain ⟨E, hE⟩ := ht t hm
  have hP : va_P D cl [(a, .inl (ac t, n, .inr (.inr (.inr (.inr f)))))] H := va_P1 (hw.1.2.2 a _ ha).2
  exact va_aldq X.1 X.2.1 X.2.2.2.2.2 hP 0 t rfl hE hin hdg kk
theorem rr_aast {ts cis : List Nat} {r y : Option Nat} {x : Int32} (X : cx_ p s m args c cc nL own tb D cl tys) (hw : ww_ D cl ac a0 st H0 H locs)
    (ht : ∀ t ∈ ts, ∃ E : String, tys[t]? = some (ac t, .object E) ∧ ∀ ci ∈ cis, ∃ q : vw_C, cl[ci]? = some q ∧ ∀ comp c0 : ClassId, s.vm.findClass E = some comp → s.vm.findClass q.1 = some c0 → s.vm.assignable c0 comp = true)
    (hv : so_sq r ts cis x y st = some st') (hdg : decode cc pc = .ok (.aastore, 1))
    (kk : ∀ (H1 : Heap) (locs1 : List Loc), ww_ D cl ac a0 st' H0 H1 locs1 → W p l e R s m args below meth c H1 locs1 cells slots Q (F0 m (pc + 1) ls rest)) : W p l e R s m args below meth c H locs cells slots Q (F0 m pc ls (va_rf y :: .int x :: va_rf r :: rest)) := by
  obtain ⟨a, t, n, f, rfl, ha, hm, hin, his, rfl⟩ := so_sq_some hv
  obtain ⟨E, hE, hasg⟩ := ht t hm
  have hlt : x.toNatClampNeg < n := Nat.not_le.mp fun q => hin (Or.inr q)
  have h0 : ¬ x < 0 := fun q => hin (Or.inl q)
  have hat := hw.1.2.2 a _ ha
  have ha0 : a0 ≤ a := hat.1.elim id (fun ⟨_, _, z⟩ => by cases z; exact absurd hlt (Nat.not_lt_zero _))
  have hc : H[a]? = some (vp_cell (ac t) (n, .inr (.inr (.inr (.inr f))))) := hat.2
  have hK := X.2.2.2.2.2
  have fin : ∀ (H1 : Heap), H1[a]? = some ((vp_cell (ac t) (n, .inr (.inr (.inr (.inr f))))).setSlot x.toNatClampNeg (va_rf y)) → va_at D cl (a, ce_v ac (.inr (.inl (t, n, va_up f x.toNatClampNeg y)))) H1 := by
    intro H1 e1
    show H1[a]? = some (vp_cell _ _)
    rw [e1, vp_cell_q, vp_cell_q, arrV_store]
    congr 2
    funext q
    by_cases hq : q = x.toNatClampNeg
    · subst hq
      simp [updV, va_up]
    · simp [updV, va_up, hq]
  cases y with
  | none =>
    refine va_WaastN (C := E) X.1 X.2.1 hc ((hK.2 t _ hE).1 n (fun j => va_rf (f j))) (fun h => by cases h) (by show ¬ (x < 0 ∨ (arrV _ _ _).slots.size ≤ _); rw [arrV_size]; exact hin) rfl rfl hdg fun H1 e1 z oq => ?_
    exact kk H1 _ ⟨wd_up hw.1 (fin H1 e1) z oq ha0, va_S.put hw.2.1 z oq ha0, hw.2.2⟩
  | some b =>
    obtain ⟨ci, fs, hb, hci⟩ := so_is_some his
    obtain ⟨q, hq, hg⟩ := hasg ci hci
    obtain ⟨q', hq', cellV, g1, g2, g3, -⟩ : va_at D cl (b, .inr (ci, fs)) H := (hw.1.2.2 b _ hb).2
    have hcls := (hK.1 ci q hq).2
    obtain ⟨kA, comp, k1, k2, k3, -⟩ := (hK.2 t _ hE).2
    obtain ⟨kE, hkE, -⟩ := Vm.findClass_spec k3
    obtain ⟨kC, hkC, -⟩ := hcls.2
    refine W.aast X.1 X.2.1 hc (fun q h => by cases h) (fun h => by cases h) k1 k2 rfl hkE ⟨h0, by show _ < (arrV _ _ _).slots.size; rw [arrV_size]; exact hlt⟩ g1 (fun q h => by rw [g3] at h; cases h) (by rw [g2]; exact hkC) (by rw [g2]; exact hg _ _ k3 hcls.1) rfl rfl hdg fun H1 e1 z oq => ?_
    exact kk H1 _ ⟨wd_up hw.1 (fin H1 e1) z oq ha0, va_S.put hw.2.1 z oq ha0, hw.2.2⟩
theorem rr_alen {ts : List Nat} {r : Option Nat} {x : Int32} (X : cx_ p s m args c cc nL own tb D cl tys) (hw : ww_ D cl ac a0 st H0 H locs) (ht : ∀ t ∈ ts, ∃ E : FieldType, tys[t]? = some (ac t, E)) (hv : so_n r ts st = some x) (hdg : decode cc pc = .ok (.arraylength, 1))
    (kk : W p l e R s m args below meth c H locs cells slots Q (F0 m (pc + 1) ls (.int x :: rest))) : W p l e R s m args below meth c H locs cells slots Q (F0 m pc ls (va_rf r :: rest)) := by
  unfold so_n at hv
  split at hv
  · cases hv
  · rename_i a
    split at hv
    · rename_i o ho
      obtain ⟨t, n, f⟩ := o
      split at hv
      · rename_i hm
        obtain ⟨E, hE⟩ := ht t hm
        have hP : va_P D cl [(a, .inl (ac t, n, .inl f))] H := va_P1 (hw.1.2.2 a _ ho).2
        exact va_alen X.1 X.2.1 X.2.2.2.2.2 hP 0 t rfl hE (Option.some.inj hv) hdg kk
      · cases hv
    · rename_i o ho
      obtain ⟨t, n, f⟩ := o
      split at hv
      · rename_i hm
        obtain ⟨E, hE⟩ := ht t hm
        have hP : va_P D cl [(a, .inl (ac t, n, .inr (.inr (.inr (.inr f)))))] H := va_P1 (hw.1.2.2 a _ ho).2
        exact va_alen X.1 X.2.1 X.2.2.2.2.2 hP 0 t rfl hE (Option.some.inj hv) hdg kk
      · cases hv
    · cases hv
theorem rr_new {ci index N : Nat} {C : String} {T : u_T} {ty : Nat → FieldType} {fs : List Value} (X : cx_ p s m args c cc nL own tb D cl tys) (hw : ww_ D cl ac a0 st H0 H locs) (hf : cf_ cl tb ci C T N ty) (hfs : ∀ j, j < N → defaultValue (ty j) = vp_V fs j)
    (hcl : Cond.classLink own index C ∈ tb) (hinst : Cond.instantiable C N ∈ tb) (hini : Cond.initialized C ∈ tb) (hr : cells + 1 ≤ R.cells ∧ slots + N ≤ R.slots) (hdg : decode cc pc = .ok (.new index, 3))
    (kk : ∀ H1 : Heap, ww_ D cl ac a0 (st_ad st (.inr (.inr (ci, fs)))) H0 H1 locs → W p l e R s m args below meth c H1 locs (cells + 1) (slots + N) Q (F0 m (pc + 3) ls (va_rf (some st.2) :: rest))) : W p l e R s m args below meth c H locs cells slots Q (F0 m pc ls rest) := by
  obtain ⟨g1, g2, g3, g4⟩ := hf
  obtain ⟨x1, x2, x3, x4, x5, x6⟩ := X
  have hKn := x6.1 ci _ g1
  refine W.newcK x1 x2 x4 (x5 _ hcl) (x5 _ hinst) (x5 _ hini) rfl hdg hr.1 hr.2 hKn.2.1 hw.1.1 fun H1 kC hkC e1 z1 o1 => ?_
  refine kk H1 ⟨wd_ad hw.1 ⟨_, g1, (u_born ty x5 g2 hKn hkC e1 g3).to hfs⟩ z1 o1, ⟨?_, ?_, hw.2.1.2.2⟩, hw.2.2⟩
  · have h1 := hw.2.1.1
    have h2 := hw.1.1
    omega
  · intro q h1 h2
    have h3 := hw.2.1.1
    have h4 := hw.1.1
    exact (o1 q (by omega)).trans (hw.2.1.2.1 q h1 h2)
theorem rr_newi {t N : Nat} {x : Int32} (X : cx_ p s m args c cc nL own tb D cl tys) (hw : ww_ D cl ac a0 st H0 H locs) (ht : tys[t]? = some (ac t, .int)) (hn : ¬ x < 0) (hN : x.toNatClampNeg = N) (hbytes : N * 4 ≤ 536870912)
    (harr : Cond.arrayClass .int ∈ tb) (hr : cells + 1 ≤ R.cells ∧ slots + N ≤ R.slots) (hdg : decode cc pc = .ok (.newarray .int, 2))
    (kk : ∀ H1 : Heap, ww_ D cl ac a0 (st_ad st (.inl (t, N, fun _ => 0))) H0 H1 locs → W p l e R s m args below meth c H1 locs (cells + 1) (slots + N) Q (F0 m (pc + 2) ls (va_rf (some st.2) :: rest))) : W p l e R s m args below meth c H locs cells slots Q (F0 m pc ls (.int x :: rest)) := by
  obtain ⟨x1, x2, x3, x4, x5, x6⟩ := X
  refine va_newaK (atype := .int) x1 x2 (x5 _ harr) rfl hdg rfl hn hN hbytes hr.1 hr.2 hw.1.1 fun H1 cA e1 z1 o1 hAr hNm => ?_
  have hNm2 : s.vm.findClass ("[" ++ FieldType.int.toString) = some (ac t) := (x6.2 t _ ht).2
  have hcA : cA = ac t := Option.some.inj (hNm.symm.trans hNm2)
  subst hcA
  refine kk H1 ⟨wd_ad hw.1 ?_ z1 o1, ⟨?_, ?_, hw.2.1.2.2⟩, hw.2.2⟩
  · exact e1
  · have h1 := hw.2.1.1
    have h2 := hw.1.1
    omega
  · intro q h1 h2
    have h3 := hw.2.1.1
    have h4 := hw.1.1
    exact (o1 q (by omega)).trans (hw.2.1.2.1 q h1 h2)
theorem rr_newq {t N index : Nat} {E : String} {x : Int32} (X : cx_ p s m args c cc nL own tb D cl tys) (hw : ww_ D cl ac a0 st H0 H locs) (ht : tys[t]? = some (ac t, .object E)) (hn : ¬ x < 0) (hN : x.toNatClampNeg = N) (hbytes : N * 4 ≤ 536870912)
    (hcl : Cond.classLink own index E ∈ tb) (hover : va_AO E s) (hr : cells + 1 ≤ R.cells ∧ slots + N ≤ R.slots) (hdg : decode cc pc = .ok (.anewarray index, 3))
    (kk : ∀ H1 : Heap, ww_ D cl ac a0 (st_ad st (.inr (.inl (t, N, fun _ => none)))) H0 H1 locs → W p l e R s m args below meth c H1 locs (cells + 1) (slots + N) Q (F0 m (pc + 3) ls (va_rf (some st.2) :: rest))) : W p l e R s m args below meth c H locs cells slots Q (F0 m pc ls (.int x :: rest)) := by
  obtain ⟨x1, x2, x3, x4, x5, x6⟩ := X
  subst hN
  refine W.anew x1 x2 x4 (x5 _ hcl) (va_AO.use hover) rfl hdg rfl hn hbytes hr.1 hr.2 fun cA kA comp f1 f2 f3 f4 => ?_
  obtain ⟨kA2, comp2, r1, r2, r3, r4⟩ := (x6.2 t _ ht).2
  have hcA : cA = ac t := Option.some.inj (f1.symm.trans r4)
  subst hcA
  have hz := hw.1.1
  have h1 := hw.2.1.1
  generalize hH1 : H.push ({ cls := ac t, slots := Array.replicate x.toNatClampNeg .null, vm := .none } : Cell) = H1
  have z1 : H1.size = st.2 + 1 := by rw [← hH1, Array.size_push, hz]
  have e1 : H1[st.2]? = some (arrV (ac t) x.toNatClampNeg (fun _ => .null)) := by rw [← hH1, ← hz, Array.getElem?_push_size, ← arrV_new]
  have o1 : ∀ q : Nat, q < st.2 → H1[q]? = H[q]? := fun q hq => by rw [← hH1, Array.getElem?_push, if_neg (by omega)]
  rw [hz]
  refine kk H1 ⟨wd_ad hw.1 ?_ z1 o1, ⟨by omega, ?_, hw.2.1.2.2⟩, hw.2.2⟩
  · exact e1
  · intro q h2 h3
    exact (o1 q (by omega)).trans (hw.2.1.2.1 q h2 h3)
end RRA
end
section
/-! Locals whose values all take one place; contracts over stores; calls. -/
theorem rf_cat (r : Option Nat) : (va_rf r).category = 1 := by cases r <;> rfl
def lh_ (ls : Array Slot) (nL : Nat) (lv : List (Nat × Value)) : Prop := lv_has ls nL lv ∧ ∀ q ∈ lv, q.2.category = 1
def la_ : Nat → List Value → List (Nat × Value)
  | _, [] => []
  | i, v :: vs => (i, v) :: la_ (i + 1) vs
theorem la_eq : ∀ (vs : List Value) (i : Nat), (∀ v ∈ vs, v.category = 1) → lv_args i vs = la_ i vs
  | [], _, _ => rfl
  | v :: vs, i, h => by
    have h1 : v.category = 1 := h v List.mem_cons_self
    have h2 : ¬ v.category = 2 := by omega
    unfold lv_args la_
    rw [if_neg h2, la_eq vs (i + 1) (fun w hw => h w (List.mem_cons_of_mem _ hw))]
theorem la_cat : ∀ (vs : List Value) (i : Nat), (∀ v ∈ vs, v.category = 1) → ∀ q ∈ la_ i vs, q.2.category = 1
  | [], _, _, q, hq => by cases hq
  | v :: vs, i, h, q, hq => by
    rcases List.mem_cons.mp hq with rfl | hq
    · exact h v List.mem_cons_self
    · exact la_cat vs (i + 1) (fun w hw => h w (List.mem_cons_of_mem _ hw)) q hq
theorem la_len : ∀ (vs : List Value), (∀ v ∈ vs, v.category = 1) → (lg_sl vs).length = vs.length
  | [], _ => rfl
  | v :: vs, h => by
    have h1 : v.category = 1 := h v List.mem_cons_self
    have h2 : ¬ v.category = 2 := by omega
    have h3 := la_len vs (fun w hw => h w (List.mem_cons_of_mem _ hw))
    unfold lg_sl at h3 ⊢
    rw [List.flatMap_cons, if_neg h2, List.length_append, h3]
    simp
    omega
theorem lh_fil {lv : List (Nat × Value)} {i : Nat} (h : ∀ q ∈ lv, q.2.category = 1) : lv.filter (fun q => !(q.1 == i) && !(q.1 + 1 == i && q.2.category == 2)) = lv.filter (fun q => !(q.1 == i)) := by
  refine List.filter_congr fun q hq => ?_
  have h1 := h q hq
  have h2 : (q.2.category == 2) = false := by rw [h1]; rfl
  rw [h2]
  simp
theorem lh_st {ls ls' : Array Slot} {nL i : Nat} {v : Value} {lv lv' : List (Nat × Value)} (h : lh_ ls nL lv) (hv : v.category = 1) (h' : lv_has ls' nL ((i, v) :: lv.filter (fun q => !(q.1 == i) && !(q.1 + 1 == i && q.2.category == 2)))) (hl : (i, v) :: lv.filter (fun q => !(q.1 == i)) = lv') : lh_ ls' nL lv' := by
  rw [lh_fil h.2] at h'
  subst hl
  refine ⟨h', fun q hq => ?_⟩
  rcases List.mem_cons.mp hq with rfl | hq
  · exact hv
  · exact h.2 q (List.mem_filter.mp hq).1
/-- fewer listed values, in any order: by their places -/
theorem lh_pk {ls : Array Slot} {nL : Nat} {lv lv' : List (Nat × Value)} (h : lh_ ls nL lv) (ks : List Nat) (hl : lv_pick lv ks = lv') : lh_ ls nL lv' := by
  refine ⟨lv_sub h.1 ks hl, fun q hq => ?_⟩
  rw [← hl] at hq
  obtain ⟨k, -, hk⟩ := List.mem_filterMap.mp hq
  exact h.2 q (List.mem_of_getElem? hk)
section RRB
variable {p : Program} {l : Launch} {e : Env} {R : Room} {s : State} {m : MethodId} {args : Array Value} {below : List Frame} {meth : Method} {c : Code} {H : Heap} {locs : List Loc} {cells slots : Nat} {Q : State → Prop}
variable {cc : ByteArray} {pc nL : Nat} {ls : Array Slot} {rest : List Value} {D : va_G} {cl : List vw_C} {ac : Nat → ClassId} {tys : List (ClassId × FieldType)} {a0 : Nat} {H0 : Heap} {st st' : st_S} {own : String} {tb : List Cond}
theorem rr_aldn {k : Fin 4} {i : Nat} {r : Option Nat} (X : cx_ p s m args c cc nL own tb D cl tys) (hdg : decode cc pc = .ok (.aload_n k, 1)) (hi : (k : Nat) = i) (hl : ls[i]? = some (.val (va_rf r)))
    (kk : W p l e R s m args below meth c H locs cells slots Q (F0 m (pc + 1) ls (va_rf r :: rest))) : W p l e R s m args below meth c H locs cells slots Q (F0 m pc ls rest) := by
  cases r with
  | none => exact lv_aload_nN X.1 X.2.1 hdg hi hl kk
  | some a => exact lv_aload_n X.1 X.2.1 hdg hi hl kk
theorem rr_ald {i : Nat} {r : Option Nat} (X : cx_ p s m args c cc nL own tb D cl tys) (hdg : decode cc pc = .ok (.aload i, 2)) (hl : ls[i]? = some (.val (va_rf r)))
    (kk : W p l e R s m args below meth c H locs cells slots Q (F0 m (pc + 2) ls (va_rf r :: rest))) : W p l e R s m args below meth c H locs cells slots Q (F0 m pc ls rest) := by
  cases r with
  | none => exact lv_aloadN X.1 X.2.1 hdg hl kk
  | some a => exact lv_aload X.1 X.2.1 hdg hl kk
theorem rr_astn {k : Fin 4} {i nL' : Nat} {r : Option Nat} {lv lv' : List (Nat × Value)} (X : cx_ p s m args c cc nL own tb D cl tys) (hdg : decode cc pc = .ok (.astore_n k, 1)) (hi : (k : Nat) = i) (h : lh_ ls nL' lv) (hn : i < nL') (hl : (i, va_rf r) :: lv.filter (fun q => !(q.1 == i)) = lv')
    (kk : ∀ ls' : Array Slot, lh_ ls' nL' lv' → W p l e R s m args below meth c H locs cells slots Q (F0 m (pc + 1) ls' rest)) : W p l e R s m args below meth c H locs cells slots Q (F0 m pc ls (va_rf r :: rest)) := by
  cases r with
  | none => exact lv_astore_nN X.1 X.2.1 hdg hi h.1 hn rfl (fun ls' h' => kk ls' (lh_st h rfl h' hl))
  | some a => exact lv_astore_n X.1 X.2.1 hdg hi h.1 hn rfl (fun ls' h' => kk ls' (lh_st h rfl h' hl))
theorem rr_ast {i nL' : Nat} {r : Option Nat} {lv lv' : List (Nat × Value)} (X : cx_ p s m args c cc nL own tb D cl tys) (hdg : decode cc pc = .ok (.astore i, 2)) (h : lh_ ls nL' lv) (hn : i < nL') (hl : (i, va_rf r) :: lv.filter (fun q => !(q.1 == i)) = lv')
    (kk : ∀ ls' : Array Slot, lh_ ls' nL' lv' → W p l e R s m args below meth c H locs cells slots Q (F0 m (pc + 2) ls' rest)) : W p l e R s m args below meth c H locs cells slots Q (F0 m pc ls (va_rf r :: rest)) := by
  cases r with
  | none => exact lv_astoreN X.1 X.2.1 hdg h.1 hn rfl (fun ls' h' => kk ls' (lh_st h rfl h' hl))
  | some a => exact lv_astore X.1 X.2.1 hdg h.1 hn rfl (fun ls' h' => kk ls' (lh_st h rfl h' hl))
theorem rr_istn {k : Fin 4} {i nL' : Nat} {x : Int32} {lv lv' : List (Nat × Value)} (X : cx_ p s m args c cc nL own tb D cl tys) (hdg : decode cc pc = .ok (.istore_n k, 1)) (hi : (k : Nat) = i) (h : lh_ ls nL' lv) (hn : i < nL') (hl : (i, Value.int x) :: lv.filter (fun q => !(q.1 == i)) = lv')
    (kk : ∀ ls' : Array Slot, lh_ ls' nL' lv' → W p l e R s m args below meth c H locs cells slots Q (F0 m (pc + 1) ls' rest)) : W p l e R s m args below meth c H locs cells slots Q (F0 m pc ls (.int x :: rest)) :=
  lv_istore_n X.1 X.2.1 hdg hi h.1 hn rfl (fun ls' h' => kk ls' (lh_st h rfl h' hl))
theorem rr_ist {i nL' : Nat} {x : Int32} {lv lv' : List (Nat × Value)} (X : cx_ p s m args c cc nL own tb D cl tys) (hdg : decode cc pc = .ok (.istore i, 2)) (h : lh_ ls nL' lv) (hn : i < nL') (hl : (i, Value.int x) :: lv.filter (fun q => !(q.1 == i)) = lv')
    (kk : ∀ ls' : Array Slot, lh_ ls' nL' lv' → W p l e R s m args below meth c H locs cells slots Q (F0 m (pc + 2) ls' rest)) : W p l e R s m args below meth c H locs cells slots Q (F0 m pc ls (.int x :: rest)) :=
  lv_istore X.1 X.2.1 hdg h.1 hn rfl (fun ls' h' => kk ls' (lh_st h rfl h' hl))
theorem rr_iinc {i nL' k : Nat} {n : Int} {x v : Int32} {lv lv' : List (Nat × Value)} (X : cx_ p s m args c cc nL own tb D cl tys) (hdg : decode cc pc = .ok (.iinc i n, 3)) (h : lh_ ls nL' lv) (hk : lv[k]? = some (i, .int x)) (hv : x + Int32.ofInt n = v) (hn : i < nL') (hl : (i, Value.int v) :: lv.filter (fun q => !(q.1 == i)) = lv')
    (kk : ∀ ls' : Array Slot, lh_ ls' nL' lv' → W p l e R s m args below meth c H locs cells slots Q (F0 m (pc + 3) ls' rest)) : W p l e R s m args below meth c H locs cells slots Q (F0 m pc ls rest) :=
  lv_iinc X.1 X.2.1 hdg h.1 hk hv hn rfl (fun ls' h' => kk ls' (lh_st h rfl h' hl))
theorem rr_ifnull {r : Option Nat} {off : Int} {tgt : Nat} (X : cx_ p s m args c cc nL own tb D cl tys) (hdg : decode cc pc = .ok (.ifnull off, 3)) (ht : (pc : Int) + off = (tgt : Int))
    (kt : r = none → W p l e R s m args below meth c H locs cells slots Q (F0 m tgt ls rest)) (kf : ¬ r = none → W p l e R s m args below meth c H locs cells slots Q (F0 m (pc + 3) ls rest)) : W p l e R s m args below meth c H locs cells slots Q (F0 m pc ls (va_rf r :: rest)) := by
  cases r with
  | none => exact lv_ifnullN X.1 X.2.1 hdg ht (kt rfl)
  | some a => exact lv_ifnull X.1 X.2.1 hdg (kf (by simp))
theorem rr_ifnonnull {r : Option Nat} {off : Int} {tgt : Nat} (X : cx_ p s m args c cc nL own tb D cl tys) (hdg : decode cc pc = .ok (.ifnonnull off, 3)) (ht : (pc : Int) + off = (tgt : Int))
    (kt : ¬ r = none → W p l e R s m args below meth c H locs cells slots Q (F0 m tgt ls rest)) (kf : r = none → W p l e R s m args below meth c H locs cells slots Q (F0 m (pc + 3) ls rest)) : W p l e R s m args below meth c H locs cells slots Q (F0 m pc ls (va_rf r :: rest)) := by
  cases r with
  | none => exact lv_ifnonnullN X.1 X.2.1 hdg (kf rfl)
  | some a => exact lv_ifnonnull X.1 X.2.1 hdg ht (kt (by simp))
end RRB
/-! contracts -/
def ct_P (D : va_G) (cl : List vw_C) (ac : Nat → ClassId) (a0 : Nat) (K : State → Prop) (av : List Value) (st : st_S) : Array Value → State → Prop := va_Pc av (fun U => wd_ D cl ac a0 st U.heap ∧ K U)
def ct_Q (D : va_G) (cl : List vw_C) (ac : Nat → ClassId) (a0 : Nat) (rv : Option Value) (st' : st_S) : Array Value → State → Outcome → State → Prop := fun _ S oc t => oc = .returned rv ∧ wd_ D cl ac a0 st' t.heap ∧ va_F (fun q => a0 ≤ q) S t
/-- method y, called with av at the store st, answers rv, and the store is st'; i cells with j slots are made -/
def ct_ (l : Launch) (y : MethodName) (ws : List Cond) (fr lo : Nat) (D : va_G) (cl : List vw_C) (ac : Nat → ClassId) (a0 : Nat) (K : State → Prop) (av : List Value) (st : st_S) (rv : Option Value) (st' : st_S) (i j : Nat) : Prop :=
  Met l y ws ({ frames := fr, cells := i, slots := j, locals := lo }) (ct_P D cl ac a0 K av st) (ct_Q D cl ac a0 rv st') i j (fun q => a0 ≤ q)
/-- what a contract's K must bear: it stays over calls and over what is written at a0 and above -/
def kk_ (D : va_G) (cl : List vw_C) (tys : List (ClassId × FieldType)) (a0 : Nat) (K : State → Prop) : Prop :=
  (∀ U : State, K U → va_K D cl tys U) ∧ (∀ (a : Array Value) (U : State) (g : JFrame) (mk : MethodId), K U → K (U.calling g mk a)) ∧
  ∀ (s U : State) (H : Heap) (locs : List Loc), K s → va_S (fun q => a0 ≤ q) s.heap H locs → U.heap = H → s.WarmedH U.vm → K U
theorem ct_of {l : Launch} {y : MethodName} {cc : ByteArray} {maxL : Nat} {ret : Option FieldType} {tb : List Cond} {fr lo : Nat} {D : va_G} {cl : List vw_C} {ac : Nat → ClassId} {tys : List (ClassId × FieldType)} {a0 : Nat} {K : State → Prop} {av : List Value} {st : st_S} {rv : Option Value} {st' : st_S} {i j : Nat}
    (hK : kk_ D cl tys a0 K) (hy : plainFor y = true) (hcat : ∀ v ∈ av, v.category = 1) (hlen : av.length ≤ maxL)
    (body : ∀ (p : Program) (e : Env) (s : State) (m : MethodId) (args : Array Value) (below : List Frame) (meth : Method) (c : Code) (ls : Array Slot), cx_ p s m args c cc maxL y.cls tb D cl tys → ww_ D cl ac a0 st s.heap s.heap [] → K s → meth.locks = false → meth.sig.returnType = ret → meth.name = y.name → lh_ ls maxL (la_ 0 av) →
      W p l e ({ frames := fr, cells := i, slots := j, locals := lo }) s m args below meth c s.heap [] 0 0 (MQ below (ct_Q D cl ac a0 rv st') args s i j (fun q => a0 ≤ q)) (F0 m 0 ls [])) :
    ct_ l y (Cond.code y cc maxL ret :: tb) fr lo D cl ac a0 K av st rv st' i j := by
  refine va_MetF (cc := cc) (maxL := maxL) (ret := ret) hy rfl ?_
  intro p e s m args below meth c s₁ B hml hv
  obtain ⟨rfl, hw, hKs⟩ := hv
  have hts := atoms_spec (ws := Cond.code y cc maxL ret :: tb) B.pre
  have hl := lv_entry av (n := maxL) (by rw [la_len av hcat]; exact hlen)
  rw [lg_entry_eq]
  rw [la_eq av 0 hcat] at hl
  exact body p e s m _ below meth c _ ⟨B.exec, B.bytes, hml, findClass_of_methodNamed B.named, fun w h => hts w (List.mem_cons_of_mem _ h), hK.1 s hKs⟩ ⟨hw, va_S.rf, by rw [hw.1]; exact hw.2.1⟩ hKs B.notSynchronized B.returns (name_of_methodNamed B.named B.method).1 ⟨hl, la_cat av 0 hcat⟩
section RRC
variable {p : Program} {l : Launch} {e : Env} {R : Room} {s : State} {m : MethodId} {args : Array Value} {below : List Frame} {meth : Method} {c : Code} {H : Heap} {locs : List Loc} {cells slots : Nat} {Q : State → Prop}
variable {cc : ByteArray} {pc nL : Nat} {ls : Array Slot} {rest st0 : List Value} {D : va_G} {cl : List vw_C} {ac : Nat → ClassId} {tys : List (ClassId × FieldType)} {a0 : Nat} {H0 : Heap} {st st' : st_S} {own : String} {tb : List Cond} {K : State → Prop}
variable {index n maxL fr lo i j : Nat} {y : MethodName} {bytes : ByteArray} {ret : Option FieldType} {As : List Value} {rv : Option Value}
theorem ct_go {a : Array Value} (hr : va_Run p l e R s m args below meth c H locs cells slots i j (F0 m pc ls st0) rest (ct_Q D cl ac a0 rv st' a) (fun q => a0 ≤ q)) (hw : ww_ D cl ac a0 st H0 H locs)
    (kk : ∀ (H1 : Heap) (locs1 : List Loc), ww_ D cl ac a0 st' H0 H1 locs1 → W p l e R s m args below meth c H1 locs1 (cells + i) (slots + j) Q (F0 m (pc + 3) ls (rv.toList ++ rest))) : W p l e R s m args below meth c H locs cells slots Q (F0 m pc ls st0) := by
  intro T hT X
  obtain ⟨v, st₀, t, T', L, h0, X', hL, e1, e2, ⟨hv, hw1, hz, hk⟩, stp⟩ := hr T hT X
  cases hv
  obtain ⟨hwd, hS, ha0⟩ := hw
  rw [h0] at hz hk
  obtain ⟨t2, a1, b1⟩ := kk T'.heap (locs ++ L) ⟨by rw [e1]; exact hw1, ⟨Nat.le_trans hS.1 (by rw [e1]; exact hz), fun q h1 h2 => by
      rw [e1, hk q (Nat.lt_of_lt_of_le h1 hS.1) h2]
      exact hS.2.1 q h1 h2, fun q hq => by
      rcases List.mem_append.mp hq with h | h
      · exact hS.2.2 q h
      · exact hL q h⟩, ha0⟩ T' rfl X'
  exact ⟨t2, stp t2 a1, b1⟩
theorem gi_c {y : MethodName} {bytes : ByteArray} {maxL : Nat} {ret : Option FieldType} (hG : GoodIn tb tb) (hc : Cond.code y bytes maxL ret ∈ tb) : GoodIn tb (Cond.code y bytes maxL ret :: tb) := by
  intro w hw
  rcases List.mem_cons.mp hw with rfl | hw
  · exact hG _ hc
  · exact hG w hw
theorem ct_pre (hK : kk_ D cl tys a0 K) (hKs : K s) (hw : ww_ D cl ac a0 st s.heap H locs) (av : List Value) : FrameBlind (ct_P D cl ac a0 K av st) ∧ ∀ U : State, U.heap = H → s.WarmedH U.vm → ct_P D cl ac a0 K av st av.toArray U :=
  ⟨fun a U g mk q => ⟨q.1, q.2.1, hK.2.1 a U g mk q.2.2⟩, fun U hU hW => ⟨rfl, by rw [hU]; exact hw.1, hK.2.2 s U H locs hKs hw.2.1 hU hW⟩⟩
theorem rr_callS (X : cx_ p s m args c cc nL own tb D cl tys) (hw : ww_ D cl ac a0 st s.heap H locs) (hK : kk_ D cl tys a0 K) (hKs : K s) (hM : ct_ l y (Cond.code y bytes maxL ret :: tb) fr lo D cl ac a0 K As st rv st' i j)
    (hG : GoodIn tb tb) (hcode : Cond.code y bytes maxL ret ∈ tb) (hini : Cond.initialized y.cls ∈ tb) (hlink : Cond.methodLink own index y ∈ tb) (hstat : Cond.static y ∈ tb)
    (hd : y.cls ≠ "java/lang/invoke/MethodHandle" ∧ y.cls ≠ "java/lang/invoke/VarHandle" ∧ (parseMethodDescriptor y.desc).map (fun d => d.parameters.length) = some n) (hn : As.length = n)
    (hR : fr + 1 ≤ R.frames ∧ 8 + (maxL + 11) + lo ≤ R.locals) (hT : cells + i ≤ R.cells ∧ slots + j ≤ R.slots) (hls : ls.size = nL) (hrm : (rest.map fun v => v.category).sum ≤ 8) (hst : st0 = As.reverse ++ rest) (hdg : decode cc pc = .ok (.invokestatic index, 3))
    {sk : List Value} (hsk : rv.toList ++ rest = sk) (kk : ∀ (H1 : Heap) (locs1 : List Loc), ww_ D cl ac a0 st' s.heap H1 locs1 → W p l e R s m args below meth c H1 locs1 (cells + i) (slots + j) Q (F0 m (pc + 3) ls sk)) : W p l e R s m args below meth c H locs cells slots Q (F0 m pc ls st0) := by
  obtain ⟨x1, x2, x3, x4, x5, x6⟩ := X
  subst hst hsk
  refine ct_go (va_runS (As := As) (rest := rest) ⟨x1, x2, x3, x4, x5⟩ hM ⟨callB_of n x5 (gi_c hG hcode) rfl rfl rfl (x5 _ hini) (x5 _ hlink) hd hR, x5 _ hstat⟩ (ct_pre hK hKs hw As) rfl hn hls rfl (lv_room hrm) hdg hT) hw kk
theorem rr_callI {b : Nat} (X : cx_ p s m args c cc nL own tb D cl tys) (hw : ww_ D cl ac a0 st s.heap H locs) (hK : kk_ D cl tys a0 K) (hKs : K s) (hM : ct_ l y (Cond.code y bytes maxL none :: tb) fr lo D cl ac a0 K (va_rf (some b) :: As) st rv st' i j)
    (hG : GoodIn tb tb) (hcode : Cond.code y bytes maxL none ∈ tb) (hini : Cond.initialized y.cls ∈ tb) (hlink : Cond.methodLink own index y ∈ tb) (hinst : Cond.instanceMethod y ∈ tb) (hy1 : y.name = "<init>")
    (hd : y.cls ≠ "java/lang/invoke/MethodHandle" ∧ y.cls ≠ "java/lang/invoke/VarHandle" ∧ (parseMethodDescriptor y.desc).map (fun d => d.parameters.length) = some n) (hn : As.length = n)
    (hR : fr + 1 ≤ R.frames ∧ 8 + (maxL + 11) + lo ≤ R.locals) (hT : cells + i ≤ R.cells ∧ slots + j ≤ R.slots) (hls : ls.size = nL) (hrm : (rest.map fun v => v.category).sum ≤ 8) (hst : st0 = As.reverse ++ va_rf (some b) :: rest) (hdg : decode cc pc = .ok (.invokespecial index, 3))
    {sk : List Value} (hsk : rv.toList ++ rest = sk) (kk : ∀ (H1 : Heap) (locs1 : List Loc), ww_ D cl ac a0 st' s.heap H1 locs1 → W p l e R s m args below meth c H1 locs1 (cells + i) (slots + j) Q (F0 m (pc + 3) ls sk)) : W p l e R s m args below meth c H locs cells slots Q (F0 m pc ls st0) := by
  obtain ⟨x1, x2, x3, x4, x5, x6⟩ := X
  subst hst hsk
  refine ct_go (va_runI (b := b) (As := As) (rest := rest) ⟨x1, x2, x3, x4, x5⟩ hM ⟨callB_of n x5 (gi_c hG hcode) rfl rfl rfl (x5 _ hini) (x5 _ hlink) hd hR, hy1, x5 _ hinst⟩ (ct_pre hK hKs hw (va_rf (some b) :: As)) rfl hn hls rfl (lv_room hrm) hdg hT) hw kk
/-- the receiver: an object of class ci -/
theorem rr_recv {b ci : Nat} {q : vw_C} {fs : List Value} (X : cx_ p s m args c cc nL own tb D cl tys) (hw : ww_ D cl ac a0 st H0 H locs) (hc : cl[ci]? = some q) (hb : st.1 b = some (.inr (.inr (ci, fs)))) : ∃ cell : Cell, H[b]? = some cell ∧ cell.vm.isStatics = false ∧ s.vm.findClass q.1 = some cell.cls := by
  have hP : va_P D cl [(b, .inr (ci, fs))] H := va_P1 (hw.1.2.2 b _ hb).2
  exact va_recv (q0 := 0) (fs := fs) X.2.2.2.2.2 hP hc rfl
/-- the receiver's class, if it is one of cis -/
def so_cm (r : Option Nat) (cis : List Nat) (st : st_S) : Option Nat := match r with
  | none => none
  | some a => match st.1 a with
    | some (.inr (.inr o)) => if o.1 ∈ cis then some o.1 else none
    | _ => none
theorem so_cm_some {st : st_S} {r : Option Nat} {cis : List Nat} {ci : Nat} (h : so_cm r cis st = some ci) : ∃ (a : Nat) (fs : List Value), r = some a ∧ st.1 a = some (.inr (.inr (ci, fs))) ∧ ci ∈ cis := by
  unfold so_cm at h
  split at h
  · cases h
  · rename_i a
    split at h
    · rename_i o ho
      obtain ⟨cj, fs⟩ := o
      split at h
      · rename_i hc
        cases h
        exact ⟨a, fs, rfl, ho, hc⟩
      · cases h
    · cases h
theorem rr_callV {r : Option Nat} {ci : Nat} {cis : List Nat} (X : cx_ p s m args c cc nL own tb D cl tys) (hw : ww_ D cl ac a0 st s.heap H locs) (hK : kk_ D cl tys a0 K) (hKs : K s) (hM : ct_ l y (Cond.code y bytes maxL ret :: tb) fr lo D cl ac a0 K (va_rf r :: As) st rv st' i j)
    (hG : GoodIn tb tb) (hcode : Cond.code y bytes maxL ret ∈ tb) (hini : Cond.initialized y.cls ∈ tb) (hlink : Cond.methodLink own index y ∈ tb) (hinst : Cond.instanceMethod y ∈ tb) (hcs : ∀ ci ∈ cis, ∃ q : vw_C, cl[ci]? = some q ∧ Cond.selects q.1 y y ∈ tb) (hrc : so_cm r cis st = some ci)
    (hd : y.cls ≠ "java/lang/invoke/MethodHandle" ∧ y.cls ≠ "java/lang/invoke/VarHandle" ∧ (parseMethodDescriptor y.desc).map (fun d => d.parameters.length) = some n) (hn : As.length = n)
    (hR : fr + 1 ≤ R.frames ∧ 8 + (maxL + 11) + lo ≤ R.locals) (hT : cells + i ≤ R.cells ∧ slots + j ≤ R.slots) (hls : ls.size = nL) (hrm : (rest.map fun v => v.category).sum ≤ 8) (hst : st0 = As.reverse ++ va_rf r :: rest) (hdg : decode cc pc = .ok (.invokevirtual index, 3))
    {sk : List Value} (hsk : rv.toList ++ rest = sk) (kk : ∀ (H1 : Heap) (locs1 : List Loc), ww_ D cl ac a0 st' s.heap H1 locs1 → W p l e R s m args below meth c H1 locs1 (cells + i) (slots + j) Q (F0 m (pc + 3) ls sk)) : W p l e R s m args below meth c H locs cells slots Q (F0 m pc ls st0) := by
  obtain ⟨b, fs, rfl, hb, hci⟩ := so_cm_some hrc
  obtain ⟨q, hc, hsel⟩ := hcs ci hci
  have hrv := rr_recv X hw hc hb
  obtain ⟨x1, x2, x3, x4, x5, x6⟩ := X
  subst hst hsk
  have hp := ct_pre hK hKs hw (va_rf (some b) :: As)
  exact ct_go (va_runV (C := q.1) (b := b) (As := As) (rest := rest) ⟨x1, x2, x3, x4, x5⟩ hM ⟨callB_of n x5 (gi_c hG hcode) rfl rfl rfl (x5 _ hini) (x5 _ hlink) hd hR, x5 _ hinst, x5 _ hsel⟩ ⟨hp.1, hrv, hp.2⟩ rfl hn hls rfl (lv_room hrm) hdg hT) hw kk
theorem rr_vret (X : cx_ p s m args c cc nL own tb D cl tys) (hw : ww_ D cl ac a0 st s.heap H locs) (hlocks : meth.locks = false) (hr : meth.sig.returnType = none) (hi : cells = i) (hj : slots = j) (hdg : decode cc pc = .ok (.return_, 1)) :
    W p l e R s m args below meth c H locs cells slots (MQ below (ct_Q D cl ac a0 none st) args s i j (fun q => a0 ≤ q)) (F0 m pc ls []) := by
  subst hi hj
  exact W.vret X.1 X.2.1 hr (fun t ht hW => ⟨rfl, by rw [ht]; exact hw.1, hw.2.1.F ht⟩) hw.2.1.2.2 hdg hlocks
theorem rr_iret {x : Int32} {ty : FieldType} (X : cx_ p s m args c cc nL own tb D cl tys) (hw : ww_ D cl ac a0 st s.heap H locs) (hlocks : meth.locks = false) (hr : meth.sig.returnType = some ty) (hty : narrow ty (.int x) = .int x) (hi : cells = i) (hj : slots = j) (hdg : decode cc pc = .ok (.ireturn, 1)) :
    W p l e R s m args below meth c H locs cells slots (MQ below (ct_Q D cl ac a0 (some (.int x)) st) args s i j (fun q => a0 ≤ q)) (F0 m pc ls [.int x]) := by
  subst hi hj
  exact W.zret X.1 X.2.1 hr hty (fun t ht hW => ⟨rfl, by rw [ht]; exact hw.1, hw.2.1.F ht⟩) hw.2.1.2.2 hdg hlocks
theorem rr_aret {r : Option Nat} {ty : FieldType} (X : cx_ p s m args c cc nL own tb D cl tys) (hw : ww_ D cl ac a0 st s.heap H locs) (hlocks : meth.locks = false) (hr : meth.sig.returnType = some ty) (hty : (∃ n, ty = .object n) ∨ ∃ t, ty = .array t) (hi : cells = i) (hj : slots = j) (hdg : decode cc pc = .ok (.areturn, 1)) :
    W p l e R s m args below meth c H locs cells slots (MQ below (ct_Q D cl ac a0 (some (va_rf r)) st) args s i j (fun q => a0 ≤ q)) (F0 m pc ls [va_rf r]) := by
  subst hi hj
  exact W.aret X.1 X.2.1 hr hty (by cases r with | none => exact Or.inl rfl | some a => exact Or.inr ⟨a, rfl⟩) (fun t ht hW => ⟨rfl, by rw [ht]; exact hw.1, hw.2.1.F ht⟩) hw.2.1.2.2 hdg hlocks
end RRC
/-! blocks: a place of a method, its locals and stack out of a tuple, and the program from there to the method's end -/
def wk_ {α β : Type} (p : Program) (l : Launch) (e : Env) (fr lo : Nat) (s : State) (m : MethodId) (args : Array Value) (below : List Frame) (meth : Method) (c : Code) (D : va_G) (cl : List vw_C) (ac : Nat → ClassId) (a0 nL : Nat) (vb : β → Option Value) (rF : β) (stF : st_S) (iT jT pc : Nat) (lv : α → List (Nat × Value)) (sk : α → List Value) (f : α → st_M β) : Prop :=
  ∀ (x : α) (st : st_S) (H : Heap) (locs : List Loc) (cells slots i j : Nat) (ls : Array Slot), ww_ D cl ac a0 st s.heap H locs → lh_ ls nL (lv x) → f x st = some (rF, stF, i, j) → cells + i = iT → slots + j = jT →
    W p l e ({ frames := fr, cells := iT, slots := jT, locals := lo }) s m args below meth c H locs cells slots (MQ below (ct_Q D cl ac a0 (vb rF) stF) args s iT jT (fun q => a0 ≤ q)) (F0 m pc ls (sk x))
/-- a loop: n rounds at most -/
def st_it {α β : Type} (F : (α → st_M β) → α → st_M β) : Nat → α → st_M β
  | 0 => fun _ _ => none
  | n + 1 => F (st_it F n)
theorem wk_it {α β : Type} {p : Program} {l : Launch} {e : Env} {fr lo : Nat} {s : State} {m : MethodId} {args : Array Value} {below : List Frame} {meth : Method} {c : Code} {D : va_G} {cl : List vw_C} {ac : Nat → ClassId} {a0 nL : Nat} {vb : β → Option Value} {rF : β} {stF : st_S} {iT jT pc : Nat} {lv : α → List (Nat × Value)} {sk : α → List Value} {F : (α → st_M β) → α → st_M β}
    (h : ∀ f : α → st_M β, wk_ p l e fr lo s m args below meth c D cl ac a0 nL vb rF stF iT jT pc lv sk f → wk_ p l e fr lo s m args below meth c D cl ac a0 nL vb rF stF iT jT pc lv sk (F f)) :
    ∀ n : Nat, wk_ p l e fr lo s m args below meth c D cl ac a0 nL vb rF stF iT jT pc lv sk (st_it F n)
  | 0 => fun _ _ _ _ _ _ _ _ _ _ _ h1 _ _ => by cases h1
  | n + 1 => h _ (wk_it h n)
def vb_u (_ : Unit) : Option Value := none
def vb_i (x : Int32) : Option Value := some (.int x)
def vb_q (x : Option Nat) : Option Value := some (va_rf x)
end
section
/-! further rows: nulls, truths, lengths, casts, calls of inherited methods -/
def fu_ : Nat := 5000
def so_z (x : Int32) (_ : st_S) : Option Unit := if x = 0 ∨ x = 1 then some () else none
theorem so_z_or {x : Int32} {st : st_S} {u : Unit} (h : so_z x st = some u) : x = 0 ∨ x = 1 := by
  unfold so_z at h
  split at h
  · assumption
  · cases h
theorem so_z_n {x : Int32} {st : st_S} {u : Unit} (h : so_z x st = some u) : narrow .boolean (.int x) = .int x := by
  rcases so_z_or h with rfl | rfl <;> rfl
theorem so_z_f {x : Int32} {st : st_S} {u : Unit} (h : so_z x st = some u) : fits .boolean (.int x) = true := by
  rcases so_z_or h with rfl | rfl <;> rfl
def so_l (x : Int32) (_ : st_S) : Option Unit := if ¬ x < 0 ∧ x.toNatClampNeg * 4 ≤ 536870912 then some () else none
theorem so_l_s {x : Int32} {st : st_S} {u : Unit} (h : so_l x st = some u) : ¬ x < 0 ∧ x.toNatClampNeg * 4 ≤ 536870912 := by
  unfold so_l at h
  split at h
  · assumption
  · cases h
theorem rf_nar (C : String) (r : Option Nat) : narrow (.object C) (va_rf r) = va_rf r := by cases r <;> rfl
theorem rf_fit (C : String) (r : Option Nat) : fits (.object C) (va_rf r) = true := by cases r <;> rfl
theorem rf_narA (t : FieldType) (r : Option Nat) : narrow (.array t) (va_rf r) = va_rf r := by cases r <;> rfl
theorem rf_fitA (t : FieldType) (r : Option Nat) : fits (.array t) (va_rf r) = true := by cases r <;> rfl
/-- instanceof: objects of the classes yes are, those of the classes no are not -/
def so_i (r : Option Nat) (yes no : List Nat) (st : st_S) : Option Int32 := match r with
  | none => some 0
  | some a => match st.1 a with
    | some (.inr (.inr o)) => if o.1 ∈ yes then some 1 else if o.1 ∈ no then some 0 else none
    | _ => none
def so_k (r : Option Nat) (yes : List Nat) (st : st_S) : Option Unit := match r with
  | none => some ()
  | some a => match st.1 a with
    | some (.inr (.inr o)) => if o.1 ∈ yes then some () else none
    | _ => none
/-- an object of class ci is a nm, or isn't -/
def cy_ (cl : List vw_C) (yes : List Nat) (nm : String) (s : State) : Prop := ∀ ci ∈ yes, ∃ q : vw_C, cl[ci]? = some q ∧ (q.1 = nm ∨ va_Nw (.castable q.1 nm) s)
def cn_ (cl : List vw_C) (no : List Nat) (nm : String) (s : State) : Prop := ∀ ci ∈ no, ∃ q : vw_C, cl[ci]? = some q ∧ va_Nc q.1 nm s
section RRD
variable {p : Program} {l : Launch} {e : Env} {R : Room} {s : State} {m : MethodId} {args : Array Value} {below : List Frame} {meth : Method} {c : Code} {H : Heap} {locs : List Loc} {cells slots : Nat} {Q : State → Prop}
variable {cc : ByteArray} {pc nL : Nat} {ls : Array Slot} {rest st0 : List Value} {D : va_G} {cl : List vw_C} {ac : Nat → ClassId} {tys : List (ClassId × FieldType)} {a0 : Nat} {H0 : Heap} {st st' : st_S} {own : String} {tb : List Cond} {K : State → Prop}
variable {index n maxL fr lo i j : Nat} {y : MethodName} {bytes : ByteArray} {ret : Option FieldType} {As : List Value} {rv : Option Value}
theorem rr_null (X : cx_ p s m args c cc nL own tb D cl tys) (hdg : decode cc pc = .ok (.aconst_null, 1)) (kk : W p l e R s m args below meth c H locs cells slots Q (F0 m (pc + 1) ls (va_rf none :: rest))) : W p l e R s m args below meth c H locs cells slots Q (F0 m pc ls rest) :=
  lv_null X.1 X.2.1 hdg kk
theorem rr_isY {nm : String} {yes : List Nat} {ci : Nat} (X : cx_ p s m args c cc nL own tb D cl tys) (hy : cy_ cl yes nm s) (hci : ci ∈ yes) : ∃ q : vw_C, cl[ci]? = some q ∧ ((∃ cC : ClassId, ClassAt s nm cC ∧ q.1 = nm) ∨ va_Nw (.castable q.1 nm) s) := by
  obtain ⟨q, h1, h2⟩ := hy ci hci
  refine ⟨q, h1, ?_⟩
  rcases h2 with h2 | h2
  · exact Or.inl ⟨_, by rw [← h2]; exact (X.2.2.2.2.2.1 ci q h1).2, h2⟩
  · exact Or.inr h2
theorem rr_inst {nm : String} {yes no : List Nat} {r : Option Nat} {x : Int32} (X : cx_ p s m args c cc nL own tb D cl tys) (hw : ww_ D cl ac a0 st H0 H locs) (hy : cy_ cl yes nm s) (hn : cn_ cl no nm s) (hv : so_i r yes no st = some x)
    (hlink : Cond.classLink own index nm ∈ tb) (hdg : decode cc pc = .ok (.instanceof index, 3)) (kk : W p l e R s m args below meth c H locs cells slots Q (F0 m (pc + 3) ls (.int x :: rest))) : W p l e R s m args below meth c H locs cells slots Q (F0 m pc ls (va_rf r :: rest)) := by
  unfold so_i at hv
  split at hv
  · cases hv
    exact lv_instN X.1 X.2.1 hdg kk
  · rename_i a
    split at hv
    · rename_i o ho
      obtain ⟨ci, fs⟩ := o
      split at hv
      · rename_i hci
        cases hv
        obtain ⟨q, h1, h2⟩ := rr_isY X hy hci
        have hrv := rr_recv X hw h1 ho
        rcases h2 with ⟨cC, h2, h3⟩ | h2
        · exact va_instS X.1 X.2.1 X.2.2.2.1 (X.2.2.2.2.1 _ hlink) h2 (h3 ▸ hrv) hdg kk
        · exact va_instY X.1 X.2.1 X.2.2.2.1 (X.2.2.2.2.1 _ hlink) h2 hrv hdg kk
      · split at hv
        · rename_i hci
          cases hv
          obtain ⟨q, h1, h2⟩ := hn ci hci
          exact va_instNo X.1 X.2.1 X.2.2.2.1 (X.2.2.2.2.1 _ hlink) h2 (rr_recv X hw h1 ho) hdg kk
        · cases hv
    · cases hv
theorem rr_cast {nm : String} {yes : List Nat} {r : Option Nat} {u : Unit} (X : cx_ p s m args c cc nL own tb D cl tys) (hw : ww_ D cl ac a0 st H0 H locs) (hy : cy_ cl yes nm s) (hv : so_k r yes st = some u)
    (hlink : Cond.classLink own index nm ∈ tb) (hdg : decode cc pc = .ok (.checkcast index, 3)) (kk : W p l e R s m args below meth c H locs cells slots Q (F0 m (pc + 3) ls (va_rf r :: rest))) : W p l e R s m args below meth c H locs cells slots Q (F0 m pc ls (va_rf r :: rest)) := by
  unfold so_k at hv
  split at hv
  · exact lv_castN X.1 X.2.1 hdg kk
  · rename_i a
    split at hv
    · rename_i o ho
      obtain ⟨ci, fs⟩ := o
      split at hv
      · rename_i hci
        obtain ⟨q, h1, h2⟩ := rr_isY X hy hci
        have hrv := rr_recv X hw h1 ho
        rcases h2 with ⟨cC, h2, h3⟩ | h2
        · exact va_castS X.1 X.2.1 X.2.2.2.1 (X.2.2.2.2.1 _ hlink) h2 (h3 ▸ hrv) hdg kk
        · exact va_castY X.1 X.2.1 X.2.2.2.1 (X.2.2.2.2.1 _ hlink) h2 hrv hdg kk
      · cases hv
    · cases hv
theorem rr_objI {r : Option Nat} {ci : Nat} (X : cx_ p s m args c cc nL own tb D cl tys) (hrc : so_c r st = some ci) (hlink : Cond.methodLink own index objectInit ∈ tb) (hinst : Cond.instanceMethod objectInit ∈ tb) (hcode : Cond.code objectInit ⟨#[0xb1]⟩ 1 none ∈ tb)
    (hls : ls.size = nL) (hfr : 1 ≤ R.frames) (hlo : (rest.map fun v => v.category).sum + 12 ≤ R.locals) (hdg : decode cc pc = .ok (.invokespecial index, 3)) (kk : W p l e R s m args below meth c H locs cells slots Q (F0 m (pc + 3) ls rest)) : W p l e R s m args below meth c H locs cells slots Q (F0 m pc ls (va_rf r :: rest)) := by
  obtain ⟨b, fs, rfl, hb⟩ := so_c_some hrc
  obtain ⟨x1, x2, x3, x4, x5, x6⟩ := X
  exact W.objInit x1 x2 x4 (x5 _ hlink) (x5 _ hinst) (x5 _ hcode) rfl (hls.trans x3.symm) rfl hdg hfr (by show 2 * 0 + _ + 12 ≤ _; omega) kk
/-- a call of a method that another class has: x as it is named, y as it is selected -/
theorem rr_callU {r : Option Nat} {ci : Nat} {cis : List Nat} {x : MethodName} {owner : String} (X : cx_ p s m args c cc nL own tb D cl tys) (hw : ww_ D cl ac a0 st s.heap H locs) (hK : kk_ D cl tys a0 K) (hKs : K s) (hM : ct_ l y (Cond.code y bytes maxL ret :: tb) fr lo D cl ac a0 K (va_rf r :: As) st rv st' i j)
    (hG : GoodIn tb tb) (hcode : Cond.code y bytes maxL ret ∈ tb) (hini : Cond.initialized y.cls ∈ tb) (hlink : Cond.methodLink own index x ∈ tb) (hsame : Cond.sameMethod x.cls owner x.name x.desc ∈ tb) (hdecl : va_Decl s ⟨owner, x.name, x.desc⟩) (hinst : Cond.instanceMethod y ∈ tb) (hcs : ∀ ci ∈ cis, ∃ q : vw_C, cl[ci]? = some q ∧ Cond.selects q.1 x y ∈ tb) (hrc : so_cm r cis st = some ci)
    (hd : owner ≠ "java/lang/invoke/MethodHandle" ∧ owner ≠ "java/lang/invoke/VarHandle" ∧ (parseMethodDescriptor x.desc).map (fun d => d.parameters.length) = some n) (hn : As.length = n)
    (hR : fr + 1 ≤ R.frames ∧ 8 + (maxL + 11) + lo ≤ R.locals) (hT : cells + i ≤ R.cells ∧ slots + j ≤ R.slots) (hls : ls.size = nL) (hrm : (rest.map fun v => v.category).sum ≤ 8) (hst : st0 = As.reverse ++ va_rf r :: rest) (hdg : decode cc pc = .ok (.invokevirtual index, 3))
    {sk : List Value} (hsk : rv.toList ++ rest = sk) (kk : ∀ (H1 : Heap) (locs1 : List Loc), ww_ D cl ac a0 st' s.heap H1 locs1 → W p l e R s m args below meth c H1 locs1 (cells + i) (slots + j) Q (F0 m (pc + 3) ls sk)) : W p l e R s m args below meth c H locs cells slots Q (F0 m pc ls st0) := by
  obtain ⟨b, fs, rfl, hb, hci⟩ := so_cm_some hrc
  obtain ⟨q, hc, hsel⟩ := hcs ci hci
  have hrv := rr_recv X hw hc hb
  obtain ⟨x1, x2, x3, x4, x5, x6⟩ := X
  subst hst hsk
  have hp := ct_pre hK hKs hw (va_rf (some b) :: As)
  have hG2 := gi_c (bytes := bytes) (maxL := maxL) (ret := ret) (y := y) hG hcode
  refine ct_go (va_runU (C := q.1) (owner := owner) (x := x) (b := b) (As := As) (rest := rest) ⟨x1, x2, x3, x4, x5⟩ hM ⟨⟨rfl, rfl, hR.1, hR.2, pay_in x5 hG2, List.mem_cons_self⟩, x5 _ hcode, x5 _ hini, ⟨hd.1, hd.2.1⟩, fun sig h => ?_, x5 _ hlink, x5 _ hsame, hdecl, x5 _ hsel, x5 _ hinst⟩ ⟨hp.1, hrv, hp.2⟩ rfl hn hls rfl (lv_room hrm) hdg hT) hw kk
  have h2 := hd.2.2
  rw [h] at h2
  exact (Option.some.inj h2).symm
end RRD
end
section
/-! The claim's classes, its rows' types, what a contract knows of the start. Printed from the tables' words. -/
def ct_0 : u_T := fun k => match k with
  | 0 => ("PromiseVats", "vats", "[LPromiseVats$Vat;", true)
  | 1 => ("PromiseVats", "programs", "[LPromiseVats$Program;", true)
  | 2 => ("PromiseVats", "entities", "[LPromiseVats$Entity;", true)
  | 3 => ("PromiseVats", "objectsMade", "I", false)
  | 4 => ("PromiseVats", "promisesMade", "I", false)
  | 5 => ("PromiseVats", "running", "LPromiseVats$Turn;", true)
  | 6 => ("PromiseVats", "lost", "[LPromiseVats$Promise;", true)
  | 7 => ("PromiseVats", "lostCount", "I", false)
  | 8 => ("PromiseVats", "found", "[LPromiseVats$Entity;", true)
  | _ => ("PromiseVats", "foundCount", "I", false)
def cy_0 : Nat → FieldType := fun k => match k with
  | 0 => .array (.object "PromiseVats$Vat")
  | 1 => .array (.object "PromiseVats$Program")
  | 2 => .array (.object "PromiseVats$Entity")
  | 3 => .int
  | 4 => .int
  | 5 => .object "PromiseVats$Turn"
  | 6 => .array (.object "PromiseVats$Promise")
  | 7 => .int
  | 8 => .array (.object "PromiseVats$Entity")
  | _ => .int
def cd_0 : List Value := [.null, .null, .null, .int 0, .int 0, .null, .null, .int 0, .null, .int 0]
def ct_1 : u_T := fun k => match k with
  | 0 => ("PromiseVats$Turn", "self", "LPromiseVats$VatObject;", false)
  | 1 => ("PromiseVats$Turn", "value", "I", false)
  | 2 => ("PromiseVats$Turn", "reference", "LPromiseVats$Entity;", false)
  | _ => ("PromiseVats$Turn", "skips", "I", false)
def cy_1 : Nat → FieldType := fun k => match k with
  | 0 => .object "PromiseVats$VatObject"
  | 1 => .int
  | 2 => .object "PromiseVats$Entity"
  | _ => .int
def cd_1 : List Value := [.null, .int 0, .null, .int 0]
def ct_2 : u_T := fun k => match k with
  | 0 => ("PromiseVats$Program", "ops", "[I", true)
  | 1 => ("PromiseVats$Program", "xs", "[I", true)
  | _ => ("PromiseVats$Program", "length", "I", false)
def cy_2 : Nat → FieldType := fun k => match k with
  | 0 => .array (.int)
  | 1 => .array (.int)
  | _ => .int
def cd_2 : List Value := [.null, .null, .int 0]
def ct_3 : u_T := fun k => match k with
  | 0 => ("PromiseVats$VatObject", "program", "I", true)
  | 1 => ("PromiseVats$VatObject", "amount", "I", false)
  | 2 => ("PromiseVats$VatObject", "slots", "[LPromiseVats$Entity;", true)
  | 3 => ("PromiseVats$Entity", "id", "I", true)
  | 4 => ("PromiseVats$Entity", "home", "I", true)
  | 5 => ("PromiseVats$Entity", "freed", "Z", false)
  | 6 => ("PromiseVats$Entity", "reached", "Z", false)
  | 7 => ("PromiseVats$Entity", "exports", "[I", true)
  | 8 => ("PromiseVats$Entity", "imports", "[I", true)
  | _ => ("PromiseVats$Entity", "gifts", "[I", true)
def cy_3 : Nat → FieldType := fun k => match k with
  | 0 => .int
  | 1 => .int
  | 2 => .array (.object "PromiseVats$Entity")
  | 3 => .int
  | 4 => .int
  | 5 => .boolean
  | 6 => .boolean
  | 7 => .array (.int)
  | 8 => .array (.int)
  | _ => .array (.int)
def cd_3 : List Value := [.int 0, .int 0, .null, .int 0, .int 0, .int 0, .int 0, .null, .null, .null]
def ct_4 : u_T := fun k => match k with
  | 0 => ("PromiseVats$Promise", "open", "Z", false)
  | 1 => ("PromiseVats$Promise", "outcome", "LPromiseVats$Entity;", false)
  | 2 => ("PromiseVats$Promise", "waiting", "Ljava/util/ArrayList;", true)
  | 3 => ("PromiseVats$Entity", "id", "I", true)
  | 4 => ("PromiseVats$Entity", "home", "I", true)
  | 5 => ("PromiseVats$Entity", "freed", "Z", false)
  | 6 => ("PromiseVats$Entity", "reached", "Z", false)
  | 7 => ("PromiseVats$Entity", "exports", "[I", true)
  | 8 => ("PromiseVats$Entity", "imports", "[I", true)
  | _ => ("PromiseVats$Entity", "gifts", "[I", true)
def cy_4 : Nat → FieldType := fun k => match k with
  | 0 => .boolean
  | 1 => .object "PromiseVats$Entity"
  | 2 => .object "java/util/ArrayList"
  | 3 => .int
  | 4 => .int
  | 5 => .boolean
  | 6 => .boolean
  | 7 => .array (.int)
  | 8 => .array (.int)
  | _ => .array (.int)
def cd_4 : List Value := [.int 0, .null, .null, .int 0, .int 0, .int 0, .int 0, .null, .null, .null]
def ct_5 : u_T := fun k => match k with
  | 0 => ("PromiseVats$Vat", "root", "LPromiseVats$VatObject;", true)
  | 1 => ("PromiseVats$Vat", "calls", "Ljava/util/ArrayList;", true)
  | 2 => ("PromiseVats$Vat", "channels", "[LPromiseVats$Channel;", true)
  | 3 => ("PromiseVats$Vat", "latest", "[I", true)
  | _ => ("PromiseVats$Vat", "outputs", "I", false)
def cy_5 : Nat → FieldType := fun k => match k with
  | 0 => .object "PromiseVats$VatObject"
  | 1 => .object "java/util/ArrayList"
  | 2 => .array (.object "PromiseVats$Channel")
  | 3 => .array (.int)
  | _ => .int
def cd_5 : List Value := [.null, .null, .null, .null, .int 0]
def ct_6 : u_T := fun k => match k with
  | 0 => ("java/util/ArrayList", "elementData", "[Ljava/lang/Object;", false)
  | 1 => ("java/util/ArrayList", "size", "I", false)
  | _ => ("java/util/AbstractList", "modCount", "I", false)
def cy_6 : Nat → FieldType := fun k => match k with
  | 0 => .array (.object "java/lang/Object")
  | 1 => .int
  | _ => .int
def cd_6 : List Value := [.null, .int 0, .int 0]
def ct_7 : u_T := fun k => match k with
  | _ => ("PromiseVats$Channel", "messages", "Ljava/util/ArrayList;", true)
def cy_7 : Nat → FieldType := fun k => match k with
  | _ => .object "java/util/ArrayList"
def cd_7 : List Value := [.null]
def ct_8 : u_T := fun k => match k with
  | 0 => ("PromiseVats$Call", "target", "LPromiseVats$Entity;", false)
  | 1 => ("PromiseVats$Call", "value", "I", true)
  | 2 => ("PromiseVats$Call", "argument", "LPromiseVats$Entity;", true)
  | _ => ("PromiseVats$Call", "answe\x72", "LPromiseVats$Promise;", true)
def cy_8 : Nat → FieldType := fun k => match k with
  | 0 => .object "PromiseVats$Entity"
  | 1 => .int
  | 2 => .object "PromiseVats$Entity"
  | _ => .object "PromiseVats$Promise"
def cd_8 : List Value := [.null, .int 0, .null, .null]
def ct_9 : u_T := fun k => match k with
  | 0 => ("PromiseVats$Message", "kind", "I", true)
  | 1 => ("PromiseVats$Message", "subject", "LPromiseVats$Entity;", true)
  | 2 => ("PromiseVats$Message", "argument", "LPromiseVats$Entity;", true)
  | 3 => ("PromiseVats$Message", "amount", "I", true)
  | _ => ("PromiseVats$Message", "call", "LPromiseVats$Call;", false)
def cy_9 : Nat → FieldType := fun k => match k with
  | 0 => .int
  | 1 => .object "PromiseVats$Entity"
  | 2 => .object "PromiseVats$Entity"
  | 3 => .int
  | _ => .object "PromiseVats$Call"
def cd_9 : List Value := [.int 0, .null, .null, .int 0, .null]
def ct_10 : u_T := fun k => match k with
  | 0 => ("PromiseVatsModel", "vats", "I", true)
  | 1 => ("PromiseVatsModel", "objects", "I", false)
  | 2 => ("PromiseVatsModel", "promises", "I", false)
  | 3 => ("PromiseVatsModel", "sizes", "[I", true)
  | 4 => ("PromiseVatsModel", "ops", "[I", true)
  | 5 => ("PromiseVatsModel", "args", "[I", true)
  | 6 => ("PromiseVatsModel", "home", "[B", true)
  | 7 => ("PromiseVatsModel", "gone", "[Z", true)
  | 8 => ("PromiseVatsModel", "settled", "[Z", true)
  | 9 => ("PromiseVatsModel", "to", "[I", true)
  | 10 => ("PromiseVatsModel", "reached", "[Z", true)
  | 11 => ("PromiseVatsModel", "programs", "[B", true)
  | 12 => ("PromiseVatsModel", "numbers", "[I", true)
  | 13 => ("PromiseVatsModel", "slots", "[I", true)
  | 14 => ("PromiseVatsModel", "marked", "Z", false)
  | 15 => ("PromiseVatsModel", "exports", "[I", true)
  | 16 => ("PromiseVatsModel", "imports", "[I", true)
  | 17 => ("PromiseVatsModel", "owed", "[I", true)
  | 18 => ("PromiseVatsModel", "resting", "I", false)
  | 19 => ("PromiseVatsModel", "place", "[I", true)
  | 20 => ("PromiseVatsModel", "target", "[I", true)
  | 21 => ("PromiseVatsModel", "value", "[I", true)
  | 22 => ("PromiseVatsModel", "argument", "[I", true)
  | 23 => ("PromiseVatsModel", "answe\x72", "[I", true)
  | 24 => ("PromiseVatsModel", "mails", "I", false)
  | 25 => ("PromiseVatsModel", "head", "[B", true)
  | 26 => ("PromiseVatsModel", "about", "[S", true)
  | 27 => ("PromiseVatsModel", "load", "[I", true)
  | 28 => ("PromiseVatsModel", "carry", "[S", true)
  | 29 => ("PromiseVatsModel", "back", "[S", true)
  | 30 => ("PromiseVatsModel", "lost", "I", false)
  | 31 => ("PromiseVatsModel", "losers", "[I", true)
  | 32 => ("PromiseVatsModel", "outs", "[I", true)
  | 33 => ("PromiseVatsModel", "out", "[I", true)
  | 34 => ("PromiseVatsModel", "v", "I", false)
  | _ => ("PromiseVatsModel", "\x72", "I", false)
def cy_10 : Nat → FieldType := fun k => match k with
  | 0 => .int
  | 1 => .int
  | 2 => .int
  | 3 => .array (.int)
  | 4 => .array (.int)
  | 5 => .array (.int)
  | 6 => .array (.byte)
  | 7 => .array (.boolean)
  | 8 => .array (.boolean)
  | 9 => .array (.int)
  | 10 => .array (.boolean)
  | 11 => .array (.byte)
  | 12 => .array (.int)
  | 13 => .array (.int)
  | 14 => .boolean
  | 15 => .array (.int)
  | 16 => .array (.int)
  | 17 => .array (.int)
  | 18 => .int
  | 19 => .array (.int)
  | 20 => .array (.int)
  | 21 => .array (.int)
  | 22 => .array (.int)
  | 23 => .array (.int)
  | 24 => .int
  | 25 => .array (.byte)
  | 26 => .array (.short)
  | 27 => .array (.int)
  | 28 => .array (.short)
  | 29 => .array (.short)
  | 30 => .int
  | 31 => .array (.int)
  | 32 => .array (.int)
  | 33 => .array (.int)
  | 34 => .int
  | _ => .int
def cd_10 : List Value := [.int 0, .int 0, .int 0, .null, .null, .null, .null, .null, .null, .null, .null, .null, .null, .null, .int 0, .null, .null, .null, .int 0, .null, .null, .null, .null, .null, .int 0, .null, .null, .null, .null, .null, .int 0, .null, .null, .null, .int 0, .int 0]
def cl_ : List vw_C := [("PromiseVats", ct_0, 10), ("PromiseVats$Turn", ct_1, 4), ("PromiseVats$Program", ct_2, 3), ("PromiseVats$VatObject", ct_3, 10), ("PromiseVats$Promise", ct_4, 10), ("PromiseVats$Vat", ct_5, 5), ("java/util/ArrayList", ct_6, 3), ("PromiseVats$Channel", ct_7, 1), ("PromiseVats$Call", ct_8, 4), ("PromiseVats$Message", ct_9, 5), ("PromiseVatsModel", ct_10, 36)]
def ty_ (ac : Nat → ClassId) : List (ClassId × FieldType) := [(ac 0, .int), (ac 1, .byte), (ac 2, .boolean), (ac 3, .short), (ac 4, .object "PromiseVats$Vat"), (ac 5, .object "PromiseVats$Program"), (ac 6, .object "PromiseVats$Entity"), (ac 7, .object "PromiseVats$Promise"), (ac 8, .object "PromiseVats$Channel"), (ac 9, .object "java/lang/Object")]
theorem cw_0 : ∀ k, k < 10 → u_lay "PromiseVats" ct_0 k ∈ tb_ := by
  intro k hk
  match k, hk with
  | 0, _ => exact tb_in 226 (by decide +kernel) rfl
  | 1, _ => exact tb_in 228 (by decide +kernel) rfl
  | 2, _ => exact tb_in 230 (by decide +kernel) rfl
  | 3, _ => exact tb_in 232 (by decide +kernel) rfl
  | 4, _ => exact tb_in 234 (by decide +kernel) rfl
  | 5, _ => exact tb_in 236 (by decide +kernel) rfl
  | 6, _ => exact tb_in 238 (by decide +kernel) rfl
  | 7, _ => exact tb_in 240 (by decide +kernel) rfl
  | 8, _ => exact tb_in 242 (by decide +kernel) rfl
  | 9, _ => exact tb_in 244 (by decide +kernel) rfl
  | k + 10, hk => exact absurd hk (by omega)
theorem cf_0 : cf_ cl_ tb_ 0 "PromiseVats" ct_0 10 cy_0 := ⟨rfl, fun w h => by
  obtain ⟨k, hk, rfl⟩ := List.mem_map.mp h
  exact cw_0 k (List.mem_range.mp hk), by decide +kernel, by decide +kernel⟩
theorem cb_0 : ∀ j, j < 10 → defaultValue (cy_0 j) = vp_V cd_0 j := by decide +kernel
theorem cw_1 : ∀ k, k < 4 → u_lay "PromiseVats$Turn" ct_1 k ∈ tb_ := by
  intro k hk
  match k, hk with
  | 0, _ => exact tb_in 55 (by decide +kernel) rfl
  | 1, _ => exact tb_in 57 (by decide +kernel) rfl
  | 2, _ => exact tb_in 59 (by decide +kernel) rfl
  | 3, _ => exact tb_in 61 (by decide +kernel) rfl
  | k + 4, hk => exact absurd hk (by omega)
theorem cf_1 : cf_ cl_ tb_ 1 "PromiseVats$Turn" ct_1 4 cy_1 := ⟨rfl, fun w h => by
  obtain ⟨k, hk, rfl⟩ := List.mem_map.mp h
  exact cw_1 k (List.mem_range.mp hk), by decide +kernel, by decide +kernel⟩
theorem cb_1 : ∀ j, j < 4 → defaultValue (cy_1 j) = vp_V cd_1 j := by decide +kernel
theorem cw_2 : ∀ k, k < 3 → u_lay "PromiseVats$Program" ct_2 k ∈ tb_ := by
  intro k hk
  match k, hk with
  | 0, _ => exact tb_in 76 (by decide +kernel) rfl
  | 1, _ => exact tb_in 78 (by decide +kernel) rfl
  | 2, _ => exact tb_in 80 (by decide +kernel) rfl
  | k + 3, hk => exact absurd hk (by omega)
theorem cf_2 : cf_ cl_ tb_ 2 "PromiseVats$Program" ct_2 3 cy_2 := ⟨rfl, fun w h => by
  obtain ⟨k, hk, rfl⟩ := List.mem_map.mp h
  exact cw_2 k (List.mem_range.mp hk), by decide +kernel, by decide +kernel⟩
theorem cb_2 : ∀ j, j < 3 → defaultValue (cy_2 j) = vp_V cd_2 j := by decide +kernel
theorem cw_3 : ∀ k, k < 10 → u_lay "PromiseVats$VatObject" ct_3 k ∈ tb_ := by
  intro k hk
  match k, hk with
  | 0, _ => exact tb_in 129 (by decide +kernel) rfl
  | 1, _ => exact tb_in 131 (by decide +kernel) rfl
  | 2, _ => exact tb_in 133 (by decide +kernel) rfl
  | 3, _ => exact tb_in 135 (by decide +kernel) rfl
  | 4, _ => exact tb_in 137 (by decide +kernel) rfl
  | 5, _ => exact tb_in 139 (by decide +kernel) rfl
  | 6, _ => exact tb_in 141 (by decide +kernel) rfl
  | 7, _ => exact tb_in 143 (by decide +kernel) rfl
  | 8, _ => exact tb_in 145 (by decide +kernel) rfl
  | 9, _ => exact tb_in 147 (by decide +kernel) rfl
  | k + 10, hk => exact absurd hk (by omega)
theorem cf_3 : cf_ cl_ tb_ 3 "PromiseVats$VatObject" ct_3 10 cy_3 := ⟨rfl, fun w h => by
  obtain ⟨k, hk, rfl⟩ := List.mem_map.mp h
  exact cw_3 k (List.mem_range.mp hk), by decide +kernel, by decide +kernel⟩
theorem cb_3 : ∀ j, j < 10 → defaultValue (cy_3 j) = vp_V cd_3 j := by decide +kernel
theorem cw_4 : ∀ k, k < 10 → u_lay "PromiseVats$Promise" ct_4 k ∈ tb_ := by
  intro k hk
  match k, hk with
  | 0, _ => exact tb_in 459 (by decide +kernel) rfl
  | 1, _ => exact tb_in 461 (by decide +kernel) rfl
  | 2, _ => exact tb_in 463 (by decide +kernel) rfl
  | 3, _ => exact tb_in 465 (by decide +kernel) rfl
  | 4, _ => exact tb_in 466 (by decide +kernel) rfl
  | 5, _ => exact tb_in 467 (by decide +kernel) rfl
  | 6, _ => exact tb_in 468 (by decide +kernel) rfl
  | 7, _ => exact tb_in 469 (by decide +kernel) rfl
  | 8, _ => exact tb_in 470 (by decide +kernel) rfl
  | 9, _ => exact tb_in 471 (by decide +kernel) rfl
  | k + 10, hk => exact absurd hk (by omega)
theorem cf_4 : cf_ cl_ tb_ 4 "PromiseVats$Promise" ct_4 10 cy_4 := ⟨rfl, fun w h => by
  obtain ⟨k, hk, rfl⟩ := List.mem_map.mp h
  exact cw_4 k (List.mem_range.mp hk), by decide +kernel, by decide +kernel⟩
theorem cb_4 : ∀ j, j < 10 → defaultValue (cy_4 j) = vp_V cd_4 j := by decide +kernel
theorem cw_5 : ∀ k, k < 5 → u_lay "PromiseVats$Vat" ct_5 k ∈ tb_ := by
  intro k hk
  match k, hk with
  | 0, _ => exact tb_in 205 (by decide +kernel) rfl
  | 1, _ => exact tb_in 207 (by decide +kernel) rfl
  | 2, _ => exact tb_in 209 (by decide +kernel) rfl
  | 3, _ => exact tb_in 211 (by decide +kernel) rfl
  | 4, _ => exact tb_in 213 (by decide +kernel) rfl
  | k + 5, hk => exact absurd hk (by omega)
theorem cf_5 : cf_ cl_ tb_ 5 "PromiseVats$Vat" ct_5 5 cy_5 := ⟨rfl, fun w h => by
  obtain ⟨k, hk, rfl⟩ := List.mem_map.mp h
  exact cw_5 k (List.mem_range.mp hk), by decide +kernel, by decide +kernel⟩
theorem cb_5 : ∀ j, j < 5 → defaultValue (cy_5 j) = vp_V cd_5 j := by decide +kernel
theorem cw_6 : ∀ k, k < 3 → u_lay "java/util/ArrayList" ct_6 k ∈ tb_ := by
  intro k hk
  match k, hk with
  | 0, _ => exact tb_in 174 (by decide +kernel) rfl
  | 1, _ => exact tb_in 176 (by decide +kernel) rfl
  | 2, _ => exact tb_in 178 (by decide +kernel) rfl
  | k + 3, hk => exact absurd hk (by omega)
theorem cf_6 : cf_ cl_ tb_ 6 "java/util/ArrayList" ct_6 3 cy_6 := ⟨rfl, fun w h => by
  obtain ⟨k, hk, rfl⟩ := List.mem_map.mp h
  exact cw_6 k (List.mem_range.mp hk), by decide +kernel, by decide +kernel⟩
theorem cb_6 : ∀ j, j < 3 → defaultValue (cy_6 j) = vp_V cd_6 j := by decide +kernel
theorem cw_7 : ∀ k, k < 1 → u_lay "PromiseVats$Channel" ct_7 k ∈ tb_ := by
  intro k hk
  match k, hk with
  | 0, _ => exact tb_in 192 (by decide +kernel) rfl
  | k + 1, hk => exact absurd hk (by omega)
theorem cf_7 : cf_ cl_ tb_ 7 "PromiseVats$Channel" ct_7 1 cy_7 := ⟨rfl, fun w h => by
  obtain ⟨k, hk, rfl⟩ := List.mem_map.mp h
  exact cw_7 k (List.mem_range.mp hk), by decide +kernel, by decide +kernel⟩
theorem cb_7 : ∀ j, j < 1 → defaultValue (cy_7 j) = vp_V cd_7 j := by decide +kernel
theorem cw_8 : ∀ k, k < 4 → u_lay "PromiseVats$Call" ct_8 k ∈ tb_ := by
  intro k hk
  match k, hk with
  | 0, _ => exact tb_in 295 (by decide +kernel) rfl
  | 1, _ => exact tb_in 297 (by decide +kernel) rfl
  | 2, _ => exact tb_in 299 (by decide +kernel) rfl
  | 3, _ => exact tb_in 301 (by decide +kernel) rfl
  | k + 4, hk => exact absurd hk (by omega)
theorem cf_8 : cf_ cl_ tb_ 8 "PromiseVats$Call" ct_8 4 cy_8 := ⟨rfl, fun w h => by
  obtain ⟨k, hk, rfl⟩ := List.mem_map.mp h
  exact cw_8 k (List.mem_range.mp hk), by decide +kernel, by decide +kernel⟩
theorem cb_8 : ∀ j, j < 4 → defaultValue (cy_8 j) = vp_V cd_8 j := by decide +kernel
theorem cw_9 : ∀ k, k < 5 → u_lay "PromiseVats$Message" ct_9 k ∈ tb_ := by
  intro k hk
  match k, hk with
  | 0, _ => exact tb_in 393 (by decide +kernel) rfl
  | 1, _ => exact tb_in 395 (by decide +kernel) rfl
  | 2, _ => exact tb_in 397 (by decide +kernel) rfl
  | 3, _ => exact tb_in 399 (by decide +kernel) rfl
  | 4, _ => exact tb_in 401 (by decide +kernel) rfl
  | k + 5, hk => exact absurd hk (by omega)
theorem cf_9 : cf_ cl_ tb_ 9 "PromiseVats$Message" ct_9 5 cy_9 := ⟨rfl, fun w h => by
  obtain ⟨k, hk, rfl⟩ := List.mem_map.mp h
  exact cw_9 k (List.mem_range.mp hk), by decide +kernel, by decide +kernel⟩
theorem cb_9 : ∀ j, j < 5 → defaultValue (cy_9 j) = vp_V cd_9 j := by decide +kernel
theorem cw_10 : ∀ k, k < 36 → u_lay "PromiseVatsModel" ct_10 k ∈ tb_ := by
  intro k hk
  match k, hk with
  | 0, _ => exact tb_in 682 (by decide +kernel) rfl
  | 1, _ => exact tb_in 684 (by decide +kernel) rfl
  | 2, _ => exact tb_in 686 (by decide +kernel) rfl
  | 3, _ => exact tb_in 688 (by decide +kernel) rfl
  | 4, _ => exact tb_in 690 (by decide +kernel) rfl
  | 5, _ => exact tb_in 692 (by decide +kernel) rfl
  | 6, _ => exact tb_in 694 (by decide +kernel) rfl
  | 7, _ => exact tb_in 696 (by decide +kernel) rfl
  | 8, _ => exact tb_in 698 (by decide +kernel) rfl
  | 9, _ => exact tb_in 700 (by decide +kernel) rfl
  | 10, _ => exact tb_in 702 (by decide +kernel) rfl
  | 11, _ => exact tb_in 704 (by decide +kernel) rfl
  | 12, _ => exact tb_in 706 (by decide +kernel) rfl
  | 13, _ => exact tb_in 708 (by decide +kernel) rfl
  | 14, _ => exact tb_in 710 (by decide +kernel) rfl
  | 15, _ => exact tb_in 712 (by decide +kernel) rfl
  | 16, _ => exact tb_in 714 (by decide +kernel) rfl
  | 17, _ => exact tb_in 716 (by decide +kernel) rfl
  | 18, _ => exact tb_in 718 (by decide +kernel) rfl
  | 19, _ => exact tb_in 720 (by decide +kernel) rfl
  | 20, _ => exact tb_in 722 (by decide +kernel) rfl
  | 21, _ => exact tb_in 724 (by decide +kernel) rfl
  | 22, _ => exact tb_in 726 (by decide +kernel) rfl
  | 23, _ => exact tb_in 728 (by decide +kernel) rfl
  | 24, _ => exact tb_in 730 (by decide +kernel) rfl
  | 25, _ => exact tb_in 732 (by decide +kernel) rfl
  | 26, _ => exact tb_in 734 (by decide +kernel) rfl
  | 27, _ => exact tb_in 736 (by decide +kernel) rfl
  | 28, _ => exact tb_in 738 (by decide +kernel) rfl
  | 29, _ => exact tb_in 740 (by decide +kernel) rfl
  | 30, _ => exact tb_in 742 (by decide +kernel) rfl
  | 31, _ => exact tb_in 744 (by decide +kernel) rfl
  | 32, _ => exact tb_in 746 (by decide +kernel) rfl
  | 33, _ => exact tb_in 748 (by decide +kernel) rfl
  | 34, _ => exact tb_in 750 (by decide +kernel) rfl
  | 35, _ => exact tb_in 752 (by decide +kernel) rfl
  | k + 36, hk => exact absurd hk (by omega)
theorem cf_10 : cf_ cl_ tb_ 10 "PromiseVatsModel" ct_10 36 cy_10 := ⟨rfl, fun w h => by
  obtain ⟨k, hk, rfl⟩ := List.mem_map.mp h
  exact cw_10 k (List.mem_range.mp hk), by decide +kernel, by decide +kernel⟩
theorem cb_10 : ∀ j, j < 36 → defaultValue (cy_10 j) = vp_V cd_10 j := by decide +kernel
def ca_ : List (String × String) := [("PromiseVats$Promise", "PromiseVats$Promise"), ("PromiseVats$Call", "PromiseVats$Call"), ("PromiseVats$VatObject", "PromiseVats$VatObject"), ("PromiseVats$Message", "PromiseVats$Message"), ("PromiseVats", "java/lang/Object"), ("PromiseVats$Turn", "java/lang/Object"), ("PromiseVats$Program", "java/lang/Object"), ("PromiseVats$VatObject", "java/lang/Object"), ("PromiseVats$Vat", "java/lang/Object"), ("PromiseVats$Channel", "java/lang/Object"), ("PromiseVatsModel", "java/lang/Object"), ("PromiseVats$Call", "java/lang/Object"), ("PromiseVats$Message", "java/lang/Object"), ("PromiseVats$Promise", "java/lang/Object"), ("PromiseVats$Promise", "PromiseVats$Entity"), ("PromiseVats$VatObject", "PromiseVats$Entity")]
def nc_ : List (String × String) := [("PromiseVats", "PromiseVats$Promise"), ("PromiseVats$Turn", "PromiseVats$Promise"), ("PromiseVats$Program", "PromiseVats$Promise"), ("PromiseVats$VatObject", "PromiseVats$Promise"), ("PromiseVats$Vat", "PromiseVats$Promise"), ("java/util/ArrayList", "PromiseVats$Promise"), ("PromiseVats$Channel", "PromiseVats$Promise"), ("PromiseVatsModel", "PromiseVats$Promise"), ("PromiseVats$Call", "PromiseVats$Promise"), ("PromiseVats$Message", "PromiseVats$Promise"), ("PromiseVats", "PromiseVats$VatObject"), ("PromiseVats$Turn", "PromiseVats$VatObject"), ("PromiseVats$Program", "PromiseVats$VatObject"), ("PromiseVats$Vat", "PromiseVats$VatObject"), ("java/util/ArrayList", "PromiseVats$VatObject"), ("PromiseVats$Channel", "PromiseVats$VatObject"), ("PromiseVatsModel", "PromiseVats$VatObject"), ("PromiseVats$Call", "PromiseVats$VatObject"), ("PromiseVats$Message", "PromiseVats$VatObject"), ("PromiseVats$Promise", "PromiseVats$VatObject")]
def ao_ : List String := ["PromiseVats$Vat", "PromiseVats$Program", "PromiseVats$Entity", "PromiseVats$Promise", "PromiseVats$Channel", "java/lang/Object"]
def nl_ : List (String × Nat × MethodName × String) := [("PromiseVats", 38, ⟨"PromiseVats$Turn", "<init>", "()V"⟩, "PromiseVats"), ("PromiseVats", 52, ⟨"PromiseVats$Program", "<init>", "()V"⟩, "PromiseVats"), ("PromiseVats$Vat", 32, ⟨"PromiseVats$Channel", "<init>", "()V"⟩, "PromiseVats")]
/-- what is fixed at the start: the empty row of all empty lists, the class object of Object[], the script's cell, its length, its ints -/
abbrev gl_T : Type := Nat × Nat × Nat × Nat × (Nat → Int32)
def kn_ (D : va_G) (ac : Nat → ClassId) (a0 : Nat) (gl : gl_T) (U : State) : Prop :=
  va_K D cl_ (ty_ ac) U ∧ (∀ q ∈ ca_, va_Nw (.castable q.1 q.2) U) ∧ (∀ q ∈ nc_, va_Nc q.1 q.2 U) ∧ (∀ C ∈ ao_, va_AO C U) ∧ (∀ q ∈ nl_, va_Nw (.methodLinkNest q.1 q.2.1 q.2.2.1 q.2.2.2) U) ∧
  va_Z "java/util/ArrayList" "DEFAULTCAPACITY_EMPTY_ELEMENTDATA" "[Ljava/lang/Object;" (.ref gl.1) (fun q => a0 ≤ q) U U.heap ∧ va_T (.object "java/lang/Object") gl.1 0 (fun _ => .null) (fun q => a0 ≤ q) U U.heap ∧
  va_Mi "[Ljava/lang/Object;" gl.2.1 U ∧ va_Dc U ∧ va_X gl.2.2.1 gl.2.2.2.1 gl.2.2.2.2 U U.heap ∧ gl.2.2.1 < a0 ∧ a0 ≤ U.heap.size
theorem kn_go {D : va_G} {ac : Nat → ClassId} {a0 : Nat} {gl : gl_T} {u U : State} (h : kn_ D ac a0 gl u) (hal : u.vm.Alike U.vm) (hc : ∀ q ∈ ca_, va_Nw (.castable q.1 q.2) u → va_Nw (.castable q.1 q.2) U) (hn : ∀ q ∈ nl_, va_Nw (.methodLinkNest q.1 q.2.1 q.2.2.1 q.2.2.2) u → va_Nw (.methodLinkNest q.1 q.2.1 q.2.2.1 q.2.2.2) U)
    (hH : ∀ q : Nat, q < u.heap.size → ¬ a0 ≤ q → U.heap[q]? = u.heap[q]?) (hz : u.heap.size ≤ U.heap.size) : kn_ D ac a0 gl U := by
  obtain ⟨k1, k2, k3, k4, k5, k6, k7, k8, k9, k10, k11, k12⟩ := h
  exact ⟨k1.moved hal, fun q hq => hc q hq (k2 q hq), fun q hq => (k3 q hq).moved hal, fun C hC => (k4 C hC).moved hal, fun q hq => hn q hq (k5 q hq), (k6.moved hal).kept hH, (k7.moved hal).kept hH, k8.moved hal, k9.moved hal, (k10.moved hal).kept (hH _ (by omega) (by omega)), k11, by omega⟩
theorem kn_ok (D : va_G) (ac : Nat → ClassId) (a0 : Nat) (gl : gl_T) : kk_ D cl_ (ty_ ac) a0 (kn_ D ac a0 gl) := by
  refine ⟨fun U h => h.1, fun a U g mk h => ?_, fun s U H locs h hS hU hW => ?_⟩
  · exact kn_go h (Vm.Alike.refl U.vm) (fun q _ z => va_Nw.same rfl rfl z) (fun q _ z => va_Nw.same rfl rfl z) (fun q _ _ => rfl) (Nat.le_refl _)
  · subst hU
    exact kn_go h hW.alike (fun q _ z => va_Nw.warmC hW z) (fun q _ z => va_Nw.warmM hW z) hS.2.1 hS.1
end
section
/-! rows of the claim: rows of bytes, booleans and shorts; a class's own private constructor; lengths of lists' rows; statics; copies; class objects -/
section RRE
variable {p : Program} {l : Launch} {e : Env} {R : Room} {s : State} {m : MethodId} {args : Array Value} {below : List Frame} {meth : Method} {c : Code} {H : Heap} {locs : List Loc} {cells slots : Nat} {Q : State → Prop}
variable {cc : ByteArray} {pc nL : Nat} {ls : Array Slot} {rest st0 : List Value} {D : va_G} {cl : List vw_C} {ac : Nat → ClassId} {tys : List (ClassId × FieldType)} {a0 : Nat} {H0 : Heap} {st st' : st_S} {own : String} {tb : List Cond} {K : State → Prop}
variable {index n maxL fr lo i j : Nat} {y : MethodName} {bytes : ByteArray} {ret : Option FieldType} {As : List Value} {rv : Option Value}
theorem rr_bald {t : Nat} {r : Option Nat} {x y : Int32} (X : cx_ p s m args c cc nL own tb D cl tys) (hw : ww_ D cl ac a0 st H0 H locs) (ht : tys[t]? = some (ac t, .byte)) (hv : so_li r t x st = some y) (hdg : decode cc pc = .ok (.baload, 1))
    (kk : W p l e R s m args below meth c H locs cells slots Q (F0 m (pc + 1) ls (.int y :: rest))) : W p l e R s m args below meth c H locs cells slots Q (F0 m pc ls (.int x :: va_rf r :: rest)) := by
  obtain ⟨a, n, f, rfl, ha, hin, rfl⟩ := so_li_some hv
  have hP : va_P D cl [(a, .inl (ac t, n, .inl f))] H := va_P1 (hw.1.2.2 a _ ha).2
  exact va_bald X.1 X.2.1 X.2.2.2.2.2 hP 0 t rfl ht hin hdg kk
theorem rr_zald {t : Nat} {r : Option Nat} {x y : Int32} (X : cx_ p s m args c cc nL own tb D cl tys) (hw : ww_ D cl ac a0 st H0 H locs) (ht : tys[t]? = some (ac t, .boolean)) (hv : so_li r t x st = some y) (hdg : decode cc pc = .ok (.baload, 1))
    (kk : W p l e R s m args below meth c H locs cells slots Q (F0 m (pc + 1) ls (.int y :: rest))) : W p l e R s m args below meth c H locs cells slots Q (F0 m pc ls (.int x :: va_rf r :: rest)) := by
  obtain ⟨a, n, f, rfl, ha, hin, rfl⟩ := so_li_some hv
  have hP : va_P D cl [(a, .inl (ac t, n, .inl f))] H := va_P1 (hw.1.2.2 a _ ha).2
  exact va_zald X.1 X.2.1 X.2.2.2.2.2 hP 0 t rfl ht hin hdg kk
theorem rr_sald {t : Nat} {r : Option Nat} {x y : Int32} (X : cx_ p s m args c cc nL own tb D cl tys) (hw : ww_ D cl ac a0 st H0 H locs) (ht : tys[t]? = some (ac t, .short)) (hv : so_li r t x st = some y) (hdg : decode cc pc = .ok (.saload, 1))
    (kk : W p l e R s m args below meth c H locs cells slots Q (F0 m (pc + 1) ls (.int y :: rest))) : W p l e R s m args below meth c H locs cells slots Q (F0 m pc ls (.int x :: va_rf r :: rest)) := by
  obtain ⟨a, n, f, rfl, ha, hin, rfl⟩ := so_li_some hv
  have hP : va_P D cl [(a, .inl (ac t, n, .inl f))] H := va_P1 (hw.1.2.2 a _ ha).2
  exact va_sald X.1 X.2.1 X.2.2.2.2.2 hP 0 t rfl ht hin hdg kk
theorem rr_cell {t n : Nat} {f : Nat → Int32} {x z : Int32} {a : Nat} {H1 : Heap} (e1 : H1[a]? = some ((vp_cell (ac t) (n, .inl f)).setSlot x.toNatClampNeg (.int z))) : va_at D cl (a, ce_v ac (.inl (t, n, upd f x.toNatClampNeg z))) H1 := by
  show H1[a]? = some (vp_cell _ _)
  rw [e1, vp_cell_i, vp_cell_i, arrV_store]
  congr 2
  funext q
  by_cases hq : q = x.toNatClampNeg
  · subst hq
    simp [updV, upd]
  · simp [updV, upd, hq]
theorem rr_bast {t : Nat} {r : Option Nat} {x y : Int32} (X : cx_ p s m args c cc nL own tb D cl tys) (hw : ww_ D cl ac a0 st H0 H locs) (ht : tys[t]? = some (ac t, .byte)) (hv : so_si r t x y.toInt8.toInt32 st = some st') (hdg : decode cc pc = .ok (.bastore, 1))
    (kk : ∀ (H1 : Heap) (locs1 : List Loc), ww_ D cl ac a0 st' H0 H1 locs1 → W p l e R s m args below meth c H1 locs1 cells slots Q (F0 m (pc + 1) ls rest)) : W p l e R s m args below meth c H locs cells slots Q (F0 m pc ls (.int y :: .int x :: va_rf r :: rest)) := by
  obtain ⟨a, n, f, rfl, ha, hin, rfl⟩ := so_si_some hv
  have hat := hw.1.2.2 a _ ha
  have ha0 : a0 ≤ a := hat.1.elim id (fun ⟨_, _, z⟩ => by cases z)
  have hc : H[a]? = some (vp_cell (ac t) (n, .inl f)) := hat.2
  refine W.bast X.1 X.2.1 hc ((X.2.2.2.2.2.2 t _ ht).1 n (fun j => .int (f j))) (fun q => by cases q) (by show ¬ (x < 0 ∨ (arrV _ _ _).slots.size ≤ _); rw [arrV_size]; exact hin) rfl rfl hdg fun H1 e1 z oq => ?_
  exact kk H1 _ ⟨wd_up hw.1 (rr_cell e1) z oq ha0, va_S.put hw.2.1 z oq ha0, hw.2.2⟩
theorem rr_sast {t : Nat} {r : Option Nat} {x y : Int32} (X : cx_ p s m args c cc nL own tb D cl tys) (hw : ww_ D cl ac a0 st H0 H locs) (ht : tys[t]? = some (ac t, .short)) (hv : so_si r t x y.toInt16.toInt32 st = some st') (hdg : decode cc pc = .ok (.sastore, 1))
    (kk : ∀ (H1 : Heap) (locs1 : List Loc), ww_ D cl ac a0 st' H0 H1 locs1 → W p l e R s m args below meth c H1 locs1 cells slots Q (F0 m (pc + 1) ls rest)) : W p l e R s m args below meth c H locs cells slots Q (F0 m pc ls (.int y :: .int x :: va_rf r :: rest)) := by
  obtain ⟨a, n, f, rfl, ha, hin, rfl⟩ := so_si_some hv
  have hat := hw.1.2.2 a _ ha
  have ha0 : a0 ≤ a := hat.1.elim id (fun ⟨_, _, z⟩ => by cases z)
  have hc : H[a]? = some (vp_cell (ac t) (n, .inl f)) := hat.2
  refine W.sast X.1 X.2.1 hc ((X.2.2.2.2.2.2 t _ ht).1 n (fun j => .int (f j))) (fun q => by cases q) (by show ¬ (x < 0 ∨ (arrV _ _ _).slots.size ≤ _); rw [arrV_size]; exact hin) rfl rfl hdg fun H1 e1 z oq => ?_
  exact kk H1 _ ⟨wd_up hw.1 (rr_cell e1) z oq ha0, va_S.put hw.2.1 z oq ha0, hw.2.2⟩
theorem rr_zast {t : Nat} {r : Option Nat} {x y : Int32} {u : Unit} (X : cx_ p s m args c cc nL own tb D cl tys) (hw : ww_ D cl ac a0 st H0 H locs) (ht : tys[t]? = some (ac t, .boolean)) (hz : so_z y st = some u) (hv : so_si r t x y st = some st') (hdg : decode cc pc = .ok (.bastore, 1))
    (kk : ∀ (H1 : Heap) (locs1 : List Loc), ww_ D cl ac a0 st' H0 H1 locs1 → W p l e R s m args below meth c H1 locs1 cells slots Q (F0 m (pc + 1) ls rest)) : W p l e R s m args below meth c H locs cells slots Q (F0 m pc ls (.int y :: .int x :: va_rf r :: rest)) := by
  obtain ⟨a, n, f, rfl, ha, hin, rfl⟩ := so_si_some hv
  have hat := hw.1.2.2 a _ ha
  have ha0 : a0 ≤ a := hat.1.elim id (fun ⟨_, _, z⟩ => by cases z)
  have hc : H[a]? = some (vp_cell (ac t) (n, .inl f)) := hat.2
  refine W.zast X.1 X.2.1 hc ((X.2.2.2.2.2.2 t _ ht).1 n (fun j => .int (f j))) (fun q => by cases q) (by show ¬ (x < 0 ∨ (arrV _ _ _).slots.size ≤ _); rw [arrV_size]; exact hin) rfl rfl hdg fun H1 e1 z oq => ?_
  rw [so_z_n hz] at e1
  exact kk H1 _ ⟨wd_up hw.1 (rr_cell e1) z oq ha0, va_S.put hw.2.1 z oq ha0, hw.2.2⟩
/-- a new row of a small type -/
theorem rr_newp {t N : Nat} {x : Int32} {atype : ArrayType} {ty : FieldType} (X : cx_ p s m args c cc nL own tb D cl tys) (hw : ww_ D cl ac a0 st H0 H locs) (hty : newarray.typeOf atype = ty) (ht : tys[t]? = some (ac t, ty)) (hra : va_RA s (ac t) ty → s.vm.findClass ("[" ++ ty.toString) = some (ac t)) (hdf : defaultValue ty = .int 0) (hn : ¬ x < 0) (hN : x.toNatClampNeg = N) (hbytes : N * componentBytes ty ≤ 536870912)
    (harr : Cond.arrayClass ty ∈ tb) (hr : cells + 1 ≤ R.cells ∧ slots + N ≤ R.slots) (hdg : decode cc pc = .ok (.newarray atype, 2))
    (kk : ∀ H1 : Heap, ww_ D cl ac a0 (st_ad st (.inl (t, N, fun _ => 0))) H0 H1 locs → W p l e R s m args below meth c H1 locs (cells + 1) (slots + N) Q (F0 m (pc + 2) ls (va_rf (some st.2) :: rest))) : W p l e R s m args below meth c H locs cells slots Q (F0 m pc ls (.int x :: rest)) := by
  subst hty
  obtain ⟨x1, x2, x3, x4, x5, x6⟩ := X
  refine va_newaK (atype := atype) x1 x2 (x5 _ harr) rfl hdg rfl hn hN hbytes hr.1 hr.2 hw.1.1 fun H1 cA e1 z1 o1 hAr hNm => ?_
  have hNm2 := hra (x6.2 t _ ht).2
  have hcA : cA = ac t := Option.some.inj (hNm.symm.trans hNm2)
  subst hcA
  refine kk H1 ⟨wd_ad hw.1 ?_ z1 o1, ⟨?_, ?_, hw.2.1.2.2⟩, hw.2.2⟩
  · rw [hdf] at e1
    exact e1
  · have h1 := hw.2.1.1
    have h2 := hw.1.1
    omega
  · intro q h1 h2
    have h3 := hw.2.1.1
    have h4 := hw.1.1
    exact (o1 q (by omega)).trans (hw.2.1.2.1 q h1 h2)
/-- a private constructor of a nest mate -/
theorem rr_callN {b : Nat} {host : String} (X : cx_ p s m args c cc nL own tb D cl tys) (hw : ww_ D cl ac a0 st s.heap H locs) (hK : kk_ D cl tys a0 K) (hKs : K s) (hM : ct_ l y (Cond.code y bytes maxL none :: tb) fr lo D cl ac a0 K (va_rf (some b) :: As) st rv st' i j)
    (hG : GoodIn tb tb) (hcode : Cond.code y bytes maxL none ∈ tb) (hini : Cond.initialized y.cls ∈ tb) (hlink : va_Nw (.methodLinkNest own index y host) s) (hinst : Cond.instanceMethod y ∈ tb) (hy1 : y.name = "<init>")
    (hd : y.cls ≠ "java/lang/invoke/MethodHandle" ∧ y.cls ≠ "java/lang/invoke/VarHandle" ∧ (parseMethodDescriptor y.desc).map (fun d => d.parameters.length) = some n) (hn : As.length = n)
    (hR : fr + 1 ≤ R.frames ∧ 8 + (maxL + 11) + lo ≤ R.locals) (hT : cells + i ≤ R.cells ∧ slots + j ≤ R.slots) (hls : ls.size = nL) (hrm : (rest.map fun v => v.category).sum ≤ 8) (hst : st0 = As.reverse ++ va_rf (some b) :: rest) (hdg : decode cc pc = .ok (.invokespecial index, 3))
    {sk : List Value} (hsk : rv.toList ++ rest = sk) (kk : ∀ (H1 : Heap) (locs1 : List Loc), ww_ D cl ac a0 st' s.heap H1 locs1 → W p l e R s m args below meth c H1 locs1 (cells + i) (slots + j) Q (F0 m (pc + 3) ls sk)) : W p l e R s m args below meth c H locs cells slots Q (F0 m pc ls st0) := by
  obtain ⟨x1, x2, x3, x4, x5, x6⟩ := X
  subst hst hsk
  exact ct_go (va_runIN (b := b) (As := As) (rest := rest) (host := host) ⟨x1, x2, x3, x4, x5⟩ hM ⟨va_cnB n x5 (gi_c hG hcode) rfl rfl rfl hlink (x5 _ hini) hd hR, hy1, x5 _ hinst⟩ (ct_pre hK hKs hw (va_rf (some b) :: As)) rfl hn hls rfl (lv_room hrm) hdg hT) hw kk
end RRE
end
section
/-! rows that rest on what a contract knows of the start -/
theorem ar_1 {c i k i2 T : Nat} (h : c + i = T) (e : i = k + i2) : c + k ≤ T := by omega
theorem ar_2 {c i k i2 T : Nat} (h : c + i = T) (e : i = k + i2) : c + k + i2 = T := by omega
theorem ar_4b {N : Nat} (h : N * 4 ≤ 536870912) : N * 1 ≤ 536870912 := by omega
theorem ar_4s {N : Nat} (h : N * 4 ≤ 536870912) : N * 2 ≤ 536870912 := by omega
theorem ic_cat (x : Int32) : (Value.int x).category = 1 := rfl
theorem as_of {D : va_G} {ac : Nat → ClassId} {a0 : Nat} {gl : gl_T} {s : State} (hKs : kn_ D ac a0 gl s) {ci : Nat} {q : vw_C} {E : String} (hq : cl_[ci]? = some q) (h : q.1 = E ∨ (q.1, E) ∈ ca_) : ∀ comp c0 : ClassId, s.vm.findClass E = some comp → s.vm.findClass q.1 = some c0 → s.vm.assignable c0 comp = true := by
  intro comp c0 h1 h2
  rcases h with h | h
  · rw [← h] at h1
    have hcls := (hKs.1.1 ci q hq).2
    cases hcls.1.symm.trans h1
    cases h1.symm.trans h2
    exact va_assign hcls
  · obtain ⟨c1, t1, f1, f2, f3⟩ := Cond.castable_spec (va_Nw.use (A := #[]) rfl (hKs.2.1 _ h))
    cases h2.symm.trans f1
    cases h1.symm.trans f2
    exact f3
section RRF
variable {p : Program} {l : Launch} {e : Env} {R : Room} {s : State} {m : MethodId} {args : Array Value} {below : List Frame} {meth : Method} {c : Code} {H : Heap} {locs : List Loc} {cells slots : Nat} {Q : State → Prop}
variable {cc : ByteArray} {pc nL : Nat} {ls : Array Slot} {rest st0 : List Value} {D : va_G} {ac : Nat → ClassId} {a0 : Nat} {gl : gl_T} {st st' : st_S} {own : String} {tb : List Cond}
variable {index n maxL fr lo i j : Nat}
theorem rr_ed (X : cx_ p s m args c cc nL own tb D cl_ (ty_ ac)) (hKs : kn_ D ac a0 gl s) (hw : ww_ D cl_ ac a0 st s.heap H locs) (hlink : Cond.fieldLink own index "java/util/ArrayList" "DEFAULTCAPACITY_EMPTY_ELEMENTDATA" "[Ljava/lang/Object;" ∈ tb) (hdg : decode cc pc = .ok (.getstatic index, 3))
    (kk : W p l e R s m args below meth c H locs cells slots Q (F0 m (pc + 3) ls (va_rf (some gl.1) :: rest))) : W p l e R s m args below meth c H locs cells slots Q (F0 m pc ls rest) :=
  va_gets X.1 X.2.1 hKs.2.2.2.2.2.1 hw.2.1 X.2.2.2.1 (X.2.2.2.2.1 _ hlink) (fun _ h => h) hdg kk
/-- the length of a list's row: the empty row of all empty lists is known apart -/
def so_ne (gl : gl_T) (r : Option Nat) (ts : List Nat) (st : st_S) : Option Int32 := if r = some gl.1 then some 0 else so_n r ts st
theorem rr_alne {ts : List Nat} {r : Option Nat} {x : Int32} (X : cx_ p s m args c cc nL own tb D cl_ (ty_ ac)) (hKs : kn_ D ac a0 gl s) (hw : ww_ D cl_ ac a0 st s.heap H locs) (ht : ∀ t ∈ ts, ∃ E : FieldType, (ty_ ac)[t]? = some (ac t, E)) (hv : so_ne gl r ts st = some x) (hdg : decode cc pc = .ok (.arraylength, 1))
    (kk : W p l e R s m args below meth c H locs cells slots Q (F0 m (pc + 1) ls (.int x :: rest))) : W p l e R s m args below meth c H locs cells slots Q (F0 m pc ls (va_rf r :: rest)) := by
  unfold so_ne at hv
  split at hv
  · rename_i hr
    subst hr
    cases hv
    exact va_tlen X.1 X.2.1 hKs.2.2.2.2.2.2.1 hw.2.1 rfl hdg kk
  · exact rr_alen X hw ht hv hdg kk
theorem rr_mi (X : cx_ p s m args c cc nL own tb D cl_ (ty_ ac)) (hKs : kn_ D ac a0 gl s) (hlink : Cond.classLink own index "[Ljava/lang/Object;" ∈ tb) (hdg : decode cc pc = .ok (.ldc index, 2))
    (kk : W p l e R s m args below meth c H locs cells slots Q (F0 m (pc + 2) ls (va_rf (some gl.2.1) :: rest))) : W p l e R s m args below meth c H locs cells slots Q (F0 m pc ls rest) :=
  va_ldcM X.1 X.2.1 X.2.2.2.1 (X.2.2.2.2.1 _ hlink) hKs.2.2.2.2.2.2.2.1 hdg kk
/-- a row of Object -/
def so_ro (r : Option Nat) (t : Nat) (st : st_S) : Option Unit := match r with
  | none => none
  | some a => match st.1 a with
    | some (.inr (.inl o)) => if o.1 = t ∧ 0 < o.2.1 then some () else none
    | _ => none
theorem so_ro_some {r : Option Nat} {t : Nat} {u : Unit} (h : so_ro r t st = some u) : ∃ (a n : Nat) (f : Nat → Option Nat), r = some a ∧ st.1 a = some (.inr (.inl (t, n, f))) ∧ 0 < n := by
  unfold so_ro at h
  split at h
  · cases h
  · rename_i a
    split at h
    · rename_i o ho
      obtain ⟨t', n, f⟩ := o
      split at h
      · rename_i hc
        obtain ⟨rfl, h1⟩ := hc
        exact ⟨a, n, f, rfl, ho, h1⟩
      · cases h
    · cases h
/-- getClass() of a list's row -/
theorem rr_gc {r : Option Nat} {u : Unit} (X : cx_ p s m args c cc nL own tb D cl_ (ty_ ac)) (hKs : kn_ D ac a0 gl s) (hw : ww_ D cl_ ac a0 st s.heap H locs) (hv : so_ro r 9 st = some u) (hls : ls.size = nL) (hlink : Cond.methodLink own index ⟨"java/lang/Object", "getClass", "()Ljava/lang/Class;"⟩ ∈ tb)
    (hsel : Cond.selects "[Ljava/lang/Object;" ⟨"java/lang/Object", "getClass", "()Ljava/lang/Class;"⟩ ⟨"java/lang/Object", "getClass", "()Ljava/lang/Class;"⟩ ∈ tb) (hinst : Cond.instanceMethod ⟨"java/lang/Object", "getClass", "()Ljava/lang/Class;"⟩ ∈ tb) (hnat : Cond.native ⟨"java/lang/Object", "getClass", "()Ljava/lang/Class;"⟩ ∈ tb)
    (hfr : 1 ≤ R.frames) (hlo : (rest.map fun v => v.category).sum + 14 ≤ R.locals) (hdg : decode cc pc = .ok (.invokevirtual index, 3))
    (kk : W p l e R s m args below meth c H locs cells slots Q (F0 m (pc + 3) ls (va_rf (some gl.2.1) :: rest))) : W p l e R s m args below meth c H locs cells slots Q (F0 m pc ls (va_rf r :: rest)) := by
  obtain ⟨a, n, f, rfl, ha, hn⟩ := so_ro_some hv
  obtain ⟨x1, x2, x3, x4, x5, x6⟩ := X
  have hc : H[a]? = some (vp_cell (ac 9) (n, .inr (.inr (.inr (.inr f))))) := (hw.1.2.2 a _ ha).2
  have hnm : s.vm.findClass "[Ljava/lang/Object;" = some (ac 9) := va_nmO (C := "java/lang/Object") (x6.2 9 (ac 9, .object "java/lang/Object") rfl).2 (by decide +kernel)
  exact va_getC x1 x2 (x3.trans hls.symm) x4 (x5 _ hlink) (va_Dc.use hKs.2.2.2.2.2.2.2.2.1) (x5 _ hsel) (x5 _ hinst) (x5 _ hnat) hKs.2.2.2.2.2.2.2.1 ⟨_, hc, rfl, hnm⟩ hfr hlo hdg kk
/-- System.arraycopy between rows of references, whose elements are objects of the classes cis -/
def so_cq (r0 : Option Nat) (sp : Int32) (r1 : Option Nat) (dp n : Int32) (t : Nat) (cis : List Nat) (st : st_S) : Option st_S := match r0, r1 with
  | some a0, some a1 => match st.1 a0, st.1 a1 with
    | some (.inr (.inl x)), some (.inr (.inl y)) => if x.1 = t ∧ y.1 = t ∧ 0 < x.2.1 ∧ 0 < y.2.1 ∧ ¬ sp < 0 ∧ ¬ dp < 0 ∧ ¬ n < 0 ∧ sp.toNatClampNeg + n.toNatClampNeg ≤ x.2.1 ∧ dp.toNatClampNeg + n.toNatClampNeg ≤ y.2.1 ∧ (∀ i, i < n.toNatClampNeg → so_is st (x.2.2 (sp.toNatClampNeg + i)) cis = true) then
        some (st_up st a1 (.inr (.inl (y.1, y.2.1, va_cpy x.2.2 y.2.2 sp.toNatClampNeg dp.toNatClampNeg n.toNatClampNeg)))) else none
    | _, _ => none
  | _, _ => none
/-- .. and between rows of ints -/
def so_ci (r0 : Option Nat) (sp : Int32) (r1 : Option Nat) (dp n : Int32) (t : Nat) (st : st_S) : Option st_S := match r0, r1 with
  | some a0, some a1 => match st.1 a0, st.1 a1 with
    | some (.inl x), some (.inl y) => if x.1 = t ∧ y.1 = t ∧ ¬ sp < 0 ∧ ¬ dp < 0 ∧ ¬ n < 0 ∧ sp.toNatClampNeg + n.toNatClampNeg ≤ x.2.1 ∧ dp.toNatClampNeg + n.toNatClampNeg ≤ y.2.1 then
        some (st_up st a1 (.inl (y.1, y.2.1, va_cpy x.2.2 y.2.2 sp.toNatClampNeg dp.toNatClampNeg n.toNatClampNeg))) else none
    | _, _ => none
  | _, _ => none
theorem nn_i (z : Int32) (hz : ¬ z < 0) : z.toInt = (z.toNatClampNeg : Int) := by
  have hz0 : (0 : Int) ≤ z.toInt := by
    have := Int32.not_lt.mp hz
    simpa using Int32.le_iff_toInt_le.mp this
  show z.toInt = ((z.toInt.toNat : Nat) : Int)
  omega
end RRF
end
section
/-! System.arraycopy over stores -/
theorem so_cq_some {r0 r1 : Option Nat} {sp dp n : Int32} {t : Nat} {cis : List Nat} {st st' : st_S} (h : so_cq r0 sp r1 dp n t cis st = some st') : ∃ (b0 b1 n0 n1 : Nat) (f g : Nat → Option Nat), r0 = some b0 ∧ r1 = some b1 ∧ st.1 b0 = some (.inr (.inl (t, n0, f))) ∧ st.1 b1 = some (.inr (.inl (t, n1, g))) ∧ 0 < n1 ∧ ¬ sp < 0 ∧ ¬ dp < 0 ∧ ¬ n < 0 ∧ sp.toNatClampNeg + n.toNatClampNeg ≤ n0 ∧ dp.toNatClampNeg + n.toNatClampNeg ≤ n1 ∧ (∀ i, i < n.toNatClampNeg → so_is st (f (sp.toNatClampNeg + i)) cis = true) ∧ st' = st_up st b1 (.inr (.inl (t, n1, va_cpy f g sp.toNatClampNeg dp.toNatClampNeg n.toNatClampNeg))) := by
  unfold so_cq at h
  split at h
  · rename_i b0 b1
    split at h
    · rename_i x y hx hy
      obtain ⟨tx, n0, f⟩ := x
      obtain ⟨ty, n1, g⟩ := y
      split at h
      · rename_i hc
        obtain ⟨c1, c2, c3, c4, c5, c6, c7, c8, c9, c10⟩ := hc
        dsimp only at c1 c2
        subst c1
        subst c2
        exact ⟨b0, b1, n0, n1, f, g, rfl, rfl, hx, hy, c4, c5, c6, c7, c8, c9, c10, (Option.some.inj h).symm⟩
      · cases h
    · cases h
  · cases h
theorem so_ci_some {r0 r1 : Option Nat} {sp dp n : Int32} {t : Nat} {st st' : st_S} (h : so_ci r0 sp r1 dp n t st = some st') : ∃ (b0 b1 n0 n1 : Nat) (f g : Nat → Int32), r0 = some b0 ∧ r1 = some b1 ∧ st.1 b0 = some (.inl (t, n0, f)) ∧ st.1 b1 = some (.inl (t, n1, g)) ∧ ¬ sp < 0 ∧ ¬ dp < 0 ∧ ¬ n < 0 ∧ sp.toNatClampNeg + n.toNatClampNeg ≤ n0 ∧ dp.toNatClampNeg + n.toNatClampNeg ≤ n1 ∧ st' = st_up st b1 (.inl (t, n1, va_cpy f g sp.toNatClampNeg dp.toNatClampNeg n.toNatClampNeg)) := by
  unfold so_ci at h
  split at h
  · rename_i b0 b1
    split at h
    · rename_i x y hx hy
      obtain ⟨tx, n0, f⟩ := x
      obtain ⟨ty, n1, g⟩ := y
      split at h
      · rename_i hc
        obtain ⟨c1, c2, c5, c6, c7, c8, c9⟩ := hc
        dsimp only at c1 c2
        subst c1
        subst c2
        exact ⟨b0, b1, n0, n1, f, g, rfl, rfl, hx, hy, c5, c6, c7, c8, c9, (Option.some.inj h).symm⟩
      · cases h
    · cases h
  · cases h
section RRG
variable {p : Program} {l : Launch} {e : Env} {R : Room} {s : State} {m : MethodId} {args : Array Value} {below : List Frame} {meth : Method} {c : Code} {H : Heap} {locs : List Loc} {cells slots : Nat} {Q : State → Prop}
variable {cc : ByteArray} {pc nL : Nat} {ls : Array Slot} {rest st0 : List Value} {D : va_G} {ac : Nat → ClassId} {a0 : Nat} {gl : gl_T} {st st' : st_S} {own : String} {tb : List Cond} {index : Nat}
theorem rr_set {cl : List vw_C} {b1 : Nat} {ce : ce_E} {cell : Cell} {L : List Loc} (hw : ww_ D cl ac a0 st s.heap H locs) (ha0 : a0 ≤ b1) (hlt : b1 < H.size) (hat : ∀ H1 : Heap, H1[b1]? = some cell → va_at D cl (b1, ce_v ac ce) H1) (hL : ∀ q ∈ L, q.base = b1) : ww_ D cl ac a0 (st_up st b1 ce) s.heap (H.setIfInBounds b1 cell) (locs ++ L) := by
  have oq : ∀ q : Nat, q ≠ b1 → (H.setIfInBounds b1 cell)[q]? = H[q]? := fun q hq => by simp [Array.getElem?_setIfInBounds, Ne.symm hq]
  have z : (H.setIfInBounds b1 cell).size = H.size := by simp
  refine ⟨wd_up hw.1 (hat _ (by simp [Array.getElem?_setIfInBounds, hlt])) z oq ha0, ⟨by rw [z]; exact hw.2.1.1, fun q g1 g2 => ?_, fun q hq => ?_⟩, hw.2.2⟩
  · rw [oq q (fun h => g2 (by rw [h]; exact ha0))]
    exact hw.2.1.2.1 q g1 g2
  · rcases List.mem_append.mp hq with h | h
    · exact hw.2.1.2.2 q h
    · rw [hL q h]
      exact ha0
theorem rr_cpq {r0 r1 : Option Nat} {sp dp n : Int32} {cis : List Nat} (X : cx_ p s m args c cc nL own tb D cl_ (ty_ ac)) (hKs : kn_ D ac a0 gl s) (hw : ww_ D cl_ ac a0 st s.heap H locs)
    (ht : ∀ t ∈ ([9] : List Nat), ∃ E : String, (ty_ ac)[t]? = some (ac t, .object E) ∧ ∀ ci ∈ cis, ∃ q : vw_C, cl_[ci]? = some q ∧ ∀ comp c0 : ClassId, s.vm.findClass E = some comp → s.vm.findClass q.1 = some c0 → s.vm.assignable c0 comp = true)
    (hv : so_cq r0 sp r1 dp n 9 cis st = some st') (hls : ls.size = nL) (hlink : Cond.methodLink own index arraycopyName ∈ tb) (hnat : Cond.native arraycopyName ∈ tb) (hstat : Cond.static arraycopyName ∈ tb) (hini : Cond.initialized "java/lang/System" ∈ tb)
    (hfr : 1 ≤ R.frames) (hlo : (rest.map fun v => v.category).sum + (nativeFrameWords "java/lang/System" "arraycopy" 5 + 11) ≤ R.locals) (hdg : decode cc pc = .ok (.invokestatic index, 3))
    (kk : ∀ (H1 : Heap) (locs1 : List Loc), ww_ D cl_ ac a0 st' s.heap H1 locs1 → W p l e R s m args below meth c H1 locs1 cells slots Q (F0 m (pc + 3) ls rest)) : W p l e R s m args below meth c H locs cells slots Q (F0 m pc ls (.int n :: .int dp :: va_rf r1 :: .int sp :: va_rf r0 :: rest)) := by
  obtain ⟨b0, b1, n0, n1, f, g, rfl, rfl, hb0, hb1, hpos, h1, h2, h3, h4, h5, hel, rfl⟩ := so_cq_some hv
  obtain ⟨E, hE, hasg⟩ := ht 9 (List.mem_singleton.mpr rfl)
  obtain ⟨x1, x2, x3, x4, x5, x6⟩ := X
  have hat := hw.1.2.2 b1 _ hb1
  have ha0 : a0 ≤ b1 := hat.1.elim id (fun ⟨_, _, z⟩ => by cases z; exact absurd hpos (Nat.lt_irrefl _))
  have hc0 : H[b0]? = some (vp_cell (ac 9) (n0, .inr (.inr (.inr (.inr f))))) := (hw.1.2.2 b0 _ hb0).2
  have hc1 : H[b1]? = some (vp_cell (ac 9) (n1, .inr (.inr (.inr (.inr g))))) := hat.2
  obtain ⟨-, k0, hk0, cm0, hkk0⟩ := (x6.2 9 _ hE).1 n0 (fun j => va_rf (f j))
  obtain ⟨-, k1, hk1, cm1, hkk1⟩ := (x6.2 9 _ hE).1 n1 (fun j => va_rf (g j))
  intro T hT Y
  obtain ⟨vm', Y', step⟩ := Y.arraycopy x1 x4 (x5 _ hlink) (x5 _ hnat) (x5 _ hstat) (x5 _ hini) (src := b0) (dst := b1) (cs := vp_cell (ac 9) (n0, .inr (.inr (.inr (.inr f))))) (cd := vp_cell (ac 9) (n1, .inr (.inr (.inr (.inr g))))) (srcPos := sp) (destPos := dp) (n := n) (by rw [hT]; exact hc0) (by rw [hT]; exact hc1)
    (fun _ h => by cases h) (fun _ h => by cases h) (fun h => by cases h) (fun h => by cases h) hk0 hk1 hkk0 hkk1 rfl h1 h2 h3
    (by rw [nn_i sp h1, nn_i n h3]; show ¬ _ > ((arrV (ac 9) n0 (fun j => va_rf (f j))).slots.size : Int); rw [arrV_size]; omega)
    (by rw [nn_i dp h2, nn_i n h3]; show ¬ _ > ((arrV (ac 9) n1 (fun j => va_rf (g j))).slots.size : Int); rw [arrV_size]; omega)
    (fun vm₁ hal i hi => by
      have e0 : (vp_cell (ac 9) (n0, .inr (.inr (.inr (.inr f))))).slots.getD (sp.toNatClampNeg + i) .null = va_rf (f (sp.toNatClampNeg + i)) := by
        show (arrV (ac 9) n0 (fun j => va_rf (f j))).slots.getD _ _ = _
        rw [Array.getD_eq_getD_getElem?, arrV_read _ _ (by omega)]
        rfl
      rw [e0]
      have his := hel i hi
      cases hy : f (sp.toNatClampNeg + i) with
      | none => exact ⟨rfl, trivial⟩
      | some y =>
        rw [hy] at his
        obtain ⟨ci, fs, hb, hci⟩ := so_is_some his
        obtain ⟨q, hq, hg⟩ := hasg ci hci
        obtain ⟨q', hq', cellV, g1, g2, g3, -⟩ : va_at D cl_ (y, .inr (ci, fs)) H := (hw.1.2.2 y _ hb).2
        have hcls := (x6.1 ci q hq).2
        obtain ⟨kA, comp, r1, r2, r3, -⟩ := (x6.2 9 _ hE).2
        cases hk1.symm.trans r1
        cases hkk1.symm.trans r2
        obtain ⟨kC, hkC, -⟩ := hcls.2
        obtain ⟨kE, hkE, -⟩ := Vm.findClass_spec r3
        obtain ⟨kC', hkC', -⟩ := hal.2.2 _ _ hkC
        obtain ⟨kE', hkE', -⟩ := hal.2.2 _ _ hkE
        refine ⟨rfl, cellV, (show T.heap[y]? = some cellV by rw [hT]; exact g1), (fun q h => by rw [g3] at h; cases h), ⟨kC', by rw [g2]; exact hkC'⟩, ⟨kE', hkE'⟩, ?_⟩
        show vm₁.assignable _ _ = true
        rw [hal.assignable, g2]
        exact hg _ _ r3 hcls.1)
    (g := F0 m pc ls (.int n :: .int dp :: .ref b1 :: .int sp :: .ref b0 :: rest)) rfl (hls.trans x3.symm) (rest := rest) rfl (by rw [x2]; exact hdg) hfr (by show 2 * 0 + _ + _ ≤ _; omega)
  have e1 : copied (vp_cell (ac 9) (n0, .inr (.inr (.inr (.inr f))))) (vp_cell (ac 9) (n1, .inr (.inr (.inr (.inr g))))) sp dp n = vp_cell (ac 9) (n1, .inr (.inr (.inr (.inr (va_cpy f g sp.toNatClampNeg dp.toNatClampNeg n.toNatClampNeg))))) := by
    rw [vp_cell_q, vp_cell_q, vp_cell_q]
    exact va_copied (fun z => va_rf z) (ac 9) (ac 9) f g h4
  rw [e1] at Y' step
  have hheap : ((T.setVm vm').setCell b1 (vp_cell (ac 9) (n1, .inr (.inr (.inr (.inr (va_cpy f g sp.toNatClampNeg dp.toNatClampNeg n.toNatClampNeg))))))).heap = H.setIfInBounds b1 (vp_cell (ac 9) (n1, .inr (.inr (.inr (.inr (va_cpy f g sp.toNatClampNeg dp.toNatClampNeg n.toNatClampNeg)))))) := by rw [← hT]; rfl
  obtain ⟨t, a1, b2⟩ := kk _ _ (rr_set hw ha0 (Array.getElem?_eq_some_iff.mp hc1).1 (fun H1 h => h) (fun q hq => by
    obtain ⟨z, -, hz⟩ := List.mem_map.mp hq
    rw [← hz])) _ hheap Y'
  exact ⟨t, step t a1, b2⟩
theorem rr_cpi {r0 r1 : Option Nat} {sp dp n : Int32} (X : cx_ p s m args c cc nL own tb D cl_ (ty_ ac)) (_hKs : kn_ D ac a0 gl s) (hw : ww_ D cl_ ac a0 st s.heap H locs)
    (hv : so_ci r0 sp r1 dp n 0 st = some st') (hls : ls.size = nL) (hlink : Cond.methodLink own index arraycopyName ∈ tb) (hnat : Cond.native arraycopyName ∈ tb) (hstat : Cond.static arraycopyName ∈ tb) (hini : Cond.initialized "java/lang/System" ∈ tb)
    (hfr : 1 ≤ R.frames) (hlo : (rest.map fun v => v.category).sum + (nativeFrameWords "java/lang/System" "arraycopy" 5 + 11) ≤ R.locals) (hdg : decode cc pc = .ok (.invokestatic index, 3))
    (kk : ∀ (H1 : Heap) (locs1 : List Loc), ww_ D cl_ ac a0 st' s.heap H1 locs1 → W p l e R s m args below meth c H1 locs1 cells slots Q (F0 m (pc + 3) ls rest)) : W p l e R s m args below meth c H locs cells slots Q (F0 m pc ls (.int n :: .int dp :: va_rf r1 :: .int sp :: va_rf r0 :: rest)) := by
  obtain ⟨b0, b1, n0, n1, f, g, rfl, rfl, hb0, hb1, h1, h2, h3, h4, h5, rfl⟩ := so_ci_some hv
  obtain ⟨x1, x2, x3, x4, x5, x6⟩ := X
  have hat := hw.1.2.2 b1 _ hb1
  have ha0 : a0 ≤ b1 := hat.1.elim id (fun ⟨_, _, z⟩ => by cases z)
  have hc0 : H[b0]? = some (vp_cell (ac 0) (n0, .inl f)) := (hw.1.2.2 b0 _ hb0).2
  have hc1 : H[b1]? = some (vp_cell (ac 0) (n1, .inl g)) := hat.2
  obtain ⟨-, k0, hk0, cm0, hkk0⟩ := (x6.2 0 (ac 0, .int) rfl).1 n0 (fun j => .int (f j))
  obtain ⟨-, k1, hk1, cm1, hkk1⟩ := (x6.2 0 (ac 0, .int) rfl).1 n1 (fun j => .int (g j))
  intro T hT Y
  obtain ⟨vm', Y', step⟩ := Y.arraycopy x1 x4 (x5 _ hlink) (x5 _ hnat) (x5 _ hstat) (x5 _ hini) (src := b0) (dst := b1) (cs := vp_cell (ac 0) (n0, .inl f)) (cd := vp_cell (ac 0) (n1, .inl g)) (srcPos := sp) (destPos := dp) (n := n) (by rw [hT]; exact hc0) (by rw [hT]; exact hc1)
    (fun _ h => by cases h) (fun _ h => by cases h) (fun h => by cases h) (fun h => by cases h) hk0 hk1 hkk0 hkk1 (by rfl) h1 h2 h3
    (by rw [nn_i sp h1, nn_i n h3]; show ¬ _ > ((arrV (ac 0) n0 (fun j => .int (f j))).slots.size : Int); rw [arrV_size]; omega)
    (by rw [nn_i dp h2, nn_i n h3]; show ¬ _ > ((arrV (ac 0) n1 (fun j => .int (g j))).slots.size : Int); rw [arrV_size]; omega)
    (fun vm₁ _ i hi => by
      have e0 : (vp_cell (ac 0) (n0, .inl f)).slots.getD (sp.toNatClampNeg + i) .null = .int (f (sp.toNatClampNeg + i)) := by
        show (arrV (ac 0) n0 (fun j => .int (f j))).slots.getD _ _ = _
        rw [Array.getD_eq_getD_getElem?, arrV_read _ _ (by omega)]
        rfl
      rw [e0]
      exact ⟨rfl, trivial⟩)
    (g := F0 m pc ls (.int n :: .int dp :: .ref b1 :: .int sp :: .ref b0 :: rest)) rfl (hls.trans x3.symm) (rest := rest) rfl (by rw [x2]; exact hdg) hfr (by show 2 * 0 + _ + _ ≤ _; omega)
  have e1 : copied (vp_cell (ac 0) (n0, .inl f)) (vp_cell (ac 0) (n1, .inl g)) sp dp n = vp_cell (ac 0) (n1, .inl (va_cpy f g sp.toNatClampNeg dp.toNatClampNeg n.toNatClampNeg)) := va_copied (fun z => .int z) (ac 0) (ac 0) f g h4
  rw [e1] at Y' step
  have hheap : ((T.setVm vm').setCell b1 (vp_cell (ac 0) (n1, .inl (va_cpy f g sp.toNatClampNeg dp.toNatClampNeg n.toNatClampNeg)))).heap = H.setIfInBounds b1 (vp_cell (ac 0) (n1, .inl (va_cpy f g sp.toNatClampNeg dp.toNatClampNeg n.toNatClampNeg))) := by rw [← hT]; rfl
  obtain ⟨t, a1, b2⟩ := kk _ _ (rr_set hw ha0 (Array.getElem?_eq_some_iff.mp hc1).1 (fun H1 h => h) (fun q hq => by
    obtain ⟨z, -, hz⟩ := List.mem_map.mp hq
    rw [← hz])) _ hheap Y'
  exact ⟨t, step t a1, b2⟩
end RRG
end
section
/-! java/lang/Math.min(II)I -/
def ma_min (gl : gl_T) (v0 : Int32) (v1 : Int32) : st_M (Int32) :=
  if v1 < v0 then
  (st_r v1)
  else
  (st_r v0)
/-! java/lang/Math.max(II)I -/
def ma_max (gl : gl_T) (v0 : Int32) (v1 : Int32) : st_M (Int32) :=
  if v0 < v1 then
  (st_r v1)
  else
  (st_r v0)
/-! java/util/AbstractCollection.<init>()V -/
def aq_init (gl : gl_T) (v0 : Option Nat) : st_M (Unit) :=
  st_g (so_c v0) fun _ =>
  st_r ()
/-! java/util/AbstractList.<init>()V -/
def ab_init (gl : gl_T) (v0 : Option Nat) : st_M (Unit) :=
  st_g (so_c v0) fun _ =>
  st_b (aq_init gl v0) fun _ =>
  st_w (so_p v0 [6] 2 (.int (0 : Int32))) (
  st_r ())
/-! java/util/ArrayList.<init>()V -/
def al_init (gl : gl_T) (v0 : Option Nat) : st_M (Unit) :=
  st_g (so_c v0) fun _ =>
  st_b (ab_init gl v0) fun _ =>
  st_w (so_p v0 [6] 0 (va_rf (some gl.1))) (
  st_r ())
/-! java/util/ArrayList.size()I -/
def al_size (gl : gl_T) (v0 : Option Nat) : st_M (Int32) :=
  st_g (so_gi v0 [6] 1) fun t1 =>
  st_r t1
/-! jdk/internal/util/ArraysSupport.hugeLength(II)I -/
def as_hugeLength (gl : gl_T) (v0 : Int32) (v1 : Int32) : st_M (Int32) :=
  if 0 ≤ (v0 + v1) then
  (if (2147483639 : Int32) < (v0 + v1) then
  (st_r (v0 + v1))
  else
  (st_r (2147483639 : Int32)))
  else
  (fun _ => none)
/-! jdk/internal/util/ArraysSupport.newLength(III)I -/
def as_newLength_b21 (gl : gl_T) (p0 : Int32) (p1 : Int32) : st_M (Int32) :=
  st_b (as_hugeLength gl p0 p1) fun t9 =>
  st_r t9
def as_newLength (gl : gl_T) (v0 : Int32) (v1 : Int32) (v2 : Int32) : st_M (Int32) :=
  st_b (ma_max gl v1 v2) fun t1 =>
  if (v0 + t1) ≤ (0 : Int32) then
  (as_newLength_b21 gl v0 v1)
  else
  (if (2147483639 : Int32) < (v0 + t1) then
  (as_newLength_b21 gl v0 v1)
  else
  (st_r (v0 + t1)))
/-! java/util/Arrays.copyOf([Ljava/lang/Object;ILjava/lang/Class;)[Ljava/lang/Object; -/
def ar_copyOf3_b24 (gl : gl_T) (p0 : Option Nat) (p1 : Int32) (q0 : Option Nat) : st_M (Option Nat) :=
  st_g (so_ne gl p0 [9]) fun t7 =>
  st_b (ma_min gl t7 p1) fun t8 =>
  st_w (so_cq p0 (0 : Int32) q0 (0 : Int32) t8 9 [8, 9]) (
  st_r q0)
def ar_copyOf3 (gl : gl_T) (v0 : Option Nat) (v1 : Int32) (v2 : Option Nat) : st_M (Option Nat) :=
  if v2 = (some gl.2.1) then
  (st_g (so_l v1) fun _ =>
  st_n (.inr (.inl (9, v1.toNatClampNeg, fun _ => none))) v1.toNatClampNeg fun t1 =>
  ar_copyOf3_b24 gl v0 v1 (some t1))
  else
  (fun _ => none)
/-! java/util/Arrays.copyOf([Ljava/lang/Object;I)[Ljava/lang/Object; -/
def ar_copyOf2 (gl : gl_T) (v0 : Option Nat) (v1 : Int32) : st_M (Option Nat) :=
  st_g (so_ro v0 9) fun _ =>
  st_b (ar_copyOf3 gl v0 v1 (some gl.2.1)) fun t2 =>
  st_r t2
/-! java/util/ArrayList.grow(I)[Ljava/lang/Object; -/
def al_grow1_b20 (gl : gl_T) (p0 : Option Nat) (p1 : Int32) (p2 : Int32) : st_M (Option Nat) :=
  st_b (as_newLength gl p2 (p1 - p2) (p2 >>> ((1 : Int32) &&& 31))) fun t19 =>
  st_g (so_gq p0 [6] 0) fun t27 =>
  st_b (ar_copyOf2 gl t27 t19) fun t28 =>
  st_w (so_p p0 [6] 0 (va_rf t28)) (
  st_r t28)
def al_grow1 (gl : gl_T) (v0 : Option Nat) (v1 : Int32) : st_M (Option Nat) :=
  st_g (so_gq v0 [6] 0) fun t1 =>
  st_g (so_ne gl t1 [9]) fun t2 =>
  if 0 < t2 then
  (al_grow1_b20 gl v0 v1 t2)
  else
  (st_g (so_gq v0 [6] 0) fun t3 =>
  if t3 = (some gl.1) then
  (st_b (ma_max gl (10 : Int32) v1) fun t4 =>
  st_g (so_l t4) fun _ =>
  st_n (.inr (.inl (9, t4.toNatClampNeg, fun _ => none))) t4.toNatClampNeg fun t12 =>
  st_w (so_p v0 [6] 0 (va_rf (some t12))) (
  st_r (some t12)))
  else
  (al_grow1_b20 gl v0 v1 t2))
/-! java/util/ArrayList.grow()[Ljava/lang/Object; -/
def al_grow0 (gl : gl_T) (v0 : Option Nat) : st_M (Option Nat) :=
  st_g (so_gi v0 [6] 1) fun t1 =>
  st_g (so_cm v0 [6]) fun _ =>
  st_b (al_grow1 gl v0 (t1 + (1 : Int32))) fun t2 =>
  st_r t2
/-! java/util/ArrayList.add(Ljava/lang/Object;[Ljava/lang/Object;I)V -/
def al_add3_b11 (gl : gl_T) (p0 : Option Nat) (p1 : Option Nat) (p2 : Option Nat) (p3 : Int32) : st_M (Unit) :=
  st_w (so_sq p2 [9] [8, 9] p3 p1) (
  st_w (so_p p0 [6] 1 (.int (p3 + (1 : Int32)))) (
  st_r ()))
def al_add3 (gl : gl_T) (v0 : Option Nat) (v1 : Option Nat) (v2 : Option Nat) (v3 : Int32) : st_M (Unit) :=
  st_g (so_ne gl v2 [9]) fun t1 =>
  if v3 = t1 then
  (st_g (so_cm v0 [6]) fun _ =>
  st_b (al_grow0 gl v0) fun t2 =>
  al_add3_b11 gl v0 v1 t2 v3)
  else
  (al_add3_b11 gl v0 v1 v2 v3)
/-! java/util/ArrayList.add(Ljava/lang/Object;)Z -/
def al_add1 (gl : gl_T) (v0 : Option Nat) (v1 : Option Nat) : st_M (Int32) :=
  st_g (so_gi v0 [6] 2) fun t1 =>
  st_w (so_p v0 [6] 2 (.int (t1 + (1 : Int32)))) (
  st_g (so_gq v0 [6] 0) fun t3 =>
  st_g (so_gi v0 [6] 1) fun t4 =>
  st_g (so_cm v0 [6]) fun _ =>
  st_b (al_add3 gl v0 v1 t3 t4) fun _ =>
  st_r (1 : Int32))
/-! java/util/ArrayList.isEmpty()Z -/
def al_isEmpty (gl : gl_T) (v0 : Option Nat) : st_M (Int32) :=
  st_g (so_gi v0 [6] 1) fun t1 =>
  if t1 = 0 then
  (st_r (1 : Int32))
  else
  (st_r (0 : Int32))
/-! jdk/internal/util/Preconditions.checkIndex(IILjava/util/function/BiFunction;)I -/
def pc_checkIndex (gl : gl_T) (v0 : Int32) (v1 : Int32) (v2 : Option Nat) : st_M (Int32) :=
  if v0 < 0 then
  (fun _ => none)
  else
  (if v0 < v1 then
  (st_r v0)
  else
  (fun _ => none))
/-! java/util/Objects.checkIndex(II)I -/
def ob_checkIndex (gl : gl_T) (v0 : Int32) (v1 : Int32) : st_M (Int32) :=
  st_b (pc_checkIndex gl v0 v1 none) fun t1 =>
  st_r t1
/-! java/util/ArrayList.fastRemove([Ljava/lang/Object;I)V -/
def al_fastRemove_b34 (gl : gl_T) (p0 : Option Nat) (p1 : Option Nat) (p3 : Int32) : st_M (Unit) :=
  st_w (so_p p0 [6] 1 (.int p3)) (
  st_w (so_sq p1 [9] [8, 9] p3 none) (
  st_r ()))
def al_fastRemove (gl : gl_T) (v0 : Option Nat) (v1 : Option Nat) (v2 : Int32) : st_M (Unit) :=
  st_g (so_gi v0 [6] 2) fun t1 =>
  st_w (so_p v0 [6] 2 (.int (t1 + (1 : Int32)))) (
  st_g (so_gi v0 [6] 1) fun t3 =>
  if (t3 - (1 : Int32)) ≤ v2 then
  (al_fastRemove_b34 gl v0 v1 (t3 - (1 : Int32)))
  else
  (st_w (so_cq v1 (v2 + (1 : Int32)) v1 v2 ((t3 - (1 : Int32)) - v2) 9 [8, 9]) (
  al_fastRemove_b34 gl v0 v1 (t3 - (1 : Int32)))))
/-! java/util/ArrayList.remove(I)Ljava/lang/Object; -/
def al_remove (gl : gl_T) (v0 : Option Nat) (v1 : Int32) : st_M (Option Nat) :=
  st_g (so_gi v0 [6] 1) fun t1 =>
  st_b (ob_checkIndex gl v1 t1) fun t2 =>
  st_g (so_gq v0 [6] 0) fun t10 =>
  st_g (so_lq t10 [9] v1) fun t11 =>
  st_g (so_cm v0 [6]) fun _ =>
  st_b (al_fastRemove gl v0 t10 v1) fun _ =>
  st_r t11
/-! java/util/ArrayList.elementData(I)Ljava/lang/Object; -/
def al_elementData (gl : gl_T) (v0 : Option Nat) (v1 : Int32) : st_M (Option Nat) :=
  st_g (so_gq v0 [6] 0) fun t1 =>
  st_g (so_lq t1 [9] v1) fun t2 =>
  st_r t2
/-! java/util/ArrayList.get(I)Ljava/lang/Object; -/
def al_get (gl : gl_T) (v0 : Option Nat) (v1 : Int32) : st_M (Option Nat) :=
  st_g (so_gi v0 [6] 1) fun t1 =>
  st_b (ob_checkIndex gl v1 t1) fun t2 =>
  st_g (so_cm v0 [6]) fun _ =>
  st_b (al_elementData gl v0 v1) fun t10 =>
  st_r t10
/-! java/util/ArrayList.clear()V -/
def al_clear_b27 (gl : gl_T) (rec27 : Option Nat × Int32 × Int32 → st_M (Unit)) (p1 : Option Nat) (p2 : Int32) (p3 : Int32) : st_M (Unit) :=
  if p2 ≤ p3 then
  (st_r ())
  else
  (st_w (so_sq p1 [9] [8, 9] p3 none) (
  rec27 (p1, p2, (p3 + (1 : Int32)))))
def al_clear (gl : gl_T) (v0 : Option Nat) : st_M (Unit) :=
  st_g (so_gi v0 [6] 2) fun t1 =>
  st_w (so_p v0 [6] 2 (.int (t1 + (1 : Int32)))) (
  st_g (so_gq v0 [6] 0) fun t3 =>
  st_g (so_gi v0 [6] 1) fun t4 =>
  st_w (so_p v0 [6] 1 (.int (0 : Int32))) (
  st_it (fun rec27 => (fun x : Option Nat × Int32 × Int32 => al_clear_b27 gl rec27 x.1 x.2.1 x.2.2)) fu_ (t3, t4, (0 : Int32))))
end
section
/-! PromiseVats$Turn.<init>()V -/
def xT_init (gl : gl_T) (v0 : Option Nat) : st_M (Unit) :=
  st_g (so_c v0) fun _ =>
  st_r ()
/-! PromiseVats$Program.<init>()V -/
def xG_init (gl : gl_T) (v0 : Option Nat) : st_M (Unit) :=
  st_g (so_c v0) fun _ =>
  st_g (so_l (8 : Int32)) fun _ =>
  st_n (.inl (0, (8 : Int32).toNatClampNeg, fun _ => 0)) (8 : Int32).toNatClampNeg fun t2 =>
  st_w (so_p v0 [2] 0 (va_rf (some t2))) (
  st_g (so_l (8 : Int32)) fun _ =>
  st_n (.inl (0, (8 : Int32).toNatClampNeg, fun _ => 0)) (8 : Int32).toNatClampNeg fun t9 =>
  st_w (so_p v0 [2] 1 (va_rf (some t9))) (
  st_r ()))
/-! PromiseVats$Entity.<init>(II)V -/
def xE_init (gl : gl_T) (v0 : Option Nat) (v1 : Int32) (v2 : Int32) : st_M (Unit) :=
  st_g (so_c v0) fun _ =>
  st_g (so_l (4 : Int32)) fun _ =>
  st_n (.inl (0, (4 : Int32).toNatClampNeg, fun _ => 0)) (4 : Int32).toNatClampNeg fun t2 =>
  st_w (so_p v0 [3, 4] 7 (va_rf (some t2))) (
  st_g (so_l (4 : Int32)) fun _ =>
  st_n (.inl (0, (4 : Int32).toNatClampNeg, fun _ => 0)) (4 : Int32).toNatClampNeg fun t9 =>
  st_w (so_p v0 [3, 4] 8 (va_rf (some t9))) (
  st_g (so_l (16 : Int32)) fun _ =>
  st_n (.inl (0, (16 : Int32).toNatClampNeg, fun _ => 0)) (16 : Int32).toNatClampNeg fun t16 =>
  st_w (so_p v0 [3, 4] 9 (va_rf (some t16))) (
  st_w (so_p v0 [3, 4] 3 (.int v1)) (
  st_w (so_p v0 [3, 4] 4 (.int v2)) (
  st_r ())))))
/-! PromiseVats$VatObject.<init>(III)V -/
def xO_init (gl : gl_T) (v0 : Option Nat) (v1 : Int32) (v2 : Int32) (v3 : Int32) : st_M (Unit) :=
  st_g (so_c v0) fun _ =>
  st_b (xE_init gl v0 v1 v2) fun _ =>
  st_g (so_l (4 : Int32)) fun _ =>
  st_n (.inr (.inl (6, (4 : Int32).toNatClampNeg, fun _ => none))) (4 : Int32).toNatClampNeg fun t9 =>
  st_w (so_p v0 [3] 2 (va_rf (some t9))) (
  st_w (so_p v0 [3] 0 (.int v3)) (
  st_r ()))
/-! PromiseVats$Channel.<init>()V -/
def xH_init (gl : gl_T) (v0 : Option Nat) : st_M (Unit) :=
  st_g (so_c v0) fun _ =>
  st_n (.inr (.inr (6, cd_6))) 3 fun t2 =>
  st_b (al_init gl (some t2)) fun _ =>
  st_w (so_p v0 [7] 0 (va_rf (some t2))) (
  st_r ())
/-! PromiseVats$Vat.<init>(LPromiseVats$VatObject;I)V -/
def xV_init_b38 (gl : gl_T) (rec38 : Option Nat × Int32 × Int32 → st_M (Unit)) (p0 : Option Nat) (p2 : Int32) (p3 : Int32) : st_M (Unit) :=
  if p2 ≤ p3 then
  (st_r ())
  else
  (st_g (so_gq p0 [5] 2) fun t32 =>
  st_n (.inr (.inr (7, cd_7))) 1 fun t33 =>
  st_b (xH_init gl (some t33)) fun _ =>
  st_w (so_sq t32 [8] [7] p3 (some t33)) (
  rec38 (p0, p2, (p3 + (1 : Int32)))))
def xV_init (gl : gl_T) (v0 : Option Nat) (v1 : Option Nat) (v2 : Int32) : st_M (Unit) :=
  st_g (so_c v0) fun _ =>
  st_n (.inr (.inr (6, cd_6))) 3 fun t2 =>
  st_b (al_init gl (some t2)) fun _ =>
  st_w (so_p v0 [5] 1 (va_rf (some t2))) (
  st_g (so_l (10 : Int32)) fun _ =>
  st_n (.inl (0, (10 : Int32).toNatClampNeg, fun _ => 0)) (10 : Int32).toNatClampNeg fun t15 =>
  st_w (so_p v0 [5] 3 (va_rf (some t15))) (
  st_w (so_p v0 [5] 0 (va_rf v1)) (
  st_g (so_l v2) fun _ =>
  st_n (.inr (.inl (8, v2.toNatClampNeg, fun _ => none))) v2.toNatClampNeg fun t23 =>
  st_w (so_p v0 [5] 2 (va_rf (some t23))) (
  st_it (fun rec38 => (fun x : Option Nat × Int32 × Int32 => xV_init_b38 gl rec38 x.1 x.2.1 x.2.2)) fu_ (v0, v2, (0 : Int32))))))
/-! PromiseVats.<init>(I)V -/
def xP_init_b100 (gl : gl_T) (rec100 : Option Nat × Int32 × Int32 → st_M (Unit)) (p0 : Option Nat) (p2 : Int32) (p3 : Int32) : st_M (Unit) :=
  if p2 ≤ p3 then
  (st_w (so_p p0 [0] 3 (.int p2)) (
  st_r ()))
  else
  (st_n (.inr (.inr (3, cd_3))) 10 fun t85 =>
  st_b (xO_init gl (some t85) (p3 + (1 : Int32)) p3 p3) fun _ =>
  st_g (so_gq p0 [0] 2) fun t97 =>
  st_w (so_sq t97 [6] [3, 4] (p3 + (1 : Int32)) (some t85)) (
  st_g (so_gq p0 [0] 0) fun t99 =>
  st_n (.inr (.inr (5, cd_5))) 5 fun t100 =>
  st_b (xV_init gl (some t100) (some t85) p2) fun _ =>
  st_w (so_sq t99 [4] [5] p3 (some t100)) (
  rec100 (p0, p2, (p3 + (1 : Int32))))))
def xP_init_b73 (gl : gl_T) (rec73 : Option Nat × Int32 × Int32 → st_M (Unit)) (p0 : Option Nat) (p2 : Int32) (p3 : Int32) : st_M (Unit) :=
  if (8 : Int32) ≤ p3 then
  (st_it (fun rec100 => (fun x : Option Nat × Int32 × Int32 => xP_init_b100 gl rec100 x.1 x.2.1 x.2.2)) fu_ (p0, p2, (0 : Int32)))
  else
  (st_g (so_gq p0 [0] 1) fun t68 =>
  st_n (.inr (.inr (2, cd_2))) 3 fun t69 =>
  st_b (xG_init gl (some t69)) fun _ =>
  st_w (so_sq t68 [5] [2] p3 (some t69)) (
  rec73 (p0, p2, (p3 + (1 : Int32)))))
def xP_init (gl : gl_T) (v0 : Option Nat) (v1 : Int32) : st_M (Unit) :=
  st_g (so_c v0) fun _ =>
  st_b (ma_min gl (4 : Int32) v1) fun t2 =>
  st_b (ma_max gl (2 : Int32) t2) fun t10 =>
  st_g (so_l t10) fun _ =>
  st_n (.inr (.inl (4, t10.toNatClampNeg, fun _ => none))) t10.toNatClampNeg fun t18 =>
  st_w (so_p v0 [0] 0 (va_rf (some t18))) (
  st_g (so_l (8 : Int32)) fun _ =>
  st_n (.inr (.inl (5, (8 : Int32).toNatClampNeg, fun _ => none))) (8 : Int32).toNatClampNeg fun t25 =>
  st_w (so_p v0 [0] 1 (va_rf (some t25))) (
  st_g (so_l (201 : Int32)) fun _ =>
  st_n (.inr (.inl (6, (201 : Int32).toNatClampNeg, fun _ => none))) (201 : Int32).toNatClampNeg fun t32 =>
  st_w (so_p v0 [0] 2 (va_rf (some t32))) (
  st_n (.inr (.inr (1, cd_1))) 4 fun t39 =>
  st_b (xT_init gl (some t39)) fun _ =>
  st_w (so_p v0 [0] 5 (va_rf (some t39))) (
  st_g (so_l (100 : Int32)) fun _ =>
  st_n (.inr (.inl (7, (100 : Int32).toNatClampNeg, fun _ => none))) (100 : Int32).toNatClampNeg fun t52 =>
  st_w (so_p v0 [0] 6 (va_rf (some t52))) (
  st_g (so_l (160 : Int32)) fun _ =>
  st_n (.inr (.inl (6, (160 : Int32).toNatClampNeg, fun _ => none))) (160 : Int32).toNatClampNeg fun t59 =>
  st_w (so_p v0 [0] 8 (va_rf (some t59))) (
  st_it (fun rec73 => (fun x : Option Nat × Int32 × Int32 => xP_init_b73 gl rec73 x.1 x.2.1 x.2.2)) fu_ (v0, t10, (0 : Int32))))))))
/-! PromiseVats.isProgram(I)Z -/
def xP_isProgram_b14 (gl : gl_T) : st_M (Int32) :=
  st_r (0 : Int32)
def xP_isProgram (gl : gl_T) (v0 : Int32) : st_M (Int32) :=
  if v0 < 0 then
  (xP_isProgram_b14 gl )
  else
  (if (8 : Int32) ≤ v0 then
  (xP_isProgram_b14 gl )
  else
  (st_r (1 : Int32)))
/-! PromiseVats.isSlot(I)Z -/
def xP_isSlot_b13 (gl : gl_T) : st_M (Int32) :=
  st_r (0 : Int32)
def xP_isSlot (gl : gl_T) (v0 : Int32) : st_M (Int32) :=
  if v0 < 0 then
  (xP_isSlot_b13 gl )
  else
  (if (4 : Int32) ≤ v0 then
  (xP_isSlot_b13 gl )
  else
  (st_r (1 : Int32)))
/-! PromiseVats.isInstruction(II)Z -/
def xP_isInstruction_b40 (gl : gl_T) (p1 : Int32) : st_M (Int32) :=
  st_b (xP_isSlot gl p1) fun t9 =>
  st_g (so_z t9) fun _ =>
  st_r t9
def xP_isInstruction_b64 (gl : gl_T) : st_M (Int32) :=
  st_r (0 : Int32)
def xP_isInstruction_b80 (gl : gl_T) : st_M (Int32) :=
  st_r (0 : Int32)
def xP_isInstruction_b66 (gl : gl_T) (p0 : Int32) : st_M (Int32) :=
  if p0 < 0 then
  (xP_isInstruction_b80 gl )
  else
  (if (10 : Int32) < p0 then
  (xP_isInstruction_b80 gl )
  else
  (st_r (1 : Int32)))
def xP_isInstruction (gl : gl_T) (v0 : Int32) (v1 : Int32) : st_M (Int32) :=
  (if v0 = (3 : Int32) then
  (xP_isInstruction_b40 gl v1)
  else
  (if v0 = (4 : Int32) then
  (xP_isInstruction_b40 gl v1)
  else
  (if v0 = (5 : Int32) then
  (xP_isInstruction_b66 gl v0)
  else
  (if v0 = (6 : Int32) then
  (st_b (xP_isProgram gl v1) fun t1 =>
  st_g (so_z t1) fun _ =>
  st_r t1)
  else
  (if v0 = (7 : Int32) then
  (xP_isInstruction_b40 gl v1)
  else
  (if v0 = (8 : Int32) then
  (if v1 < 0 then
  (xP_isInstruction_b64 gl )
  else
  (if (8 : Int32) ≤ v1 then
  (xP_isInstruction_b64 gl )
  else
  (st_r (1 : Int32))))
  else
  (xP_isInstruction_b66 gl v0)))))))
/-! PromiseVats.code(III)Z -/
def xP_code_b15 (gl : gl_T) : st_M (Int32) :=
  st_r (0 : Int32)
def xP_code (gl : gl_T) (v0 : Option Nat) (v1 : Int32) (v2 : Int32) (v3 : Int32) : st_M (Int32) :=
  st_b (xP_isProgram gl v1) fun t1 =>
  if t1 = 0 then
  (xP_code_b15 gl )
  else
  (st_b (xP_isInstruction gl v2 v3) fun t9 =>
  if t9 = 0 then
  (xP_code_b15 gl )
  else
  (st_g (so_gq v0 [0] 1) fun t17 =>
  st_g (so_lq t17 [5] v1) fun t18 =>
  st_g (so_gi t18 [2] 2) fun t19 =>
  if t19 < (8 : Int32) then
  (st_g (so_gq t18 [2] 0) fun t20 =>
  st_g (so_gi t18 [2] 2) fun t21 =>
  st_w (so_si t20 0 t21 v2) (
  st_g (so_gq t18 [2] 1) fun t23 =>
  st_g (so_gi t18 [2] 2) fun t24 =>
  st_w (so_si t23 0 t24 v3) (
  st_g (so_gi t18 [2] 2) fun t26 =>
  st_w (so_p t18 [2] 2 (.int (t26 + (1 : Int32)))) (
  st_r (1 : Int32)))))
  else
  (st_r (0 : Int32))))
/-! PromiseVats.clear(I)Z -/
def xP_clear (gl : gl_T) (v0 : Option Nat) (v1 : Int32) : st_M (Int32) :=
  st_b (xP_isProgram gl v1) fun t1 =>
  if t1 = 0 then
  (st_r (0 : Int32))
  else
  (st_g (so_gq v0 [0] 1) fun t9 =>
  st_g (so_lq t9 [5] v1) fun t10 =>
  st_w (so_p t10 [2] 2 (.int (0 : Int32))) (
  st_r (1 : Int32)))
/-! PromiseVats.isVat(I)Z -/
def xP_isVat_b17 (gl : gl_T) : st_M (Int32) :=
  st_r (0 : Int32)
def xP_isVat (gl : gl_T) (v0 : Option Nat) (v1 : Int32) : st_M (Int32) :=
  if v1 < 0 then
  (xP_isVat_b17 gl )
  else
  (st_g (so_gq v0 [0] 0) fun t1 =>
  st_g (so_n t1 [4]) fun t2 =>
  if t2 ≤ v1 then
  (xP_isVat_b17 gl )
  else
  (st_r (1 : Int32)))
/-! PromiseVats.give(III)Z -/
def xP_give_b23 (gl : gl_T) : st_M (Int32) :=
  st_r (0 : Int32)
def xP_give_b79 (gl : gl_T) : st_M (Int32) :=
  st_r (1 : Int32)
def xP_give (gl : gl_T) (v0 : Option Nat) (v1 : Int32) (v2 : Int32) (v3 : Int32) : st_M (Int32) :=
  st_g (so_cm v0 [0]) fun _ =>
  st_b (xP_isVat gl v0 v1) fun t1 =>
  if t1 = 0 then
  (xP_give_b23 gl )
  else
  (st_b (xP_isSlot gl v2) fun t9 =>
  if t9 = 0 then
  (xP_give_b23 gl )
  else
  (st_g (so_cm v0 [0]) fun _ =>
  st_b (xP_isVat gl v0 v3) fun t17 =>
  if t17 = 0 then
  (xP_give_b23 gl )
  else
  (st_g (so_gq v0 [0] 0) fun t25 =>
  st_g (so_lq t25 [4] v3) fun t26 =>
  st_g (so_gq t26 [5] 0) fun t27 =>
  st_g (so_gq v0 [0] 0) fun t28 =>
  st_g (so_lq t28 [4] v1) fun t29 =>
  st_g (so_gq t29 [5] 0) fun t30 =>
  st_g (so_gq t30 [3] 2) fun t31 =>
  st_w (so_sq t31 [6] [3, 4] v2 t27) (
  if v1 = v3 then
  (xP_give_b79 gl )
  else
  (st_g (so_gq t27 [3] 7) fun t33 =>
  st_g (so_li t33 0 v1) fun t34 =>
  st_w (so_si t33 0 v1 (t34 + (1 : Int32))) (
  st_g (so_gq t27 [3] 8) fun t36 =>
  st_g (so_li t36 0 v1) fun t37 =>
  st_w (so_si t36 0 v1 (t37 + (1 : Int32))) (
  xP_give_b79 gl )))))))
/-! PromiseVats$Call.<init>(LPromiseVats$Entity;ILPromiseVats$Entity;LPromiseVats$Promise;)V -/
def xC_init (gl : gl_T) (v0 : Option Nat) (v1 : Option Nat) (v2 : Int32) (v3 : Option Nat) (v4 : Option Nat) : st_M (Unit) :=
  st_g (so_c v0) fun _ =>
  st_w (so_p v0 [8] 0 (va_rf v1)) (
  st_w (so_p v0 [8] 1 (.int v2)) (
  st_w (so_p v0 [8] 2 (va_rf v3)) (
  st_w (so_p v0 [8] 3 (va_rf v4)) (
  st_r ()))))
/-! PromiseVats.lose(LPromiseVats$Call;)V -/
def xP_lose (gl : gl_T) (v0 : Option Nat) (v1 : Option Nat) : st_M (Unit) :=
  st_g (so_gq v1 [8] 3) fun t1 =>
  if t1 = none then
  (st_r ())
  else
  (st_g (so_gi v0 [0] 7) fun t2 =>
  st_g (so_gq v0 [0] 6) fun t3 =>
  st_g (so_n t3 [7]) fun t4 =>
  if t4 ≤ t2 then
  (st_r ())
  else
  (st_g (so_gq v0 [0] 6) fun t5 =>
  st_g (so_gi v0 [0] 7) fun t6 =>
  st_g (so_gq v1 [8] 3) fun t7 =>
  st_w (so_sq t5 [7] [4] t6 t7) (
  st_g (so_gi v0 [0] 7) fun t9 =>
  st_w (so_p v0 [0] 7 (.int (t9 + (1 : Int32)))) (
  st_r ()))))
/-! PromiseVats.waitAt(LPromiseVats$Promise;LPromiseVats$Call;)V -/
def xP_waitAt (gl : gl_T) (v0 : Option Nat) (v1 : Option Nat) (v2 : Option Nat) : st_M (Unit) :=
  st_g (so_gq v1 [4] 2) fun t1 =>
  st_g (so_cm t1 [6]) fun _ =>
  st_b (al_size gl t1) fun t2 =>
  if t2 < (8 : Int32) then
  (st_g (so_gq v1 [4] 2) fun t10 =>
  st_g (so_cm t10 [6]) fun _ =>
  st_b (al_add1 gl t10 v2) fun t11 =>
  st_r ())
  else
  (st_g (so_cm v0 [0]) fun _ =>
  st_b (xP_lose gl v0 v2) fun _ =>
  st_r ())
/-! PromiseVats$Message.<init>(ILPromiseVats$Entity;LPromiseVats$Entity;I)V -/
def xM_init (gl : gl_T) (v0 : Option Nat) (v1 : Int32) (v2 : Option Nat) (v3 : Option Nat) (v4 : Int32) : st_M (Unit) :=
  st_g (so_c v0) fun _ =>
  st_w (so_p v0 [9] 0 (.int v1)) (
  st_w (so_p v0 [9] 1 (va_rf v2)) (
  st_w (so_p v0 [9] 2 (va_rf v3)) (
  st_w (so_p v0 [9] 3 (.int v4)) (
  st_r ()))))
/-! PromiseVats.post(IILPromiseVats$Message;)V -/
def xP_post (gl : gl_T) (v0 : Option Nat) (v1 : Int32) (v2 : Int32) (v3 : Option Nat) : st_M (Unit) :=
  st_g (so_gq v0 [0] 0) fun t1 =>
  st_g (so_lq t1 [4] v1) fun t2 =>
  st_g (so_gq t2 [5] 2) fun t3 =>
  st_g (so_lq t3 [8] v2) fun t4 =>
  st_g (so_gq t4 [7] 0) fun t5 =>
  st_g (so_cm t5 [6]) fun _ =>
  st_b (al_add1 gl t5 v3) fun t6 =>
  st_r ()
/-! PromiseVats.packArgument(LPromiseVats$Entity;II)V -/
def xP_packArgument (gl : gl_T) (v0 : Option Nat) (v1 : Option Nat) (v2 : Int32) (v3 : Int32) : st_M (Unit) :=
  if v1 = none then
  (st_r ())
  else
  (st_g (so_gi v1 [3, 4] 4) fun t1 =>
  if t1 = v2 then
  (st_g (so_gq v1 [3, 4] 7) fun t2 =>
  st_g (so_li t2 0 v3) fun t3 =>
  st_w (so_si t2 0 v3 (t3 + (1 : Int32))) (
  st_r ()))
  else
  (st_g (so_gi v1 [3, 4] 4) fun t5 =>
  if t5 = v3 then
  (st_r ())
  else
  (st_g (so_gi v1 [3, 4] 4) fun t6 =>
  st_n (.inr (.inr (9, cd_9))) 5 fun t7 =>
  st_b (xM_init gl (some t7) (4 : Int32) v1 none v3) fun _ =>
  st_g (so_cm v0 [0]) fun _ =>
  st_b (xP_post gl v0 v2 t6 (some t7)) fun _ =>
  st_r ())))
/-! PromiseVats.postCall(LPromiseVats$Call;I)V -/
def xP_postCall (gl : gl_T) (v0 : Option Nat) (v1 : Option Nat) (v2 : Int32) : st_M (Unit) :=
  st_g (so_gq v1 [8] 0) fun t1 =>
  st_g (so_gi t1 [3, 4] 4) fun t2 =>
  st_g (so_gq v1 [8] 2) fun t3 =>
  st_g (so_cm v0 [0]) fun _ =>
  st_b (xP_packArgument gl v0 t3 v2 t2) fun _ =>
  st_n (.inr (.inr (9, cd_9))) 5 fun t12 =>
  st_g (so_gq v1 [8] 0) fun t16 =>
  st_g (so_gq v1 [8] 2) fun t17 =>
  st_b (xM_init gl (some t12) (1 : Int32) t16 t17 (0 : Int32)) fun _ =>
  st_w (so_p (some t12) [9] 4 (va_rf v1)) (
  st_g (so_cm v0 [0]) fun _ =>
  st_b (xP_post gl v0 v2 t2 (some t12)) fun _ =>
  st_r ())
/-! PromiseVats.arrive(LPromiseVats$Call;I)V -/
def xP_arrive_b2 (gl : gl_T) (rec2 : Option Nat × Option Nat × Int32 × Int32 → st_M (Unit)) (p0 : Option Nat) (p1 : Option Nat) (p2 : Int32) (p3 : Int32) : st_M (Unit) :=
  if (100 : Int32) < p3 then
  (st_r ())
  else
  (st_g (so_gq p1 [8] 0) fun t1 =>
  st_g (so_i t1 [4] [3]) fun t2 =>
  if t2 = 0 then
  (st_g (so_gq p0 [0] 0) fun t3 =>
  st_g (so_lq t3 [4] p2) fun t4 =>
  st_g (so_gq t4 [5] 1) fun t5 =>
  st_g (so_cm t5 [6]) fun _ =>
  st_b (al_add1 gl t5 p1) fun t6 =>
  st_r ())
  else
  (st_g (so_k t1 [4]) fun _ =>
  st_g (so_gi t1 [4] 0) fun t16 =>
  if t16 = 0 then
  (st_g (so_gq t1 [4] 1) fun t17 =>
  if t17 = none then
  (st_g (so_cm p0 [0]) fun _ =>
  st_b (xP_lose gl p0 p1) fun _ =>
  st_r ())
  else
  (st_g (so_gq t1 [4] 1) fun t27 =>
  st_w (so_p p1 [8] 0 (va_rf t27)) (
  st_g (so_gq p1 [8] 0) fun t29 =>
  st_g (so_gi t29 [3, 4] 4) fun t30 =>
  if t30 = p2 then
  (rec2 (p0, p1, p2, (p3 + (1 : Int32))))
  else
  (st_g (so_cm p0 [0]) fun _ =>
  st_b (xP_postCall gl p0 p1 p2) fun _ =>
  st_r ()))))
  else
  (st_g (so_cm p0 [0]) fun _ =>
  st_b (xP_waitAt gl p0 t1 p1) fun _ =>
  st_r ())))
def xP_arrive (gl : gl_T) (v0 : Option Nat) (v1 : Option Nat) (v2 : Int32) : st_M (Unit) :=
  st_it (fun rec2 => (fun x : Option Nat × Option Nat × Int32 × Int32 => xP_arrive_b2 gl rec2 x.1 x.2.1 x.2.2.1 x.2.2.2)) fu_ (v0, v1, v2, (0 : Int32))
/-! PromiseVats.poke(II)Z -/
def xP_poke_b25 (gl : gl_T) : st_M (Int32) :=
  st_r (0 : Int32)
def xP_poke (gl : gl_T) (v0 : Option Nat) (v1 : Int32) (v2 : Int32) : st_M (Int32) :=
  st_g (so_cm v0 [0]) fun _ =>
  st_b (xP_isVat gl v0 v1) fun t1 =>
  if t1 = 0 then
  (xP_poke_b25 gl )
  else
  (st_g (so_gq v0 [0] 0) fun t9 =>
  st_g (so_lq t9 [4] v1) fun t10 =>
  st_g (so_gq t10 [5] 1) fun t11 =>
  st_g (so_cm t11 [6]) fun _ =>
  st_b (al_size gl t11) fun t12 =>
  if t12 < (20 : Int32) then
  (st_n (.inr (.inr (8, cd_8))) 4 fun t20 =>
  st_g (so_gq v0 [0] 0) fun t24 =>
  st_g (so_lq t24 [4] v1) fun t25 =>
  st_g (so_gq t25 [5] 0) fun t26 =>
  st_b (xC_init gl (some t20) t26 v2 none none) fun _ =>
  st_g (so_cm v0 [0]) fun _ =>
  st_b (xP_arrive gl v0 (some t20) v1) fun _ =>
  st_r (1 : Int32))
  else
  (xP_poke_b25 gl ))
/-! PromiseVats$Turn.begin(LPromiseVats$VatObject;LPromiseVats$Call;)V -/
def xT_begin (gl : gl_T) (v0 : Option Nat) (v1 : Option Nat) (v2 : Option Nat) : st_M (Unit) :=
  st_w (so_p v0 [1] 0 (va_rf v1)) (
  st_g (so_gi v2 [8] 1) fun t2 =>
  st_w (so_p v0 [1] 1 (.int t2)) (
  st_g (so_gq v2 [8] 2) fun t4 =>
  st_w (so_p v0 [1] 2 (va_rf t4)) (
  st_w (so_p v0 [1] 3 (.int (0 : Int32))) (
  st_r ()))))
/-! PromiseVats.makeObject(LPromiseVats$Turn;I)LPromiseVats$VatObject; -/
def xP_makeObject (gl : gl_T) (v0 : Option Nat) (v1 : Option Nat) (v2 : Int32) : st_M (Option Nat) :=
  st_g (so_gi v0 [0] 3) fun t1 =>
  if t1 < (60 : Int32) then
  (st_g (so_gi v0 [0] 3) fun t2 =>
  st_w (so_p v0 [0] 3 (.int (t2 + (1 : Int32)))) (
  st_n (.inr (.inr (3, cd_3))) 10 fun t4 =>
  st_g (so_gi v0 [0] 3) fun t8 =>
  st_g (so_gq v1 [1] 0) fun t9 =>
  st_g (so_gi t9 [3] 4) fun t10 =>
  st_b (xO_init gl (some t4) t8 t10 v2) fun _ =>
  st_g (so_gi v1 [1] 1) fun t19 =>
  st_w (so_p (some t4) [3] 1 (.int t19)) (
  st_g (so_gq (some t4) [3] 2) fun t21 =>
  st_g (so_gq v1 [1] 2) fun t22 =>
  st_w (so_sq t21 [6] [3, 4] (0 : Int32) t22) (
  st_g (so_gq v0 [0] 2) fun t24 =>
  st_g (so_gi (some t4) [3] 3) fun t25 =>
  st_w (so_sq t24 [6] [3, 4] t25 (some t4)) (
  st_r (some t4))))))
  else
  (st_r none)
/-! PromiseVats$Promise.<init>(II)V -/
def xQ_init (gl : gl_T) (v0 : Option Nat) (v1 : Int32) (v2 : Int32) : st_M (Unit) :=
  st_g (so_c v0) fun _ =>
  st_b (xE_init gl v0 v1 v2) fun _ =>
  st_w (so_p v0 [4] 0 (.int (1 : Int32))) (
  st_n (.inr (.inr (6, cd_6))) 3 fun t10 =>
  st_b (al_init gl (some t10)) fun _ =>
  st_w (so_p v0 [4] 2 (va_rf (some t10))) (
  st_r ()))
/-! PromiseVats.callFrom(LPromiseVats$Turn;LPromiseVats$Entity;)LPromiseVats$Promise; -/
def xP_callFrom_b13 (gl : gl_T) : st_M (Option Nat) :=
  st_r none
def xP_callFrom_b126 (gl : gl_T) (p3 : Option Nat) : st_M (Option Nat) :=
  st_r p3
def xP_callFrom (gl : gl_T) (v0 : Option Nat) (v1 : Option Nat) (v2 : Option Nat) : st_M (Option Nat) :=
  if v2 = none then
  (xP_callFrom_b13 gl )
  else
  (st_g (so_gi v0 [0] 4) fun t1 =>
  if t1 < (100 : Int32) then
  (st_g (so_gi v0 [0] 4) fun t2 =>
  st_w (so_p v0 [0] 4 (.int (t2 + (1 : Int32)))) (
  st_n (.inr (.inr (4, cd_4))) 10 fun t4 =>
  st_g (so_gi v0 [0] 4) fun t8 =>
  st_g (so_gi v2 [3, 4] 4) fun t9 =>
  st_b (xQ_init gl (some t4) ((100 : Int32) + t8) t9) fun _ =>
  st_g (so_gq v0 [0] 2) fun t18 =>
  st_g (so_gi (some t4) [4] 3) fun t19 =>
  st_w (so_sq t18 [6] [3, 4] t19 (some t4)) (
  st_n (.inr (.inr (8, cd_8))) 4 fun t21 =>
  st_g (so_gi v1 [1] 1) fun t25 =>
  st_g (so_gq v1 [1] 2) fun t26 =>
  st_b (xC_init gl (some t21) v2 t25 t26 (some t4)) fun _ =>
  st_g (so_gq v1 [1] 0) fun t35 =>
  st_g (so_gi t35 [3] 4) fun t36 =>
  st_g (so_gi v2 [3, 4] 4) fun t37 =>
  if t37 = t36 then
  (st_g (so_cm v0 [0]) fun _ =>
  st_b (xP_arrive gl v0 (some t21) t36) fun _ =>
  xP_callFrom_b126 gl (some t4))
  else
  (st_g (so_cm v0 [0]) fun _ =>
  st_b (xP_postCall gl v0 (some t21) t36) fun _ =>
  st_g (so_gq (some t4) [4] 7) fun t55 =>
  st_w (so_si t55 0 t36 (1 : Int32)) (
  st_g (so_gq (some t4) [4] 8) fun t57 =>
  st_w (so_si t57 0 t36 (1 : Int32)) (
  xP_callFrom_b126 gl (some t4)))))))
  else
  (xP_callFrom_b13 gl ))
/-! PromiseVats$Vat.putOut(I)V -/
def xV_putOut (gl : gl_T) (v0 : Option Nat) (v1 : Int32) : st_M (Unit) :=
  st_g (so_gq v0 [5] 3) fun t1 =>
  st_g (so_gq v0 [5] 3) fun t2 =>
  st_w (so_ci t1 (0 : Int32) t2 (1 : Int32) (9 : Int32) 0) (
  st_g (so_gq v0 [5] 3) fun t4 =>
  st_w (so_si t4 0 (0 : Int32) v1) (
  st_g (so_gi v0 [5] 4) fun t6 =>
  st_w (so_p v0 [5] 4 (.int (t6 + (1 : Int32)))) (
  st_r ())))
/-! PromiseVats.perform(LPromiseVats$Turn;II)V -/
def xP_perform_b179 (gl : gl_T) (q0 : Int32) (q1 : Option Nat) : st_M (Unit) :=
  st_w (so_p q1 [1] 3 (.int q0)) (
  st_r ())
def xP_perform (gl : gl_T) (v0 : Option Nat) (v1 : Option Nat) (v2 : Int32) (v3 : Int32) : st_M (Unit) :=
  st_g (so_gq v1 [1] 0) fun t1 =>
  (if v2 = (0 : Int32) then
  (st_w (so_p v1 [1] 1 (.int v3)) (
  st_r ()))
  else
  (if v2 = (1 : Int32) then
  (st_g (so_gi v1 [1] 1) fun t3 =>
  st_g (so_gi t1 [3] 1) fun t4 =>
  st_w (so_p v1 [1] 1 (.int (t3 + t4))) (
  st_r ()))
  else
  (if v2 = (2 : Int32) then
  (st_g (so_gi v1 [1] 1) fun t6 =>
  st_w (so_p t1 [3] 1 (.int t6)) (
  st_r ()))
  else
  (if v2 = (3 : Int32) then
  (st_g (so_gq t1 [3] 2) fun t8 =>
  st_g (so_gq v1 [1] 2) fun t9 =>
  st_w (so_sq t8 [6] [3, 4] v3 t9) (
  st_r ()))
  else
  (if v2 = (4 : Int32) then
  (st_g (so_gq t1 [3] 2) fun t11 =>
  st_g (so_lq t11 [6] v3) fun t12 =>
  st_w (so_p v1 [1] 2 (va_rf t12)) (
  st_r ()))
  else
  (if v2 = (5 : Int32) then
  (st_w (so_p v1 [1] 2 (va_rf t1)) (
  st_r ()))
  else
  (if v2 = (6 : Int32) then
  (st_g (so_cm v0 [0]) fun _ =>
  st_b (xP_makeObject gl v0 v1 v3) fun t15 =>
  st_w (so_p v1 [1] 2 (va_rf t15)) (
  st_r ()))
  else
  (if v2 = (7 : Int32) then
  (st_g (so_gq t1 [3] 2) fun t25 =>
  st_g (so_lq t25 [6] v3) fun t26 =>
  st_g (so_cm v0 [0]) fun _ =>
  st_b (xP_callFrom gl v0 v1 t26) fun t27 =>
  st_w (so_p v1 [1] 2 (va_rf t27)) (
  st_r ()))
  else
  (if v2 = (8 : Int32) then
  (st_g (so_gi v1 [1] 1) fun t37 =>
  if t37 = 0 then
  (xP_perform_b179 gl v3 v1)
  else
  (xP_perform_b179 gl (0 : Int32) v1))
  else
  (if v2 = (9 : Int32) then
  (st_g (so_gq v0 [0] 0) fun t38 =>
  st_g (so_gi t1 [3] 4) fun t39 =>
  st_g (so_lq t38 [4] t39) fun t40 =>
  st_g (so_gi v1 [1] 1) fun t41 =>
  st_g (so_cm t40 [5]) fun _ =>
  st_b (xV_putOut gl t40 t41) fun _ =>
  st_r ())
  else
  (st_w (so_p v1 [1] 2 (va_rf none)) (
  st_r ()))))))))))))
/-! PromiseVats.leadsTo(LPromiseVats$Entity;LPromiseVats$Promise;)Z -/
def xP_leadsTo_b57 (gl : gl_T) (rec4 : Option Nat × Option Nat × Int32 → st_M (Int32)) (p1 : Option Nat) (p2 : Option Nat) (p3 : Int32) : st_M (Int32) :=
  rec4 (p1, p2, (p3 + (1 : Int32)))
def xP_leadsTo_b55 (gl : gl_T) (rec4 : Option Nat × Option Nat × Int32 → st_M (Int32)) (p1 : Option Nat) (p3 : Int32) : st_M (Int32) :=
  xP_leadsTo_b57 gl rec4 p1 none p3
def xP_leadsTo_b63 (gl : gl_T) : st_M (Int32) :=
  st_r (0 : Int32)
def xP_leadsTo_b4 (gl : gl_T) (rec4 : Option Nat × Option Nat × Int32 → st_M (Int32)) (p1 : Option Nat) (p2 : Option Nat) (p3 : Int32) : st_M (Int32) :=
  if (100 : Int32) < p3 then
  (xP_leadsTo_b63 gl )
  else
  (if p2 = none then
  (xP_leadsTo_b63 gl )
  else
  (if p2 = p1 then
  (st_r (1 : Int32))
  else
  (st_g (so_i p2 [4] [3]) fun t1 =>
  if t1 = 0 then
  (xP_leadsTo_b55 gl rec4 p1 p3)
  else
  (st_g (so_k p2 [4]) fun _ =>
  st_g (so_gi p2 [4] 4) fun t3 =>
  st_g (so_gi p1 [4] 4) fun t4 =>
  if t3 = t4 then
  (st_g (so_gq p2 [4] 1) fun t5 =>
  xP_leadsTo_b57 gl rec4 p1 t5 p3)
  else
  (xP_leadsTo_b55 gl rec4 p1 p3)))))
def xP_leadsTo (gl : gl_T) (v0 : Option Nat) (v1 : Option Nat) : st_M (Int32) :=
  st_it (fun rec4 => (fun x : Option Nat × Option Nat × Int32 => xP_leadsTo_b4 gl rec4 x.1 x.2.1 x.2.2)) fu_ (v1, v0, (0 : Int32))
/-! PromiseVats.resolveIn(ILPromiseVats$Promise;LPromiseVats$Entity;)V -/
def xP_resolveIn_b121 (gl : gl_T) (p2 : Option Nat) : st_M (Unit) :=
  st_g (so_gq p2 [4] 2) fun t78 =>
  st_g (so_cm t78 [6]) fun _ =>
  st_b (al_clear gl t78) fun _ =>
  st_r ()
def xP_resolveIn_b79 (gl : gl_T) (rec79 : Option Nat × Int32 × Option Nat × Int32 → st_M (Unit)) (p0 : Option Nat) (p1 : Int32) (p2 : Option Nat) (p4 : Int32) : st_M (Unit) :=
  if (8 : Int32) ≤ p4 then
  (xP_resolveIn_b121 gl p2)
  else
  (st_g (so_gq p2 [4] 2) fun t48 =>
  st_g (so_cm t48 [6]) fun _ =>
  st_b (al_size gl t48) fun t49 =>
  if t49 ≤ p4 then
  (xP_resolveIn_b121 gl p2)
  else
  (st_g (so_gq p2 [4] 2) fun t57 =>
  st_g (so_cm t57 [6]) fun _ =>
  st_b (al_get gl t57 p4) fun t58 =>
  st_g (so_k t58 [8]) fun _ =>
  st_g (so_cm p0 [0]) fun _ =>
  st_b (xP_arrive gl p0 t58 p1) fun _ =>
  rec79 (p0, p1, p2, (p4 + (1 : Int32)))))
def xP_resolveIn_b68 (gl : gl_T) (p0 : Option Nat) (p1 : Int32) (p2 : Option Nat) (q0 : Option Nat) (q1 : Option Nat) : st_M (Unit) :=
  st_w (so_p q1 [4] 1 (va_rf q0)) (
  st_w (so_p p2 [4] 0 (.int (0 : Int32))) (
  st_it (fun rec79 => (fun x : Option Nat × Int32 × Option Nat × Int32 => xP_resolveIn_b79 gl rec79 x.1 x.2.1 x.2.2.1 x.2.2.2)) fu_ (p0, p1, p2, (0 : Int32))))
def xP_resolveIn (gl : gl_T) (v0 : Option Nat) (v1 : Int32) (v2 : Option Nat) (v3 : Option Nat) : st_M (Unit) :=
  st_g (so_gi v2 [4] 4) fun t1 =>
  if t1 = v1 then
  (st_g (so_gi v2 [4] 5) fun t2 =>
  if t2 = 0 then
  (st_g (so_gi v2 [4] 0) fun t3 =>
  if t3 = 0 then
  (st_r ())
  else
  (st_b (xP_leadsTo gl v3 v2) fun t4 =>
  if t4 = 0 then
  (xP_resolveIn_b68 gl v0 v1 v2 v3 v2)
  else
  (xP_resolveIn_b68 gl v0 v1 v2 none v2)))
  else
  (st_r ()))
  else
  (st_g (so_gi v2 [4] 4) fun t12 =>
  st_g (so_cm v0 [0]) fun _ =>
  st_b (xP_packArgument gl v0 v3 v1 t12) fun _ =>
  st_g (so_gi v2 [4] 4) fun t21 =>
  st_n (.inr (.inr (9, cd_9))) 5 fun t22 =>
  st_b (xM_init gl (some t22) (2 : Int32) v2 v3 (0 : Int32)) fun _ =>
  st_g (so_cm v0 [0]) fun _ =>
  st_b (xP_post gl v0 v1 t21 (some t22)) fun _ =>
  st_r ())
/-! PromiseVats.settleLost(I)V -/
def xP_settleLost_b37 (gl : gl_T) (p0 : Option Nat) : st_M (Unit) :=
  st_w (so_p p0 [0] 7 (.int (0 : Int32))) (
  st_r ())
def xP_settleLost_b2 (gl : gl_T) (rec2 : Option Nat × Int32 × Int32 → st_M (Unit)) (p0 : Option Nat) (p1 : Int32) (p2 : Int32) : st_M (Unit) :=
  st_g (so_gq p0 [0] 6) fun t1 =>
  st_g (so_n t1 [7]) fun t2 =>
  if t2 ≤ p2 then
  (xP_settleLost_b37 gl p0)
  else
  (st_g (so_gi p0 [0] 7) fun t3 =>
  if t3 ≤ p2 then
  (xP_settleLost_b37 gl p0)
  else
  (st_g (so_gq p0 [0] 6) fun t4 =>
  st_g (so_lq t4 [7] p2) fun t5 =>
  st_g (so_cm p0 [0]) fun _ =>
  st_b (xP_resolveIn gl p0 p1 t5 none) fun _ =>
  rec2 (p0, p1, (p2 + (1 : Int32)))))
def xP_settleLost (gl : gl_T) (v0 : Option Nat) (v1 : Int32) : st_M (Unit) :=
  st_it (fun rec2 => (fun x : Option Nat × Int32 × Int32 => xP_settleLost_b2 gl rec2 x.1 x.2.1 x.2.2)) fu_ (v0, v1, (0 : Int32))
/-! PromiseVats.turn(I)I -/
def xP_turn_b23 (gl : gl_T) : st_M (Int32) :=
  st_r (-1 : Int32)
def xP_turn_b150 (gl : gl_T) (rec85 : Option Nat × Int32 × Option Nat × Option Nat × Option Nat × Int32 → st_M (Int32)) (p0 : Option Nat) (p1 : Int32) (p2 : Option Nat) (p3 : Option Nat) (p4 : Option Nat) (p5 : Int32) : st_M (Int32) :=
  rec85 (p0, p1, p2, p3, p4, (p5 + (1 : Int32)))
def xP_turn_b184 (gl : gl_T) (p3 : Option Nat) : st_M (Int32) :=
  st_g (so_gi p3 [3] 3) fun t102 =>
  st_r t102
def xP_turn_b85 (gl : gl_T) (rec85 : Option Nat × Int32 × Option Nat × Option Nat × Option Nat × Int32 → st_M (Int32)) (p0 : Option Nat) (p1 : Int32) (p2 : Option Nat) (p3 : Option Nat) (p4 : Option Nat) (p5 : Int32) : st_M (Int32) :=
  st_g (so_gi p4 [2] 2) fun t51 =>
  if t51 ≤ p5 then
  (st_g (so_gq p2 [8] 3) fun t52 =>
  if t52 = none then
  (xP_turn_b184 gl p3)
  else
  (st_g (so_gq p2 [8] 3) fun t53 =>
  st_g (so_gq p0 [0] 5) fun t54 =>
  st_g (so_gq t54 [1] 2) fun t55 =>
  st_g (so_cm p0 [0]) fun _ =>
  st_b (xP_resolveIn gl p0 p1 t53 t55) fun _ =>
  st_g (so_cm p0 [0]) fun _ =>
  st_b (xP_settleLost gl p0 p1) fun _ =>
  xP_turn_b184 gl p3))
  else
  (st_g (so_gq p0 [0] 5) fun t74 =>
  st_g (so_gi t74 [1] 3) fun t75 =>
  if t75 ≤ 0 then
  (st_g (so_gq p0 [0] 5) fun t76 =>
  st_g (so_gq p4 [2] 0) fun t77 =>
  st_g (so_li t77 0 p5) fun t78 =>
  st_g (so_gq p4 [2] 1) fun t79 =>
  st_g (so_li t79 0 p5) fun t80 =>
  st_g (so_cm p0 [0]) fun _ =>
  st_b (xP_perform gl p0 t76 t78 t80) fun _ =>
  st_g (so_cm p0 [0]) fun _ =>
  st_b (xP_settleLost gl p0 p1) fun _ =>
  xP_turn_b150 gl rec85 p0 p1 p2 p3 p4 p5)
  else
  (st_g (so_gq p0 [0] 5) fun t99 =>
  st_g (so_gi t99 [1] 3) fun t100 =>
  st_w (so_p t99 [1] 3 (.int (t100 - (1 : Int32)))) (
  xP_turn_b150 gl rec85 p0 p1 p2 p3 p4 p5)))
def xP_turn (gl : gl_T) (v0 : Option Nat) (v1 : Int32) : st_M (Int32) :=
  st_g (so_cm v0 [0]) fun _ =>
  st_b (xP_isVat gl v0 v1) fun t1 =>
  if t1 = 0 then
  (xP_turn_b23 gl )
  else
  (st_g (so_gq v0 [0] 0) fun t9 =>
  st_g (so_lq t9 [4] v1) fun t10 =>
  st_g (so_gq t10 [5] 1) fun t11 =>
  st_g (so_cm t11 [6]) fun _ =>
  st_b (al_isEmpty gl t11) fun t12 =>
  if t12 = 0 then
  (st_g (so_gq v0 [0] 0) fun t20 =>
  st_g (so_lq t20 [4] v1) fun t21 =>
  st_g (so_gq t21 [5] 1) fun t22 =>
  st_g (so_cm t22 [6]) fun _ =>
  st_b (al_remove gl t22 (0 : Int32)) fun t23 =>
  st_g (so_k t23 [8]) fun _ =>
  st_g (so_gq t23 [8] 0) fun t32 =>
  st_g (so_i t32 [3] [4]) fun t33 =>
  if t33 = 0 then
  (st_r (-1 : Int32))
  else
  (st_g (so_k t32 [3]) fun _ =>
  st_g (so_gq v0 [0] 5) fun t35 =>
  st_g (so_cm t35 [1]) fun _ =>
  st_b (xT_begin gl t35 t32 t23) fun _ =>
  st_g (so_gq v0 [0] 1) fun t44 =>
  st_g (so_gi t32 [3] 0) fun t45 =>
  st_g (so_lq t44 [5] t45) fun t46 =>
  st_it (fun rec85 => (fun x : Option Nat × Int32 × Option Nat × Option Nat × Option Nat × Int32 => xP_turn_b85 gl rec85 x.1 x.2.1 x.2.2.1 x.2.2.2.1 x.2.2.2.2.1 x.2.2.2.2.2)) fu_ (v0, v1, t23, t32, t46, (0 : Int32))))
  else
  (xP_turn_b23 gl ))
/-! PromiseVats.flying(II)I -/
def xP_flying_b36 (gl : gl_T) : st_M (Int32) :=
  st_r (0 : Int32)
def xP_flying (gl : gl_T) (v0 : Option Nat) (v1 : Int32) (v2 : Int32) : st_M (Int32) :=
  st_g (so_cm v0 [0]) fun _ =>
  st_b (xP_isVat gl v0 v1) fun t1 =>
  if t1 = 0 then
  (xP_flying_b36 gl )
  else
  (st_g (so_cm v0 [0]) fun _ =>
  st_b (xP_isVat gl v0 v2) fun t9 =>
  if t9 = 0 then
  (xP_flying_b36 gl )
  else
  (st_g (so_gq v0 [0] 0) fun t17 =>
  st_g (so_lq t17 [4] v1) fun t18 =>
  st_g (so_gq t18 [5] 2) fun t19 =>
  st_g (so_lq t19 [8] v2) fun t20 =>
  st_g (so_gq t20 [7] 0) fun t21 =>
  st_g (so_cm t21 [6]) fun _ =>
  st_b (al_size gl t21) fun t22 =>
  st_r t22))
/-! PromiseVats.unpackArgument(LPromiseVats$Entity;II)V -/
def xP_unpackArgument (gl : gl_T) (v0 : Option Nat) (v1 : Option Nat) (v2 : Int32) (v3 : Int32) : st_M (Unit) :=
  if v1 = none then
  (st_r ())
  else
  (st_g (so_gi v1 [3, 4] 4) fun t1 =>
  if t1 = v3 then
  (st_r ())
  else
  (st_g (so_gq v1 [3, 4] 8) fun t2 =>
  st_g (so_li t2 0 v3) fun t3 =>
  st_w (so_si t2 0 v3 (t3 + (1 : Int32))) (
  st_g (so_gi v1 [3, 4] 4) fun t5 =>
  if t5 = v2 then
  (st_r ())
  else
  (st_g (so_gi v1 [3, 4] 4) fun t6 =>
  st_n (.inr (.inr (9, cd_9))) 5 fun t7 =>
  st_b (xM_init gl (some t7) (5 : Int32) v1 none v2) fun _ =>
  st_g (so_cm v0 [0]) fun _ =>
  st_b (xP_post gl v0 v3 t6 (some t7)) fun _ =>
  st_r ()))))
/-! PromiseVats.takeGift(LPromiseVats$Entity;II)V -/
def xP_takeGift_b25 (gl : gl_T) (p0 : Option Nat) (p3 : Int32) : st_M (Unit) :=
  st_g (so_gq p0 [3, 4] 9) fun t6 =>
  st_g (so_li t6 0 p3) fun t7 =>
  st_w (so_si t6 0 p3 (t7 + (1 : Int32))) (
  st_r ())
def xP_takeGift (gl : gl_T) (v0 : Option Nat) (v1 : Int32) (v2 : Int32) : st_M (Unit) :=
  st_g (so_gq v0 [3, 4] 9) fun t1 =>
  st_g (so_li t1 0 ((v1 * (4 : Int32)) + v2)) fun t2 =>
  if 0 ≤ t2 then
  (xP_takeGift_b25 gl v0 ((v1 * (4 : Int32)) + v2))
  else
  (st_g (so_gq v0 [3, 4] 7) fun t3 =>
  st_g (so_li t3 0 v2) fun t4 =>
  st_w (so_si t3 0 v2 (t4 + (1 : Int32))) (
  xP_takeGift_b25 gl v0 ((v1 * (4 : Int32)) + v2)))
/-! PromiseVats.takeRedeem(LPromiseVats$Entity;II)V -/
def xP_takeRedeem_b25 (gl : gl_T) (p0 : Option Nat) (p3 : Int32) : st_M (Unit) :=
  st_g (so_gq p0 [3, 4] 9) fun t6 =>
  st_g (so_li t6 0 p3) fun t7 =>
  st_w (so_si t6 0 p3 (t7 - (1 : Int32))) (
  st_r ())
def xP_takeRedeem (gl : gl_T) (v0 : Option Nat) (v1 : Int32) (v2 : Int32) : st_M (Unit) :=
  st_g (so_gq v0 [3, 4] 9) fun t1 =>
  st_g (so_li t1 0 ((v1 * (4 : Int32)) + v2)) fun t2 =>
  if t2 ≤ 0 then
  (xP_takeRedeem_b25 gl v0 ((v1 * (4 : Int32)) + v2))
  else
  (st_g (so_gq v0 [3, 4] 7) fun t3 =>
  st_g (so_li t3 0 v2) fun t4 =>
  st_w (so_si t3 0 v2 (t4 + (1 : Int32))) (
  xP_takeRedeem_b25 gl v0 ((v1 * (4 : Int32)) + v2)))
/-! PromiseVats.takeMessage(LPromiseVats$Message;II)V -/
def xP_takeMessage_b85 (gl : gl_T) : st_M (Unit) :=
  st_r ()
def xP_takeMessage (gl : gl_T) (v0 : Option Nat) (v1 : Option Nat) (v2 : Int32) (v3 : Int32) : st_M (Unit) :=
  st_g (so_gq v1 [9] 1) fun t1 =>
  st_g (so_gi v1 [9] 0) fun t2 =>
  (if t2 = (1 : Int32) then
  (st_g (so_gq v1 [9] 4) fun t3 =>
  if t3 = none then
  (st_r ())
  else
  (st_g (so_gq v1 [9] 4) fun t4 =>
  st_g (so_cm v0 [0]) fun _ =>
  st_b (xP_arrive gl v0 t4 v3) fun _ =>
  st_r ()))
  else
  (if t2 = (2 : Int32) then
  (st_g (so_i t1 [4] [3]) fun t14 =>
  if t14 = 0 then
  (xP_takeMessage_b85 gl )
  else
  (st_g (so_k t1 [4]) fun _ =>
  st_g (so_gq v1 [9] 2) fun t16 =>
  st_g (so_cm v0 [0]) fun _ =>
  st_b (xP_resolveIn gl v0 v3 t1 t16) fun _ =>
  xP_takeMessage_b85 gl ))
  else
  (if t2 = (3 : Int32) then
  (st_g (so_gq t1 [3, 4] 7) fun t26 =>
  st_g (so_li t26 0 v2) fun t27 =>
  st_g (so_gi v1 [9] 3) fun t28 =>
  st_w (so_si t26 0 v2 (t27 - t28)) (
  st_r ()))
  else
  (if t2 = (4 : Int32) then
  (st_g (so_gi v1 [9] 3) fun t30 =>
  st_b (xP_takeGift gl t1 v2 t30) fun _ =>
  st_r ())
  else
  (st_g (so_gi v1 [9] 3) fun t39 =>
  st_b (xP_takeRedeem gl t1 t39 v2) fun _ =>
  st_r ())))))
/-! PromiseVats.deliver(II)I -/
def xP_deliver (gl : gl_T) (v0 : Option Nat) (v1 : Int32) (v2 : Int32) : st_M (Int32) :=
  st_g (so_cm v0 [0]) fun _ =>
  st_b (xP_flying gl v0 v1 v2) fun t1 =>
  if t1 = 0 then
  (st_r (0 : Int32))
  else
  (st_g (so_gq v0 [0] 0) fun t9 =>
  st_g (so_lq t9 [4] v1) fun t10 =>
  st_g (so_gq t10 [5] 2) fun t11 =>
  st_g (so_lq t11 [8] v2) fun t12 =>
  st_g (so_gq t12 [7] 0) fun t13 =>
  st_g (so_cm t13 [6]) fun _ =>
  st_b (al_remove gl t13 (0 : Int32)) fun t14 =>
  st_g (so_k t14 [9]) fun _ =>
  st_g (so_gq t14 [9] 2) fun t23 =>
  st_g (so_cm v0 [0]) fun _ =>
  st_b (xP_unpackArgument gl v0 t23 v1 v2) fun _ =>
  st_g (so_cm v0 [0]) fun _ =>
  st_b (xP_takeMessage gl v0 t14 v1 v2) fun _ =>
  st_g (so_cm v0 [0]) fun _ =>
  st_b (xP_settleLost gl v0 v2) fun _ =>
  st_g (so_gi t14 [9] 0) fun t48 =>
  st_r t48)
/-! PromiseVats.reach(LPromiseVats$Entity;)V -/
def xP_reach (gl : gl_T) (v0 : Option Nat) (v1 : Option Nat) : st_M (Unit) :=
  if v1 = none then
  (st_r ())
  else
  (st_g (so_gi v1 [3, 4] 6) fun t1 =>
  if t1 = 0 then
  (st_g (so_gi v0 [0] 9) fun t2 =>
  st_g (so_gq v0 [0] 8) fun t3 =>
  st_g (so_n t3 [6]) fun t4 =>
  if t4 ≤ t2 then
  (st_r ())
  else
  (st_w (so_p v1 [3, 4] 6 (.int (1 : Int32))) (
  st_g (so_gq v0 [0] 8) fun t6 =>
  st_g (so_gi v0 [0] 9) fun t7 =>
  st_w (so_sq t6 [6] [3, 4] t7 v1) (
  st_g (so_gi v0 [0] 9) fun t9 =>
  st_w (so_p v0 [0] 9 (.int (t9 + (1 : Int32)))) (
  st_r ())))))
  else
  (st_r ()))
/-! PromiseVats$Entity.isExported()Z -/
def xE_isExported_b2 (gl : gl_T) (rec2 : Option Nat × Int32 → st_M (Int32)) (p0 : Option Nat) (p1 : Int32) : st_M (Int32) :=
  st_g (so_gq p0 [3, 4] 7) fun t1 =>
  st_g (so_n t1 [0]) fun t2 =>
  if t2 ≤ p1 then
  (st_r (0 : Int32))
  else
  (st_g (so_gq p0 [3, 4] 7) fun t3 =>
  st_g (so_li t3 0 p1) fun t4 =>
  if t4 ≤ 0 then
  (rec2 (p0, (p1 + (1 : Int32))))
  else
  (st_r (1 : Int32)))
def xE_isExported (gl : gl_T) (v0 : Option Nat) : st_M (Int32) :=
  st_it (fun rec2 => (fun x : Option Nat × Int32 => xE_isExported_b2 gl rec2 x.1 x.2)) fu_ (v0, (0 : Int32))
/-! PromiseVats$Entity.unpaired(I)I -/
def xE_unpaired_b4 (gl : gl_T) (rec4 : Option Nat × Int32 × Int32 × Int32 → st_M (Int32)) (p0 : Option Nat) (p1 : Int32) (p2 : Int32) (p3 : Int32) : st_M (Int32) :=
  st_g (so_gq p0 [3, 4] 9) fun t1 =>
  st_g (so_n t1 [0]) fun t2 =>
  if t2 ≤ p3 then
  (st_r p2)
  else
  (st_g (so_gq p0 [3, 4] 9) fun t3 =>
  st_g (so_li t3 0 p3) fun t4 =>
  st_b (ma_max gl (0 : Int32) (p1 * t4)) fun t5 =>
  rec4 (p0, p1, (p2 + t5), (p3 + (1 : Int32))))
def xE_unpaired (gl : gl_T) (v0 : Option Nat) (v1 : Int32) : st_M (Int32) :=
  st_it (fun rec4 => (fun x : Option Nat × Int32 × Int32 × Int32 => xE_unpaired_b4 gl rec4 x.1 x.2.1 x.2.2.1 x.2.2.2)) fu_ (v0, v1, (0 : Int32), (0 : Int32))
/-! PromiseVats$Entity.isWanted()Z -/
def xE_isWanted_b15 (gl : gl_T) : st_M (Int32) :=
  st_r (1 : Int32)
def xE_isWanted (gl : gl_T) (v0 : Option Nat) : st_M (Int32) :=
  st_g (so_cm v0 [3, 4]) fun _ =>
  st_b (xE_isExported gl v0) fun t1 =>
  if t1 = 0 then
  (st_g (so_cm v0 [3, 4]) fun _ =>
  st_b (xE_unpaired gl v0 (1 : Int32)) fun t9 =>
  if t9 ≤ 0 then
  (st_r (0 : Int32))
  else
  (xE_isWanted_b15 gl ))
  else
  (xE_isWanted_b15 gl )
/-! PromiseVats$Promise.isWanted()Z -/
def xQ_isWanted_b25 (gl : gl_T) : st_M (Int32) :=
  st_r (1 : Int32)
def xQ_isWanted (gl : gl_T) (v0 : Option Nat) : st_M (Int32) :=
  st_g (so_cm v0 [4]) fun _ =>
  st_b (xE_isExported gl v0) fun t1 =>
  if t1 = 0 then
  (st_g (so_cm v0 [4]) fun _ =>
  st_b (xE_unpaired gl v0 (1 : Int32)) fun t9 =>
  if 0 < t9 then
  (xQ_isWanted_b25 gl )
  else
  (st_g (so_gq v0 [4] 2) fun t17 =>
  st_g (so_cm t17 [6]) fun _ =>
  st_b (al_isEmpty gl t17) fun t18 =>
  if t18 = 0 then
  (xQ_isWanted_b25 gl )
  else
  (st_r (0 : Int32))))
  else
  (xQ_isWanted_b25 gl )
/-! PromiseVats.reachWanted(I)V -/
def xP_reachWanted_b49 (gl : gl_T) (rec2 : Option Nat × Int32 × Int32 → st_M (Unit)) (p0 : Option Nat) (p1 : Int32) (p2 : Int32) : st_M (Unit) :=
  rec2 (p0, p1, (p2 + (1 : Int32)))
def xP_reachWanted_b2 (gl : gl_T) (rec2 : Option Nat × Int32 × Int32 → st_M (Unit)) (p0 : Option Nat) (p1 : Int32) (p2 : Int32) : st_M (Unit) :=
  st_g (so_gq p0 [0] 2) fun t1 =>
  st_g (so_n t1 [6]) fun t2 =>
  if t2 ≤ p2 then
  (st_r ())
  else
  (st_g (so_gq p0 [0] 2) fun t3 =>
  st_g (so_lq t3 [6] p2) fun t4 =>
  if t4 = none then
  (xP_reachWanted_b49 gl rec2 p0 p1 p2)
  else
  (st_g (so_gi t4 [3, 4] 4) fun t5 =>
  if t5 = p1 then
  (st_g (so_gi t4 [3, 4] 5) fun t6 =>
  if t6 = 0 then
  (st_g (so_c t4) fun t7 =>
  if t7 ∈ ([3] : List Nat) then
  (st_g (so_cm t4 [3]) fun _ =>
  st_b (xE_isWanted gl t4) fun t8 =>
  if t8 = 0 then
  (xP_reachWanted_b49 gl rec2 p0 p1 p2)
  else
  (st_g (so_cm p0 [0]) fun _ =>
  st_b (xP_reach gl p0 t4) fun _ =>
  xP_reachWanted_b49 gl rec2 p0 p1 p2))
  else
  (st_g (so_cm t4 [4]) fun _ =>
  st_b (xQ_isWanted gl t4) fun t26 =>
  if t26 = 0 then
  (xP_reachWanted_b49 gl rec2 p0 p1 p2)
  else
  (st_g (so_cm p0 [0]) fun _ =>
  st_b (xP_reach gl p0 t4) fun _ =>
  xP_reachWanted_b49 gl rec2 p0 p1 p2)))
  else
  (xP_reachWanted_b49 gl rec2 p0 p1 p2))
  else
  (xP_reachWanted_b49 gl rec2 p0 p1 p2)))
def xP_reachWanted (gl : gl_T) (v0 : Option Nat) (v1 : Int32) : st_M (Unit) :=
  st_it (fun rec2 => (fun x : Option Nat × Int32 × Int32 => xP_reachWanted_b2 gl rec2 x.1 x.2.1 x.2.2)) fu_ (v0, v1, (1 : Int32))
/-! PromiseVats.reachCalls(Ljava/util/ArrayList;)V -/
def xP_reachCalls_b2 (gl : gl_T) (rec2 : Option Nat × Option Nat × Int32 → st_M (Unit)) (p0 : Option Nat) (p1 : Option Nat) (p2 : Int32) : st_M (Unit) :=
  st_g (so_cm p1 [6]) fun _ =>
  st_b (al_size gl p1) fun t1 =>
  if t1 ≤ p2 then
  (st_r ())
  else
  (st_g (so_cm p1 [6]) fun _ =>
  st_b (al_get gl p1 p2) fun t9 =>
  st_g (so_k t9 [8]) fun _ =>
  st_g (so_gq t9 [8] 0) fun t18 =>
  st_g (so_cm p0 [0]) fun _ =>
  st_b (xP_reach gl p0 t18) fun _ =>
  st_g (so_cm p1 [6]) fun _ =>
  st_b (al_get gl p1 p2) fun t27 =>
  st_g (so_k t27 [8]) fun _ =>
  st_g (so_gq t27 [8] 2) fun t36 =>
  st_g (so_cm p0 [0]) fun _ =>
  st_b (xP_reach gl p0 t36) fun _ =>
  rec2 (p0, p1, (p2 + (1 : Int32))))
def xP_reachCalls (gl : gl_T) (v0 : Option Nat) (v1 : Option Nat) : st_M (Unit) :=
  st_it (fun rec2 => (fun x : Option Nat × Option Nat × Int32 => xP_reachCalls_b2 gl rec2 x.1 x.2.1 x.2.2)) fu_ (v0, v1, (0 : Int32))
/-! PromiseVats.reachInside(LPromiseVats$Entity;)V -/
def xP_reachInside_b15 (gl : gl_T) (rec15 : Option Nat × Option Nat × Int32 → st_M (Unit)) (p0 : Option Nat) (p2 : Option Nat) (p4 : Int32) : st_M (Unit) :=
  if (4 : Int32) ≤ p4 then
  (st_r ())
  else
  (st_g (so_gq p2 [3] 2) fun t25 =>
  st_g (so_lq t25 [6] p4) fun t26 =>
  st_g (so_cm p0 [0]) fun _ =>
  st_b (xP_reach gl p0 t26) fun _ =>
  rec15 (p0, p2, (p4 + (1 : Int32))))
def xP_reachInside (gl : gl_T) (v0 : Option Nat) (v1 : Option Nat) : st_M (Unit) :=
  st_g (so_i v1 [3] [4]) fun t1 =>
  if t1 = 0 then
  (st_g (so_i v1 [4] [3]) fun t2 =>
  if t2 = 0 then
  (st_r ())
  else
  (st_g (so_k v1 [4]) fun _ =>
  st_g (so_gq v1 [4] 1) fun t4 =>
  st_g (so_cm v0 [0]) fun _ =>
  st_b (xP_reach gl v0 t4) fun _ =>
  st_g (so_gq v1 [4] 2) fun t13 =>
  st_g (so_cm v0 [0]) fun _ =>
  st_b (xP_reachCalls gl v0 t13) fun _ =>
  st_r ()))
  else
  (st_g (so_k v1 [3]) fun _ =>
  st_it (fun rec15 => (fun x : Option Nat × Option Nat × Int32 => xP_reachInside_b15 gl rec15 x.1 x.2.1 x.2.2)) fu_ (v0, v1, (0 : Int32)))
/-! PromiseVats.findReached(I)V -/
def xP_findReached_b30 (gl : gl_T) (rec2 : Option Nat × Int32 × Int32 → st_M (Unit)) (p0 : Option Nat) (p1 : Int32) (p2 : Int32) : st_M (Unit) :=
  rec2 (p0, p1, (p2 + (1 : Int32)))
def xP_findReached_b114 (gl : gl_T) (rec74 : Option Nat × Int32 × Int32 → st_M (Unit)) (p0 : Option Nat) (p1 : Int32) (p2 : Int32) : st_M (Unit) :=
  rec74 (p0, p1, (p2 + (1 : Int32)))
def xP_findReached_b74 (gl : gl_T) (rec74 : Option Nat × Int32 × Int32 → st_M (Unit)) (p0 : Option Nat) (p1 : Int32) (p2 : Int32) : st_M (Unit) :=
  st_g (so_gq p0 [0] 8) fun t42 =>
  st_g (so_n t42 [6]) fun t43 =>
  if t43 ≤ p2 then
  (st_r ())
  else
  (st_g (so_gi p0 [0] 9) fun t44 =>
  if t44 ≤ p2 then
  (st_r ())
  else
  (st_g (so_gq p0 [0] 8) fun t45 =>
  st_g (so_lq t45 [6] p2) fun t46 =>
  st_g (so_gi t46 [3, 4] 4) fun t47 =>
  if t47 = p1 then
  (st_g (so_gq p0 [0] 8) fun t48 =>
  st_g (so_lq t48 [6] p2) fun t49 =>
  st_g (so_cm p0 [0]) fun _ =>
  st_b (xP_reachInside gl p0 t49) fun _ =>
  xP_findReached_b114 gl rec74 p0 p1 p2)
  else
  (xP_findReached_b114 gl rec74 p0 p1 p2)))
def xP_findReached_b2 (gl : gl_T) (rec2 : Option Nat × Int32 × Int32 → st_M (Unit)) (p0 : Option Nat) (p1 : Int32) (p2 : Int32) : st_M (Unit) :=
  st_g (so_gq p0 [0] 2) fun t1 =>
  st_g (so_n t1 [6]) fun t2 =>
  if t2 ≤ p2 then
  (st_w (so_p p0 [0] 9 (.int (0 : Int32))) (
  st_g (so_gq p0 [0] 0) fun t4 =>
  st_g (so_lq t4 [4] p1) fun t5 =>
  st_g (so_gq t5 [5] 0) fun t6 =>
  st_g (so_cm p0 [0]) fun _ =>
  st_b (xP_reach gl p0 t6) fun _ =>
  st_g (so_cm p0 [0]) fun _ =>
  st_b (xP_reachWanted gl p0 p1) fun _ =>
  st_g (so_gq p0 [0] 0) fun t23 =>
  st_g (so_lq t23 [4] p1) fun t24 =>
  st_g (so_gq t24 [5] 1) fun t25 =>
  st_g (so_cm p0 [0]) fun _ =>
  st_b (xP_reachCalls gl p0 t25) fun _ =>
  st_it (fun rec74 => (fun x : Option Nat × Int32 × Int32 => xP_findReached_b74 gl rec74 x.1 x.2.1 x.2.2)) fu_ (p0, p1, (0 : Int32))))
  else
  (st_g (so_gq p0 [0] 2) fun t37 =>
  st_g (so_lq t37 [6] p2) fun t38 =>
  if t38 = none then
  (xP_findReached_b30 gl rec2 p0 p1 p2)
  else
  (st_g (so_gq p0 [0] 2) fun t39 =>
  st_g (so_lq t39 [6] p2) fun t40 =>
  st_w (so_p t40 [3, 4] 6 (.int (0 : Int32))) (
  xP_findReached_b30 gl rec2 p0 p1 p2)))
def xP_findReached (gl : gl_T) (v0 : Option Nat) (v1 : Int32) : st_M (Unit) :=
  st_it (fun rec2 => (fun x : Option Nat × Int32 × Int32 => xP_findReached_b2 gl rec2 x.1 x.2.1 x.2.2)) fu_ (v0, v1, (1 : Int32))
/-! PromiseVats.freeUnreached(I)I -/
def xP_freeUnreached_b60 (gl : gl_T) (rec4 : Option Nat × Int32 × Int32 × Int32 → st_M (Int32)) (p0 : Option Nat) (p1 : Int32) (p2 : Int32) (p3 : Int32) : st_M (Int32) :=
  rec4 (p0, p1, p2, (p3 + (1 : Int32)))
def xP_freeUnreached_b4 (gl : gl_T) (rec4 : Option Nat × Int32 × Int32 × Int32 → st_M (Int32)) (p0 : Option Nat) (p1 : Int32) (p2 : Int32) (p3 : Int32) : st_M (Int32) :=
  st_g (so_gq p0 [0] 2) fun t1 =>
  st_g (so_n t1 [6]) fun t2 =>
  if t2 ≤ p3 then
  (st_r p2)
  else
  (st_g (so_gq p0 [0] 2) fun t3 =>
  st_g (so_lq t3 [6] p3) fun t4 =>
  if t4 = none then
  (xP_freeUnreached_b60 gl rec4 p0 p1 p2 p3)
  else
  (st_g (so_gi t4 [3, 4] 4) fun t5 =>
  if t5 = p1 then
  (st_g (so_gi t4 [3, 4] 6) fun t6 =>
  if t6 = 0 then
  (st_g (so_gi t4 [3, 4] 5) fun t7 =>
  if t7 = 0 then
  (st_w (so_p t4 [3, 4] 5 (.int (1 : Int32))) (
  xP_freeUnreached_b60 gl rec4 p0 p1 (p2 + (1 : Int32)) p3))
  else
  (xP_freeUnreached_b60 gl rec4 p0 p1 p2 p3))
  else
  (xP_freeUnreached_b60 gl rec4 p0 p1 p2 p3))
  else
  (xP_freeUnreached_b60 gl rec4 p0 p1 p2 p3)))
def xP_freeUnreached (gl : gl_T) (v0 : Option Nat) (v1 : Int32) : st_M (Int32) :=
  st_it (fun rec4 => (fun x : Option Nat × Int32 × Int32 × Int32 => xP_freeUnreached_b4 gl rec4 x.1 x.2.1 x.2.2.1 x.2.2.2)) fu_ (v0, v1, (0 : Int32), (1 : Int32))
/-! PromiseVats.releaseUnreached(I)V -/
def xP_releaseUnreached_b70 (gl : gl_T) (rec2 : Option Nat × Int32 × Int32 → st_M (Unit)) (p0 : Option Nat) (p1 : Int32) (p2 : Int32) : st_M (Unit) :=
  rec2 (p0, p1, (p2 + (1 : Int32)))
def xP_releaseUnreached_b2 (gl : gl_T) (rec2 : Option Nat × Int32 × Int32 → st_M (Unit)) (p0 : Option Nat) (p1 : Int32) (p2 : Int32) : st_M (Unit) :=
  st_g (so_gq p0 [0] 2) fun t1 =>
  st_g (so_n t1 [6]) fun t2 =>
  if t2 ≤ p2 then
  (st_r ())
  else
  (st_g (so_gq p0 [0] 2) fun t3 =>
  st_g (so_lq t3 [6] p2) fun t4 =>
  if t4 = none then
  (xP_releaseUnreached_b70 gl rec2 p0 p1 p2)
  else
  (st_g (so_gq t4 [3, 4] 8) fun t5 =>
  st_g (so_li t5 0 p1) fun t6 =>
  if t6 ≤ 0 then
  (xP_releaseUnreached_b70 gl rec2 p0 p1 p2)
  else
  (st_g (so_gi t4 [3, 4] 6) fun t7 =>
  if t7 = 0 then
  (st_g (so_gi t4 [3, 4] 4) fun t8 =>
  st_n (.inr (.inr (9, cd_9))) 5 fun t9 =>
  st_g (so_gq t4 [3, 4] 8) fun t13 =>
  st_g (so_li t13 0 p1) fun t14 =>
  st_b (xM_init gl (some t9) (3 : Int32) t4 none t14) fun _ =>
  st_g (so_cm p0 [0]) fun _ =>
  st_b (xP_post gl p0 p1 t8 (some t9)) fun _ =>
  st_g (so_gq t4 [3, 4] 8) fun t31 =>
  st_w (so_si t31 0 p1 (0 : Int32)) (
  xP_releaseUnreached_b70 gl rec2 p0 p1 p2))
  else
  (xP_releaseUnreached_b70 gl rec2 p0 p1 p2))))
def xP_releaseUnreached (gl : gl_T) (v0 : Option Nat) (v1 : Int32) : st_M (Unit) :=
  st_it (fun rec2 => (fun x : Option Nat × Int32 × Int32 => xP_releaseUnreached_b2 gl rec2 x.1 x.2.1 x.2.2)) fu_ (v0, v1, (1 : Int32))
/-! PromiseVats.sweep(I)I -/
def xP_sweep (gl : gl_T) (v0 : Option Nat) (v1 : Int32) : st_M (Int32) :=
  st_g (so_cm v0 [0]) fun _ =>
  st_b (xP_isVat gl v0 v1) fun t1 =>
  if t1 = 0 then
  (st_r (-1 : Int32))
  else
  (st_g (so_cm v0 [0]) fun _ =>
  st_b (xP_findReached gl v0 v1) fun _ =>
  st_g (so_cm v0 [0]) fun _ =>
  st_b (xP_freeUnreached gl v0 v1) fun t17 =>
  st_g (so_cm v0 [0]) fun _ =>
  st_b (xP_releaseUnreached gl v0 v1) fun _ =>
  st_r t17)
/-! PromiseVats.inbox(I)I -/
def xP_inbox (gl : gl_T) (v0 : Option Nat) (v1 : Int32) : st_M (Int32) :=
  st_g (so_cm v0 [0]) fun _ =>
  st_b (xP_isVat gl v0 v1) fun t1 =>
  if t1 = 0 then
  (st_r (0 : Int32))
  else
  (st_g (so_gq v0 [0] 0) fun t9 =>
  st_g (so_lq t9 [4] v1) fun t10 =>
  st_g (so_gq t10 [5] 1) fun t11 =>
  st_g (so_cm t11 [6]) fun _ =>
  st_b (al_size gl t11) fun t12 =>
  st_r t12)
/-! PromiseVats.waitingAt(LPromiseVats$Entity;)I -/
def xP_waitingAt (gl : gl_T) (v0 : Option Nat) : st_M (Int32) :=
  st_g (so_i v0 [4] [3]) fun t1 =>
  if t1 = 0 then
  (st_r (0 : Int32))
  else
  (st_g (so_k v0 [4]) fun _ =>
  st_g (so_gq v0 [4] 2) fun t3 =>
  st_g (so_cm t3 [6]) fun _ =>
  st_b (al_size gl t3) fun t4 =>
  st_r t4)
/-! PromiseVats.kindOf(LPromiseVats$Entity;)I -/
def xP_kindOf (gl : gl_T) (v0 : Option Nat) : st_M (Int32) :=
  st_g (so_i v0 [4] [3]) fun t1 =>
  if t1 = 0 then
  (st_r (0 : Int32))
  else
  (st_g (so_k v0 [4]) fun _ =>
  st_g (so_gi v0 [4] 0) fun t3 =>
  if t3 = 0 then
  (st_r (2 : Int32))
  else
  (st_r (1 : Int32)))
/-! PromiseVats.shareInCount(LPromiseVats$Entity;II)I -/
def xP_shareInCount_b92 (gl : gl_T) : st_M (Int32) :=
  st_r (0 : Int32)
def xP_shareInCount (gl : gl_T) (v0 : Option Nat) (v1 : Int32) (v2 : Int32) : st_M (Int32) :=
  if v2 = (3 : Int32) then
  (st_g (so_gq v0 [3, 4] 8) fun t1 =>
  st_g (so_li t1 0 v1) fun t2 =>
  if t2 ≤ 0 then
  (st_r (0 : Int32))
  else
  (st_r (1 : Int32)))
  else
  (st_g (so_gi v0 [3, 4] 4) fun t3 =>
  if t3 = v1 then
  ((if v2 = (4 : Int32) then
  (st_g (so_cm v0 [3, 4]) fun _ =>
  st_b (xE_unpaired gl v0 (1 : Int32)) fun t4 =>
  st_r t4)
  else
  (if v2 = (5 : Int32) then
  (st_g (so_cm v0 [3, 4]) fun _ =>
  st_b (xE_unpaired gl v0 (-1 : Int32)) fun t13 =>
  st_r t13)
  else
  (if v2 = (6 : Int32) then
  (st_b (xP_waitingAt gl v0) fun t22 =>
  st_r t22)
  else
  (st_g (so_gi v0 [3, 4] 5) fun t30 =>
  if t30 = 0 then
  (st_b (xP_kindOf gl v0) fun t31 =>
  if v2 = t31 then
  (st_r (1 : Int32))
  else
  (xP_shareInCount_b92 gl ))
  else
  (xP_shareInCount_b92 gl ))))))
  else
  (st_r (0 : Int32)))
/-! PromiseVats.count(II)I -/
def xP_count_b66 (gl : gl_T) (rec31 : Option Nat × Int32 × Int32 × Int32 × Int32 → st_M (Int32)) (p0 : Option Nat) (p1 : Int32) (p2 : Int32) (p3 : Int32) (p4 : Int32) : st_M (Int32) :=
  rec31 (p0, p1, p2, p3, (p4 + (1 : Int32)))
def xP_count_b31 (gl : gl_T) (rec31 : Option Nat × Int32 × Int32 × Int32 × Int32 → st_M (Int32)) (p0 : Option Nat) (p1 : Int32) (p2 : Int32) (p3 : Int32) (p4 : Int32) : st_M (Int32) :=
  st_g (so_gq p0 [0] 2) fun t13 =>
  st_g (so_n t13 [6]) fun t14 =>
  if t14 ≤ p4 then
  (st_r p3)
  else
  (st_g (so_gq p0 [0] 2) fun t15 =>
  st_g (so_lq t15 [6] p4) fun t16 =>
  if t16 = none then
  (xP_count_b66 gl rec31 p0 p1 p2 p3 p4)
  else
  (st_g (so_gq p0 [0] 2) fun t17 =>
  st_g (so_lq t17 [6] p4) fun t18 =>
  st_b (xP_shareInCount gl t18 p1 p2) fun t19 =>
  xP_count_b66 gl rec31 p0 p1 p2 (p3 + t19) p4))
def xP_count (gl : gl_T) (v0 : Option Nat) (v1 : Int32) (v2 : Int32) : st_M (Int32) :=
  st_g (so_cm v0 [0]) fun _ =>
  st_b (xP_isVat gl v0 v1) fun t1 =>
  if t1 = 0 then
  (st_r (0 : Int32))
  else
  (if v2 = (7 : Int32) then
  (st_g (so_gq v0 [0] 0) fun t9 =>
  st_g (so_lq t9 [4] v1) fun t10 =>
  st_g (so_gi t10 [5] 4) fun t11 =>
  st_r t11)
  else
  (st_it (fun rec31 => (fun x : Option Nat × Int32 × Int32 × Int32 × Int32 => xP_count_b31 gl rec31 x.1 x.2.1 x.2.2.1 x.2.2.2.1 x.2.2.2.2)) fu_ (v0, v1, v2, (0 : Int32), (1 : Int32))))
/-! PromiseVats.madeEntity(I)LPromiseVats$Entity; -/
def xP_madeEntity_b22 (gl : gl_T) : st_M (Option Nat) :=
  st_r none
def xP_madeEntity (gl : gl_T) (v0 : Option Nat) (v1 : Int32) : st_M (Option Nat) :=
  if v1 < 0 then
  (xP_madeEntity_b22 gl )
  else
  (st_g (so_gq v0 [0] 2) fun t1 =>
  st_g (so_n t1 [6]) fun t2 =>
  if t2 ≤ v1 then
  (xP_madeEntity_b22 gl )
  else
  (st_g (so_gq v0 [0] 2) fun t3 =>
  st_g (so_lq t3 [6] v1) fun t4 =>
  st_r t4))
/-! PromiseVats.imported(II)I -/
def xP_imported_b27 (gl : gl_T) : st_M (Int32) :=
  st_r (0 : Int32)
def xP_imported (gl : gl_T) (v0 : Option Nat) (v1 : Int32) (v2 : Int32) : st_M (Int32) :=
  st_g (so_cm v0 [0]) fun _ =>
  st_b (xP_madeEntity gl v0 v2) fun t1 =>
  st_g (so_cm v0 [0]) fun _ =>
  st_b (xP_isVat gl v0 v1) fun t9 =>
  if t9 = 0 then
  (xP_imported_b27 gl )
  else
  (if t1 = none then
  (xP_imported_b27 gl )
  else
  (st_g (so_gq t1 [3, 4] 8) fun t17 =>
  st_g (so_li t17 0 v1) fun t18 =>
  st_r t18))
/-! PromiseVats.liveEntity(I)LPromiseVats$Entity; -/
def xP_liveEntity_b17 (gl : gl_T) : st_M (Option Nat) :=
  st_r none
def xP_liveEntity (gl : gl_T) (v0 : Option Nat) (v1 : Int32) : st_M (Option Nat) :=
  st_g (so_cm v0 [0]) fun _ =>
  st_b (xP_madeEntity gl v0 v1) fun t1 =>
  if t1 = none then
  (xP_liveEntity_b17 gl )
  else
  (st_g (so_gi t1 [3, 4] 5) fun t9 =>
  if t9 = 0 then
  (st_r t1)
  else
  (xP_liveEntity_b17 gl ))
/-! PromiseVats.exported(II)I -/
def xP_exported_b27 (gl : gl_T) : st_M (Int32) :=
  st_r (0 : Int32)
def xP_exported (gl : gl_T) (v0 : Option Nat) (v1 : Int32) (v2 : Int32) : st_M (Int32) :=
  st_g (so_cm v0 [0]) fun _ =>
  st_b (xP_liveEntity gl v0 v1) fun t1 =>
  st_g (so_cm v0 [0]) fun _ =>
  st_b (xP_isVat gl v0 v2) fun t9 =>
  if t9 = 0 then
  (xP_exported_b27 gl )
  else
  (if t1 = none then
  (xP_exported_b27 gl )
  else
  (st_g (so_gq t1 [3, 4] 7) fun t17 =>
  st_g (so_li t17 0 v2) fun t18 =>
  st_r t18))
/-! PromiseVats.home(I)I -/
def xP_home (gl : gl_T) (v0 : Option Nat) (v1 : Int32) : st_M (Int32) :=
  st_g (so_cm v0 [0]) fun _ =>
  st_b (xP_liveEntity gl v0 v1) fun t1 =>
  if t1 = none then
  (st_r (-1 : Int32))
  else
  (st_g (so_gi t1 [3, 4] 4) fun t9 =>
  st_r t9)
/-! PromiseVats.referenceTo(LPromiseVats$Entity;)I -/
def xP_referenceTo (gl : gl_T) (v0 : Option Nat) : st_M (Int32) :=
  if v0 = none then
  (st_r (0 : Int32))
  else
  (st_g (so_gi v0 [3, 4] 3) fun t1 =>
  st_r t1)
/-! PromiseVats.slot(II)I -/
def xP_slot_b38 (gl : gl_T) : st_M (Int32) :=
  st_r (0 : Int32)
def xP_slot (gl : gl_T) (v0 : Option Nat) (v1 : Int32) (v2 : Int32) : st_M (Int32) :=
  st_b (xP_isSlot gl v2) fun t1 =>
  if t1 = 0 then
  (xP_slot_b38 gl )
  else
  (st_g (so_cm v0 [0]) fun _ =>
  st_b (xP_liveEntity gl v0 v1) fun t9 =>
  st_g (so_i t9 [3] [4]) fun t17 =>
  if t17 = 0 then
  (xP_slot_b38 gl )
  else
  (st_g (so_k t9 [3]) fun _ =>
  st_g (so_gq t9 [3] 2) fun t19 =>
  st_g (so_lq t19 [6] v2) fun t20 =>
  st_b (xP_referenceTo gl t20) fun t21 =>
  st_r t21))
/-! PromiseVats.number(I)I -/
def xP_number (gl : gl_T) (v0 : Option Nat) (v1 : Int32) : st_M (Int32) :=
  st_g (so_cm v0 [0]) fun _ =>
  st_b (xP_liveEntity gl v0 v1) fun t1 =>
  st_g (so_i t1 [3] [4]) fun t9 =>
  if t9 = 0 then
  (st_r (0 : Int32))
  else
  (st_g (so_k t1 [3]) fun _ =>
  st_g (so_gi t1 [3] 1) fun t11 =>
  st_r t11)
/-! PromiseVats.resolved(I)I -/
def xP_resolved_b33 (gl : gl_T) : st_M (Int32) :=
  st_r (-1 : Int32)
def xP_resolved (gl : gl_T) (v0 : Option Nat) (v1 : Int32) : st_M (Int32) :=
  st_g (so_cm v0 [0]) fun _ =>
  st_b (xP_liveEntity gl v0 v1) fun t1 =>
  st_g (so_i t1 [4] [3]) fun t9 =>
  if t9 = 0 then
  (xP_resolved_b33 gl )
  else
  (st_g (so_k t1 [4]) fun _ =>
  st_g (so_gi t1 [4] 0) fun t11 =>
  if t11 = 0 then
  (st_g (so_gq t1 [4] 1) fun t12 =>
  st_b (xP_referenceTo gl t12) fun t13 =>
  st_r t13)
  else
  (xP_resolved_b33 gl ))
/-! PromiseVats.output(II)I -/
def xP_output_b32 (gl : gl_T) : st_M (Int32) :=
  st_r (0 : Int32)
def xP_output (gl : gl_T) (v0 : Option Nat) (v1 : Int32) (v2 : Int32) : st_M (Int32) :=
  st_g (so_cm v0 [0]) fun _ =>
  st_b (xP_isVat gl v0 v1) fun t1 =>
  if t1 = 0 then
  (xP_output_b32 gl )
  else
  (if v2 < 0 then
  (xP_output_b32 gl )
  else
  (if (10 : Int32) ≤ v2 then
  (xP_output_b32 gl )
  else
  (st_g (so_gq v0 [0] 0) fun t9 =>
  st_g (so_lq t9 [4] v1) fun t10 =>
  st_g (so_gq t10 [5] 3) fun t11 =>
  st_g (so_li t11 0 v2) fun t12 =>
  st_r t12)))
end
section
/-! PromiseVatsModel.<init>(I)V -/
def mm_init_b263 (gl : gl_T) (rec263 : Option Nat × Int32 → st_M (Unit)) (p0 : Option Nat) (p2 : Int32) : st_M (Unit) :=
  st_g (so_gi p0 [10] 0) fun t192 =>
  if t192 ≤ p2 then
  (st_r ())
  else
  (st_g (so_gi p0 [10] 1) fun t193 =>
  st_w (so_p p0 [10] 1 (.int (t193 + (1 : Int32)))) (
  st_g (so_gq p0 [10] 6) fun t195 =>
  st_g (so_gi p0 [10] 1) fun t196 =>
  st_w (so_si t195 1 t196 ((p2.toInt8.toInt32).toInt8.toInt32)) (
  st_g (so_gq p0 [10] 11) fun t198 =>
  st_g (so_gi p0 [10] 1) fun t199 =>
  st_w (so_si t198 1 t199 ((p2.toInt8.toInt32).toInt8.toInt32)) (
  rec263 (p0, (p2 + (1 : Int32)))))))
def mm_init_b258 (gl : gl_T) (p0 : Option Nat) (q0 : Int32) (q1 : Option Nat) : st_M (Unit) :=
  st_w (so_p q1 [10] 0 (.int q0)) (
  st_it (fun rec263 => (fun x : Option Nat × Int32 => mm_init_b263 gl rec263 x.1 x.2)) fu_ (p0, (0 : Int32)))
def mm_init (gl : gl_T) (v0 : Option Nat) (v1 : Int32) : st_M (Unit) :=
  st_g (so_c v0) fun _ =>
  st_g (so_l (8 : Int32)) fun _ =>
  st_n (.inl (0, (8 : Int32).toNatClampNeg, fun _ => 0)) (8 : Int32).toNatClampNeg fun t2 =>
  st_w (so_p v0 [10] 3 (va_rf (some t2))) (
  st_g (so_l (64 : Int32)) fun _ =>
  st_n (.inl (0, (64 : Int32).toNatClampNeg, fun _ => 0)) (64 : Int32).toNatClampNeg fun t9 =>
  st_w (so_p v0 [10] 4 (va_rf (some t9))) (
  st_g (so_l (64 : Int32)) fun _ =>
  st_n (.inl (0, (64 : Int32).toNatClampNeg, fun _ => 0)) (64 : Int32).toNatClampNeg fun t16 =>
  st_w (so_p v0 [10] 5 (va_rf (some t16))) (
  st_g (so_l (201 : Int32)) fun _ =>
  st_n (.inl (1, (201 : Int32).toNatClampNeg, fun _ => 0)) (201 : Int32).toNatClampNeg fun t23 =>
  st_w (so_p v0 [10] 6 (va_rf (some t23))) (
  st_g (so_l (201 : Int32)) fun _ =>
  st_n (.inl (2, (201 : Int32).toNatClampNeg, fun _ => 0)) (201 : Int32).toNatClampNeg fun t30 =>
  st_w (so_p v0 [10] 7 (va_rf (some t30))) (
  st_g (so_l (201 : Int32)) fun _ =>
  st_n (.inl (2, (201 : Int32).toNatClampNeg, fun _ => 0)) (201 : Int32).toNatClampNeg fun t37 =>
  st_w (so_p v0 [10] 8 (va_rf (some t37))) (
  st_g (so_l (201 : Int32)) fun _ =>
  st_n (.inl (0, (201 : Int32).toNatClampNeg, fun _ => 0)) (201 : Int32).toNatClampNeg fun t44 =>
  st_w (so_p v0 [10] 9 (va_rf (some t44))) (
  st_g (so_l (201 : Int32)) fun _ =>
  st_n (.inl (2, (201 : Int32).toNatClampNeg, fun _ => 0)) (201 : Int32).toNatClampNeg fun t51 =>
  st_w (so_p v0 [10] 10 (va_rf (some t51))) (
  st_g (so_l (61 : Int32)) fun _ =>
  st_n (.inl (1, (61 : Int32).toNatClampNeg, fun _ => 0)) (61 : Int32).toNatClampNeg fun t58 =>
  st_w (so_p v0 [10] 11 (va_rf (some t58))) (
  st_g (so_l (61 : Int32)) fun _ =>
  st_n (.inl (0, (61 : Int32).toNatClampNeg, fun _ => 0)) (61 : Int32).toNatClampNeg fun t65 =>
  st_w (so_p v0 [10] 12 (va_rf (some t65))) (
  st_g (so_l (244 : Int32)) fun _ =>
  st_n (.inl (0, (244 : Int32).toNatClampNeg, fun _ => 0)) (244 : Int32).toNatClampNeg fun t72 =>
  st_w (so_p v0 [10] 13 (va_rf (some t72))) (
  st_g (so_l (804 : Int32)) fun _ =>
  st_n (.inl (0, (804 : Int32).toNatClampNeg, fun _ => 0)) (804 : Int32).toNatClampNeg fun t79 =>
  st_w (so_p v0 [10] 15 (va_rf (some t79))) (
  st_g (so_l (804 : Int32)) fun _ =>
  st_n (.inl (0, (804 : Int32).toNatClampNeg, fun _ => 0)) (804 : Int32).toNatClampNeg fun t86 =>
  st_w (so_p v0 [10] 16 (va_rf (some t86))) (
  st_g (so_l (3216 : Int32)) fun _ =>
  st_n (.inl (0, (3216 : Int32).toNatClampNeg, fun _ => 0)) (3216 : Int32).toNatClampNeg fun t93 =>
  st_w (so_p v0 [10] 17 (va_rf (some t93))) (
  st_g (so_l (200 : Int32)) fun _ =>
  st_n (.inl (0, (200 : Int32).toNatClampNeg, fun _ => 0)) (200 : Int32).toNatClampNeg fun t100 =>
  st_w (so_p v0 [10] 19 (va_rf (some t100))) (
  st_g (so_l (200 : Int32)) fun _ =>
  st_n (.inl (0, (200 : Int32).toNatClampNeg, fun _ => 0)) (200 : Int32).toNatClampNeg fun t107 =>
  st_w (so_p v0 [10] 20 (va_rf (some t107))) (
  st_g (so_l (200 : Int32)) fun _ =>
  st_n (.inl (0, (200 : Int32).toNatClampNeg, fun _ => 0)) (200 : Int32).toNatClampNeg fun t114 =>
  st_w (so_p v0 [10] 21 (va_rf (some t114))) (
  st_g (so_l (200 : Int32)) fun _ =>
  st_n (.inl (0, (200 : Int32).toNatClampNeg, fun _ => 0)) (200 : Int32).toNatClampNeg fun t121 =>
  st_w (so_p v0 [10] 22 (va_rf (some t121))) (
  st_g (so_l (200 : Int32)) fun _ =>
  st_n (.inl (0, (200 : Int32).toNatClampNeg, fun _ => 0)) (200 : Int32).toNatClampNeg fun t128 =>
  st_w (so_p v0 [10] 23 (va_rf (some t128))) (
  st_g (so_l (2100 : Int32)) fun _ =>
  st_n (.inl (1, (2100 : Int32).toNatClampNeg, fun _ => 0)) (2100 : Int32).toNatClampNeg fun t135 =>
  st_w (so_p v0 [10] 25 (va_rf (some t135))) (
  st_g (so_l (2100 : Int32)) fun _ =>
  st_n (.inl (3, (2100 : Int32).toNatClampNeg, fun _ => 0)) (2100 : Int32).toNatClampNeg fun t142 =>
  st_w (so_p v0 [10] 26 (va_rf (some t142))) (
  st_g (so_l (2100 : Int32)) fun _ =>
  st_n (.inl (0, (2100 : Int32).toNatClampNeg, fun _ => 0)) (2100 : Int32).toNatClampNeg fun t149 =>
  st_w (so_p v0 [10] 27 (va_rf (some t149))) (
  st_g (so_l (2100 : Int32)) fun _ =>
  st_n (.inl (3, (2100 : Int32).toNatClampNeg, fun _ => 0)) (2100 : Int32).toNatClampNeg fun t156 =>
  st_w (so_p v0 [10] 28 (va_rf (some t156))) (
  st_g (so_l (2100 : Int32)) fun _ =>
  st_n (.inl (3, (2100 : Int32).toNatClampNeg, fun _ => 0)) (2100 : Int32).toNatClampNeg fun t163 =>
  st_w (so_p v0 [10] 29 (va_rf (some t163))) (
  st_g (so_l (101 : Int32)) fun _ =>
  st_n (.inl (0, (101 : Int32).toNatClampNeg, fun _ => 0)) (101 : Int32).toNatClampNeg fun t170 =>
  st_w (so_p v0 [10] 31 (va_rf (some t170))) (
  st_g (so_l (4 : Int32)) fun _ =>
  st_n (.inl (0, (4 : Int32).toNatClampNeg, fun _ => 0)) (4 : Int32).toNatClampNeg fun t177 =>
  st_w (so_p v0 [10] 32 (va_rf (some t177))) (
  st_g (so_l (40 : Int32)) fun _ =>
  st_n (.inl (0, (40 : Int32).toNatClampNeg, fun _ => 0)) (40 : Int32).toNatClampNeg fun t184 =>
  st_w (so_p v0 [10] 33 (va_rf (some t184))) (
  if (2 : Int32) ≤ v1 then
  (if v1 ≤ (4 : Int32) then
  (mm_init_b258 gl v0 v1 v0)
  else
  (mm_init_b258 gl v0 (4 : Int32) v0))
  else
  (mm_init_b258 gl v0 (2 : Int32) v0))))))))))))))))))))))))))))
/-! PromiseVatsModel.code(III)Z -/
def mm_code_b31 (gl : gl_T) : st_M (Int32) :=
  st_r (0 : Int32)
def mm_code_b92 (gl : gl_T) : st_M (Int32) :=
  st_r (0 : Int32)
def mm_code_b94 (gl : gl_T) (p0 : Option Nat) (p1 : Int32) (p2 : Int32) (p3 : Int32) : st_M (Int32) :=
  st_g (so_gq p0 [10] 3) fun t3 =>
  st_g (so_li t3 0 p1) fun t4 =>
  st_g (so_gq p0 [10] 4) fun t5 =>
  st_w (so_si t5 0 (((8 : Int32) * p1) + t4) p2) (
  st_g (so_gq p0 [10] 5) fun t7 =>
  st_w (so_si t7 0 (((8 : Int32) * p1) + t4) p3) (
  st_g (so_gq p0 [10] 3) fun t9 =>
  st_g (so_li t9 0 p1) fun t10 =>
  st_w (so_si t9 0 p1 (t10 + (1 : Int32))) (
  st_r (1 : Int32))))
def mm_code_b82 (gl : gl_T) (p0 : Option Nat) (p1 : Int32) (p2 : Int32) (p3 : Int32) : st_M (Int32) :=
  if p3 < 0 then
  (mm_code_b92 gl )
  else
  (if p3 ≤ (7 : Int32) then
  (mm_code_b94 gl p0 p1 p2 p3)
  else
  (mm_code_b92 gl ))
def mm_code_b70 (gl : gl_T) (p0 : Option Nat) (p1 : Int32) (p2 : Int32) (p3 : Int32) : st_M (Int32) :=
  if p2 = (6 : Int32) then
  (mm_code_b82 gl p0 p1 p2 p3)
  else
  (if p2 = (8 : Int32) then
  (mm_code_b82 gl p0 p1 p2 p3)
  else
  (mm_code_b94 gl p0 p1 p2 p3))
def mm_code_b54 (gl : gl_T) (p0 : Option Nat) (p1 : Int32) (p2 : Int32) (p3 : Int32) (q0 : Int32) : st_M (Int32) :=
  if q0 = 0 then
  (mm_code_b70 gl p0 p1 p2 p3)
  else
  (if p3 < 0 then
  (mm_code_b92 gl )
  else
  (if (3 : Int32) < p3 then
  (mm_code_b92 gl )
  else
  (mm_code_b70 gl p0 p1 p2 p3)))
def mm_code_b49 (gl : gl_T) (p0 : Option Nat) (p1 : Int32) (p2 : Int32) (p3 : Int32) : st_M (Int32) :=
  mm_code_b54 gl p0 p1 p2 p3 (1 : Int32)
def mm_code (gl : gl_T) (v0 : Option Nat) (v1 : Int32) (v2 : Int32) (v3 : Int32) : st_M (Int32) :=
  if v1 < 0 then
  (mm_code_b31 gl )
  else
  (if (7 : Int32) < v1 then
  (mm_code_b31 gl )
  else
  (if v2 < 0 then
  (mm_code_b31 gl )
  else
  (if (10 : Int32) < v2 then
  (mm_code_b31 gl )
  else
  (st_g (so_gq v0 [10] 3) fun t1 =>
  st_g (so_li t1 0 v1) fun t2 =>
  if t2 < (8 : Int32) then
  (if v2 = (3 : Int32) then
  (mm_code_b49 gl v0 v1 v2 v3)
  else
  (if v2 = (4 : Int32) then
  (mm_code_b49 gl v0 v1 v2 v3)
  else
  (if v2 = (7 : Int32) then
  (mm_code_b49 gl v0 v1 v2 v3)
  else
  (mm_code_b54 gl v0 v1 v2 v3 (0 : Int32)))))
  else
  (mm_code_b31 gl )))))
/-! PromiseVatsModel.clear(I)Z -/
def mm_clear_b10 (gl : gl_T) : st_M (Int32) :=
  st_r (0 : Int32)
def mm_clear (gl : gl_T) (v0 : Option Nat) (v1 : Int32) : st_M (Int32) :=
  if v1 < 0 then
  (mm_clear_b10 gl )
  else
  (if v1 ≤ (7 : Int32) then
  (st_g (so_gq v0 [10] 3) fun t1 =>
  st_w (so_si t1 0 v1 (0 : Int32)) (
  st_r (1 : Int32)))
  else
  (mm_clear_b10 gl ))
/-! PromiseVatsModel.vat(I)Z -/
def mm_vat_b16 (gl : gl_T) : st_M (Int32) :=
  st_r (0 : Int32)
def mm_vat (gl : gl_T) (v0 : Option Nat) (v1 : Int32) : st_M (Int32) :=
  if v1 < 0 then
  (mm_vat_b16 gl )
  else
  (st_g (so_gi v0 [10] 0) fun t1 =>
  if t1 ≤ v1 then
  (mm_vat_b16 gl )
  else
  (st_r (1 : Int32)))
/-! PromiseVatsModel.oldest(I)I -/
def mm_oldest_b29 (gl : gl_T) (p0 : Option Nat) (p2 : Int32) : st_M (Int32) :=
  st_g (so_gi p0 [10] 24) fun t4 =>
  if t4 ≤ p2 then
  (st_r (-1 : Int32))
  else
  (st_r p2)
def mm_oldest_b2 (gl : gl_T) (rec2 : Option Nat × Int32 × Int32 → st_M (Int32)) (p0 : Option Nat) (p1 : Int32) (p2 : Int32) : st_M (Int32) :=
  st_g (so_gi p0 [10] 24) fun t1 =>
  if t1 ≤ p2 then
  (mm_oldest_b29 gl p0 p2)
  else
  (st_g (so_gq p0 [10] 25) fun t2 =>
  st_g (so_li t2 1 p2) fun t3 =>
  if (t3 - t3 / (16 : Int32) * (16 : Int32)) = p1 then
  (mm_oldest_b29 gl p0 p2)
  else
  (rec2 (p0, p1, (p2 + (1 : Int32)))))
def mm_oldest (gl : gl_T) (v0 : Option Nat) (v1 : Int32) : st_M (Int32) :=
  st_it (fun rec2 => (fun x : Option Nat × Int32 × Int32 => mm_oldest_b2 gl rec2 x.1 x.2.1 x.2.2)) fu_ (v0, v1, (0 : Int32))
/-! PromiseVatsModel.unmail(I)V -/
def mm_unmail_b12 (gl : gl_T) (rec12 : Option Nat × Int32 → st_M (Unit)) (p0 : Option Nat) (p2 : Int32) : st_M (Unit) :=
  st_g (so_gi p0 [10] 24) fun t3 =>
  if t3 ≤ p2 then
  (st_r ())
  else
  (st_g (so_gq p0 [10] 25) fun t4 =>
  st_g (so_gq p0 [10] 25) fun t5 =>
  st_g (so_li t5 1 (p2 + (1 : Int32))) fun t6 =>
  st_w (so_si t4 1 p2 (t6.toInt8.toInt32)) (
  st_g (so_gq p0 [10] 26) fun t8 =>
  st_g (so_gq p0 [10] 26) fun t9 =>
  st_g (so_li t9 3 (p2 + (1 : Int32))) fun t10 =>
  st_w (so_si t8 3 p2 (t10.toInt16.toInt32)) (
  st_g (so_gq p0 [10] 27) fun t12 =>
  st_g (so_gq p0 [10] 27) fun t13 =>
  st_g (so_li t13 0 (p2 + (1 : Int32))) fun t14 =>
  st_w (so_si t12 0 p2 t14) (
  st_g (so_gq p0 [10] 28) fun t16 =>
  st_g (so_gq p0 [10] 28) fun t17 =>
  st_g (so_li t17 3 (p2 + (1 : Int32))) fun t18 =>
  st_w (so_si t16 3 p2 (t18.toInt16.toInt32)) (
  st_g (so_gq p0 [10] 29) fun t20 =>
  st_g (so_gq p0 [10] 29) fun t21 =>
  st_g (so_li t21 3 (p2 + (1 : Int32))) fun t22 =>
  st_w (so_si t20 3 p2 (t22.toInt16.toInt32)) (
  rec12 (p0, (p2 + (1 : Int32)))))))))
def mm_unmail (gl : gl_T) (v0 : Option Nat) (v1 : Int32) : st_M (Unit) :=
  st_g (so_gi v0 [10] 24) fun t1 =>
  st_w (so_p v0 [10] 24 (.int (t1 - (1 : Int32)))) (
  st_it (fun rec12 => (fun x : Option Nat × Int32 => mm_unmail_b12 gl rec12 x.1 x.2)) fu_ (v0, v1))
/-! PromiseVatsModel.post(IIIIII)V -/
def mm_post (gl : gl_T) (v0 : Option Nat) (v1 : Int32) (v2 : Int32) (v3 : Int32) (v4 : Int32) (v5 : Int32) (v6 : Int32) : st_M (Unit) :=
  st_g (so_gq v0 [10] 25) fun t1 =>
  st_g (so_gi v0 [10] 24) fun t2 =>
  st_w (so_si t1 1 t2 (((((16 : Int32) * v1) + v2).toInt8.toInt32).toInt8.toInt32)) (
  st_g (so_gq v0 [10] 26) fun t4 =>
  st_g (so_gi v0 [10] 24) fun t5 =>
  st_w (so_si t4 3 t5 ((v3.toInt16.toInt32).toInt16.toInt32)) (
  st_g (so_gq v0 [10] 27) fun t7 =>
  st_g (so_gi v0 [10] 24) fun t8 =>
  st_w (so_si t7 0 t8 v4) (
  st_g (so_gq v0 [10] 28) fun t10 =>
  st_g (so_gi v0 [10] 24) fun t11 =>
  st_w (so_si t10 3 t11 ((v5.toInt16.toInt32).toInt16.toInt32)) (
  st_g (so_gq v0 [10] 29) fun t13 =>
  st_g (so_gi v0 [10] 24) fun t14 =>
  st_w (so_si t13 3 t14 ((v6.toInt16.toInt32).toInt16.toInt32)) (
  st_g (so_gi v0 [10] 24) fun t16 =>
  st_w (so_p v0 [10] 24 (.int (t16 + (1 : Int32)))) (
  st_r ()))))))
/-! PromiseVatsModel.unpack(III)V -/
def mm_unpack (gl : gl_T) (v0 : Option Nat) (v1 : Int32) (v2 : Int32) (v3 : Int32) : st_M (Unit) :=
  if v3 = 0 then
  (st_r ())
  else
  (st_g (so_gq v0 [10] 6) fun t1 =>
  st_g (so_li t1 1 v3) fun t2 =>
  if t2 = v2 then
  (st_r ())
  else
  (st_g (so_gq v0 [10] 16) fun t3 =>
  st_g (so_li t3 0 (((4 : Int32) * v3) + v2)) fun t4 =>
  st_w (so_si t3 0 (((4 : Int32) * v3) + v2) (t4 + (1 : Int32))) (
  st_g (so_gq v0 [10] 6) fun t6 =>
  st_g (so_li t6 1 v3) fun t7 =>
  if t7 = v1 then
  (st_r ())
  else
  (st_g (so_gq v0 [10] 6) fun t8 =>
  st_g (so_li t8 1 v3) fun t9 =>
  st_g (so_cm v0 [10]) fun _ =>
  st_b (mm_post gl v0 (5 : Int32) (((4 : Int32) * v2) + t9) v3 v1 (0 : Int32) (0 : Int32)) fun _ =>
  st_r ()))))
/-! PromiseVatsModel.passes(II)Z -/
def mm_passes_b29 (gl : gl_T) : st_M (Int32) :=
  st_r (0 : Int32)
def mm_passes (gl : gl_T) (v0 : Option Nat) (v1 : Int32) (v2 : Int32) : st_M (Int32) :=
  if v2 ≤ (100 : Int32) then
  (mm_passes_b29 gl )
  else
  (st_g (so_gq v0 [10] 6) fun t1 =>
  st_g (so_li t1 1 v2) fun t2 =>
  if t2 = v1 then
  (st_g (so_gq v0 [10] 8) fun t3 =>
  st_g (so_li t3 2 v2) fun t4 =>
  if t4 = 0 then
  (mm_passes_b29 gl )
  else
  (st_r (1 : Int32)))
  else
  (mm_passes_b29 gl ))
/-! PromiseVatsModel.waits(I)I -/
def mm_waits_b29 (gl : gl_T) (rec4 : Option Nat × Int32 × Int32 × Int32 → st_M (Int32)) (p0 : Option Nat) (p1 : Int32) (p3 : Int32) (q0 : Int32) : st_M (Int32) :=
  rec4 (p0, p1, q0, (p3 + (1 : Int32)))
def mm_waits_b4 (gl : gl_T) (rec4 : Option Nat × Int32 × Int32 × Int32 → st_M (Int32)) (p0 : Option Nat) (p1 : Int32) (p2 : Int32) (p3 : Int32) : st_M (Int32) :=
  st_g (so_gi p0 [10] 18) fun t1 =>
  if t1 ≤ p3 then
  (st_r p2)
  else
  (st_g (so_gq p0 [10] 19) fun t2 =>
  st_g (so_li t2 0 p3) fun t3 =>
  if t3 = p1 then
  (mm_waits_b29 gl rec4 p0 p1 p3 (p2 + (1 : Int32)))
  else
  (mm_waits_b29 gl rec4 p0 p1 p3 p2))
def mm_waits (gl : gl_T) (v0 : Option Nat) (v1 : Int32) : st_M (Int32) :=
  st_it (fun rec4 => (fun x : Option Nat × Int32 × Int32 × Int32 => mm_waits_b4 gl rec4 x.1 x.2.1 x.2.2.1 x.2.2.2)) fu_ (v0, v1, (0 : Int32), (0 : Int32))
/-! PromiseVatsModel.pack(III)V -/
def mm_pack (gl : gl_T) (v0 : Option Nat) (v1 : Int32) (v2 : Int32) (v3 : Int32) : st_M (Unit) :=
  if v3 = 0 then
  (st_r ())
  else
  (st_g (so_gq v0 [10] 6) fun t1 =>
  st_g (so_li t1 1 v3) fun t2 =>
  if t2 = v1 then
  (st_g (so_gq v0 [10] 15) fun t3 =>
  st_g (so_li t3 0 (((4 : Int32) * v3) + v2)) fun t4 =>
  st_w (so_si t3 0 (((4 : Int32) * v3) + v2) (t4 + (1 : Int32))) (
  st_r ()))
  else
  (if t2 = v2 then
  (st_r ())
  else
  (st_g (so_cm v0 [10]) fun _ =>
  st_b (mm_post gl v0 (4 : Int32) (((4 : Int32) * v1) + t2) v3 v2 (0 : Int32) (0 : Int32)) fun _ =>
  st_r ())))
/-! PromiseVatsModel.rest(IIIII)V -/
def mm_rest (gl : gl_T) (v0 : Option Nat) (v1 : Int32) (v2 : Int32) (v3 : Int32) (v4 : Int32) (v5 : Int32) : st_M (Unit) :=
  st_g (so_gq v0 [10] 19) fun t1 =>
  st_g (so_gi v0 [10] 18) fun t2 =>
  st_w (so_si t1 0 t2 v1) (
  st_g (so_gq v0 [10] 20) fun t4 =>
  st_g (so_gi v0 [10] 18) fun t5 =>
  st_w (so_si t4 0 t5 v2) (
  st_g (so_gq v0 [10] 21) fun t7 =>
  st_g (so_gi v0 [10] 18) fun t8 =>
  st_w (so_si t7 0 t8 v3) (
  st_g (so_gq v0 [10] 22) fun t10 =>
  st_g (so_gi v0 [10] 18) fun t11 =>
  st_w (so_si t10 0 t11 v4) (
  st_g (so_gq v0 [10] 23) fun t13 =>
  st_g (so_gi v0 [10] 18) fun t14 =>
  st_w (so_si t13 0 t14 v5) (
  st_g (so_gi v0 [10] 18) fun t16 =>
  st_w (so_p v0 [10] 18 (.int (t16 + (1 : Int32)))) (
  st_r ()))))))
/-! PromiseVatsModel.go(IIIII)V -/
def mm_go_b102 (gl : gl_T) (q0 : Int32) (q1 : Option Nat) : st_M (Unit) :=
  st_w (so_p q1 [10] 30 (.int q0)) (
  st_r ())
def mm_go_b72 (gl : gl_T) (p0 : Option Nat) (p5 : Int32) : st_M (Unit) :=
  st_g (so_gq p0 [10] 31) fun t56 =>
  st_g (so_gi p0 [10] 30) fun t57 =>
  st_w (so_si t56 0 t57 p5) (
  if p5 ≤ 0 then
  (st_g (so_gi p0 [10] 30) fun t59 =>
  mm_go_b102 gl t59 p0)
  else
  (st_g (so_gi p0 [10] 30) fun t60 =>
  mm_go_b102 gl (t60 + (1 : Int32)) p0))
def mm_go_b173 (gl : gl_T) (p3 : Int32) (p4 : Int32) (p5 : Int32) (p6 : Int32) (q0 : Int32) (q1 : Option Nat) : st_M (Unit) :=
  st_g (so_cm q1 [10]) fun _ =>
  st_b (mm_rest gl q1 q0 p6 p3 p4 p5) fun _ =>
  st_r ()
def mm_go_b108 (gl : gl_T) (p0 : Option Nat) (p1 : Int32) (p3 : Int32) (p4 : Int32) (p5 : Int32) (p6 : Int32) : st_M (Unit) :=
  st_g (so_gq p0 [10] 6) fun t23 =>
  st_g (so_li t23 1 p6) fun t24 =>
  if t24 = p1 then
  (if p6 ≤ (100 : Int32) then
  (mm_go_b173 gl p3 p4 p5 p6 p1 p0)
  else
  (mm_go_b173 gl p3 p4 p5 p6 p6 p0))
  else
  (st_g (so_gq p0 [10] 6) fun t25 =>
  st_g (so_li t25 1 p6) fun t26 =>
  st_g (so_cm p0 [10]) fun _ =>
  st_b (mm_pack gl p0 p1 t26 p4) fun _ =>
  st_g (so_gq p0 [10] 6) fun t35 =>
  st_g (so_li t35 1 p6) fun t36 =>
  st_g (so_cm p0 [10]) fun _ =>
  st_b (mm_post gl p0 (1 : Int32) (((4 : Int32) * p1) + t36) p6 p3 p4 p5) fun _ =>
  st_r ())
def mm_go_b38 (gl : gl_T) (p0 : Option Nat) (p1 : Int32) (p3 : Int32) (p4 : Int32) (p5 : Int32) (p6 : Int32) : st_M (Unit) :=
  if p6 = 0 then
  (mm_go_b72 gl p0 p5)
  else
  (if p6 ≤ (100 : Int32) then
  (mm_go_b108 gl p0 p1 p3 p4 p5 p6)
  else
  (st_g (so_gq p0 [10] 6) fun t12 =>
  st_g (so_li t12 1 p6) fun t13 =>
  if t13 = p1 then
  (st_g (so_cm p0 [10]) fun _ =>
  st_b (mm_waits gl p0 p6) fun t14 =>
  if t14 < (8 : Int32) then
  (mm_go_b108 gl p0 p1 p3 p4 p5 p6)
  else
  (mm_go_b72 gl p0 p5))
  else
  (mm_go_b108 gl p0 p1 p3 p4 p5 p6)))
def mm_go_b6 (gl : gl_T) (rec6 : Option Nat × Int32 × Int32 × Int32 × Int32 × Int32 × Int32 → st_M (Unit)) (p0 : Option Nat) (p1 : Int32) (p3 : Int32) (p4 : Int32) (p5 : Int32) (p6 : Int32) (p7 : Int32) : st_M (Unit) :=
  if (100 : Int32) < p7 then
  (mm_go_b38 gl p0 p1 p3 p4 p5 p6)
  else
  (st_g (so_cm p0 [10]) fun _ =>
  st_b (mm_passes gl p0 p1 p6) fun t1 =>
  if t1 = 0 then
  (mm_go_b38 gl p0 p1 p3 p4 p5 p6)
  else
  (st_g (so_gq p0 [10] 9) fun t9 =>
  st_g (so_li t9 0 p6) fun t10 =>
  rec6 (p0, p1, p3, p4, p5, t10, (p7 + (1 : Int32)))))
def mm_go (gl : gl_T) (v0 : Option Nat) (v1 : Int32) (v2 : Int32) (v3 : Int32) (v4 : Int32) (v5 : Int32) : st_M (Unit) :=
  st_it (fun rec6 => (fun x : Option Nat × Int32 × Int32 × Int32 × Int32 × Int32 × Int32 => mm_go_b6 gl rec6 x.1 x.2.1 x.2.2.1 x.2.2.2.1 x.2.2.2.2.1 x.2.2.2.2.2.1 x.2.2.2.2.2.2)) fu_ (v0, v1, v3, v4, v5, v2, (0 : Int32))
/-! PromiseVatsModel.unrest(I)V -/
def mm_unrest_b12 (gl : gl_T) (rec12 : Option Nat × Int32 → st_M (Unit)) (p0 : Option Nat) (p2 : Int32) : st_M (Unit) :=
  st_g (so_gi p0 [10] 18) fun t3 =>
  if t3 ≤ p2 then
  (st_r ())
  else
  (st_g (so_gq p0 [10] 19) fun t4 =>
  st_g (so_gq p0 [10] 19) fun t5 =>
  st_g (so_li t5 0 (p2 + (1 : Int32))) fun t6 =>
  st_w (so_si t4 0 p2 t6) (
  st_g (so_gq p0 [10] 20) fun t8 =>
  st_g (so_gq p0 [10] 20) fun t9 =>
  st_g (so_li t9 0 (p2 + (1 : Int32))) fun t10 =>
  st_w (so_si t8 0 p2 t10) (
  st_g (so_gq p0 [10] 21) fun t12 =>
  st_g (so_gq p0 [10] 21) fun t13 =>
  st_g (so_li t13 0 (p2 + (1 : Int32))) fun t14 =>
  st_w (so_si t12 0 p2 t14) (
  st_g (so_gq p0 [10] 22) fun t16 =>
  st_g (so_gq p0 [10] 22) fun t17 =>
  st_g (so_li t17 0 (p2 + (1 : Int32))) fun t18 =>
  st_w (so_si t16 0 p2 t18) (
  st_g (so_gq p0 [10] 23) fun t20 =>
  st_g (so_gq p0 [10] 23) fun t21 =>
  st_g (so_li t21 0 (p2 + (1 : Int32))) fun t22 =>
  st_w (so_si t20 0 p2 t22) (
  rec12 (p0, (p2 + (1 : Int32)))))))))
def mm_unrest (gl : gl_T) (v0 : Option Nat) (v1 : Int32) : st_M (Unit) :=
  st_g (so_gi v0 [10] 18) fun t1 =>
  st_w (so_p v0 [10] 18 (.int (t1 - (1 : Int32)))) (
  st_it (fun rec12 => (fun x : Option Nat × Int32 => mm_unrest_b12 gl rec12 x.1 x.2)) fu_ (v0, v1))
/-! PromiseVatsModel.settle(III)V -/
def mm_settle_b137 (gl : gl_T) (rec137 : Option Nat × Int32 × Int32 × Int32 → st_M (Unit)) (p0 : Option Nat) (p1 : Int32) (p2 : Int32) (p5 : Int32) : st_M (Unit) :=
  st_g (so_gi p0 [10] 18) fun t44 =>
  if t44 ≤ p5 then
  (st_r ())
  else
  (st_g (so_gq p0 [10] 19) fun t45 =>
  st_g (so_li t45 0 p5) fun t46 =>
  if t46 = p2 then
  (st_g (so_gq p0 [10] 21) fun t47 =>
  st_g (so_li t47 0 p5) fun t48 =>
  st_g (so_gq p0 [10] 22) fun t49 =>
  st_g (so_li t49 0 p5) fun t50 =>
  st_g (so_gq p0 [10] 23) fun t51 =>
  st_g (so_li t51 0 p5) fun t52 =>
  st_g (so_cm p0 [10]) fun _ =>
  st_b (mm_unrest gl p0 p5) fun _ =>
  st_g (so_gq p0 [10] 9) fun t61 =>
  st_g (so_li t61 0 p2) fun t62 =>
  st_g (so_cm p0 [10]) fun _ =>
  st_b (mm_go gl p0 p1 t62 t48 t50 t52) fun _ =>
  rec137 (p0, p1, p2, p5))
  else
  (rec137 (p0, p1, p2, (p5 + (1 : Int32)))))
def mm_settle_b133 (gl : gl_T) (p0 : Option Nat) (p1 : Int32) (p2 : Int32) (q0 : Int32) (q1 : Int32) (q2 : Option Nat) : st_M (Unit) :=
  st_w (so_si q2 0 q1 q0) (
  st_it (fun rec137 => (fun x : Option Nat × Int32 × Int32 × Int32 => mm_settle_b137 gl rec137 x.1 x.2.1 x.2.2.1 x.2.2.2)) fu_ (p0, p1, p2, (0 : Int32)))
def mm_settle_b110 (gl : gl_T) (p0 : Option Nat) (p1 : Int32) (p2 : Int32) (p3 : Int32) (p4 : Int32) : st_M (Unit) :=
  st_g (so_gq p0 [10] 8) fun t40 =>
  st_g (so_z (1 : Int32)) fun _ =>
  st_w (so_si t40 2 p2 (1 : Int32)) (
  st_g (so_gq p0 [10] 9) fun t42 =>
  if p4 = p2 then
  (mm_settle_b133 gl p0 p1 p2 (0 : Int32) p2 t42)
  else
  (mm_settle_b133 gl p0 p1 p2 p3 p2 t42))
def mm_settle_b72 (gl : gl_T) (rec72 : Option Nat × Int32 × Int32 × Int32 × Int32 × Int32 → st_M (Unit)) (p0 : Option Nat) (p1 : Int32) (p2 : Int32) (p3 : Int32) (p4 : Int32) (p5 : Int32) : st_M (Unit) :=
  if (100 : Int32) < p5 then
  (mm_settle_b110 gl p0 p1 p2 p3 p4)
  else
  (if p4 = p2 then
  (mm_settle_b110 gl p0 p1 p2 p3 p4)
  else
  (st_g (so_cm p0 [10]) fun _ =>
  st_b (mm_passes gl p0 p1 p4) fun t29 =>
  if t29 = 0 then
  (mm_settle_b110 gl p0 p1 p2 p3 p4)
  else
  (st_g (so_gq p0 [10] 9) fun t37 =>
  st_g (so_li t37 0 p4) fun t38 =>
  rec72 (p0, p1, p2, p3, t38, (p5 + (1 : Int32))))))
def mm_settle (gl : gl_T) (v0 : Option Nat) (v1 : Int32) (v2 : Int32) (v3 : Int32) : st_M (Unit) :=
  if v2 = 0 then
  (st_r ())
  else
  (st_g (so_gq v0 [10] 6) fun t1 =>
  st_g (so_li t1 1 v2) fun t2 =>
  if t2 = v1 then
  (st_g (so_gq v0 [10] 7) fun t3 =>
  st_g (so_li t3 2 v2) fun t4 =>
  if t4 = 0 then
  (st_g (so_gq v0 [10] 8) fun t5 =>
  st_g (so_li t5 2 v2) fun t6 =>
  if t6 = 0 then
  (st_it (fun rec72 => (fun x : Option Nat × Int32 × Int32 × Int32 × Int32 × Int32 => mm_settle_b72 gl rec72 x.1 x.2.1 x.2.2.1 x.2.2.2.1 x.2.2.2.2.1 x.2.2.2.2.2)) fu_ (v0, v1, v2, v3, v3, (0 : Int32)))
  else
  (st_r ()))
  else
  (st_r ()))
  else
  (st_g (so_gq v0 [10] 6) fun t7 =>
  st_g (so_li t7 1 v2) fun t8 =>
  st_g (so_cm v0 [10]) fun _ =>
  st_b (mm_pack gl v0 v1 t8 v3) fun _ =>
  st_g (so_gq v0 [10] 6) fun t17 =>
  st_g (so_li t17 1 v2) fun t18 =>
  st_g (so_cm v0 [10]) fun _ =>
  st_b (mm_post gl v0 (2 : Int32) (((4 : Int32) * v1) + t18) v2 (0 : Int32) v3 (0 : Int32)) fun _ =>
  st_r ()))
/-! PromiseVatsModel.pair(IIII)V -/
def mm_pair_b50 (gl : gl_T) (p0 : Option Nat) (p2 : Int32) (p3 : Int32) (p4 : Int32) (p5 : Int32) (q0 : Int32) : st_M (Unit) :=
  st_g (so_gq p0 [10] 17) fun t5 =>
  st_g (so_gq p0 [10] 17) fun t6 =>
  st_g (so_li t6 0 p5) fun t7 =>
  st_w (so_si t5 0 p5 (t7 + p4)) (
  if q0 = 0 then
  (st_r ())
  else
  (st_g (so_gq p0 [10] 15) fun t9 =>
  st_g (so_li t9 0 (((4 : Int32) * p3) + p2)) fun t10 =>
  st_w (so_si t9 0 (((4 : Int32) * p3) + p2) (t10 + (1 : Int32))) (
  st_r ())))
def mm_pair (gl : gl_T) (v0 : Option Nat) (v1 : Int32) (v2 : Int32) (v3 : Int32) (v4 : Int32) : st_M (Unit) :=
  if v4 ≤ 0 then
  (st_g (so_gq v0 [10] 17) fun t1 =>
  st_g (so_li t1 0 ((((16 : Int32) * v3) + ((4 : Int32) * v1)) + v2)) fun t2 =>
  if t2 ≤ 0 then
  (mm_pair_b50 gl v0 v2 v3 v4 ((((16 : Int32) * v3) + ((4 : Int32) * v1)) + v2) (0 : Int32))
  else
  (mm_pair_b50 gl v0 v2 v3 v4 ((((16 : Int32) * v3) + ((4 : Int32) * v1)) + v2) (1 : Int32)))
  else
  (st_g (so_gq v0 [10] 17) fun t3 =>
  st_g (so_li t3 0 ((((16 : Int32) * v3) + ((4 : Int32) * v1)) + v2)) fun t4 =>
  if 0 ≤ t4 then
  (mm_pair_b50 gl v0 v2 v3 v4 ((((16 : Int32) * v3) + ((4 : Int32) * v1)) + v2) (0 : Int32))
  else
  (mm_pair_b50 gl v0 v2 v3 v4 ((((16 : Int32) * v3) + ((4 : Int32) * v1)) + v2) (1 : Int32)))
/-! PromiseVatsModel.mourn(I)V -/
def mm_mourn_b2 (gl : gl_T) (rec2 : Option Nat × Int32 × Int32 → st_M (Unit)) (p0 : Option Nat) (p1 : Int32) (p2 : Int32) : st_M (Unit) :=
  st_g (so_gi p0 [10] 30) fun t1 =>
  if t1 ≤ p2 then
  (st_w (so_p p0 [10] 30 (.int (0 : Int32))) (
  st_r ()))
  else
  (st_g (so_gq p0 [10] 31) fun t3 =>
  st_g (so_li t3 0 p2) fun t4 =>
  st_g (so_cm p0 [10]) fun _ =>
  st_b (mm_settle gl p0 p1 t4 (0 : Int32)) fun _ =>
  rec2 (p0, p1, (p2 + (1 : Int32))))
def mm_mourn (gl : gl_T) (v0 : Option Nat) (v1 : Int32) : st_M (Unit) :=
  st_it (fun rec2 => (fun x : Option Nat × Int32 × Int32 => mm_mourn_b2 gl rec2 x.1 x.2.1 x.2.2)) fu_ (v0, v1, (0 : Int32))
/-! PromiseVatsModel.deliver(II)I -/
def mm_deliver_b21 (gl : gl_T) : st_M (Int32) :=
  st_r (0 : Int32)
def mm_deliver_b183 (gl : gl_T) (p0 : Option Nat) (p2 : Int32) (p4 : Int32) : st_M (Int32) :=
  st_g (so_cm p0 [10]) fun _ =>
  st_b (mm_mourn gl p0 p2) fun _ =>
  st_r p4
def mm_deliver_b167 (gl : gl_T) (p0 : Option Nat) (p1 : Int32) (p2 : Int32) (p4 : Int32) (p5 : Int32) (p6 : Int32) : st_M (Int32) :=
  if p4 = (5 : Int32) then
  (st_g (so_cm p0 [10]) fun _ =>
  st_b (mm_pair gl p0 p6 p1 p5 (-1 : Int32)) fun _ =>
  mm_deliver_b183 gl p0 p2 p4)
  else
  (mm_deliver_b183 gl p0 p2 p4)
def mm_deliver_b151 (gl : gl_T) (p0 : Option Nat) (p1 : Int32) (p2 : Int32) (p4 : Int32) (p5 : Int32) (p6 : Int32) : st_M (Int32) :=
  if p4 = (4 : Int32) then
  (st_g (so_cm p0 [10]) fun _ =>
  st_b (mm_pair gl p0 p1 p6 p5 (1 : Int32)) fun _ =>
  mm_deliver_b167 gl p0 p1 p2 p4 p5 p6)
  else
  (mm_deliver_b167 gl p0 p1 p2 p4 p5 p6)
def mm_deliver_b129 (gl : gl_T) (p0 : Option Nat) (p1 : Int32) (p2 : Int32) (p4 : Int32) (p5 : Int32) (p6 : Int32) : st_M (Int32) :=
  if p4 = (3 : Int32) then
  (st_g (so_gq p0 [10] 15) fun t74 =>
  st_g (so_li t74 0 (((4 : Int32) * p5) + p1)) fun t75 =>
  st_w (so_si t74 0 (((4 : Int32) * p5) + p1) (t75 - p6)) (
  mm_deliver_b151 gl p0 p1 p2 p4 p5 p6))
  else
  (mm_deliver_b151 gl p0 p1 p2 p4 p5 p6)
def mm_deliver_b114 (gl : gl_T) (p0 : Option Nat) (p1 : Int32) (p2 : Int32) (p4 : Int32) (p5 : Int32) (p6 : Int32) (p7 : Int32) : st_M (Int32) :=
  if p4 = (2 : Int32) then
  (st_g (so_cm p0 [10]) fun _ =>
  st_b (mm_settle gl p0 p2 p5 p7) fun _ =>
  mm_deliver_b129 gl p0 p1 p2 p4 p5 p6)
  else
  (mm_deliver_b129 gl p0 p1 p2 p4 p5 p6)
def mm_deliver (gl : gl_T) (v0 : Option Nat) (v1 : Int32) (v2 : Int32) : st_M (Int32) :=
  st_g (so_cm v0 [10]) fun _ =>
  st_b (mm_vat gl v0 v1) fun t1 =>
  if t1 = 0 then
  (mm_deliver_b21 gl )
  else
  (st_g (so_cm v0 [10]) fun _ =>
  st_b (mm_vat gl v0 v2) fun t9 =>
  if t9 = 0 then
  (mm_deliver_b21 gl )
  else
  (if v1 = v2 then
  (mm_deliver_b21 gl )
  else
  (st_g (so_cm v0 [10]) fun _ =>
  st_b (mm_oldest gl v0 (((4 : Int32) * v1) + v2)) fun t17 =>
  if 0 ≤ t17 then
  (st_g (so_gq v0 [10] 25) fun t25 =>
  st_g (so_li t25 1 t17) fun t26 =>
  st_g (so_gq v0 [10] 26) fun t27 =>
  st_g (so_li t27 3 t17) fun t28 =>
  st_g (so_gq v0 [10] 27) fun t29 =>
  st_g (so_li t29 0 t17) fun t30 =>
  st_g (so_gq v0 [10] 28) fun t31 =>
  st_g (so_li t31 3 t17) fun t32 =>
  st_g (so_gq v0 [10] 29) fun t33 =>
  st_g (so_li t33 3 t17) fun t34 =>
  st_g (so_cm v0 [10]) fun _ =>
  st_b (mm_unmail gl v0 t17) fun _ =>
  st_g (so_cm v0 [10]) fun _ =>
  st_b (mm_unpack gl v0 v1 v2 t32) fun _ =>
  if (t26 / (16 : Int32)) = (1 : Int32) then
  (st_g (so_cm v0 [10]) fun _ =>
  st_b (mm_go gl v0 v2 t28 t30 t32 t34) fun _ =>
  mm_deliver_b114 gl v0 v1 v2 (t26 / (16 : Int32)) t28 t30 t32)
  else
  (mm_deliver_b114 gl v0 v1 v2 (t26 / (16 : Int32)) t28 t30 t32))
  else
  (st_r (0 : Int32)))))
/-! PromiseVatsModel.give(III)Z -/
def mm_give_b25 (gl : gl_T) : st_M (Int32) :=
  st_r (0 : Int32)
def mm_give_b79 (gl : gl_T) : st_M (Int32) :=
  st_r (1 : Int32)
def mm_give (gl : gl_T) (v0 : Option Nat) (v1 : Int32) (v2 : Int32) (v3 : Int32) : st_M (Int32) :=
  st_g (so_cm v0 [10]) fun _ =>
  st_b (mm_vat gl v0 v1) fun t1 =>
  if t1 = 0 then
  (mm_give_b25 gl )
  else
  (st_g (so_cm v0 [10]) fun _ =>
  st_b (mm_vat gl v0 v3) fun t9 =>
  if t9 = 0 then
  (mm_give_b25 gl )
  else
  (if v2 < 0 then
  (mm_give_b25 gl )
  else
  (if v2 ≤ (3 : Int32) then
  (st_g (so_gq v0 [10] 13) fun t17 =>
  st_w (so_si t17 0 (((4 : Int32) * (v1 + (1 : Int32))) + v2) (v3 + (1 : Int32))) (
  if v1 = v3 then
  (mm_give_b79 gl )
  else
  (st_g (so_gq v0 [10] 15) fun t19 =>
  st_g (so_li t19 0 (((4 : Int32) * (v3 + (1 : Int32))) + v1)) fun t20 =>
  st_w (so_si t19 0 (((4 : Int32) * (v3 + (1 : Int32))) + v1) (t20 + (1 : Int32))) (
  st_g (so_gq v0 [10] 16) fun t22 =>
  st_g (so_li t22 0 (((4 : Int32) * (v3 + (1 : Int32))) + v1)) fun t23 =>
  st_w (so_si t22 0 (((4 : Int32) * (v3 + (1 : Int32))) + v1) (t23 + (1 : Int32))) (
  mm_give_b79 gl )))))
  else
  (mm_give_b25 gl ))))
/-! PromiseVatsModel.inbox(I)I -/
def mm_inbox_b37 (gl : gl_T) (rec4 : Option Nat × Int32 × Int32 × Int32 → st_M (Int32)) (p0 : Option Nat) (p1 : Int32) (p3 : Int32) (q0 : Int32) : st_M (Int32) :=
  rec4 (p0, p1, q0, (p3 + (1 : Int32)))
def mm_inbox_b44 (gl : gl_T) (p2 : Int32) : st_M (Int32) :=
  st_r p2
def mm_inbox_b4 (gl : gl_T) (rec4 : Option Nat × Int32 × Int32 × Int32 → st_M (Int32)) (p0 : Option Nat) (p1 : Int32) (p2 : Int32) (p3 : Int32) : st_M (Int32) :=
  st_g (so_gi p0 [10] 18) fun t1 =>
  if t1 ≤ p3 then
  (mm_inbox_b44 gl p2)
  else
  (st_g (so_cm p0 [10]) fun _ =>
  st_b (mm_vat gl p0 p1) fun t2 =>
  if t2 = 0 then
  (mm_inbox_b44 gl p2)
  else
  (st_g (so_gq p0 [10] 19) fun t10 =>
  st_g (so_li t10 0 p3) fun t11 =>
  if t11 = p1 then
  (mm_inbox_b37 gl rec4 p0 p1 p3 (p2 + (1 : Int32)))
  else
  (mm_inbox_b37 gl rec4 p0 p1 p3 p2)))
def mm_inbox (gl : gl_T) (v0 : Option Nat) (v1 : Int32) : st_M (Int32) :=
  st_it (fun rec4 => (fun x : Option Nat × Int32 × Int32 × Int32 => mm_inbox_b4 gl rec4 x.1 x.2.1 x.2.2.1 x.2.2.2)) fu_ (v0, v1, (0 : Int32), (0 : Int32))
/-! PromiseVatsModel.poke(II)Z -/
def mm_poke_b18 (gl : gl_T) : st_M (Int32) :=
  st_r (0 : Int32)
def mm_poke (gl : gl_T) (v0 : Option Nat) (v1 : Int32) (v2 : Int32) : st_M (Int32) :=
  st_g (so_cm v0 [10]) fun _ =>
  st_b (mm_vat gl v0 v1) fun t1 =>
  if t1 = 0 then
  (mm_poke_b18 gl )
  else
  (st_g (so_cm v0 [10]) fun _ =>
  st_b (mm_inbox gl v0 v1) fun t9 =>
  if t9 < (20 : Int32) then
  (st_g (so_cm v0 [10]) fun _ =>
  st_b (mm_rest gl v0 v1 (v1 + (1 : Int32)) v2 (0 : Int32) (0 : Int32)) fun _ =>
  st_r (1 : Int32))
  else
  (mm_poke_b18 gl ))
/-! PromiseVatsModel.fresh(II)I -/
def mm_fresh (gl : gl_T) (v0 : Option Nat) (v1 : Int32) (v2 : Int32) : st_M (Int32) :=
  st_g (so_gi v0 [10] 1) fun t1 =>
  if t1 < (60 : Int32) then
  (st_g (so_gi v0 [10] 1) fun t2 =>
  st_w (so_p v0 [10] 1 (.int (t2 + (1 : Int32)))) (
  st_g (so_gq v0 [10] 6) fun t4 =>
  st_g (so_gi v0 [10] 1) fun t5 =>
  st_w (so_si t4 1 t5 ((v1.toInt8.toInt32).toInt8.toInt32)) (
  st_g (so_gq v0 [10] 11) fun t7 =>
  st_g (so_gi v0 [10] 1) fun t8 =>
  st_w (so_si t7 1 t8 ((v2.toInt8.toInt32).toInt8.toInt32)) (
  st_g (so_gq v0 [10] 12) fun t10 =>
  st_g (so_gi v0 [10] 1) fun t11 =>
  st_g (so_gi v0 [10] 34) fun t12 =>
  st_w (so_si t10 0 t11 t12) (
  st_g (so_gq v0 [10] 13) fun t14 =>
  st_g (so_gi v0 [10] 1) fun t15 =>
  st_g (so_gi v0 [10] 35) fun t16 =>
  st_w (so_si t14 0 ((4 : Int32) * t15) t16) (
  st_g (so_gi v0 [10] 1) fun t18 =>
  st_r t18))))))
  else
  (st_r (0 : Int32))
/-! PromiseVatsModel.send(II)I -/
def mm_send_b13 (gl : gl_T) : st_M (Int32) :=
  st_r (0 : Int32)
def mm_send (gl : gl_T) (v0 : Option Nat) (v1 : Int32) (v2 : Int32) : st_M (Int32) :=
  if v2 = 0 then
  (mm_send_b13 gl )
  else
  (st_g (so_gi v0 [10] 2) fun t1 =>
  if t1 < (100 : Int32) then
  (st_g (so_gi v0 [10] 2) fun t2 =>
  st_w (so_p v0 [10] 2 (.int (t2 + (1 : Int32)))) (
  st_g (so_gi v0 [10] 2) fun t4 =>
  st_g (so_gq v0 [10] 6) fun t5 =>
  st_g (so_li t5 1 v2) fun t6 =>
  st_g (so_gq v0 [10] 6) fun t7 =>
  st_w (so_si t7 1 ((100 : Int32) + t4) ((t6.toInt8.toInt32).toInt8.toInt32)) (
  if t6 = v1 then
  (st_g (so_gi v0 [10] 34) fun t9 =>
  st_g (so_gi v0 [10] 35) fun t10 =>
  st_g (so_cm v0 [10]) fun _ =>
  st_b (mm_go gl v0 v1 v2 t9 t10 ((100 : Int32) + t4)) fun _ =>
  st_g (so_cm v0 [10]) fun _ =>
  st_b (mm_mourn gl v0 v1) fun _ =>
  st_r ((100 : Int32) + t4))
  else
  (st_g (so_gi v0 [10] 35) fun t29 =>
  st_g (so_cm v0 [10]) fun _ =>
  st_b (mm_pack gl v0 v1 t6 t29) fun _ =>
  st_g (so_gi v0 [10] 34) fun t38 =>
  st_g (so_gi v0 [10] 35) fun t39 =>
  st_g (so_cm v0 [10]) fun _ =>
  st_b (mm_post gl v0 (1 : Int32) (((4 : Int32) * v1) + t6) v2 t38 t39 ((100 : Int32) + t4)) fun _ =>
  st_g (so_gq v0 [10] 15) fun t48 =>
  st_w (so_si t48 0 (((4 : Int32) * ((100 : Int32) + t4)) + v1) (1 : Int32)) (
  st_g (so_gq v0 [10] 16) fun t50 =>
  st_w (so_si t50 0 (((4 : Int32) * ((100 : Int32) + t4)) + v1) (1 : Int32)) (
  st_r ((100 : Int32) + t4)))))))
  else
  (mm_send_b13 gl ))
/-! PromiseVatsModel.put(I)V -/
def mm_put (gl : gl_T) (v0 : Option Nat) (v1 : Int32) : st_M (Unit) :=
  st_g (so_gq v0 [10] 33) fun t1 =>
  st_g (so_gq v0 [10] 32) fun t2 =>
  st_g (so_li t2 0 v1) fun t3 =>
  st_g (so_gi v0 [10] 34) fun t4 =>
  st_w (so_si t1 0 (((10 : Int32) * v1) + (t3 - t3 / (10 : Int32) * (10 : Int32))) t4) (
  st_g (so_gq v0 [10] 32) fun t6 =>
  st_g (so_li t6 0 v1) fun t7 =>
  st_w (so_si t6 0 v1 (t7 + (1 : Int32))) (
  st_r ()))
/-! PromiseVatsModel.act(IIII)I -/
def mm_act_b204 (gl : gl_T) : st_M (Int32) :=
  st_r (0 : Int32)
def mm_act (gl : gl_T) (v0 : Option Nat) (v1 : Int32) (v2 : Int32) (v3 : Int32) (v4 : Int32) : st_M (Int32) :=
  (if v3 = (0 : Int32) then
  (st_w (so_p v0 [10] 34 (.int v4)) (
  mm_act_b204 gl ))
  else
  (if v3 = (1 : Int32) then
  (st_g (so_gi v0 [10] 34) fun t2 =>
  st_g (so_gq v0 [10] 12) fun t3 =>
  st_g (so_li t3 0 v2) fun t4 =>
  st_w (so_p v0 [10] 34 (.int (t2 + t4))) (
  mm_act_b204 gl ))
  else
  (if v3 = (2 : Int32) then
  (st_g (so_gq v0 [10] 12) fun t6 =>
  st_g (so_gi v0 [10] 34) fun t7 =>
  st_w (so_si t6 0 v2 t7) (
  mm_act_b204 gl ))
  else
  (if v3 = (3 : Int32) then
  (st_g (so_gq v0 [10] 13) fun t9 =>
  st_g (so_gi v0 [10] 35) fun t10 =>
  st_w (so_si t9 0 (((4 : Int32) * v2) + v4) t10) (
  mm_act_b204 gl ))
  else
  (if v3 = (4 : Int32) then
  (st_g (so_gq v0 [10] 13) fun t12 =>
  st_g (so_li t12 0 (((4 : Int32) * v2) + v4)) fun t13 =>
  st_w (so_p v0 [10] 35 (.int t13)) (
  mm_act_b204 gl ))
  else
  (if v3 = (5 : Int32) then
  (st_w (so_p v0 [10] 35 (.int v2)) (
  mm_act_b204 gl ))
  else
  (if v3 = (6 : Int32) then
  (st_g (so_cm v0 [10]) fun _ =>
  st_b (mm_fresh gl v0 v1 v4) fun t16 =>
  st_w (so_p v0 [10] 35 (.int t16)) (
  mm_act_b204 gl ))
  else
  (if v3 = (7 : Int32) then
  (st_g (so_gq v0 [10] 13) fun t26 =>
  st_g (so_li t26 0 (((4 : Int32) * v2) + v4)) fun t27 =>
  st_g (so_cm v0 [10]) fun _ =>
  st_b (mm_send gl v0 v1 t27) fun t28 =>
  st_w (so_p v0 [10] 35 (.int t28)) (
  mm_act_b204 gl ))
  else
  (if v3 = (8 : Int32) then
  (st_g (so_gi v0 [10] 34) fun t38 =>
  if t38 = 0 then
  (st_r v4)
  else
  (st_r (0 : Int32)))
  else
  (if v3 = (9 : Int32) then
  (st_g (so_cm v0 [10]) fun _ =>
  st_b (mm_put gl v0 v1) fun _ =>
  mm_act_b204 gl )
  else
  (st_w (so_p v0 [10] 35 (.int (0 : Int32))) (
  mm_act_b204 gl ))))))))))))
/-! PromiseVatsModel.turn(I)I -/
def mm_turn_b42 (gl : gl_T) : st_M (Int32) :=
  st_r (-1 : Int32)
def mm_turn_b95 (gl : gl_T) (rec95 : Option Nat × Int32 × Int32 × Int32 × Int32 × Int32 → st_M (Int32)) (p0 : Option Nat) (p1 : Int32) (p3 : Int32) (p4 : Int32) (p5 : Int32) (p6 : Int32) : st_M (Int32) :=
  st_g (so_gq p0 [10] 3) fun t35 =>
  st_g (so_li t35 0 p5) fun t36 =>
  if t36 ≤ p6 then
  (st_g (so_gi p0 [10] 35) fun t37 =>
  st_g (so_cm p0 [10]) fun _ =>
  st_b (mm_settle gl p0 p1 p4 t37) fun _ =>
  st_g (so_cm p0 [10]) fun _ =>
  st_b (mm_mourn gl p0 p1) fun _ =>
  st_r p3)
  else
  (st_g (so_gq p0 [10] 4) fun t56 =>
  st_g (so_li t56 0 (((8 : Int32) * p5) + p6)) fun t57 =>
  st_g (so_gq p0 [10] 5) fun t58 =>
  st_g (so_li t58 0 (((8 : Int32) * p5) + p6)) fun t59 =>
  st_g (so_cm p0 [10]) fun _ =>
  st_b (mm_act gl p0 p1 p3 t57 t59) fun t60 =>
  rec95 (p0, p1, p3, p4, p5, ((p6 + (1 : Int32)) + t60)))
def mm_turn_b26 (gl : gl_T) (p0 : Option Nat) (p1 : Int32) (p2 : Int32) : st_M (Int32) :=
  st_g (so_cm p0 [10]) fun _ =>
  st_b (mm_vat gl p0 p1) fun t4 =>
  if t4 = 0 then
  (mm_turn_b42 gl )
  else
  (st_g (so_gi p0 [10] 18) fun t12 =>
  if p2 < t12 then
  (st_g (so_gq p0 [10] 20) fun t13 =>
  st_g (so_li t13 0 p2) fun t14 =>
  st_g (so_gq p0 [10] 21) fun t15 =>
  st_g (so_li t15 0 p2) fun t16 =>
  st_w (so_p p0 [10] 34 (.int t16)) (
  st_g (so_gq p0 [10] 22) fun t18 =>
  st_g (so_li t18 0 p2) fun t19 =>
  st_w (so_p p0 [10] 35 (.int t19)) (
  st_g (so_gq p0 [10] 23) fun t21 =>
  st_g (so_li t21 0 p2) fun t22 =>
  st_g (so_cm p0 [10]) fun _ =>
  st_b (mm_unrest gl p0 p2) fun _ =>
  st_g (so_gq p0 [10] 11) fun t31 =>
  st_g (so_li t31 1 t14) fun t32 =>
  st_it (fun rec95 => (fun x : Option Nat × Int32 × Int32 × Int32 × Int32 × Int32 => mm_turn_b95 gl rec95 x.1 x.2.1 x.2.2.1 x.2.2.2.1 x.2.2.2.2.1 x.2.2.2.2.2)) fu_ (p0, p1, t14, t22, t32, (0 : Int32)))))
  else
  (mm_turn_b42 gl ))
def mm_turn_b2 (gl : gl_T) (rec2 : Option Nat × Int32 × Int32 → st_M (Int32)) (p0 : Option Nat) (p1 : Int32) (p2 : Int32) : st_M (Int32) :=
  st_g (so_gi p0 [10] 18) fun t1 =>
  if t1 ≤ p2 then
  (mm_turn_b26 gl p0 p1 p2)
  else
  (st_g (so_gq p0 [10] 19) fun t2 =>
  st_g (so_li t2 0 p2) fun t3 =>
  if t3 = p1 then
  (mm_turn_b26 gl p0 p1 p2)
  else
  (rec2 (p0, p1, (p2 + (1 : Int32)))))
def mm_turn (gl : gl_T) (v0 : Option Nat) (v1 : Int32) : st_M (Int32) :=
  st_it (fun rec2 => (fun x : Option Nat × Int32 × Int32 => mm_turn_b2 gl rec2 x.1 x.2.1 x.2.2)) fu_ (v0, v1, (0 : Int32))
/-! PromiseVatsModel.made(I)Z -/
def mm_made_b30 (gl : gl_T) : st_M (Int32) :=
  st_r (1 : Int32)
def mm_made_b34 (gl : gl_T) : st_M (Int32) :=
  st_r (0 : Int32)
def mm_made_b13 (gl : gl_T) (p0 : Option Nat) (p1 : Int32) : st_M (Int32) :=
  if p1 < (101 : Int32) then
  (mm_made_b34 gl )
  else
  (st_g (so_gi p0 [10] 2) fun t2 =>
  if ((100 : Int32) + t2) < p1 then
  (mm_made_b34 gl )
  else
  (mm_made_b30 gl ))
def mm_made (gl : gl_T) (v0 : Option Nat) (v1 : Int32) : st_M (Int32) :=
  if v1 < (1 : Int32) then
  (mm_made_b13 gl v0 v1)
  else
  (st_g (so_gi v0 [10] 1) fun t1 =>
  if v1 ≤ t1 then
  (mm_made_b30 gl )
  else
  (mm_made_b13 gl v0 v1))
/-! PromiseVatsModel.lives(I)Z -/
def mm_lives_b21 (gl : gl_T) : st_M (Int32) :=
  st_r (0 : Int32)
def mm_lives (gl : gl_T) (v0 : Option Nat) (v1 : Int32) : st_M (Int32) :=
  st_g (so_cm v0 [10]) fun _ =>
  st_b (mm_made gl v0 v1) fun t1 =>
  if t1 = 0 then
  (mm_lives_b21 gl )
  else
  (st_g (so_gq v0 [10] 7) fun t9 =>
  st_g (so_li t9 2 v1) fun t10 =>
  if t10 = 0 then
  (st_r (1 : Int32))
  else
  (mm_lives_b21 gl ))
/-! PromiseVatsModel.rooted(II)Z -/
def mm_rooted_b45 (gl : gl_T) (rec16 : Option Nat × Int32 × Int32 × Int32 → st_M (Int32)) (p0 : Option Nat) (p2 : Int32) (p4 : Int32) (q0 : Int32) : st_M (Int32) :=
  rec16 (p0, p2, q0, (p4 + (1 : Int32)))
def mm_rooted_b40 (gl : gl_T) (rec16 : Option Nat × Int32 × Int32 × Int32 → st_M (Int32)) (p0 : Option Nat) (p2 : Int32) (p4 : Int32) : st_M (Int32) :=
  mm_rooted_b45 gl rec16 p0 p2 p4 (1 : Int32)
def mm_rooted_b86 (gl : gl_T) (rec55 : Option Nat × Int32 × Int32 × Int32 → st_M (Int32)) (p0 : Option Nat) (p2 : Int32) (p4 : Int32) (q0 : Int32) : st_M (Int32) :=
  rec55 (p0, p2, q0, (p4 + (1 : Int32)))
def mm_rooted_b81 (gl : gl_T) (rec55 : Option Nat × Int32 × Int32 × Int32 → st_M (Int32)) (p0 : Option Nat) (p2 : Int32) (p4 : Int32) : st_M (Int32) :=
  mm_rooted_b86 gl rec55 p0 p2 p4 (1 : Int32)
def mm_rooted_b55 (gl : gl_T) (rec55 : Option Nat × Int32 × Int32 × Int32 → st_M (Int32)) (p0 : Option Nat) (p2 : Int32) (p3 : Int32) (p4 : Int32) : st_M (Int32) :=
  if (16 : Int32) ≤ p4 then
  (st_g (so_z p3) fun _ =>
  st_r p3)
  else
  (if p3 = 0 then
  (st_g (so_gq p0 [10] 17) fun t3 =>
  st_g (so_li t3 0 (((16 : Int32) * p2) + p4)) fun t4 =>
  if t4 ≤ 0 then
  (mm_rooted_b86 gl rec55 p0 p2 p4 (0 : Int32))
  else
  (mm_rooted_b81 gl rec55 p0 p2 p4))
  else
  (mm_rooted_b81 gl rec55 p0 p2 p4))
def mm_rooted_b16 (gl : gl_T) (rec16 : Option Nat × Int32 × Int32 × Int32 → st_M (Int32)) (p0 : Option Nat) (p2 : Int32) (p3 : Int32) (p4 : Int32) : st_M (Int32) :=
  if (4 : Int32) ≤ p4 then
  (st_it (fun rec55 => (fun x : Option Nat × Int32 × Int32 × Int32 => mm_rooted_b55 gl rec55 x.1 x.2.1 x.2.2.1 x.2.2.2)) fu_ (p0, p2, p3, (0 : Int32)))
  else
  (if p3 = 0 then
  (st_g (so_gq p0 [10] 15) fun t1 =>
  st_g (so_li t1 0 (((4 : Int32) * p2) + p4)) fun t2 =>
  if t2 ≤ 0 then
  (mm_rooted_b45 gl rec16 p0 p2 p4 (0 : Int32))
  else
  (mm_rooted_b40 gl rec16 p0 p2 p4))
  else
  (mm_rooted_b40 gl rec16 p0 p2 p4))
def mm_rooted_b12 (gl : gl_T) (p0 : Option Nat) (p2 : Int32) (q0 : Int32) : st_M (Int32) :=
  st_it (fun rec16 => (fun x : Option Nat × Int32 × Int32 × Int32 => mm_rooted_b16 gl rec16 x.1 x.2.1 x.2.2.1 x.2.2.2)) fu_ (p0, p2, q0, (0 : Int32))
def mm_rooted (gl : gl_T) (v0 : Option Nat) (v1 : Int32) (v2 : Int32) : st_M (Int32) :=
  if v2 = (v1 + (1 : Int32)) then
  (mm_rooted_b12 gl v0 v2 (1 : Int32))
  else
  (mm_rooted_b12 gl v0 v2 (0 : Int32))
/-! PromiseVatsModel.mark(I)V -/
def mm_mark (gl : gl_T) (v0 : Option Nat) (v1 : Int32) : st_M (Unit) :=
  if v1 = 0 then
  (st_r ())
  else
  (st_g (so_gq v0 [10] 10) fun t1 =>
  st_g (so_li t1 2 v1) fun t2 =>
  if t2 = 0 then
  (st_g (so_gq v0 [10] 10) fun t3 =>
  st_g (so_z (1 : Int32)) fun _ =>
  st_w (so_si t3 2 v1 (1 : Int32)) (
  st_w (so_p v0 [10] 14 (.int (1 : Int32))) (
  st_r ())))
  else
  (st_r ()))
/-! PromiseVatsModel.spread(I)V -/
def mm_spread_b98 (gl : gl_T) (rec2 : Option Nat × Int32 × Int32 → st_M (Unit)) (p0 : Option Nat) (p1 : Int32) (p2 : Int32) : st_M (Unit) :=
  rec2 (p0, p1, (p2 + (1 : Int32)))
def mm_spread_b67 (gl : gl_T) (rec2 : Option Nat × Int32 × Int32 → st_M (Unit)) (rec67 : Option Nat × Int32 × Int32 × Int32 → st_M (Unit)) (p0 : Option Nat) (p1 : Int32) (p2 : Int32) (p3 : Int32) : st_M (Unit) :=
  if (4 : Int32) ≤ p3 then
  (mm_spread_b98 gl rec2 p0 p1 p2)
  else
  (if (60 : Int32) < p2 then
  (mm_spread_b98 gl rec2 p0 p1 p2)
  else
  (st_g (so_gq p0 [10] 13) fun t27 =>
  st_g (so_li t27 0 (((4 : Int32) * p2) + p3)) fun t28 =>
  st_g (so_cm p0 [10]) fun _ =>
  st_b (mm_mark gl p0 t28) fun _ =>
  rec67 (p0, p1, p2, (p3 + (1 : Int32)))))
def mm_spread_b65 (gl : gl_T) (rec2 : Option Nat × Int32 × Int32 → st_M (Unit)) (p0 : Option Nat) (p1 : Int32) (p2 : Int32) : st_M (Unit) :=
  st_it (fun rec67 => (fun x : Option Nat × Int32 × Int32 × Int32 => mm_spread_b67 gl rec2 rec67 x.1 x.2.1 x.2.2.1 x.2.2.2)) fu_ (p0, p1, p2, (0 : Int32))
def mm_spread_b62 (gl : gl_T) (rec2 : Option Nat × Int32 × Int32 → st_M (Unit)) (p0 : Option Nat) (p1 : Int32) (p2 : Int32) (q0 : Int32) (q1 : Option Nat) : st_M (Unit) :=
  st_g (so_cm q1 [10]) fun _ =>
  st_b (mm_mark gl q1 q0) fun _ =>
  mm_spread_b65 gl rec2 p0 p1 p2
def mm_spread_b164 (gl : gl_T) (rec106 : Option Nat × Int32 × Int32 → st_M (Unit)) (p0 : Option Nat) (p1 : Int32) (p2 : Int32) : st_M (Unit) :=
  rec106 (p0, p1, (p2 + (1 : Int32)))
def mm_spread_b106 (gl : gl_T) (rec106 : Option Nat × Int32 × Int32 → st_M (Unit)) (p0 : Option Nat) (p1 : Int32) (p2 : Int32) : st_M (Unit) :=
  st_g (so_gi p0 [10] 18) fun t38 =>
  if t38 ≤ p2 then
  (st_r ())
  else
  (st_g (so_gq p0 [10] 19) fun t39 =>
  st_g (so_li t39 0 p2) fun t40 =>
  if t40 ≤ (100 : Int32) then
  (mm_spread_b164 gl rec106 p0 p1 p2)
  else
  (st_g (so_gq p0 [10] 6) fun t41 =>
  st_g (so_gq p0 [10] 19) fun t42 =>
  st_g (so_li t42 0 p2) fun t43 =>
  st_g (so_li t41 1 t43) fun t44 =>
  if t44 = p1 then
  (st_g (so_gq p0 [10] 10) fun t45 =>
  st_g (so_gq p0 [10] 19) fun t46 =>
  st_g (so_li t46 0 p2) fun t47 =>
  st_g (so_li t45 2 t47) fun t48 =>
  if t48 = 0 then
  (mm_spread_b164 gl rec106 p0 p1 p2)
  else
  (st_g (so_gq p0 [10] 22) fun t49 =>
  st_g (so_li t49 0 p2) fun t50 =>
  st_g (so_cm p0 [10]) fun _ =>
  st_b (mm_mark gl p0 t50) fun _ =>
  mm_spread_b164 gl rec106 p0 p1 p2))
  else
  (mm_spread_b164 gl rec106 p0 p1 p2)))
def mm_spread_b2 (gl : gl_T) (rec2 : Option Nat × Int32 × Int32 → st_M (Unit)) (p0 : Option Nat) (p1 : Int32) (p2 : Int32) : st_M (Unit) :=
  if (200 : Int32) < p2 then
  (st_it (fun rec106 => (fun x : Option Nat × Int32 × Int32 => mm_spread_b106 gl rec106 x.1 x.2.1 x.2.2)) fu_ (p0, p1, (0 : Int32)))
  else
  (st_g (so_cm p0 [10]) fun _ =>
  st_b (mm_lives gl p0 p2) fun t1 =>
  if t1 = 0 then
  (mm_spread_b98 gl rec2 p0 p1 p2)
  else
  (st_g (so_gq p0 [10] 6) fun t9 =>
  st_g (so_li t9 1 p2) fun t10 =>
  if t10 = p1 then
  (st_g (so_gq p0 [10] 10) fun t11 =>
  st_g (so_li t11 2 p2) fun t12 =>
  if t12 = 0 then
  (mm_spread_b98 gl rec2 p0 p1 p2)
  else
  (if p2 ≤ (100 : Int32) then
  (mm_spread_b65 gl rec2 p0 p1 p2)
  else
  (st_g (so_gq p0 [10] 8) fun t13 =>
  st_g (so_li t13 2 p2) fun t14 =>
  if t14 = 0 then
  (mm_spread_b62 gl rec2 p0 p1 p2 (0 : Int32) p0)
  else
  (st_g (so_gq p0 [10] 9) fun t15 =>
  st_g (so_li t15 0 p2) fun t16 =>
  mm_spread_b62 gl rec2 p0 p1 p2 t16 p0))))
  else
  (mm_spread_b98 gl rec2 p0 p1 p2)))
def mm_spread (gl : gl_T) (v0 : Option Nat) (v1 : Int32) : st_M (Unit) :=
  st_it (fun rec2 => (fun x : Option Nat × Int32 × Int32 => mm_spread_b2 gl rec2 x.1 x.2.1 x.2.2)) fu_ (v0, v1, (1 : Int32))
/-! PromiseVatsModel.sweep(I)I -/
def mm_sweep_b56 (gl : gl_T) (rec12 : Option Nat × Int32 × Int32 → st_M (Int32)) (p0 : Option Nat) (p1 : Int32) (p2 : Int32) (q0 : Int32) (q1 : Int32) (q2 : Option Nat) : st_M (Int32) :=
  st_g (so_z q0) fun _ =>
  st_w (so_si q2 2 q1 q0) (
  rec12 (p0, p1, (p2 + (1 : Int32))))
def mm_sweep_b55 (gl : gl_T) (rec12 : Option Nat × Int32 × Int32 → st_M (Int32)) (p0 : Option Nat) (p1 : Int32) (p2 : Int32) (q0 : Int32) (q1 : Option Nat) : st_M (Int32) :=
  mm_sweep_b56 gl rec12 p0 p1 p2 (0 : Int32) q0 q1
def mm_sweep_b142 (gl : gl_T) (rec65 : Option Nat × Int32 × Int32 → st_M (Int32)) (p0 : Option Nat) (p1 : Int32) (p2 : Int32) : st_M (Int32) :=
  rec65 (p0, p1, (p2 + (1 : Int32)))
def mm_sweep_b233 (gl : gl_T) (rec189 : Option Nat × Int32 × Int32 × Int32 → st_M (Int32)) (p0 : Option Nat) (p1 : Int32) (p2 : Int32) (p3 : Int32) : st_M (Int32) :=
  rec189 (p0, p1, p2, (p3 + (1 : Int32)))
def mm_sweep_b305 (gl : gl_T) (rec241 : Option Nat × Int32 × Int32 × Int32 → st_M (Int32)) (p0 : Option Nat) (p1 : Int32) (p2 : Int32) (p3 : Int32) : st_M (Int32) :=
  rec241 (p0, p1, p2, (p3 + (1 : Int32)))
def mm_sweep_b241 (gl : gl_T) (rec241 : Option Nat × Int32 × Int32 × Int32 → st_M (Int32)) (p0 : Option Nat) (p1 : Int32) (p2 : Int32) (p3 : Int32) : st_M (Int32) :=
  if (200 : Int32) < p3 then
  (st_r p2)
  else
  (st_g (so_gq p0 [10] 16) fun t101 =>
  st_g (so_li t101 0 (((4 : Int32) * p3) + p1)) fun t102 =>
  if t102 ≤ 0 then
  (mm_sweep_b305 gl rec241 p0 p1 p2 p3)
  else
  (st_g (so_gq p0 [10] 10) fun t103 =>
  st_g (so_li t103 2 p3) fun t104 =>
  if t104 = 0 then
  (st_g (so_gq p0 [10] 16) fun t105 =>
  st_w (so_si t105 0 (((4 : Int32) * p3) + p1) (0 : Int32)) (
  st_g (so_gq p0 [10] 6) fun t107 =>
  st_g (so_li t107 1 p3) fun t108 =>
  st_g (so_cm p0 [10]) fun _ =>
  st_b (mm_post gl p0 (3 : Int32) (((4 : Int32) * p1) + t108) p3 t102 (0 : Int32) (0 : Int32)) fun _ =>
  mm_sweep_b305 gl rec241 p0 p1 p2 p3))
  else
  (mm_sweep_b305 gl rec241 p0 p1 p2 p3)))
def mm_sweep_b189 (gl : gl_T) (rec189 : Option Nat × Int32 × Int32 × Int32 → st_M (Int32)) (p0 : Option Nat) (p1 : Int32) (p2 : Int32) (p3 : Int32) : st_M (Int32) :=
  if (200 : Int32) < p3 then
  (st_it (fun rec241 => (fun x : Option Nat × Int32 × Int32 × Int32 => mm_sweep_b241 gl rec241 x.1 x.2.1 x.2.2.1 x.2.2.2)) fu_ (p0, p1, p2, (1 : Int32)))
  else
  (st_g (so_cm p0 [10]) fun _ =>
  st_b (mm_lives gl p0 p3) fun t86 =>
  if t86 = 0 then
  (mm_sweep_b233 gl rec189 p0 p1 p2 p3)
  else
  (st_g (so_gq p0 [10] 6) fun t94 =>
  st_g (so_li t94 1 p3) fun t95 =>
  if t95 = p1 then
  (st_g (so_gq p0 [10] 10) fun t96 =>
  st_g (so_li t96 2 p3) fun t97 =>
  if t97 = 0 then
  (st_g (so_gq p0 [10] 7) fun t98 =>
  st_g (so_z (1 : Int32)) fun _ =>
  st_w (so_si t98 2 p3 (1 : Int32)) (
  mm_sweep_b233 gl rec189 p0 p1 (p2 + (1 : Int32)) p3))
  else
  (mm_sweep_b233 gl rec189 p0 p1 p2 p3))
  else
  (mm_sweep_b233 gl rec189 p0 p1 p2 p3)))
def mm_sweep_b185 (gl : gl_T) (p0 : Option Nat) (p1 : Int32) : st_M (Int32) :=
  st_it (fun rec189 => (fun x : Option Nat × Int32 × Int32 × Int32 => mm_sweep_b189 gl rec189 x.1 x.2.1 x.2.2.1 x.2.2.2)) fu_ (p0, p1, (0 : Int32), (1 : Int32))
def mm_sweep_b155 (gl : gl_T) (rec155 : Option Nat × Int32 × Int32 → st_M (Int32)) (p0 : Option Nat) (p1 : Int32) (p2 : Int32) : st_M (Int32) :=
  if (300 : Int32) ≤ p2 then
  (mm_sweep_b185 gl p0 p1)
  else
  (st_g (so_gi p0 [10] 14) fun t75 =>
  if t75 = 0 then
  (mm_sweep_b185 gl p0 p1)
  else
  (st_w (so_p p0 [10] 14 (.int (0 : Int32))) (
  st_g (so_cm p0 [10]) fun _ =>
  st_b (mm_spread gl p0 p1) fun _ =>
  rec155 (p0, p1, (p2 + (1 : Int32))))))
def mm_sweep_b65 (gl : gl_T) (rec65 : Option Nat × Int32 × Int32 → st_M (Int32)) (p0 : Option Nat) (p1 : Int32) (p2 : Int32) : st_M (Int32) :=
  st_g (so_gi p0 [10] 18) fun t32 =>
  if t32 ≤ p2 then
  (st_w (so_p p0 [10] 14 (.int (1 : Int32))) (
  st_it (fun rec155 => (fun x : Option Nat × Int32 × Int32 => mm_sweep_b155 gl rec155 x.1 x.2.1 x.2.2)) fu_ (p0, p1, (0 : Int32))))
  else
  (st_g (so_gq p0 [10] 19) fun t34 =>
  st_g (so_li t34 0 p2) fun t35 =>
  if t35 = p1 then
  (st_g (so_gq p0 [10] 20) fun t36 =>
  st_g (so_li t36 0 p2) fun t37 =>
  st_g (so_cm p0 [10]) fun _ =>
  st_b (mm_mark gl p0 t37) fun _ =>
  st_g (so_gq p0 [10] 22) fun t46 =>
  st_g (so_li t46 0 p2) fun t47 =>
  st_g (so_cm p0 [10]) fun _ =>
  st_b (mm_mark gl p0 t47) fun _ =>
  mm_sweep_b142 gl rec65 p0 p1 p2)
  else
  (st_g (so_gq p0 [10] 19) fun t58 =>
  st_g (so_li t58 0 p2) fun t59 =>
  if t59 ≤ (100 : Int32) then
  (mm_sweep_b142 gl rec65 p0 p1 p2)
  else
  (st_g (so_gq p0 [10] 6) fun t60 =>
  st_g (so_gq p0 [10] 19) fun t61 =>
  st_g (so_li t61 0 p2) fun t62 =>
  st_g (so_li t60 1 t62) fun t63 =>
  if t63 = p1 then
  (st_g (so_gq p0 [10] 19) fun t64 =>
  st_g (so_li t64 0 p2) fun t65 =>
  st_g (so_cm p0 [10]) fun _ =>
  st_b (mm_mark gl p0 t65) fun _ =>
  mm_sweep_b142 gl rec65 p0 p1 p2)
  else
  (mm_sweep_b142 gl rec65 p0 p1 p2))))
def mm_sweep_b12 (gl : gl_T) (rec12 : Option Nat × Int32 × Int32 → st_M (Int32)) (p0 : Option Nat) (p1 : Int32) (p2 : Int32) : st_M (Int32) :=
  if (200 : Int32) < p2 then
  (st_it (fun rec65 => (fun x : Option Nat × Int32 × Int32 => mm_sweep_b65 gl rec65 x.1 x.2.1 x.2.2)) fu_ (p0, p1, (0 : Int32)))
  else
  (st_g (so_gq p0 [10] 10) fun t10 =>
  st_g (so_cm p0 [10]) fun _ =>
  st_b (mm_lives gl p0 p2) fun t11 =>
  if t11 = 0 then
  (mm_sweep_b55 gl rec12 p0 p1 p2 p2 t10)
  else
  (st_g (so_gq p0 [10] 6) fun t19 =>
  st_g (so_li t19 1 p2) fun t20 =>
  if t20 = p1 then
  (st_g (so_cm p0 [10]) fun _ =>
  st_b (mm_rooted gl p0 p1 p2) fun t21 =>
  if t21 = 0 then
  (mm_sweep_b55 gl rec12 p0 p1 p2 p2 t10)
  else
  (mm_sweep_b56 gl rec12 p0 p1 p2 (1 : Int32) p2 t10))
  else
  (mm_sweep_b55 gl rec12 p0 p1 p2 p2 t10)))
def mm_sweep (gl : gl_T) (v0 : Option Nat) (v1 : Int32) : st_M (Int32) :=
  st_g (so_cm v0 [10]) fun _ =>
  st_b (mm_vat gl v0 v1) fun t1 =>
  if t1 = 0 then
  (st_r (-1 : Int32))
  else
  (st_it (fun rec12 => (fun x : Option Nat × Int32 × Int32 => mm_sweep_b12 gl rec12 x.1 x.2.1 x.2.2)) fu_ (v0, v1, (1 : Int32)))
/-! PromiseVatsModel.flying(II)I -/
def mm_flying_b55 (gl : gl_T) (rec5 : Option Nat × Int32 × Int32 × Int32 × Int32 → st_M (Int32)) (p0 : Option Nat) (p1 : Int32) (p2 : Int32) (p4 : Int32) (q0 : Int32) : st_M (Int32) :=
  rec5 (p0, p1, p2, q0, (p4 + (1 : Int32)))
def mm_flying_b62 (gl : gl_T) (p3 : Int32) : st_M (Int32) :=
  st_r p3
def mm_flying_b5 (gl : gl_T) (rec5 : Option Nat × Int32 × Int32 × Int32 × Int32 → st_M (Int32)) (p0 : Option Nat) (p1 : Int32) (p2 : Int32) (p3 : Int32) (p4 : Int32) : st_M (Int32) :=
  st_g (so_gi p0 [10] 24) fun t1 =>
  if t1 ≤ p4 then
  (mm_flying_b62 gl p3)
  else
  (st_g (so_cm p0 [10]) fun _ =>
  st_b (mm_vat gl p0 p1) fun t2 =>
  if t2 = 0 then
  (mm_flying_b62 gl p3)
  else
  (st_g (so_cm p0 [10]) fun _ =>
  st_b (mm_vat gl p0 p2) fun t10 =>
  if t10 = 0 then
  (mm_flying_b62 gl p3)
  else
  (st_g (so_gq p0 [10] 25) fun t18 =>
  st_g (so_li t18 1 p4) fun t19 =>
  if (t19 - t19 / (16 : Int32) * (16 : Int32)) = (((4 : Int32) * p1) + p2) then
  (mm_flying_b55 gl rec5 p0 p1 p2 p4 (p3 + (1 : Int32)))
  else
  (mm_flying_b55 gl rec5 p0 p1 p2 p4 p3))))
def mm_flying (gl : gl_T) (v0 : Option Nat) (v1 : Int32) (v2 : Int32) : st_M (Int32) :=
  st_it (fun rec5 => (fun x : Option Nat × Int32 × Int32 × Int32 × Int32 => mm_flying_b5 gl rec5 x.1 x.2.1 x.2.2.1 x.2.2.2.1 x.2.2.2.2)) fu_ (v0, v1, v2, (0 : Int32), (0 : Int32))
/-! PromiseVatsModel.counts(III)Z -/
def mm_counts_b42 (gl : gl_T) : st_M (Int32) :=
  st_r (0 : Int32)
def mm_counts_b94 (gl : gl_T) : st_M (Int32) :=
  st_r (1 : Int32)
def mm_counts_b98 (gl : gl_T) : st_M (Int32) :=
  st_r (0 : Int32)
def mm_counts_b74 (gl : gl_T) (p0 : Option Nat) (p2 : Int32) (p3 : Int32) : st_M (Int32) :=
  if p2 = (2 : Int32) then
  (if p3 ≤ (100 : Int32) then
  (mm_counts_b98 gl )
  else
  (st_g (so_gq p0 [10] 8) fun t16 =>
  st_g (so_li t16 2 p3) fun t17 =>
  if t17 = 0 then
  (mm_counts_b98 gl )
  else
  (mm_counts_b94 gl )))
  else
  (mm_counts_b98 gl )
def mm_counts_b54 (gl : gl_T) (p0 : Option Nat) (p2 : Int32) (p3 : Int32) : st_M (Int32) :=
  if p2 = (1 : Int32) then
  (if p3 ≤ (100 : Int32) then
  (mm_counts_b74 gl p0 p2 p3)
  else
  (st_g (so_gq p0 [10] 8) fun t14 =>
  st_g (so_li t14 2 p3) fun t15 =>
  if t15 = 0 then
  (mm_counts_b94 gl )
  else
  (mm_counts_b74 gl p0 p2 p3)))
  else
  (mm_counts_b74 gl p0 p2 p3)
def mm_counts (gl : gl_T) (v0 : Option Nat) (v1 : Int32) (v2 : Int32) (v3 : Int32) : st_M (Int32) :=
  if v2 = (3 : Int32) then
  (st_g (so_gq v0 [10] 16) fun t1 =>
  st_g (so_li t1 0 (((4 : Int32) * v3) + v1)) fun t2 =>
  if t2 ≤ 0 then
  (st_r (0 : Int32))
  else
  (st_r (1 : Int32)))
  else
  (st_g (so_cm v0 [10]) fun _ =>
  st_b (mm_lives gl v0 v3) fun t3 =>
  if t3 = 0 then
  (mm_counts_b42 gl )
  else
  (st_g (so_gq v0 [10] 6) fun t11 =>
  st_g (so_li t11 1 v3) fun t12 =>
  if t12 = v1 then
  (if v2 = 0 then
  (if v3 ≤ (60 : Int32) then
  (mm_counts_b94 gl )
  else
  (mm_counts_b54 gl v0 v2 v3))
  else
  (mm_counts_b54 gl v0 v2 v3))
  else
  (mm_counts_b42 gl )))
/-! PromiseVatsModel.count(II)I -/
def mm_count_b18 (gl : gl_T) : st_M (Int32) :=
  st_r (0 : Int32)
def mm_count_b56 (gl : gl_T) (rec25 : Option Nat × Int32 × Int32 × Int32 × Int32 → st_M (Int32)) (p0 : Option Nat) (p1 : Int32) (p2 : Int32) (p4 : Int32) (q0 : Int32) : st_M (Int32) :=
  rec25 (p0, p1, p2, q0, (p4 + (1 : Int32)))
def mm_count_b116 (gl : gl_T) (rec66 : Option Nat × Int32 × Int32 × Int32 × Int32 → st_M (Int32)) (p0 : Option Nat) (p1 : Int32) (p2 : Int32) (p4 : Int32) (q0 : Int32) : st_M (Int32) :=
  rec66 (p0, p1, p2, q0, (p4 + (1 : Int32)))
def mm_count_b115 (gl : gl_T) (rec66 : Option Nat × Int32 × Int32 × Int32 × Int32 → st_M (Int32)) (p0 : Option Nat) (p1 : Int32) (p2 : Int32) (p3 : Int32) (p4 : Int32) : st_M (Int32) :=
  mm_count_b116 gl rec66 p0 p1 p2 p4 p3
def mm_count_b197 (gl : gl_T) (rec127 : Option Nat × Int32 × Int32 × Int32 × Int32 → st_M (Int32)) (p0 : Option Nat) (p1 : Int32) (p2 : Int32) (p4 : Int32) (q0 : Int32) : st_M (Int32) :=
  rec127 (p0, p1, p2, q0, (p4 + (1 : Int32)))
def mm_count_b196 (gl : gl_T) (rec127 : Option Nat × Int32 × Int32 × Int32 × Int32 → st_M (Int32)) (p0 : Option Nat) (p1 : Int32) (p2 : Int32) (p3 : Int32) (p4 : Int32) : st_M (Int32) :=
  mm_count_b197 gl rec127 p0 p1 p2 p4 p3
def mm_count_b168 (gl : gl_T) (rec127 : Option Nat × Int32 × Int32 × Int32 × Int32 → st_M (Int32)) (p0 : Option Nat) (p1 : Int32) (p2 : Int32) (p3 : Int32) (p4 : Int32) (q0 : Int32) : st_M (Int32) :=
  if q0 ≤ 0 then
  (mm_count_b196 gl rec127 p0 p1 p2 p3 p4)
  else
  (st_g (so_gq p0 [10] 6) fun t32 =>
  st_g (so_li t32 1 (p4 / (16 : Int32))) fun t33 =>
  if t33 = p1 then
  (mm_count_b197 gl rec127 p0 p1 p2 p4 (p3 + q0))
  else
  (mm_count_b196 gl rec127 p0 p1 p2 p3 p4))
def mm_count_b145 (gl : gl_T) (rec127 : Option Nat × Int32 × Int32 × Int32 × Int32 → st_M (Int32)) (p0 : Option Nat) (p1 : Int32) (p2 : Int32) (p3 : Int32) (p4 : Int32) : st_M (Int32) :=
  if p2 = (4 : Int32) then
  (st_g (so_gq p0 [10] 17) fun t28 =>
  st_g (so_li t28 0 p4) fun t29 =>
  mm_count_b168 gl rec127 p0 p1 p2 p3 p4 t29)
  else
  (st_g (so_gq p0 [10] 17) fun t30 =>
  st_g (so_li t30 0 p4) fun t31 =>
  mm_count_b168 gl rec127 p0 p1 p2 p3 p4 (-t31))
def mm_count_b204 (gl : gl_T) (p0 : Option Nat) (p1 : Int32) (p2 : Int32) (p3 : Int32) : st_M (Int32) :=
  if p2 = (7 : Int32) then
  (st_g (so_gq p0 [10] 32) fun t26 =>
  st_g (so_li t26 0 p1) fun t27 =>
  st_r t27)
  else
  (st_r p3)
def mm_count_b127 (gl : gl_T) (rec127 : Option Nat × Int32 × Int32 × Int32 × Int32 → st_M (Int32)) (p0 : Option Nat) (p1 : Int32) (p2 : Int32) (p3 : Int32) (p4 : Int32) : st_M (Int32) :=
  if (3216 : Int32) ≤ p4 then
  (mm_count_b204 gl p0 p1 p2 p3)
  else
  (if p2 = (4 : Int32) then
  (mm_count_b145 gl rec127 p0 p1 p2 p3 p4)
  else
  (if p2 = (5 : Int32) then
  (mm_count_b145 gl rec127 p0 p1 p2 p3 p4)
  else
  (mm_count_b204 gl p0 p1 p2 p3)))
def mm_count_b123 (gl : gl_T) (p0 : Option Nat) (p1 : Int32) (p2 : Int32) (p3 : Int32) : st_M (Int32) :=
  st_it (fun rec127 => (fun x : Option Nat × Int32 × Int32 × Int32 × Int32 => mm_count_b127 gl rec127 x.1 x.2.1 x.2.2.1 x.2.2.2.1 x.2.2.2.2)) fu_ (p0, p1, p2, p3, (16 : Int32))
def mm_count_b66 (gl : gl_T) (rec66 : Option Nat × Int32 × Int32 × Int32 × Int32 → st_M (Int32)) (p0 : Option Nat) (p1 : Int32) (p2 : Int32) (p3 : Int32) (p4 : Int32) : st_M (Int32) :=
  st_g (so_gi p0 [10] 18) fun t19 =>
  if t19 ≤ p4 then
  (mm_count_b123 gl p0 p1 p2 p3)
  else
  (if p2 = (6 : Int32) then
  (st_g (so_gq p0 [10] 19) fun t20 =>
  st_g (so_li t20 0 p4) fun t21 =>
  if t21 ≤ (100 : Int32) then
  (mm_count_b115 gl rec66 p0 p1 p2 p3 p4)
  else
  (st_g (so_gq p0 [10] 6) fun t22 =>
  st_g (so_gq p0 [10] 19) fun t23 =>
  st_g (so_li t23 0 p4) fun t24 =>
  st_g (so_li t22 1 t24) fun t25 =>
  if t25 = p1 then
  (mm_count_b116 gl rec66 p0 p1 p2 p4 (p3 + (1 : Int32)))
  else
  (mm_count_b115 gl rec66 p0 p1 p2 p3 p4)))
  else
  (mm_count_b123 gl p0 p1 p2 p3))
def mm_count_b63 (gl : gl_T) (p0 : Option Nat) (p1 : Int32) (p2 : Int32) (p3 : Int32) : st_M (Int32) :=
  st_it (fun rec66 => (fun x : Option Nat × Int32 × Int32 × Int32 × Int32 => mm_count_b66 gl rec66 x.1 x.2.1 x.2.2.1 x.2.2.2.1 x.2.2.2.2)) fu_ (p0, p1, p2, p3, (0 : Int32))
def mm_count_b25 (gl : gl_T) (rec25 : Option Nat × Int32 × Int32 × Int32 × Int32 → st_M (Int32)) (p0 : Option Nat) (p1 : Int32) (p2 : Int32) (p3 : Int32) (p4 : Int32) : st_M (Int32) :=
  if (200 : Int32) < p4 then
  (mm_count_b63 gl p0 p1 p2 p3)
  else
  (if (4 : Int32) ≤ p2 then
  (mm_count_b63 gl p0 p1 p2 p3)
  else
  (st_g (so_cm p0 [10]) fun _ =>
  st_b (mm_counts gl p0 p1 p2 p4) fun t10 =>
  if t10 = 0 then
  (mm_count_b56 gl rec25 p0 p1 p2 p4 p3)
  else
  (mm_count_b56 gl rec25 p0 p1 p2 p4 (p3 + (1 : Int32)))))
def mm_count (gl : gl_T) (v0 : Option Nat) (v1 : Int32) (v2 : Int32) : st_M (Int32) :=
  st_g (so_cm v0 [10]) fun _ =>
  st_b (mm_vat gl v0 v1) fun t1 =>
  if t1 = 0 then
  (mm_count_b18 gl )
  else
  (if v2 < 0 then
  (mm_count_b18 gl )
  else
  (if v2 ≤ (7 : Int32) then
  (st_it (fun rec25 => (fun x : Option Nat × Int32 × Int32 × Int32 × Int32 => mm_count_b25 gl rec25 x.1 x.2.1 x.2.2.1 x.2.2.2.1 x.2.2.2.2)) fu_ (v0, v1, v2, (0 : Int32), (1 : Int32)))
  else
  (mm_count_b18 gl )))
/-! PromiseVatsModel.imported(II)I -/
def mm_imported_b29 (gl : gl_T) : st_M (Int32) :=
  st_r (0 : Int32)
def mm_imported (gl : gl_T) (v0 : Option Nat) (v1 : Int32) (v2 : Int32) : st_M (Int32) :=
  st_g (so_cm v0 [10]) fun _ =>
  st_b (mm_vat gl v0 v1) fun t1 =>
  if t1 = 0 then
  (mm_imported_b29 gl )
  else
  (st_g (so_cm v0 [10]) fun _ =>
  st_b (mm_made gl v0 v2) fun t9 =>
  if t9 = 0 then
  (mm_imported_b29 gl )
  else
  (st_g (so_gq v0 [10] 16) fun t17 =>
  st_g (so_li t17 0 (((4 : Int32) * v2) + v1)) fun t18 =>
  st_r t18))
/-! PromiseVatsModel.exported(II)I -/
def mm_exported_b39 (gl : gl_T) : st_M (Int32) :=
  st_r (0 : Int32)
def mm_exported (gl : gl_T) (v0 : Option Nat) (v1 : Int32) (v2 : Int32) : st_M (Int32) :=
  st_g (so_cm v0 [10]) fun _ =>
  st_b (mm_lives gl v0 v1) fun t1 =>
  if t1 = 0 then
  (mm_exported_b39 gl )
  else
  (st_g (so_cm v0 [10]) fun _ =>
  st_b (mm_vat gl v0 v2) fun t9 =>
  if t9 = 0 then
  (mm_exported_b39 gl )
  else
  (st_g (so_gq v0 [10] 6) fun t17 =>
  st_g (so_li t17 1 v1) fun t18 =>
  if t18 = v2 then
  (mm_exported_b39 gl )
  else
  (st_g (so_gq v0 [10] 15) fun t19 =>
  st_g (so_li t19 0 (((4 : Int32) * v1) + v2)) fun t20 =>
  st_r t20)))
/-! PromiseVatsModel.home(I)I -/
def mm_home (gl : gl_T) (v0 : Option Nat) (v1 : Int32) : st_M (Int32) :=
  st_g (so_cm v0 [10]) fun _ =>
  st_b (mm_lives gl v0 v1) fun t1 =>
  if t1 = 0 then
  (st_r (-1 : Int32))
  else
  (st_g (so_gq v0 [10] 6) fun t9 =>
  st_g (so_li t9 1 v1) fun t10 =>
  st_r t10)
/-! PromiseVatsModel.slot(II)I -/
def mm_slot_b36 (gl : gl_T) : st_M (Int32) :=
  st_r (0 : Int32)
def mm_slot (gl : gl_T) (v0 : Option Nat) (v1 : Int32) (v2 : Int32) : st_M (Int32) :=
  st_g (so_cm v0 [10]) fun _ =>
  st_b (mm_lives gl v0 v1) fun t1 =>
  if t1 = 0 then
  (mm_slot_b36 gl )
  else
  (if (60 : Int32) < v1 then
  (mm_slot_b36 gl )
  else
  (if v2 < 0 then
  (mm_slot_b36 gl )
  else
  (if (3 : Int32) < v2 then
  (mm_slot_b36 gl )
  else
  (st_g (so_gq v0 [10] 13) fun t9 =>
  st_g (so_li t9 0 (((4 : Int32) * v1) + v2)) fun t10 =>
  st_r t10))))
/-! PromiseVatsModel.number(I)I -/
def mm_number_b23 (gl : gl_T) : st_M (Int32) :=
  st_r (0 : Int32)
def mm_number (gl : gl_T) (v0 : Option Nat) (v1 : Int32) : st_M (Int32) :=
  st_g (so_cm v0 [10]) fun _ =>
  st_b (mm_lives gl v0 v1) fun t1 =>
  if t1 = 0 then
  (mm_number_b23 gl )
  else
  (if (60 : Int32) < v1 then
  (mm_number_b23 gl )
  else
  (st_g (so_gq v0 [10] 12) fun t9 =>
  st_g (so_li t9 0 v1) fun t10 =>
  st_r t10))
/-! PromiseVatsModel.resolved(I)I -/
def mm_resolved_b32 (gl : gl_T) : st_M (Int32) :=
  st_r (-1 : Int32)
def mm_resolved (gl : gl_T) (v0 : Option Nat) (v1 : Int32) : st_M (Int32) :=
  st_g (so_cm v0 [10]) fun _ =>
  st_b (mm_lives gl v0 v1) fun t1 =>
  if t1 = 0 then
  (mm_resolved_b32 gl )
  else
  (if v1 ≤ (100 : Int32) then
  (mm_resolved_b32 gl )
  else
  (st_g (so_gq v0 [10] 8) fun t9 =>
  st_g (so_li t9 2 v1) fun t10 =>
  if t10 = 0 then
  (mm_resolved_b32 gl )
  else
  (st_g (so_gq v0 [10] 9) fun t11 =>
  st_g (so_li t11 0 v1) fun t12 =>
  st_r t12)))
/-! PromiseVatsModel.output(II)I -/
def mm_output_b28 (gl : gl_T) : st_M (Int32) :=
  st_r (0 : Int32)
def mm_output (gl : gl_T) (v0 : Option Nat) (v1 : Int32) (v2 : Int32) : st_M (Int32) :=
  st_g (so_cm v0 [10]) fun _ =>
  st_b (mm_vat gl v0 v1) fun t1 =>
  if t1 = 0 then
  (mm_output_b28 gl )
  else
  (if v2 < 0 then
  (mm_output_b28 gl )
  else
  (if (9 : Int32) < v2 then
  (mm_output_b28 gl )
  else
  (st_g (so_gq v0 [10] 32) fun t9 =>
  st_g (so_li t9 0 v1) fun t10 =>
  if v2 < t10 then
  (st_g (so_gq v0 [10] 33) fun t11 =>
  st_g (so_gq v0 [10] 32) fun t12 =>
  st_g (so_li t12 0 v1) fun t13 =>
  st_g (so_li t11 0 (((10 : Int32) * v1) + (((t13 - (1 : Int32)) - v2) - ((t13 - (1 : Int32)) - v2) / (10 : Int32) * (10 : Int32)))) fun t14 =>
  st_r t14)
  else
  (mm_output_b28 gl ))))
end
section
/-! lists of types and classes, by their numbers -/
theorem tl_0 (ac : Nat → ClassId) : ∀ t ∈ ([0] : List Nat), ∃ E : FieldType, (ty_ ac)[t]? = some (ac t, E) := by
  intro t h
  rw [List.mem_singleton.mp h]
  exact ⟨_, rfl⟩
theorem tl_1 (ac : Nat → ClassId) : ∀ t ∈ ([1] : List Nat), ∃ E : FieldType, (ty_ ac)[t]? = some (ac t, E) := by
  intro t h
  rw [List.mem_singleton.mp h]
  exact ⟨_, rfl⟩
theorem tl_2 (ac : Nat → ClassId) : ∀ t ∈ ([2] : List Nat), ∃ E : FieldType, (ty_ ac)[t]? = some (ac t, E) := by
  intro t h
  rw [List.mem_singleton.mp h]
  exact ⟨_, rfl⟩
theorem tl_3 (ac : Nat → ClassId) : ∀ t ∈ ([3] : List Nat), ∃ E : FieldType, (ty_ ac)[t]? = some (ac t, E) := by
  intro t h
  rw [List.mem_singleton.mp h]
  exact ⟨_, rfl⟩
theorem tl_4 (ac : Nat → ClassId) : ∀ t ∈ ([4] : List Nat), ∃ E : FieldType, (ty_ ac)[t]? = some (ac t, E) := by
  intro t h
  rw [List.mem_singleton.mp h]
  exact ⟨_, rfl⟩
theorem tq_4 (ac : Nat → ClassId) : ∀ t ∈ ([4] : List Nat), ∃ E : String, (ty_ ac)[t]? = some (ac t, .object E) := by
  intro t h
  rw [List.mem_singleton.mp h]
  exact ⟨_, rfl⟩
theorem ta_4 {D : va_G} {ac : Nat → ClassId} {a0 : Nat} {gl : gl_T} {s : State} (hKs : kn_ D ac a0 gl s) : ∀ t ∈ ([4] : List Nat), ∃ E : String, (ty_ ac)[t]? = some (ac t, .object E) ∧ ∀ ci ∈ ([5] : List Nat), ∃ q : vw_C, cl_[ci]? = some q ∧ ∀ comp c0 : ClassId, s.vm.findClass E = some comp → s.vm.findClass q.1 = some c0 → s.vm.assignable c0 comp = true := by
  intro t h
  rw [List.mem_singleton.mp h]
  refine ⟨"PromiseVats$Vat", rfl, fun ci h2 => ?_⟩
  simp only [List.mem_cons, List.not_mem_nil, or_false] at h2
  rcases h2 with rfl
  · exact ⟨_, rfl, as_of hKs (ci := 5) rfl (Or.inl rfl)⟩
theorem to_4 {D : va_G} {ac : Nat → ClassId} {a0 : Nat} {gl : gl_T} {s : State} (hKs : kn_ D ac a0 gl s) : va_AO "PromiseVats$Vat" s := hKs.2.2.2.1 _ (by decide +kernel)
theorem tl_5 (ac : Nat → ClassId) : ∀ t ∈ ([5] : List Nat), ∃ E : FieldType, (ty_ ac)[t]? = some (ac t, E) := by
  intro t h
  rw [List.mem_singleton.mp h]
  exact ⟨_, rfl⟩
theorem tq_5 (ac : Nat → ClassId) : ∀ t ∈ ([5] : List Nat), ∃ E : String, (ty_ ac)[t]? = some (ac t, .object E) := by
  intro t h
  rw [List.mem_singleton.mp h]
  exact ⟨_, rfl⟩
theorem ta_5 {D : va_G} {ac : Nat → ClassId} {a0 : Nat} {gl : gl_T} {s : State} (hKs : kn_ D ac a0 gl s) : ∀ t ∈ ([5] : List Nat), ∃ E : String, (ty_ ac)[t]? = some (ac t, .object E) ∧ ∀ ci ∈ ([2] : List Nat), ∃ q : vw_C, cl_[ci]? = some q ∧ ∀ comp c0 : ClassId, s.vm.findClass E = some comp → s.vm.findClass q.1 = some c0 → s.vm.assignable c0 comp = true := by
  intro t h
  rw [List.mem_singleton.mp h]
  refine ⟨"PromiseVats$Program", rfl, fun ci h2 => ?_⟩
  simp only [List.mem_cons, List.not_mem_nil, or_false] at h2
  rcases h2 with rfl
  · exact ⟨_, rfl, as_of hKs (ci := 2) rfl (Or.inl rfl)⟩
theorem to_5 {D : va_G} {ac : Nat → ClassId} {a0 : Nat} {gl : gl_T} {s : State} (hKs : kn_ D ac a0 gl s) : va_AO "PromiseVats$Program" s := hKs.2.2.2.1 _ (by decide +kernel)
theorem tl_6 (ac : Nat → ClassId) : ∀ t ∈ ([6] : List Nat), ∃ E : FieldType, (ty_ ac)[t]? = some (ac t, E) := by
  intro t h
  rw [List.mem_singleton.mp h]
  exact ⟨_, rfl⟩
theorem tq_6 (ac : Nat → ClassId) : ∀ t ∈ ([6] : List Nat), ∃ E : String, (ty_ ac)[t]? = some (ac t, .object E) := by
  intro t h
  rw [List.mem_singleton.mp h]
  exact ⟨_, rfl⟩
theorem ta_6 {D : va_G} {ac : Nat → ClassId} {a0 : Nat} {gl : gl_T} {s : State} (hKs : kn_ D ac a0 gl s) : ∀ t ∈ ([6] : List Nat), ∃ E : String, (ty_ ac)[t]? = some (ac t, .object E) ∧ ∀ ci ∈ ([3, 4] : List Nat), ∃ q : vw_C, cl_[ci]? = some q ∧ ∀ comp c0 : ClassId, s.vm.findClass E = some comp → s.vm.findClass q.1 = some c0 → s.vm.assignable c0 comp = true := by
  intro t h
  rw [List.mem_singleton.mp h]
  refine ⟨"PromiseVats$Entity", rfl, fun ci h2 => ?_⟩
  simp only [List.mem_cons, List.not_mem_nil, or_false] at h2
  rcases h2 with rfl | rfl
  · exact ⟨_, rfl, as_of hKs (ci := 3) rfl (Or.inr (by decide +kernel))⟩
  · exact ⟨_, rfl, as_of hKs (ci := 4) rfl (Or.inr (by decide +kernel))⟩
theorem to_6 {D : va_G} {ac : Nat → ClassId} {a0 : Nat} {gl : gl_T} {s : State} (hKs : kn_ D ac a0 gl s) : va_AO "PromiseVats$Entity" s := hKs.2.2.2.1 _ (by decide +kernel)
theorem tl_7 (ac : Nat → ClassId) : ∀ t ∈ ([7] : List Nat), ∃ E : FieldType, (ty_ ac)[t]? = some (ac t, E) := by
  intro t h
  rw [List.mem_singleton.mp h]
  exact ⟨_, rfl⟩
theorem tq_7 (ac : Nat → ClassId) : ∀ t ∈ ([7] : List Nat), ∃ E : String, (ty_ ac)[t]? = some (ac t, .object E) := by
  intro t h
  rw [List.mem_singleton.mp h]
  exact ⟨_, rfl⟩
theorem ta_7 {D : va_G} {ac : Nat → ClassId} {a0 : Nat} {gl : gl_T} {s : State} (hKs : kn_ D ac a0 gl s) : ∀ t ∈ ([7] : List Nat), ∃ E : String, (ty_ ac)[t]? = some (ac t, .object E) ∧ ∀ ci ∈ ([4] : List Nat), ∃ q : vw_C, cl_[ci]? = some q ∧ ∀ comp c0 : ClassId, s.vm.findClass E = some comp → s.vm.findClass q.1 = some c0 → s.vm.assignable c0 comp = true := by
  intro t h
  rw [List.mem_singleton.mp h]
  refine ⟨"PromiseVats$Promise", rfl, fun ci h2 => ?_⟩
  simp only [List.mem_cons, List.not_mem_nil, or_false] at h2
  rcases h2 with rfl
  · exact ⟨_, rfl, as_of hKs (ci := 4) rfl (Or.inl rfl)⟩
theorem to_7 {D : va_G} {ac : Nat → ClassId} {a0 : Nat} {gl : gl_T} {s : State} (hKs : kn_ D ac a0 gl s) : va_AO "PromiseVats$Promise" s := hKs.2.2.2.1 _ (by decide +kernel)
theorem tl_8 (ac : Nat → ClassId) : ∀ t ∈ ([8] : List Nat), ∃ E : FieldType, (ty_ ac)[t]? = some (ac t, E) := by
  intro t h
  rw [List.mem_singleton.mp h]
  exact ⟨_, rfl⟩
theorem tq_8 (ac : Nat → ClassId) : ∀ t ∈ ([8] : List Nat), ∃ E : String, (ty_ ac)[t]? = some (ac t, .object E) := by
  intro t h
  rw [List.mem_singleton.mp h]
  exact ⟨_, rfl⟩
theorem ta_8 {D : va_G} {ac : Nat → ClassId} {a0 : Nat} {gl : gl_T} {s : State} (hKs : kn_ D ac a0 gl s) : ∀ t ∈ ([8] : List Nat), ∃ E : String, (ty_ ac)[t]? = some (ac t, .object E) ∧ ∀ ci ∈ ([7] : List Nat), ∃ q : vw_C, cl_[ci]? = some q ∧ ∀ comp c0 : ClassId, s.vm.findClass E = some comp → s.vm.findClass q.1 = some c0 → s.vm.assignable c0 comp = true := by
  intro t h
  rw [List.mem_singleton.mp h]
  refine ⟨"PromiseVats$Channel", rfl, fun ci h2 => ?_⟩
  simp only [List.mem_cons, List.not_mem_nil, or_false] at h2
  rcases h2 with rfl
  · exact ⟨_, rfl, as_of hKs (ci := 7) rfl (Or.inl rfl)⟩
theorem to_8 {D : va_G} {ac : Nat → ClassId} {a0 : Nat} {gl : gl_T} {s : State} (hKs : kn_ D ac a0 gl s) : va_AO "PromiseVats$Channel" s := hKs.2.2.2.1 _ (by decide +kernel)
theorem tl_9 (ac : Nat → ClassId) : ∀ t ∈ ([9] : List Nat), ∃ E : FieldType, (ty_ ac)[t]? = some (ac t, E) := by
  intro t h
  rw [List.mem_singleton.mp h]
  exact ⟨_, rfl⟩
theorem tq_9 (ac : Nat → ClassId) : ∀ t ∈ ([9] : List Nat), ∃ E : String, (ty_ ac)[t]? = some (ac t, .object E) := by
  intro t h
  rw [List.mem_singleton.mp h]
  exact ⟨_, rfl⟩
theorem ta_9 {D : va_G} {ac : Nat → ClassId} {a0 : Nat} {gl : gl_T} {s : State} (hKs : kn_ D ac a0 gl s) : ∀ t ∈ ([9] : List Nat), ∃ E : String, (ty_ ac)[t]? = some (ac t, .object E) ∧ ∀ ci ∈ ([8, 9] : List Nat), ∃ q : vw_C, cl_[ci]? = some q ∧ ∀ comp c0 : ClassId, s.vm.findClass E = some comp → s.vm.findClass q.1 = some c0 → s.vm.assignable c0 comp = true := by
  intro t h
  rw [List.mem_singleton.mp h]
  refine ⟨"java/lang/Object", rfl, fun ci h2 => ?_⟩
  simp only [List.mem_cons, List.not_mem_nil, or_false] at h2
  rcases h2 with rfl | rfl
  · exact ⟨_, rfl, as_of hKs (ci := 8) rfl (Or.inr (by decide +kernel))⟩
  · exact ⟨_, rfl, as_of hKs (ci := 9) rfl (Or.inr (by decide +kernel))⟩
theorem to_9 {D : va_G} {ac : Nat → ClassId} {a0 : Nat} {gl : gl_T} {s : State} (hKs : kn_ D ac a0 gl s) : va_AO "java/lang/Object" s := hKs.2.2.2.1 _ (by decide +kernel)
theorem ti_O_y {D : va_G} {ac : Nat → ClassId} {a0 : Nat} {gl : gl_T} {s : State} (_hKs : kn_ D ac a0 gl s) : cy_ cl_ [3] "PromiseVats$VatObject" s := by
  intro ci h
  rw [List.mem_singleton.mp h]
  exact ⟨_, rfl, Or.inl rfl⟩
theorem ti_O_n {D : va_G} {ac : Nat → ClassId} {a0 : Nat} {gl : gl_T} {s : State} (hKs : kn_ D ac a0 gl s) : cn_ cl_ [4] "PromiseVats$VatObject" s := by
  intro ci h
  rw [List.mem_singleton.mp h]
  exact ⟨_, rfl, hKs.2.2.1 ("PromiseVats$Promise", "PromiseVats$VatObject") (by decide +kernel)⟩
theorem ti_Q_y {D : va_G} {ac : Nat → ClassId} {a0 : Nat} {gl : gl_T} {s : State} (_hKs : kn_ D ac a0 gl s) : cy_ cl_ [4] "PromiseVats$Promise" s := by
  intro ci h
  rw [List.mem_singleton.mp h]
  exact ⟨_, rfl, Or.inl rfl⟩
theorem ti_Q_n {D : va_G} {ac : Nat → ClassId} {a0 : Nat} {gl : gl_T} {s : State} (hKs : kn_ D ac a0 gl s) : cn_ cl_ [3] "PromiseVats$Promise" s := by
  intro ci h
  rw [List.mem_singleton.mp h]
  exact ⟨_, rfl, hKs.2.2.1 ("PromiseVats$VatObject", "PromiseVats$Promise") (by decide +kernel)⟩
theorem ti_C_y {D : va_G} {ac : Nat → ClassId} {a0 : Nat} {gl : gl_T} {s : State} (_hKs : kn_ D ac a0 gl s) : cy_ cl_ [8] "PromiseVats$Call" s := by
  intro ci h
  rw [List.mem_singleton.mp h]
  exact ⟨_, rfl, Or.inl rfl⟩
theorem ti_M_y {D : va_G} {ac : Nat → ClassId} {a0 : Nat} {gl : gl_T} {s : State} (_hKs : kn_ D ac a0 gl s) : cy_ cl_ [9] "PromiseVats$Message" s := by
  intro ci h
  rw [List.mem_singleton.mp h]
  exact ⟨_, rfl, Or.inl rfl⟩
end
section
/-! the words that the walks use, the fields, the selected methods -/
theorem tw_0 : Cond.methodLink "PromiseVats$Turn" 1 objectInit ∈ tb_ := tb_in 46 (by decide +kernel) rfl
theorem tw_1 : Cond.instanceMethod objectInit ∈ tb_ := tb_in 27 (by decide +kernel) rfl
theorem tw_2 : Cond.code objectInit ⟨#[0xb1]⟩ 1 none ∈ tb_ := tb_in 28 (by decide +kernel) rfl
theorem tw_3 : Cond.arrayClass FieldType.int ∈ tb_ := tb_in 83 (by decide +kernel) rfl
theorem tw_4 : Cond.fieldLink "PromiseVats$Program" 15 "PromiseVats$Program" "xs" "[I" ∈ tb_ := tb_in 73 (by decide +kernel) rfl
theorem tw_5 : Cond.fieldLink "PromiseVats$Program" 9 "PromiseVats$Program" "ops" "[I" ∈ tb_ := tb_in 71 (by decide +kernel) rfl
theorem tw_6 : Cond.methodLink "PromiseVats$Program" 3 objectInit ∈ tb_ := tb_in 70 (by decide +kernel) rfl
theorem tw_7 : Cond.fieldLink "PromiseVats$Entity" 25 "PromiseVats$Entity" "home" "I" ∈ tb_ := tb_in 105 (by decide +kernel) rfl
theorem tw_8 : Cond.fieldLink "PromiseVats$Entity" 21 "PromiseVats$Entity" "id" "I" ∈ tb_ := tb_in 99 (by decide +kernel) rfl
theorem tw_9 : Cond.fieldLink "PromiseVats$Entity" 18 "PromiseVats$Entity" "gifts" "[I" ∈ tb_ := tb_in 127 (by decide +kernel) rfl
theorem tw_10 : Cond.fieldLink "PromiseVats$Entity" 15 "PromiseVats$Entity" "imports" "[I" ∈ tb_ := tb_in 121 (by decide +kernel) rfl
theorem tw_11 : Cond.fieldLink "PromiseVats$Entity" 9 "PromiseVats$Entity" "exports" "[I" ∈ tb_ := tb_in 115 (by decide +kernel) rfl
theorem tw_12 : Cond.methodLink "PromiseVats$Entity" 3 objectInit ∈ tb_ := tb_in 92 (by decide +kernel) rfl
theorem tw_13 : Cond.classLink "PromiseVats$VatObject" 4 "PromiseVats$Entity" ∈ tb_ := tb_in 93 (by decide +kernel) rfl
theorem tw_14 : Cond.fieldLink "PromiseVats$VatObject" 15 "PromiseVats$VatObject" "program" "I" ∈ tb_ := tb_in 94 (by decide +kernel) rfl
theorem tw_15 : Cond.fieldLink "PromiseVats$VatObject" 9 "PromiseVats$VatObject" "slots" "[LPromiseVats$Entity;" ∈ tb_ := tb_in 97 (by decide +kernel) rfl
theorem tw_16 : Cond.initialized "PromiseVats$Entity" ∈ tb_ := tb_in 5 (by decide +kernel) rfl
theorem tw_17 : Cond.code ⟨"PromiseVats$Entity", "<init>", "(II)V"⟩ prog_4_method_1_code 3 (Option.none : Option FieldType) ∈ tb_ := tb_in 91 (by decide +kernel) rfl
theorem tw_18 : Cond.methodLink "PromiseVats$VatObject" 3 ⟨"PromiseVats$Entity", "<init>", "(II)V"⟩ ∈ tb_ := tb_in 89 (by decide +kernel) rfl
theorem tw_19 : Cond.instanceMethod ⟨"PromiseVats$Entity", "<init>", "(II)V"⟩ ∈ tb_ := tb_in 90 (by decide +kernel) rfl
theorem tw_20 : Cond.methodLink "java/util/AbstractCollection" 1 objectInit ∈ tb_ := tb_in 166 (by decide +kernel) rfl
theorem tw_21 : Cond.fieldLink "java/util/AbstractList" 7 "java/util/AbstractList" "modCount" "I" ∈ tb_ := tb_in 171 (by decide +kernel) rfl
theorem tw_22 : Cond.initialized "java/util/AbstractCollection" ∈ tb_ := tb_in 8 (by decide +kernel) rfl
theorem tw_23 : Cond.code ⟨"java/util/AbstractCollection", "<init>", "()V"⟩ prog_18_method_1_code 1 (Option.none : Option FieldType) ∈ tb_ := tb_in 165 (by decide +kernel) rfl
theorem tw_24 : Cond.methodLink "java/util/AbstractList" 1 ⟨"java/util/AbstractCollection", "<init>", "()V"⟩ ∈ tb_ := tb_in 163 (by decide +kernel) rfl
theorem tw_25 : Cond.instanceMethod ⟨"java/util/AbstractCollection", "<init>", "()V"⟩ ∈ tb_ := tb_in 164 (by decide +kernel) rfl
theorem tw_26 : Cond.fieldLink "java/util/ArrayList" 9 "java/util/ArrayList" "elementData" "[Ljava/lang/Object;" ∈ tb_ := tb_in 169 (by decide +kernel) rfl
theorem tw_27 : Cond.fieldLink "java/util/ArrayList" 39 "java/util/ArrayList" "DEFAULTCAPACITY_EMPTY_ELEMENTDATA" "[Ljava/lang/Object;" ∈ tb_ := tb_in 167 (by decide +kernel) rfl
theorem tw_28 : Cond.initialized "java/util/AbstractList" ∈ tb_ := tb_in 9 (by decide +kernel) rfl
theorem tw_29 : Cond.code ⟨"java/util/AbstractList", "<init>", "()V"⟩ prog_19_method_1_code 1 (Option.none : Option FieldType) ∈ tb_ := tb_in 162 (by decide +kernel) rfl
theorem tw_30 : Cond.methodLink "java/util/ArrayList" 1 ⟨"java/util/AbstractList", "<init>", "()V"⟩ ∈ tb_ := tb_in 160 (by decide +kernel) rfl
theorem tw_31 : Cond.instanceMethod ⟨"java/util/AbstractList", "<init>", "()V"⟩ ∈ tb_ := tb_in 161 (by decide +kernel) rfl
theorem tw_32 : Cond.fieldLink "PromiseVats$Channel" 10 "PromiseVats$Channel" "messages" "Ljava/util/ArrayList;" ∈ tb_ := tb_in 190 (by decide +kernel) rfl
theorem tw_33 : Cond.initialized "java/util/ArrayList" ∈ tb_ := tb_in 10 (by decide +kernel) rfl
theorem tw_34 : Cond.code ⟨"java/util/ArrayList", "<init>", "()V"⟩ prog_20_method_2_code 1 (Option.none : Option FieldType) ∈ tb_ := tb_in 159 (by decide +kernel) rfl
theorem tw_35 : Cond.methodLink "PromiseVats$Channel" 9 ⟨"java/util/ArrayList", "<init>", "()V"⟩ ∈ tb_ := tb_in 189 (by decide +kernel) rfl
theorem tw_36 : Cond.instanceMethod ⟨"java/util/ArrayList", "<init>", "()V"⟩ ∈ tb_ := tb_in 158 (by decide +kernel) rfl
theorem tw_37 : Cond.classLink "PromiseVats$Channel" 7 "java/util/ArrayList" ∈ tb_ := tb_in 188 (by decide +kernel) rfl
theorem tw_38 : Cond.instantiable "java/util/ArrayList" 3 ∈ tb_ := tb_in 156 (by decide +kernel) rfl
theorem tw_39 : Cond.methodLink "PromiseVats$Channel" 1 objectInit ∈ tb_ := tb_in 187 (by decide +kernel) rfl
theorem tw_40 : Cond.classLink "PromiseVats$Vat" 26 "PromiseVats$Channel" ∈ tb_ := tb_in 181 (by decide +kernel) rfl
theorem tw_41 : Cond.fieldLink "PromiseVats$Vat" 28 "PromiseVats$Vat" "channels" "[LPromiseVats$Channel;" ∈ tb_ := tb_in 199 (by decide +kernel) rfl
theorem tw_42 : Cond.fieldLink "PromiseVats$Vat" 22 "PromiseVats$Vat" "root" "LPromiseVats$VatObject;" ∈ tb_ := tb_in 195 (by decide +kernel) rfl
theorem tw_43 : Cond.fieldLink "PromiseVats$Vat" 18 "PromiseVats$Vat" "latest" "[I" ∈ tb_ := tb_in 201 (by decide +kernel) rfl
theorem tw_44 : Cond.fieldLink "PromiseVats$Vat" 12 "PromiseVats$Vat" "calls" "Ljava/util/ArrayList;" ∈ tb_ := tb_in 197 (by decide +kernel) rfl
theorem tw_45 : Cond.methodLink "PromiseVats$Vat" 11 ⟨"java/util/ArrayList", "<init>", "()V"⟩ ∈ tb_ := tb_in 157 (by decide +kernel) rfl
theorem tw_46 : Cond.classLink "PromiseVats$Vat" 9 "java/util/ArrayList" ∈ tb_ := tb_in 155 (by decide +kernel) rfl
theorem tw_47 : Cond.methodLink "PromiseVats$Vat" 3 objectInit ∈ tb_ := tb_in 154 (by decide +kernel) rfl
theorem tw_48 : Cond.initialized "PromiseVats$Channel" ∈ tb_ := tb_in 11 (by decide +kernel) rfl
theorem tw_49 : Cond.code ⟨"PromiseVats$Channel", "<init>", "()V"⟩ prog_3_method_1_code 1 (Option.none : Option FieldType) ∈ tb_ := tb_in 186 (by decide +kernel) rfl
theorem tw_50 : Cond.instanceMethod ⟨"PromiseVats$Channel", "<init>", "()V"⟩ ∈ tb_ := tb_in 185 (by decide +kernel) rfl
theorem tw_51 : Cond.instantiable "PromiseVats$Channel" 1 ∈ tb_ := tb_in 183 (by decide +kernel) rfl
theorem tw_52 : Cond.classLink "PromiseVats" 18 "PromiseVats$Vat" ∈ tb_ := tb_in 35 (by decide +kernel) rfl
theorem tw_53 : Cond.classLink "PromiseVats" 24 "PromiseVats$Program" ∈ tb_ := tb_in 37 (by decide +kernel) rfl
theorem tw_54 : Cond.classLink "PromiseVats" 30 "PromiseVats$Entity" ∈ tb_ := tb_in 39 (by decide +kernel) rfl
theorem tw_55 : Cond.classLink "PromiseVats" 43 "PromiseVats$Promise" ∈ tb_ := tb_in 64 (by decide +kernel) rfl
theorem tw_56 : Cond.fieldLink "PromiseVats" 49 "PromiseVats" "found" "[LPromiseVats$Entity;" ∈ tb_ := tb_in 224 (by decide +kernel) rfl
theorem tw_57 : Cond.fieldLink "PromiseVats" 45 "PromiseVats" "lost" "[LPromiseVats$Promise;" ∈ tb_ := tb_in 222 (by decide +kernel) rfl
theorem tw_58 : Cond.fieldLink "PromiseVats" 39 "PromiseVats" "running" "LPromiseVats$Turn;" ∈ tb_ := tb_in 221 (by decide +kernel) rfl
theorem tw_59 : Cond.initialized "PromiseVats$Turn" ∈ tb_ := tb_in 3 (by decide +kernel) rfl
theorem tw_60 : Cond.code ⟨"PromiseVats$Turn", "<init>", "()V"⟩ prog_8_method_1_code 1 (Option.none : Option FieldType) ∈ tb_ := tb_in 45 (by decide +kernel) rfl
theorem tw_61 : Cond.instanceMethod ⟨"PromiseVats$Turn", "<init>", "()V"⟩ ∈ tb_ := tb_in 44 (by decide +kernel) rfl
theorem tw_62 : Cond.classLink "PromiseVats" 36 "PromiseVats$Turn" ∈ tb_ := tb_in 41 (by decide +kernel) rfl
theorem tw_63 : Cond.instantiable "PromiseVats$Turn" 4 ∈ tb_ := tb_in 42 (by decide +kernel) rfl
theorem tw_64 : Cond.fieldLink "PromiseVats" 32 "PromiseVats" "entities" "[LPromiseVats$Entity;" ∈ tb_ := tb_in 218 (by decide +kernel) rfl
theorem tw_65 : Cond.fieldLink "PromiseVats" 26 "PromiseVats" "programs" "[LPromiseVats$Program;" ∈ tb_ := tb_in 217 (by decide +kernel) rfl
theorem tw_66 : Cond.fieldLink "PromiseVats" 20 "PromiseVats" "vats" "[LPromiseVats$Vat;" ∈ tb_ := tb_in 216 (by decide +kernel) rfl
theorem tw_67 : Cond.initialized "java/lang/Math" ∈ tb_ := tb_in 2 (by decide +kernel) rfl
theorem tw_68 : Cond.code ⟨"java/lang/Math", "max", "(II)I"⟩ prog_16_method_65_code 2 (Option.some FieldType.int) ∈ tb_ := tb_in 34 (by decide +kernel) rfl
theorem tw_69 : Cond.methodLink "PromiseVats" 15 ⟨"java/lang/Math", "max", "(II)I"⟩ ∈ tb_ := tb_in 32 (by decide +kernel) rfl
theorem tw_70 : Cond.static ⟨"java/lang/Math", "max", "(II)I"⟩ ∈ tb_ := tb_in 33 (by decide +kernel) rfl
theorem tw_71 : Cond.code ⟨"java/lang/Math", "min", "(II)I"⟩ prog_16_method_69_code 2 (Option.some FieldType.int) ∈ tb_ := tb_in 31 (by decide +kernel) rfl
theorem tw_72 : Cond.methodLink "PromiseVats" 9 ⟨"java/lang/Math", "min", "(II)I"⟩ ∈ tb_ := tb_in 29 (by decide +kernel) rfl
theorem tw_73 : Cond.static ⟨"java/lang/Math", "min", "(II)I"⟩ ∈ tb_ := tb_in 30 (by decide +kernel) rfl
theorem tw_74 : Cond.methodLink "PromiseVats" 1 objectInit ∈ tb_ := tb_in 26 (by decide +kernel) rfl
theorem tw_75 : Cond.initialized "PromiseVats$Program" ∈ tb_ := tb_in 4 (by decide +kernel) rfl
theorem tw_76 : Cond.code ⟨"PromiseVats$Program", "<init>", "()V"⟩ prog_6_method_1_code 1 (Option.none : Option FieldType) ∈ tb_ := tb_in 69 (by decide +kernel) rfl
theorem tw_77 : Cond.instanceMethod ⟨"PromiseVats$Program", "<init>", "()V"⟩ ∈ tb_ := tb_in 68 (by decide +kernel) rfl
theorem tw_78 : Cond.instantiable "PromiseVats$Program" 3 ∈ tb_ := tb_in 66 (by decide +kernel) rfl
theorem tw_79 : Cond.fieldLink "PromiseVats" 61 "PromiseVats" "objectsMade" "I" ∈ tb_ := tb_in 219 (by decide +kernel) rfl
theorem tw_80 : Cond.initialized "PromiseVats$Vat" ∈ tb_ := tb_in 7 (by decide +kernel) rfl
theorem tw_81 : Cond.code ⟨"PromiseVats$Vat", "<init>", "(LPromiseVats$VatObject;I)V"⟩ prog_9_method_1_code 4 (Option.none : Option FieldType) ∈ tb_ := tb_in 153 (by decide +kernel) rfl
theorem tw_82 : Cond.methodLink "PromiseVats" 58 ⟨"PromiseVats$Vat", "<init>", "(LPromiseVats$VatObject;I)V"⟩ ∈ tb_ := tb_in 151 (by decide +kernel) rfl
theorem tw_83 : Cond.instanceMethod ⟨"PromiseVats$Vat", "<init>", "(LPromiseVats$VatObject;I)V"⟩ ∈ tb_ := tb_in 152 (by decide +kernel) rfl
theorem tw_84 : Cond.instantiable "PromiseVats$Vat" 5 ∈ tb_ := tb_in 150 (by decide +kernel) rfl
theorem tw_85 : Cond.initialized "PromiseVats$VatObject" ∈ tb_ := tb_in 6 (by decide +kernel) rfl
theorem tw_86 : Cond.code ⟨"PromiseVats$VatObject", "<init>", "(III)V"⟩ prog_10_method_1_code 4 (Option.none : Option FieldType) ∈ tb_ := tb_in 88 (by decide +kernel) rfl
theorem tw_87 : Cond.methodLink "PromiseVats" 55 ⟨"PromiseVats$VatObject", "<init>", "(III)V"⟩ ∈ tb_ := tb_in 86 (by decide +kernel) rfl
theorem tw_88 : Cond.instanceMethod ⟨"PromiseVats$VatObject", "<init>", "(III)V"⟩ ∈ tb_ := tb_in 87 (by decide +kernel) rfl
theorem tw_89 : Cond.classLink "PromiseVats" 53 "PromiseVats$VatObject" ∈ tb_ := tb_in 84 (by decide +kernel) rfl
theorem tw_90 : Cond.instantiable "PromiseVats$VatObject" 10 ∈ tb_ := tb_in 85 (by decide +kernel) rfl
theorem tw_91 : Cond.initialized "PromiseVats" ∈ tb_ := tb_in 1 (by decide +kernel) rfl
theorem tw_92 : Cond.code ⟨"PromiseVats", "isProgram", "(I)Z"⟩ prog_1_method_20_code 1 (Option.some FieldType.boolean) ∈ tb_ := tb_in 253 (by decide +kernel) rfl
theorem tw_93 : Cond.methodLink "PromiseVats" 65 ⟨"PromiseVats", "isProgram", "(I)Z"⟩ ∈ tb_ := tb_in 251 (by decide +kernel) rfl
theorem tw_94 : Cond.static ⟨"PromiseVats", "isProgram", "(I)Z"⟩ ∈ tb_ := tb_in 252 (by decide +kernel) rfl
theorem tw_95 : Cond.code ⟨"PromiseVats", "isSlot", "(I)Z"⟩ prog_1_method_21_code 1 (Option.some FieldType.boolean) ∈ tb_ := tb_in 259 (by decide +kernel) rfl
theorem tw_96 : Cond.methodLink "PromiseVats" 86 ⟨"PromiseVats", "isSlot", "(I)Z"⟩ ∈ tb_ := tb_in 257 (by decide +kernel) rfl
theorem tw_97 : Cond.static ⟨"PromiseVats", "isSlot", "(I)Z"⟩ ∈ tb_ := tb_in 258 (by decide +kernel) rfl
theorem tw_98 : Cond.fieldLink "PromiseVats" 73 "PromiseVats$Program" "length" "I" ∈ tb_ := tb_in 75 (by decide +kernel) rfl
theorem tw_99 : Cond.fieldLink "PromiseVats" 80 "PromiseVats$Program" "xs" "[I" ∈ tb_ := tb_in 74 (by decide +kernel) rfl
theorem tw_100 : Cond.fieldLink "PromiseVats" 76 "PromiseVats$Program" "ops" "[I" ∈ tb_ := tb_in 72 (by decide +kernel) rfl
theorem tw_101 : Cond.code ⟨"PromiseVats", "isInstruction", "(II)Z"⟩ prog_1_method_22_code 2 (Option.some FieldType.boolean) ∈ tb_ := tb_in 256 (by decide +kernel) rfl
theorem tw_102 : Cond.methodLink "PromiseVats" 69 ⟨"PromiseVats", "isInstruction", "(II)Z"⟩ ∈ tb_ := tb_in 254 (by decide +kernel) rfl
theorem tw_103 : Cond.static ⟨"PromiseVats", "isInstruction", "(II)Z"⟩ ∈ tb_ := tb_in 255 (by decide +kernel) rfl
theorem tw_104 : Cond.sameField "PromiseVats$VatObject" "PromiseVats$Entity" "imports" "[I" ∈ tb_ := tb_in 123 (by decide +kernel) rfl
theorem tw_105 : Cond.fieldLink "PromiseVats" 99 "PromiseVats$VatObject" "imports" "[I" ∈ tb_ := tb_in 122 (by decide +kernel) rfl
theorem tw_106 : Cond.sameField "PromiseVats$VatObject" "PromiseVats$Entity" "exports" "[I" ∈ tb_ := tb_in 117 (by decide +kernel) rfl
theorem tw_107 : Cond.fieldLink "PromiseVats" 96 "PromiseVats$VatObject" "exports" "[I" ∈ tb_ := tb_in 116 (by decide +kernel) rfl
theorem tw_108 : Cond.fieldLink "PromiseVats" 93 "PromiseVats$VatObject" "slots" "[LPromiseVats$Entity;" ∈ tb_ := tb_in 98 (by decide +kernel) rfl
theorem tw_109 : Cond.fieldLink "PromiseVats" 89 "PromiseVats$Vat" "root" "LPromiseVats$VatObject;" ∈ tb_ := tb_in 196 (by decide +kernel) rfl
theorem tw_110 : Cond.code ⟨"PromiseVats", "isVat", "(I)Z"⟩ prog_1_method_19_code 2 (Option.some FieldType.boolean) ∈ tb_ := tb_in 271 (by decide +kernel) rfl
theorem tw_111 : Cond.methodLink "PromiseVats" 83 ⟨"PromiseVats", "isVat", "(I)Z"⟩ ∈ tb_ := tb_in 268 (by decide +kernel) rfl
theorem tw_112 : Cond.instanceMethod ⟨"PromiseVats", "isVat", "(I)Z"⟩ ∈ tb_ := tb_in 270 (by decide +kernel) rfl
theorem tw_113 : Cond.selects "PromiseVats" ⟨"PromiseVats", "isVat", "(I)Z"⟩ ⟨"PromiseVats", "isVat", "(I)Z"⟩ ∈ tb_ := tb_se 0 (by decide +kernel) rfl
theorem tw_114 : Cond.fieldLink "java/util/ArrayList" 48 "java/util/ArrayList" "size" "I" ∈ tb_ := tb_in 170 (by decide +kernel) rfl
theorem tw_115 : Cond.fieldLink "PromiseVats$Call" 20 "PromiseVats$Call" "answe\x72" "LPromiseVats$Promise;" ∈ tb_ := tb_in 293 (by decide +kernel) rfl
theorem tw_116 : Cond.fieldLink "PromiseVats$Call" 17 "PromiseVats$Call" "argument" "LPromiseVats$Entity;" ∈ tb_ := tb_in 290 (by decide +kernel) rfl
theorem tw_117 : Cond.fieldLink "PromiseVats$Call" 13 "PromiseVats$Call" "value" "I" ∈ tb_ := tb_in 288 (by decide +kernel) rfl
theorem tw_118 : Cond.fieldLink "PromiseVats$Call" 7 "PromiseVats$Call" "target" "LPromiseVats$Entity;" ∈ tb_ := tb_in 286 (by decide +kernel) rfl
theorem tw_119 : Cond.methodLink "PromiseVats$Call" 1 objectInit ∈ tb_ := tb_in 285 (by decide +kernel) rfl
theorem tw_120 : Cond.fieldLink "PromiseVats" 288 "PromiseVats" "lostCount" "I" ∈ tb_ := tb_in 223 (by decide +kernel) rfl
theorem tw_121 : Cond.fieldLink "PromiseVats" 151 "PromiseVats$Call" "answe\x72" "LPromiseVats$Promise;" ∈ tb_ := tb_in 294 (by decide +kernel) rfl
theorem tw_122 : Cond.constant "jdk/internal/util/ArraysSupport" 200 (2147483639 : Int32) ∈ tb_ := tb_in 336 (by decide +kernel) rfl
theorem tw_123 : Cond.methodLink "jdk/internal/util/ArraysSupport" 194 ⟨"java/lang/Math", "max", "(II)I"⟩ ∈ tb_ := tb_in 335 (by decide +kernel) rfl
theorem tw_124 : Cond.initialized "jdk/internal/util/ArraysSupport" ∈ tb_ := tb_in 14 (by decide +kernel) rfl
theorem tw_125 : Cond.code ⟨"jdk/internal/util/ArraysSupport", "hugeLength", "(II)I"⟩ prog_27_method_28_code 3 (Option.some FieldType.int) ∈ tb_ := tb_in 339 (by decide +kernel) rfl
theorem tw_126 : Cond.methodLink "jdk/internal/util/ArraysSupport" 201 ⟨"jdk/internal/util/ArraysSupport", "hugeLength", "(II)I"⟩ ∈ tb_ := tb_in 337 (by decide +kernel) rfl
theorem tw_127 : Cond.static ⟨"jdk/internal/util/ArraysSupport", "hugeLength", "(II)I"⟩ ∈ tb_ := tb_in 338 (by decide +kernel) rfl
theorem tw_128 : Cond.classLink "java/util/Arrays" 110 "[Ljava/lang/Object;" ∈ tb_ := tb_in 361 (by decide +kernel) rfl
theorem tw_129 : Cond.classLink "java/util/Arrays" 2 "java/lang/Object" ∈ tb_ := tb_in 363 (by decide +kernel) rfl
theorem tw_130 : Cond.methodLink "java/util/Arrays" 150 ⟨"java/lang/System", "arraycopy", "(Ljava/lang/Object;ILjava/lang/Object;II)V"⟩ ∈ tb_ := tb_in 365 (by decide +kernel) rfl
theorem tw_131 : Cond.native ⟨"java/lang/System", "arraycopy", "(Ljava/lang/Object;ILjava/lang/Object;II)V"⟩ ∈ tb_ := tb_in 367 (by decide +kernel) rfl
theorem tw_132 : Cond.static ⟨"java/lang/System", "arraycopy", "(Ljava/lang/Object;ILjava/lang/Object;II)V"⟩ ∈ tb_ := tb_in 366 (by decide +kernel) rfl
theorem tw_133 : Cond.initialized "java/lang/System" ∈ tb_ := tb_in 16 (by decide +kernel) rfl
theorem tw_134 : Cond.methodLink "java/util/Arrays" 304 ⟨"java/lang/Math", "min", "(II)I"⟩ ∈ tb_ := tb_in 364 (by decide +kernel) rfl
theorem tw_135 : Cond.initialized "java/util/Arrays" ∈ tb_ := tb_in 15 (by decide +kernel) rfl
theorem tw_136 : Cond.code ⟨"java/util/Arrays", "copyOf", "([Ljava/lang/Object;ILjava/lang/Class;)[Ljava/lang/Object;"⟩ prog_21_method_120_code 4 (Option.some (FieldType.array (FieldType.object "java/lang/Object"))) ∈ tb_ := tb_in 360 (by decide +kernel) rfl
theorem tw_137 : Cond.methodLink "java/util/Arrays" 300 ⟨"java/util/Arrays", "copyOf", "([Ljava/lang/Object;ILjava/lang/Class;)[Ljava/lang/Object;"⟩ ∈ tb_ := tb_in 358 (by decide +kernel) rfl
theorem tw_138 : Cond.static ⟨"java/util/Arrays", "copyOf", "([Ljava/lang/Object;ILjava/lang/Class;)[Ljava/lang/Object;"⟩ ∈ tb_ := tb_in 359 (by decide +kernel) rfl
theorem tw_139 : Cond.methodLink "java/util/Arrays" 86 ⟨"java/lang/Object", "getClass", "()Ljava/lang/Class;"⟩ ∈ tb_ := tb_in 343 (by decide +kernel) rfl
theorem tw_140 : Cond.selects "[Ljava/lang/Object;" ⟨"java/lang/Object", "getClass", "()Ljava/lang/Class;"⟩ ⟨"java/lang/Object", "getClass", "()Ljava/lang/Class;"⟩ ∈ tb_ := tb_in 934 (by decide +kernel) rfl
theorem tw_141 : Cond.instanceMethod ⟨"java/lang/Object", "getClass", "()Ljava/lang/Class;"⟩ ∈ tb_ := tb_in 344 (by decide +kernel) rfl
theorem tw_142 : Cond.native ⟨"java/lang/Object", "getClass", "()Ljava/lang/Class;"⟩ ∈ tb_ := tb_in 357 (by decide +kernel) rfl
theorem tw_143 : Cond.classLink "java/util/ArrayList" 7 "java/lang/Object" ∈ tb_ := tb_in 369 (by decide +kernel) rfl
theorem tw_144 : Cond.methodLink "java/util/ArrayList" 79 ⟨"java/lang/Math", "max", "(II)I"⟩ ∈ tb_ := tb_in 368 (by decide +kernel) rfl
theorem tw_145 : Cond.code ⟨"java/util/Arrays", "copyOf", "([Ljava/lang/Object;I)[Ljava/lang/Object;"⟩ prog_21_method_119_code 2 (Option.some (FieldType.array (FieldType.object "java/lang/Object"))) ∈ tb_ := tb_in 342 (by decide +kernel) rfl
theorem tw_146 : Cond.methodLink "java/util/ArrayList" 66 ⟨"java/util/Arrays", "copyOf", "([Ljava/lang/Object;I)[Ljava/lang/Object;"⟩ ∈ tb_ := tb_in 340 (by decide +kernel) rfl
theorem tw_147 : Cond.static ⟨"java/util/Arrays", "copyOf", "([Ljava/lang/Object;I)[Ljava/lang/Object;"⟩ ∈ tb_ := tb_in 341 (by decide +kernel) rfl
theorem tw_148 : Cond.code ⟨"jdk/internal/util/ArraysSupport", "newLength", "(III)I"⟩ prog_27_method_27_code 4 (Option.some FieldType.int) ∈ tb_ := tb_in 334 (by decide +kernel) rfl
theorem tw_149 : Cond.methodLink "java/util/ArrayList" 73 ⟨"jdk/internal/util/ArraysSupport", "newLength", "(III)I"⟩ ∈ tb_ := tb_in 332 (by decide +kernel) rfl
theorem tw_150 : Cond.static ⟨"jdk/internal/util/ArraysSupport", "newLength", "(III)I"⟩ ∈ tb_ := tb_in 333 (by decide +kernel) rfl
theorem tw_151 : Cond.code ⟨"java/util/ArrayList", "grow", "(I)[Ljava/lang/Object;"⟩ prog_20_method_6_code 4 (Option.some (FieldType.array (FieldType.object "java/lang/Object"))) ∈ tb_ := tb_in 331 (by decide +kernel) rfl
theorem tw_152 : Cond.methodLink "java/util/ArrayList" 69 ⟨"java/util/ArrayList", "grow", "(I)[Ljava/lang/Object;"⟩ ∈ tb_ := tb_in 328 (by decide +kernel) rfl
theorem tw_153 : Cond.instanceMethod ⟨"java/util/ArrayList", "grow", "(I)[Ljava/lang/Object;"⟩ ∈ tb_ := tb_in 330 (by decide +kernel) rfl
theorem tw_154 : Cond.selects "java/util/ArrayList" ⟨"java/util/ArrayList", "grow", "(I)[Ljava/lang/Object;"⟩ ⟨"java/util/ArrayList", "grow", "(I)[Ljava/lang/Object;"⟩ ∈ tb_ := tb_se 6 (by decide +kernel) rfl
theorem tw_155 : Cond.code ⟨"java/util/ArrayList", "grow", "()[Ljava/lang/Object;"⟩ prog_20_method_7_code 1 (Option.some (FieldType.array (FieldType.object "java/lang/Object"))) ∈ tb_ := tb_in 327 (by decide +kernel) rfl
theorem tw_156 : Cond.methodLink "java/util/ArrayList" 129 ⟨"java/util/ArrayList", "grow", "()[Ljava/lang/Object;"⟩ ∈ tb_ := tb_in 324 (by decide +kernel) rfl
theorem tw_157 : Cond.instanceMethod ⟨"java/util/ArrayList", "grow", "()[Ljava/lang/Object;"⟩ ∈ tb_ := tb_in 326 (by decide +kernel) rfl
theorem tw_158 : Cond.selects "java/util/ArrayList" ⟨"java/util/ArrayList", "grow", "()[Ljava/lang/Object;"⟩ ⟨"java/util/ArrayList", "grow", "()[Ljava/lang/Object;"⟩ ∈ tb_ := tb_se 5 (by decide +kernel) rfl
theorem tw_159 : Cond.code ⟨"java/util/ArrayList", "add", "(Ljava/lang/Object;[Ljava/lang/Object;I)V"⟩ prog_20_method_24_code 4 (Option.none : Option FieldType) ∈ tb_ := tb_in 323 (by decide +kernel) rfl
theorem tw_160 : Cond.methodLink "java/util/ArrayList" 131 ⟨"java/util/ArrayList", "add", "(Ljava/lang/Object;[Ljava/lang/Object;I)V"⟩ ∈ tb_ := tb_in 320 (by decide +kernel) rfl
theorem tw_161 : Cond.instanceMethod ⟨"java/util/ArrayList", "add", "(Ljava/lang/Object;[Ljava/lang/Object;I)V"⟩ ∈ tb_ := tb_in 322 (by decide +kernel) rfl
theorem tw_162 : Cond.selects "java/util/ArrayList" ⟨"java/util/ArrayList", "add", "(Ljava/lang/Object;[Ljava/lang/Object;I)V"⟩ ⟨"java/util/ArrayList", "add", "(Ljava/lang/Object;[Ljava/lang/Object;I)V"⟩ ∈ tb_ := tb_se 4 (by decide +kernel) rfl
theorem tw_163 : Cond.sameField "java/util/ArrayList" "java/util/AbstractList" "modCount" "I" ∈ tb_ := tb_in 173 (by decide +kernel) rfl
theorem tw_164 : Cond.fieldLink "java/util/ArrayList" 63 "java/util/ArrayList" "modCount" "I" ∈ tb_ := tb_in 172 (by decide +kernel) rfl
theorem tw_165 : Cond.code ⟨"java/util/ArrayList", "add", "(Ljava/lang/Object;)Z"⟩ prog_20_method_25_code 2 (Option.some FieldType.boolean) ∈ tb_ := tb_in 319 (by decide +kernel) rfl
theorem tw_166 : Cond.methodLink "PromiseVats" 281 ⟨"java/util/ArrayList", "add", "(Ljava/lang/Object;)Z"⟩ ∈ tb_ := tb_in 316 (by decide +kernel) rfl
theorem tw_167 : Cond.instanceMethod ⟨"java/util/ArrayList", "add", "(Ljava/lang/Object;)Z"⟩ ∈ tb_ := tb_in 317 (by decide +kernel) rfl
theorem tw_168 : Cond.selects "java/util/ArrayList" ⟨"java/util/ArrayList", "add", "(Ljava/lang/Object;)Z"⟩ ⟨"java/util/ArrayList", "add", "(Ljava/lang/Object;)Z"⟩ ∈ tb_ := tb_in 318 (by decide +kernel) rfl
theorem tw_169 : Cond.fieldLink "PromiseVats" 285 "PromiseVats$Promise" "waiting" "Ljava/util/ArrayList;" ∈ tb_ := tb_in 458 (by decide +kernel) rfl
theorem tw_170 : Cond.code ⟨"PromiseVats", "lose", "(LPromiseVats$Call;)V"⟩ prog_1_method_31_code 2 (Option.none : Option FieldType) ∈ tb_ := tb_in 315 (by decide +kernel) rfl
theorem tw_171 : Cond.methodLink "PromiseVats" 277 ⟨"PromiseVats", "lose", "(LPromiseVats$Call;)V"⟩ ∈ tb_ := tb_in 312 (by decide +kernel) rfl
theorem tw_172 : Cond.instanceMethod ⟨"PromiseVats", "lose", "(LPromiseVats$Call;)V"⟩ ∈ tb_ := tb_in 314 (by decide +kernel) rfl
theorem tw_173 : Cond.selects "PromiseVats" ⟨"PromiseVats", "lose", "(LPromiseVats$Call;)V"⟩ ⟨"PromiseVats", "lose", "(LPromiseVats$Call;)V"⟩ ∈ tb_ := tb_se 3 (by decide +kernel) rfl
theorem tw_174 : Cond.code ⟨"java/util/ArrayList", "size", "()I"⟩ prog_20_method_8_code 1 (Option.some FieldType.int) ∈ tb_ := tb_in 279 (by decide +kernel) rfl
theorem tw_175 : Cond.methodLink "PromiseVats" 106 ⟨"java/util/ArrayList", "size", "()I"⟩ ∈ tb_ := tb_in 276 (by decide +kernel) rfl
theorem tw_176 : Cond.instanceMethod ⟨"java/util/ArrayList", "size", "()I"⟩ ∈ tb_ := tb_in 277 (by decide +kernel) rfl
theorem tw_177 : Cond.selects "java/util/ArrayList" ⟨"java/util/ArrayList", "size", "()I"⟩ ⟨"java/util/ArrayList", "size", "()I"⟩ ∈ tb_ := tb_in 278 (by decide +kernel) rfl
theorem tw_178 : Cond.fieldLink "PromiseVats$Message" 20 "PromiseVats$Message" "amount" "I" ∈ tb_ := tb_in 390 (by decide +kernel) rfl
theorem tw_179 : Cond.fieldLink "PromiseVats$Message" 17 "PromiseVats$Message" "argument" "LPromiseVats$Entity;" ∈ tb_ := tb_in 388 (by decide +kernel) rfl
theorem tw_180 : Cond.fieldLink "PromiseVats$Message" 13 "PromiseVats$Message" "subject" "LPromiseVats$Entity;" ∈ tb_ := tb_in 386 (by decide +kernel) rfl
theorem tw_181 : Cond.fieldLink "PromiseVats$Message" 7 "PromiseVats$Message" "kind" "I" ∈ tb_ := tb_in 384 (by decide +kernel) rfl
theorem tw_182 : Cond.methodLink "PromiseVats$Message" 1 objectInit ∈ tb_ := tb_in 383 (by decide +kernel) rfl
theorem tw_183 : Cond.fieldLink "PromiseVats" 172 "PromiseVats$Channel" "messages" "Ljava/util/ArrayList;" ∈ tb_ := tb_in 191 (by decide +kernel) rfl
theorem tw_184 : Cond.fieldLink "PromiseVats" 168 "PromiseVats$Vat" "channels" "[LPromiseVats$Channel;" ∈ tb_ := tb_in 200 (by decide +kernel) rfl
theorem tw_185 : Cond.fieldLink "PromiseVats" 218 "PromiseVats$Entity" "exports" "[I" ∈ tb_ := tb_in 118 (by decide +kernel) rfl
theorem tw_186 : Cond.code ⟨"PromiseVats", "post", "(IILPromiseVats$Message;)V"⟩ prog_1_method_38_code 4 (Option.none : Option FieldType) ∈ tb_ := tb_in 407 (by decide +kernel) rfl
theorem tw_187 : Cond.methodLink "PromiseVats" 298 ⟨"PromiseVats", "post", "(IILPromiseVats$Message;)V"⟩ ∈ tb_ := tb_in 404 (by decide +kernel) rfl
theorem tw_188 : Cond.instanceMethod ⟨"PromiseVats", "post", "(IILPromiseVats$Message;)V"⟩ ∈ tb_ := tb_in 406 (by decide +kernel) rfl
theorem tw_189 : Cond.selects "PromiseVats" ⟨"PromiseVats", "post", "(IILPromiseVats$Message;)V"⟩ ⟨"PromiseVats", "post", "(IILPromiseVats$Message;)V"⟩ ∈ tb_ := tb_se 9 (by decide +kernel) rfl
theorem tw_190 : Cond.initialized "PromiseVats$Message" ∈ tb_ := tb_in 17 (by decide +kernel) rfl
theorem tw_191 : Cond.code ⟨"PromiseVats$Message", "<init>", "(ILPromiseVats$Entity;LPromiseVats$Entity;I)V"⟩ prog_5_method_1_code 5 (Option.none : Option FieldType) ∈ tb_ := tb_in 382 (by decide +kernel) rfl
theorem tw_192 : Cond.methodLink "PromiseVats" 295 ⟨"PromiseVats$Message", "<init>", "(ILPromiseVats$Entity;LPromiseVats$Entity;I)V"⟩ ∈ tb_ := tb_in 380 (by decide +kernel) rfl
theorem tw_193 : Cond.instanceMethod ⟨"PromiseVats$Message", "<init>", "(ILPromiseVats$Entity;LPromiseVats$Entity;I)V"⟩ ∈ tb_ := tb_in 381 (by decide +kernel) rfl
theorem tw_194 : Cond.classLink "PromiseVats" 177 "PromiseVats$Message" ∈ tb_ := tb_in 378 (by decide +kernel) rfl
theorem tw_195 : Cond.instantiable "PromiseVats$Message" 5 ∈ tb_ := tb_in 379 (by decide +kernel) rfl
theorem tw_196 : Cond.fieldLink "PromiseVats" 219 "PromiseVats$Entity" "home" "I" ∈ tb_ := tb_in 106 (by decide +kernel) rfl
theorem tw_197 : Cond.fieldLink "PromiseVats" 314 "PromiseVats$Message" "call" "LPromiseVats$Call;" ∈ tb_ := tb_in 392 (by decide +kernel) rfl
theorem tw_198 : Cond.fieldLink "PromiseVats" 313 "PromiseVats$Call" "argument" "LPromiseVats$Entity;" ∈ tb_ := tb_in 292 (by decide +kernel) rfl
theorem tw_199 : Cond.fieldLink "PromiseVats" 129 "PromiseVats$Call" "target" "LPromiseVats$Entity;" ∈ tb_ := tb_in 287 (by decide +kernel) rfl
theorem tw_200 : Cond.code ⟨"PromiseVats", "packArgument", "(LPromiseVats$Entity;II)V"⟩ prog_1_method_36_code 4 (Option.none : Option FieldType) ∈ tb_ := tb_in 377 (by decide +kernel) rfl
theorem tw_201 : Cond.methodLink "PromiseVats" 292 ⟨"PromiseVats", "packArgument", "(LPromiseVats$Entity;II)V"⟩ ∈ tb_ := tb_in 374 (by decide +kernel) rfl
theorem tw_202 : Cond.instanceMethod ⟨"PromiseVats", "packArgument", "(LPromiseVats$Entity;II)V"⟩ ∈ tb_ := tb_in 376 (by decide +kernel) rfl
theorem tw_203 : Cond.selects "PromiseVats" ⟨"PromiseVats", "packArgument", "(LPromiseVats$Entity;II)V"⟩ ⟨"PromiseVats", "packArgument", "(LPromiseVats$Entity;II)V"⟩ ∈ tb_ := tb_se 8 (by decide +kernel) rfl
theorem tw_204 : Cond.fieldLink "PromiseVats" 102 "PromiseVats$Vat" "calls" "Ljava/util/ArrayList;" ∈ tb_ := tb_in 198 (by decide +kernel) rfl
theorem tw_205 : Cond.code ⟨"PromiseVats", "postCall", "(LPromiseVats$Call;I)V"⟩ prog_1_method_35_code 5 (Option.none : Option FieldType) ∈ tb_ := tb_in 373 (by decide +kernel) rfl
theorem tw_206 : Cond.methodLink "PromiseVats" 268 ⟨"PromiseVats", "postCall", "(LPromiseVats$Call;I)V"⟩ ∈ tb_ := tb_in 370 (by decide +kernel) rfl
theorem tw_207 : Cond.instanceMethod ⟨"PromiseVats", "postCall", "(LPromiseVats$Call;I)V"⟩ ∈ tb_ := tb_in 372 (by decide +kernel) rfl
theorem tw_208 : Cond.selects "PromiseVats" ⟨"PromiseVats", "postCall", "(LPromiseVats$Call;I)V"⟩ ⟨"PromiseVats", "postCall", "(LPromiseVats$Call;I)V"⟩ ∈ tb_ := tb_se 7 (by decide +kernel) rfl
theorem tw_209 : Cond.fieldLink "PromiseVats" 233 "PromiseVats$Promise" "outcome" "LPromiseVats$Entity;" ∈ tb_ := tb_in 456 (by decide +kernel) rfl
theorem tw_210 : Cond.code ⟨"PromiseVats", "waitAt", "(LPromiseVats$Promise;LPromiseVats$Call;)V"⟩ prog_1_method_30_code 3 (Option.none : Option FieldType) ∈ tb_ := tb_in 311 (by decide +kernel) rfl
theorem tw_211 : Cond.methodLink "PromiseVats" 273 ⟨"PromiseVats", "waitAt", "(LPromiseVats$Promise;LPromiseVats$Call;)V"⟩ ∈ tb_ := tb_in 308 (by decide +kernel) rfl
theorem tw_212 : Cond.instanceMethod ⟨"PromiseVats", "waitAt", "(LPromiseVats$Promise;LPromiseVats$Call;)V"⟩ ∈ tb_ := tb_in 310 (by decide +kernel) rfl
theorem tw_213 : Cond.selects "PromiseVats" ⟨"PromiseVats", "waitAt", "(LPromiseVats$Promise;LPromiseVats$Call;)V"⟩ ⟨"PromiseVats", "waitAt", "(LPromiseVats$Promise;LPromiseVats$Call;)V"⟩ ∈ tb_ := tb_se 2 (by decide +kernel) rfl
theorem tw_214 : Cond.fieldLink "PromiseVats" 229 "PromiseVats$Promise" "open" "Z" ∈ tb_ := tb_in 455 (by decide +kernel) rfl
theorem tw_215 : Cond.code ⟨"PromiseVats", "arrive", "(LPromiseVats$Call;I)V"⟩ prog_1_method_29_code 6 (Option.none : Option FieldType) ∈ tb_ := tb_in 307 (by decide +kernel) rfl
theorem tw_216 : Cond.methodLink "PromiseVats" 117 ⟨"PromiseVats", "arrive", "(LPromiseVats$Call;I)V"⟩ ∈ tb_ := tb_in 304 (by decide +kernel) rfl
theorem tw_217 : Cond.instanceMethod ⟨"PromiseVats", "arrive", "(LPromiseVats$Call;I)V"⟩ ∈ tb_ := tb_in 306 (by decide +kernel) rfl
theorem tw_218 : Cond.selects "PromiseVats" ⟨"PromiseVats", "arrive", "(LPromiseVats$Call;I)V"⟩ ⟨"PromiseVats", "arrive", "(LPromiseVats$Call;I)V"⟩ ∈ tb_ := tb_se 1 (by decide +kernel) rfl
theorem tw_219 : Cond.initialized "PromiseVats$Call" ∈ tb_ := tb_in 13 (by decide +kernel) rfl
theorem tw_220 : Cond.code ⟨"PromiseVats$Call", "<init>", "(LPromiseVats$Entity;ILPromiseVats$Entity;LPromiseVats$Promise;)V"⟩ prog_2_method_1_code 5 (Option.none : Option FieldType) ∈ tb_ := tb_in 284 (by decide +kernel) rfl
theorem tw_221 : Cond.methodLink "PromiseVats" 114 ⟨"PromiseVats$Call", "<init>", "(LPromiseVats$Entity;ILPromiseVats$Entity;LPromiseVats$Promise;)V"⟩ ∈ tb_ := tb_in 282 (by decide +kernel) rfl
theorem tw_222 : Cond.instanceMethod ⟨"PromiseVats$Call", "<init>", "(LPromiseVats$Entity;ILPromiseVats$Entity;LPromiseVats$Promise;)V"⟩ ∈ tb_ := tb_in 283 (by decide +kernel) rfl
theorem tw_223 : Cond.classLink "PromiseVats" 112 "PromiseVats$Call" ∈ tb_ := tb_in 280 (by decide +kernel) rfl
theorem tw_224 : Cond.instantiable "PromiseVats$Call" 4 ∈ tb_ := tb_in 281 (by decide +kernel) rfl
theorem tw_225 : Cond.initialized "jdk/internal/util/Preconditions" ∈ tb_ := tb_in 19 (by decide +kernel) rfl
theorem tw_226 : Cond.code ⟨"jdk/internal/util/Preconditions", "checkIndex", "(IILjava/util/function/BiFunction;)I"⟩ prog_28_method_11_code 3 (Option.some FieldType.int) ∈ tb_ := tb_in 425 (by decide +kernel) rfl
theorem tw_227 : Cond.methodLink "java/util/Objects" 105 ⟨"jdk/internal/util/Preconditions", "checkIndex", "(IILjava/util/function/BiFunction;)I"⟩ ∈ tb_ := tb_in 423 (by decide +kernel) rfl
theorem tw_228 : Cond.static ⟨"jdk/internal/util/Preconditions", "checkIndex", "(IILjava/util/function/BiFunction;)I"⟩ ∈ tb_ := tb_in 424 (by decide +kernel) rfl
theorem tw_229 : Cond.methodLink "java/util/ArrayList" 112 ⟨"java/lang/System", "arraycopy", "(Ljava/lang/Object;ILjava/lang/Object;II)V"⟩ ∈ tb_ := tb_in 430 (by decide +kernel) rfl
theorem tw_230 : Cond.code ⟨"java/util/ArrayList", "fastRemove", "([Ljava/lang/Object;I)V"⟩ prog_20_method_39_code 4 (Option.none : Option FieldType) ∈ tb_ := tb_in 429 (by decide +kernel) rfl
theorem tw_231 : Cond.methodLink "java/util/ArrayList" 144 ⟨"java/util/ArrayList", "fastRemove", "([Ljava/lang/Object;I)V"⟩ ∈ tb_ := tb_in 426 (by decide +kernel) rfl
theorem tw_232 : Cond.instanceMethod ⟨"java/util/ArrayList", "fastRemove", "([Ljava/lang/Object;I)V"⟩ ∈ tb_ := tb_in 428 (by decide +kernel) rfl
theorem tw_233 : Cond.selects "java/util/ArrayList" ⟨"java/util/ArrayList", "fastRemove", "([Ljava/lang/Object;I)V"⟩ ⟨"java/util/ArrayList", "fastRemove", "([Ljava/lang/Object;I)V"⟩ ∈ tb_ := tb_se 10 (by decide +kernel) rfl
theorem tw_234 : Cond.initialized "java/util/Objects" ∈ tb_ := tb_in 18 (by decide +kernel) rfl
theorem tw_235 : Cond.code ⟨"java/util/Objects", "checkIndex", "(II)I"⟩ prog_24_method_17_code 2 (Option.some FieldType.int) ∈ tb_ := tb_in 422 (by decide +kernel) rfl
theorem tw_236 : Cond.methodLink "java/util/ArrayList" 118 ⟨"java/util/Objects", "checkIndex", "(II)I"⟩ ∈ tb_ := tb_in 420 (by decide +kernel) rfl
theorem tw_237 : Cond.static ⟨"java/util/Objects", "checkIndex", "(II)I"⟩ ∈ tb_ := tb_in 421 (by decide +kernel) rfl
theorem tw_238 : Cond.fieldLink "PromiseVats$Turn" 27 "PromiseVats$Turn" "skips" "I" ∈ tb_ := tb_in 53 (by decide +kernel) rfl
theorem tw_239 : Cond.fieldLink "PromiseVats$Turn" 24 "PromiseVats$Turn" "reference" "LPromiseVats$Entity;" ∈ tb_ := tb_in 51 (by decide +kernel) rfl
theorem tw_240 : Cond.fieldLink "PromiseVats$Turn" 20 "PromiseVats$Call" "argument" "LPromiseVats$Entity;" ∈ tb_ := tb_in 291 (by decide +kernel) rfl
theorem tw_241 : Cond.fieldLink "PromiseVats$Turn" 19 "PromiseVats$Turn" "value" "I" ∈ tb_ := tb_in 49 (by decide +kernel) rfl
theorem tw_242 : Cond.fieldLink "PromiseVats$Turn" 13 "PromiseVats$Call" "value" "I" ∈ tb_ := tb_in 289 (by decide +kernel) rfl
theorem tw_243 : Cond.fieldLink "PromiseVats$Turn" 7 "PromiseVats$Turn" "self" "LPromiseVats$VatObject;" ∈ tb_ := tb_in 47 (by decide +kernel) rfl
theorem tw_244 : Cond.sameField "PromiseVats$VatObject" "PromiseVats$Entity" "id" "I" ∈ tb_ := tb_in 101 (by decide +kernel) rfl
theorem tw_245 : Cond.fieldLink "PromiseVats" 162 "PromiseVats$VatObject" "id" "I" ∈ tb_ := tb_in 100 (by decide +kernel) rfl
theorem tw_246 : Cond.fieldLink "PromiseVats" 155 "PromiseVats$Turn" "reference" "LPromiseVats$Entity;" ∈ tb_ := tb_in 52 (by decide +kernel) rfl
theorem tw_247 : Cond.fieldLink "PromiseVats" 226 "PromiseVats$VatObject" "amount" "I" ∈ tb_ := tb_in 96 (by decide +kernel) rfl
theorem tw_248 : Cond.fieldLink "PromiseVats" 246 "PromiseVats$Turn" "value" "I" ∈ tb_ := tb_in 50 (by decide +kernel) rfl
theorem tw_249 : Cond.sameField "PromiseVats$VatObject" "PromiseVats$Entity" "home" "I" ∈ tb_ := tb_in 108 (by decide +kernel) rfl
theorem tw_250 : Cond.fieldLink "PromiseVats" 257 "PromiseVats$VatObject" "home" "I" ∈ tb_ := tb_in 107 (by decide +kernel) rfl
theorem tw_251 : Cond.fieldLink "PromiseVats" 243 "PromiseVats$Turn" "self" "LPromiseVats$VatObject;" ∈ tb_ := tb_in 48 (by decide +kernel) rfl
theorem tw_252 : Cond.fieldLink "PromiseVats$Promise" 18 "PromiseVats$Promise" "waiting" "Ljava/util/ArrayList;" ∈ tb_ := tb_in 457 (by decide +kernel) rfl
theorem tw_253 : Cond.methodLink "PromiseVats$Promise" 15 ⟨"java/util/ArrayList", "<init>", "()V"⟩ ∈ tb_ := tb_in 453 (by decide +kernel) rfl
theorem tw_254 : Cond.classLink "PromiseVats$Promise" 13 "java/util/ArrayList" ∈ tb_ := tb_in 452 (by decide +kernel) rfl
theorem tw_255 : Cond.fieldLink "PromiseVats$Promise" 7 "PromiseVats$Promise" "open" "Z" ∈ tb_ := tb_in 454 (by decide +kernel) rfl
theorem tw_256 : Cond.methodLink "PromiseVats$Promise" 1 ⟨"PromiseVats$Entity", "<init>", "(II)V"⟩ ∈ tb_ := tb_in 451 (by decide +kernel) rfl
theorem tw_257 : Cond.sameField "PromiseVats$Promise" "PromiseVats$Entity" "imports" "[I" ∈ tb_ := tb_in 126 (by decide +kernel) rfl
theorem tw_258 : Cond.fieldLink "PromiseVats" 272 "PromiseVats$Promise" "imports" "[I" ∈ tb_ := tb_in 125 (by decide +kernel) rfl
theorem tw_259 : Cond.sameField "PromiseVats$Promise" "PromiseVats$Entity" "exports" "[I" ∈ tb_ := tb_in 120 (by decide +kernel) rfl
theorem tw_260 : Cond.fieldLink "PromiseVats" 271 "PromiseVats$Promise" "exports" "[I" ∈ tb_ := tb_in 119 (by decide +kernel) rfl
theorem tw_261 : Cond.sameField "PromiseVats$Promise" "PromiseVats$Entity" "id" "I" ∈ tb_ := tb_in 104 (by decide +kernel) rfl
theorem tw_262 : Cond.fieldLink "PromiseVats" 267 "PromiseVats$Promise" "id" "I" ∈ tb_ := tb_in 103 (by decide +kernel) rfl
theorem tw_263 : Cond.initialized "PromiseVats$Promise" ∈ tb_ := tb_in 20 (by decide +kernel) rfl
theorem tw_264 : Cond.code ⟨"PromiseVats$Promise", "<init>", "(II)V"⟩ prog_7_method_1_code 3 (Option.none : Option FieldType) ∈ tb_ := tb_in 450 (by decide +kernel) rfl
theorem tw_265 : Cond.methodLink "PromiseVats" 264 ⟨"PromiseVats$Promise", "<init>", "(II)V"⟩ ∈ tb_ := tb_in 448 (by decide +kernel) rfl
theorem tw_266 : Cond.instanceMethod ⟨"PromiseVats$Promise", "<init>", "(II)V"⟩ ∈ tb_ := tb_in 449 (by decide +kernel) rfl
theorem tw_267 : Cond.fieldLink "PromiseVats" 261 "PromiseVats" "promisesMade" "I" ∈ tb_ := tb_in 220 (by decide +kernel) rfl
theorem tw_268 : Cond.instantiable "PromiseVats$Promise" 10 ∈ tb_ := tb_in 447 (by decide +kernel) rfl
theorem tw_269 : Cond.fieldLink "PromiseVats$Vat" 39 "PromiseVats$Vat" "outputs" "I" ∈ tb_ := tb_in 203 (by decide +kernel) rfl
theorem tw_270 : Cond.methodLink "PromiseVats$Vat" 33 ⟨"java/lang/System", "arraycopy", "(Ljava/lang/Object;ILjava/lang/Object;II)V"⟩ ∈ tb_ := tb_in 477 (by decide +kernel) rfl
theorem tw_271 : Cond.code ⟨"PromiseVats", "makeObject", "(LPromiseVats$Turn;I)LPromiseVats$VatObject;"⟩ prog_1_method_27_code 4 (Option.some (FieldType.object "PromiseVats$VatObject")) ∈ tb_ := tb_in 442 (by decide +kernel) rfl
theorem tw_272 : Cond.methodLink "PromiseVats" 249 ⟨"PromiseVats", "makeObject", "(LPromiseVats$Turn;I)LPromiseVats$VatObject;"⟩ ∈ tb_ := tb_in 439 (by decide +kernel) rfl
theorem tw_273 : Cond.instanceMethod ⟨"PromiseVats", "makeObject", "(LPromiseVats$Turn;I)LPromiseVats$VatObject;"⟩ ∈ tb_ := tb_in 441 (by decide +kernel) rfl
theorem tw_274 : Cond.selects "PromiseVats" ⟨"PromiseVats", "makeObject", "(LPromiseVats$Turn;I)LPromiseVats$VatObject;"⟩ ⟨"PromiseVats", "makeObject", "(LPromiseVats$Turn;I)LPromiseVats$VatObject;"⟩ ∈ tb_ := tb_se 12 (by decide +kernel) rfl
theorem tw_275 : Cond.code ⟨"PromiseVats", "callFrom", "(LPromiseVats$Turn;LPromiseVats$Entity;)LPromiseVats$Promise;"⟩ prog_1_method_28_code 6 (Option.some (FieldType.object "PromiseVats$Promise")) ∈ tb_ := tb_in 446 (by decide +kernel) rfl
theorem tw_276 : Cond.methodLink "PromiseVats" 253 ⟨"PromiseVats", "callFrom", "(LPromiseVats$Turn;LPromiseVats$Entity;)LPromiseVats$Promise;"⟩ ∈ tb_ := tb_in 443 (by decide +kernel) rfl
theorem tw_277 : Cond.instanceMethod ⟨"PromiseVats", "callFrom", "(LPromiseVats$Turn;LPromiseVats$Entity;)LPromiseVats$Promise;"⟩ ∈ tb_ := tb_in 445 (by decide +kernel) rfl
theorem tw_278 : Cond.selects "PromiseVats" ⟨"PromiseVats", "callFrom", "(LPromiseVats$Turn;LPromiseVats$Entity;)LPromiseVats$Promise;"⟩ ⟨"PromiseVats", "callFrom", "(LPromiseVats$Turn;LPromiseVats$Entity;)LPromiseVats$Promise;"⟩ ∈ tb_ := tb_se 13 (by decide +kernel) rfl
theorem tw_279 : Cond.code ⟨"PromiseVats$Vat", "putOut", "(I)V"⟩ prog_9_method_2_code 2 (Option.none : Option FieldType) ∈ tb_ := tb_in 476 (by decide +kernel) rfl
theorem tw_280 : Cond.methodLink "PromiseVats" 258 ⟨"PromiseVats$Vat", "putOut", "(I)V"⟩ ∈ tb_ := tb_in 473 (by decide +kernel) rfl
theorem tw_281 : Cond.instanceMethod ⟨"PromiseVats$Vat", "putOut", "(I)V"⟩ ∈ tb_ := tb_in 474 (by decide +kernel) rfl
theorem tw_282 : Cond.selects "PromiseVats$Vat" ⟨"PromiseVats$Vat", "putOut", "(I)V"⟩ ⟨"PromiseVats$Vat", "putOut", "(I)V"⟩ ∈ tb_ := tb_in 475 (by decide +kernel) rfl
theorem tw_283 : Cond.fieldLink "PromiseVats" 140 "PromiseVats$Turn" "skips" "I" ∈ tb_ := tb_in 54 (by decide +kernel) rfl
theorem tw_284 : Cond.sameField "PromiseVats$Promise" "PromiseVats$Entity" "home" "I" ∈ tb_ := tb_in 110 (by decide +kernel) rfl
theorem tw_285 : Cond.fieldLink "PromiseVats" 291 "PromiseVats$Promise" "home" "I" ∈ tb_ := tb_in 109 (by decide +kernel) rfl
theorem tw_286 : Cond.code ⟨"java/util/ArrayList", "elementData", "(I)Ljava/lang/Object;"⟩ prog_20_method_18_code 2 (Option.some (FieldType.object "java/lang/Object")) ∈ tb_ := tb_in 496 (by decide +kernel) rfl
theorem tw_287 : Cond.methodLink "java/util/ArrayList" 123 ⟨"java/util/ArrayList", "elementData", "(I)Ljava/lang/Object;"⟩ ∈ tb_ := tb_in 493 (by decide +kernel) rfl
theorem tw_288 : Cond.instanceMethod ⟨"java/util/ArrayList", "elementData", "(I)Ljava/lang/Object;"⟩ ∈ tb_ := tb_in 494 (by decide +kernel) rfl
theorem tw_289 : Cond.selects "java/util/ArrayList" ⟨"java/util/ArrayList", "elementData", "(I)Ljava/lang/Object;"⟩ ⟨"java/util/ArrayList", "elementData", "(I)Ljava/lang/Object;"⟩ ∈ tb_ := tb_in 495 (by decide +kernel) rfl
theorem tw_290 : Cond.code ⟨"PromiseVats", "leadsTo", "(LPromiseVats$Entity;LPromiseVats$Promise;)Z"⟩ prog_1_method_34_code 5 (Option.some FieldType.boolean) ∈ tb_ := tb_in 488 (by decide +kernel) rfl
theorem tw_291 : Cond.methodLink "PromiseVats" 303 ⟨"PromiseVats", "leadsTo", "(LPromiseVats$Entity;LPromiseVats$Promise;)Z"⟩ ∈ tb_ := tb_in 486 (by decide +kernel) rfl
theorem tw_292 : Cond.static ⟨"PromiseVats", "leadsTo", "(LPromiseVats$Entity;LPromiseVats$Promise;)Z"⟩ ∈ tb_ := tb_in 487 (by decide +kernel) rfl
theorem tw_293 : Cond.sameField "PromiseVats$Promise" "PromiseVats$Entity" "freed" "Z" ∈ tb_ := tb_in 113 (by decide +kernel) rfl
theorem tw_294 : Cond.fieldLink "PromiseVats" 302 "PromiseVats$Promise" "freed" "Z" ∈ tb_ := tb_in 112 (by decide +kernel) rfl
theorem tw_295 : Cond.code ⟨"java/util/ArrayList", "get", "(I)Ljava/lang/Object;"⟩ prog_20_method_20_code 2 (Option.some (FieldType.object "java/lang/Object")) ∈ tb_ := tb_in 492 (by decide +kernel) rfl
theorem tw_296 : Cond.methodLink "PromiseVats" 307 ⟨"java/util/ArrayList", "get", "(I)Ljava/lang/Object;"⟩ ∈ tb_ := tb_in 489 (by decide +kernel) rfl
theorem tw_297 : Cond.instanceMethod ⟨"java/util/ArrayList", "get", "(I)Ljava/lang/Object;"⟩ ∈ tb_ := tb_in 490 (by decide +kernel) rfl
theorem tw_298 : Cond.selects "java/util/ArrayList" ⟨"java/util/ArrayList", "get", "(I)Ljava/lang/Object;"⟩ ⟨"java/util/ArrayList", "get", "(I)Ljava/lang/Object;"⟩ ∈ tb_ := tb_in 491 (by decide +kernel) rfl
theorem tw_299 : Cond.code ⟨"java/util/ArrayList", "clea\x72", "()V"⟩ prog_20_method_40_code 4 (Option.none : Option FieldType) ∈ tb_ := tb_in 500 (by decide +kernel) rfl
theorem tw_300 : Cond.methodLink "PromiseVats" 310 ⟨"java/util/ArrayList", "clea\x72", "()V"⟩ ∈ tb_ := tb_in 497 (by decide +kernel) rfl
theorem tw_301 : Cond.instanceMethod ⟨"java/util/ArrayList", "clea\x72", "()V"⟩ ∈ tb_ := tb_in 498 (by decide +kernel) rfl
theorem tw_302 : Cond.selects "java/util/ArrayList" ⟨"java/util/ArrayList", "clea\x72", "()V"⟩ ⟨"java/util/ArrayList", "clea\x72", "()V"⟩ ∈ tb_ := tb_in 499 (by decide +kernel) rfl
theorem tw_303 : Cond.code ⟨"PromiseVats", "resolveIn", "(ILPromiseVats$Promise;LPromiseVats$Entity;)V"⟩ prog_1_method_33_code 5 (Option.none : Option FieldType) ∈ tb_ := tb_in 485 (by decide +kernel) rfl
theorem tw_304 : Cond.methodLink "PromiseVats" 158 ⟨"PromiseVats", "resolveIn", "(ILPromiseVats$Promise;LPromiseVats$Entity;)V"⟩ ∈ tb_ := tb_in 482 (by decide +kernel) rfl
theorem tw_305 : Cond.instanceMethod ⟨"PromiseVats", "resolveIn", "(ILPromiseVats$Promise;LPromiseVats$Entity;)V"⟩ ∈ tb_ := tb_in 484 (by decide +kernel) rfl
theorem tw_306 : Cond.selects "PromiseVats" ⟨"PromiseVats", "resolveIn", "(ILPromiseVats$Promise;LPromiseVats$Entity;)V"⟩ ⟨"PromiseVats", "resolveIn", "(ILPromiseVats$Promise;LPromiseVats$Entity;)V"⟩ ∈ tb_ := tb_se 15 (by decide +kernel) rfl
theorem tw_307 : Cond.fieldLink "PromiseVats" 137 "PromiseVats$VatObject" "program" "I" ∈ tb_ := tb_in 95 (by decide +kernel) rfl
theorem tw_308 : Cond.code ⟨"PromiseVats$Turn", "begin", "(LPromiseVats$VatObject;LPromiseVats$Call;)V"⟩ prog_8_method_2_code 3 (Option.none : Option FieldType) ∈ tb_ := tb_in 434 (by decide +kernel) rfl
theorem tw_309 : Cond.methodLink "PromiseVats" 133 ⟨"PromiseVats$Turn", "begin", "(LPromiseVats$VatObject;LPromiseVats$Call;)V"⟩ ∈ tb_ := tb_in 431 (by decide +kernel) rfl
theorem tw_310 : Cond.instanceMethod ⟨"PromiseVats$Turn", "begin", "(LPromiseVats$VatObject;LPromiseVats$Call;)V"⟩ ∈ tb_ := tb_in 432 (by decide +kernel) rfl
theorem tw_311 : Cond.selects "PromiseVats$Turn" ⟨"PromiseVats$Turn", "begin", "(LPromiseVats$VatObject;LPromiseVats$Call;)V"⟩ ⟨"PromiseVats$Turn", "begin", "(LPromiseVats$VatObject;LPromiseVats$Call;)V"⟩ ∈ tb_ := tb_in 433 (by decide +kernel) rfl
theorem tw_312 : Cond.code ⟨"java/util/ArrayList", "remove", "(I)Ljava/lang/Object;"⟩ prog_20_method_29_code 4 (Option.some (FieldType.object "java/lang/Object")) ∈ tb_ := tb_in 419 (by decide +kernel) rfl
theorem tw_313 : Cond.methodLink "PromiseVats" 125 ⟨"java/util/ArrayList", "remove", "(I)Ljava/lang/Object;"⟩ ∈ tb_ := tb_in 416 (by decide +kernel) rfl
theorem tw_314 : Cond.instanceMethod ⟨"java/util/ArrayList", "remove", "(I)Ljava/lang/Object;"⟩ ∈ tb_ := tb_in 417 (by decide +kernel) rfl
theorem tw_315 : Cond.selects "java/util/ArrayList" ⟨"java/util/ArrayList", "remove", "(I)Ljava/lang/Object;"⟩ ⟨"java/util/ArrayList", "remove", "(I)Ljava/lang/Object;"⟩ ∈ tb_ := tb_in 418 (by decide +kernel) rfl
theorem tw_316 : Cond.code ⟨"java/util/ArrayList", "isEmpty", "()Z"⟩ prog_20_method_9_code 1 (Option.some FieldType.boolean) ∈ tb_ := tb_in 415 (by decide +kernel) rfl
theorem tw_317 : Cond.methodLink "PromiseVats" 121 ⟨"java/util/ArrayList", "isEmpty", "()Z"⟩ ∈ tb_ := tb_in 412 (by decide +kernel) rfl
theorem tw_318 : Cond.instanceMethod ⟨"java/util/ArrayList", "isEmpty", "()Z"⟩ ∈ tb_ := tb_in 413 (by decide +kernel) rfl
theorem tw_319 : Cond.selects "java/util/ArrayList" ⟨"java/util/ArrayList", "isEmpty", "()Z"⟩ ⟨"java/util/ArrayList", "isEmpty", "()Z"⟩ ∈ tb_ := tb_in 414 (by decide +kernel) rfl
theorem tw_320 : Cond.code ⟨"PromiseVats", "settleLost", "(I)V"⟩ prog_1_method_32_code 3 (Option.none : Option FieldType) ∈ tb_ := tb_in 481 (by decide +kernel) rfl
theorem tw_321 : Cond.methodLink "PromiseVats" 147 ⟨"PromiseVats", "settleLost", "(I)V"⟩ ∈ tb_ := tb_in 478 (by decide +kernel) rfl
theorem tw_322 : Cond.instanceMethod ⟨"PromiseVats", "settleLost", "(I)V"⟩ ∈ tb_ := tb_in 480 (by decide +kernel) rfl
theorem tw_323 : Cond.selects "PromiseVats" ⟨"PromiseVats", "settleLost", "(I)V"⟩ ⟨"PromiseVats", "settleLost", "(I)V"⟩ ∈ tb_ := tb_se 14 (by decide +kernel) rfl
theorem tw_324 : Cond.code ⟨"PromiseVats", "perform", "(LPromiseVats$Turn;II)V"⟩ prog_1_method_26_code 5 (Option.none : Option FieldType) ∈ tb_ := tb_in 438 (by decide +kernel) rfl
theorem tw_325 : Cond.methodLink "PromiseVats" 143 ⟨"PromiseVats", "perform", "(LPromiseVats$Turn;II)V"⟩ ∈ tb_ := tb_in 435 (by decide +kernel) rfl
theorem tw_326 : Cond.instanceMethod ⟨"PromiseVats", "perform", "(LPromiseVats$Turn;II)V"⟩ ∈ tb_ := tb_in 437 (by decide +kernel) rfl
theorem tw_327 : Cond.selects "PromiseVats" ⟨"PromiseVats", "perform", "(LPromiseVats$Turn;II)V"⟩ ⟨"PromiseVats", "perform", "(LPromiseVats$Turn;II)V"⟩ ∈ tb_ := tb_se 11 (by decide +kernel) rfl
theorem tw_328 : Cond.fieldLink "PromiseVats" 214 "PromiseVats$Entity" "imports" "[I" ∈ tb_ := tb_in 124 (by decide +kernel) rfl
theorem tw_329 : Cond.fieldLink "PromiseVats" 328 "PromiseVats$Entity" "gifts" "[I" ∈ tb_ := tb_in 128 (by decide +kernel) rfl
theorem tw_330 : Cond.fieldLink "PromiseVats" 179 "PromiseVats$Message" "argument" "LPromiseVats$Entity;" ∈ tb_ := tb_in 389 (by decide +kernel) rfl
theorem tw_331 : Cond.fieldLink "PromiseVats" 321 "PromiseVats$Message" "amount" "I" ∈ tb_ := tb_in 391 (by decide +kernel) rfl
theorem tw_332 : Cond.code ⟨"PromiseVats", "takeGift", "(LPromiseVats$Entity;II)V"⟩ prog_1_method_40_code 4 (Option.none : Option FieldType) ∈ tb_ := tb_in 519 (by decide +kernel) rfl
theorem tw_333 : Cond.methodLink "PromiseVats" 322 ⟨"PromiseVats", "takeGift", "(LPromiseVats$Entity;II)V"⟩ ∈ tb_ := tb_in 517 (by decide +kernel) rfl
theorem tw_334 : Cond.static ⟨"PromiseVats", "takeGift", "(LPromiseVats$Entity;II)V"⟩ ∈ tb_ := tb_in 518 (by decide +kernel) rfl
theorem tw_335 : Cond.code ⟨"PromiseVats", "takeRedeem", "(LPromiseVats$Entity;II)V"⟩ prog_1_method_41_code 4 (Option.none : Option FieldType) ∈ tb_ := tb_in 522 (by decide +kernel) rfl
theorem tw_336 : Cond.methodLink "PromiseVats" 325 ⟨"PromiseVats", "takeRedeem", "(LPromiseVats$Entity;II)V"⟩ ∈ tb_ := tb_in 520 (by decide +kernel) rfl
theorem tw_337 : Cond.static ⟨"PromiseVats", "takeRedeem", "(LPromiseVats$Entity;II)V"⟩ ∈ tb_ := tb_in 521 (by decide +kernel) rfl
theorem tw_338 : Cond.fieldLink "PromiseVats" 190 "PromiseVats$Message" "kind" "I" ∈ tb_ := tb_in 385 (by decide +kernel) rfl
theorem tw_339 : Cond.fieldLink "PromiseVats" 318 "PromiseVats$Message" "subject" "LPromiseVats$Entity;" ∈ tb_ := tb_in 387 (by decide +kernel) rfl
theorem tw_340 : Cond.code ⟨"PromiseVats", "takeMessage", "(LPromiseVats$Message;II)V"⟩ prog_1_method_39_code 6 (Option.none : Option FieldType) ∈ tb_ := tb_in 516 (by decide +kernel) rfl
theorem tw_341 : Cond.methodLink "PromiseVats" 186 ⟨"PromiseVats", "takeMessage", "(LPromiseVats$Message;II)V"⟩ ∈ tb_ := tb_in 513 (by decide +kernel) rfl
theorem tw_342 : Cond.instanceMethod ⟨"PromiseVats", "takeMessage", "(LPromiseVats$Message;II)V"⟩ ∈ tb_ := tb_in 515 (by decide +kernel) rfl
theorem tw_343 : Cond.selects "PromiseVats" ⟨"PromiseVats", "takeMessage", "(LPromiseVats$Message;II)V"⟩ ⟨"PromiseVats", "takeMessage", "(LPromiseVats$Message;II)V"⟩ ∈ tb_ := tb_se 17 (by decide +kernel) rfl
theorem tw_344 : Cond.code ⟨"PromiseVats", "unpackArgument", "(LPromiseVats$Entity;II)V"⟩ prog_1_method_37_code 4 (Option.none : Option FieldType) ∈ tb_ := tb_in 512 (by decide +kernel) rfl
theorem tw_345 : Cond.methodLink "PromiseVats" 182 ⟨"PromiseVats", "unpackArgument", "(LPromiseVats$Entity;II)V"⟩ ∈ tb_ := tb_in 509 (by decide +kernel) rfl
theorem tw_346 : Cond.instanceMethod ⟨"PromiseVats", "unpackArgument", "(LPromiseVats$Entity;II)V"⟩ ∈ tb_ := tb_in 511 (by decide +kernel) rfl
theorem tw_347 : Cond.selects "PromiseVats" ⟨"PromiseVats", "unpackArgument", "(LPromiseVats$Entity;II)V"⟩ ⟨"PromiseVats", "unpackArgument", "(LPromiseVats$Entity;II)V"⟩ ∈ tb_ := tb_se 16 (by decide +kernel) rfl
theorem tw_348 : Cond.code ⟨"PromiseVats", "flying", "(II)I"⟩ prog_1_method_9_code 3 (Option.some FieldType.int) ∈ tb_ := tb_in 508 (by decide +kernel) rfl
theorem tw_349 : Cond.methodLink "PromiseVats" 165 ⟨"PromiseVats", "flying", "(II)I"⟩ ∈ tb_ := tb_in 505 (by decide +kernel) rfl
theorem tw_350 : Cond.instanceMethod ⟨"PromiseVats", "flying", "(II)I"⟩ ∈ tb_ := tb_in 506 (by decide +kernel) rfl
theorem tw_351 : Cond.selects "PromiseVats" ⟨"PromiseVats", "flying", "(II)I"⟩ ⟨"PromiseVats", "flying", "(II)I"⟩ ∈ tb_ := tb_in 507 (by decide +kernel) rfl
theorem tw_352 : Cond.fieldLink "PromiseVats" 334 "PromiseVats" "foundCount" "I" ∈ tb_ := tb_in 225 (by decide +kernel) rfl
theorem tw_353 : Cond.fieldLink "PromiseVats" 331 "PromiseVats$Entity" "reached" "Z" ∈ tb_ := tb_in 114 (by decide +kernel) rfl
theorem tw_354 : Cond.methodLink "PromiseVats$Entity" 28 ⟨"java/lang/Math", "max", "(II)I"⟩ ∈ tb_ := tb_in 557 (by decide +kernel) rfl
theorem tw_355 : Cond.code ⟨"PromiseVats$Entity", "unpaired", "(I)I"⟩ prog_4_method_2_code 4 (Option.some FieldType.int) ∈ tb_ := tb_in 556 (by decide +kernel) rfl
theorem tw_356 : Cond.instanceMethod ⟨"PromiseVats$Entity", "unpaired", "(I)I"⟩ ∈ tb_ := tb_in 555 (by decide +kernel) rfl
theorem tw_357 : Cond.methodLink "PromiseVats$Entity" 38 ⟨"PromiseVats$Entity", "unpaired", "(I)I"⟩ ∈ tb_ := tb_in 562 (by decide +kernel) rfl
theorem tw_358 : Cond.sameMethod "PromiseVats$Entity" "PromiseVats$Entity" "unpaired" "(I)I" ∈ tb_ := tb_in 926 (by decide +kernel) rfl
theorem tw_359 : Cond.selects "PromiseVats$VatObject" ⟨"PromiseVats$Entity", "unpaired", "(I)I"⟩ ⟨"PromiseVats$Entity", "unpaired", "(I)I"⟩ ∈ tb_ := tb_in 928 (by decide +kernel) rfl
theorem tw_360 : Cond.selects "PromiseVats$Promise" ⟨"PromiseVats$Entity", "unpaired", "(I)I"⟩ ⟨"PromiseVats$Entity", "unpaired", "(I)I"⟩ ∈ tb_ := tb_in 927 (by decide +kernel) rfl
theorem tw_361 : Cond.code ⟨"PromiseVats$Entity", "isExported", "()Z"⟩ prog_4_method_3_code 2 (Option.some FieldType.boolean) ∈ tb_ := tb_in 550 (by decide +kernel) rfl
theorem tw_362 : Cond.instanceMethod ⟨"PromiseVats$Entity", "isExported", "()Z"⟩ ∈ tb_ := tb_in 549 (by decide +kernel) rfl
theorem tw_363 : Cond.methodLink "PromiseVats$Entity" 34 ⟨"PromiseVats$Entity", "isExported", "()Z"⟩ ∈ tb_ := tb_in 561 (by decide +kernel) rfl
theorem tw_364 : Cond.sameMethod "PromiseVats$Entity" "PromiseVats$Entity" "isExported" "()Z" ∈ tb_ := tb_in 923 (by decide +kernel) rfl
theorem tw_365 : Cond.selects "PromiseVats$VatObject" ⟨"PromiseVats$Entity", "isExported", "()Z"⟩ ⟨"PromiseVats$Entity", "isExported", "()Z"⟩ ∈ tb_ := tb_in 925 (by decide +kernel) rfl
theorem tw_366 : Cond.selects "PromiseVats$Promise" ⟨"PromiseVats$Entity", "isExported", "()Z"⟩ ⟨"PromiseVats$Entity", "isExported", "()Z"⟩ ∈ tb_ := tb_in 924 (by decide +kernel) rfl
theorem tw_367 : Cond.methodLink "PromiseVats$Promise" 30 ⟨"java/util/ArrayList", "isEmpty", "()Z"⟩ ∈ tb_ := tb_in 558 (by decide +kernel) rfl
theorem tw_368 : Cond.methodLink "PromiseVats$Promise" 26 ⟨"PromiseVats$Promise", "unpaired", "(I)I"⟩ ∈ tb_ := tb_in 551 (by decide +kernel) rfl
theorem tw_369 : Cond.sameMethod "PromiseVats$Promise" "PromiseVats$Entity" "unpaired" "(I)I" ∈ tb_ := tb_in 552 (by decide +kernel) rfl
theorem tw_370 : Cond.selects "PromiseVats$Promise" ⟨"PromiseVats$Promise", "unpaired", "(I)I"⟩ ⟨"PromiseVats$Entity", "unpaired", "(I)I"⟩ ∈ tb_ := tb_in 554 (by decide +kernel) rfl
theorem tw_371 : Cond.methodLink "PromiseVats$Promise" 22 ⟨"PromiseVats$Promise", "isExported", "()Z"⟩ ∈ tb_ := tb_in 545 (by decide +kernel) rfl
theorem tw_372 : Cond.sameMethod "PromiseVats$Promise" "PromiseVats$Entity" "isExported" "()Z" ∈ tb_ := tb_in 546 (by decide +kernel) rfl
theorem tw_373 : Cond.selects "PromiseVats$Promise" ⟨"PromiseVats$Promise", "isExported", "()Z"⟩ ⟨"PromiseVats$Entity", "isExported", "()Z"⟩ ∈ tb_ := tb_in 548 (by decide +kernel) rfl
theorem tw_374 : Cond.code ⟨"PromiseVats", "reach", "(LPromiseVats$Entity;)V"⟩ prog_1_method_46_code 2 (Option.none : Option FieldType) ∈ tb_ := tb_in 534 (by decide +kernel) rfl
theorem tw_375 : Cond.methodLink "PromiseVats" 337 ⟨"PromiseVats", "reach", "(LPromiseVats$Entity;)V"⟩ ∈ tb_ := tb_in 531 (by decide +kernel) rfl
theorem tw_376 : Cond.instanceMethod ⟨"PromiseVats", "reach", "(LPromiseVats$Entity;)V"⟩ ∈ tb_ := tb_in 533 (by decide +kernel) rfl
theorem tw_377 : Cond.selects "PromiseVats" ⟨"PromiseVats", "reach", "(LPromiseVats$Entity;)V"⟩ ⟨"PromiseVats", "reach", "(LPromiseVats$Entity;)V"⟩ ∈ tb_ := tb_se 19 (by decide +kernel) rfl
theorem tw_378 : Cond.code ⟨"PromiseVats$Entity", "isWanted", "()Z"⟩ prog_4_method_4_code 1 (Option.some FieldType.boolean) ∈ tb_ := tb_in 560 (by decide +kernel) rfl
theorem tw_379 : Cond.instanceMethod ⟨"PromiseVats$Entity", "isWanted", "()Z"⟩ ∈ tb_ := tb_in 540 (by decide +kernel) rfl
theorem tw_380 : Cond.methodLink "PromiseVats" 351 ⟨"PromiseVats$Entity", "isWanted", "()Z"⟩ ∈ tb_ := tb_in 539 (by decide +kernel) rfl
theorem tw_381 : Cond.sameMethod "PromiseVats$Entity" "PromiseVats$Entity" "isWanted" "()Z" ∈ tb_ := tb_in 541 (by decide +kernel) rfl
theorem tw_382 : Cond.selects "PromiseVats$VatObject" ⟨"PromiseVats$Entity", "isWanted", "()Z"⟩ ⟨"PromiseVats$Entity", "isWanted", "()Z"⟩ ∈ tb_ := tb_in 559 (by decide +kernel) rfl
theorem tw_383 : Cond.code ⟨"PromiseVats$Promise", "isWanted", "()Z"⟩ prog_7_method_2_code 1 (Option.some FieldType.boolean) ∈ tb_ := tb_in 544 (by decide +kernel) rfl
theorem tw_384 : Cond.instanceMethod ⟨"PromiseVats$Promise", "isWanted", "()Z"⟩ ∈ tb_ := tb_in 543 (by decide +kernel) rfl
theorem tw_385 : Cond.selects "PromiseVats$Promise" ⟨"PromiseVats$Entity", "isWanted", "()Z"⟩ ⟨"PromiseVats$Promise", "isWanted", "()Z"⟩ ∈ tb_ := tb_in 542 (by decide +kernel) rfl
theorem tw_386 : Cond.fieldLink "PromiseVats" 239 "PromiseVats$Entity" "freed" "Z" ∈ tb_ := tb_in 111 (by decide +kernel) rfl
theorem tw_387 : Cond.code ⟨"PromiseVats", "reachCalls", "(Ljava/util/ArrayList;)V"⟩ prog_1_method_44_code 3 (Option.none : Option FieldType) ∈ tb_ := tb_in 566 (by decide +kernel) rfl
theorem tw_388 : Cond.methodLink "PromiseVats" 344 ⟨"PromiseVats", "reachCalls", "(Ljava/util/ArrayList;)V"⟩ ∈ tb_ := tb_in 563 (by decide +kernel) rfl
theorem tw_389 : Cond.instanceMethod ⟨"PromiseVats", "reachCalls", "(Ljava/util/ArrayList;)V"⟩ ∈ tb_ := tb_in 565 (by decide +kernel) rfl
theorem tw_390 : Cond.selects "PromiseVats" ⟨"PromiseVats", "reachCalls", "(Ljava/util/ArrayList;)V"⟩ ⟨"PromiseVats", "reachCalls", "(Ljava/util/ArrayList;)V"⟩ ∈ tb_ := tb_se 21 (by decide +kernel) rfl
theorem tw_391 : Cond.code ⟨"PromiseVats", "reachWanted", "(I)V"⟩ prog_1_method_43_code 4 (Option.none : Option FieldType) ∈ tb_ := tb_in 538 (by decide +kernel) rfl
theorem tw_392 : Cond.methodLink "PromiseVats" 341 ⟨"PromiseVats", "reachWanted", "(I)V"⟩ ∈ tb_ := tb_in 535 (by decide +kernel) rfl
theorem tw_393 : Cond.instanceMethod ⟨"PromiseVats", "reachWanted", "(I)V"⟩ ∈ tb_ := tb_in 537 (by decide +kernel) rfl
theorem tw_394 : Cond.selects "PromiseVats" ⟨"PromiseVats", "reachWanted", "(I)V"⟩ ⟨"PromiseVats", "reachWanted", "(I)V"⟩ ∈ tb_ := tb_se 20 (by decide +kernel) rfl
theorem tw_395 : Cond.code ⟨"PromiseVats", "reachInside", "(LPromiseVats$Entity;)V"⟩ prog_1_method_45_code 5 (Option.none : Option FieldType) ∈ tb_ := tb_in 570 (by decide +kernel) rfl
theorem tw_396 : Cond.methodLink "PromiseVats" 348 ⟨"PromiseVats", "reachInside", "(LPromiseVats$Entity;)V"⟩ ∈ tb_ := tb_in 567 (by decide +kernel) rfl
theorem tw_397 : Cond.instanceMethod ⟨"PromiseVats", "reachInside", "(LPromiseVats$Entity;)V"⟩ ∈ tb_ := tb_in 569 (by decide +kernel) rfl
theorem tw_398 : Cond.selects "PromiseVats" ⟨"PromiseVats", "reachInside", "(LPromiseVats$Entity;)V"⟩ ⟨"PromiseVats", "reachInside", "(LPromiseVats$Entity;)V"⟩ ∈ tb_ := tb_se 22 (by decide +kernel) rfl
theorem tw_399 : Cond.code ⟨"PromiseVats", "releaseUnreached", "(I)V"⟩ prog_1_method_48_code 4 (Option.none : Option FieldType) ∈ tb_ := tb_in 578 (by decide +kernel) rfl
theorem tw_400 : Cond.methodLink "PromiseVats" 200 ⟨"PromiseVats", "releaseUnreached", "(I)V"⟩ ∈ tb_ := tb_in 575 (by decide +kernel) rfl
theorem tw_401 : Cond.instanceMethod ⟨"PromiseVats", "releaseUnreached", "(I)V"⟩ ∈ tb_ := tb_in 577 (by decide +kernel) rfl
theorem tw_402 : Cond.selects "PromiseVats" ⟨"PromiseVats", "releaseUnreached", "(I)V"⟩ ⟨"PromiseVats", "releaseUnreached", "(I)V"⟩ ∈ tb_ := tb_se 24 (by decide +kernel) rfl
theorem tw_403 : Cond.code ⟨"PromiseVats", "freeUnreached", "(I)I"⟩ prog_1_method_47_code 5 (Option.some FieldType.int) ∈ tb_ := tb_in 574 (by decide +kernel) rfl
theorem tw_404 : Cond.methodLink "PromiseVats" 196 ⟨"PromiseVats", "freeUnreached", "(I)I"⟩ ∈ tb_ := tb_in 571 (by decide +kernel) rfl
theorem tw_405 : Cond.instanceMethod ⟨"PromiseVats", "freeUnreached", "(I)I"⟩ ∈ tb_ := tb_in 573 (by decide +kernel) rfl
theorem tw_406 : Cond.selects "PromiseVats" ⟨"PromiseVats", "freeUnreached", "(I)I"⟩ ⟨"PromiseVats", "freeUnreached", "(I)I"⟩ ∈ tb_ := tb_se 23 (by decide +kernel) rfl
theorem tw_407 : Cond.code ⟨"PromiseVats", "findReached", "(I)V"⟩ prog_1_method_42_code 3 (Option.none : Option FieldType) ∈ tb_ := tb_in 530 (by decide +kernel) rfl
theorem tw_408 : Cond.methodLink "PromiseVats" 193 ⟨"PromiseVats", "findReached", "(I)V"⟩ ∈ tb_ := tb_in 527 (by decide +kernel) rfl
theorem tw_409 : Cond.instanceMethod ⟨"PromiseVats", "findReached", "(I)V"⟩ ∈ tb_ := tb_in 529 (by decide +kernel) rfl
theorem tw_410 : Cond.selects "PromiseVats" ⟨"PromiseVats", "findReached", "(I)V"⟩ ⟨"PromiseVats", "findReached", "(I)V"⟩ ∈ tb_ := tb_se 18 (by decide +kernel) rfl
theorem tw_411 : Cond.methodLink "PromiseVats" 354 ⟨"PromiseVats$Entity", "unpaired", "(I)I"⟩ ∈ tb_ := tb_in 591 (by decide +kernel) rfl
theorem tw_412 : Cond.code ⟨"PromiseVats", "waitingAt", "(LPromiseVats$Entity;)I"⟩ prog_1_method_50_code 2 (Option.some FieldType.int) ∈ tb_ := tb_in 594 (by decide +kernel) rfl
theorem tw_413 : Cond.methodLink "PromiseVats" 357 ⟨"PromiseVats", "waitingAt", "(LPromiseVats$Entity;)I"⟩ ∈ tb_ := tb_in 592 (by decide +kernel) rfl
theorem tw_414 : Cond.static ⟨"PromiseVats", "waitingAt", "(LPromiseVats$Entity;)I"⟩ ∈ tb_ := tb_in 593 (by decide +kernel) rfl
theorem tw_415 : Cond.code ⟨"PromiseVats", "kindOf", "(LPromiseVats$Entity;)I"⟩ prog_1_method_51_code 2 (Option.some FieldType.int) ∈ tb_ := tb_in 597 (by decide +kernel) rfl
theorem tw_416 : Cond.methodLink "PromiseVats" 360 ⟨"PromiseVats", "kindOf", "(LPromiseVats$Entity;)I"⟩ ∈ tb_ := tb_in 595 (by decide +kernel) rfl
theorem tw_417 : Cond.static ⟨"PromiseVats", "kindOf", "(LPromiseVats$Entity;)I"⟩ ∈ tb_ := tb_in 596 (by decide +kernel) rfl
theorem tw_418 : Cond.fieldLink "PromiseVats" 203 "PromiseVats$Vat" "outputs" "I" ∈ tb_ := tb_in 204 (by decide +kernel) rfl
theorem tw_419 : Cond.code ⟨"PromiseVats", "shareInCount", "(LPromiseVats$Entity;II)I"⟩ prog_1_method_49_code 3 (Option.some FieldType.int) ∈ tb_ := tb_in 590 (by decide +kernel) rfl
theorem tw_420 : Cond.methodLink "PromiseVats" 206 ⟨"PromiseVats", "shareInCount", "(LPromiseVats$Entity;II)I"⟩ ∈ tb_ := tb_in 588 (by decide +kernel) rfl
theorem tw_421 : Cond.static ⟨"PromiseVats", "shareInCount", "(LPromiseVats$Entity;II)I"⟩ ∈ tb_ := tb_in 589 (by decide +kernel) rfl
theorem tw_422 : Cond.code ⟨"PromiseVats", "madeEntity", "(I)LPromiseVats$Entity;"⟩ prog_1_method_23_code 2 (Option.some (FieldType.object "PromiseVats$Entity")) ∈ tb_ := tb_in 605 (by decide +kernel) rfl
theorem tw_423 : Cond.methodLink "PromiseVats" 210 ⟨"PromiseVats", "madeEntity", "(I)LPromiseVats$Entity;"⟩ ∈ tb_ := tb_in 602 (by decide +kernel) rfl
theorem tw_424 : Cond.instanceMethod ⟨"PromiseVats", "madeEntity", "(I)LPromiseVats$Entity;"⟩ ∈ tb_ := tb_in 604 (by decide +kernel) rfl
theorem tw_425 : Cond.selects "PromiseVats" ⟨"PromiseVats", "madeEntity", "(I)LPromiseVats$Entity;"⟩ ⟨"PromiseVats", "madeEntity", "(I)LPromiseVats$Entity;"⟩ ∈ tb_ := tb_se 25 (by decide +kernel) rfl
theorem tw_426 : Cond.code ⟨"PromiseVats", "liveEntity", "(I)LPromiseVats$Entity;"⟩ prog_1_method_24_code 3 (Option.some (FieldType.object "PromiseVats$Entity")) ∈ tb_ := tb_in 613 (by decide +kernel) rfl
theorem tw_427 : Cond.methodLink "PromiseVats" 215 ⟨"PromiseVats", "liveEntity", "(I)LPromiseVats$Entity;"⟩ ∈ tb_ := tb_in 610 (by decide +kernel) rfl
theorem tw_428 : Cond.instanceMethod ⟨"PromiseVats", "liveEntity", "(I)LPromiseVats$Entity;"⟩ ∈ tb_ := tb_in 612 (by decide +kernel) rfl
theorem tw_429 : Cond.selects "PromiseVats" ⟨"PromiseVats", "liveEntity", "(I)LPromiseVats$Entity;"⟩ ⟨"PromiseVats", "liveEntity", "(I)LPromiseVats$Entity;"⟩ ∈ tb_ := tb_se 26 (by decide +kernel) rfl
theorem tw_430 : Cond.fieldLink "PromiseVats" 242 "PromiseVats$Entity" "id" "I" ∈ tb_ := tb_in 102 (by decide +kernel) rfl
theorem tw_431 : Cond.code ⟨"PromiseVats", "referenceTo", "(LPromiseVats$Entity;)I"⟩ prog_1_method_25_code 1 (Option.some FieldType.int) ∈ tb_ := tb_in 624 (by decide +kernel) rfl
theorem tw_432 : Cond.methodLink "PromiseVats" 222 ⟨"PromiseVats", "referenceTo", "(LPromiseVats$Entity;)I"⟩ ∈ tb_ := tb_in 622 (by decide +kernel) rfl
theorem tw_433 : Cond.static ⟨"PromiseVats", "referenceTo", "(LPromiseVats$Entity;)I"⟩ ∈ tb_ := tb_in 623 (by decide +kernel) rfl
theorem tw_434 : Cond.fieldLink "PromiseVats" 236 "PromiseVats$Vat" "latest" "[I" ∈ tb_ := tb_in 202 (by decide +kernel) rfl
theorem tw_435 : Cond.arrayClass FieldType.byte ∈ tb_ := tb_in 755 (by decide +kernel) rfl
theorem tw_436 : Cond.arrayClass FieldType.boolean ∈ tb_ := tb_in 756 (by decide +kernel) rfl
theorem tw_437 : Cond.arrayClass FieldType.short ∈ tb_ := tb_in 757 (by decide +kernel) rfl
theorem tw_438 : Cond.fieldLink "PromiseVatsModel" 91 "PromiseVatsModel" "out" "[I" ∈ tb_ := tb_in 679 (by decide +kernel) rfl
theorem tw_439 : Cond.fieldLink "PromiseVatsModel" 88 "PromiseVatsModel" "outs" "[I" ∈ tb_ := tb_in 678 (by decide +kernel) rfl
theorem tw_440 : Cond.fieldLink "PromiseVatsModel" 85 "PromiseVatsModel" "losers" "[I" ∈ tb_ := tb_in 677 (by decide +kernel) rfl
theorem tw_441 : Cond.fieldLink "PromiseVatsModel" 82 "PromiseVatsModel" "back" "[S" ∈ tb_ := tb_in 675 (by decide +kernel) rfl
theorem tw_442 : Cond.fieldLink "PromiseVatsModel" 79 "PromiseVatsModel" "carry" "[S" ∈ tb_ := tb_in 674 (by decide +kernel) rfl
theorem tw_443 : Cond.fieldLink "PromiseVatsModel" 76 "PromiseVatsModel" "load" "[I" ∈ tb_ := tb_in 673 (by decide +kernel) rfl
theorem tw_444 : Cond.fieldLink "PromiseVatsModel" 72 "PromiseVatsModel" "about" "[S" ∈ tb_ := tb_in 672 (by decide +kernel) rfl
theorem tw_445 : Cond.fieldLink "PromiseVatsModel" 69 "PromiseVatsModel" "head" "[B" ∈ tb_ := tb_in 671 (by decide +kernel) rfl
theorem tw_446 : Cond.fieldLink "PromiseVatsModel" 66 "PromiseVatsModel" "answe\x72" "[I" ∈ tb_ := tb_in 669 (by decide +kernel) rfl
theorem tw_447 : Cond.fieldLink "PromiseVatsModel" 63 "PromiseVatsModel" "argument" "[I" ∈ tb_ := tb_in 668 (by decide +kernel) rfl
theorem tw_448 : Cond.fieldLink "PromiseVatsModel" 60 "PromiseVatsModel" "value" "[I" ∈ tb_ := tb_in 667 (by decide +kernel) rfl
theorem tw_449 : Cond.fieldLink "PromiseVatsModel" 57 "PromiseVatsModel" "target" "[I" ∈ tb_ := tb_in 666 (by decide +kernel) rfl
theorem tw_450 : Cond.fieldLink "PromiseVatsModel" 54 "PromiseVatsModel" "place" "[I" ∈ tb_ := tb_in 665 (by decide +kernel) rfl
theorem tw_451 : Cond.fieldLink "PromiseVatsModel" 51 "PromiseVatsModel" "owed" "[I" ∈ tb_ := tb_in 663 (by decide +kernel) rfl
theorem tw_452 : Cond.fieldLink "PromiseVatsModel" 48 "PromiseVatsModel" "imports" "[I" ∈ tb_ := tb_in 662 (by decide +kernel) rfl
theorem tw_453 : Cond.fieldLink "PromiseVatsModel" 45 "PromiseVatsModel" "exports" "[I" ∈ tb_ := tb_in 661 (by decide +kernel) rfl
theorem tw_454 : Cond.fieldLink "PromiseVatsModel" 42 "PromiseVatsModel" "slots" "[I" ∈ tb_ := tb_in 659 (by decide +kernel) rfl
theorem tw_455 : Cond.fieldLink "PromiseVatsModel" 39 "PromiseVatsModel" "numbers" "[I" ∈ tb_ := tb_in 658 (by decide +kernel) rfl
theorem tw_456 : Cond.fieldLink "PromiseVatsModel" 36 "PromiseVatsModel" "programs" "[B" ∈ tb_ := tb_in 657 (by decide +kernel) rfl
theorem tw_457 : Cond.fieldLink "PromiseVatsModel" 33 "PromiseVatsModel" "reached" "[Z" ∈ tb_ := tb_in 656 (by decide +kernel) rfl
theorem tw_458 : Cond.fieldLink "PromiseVatsModel" 30 "PromiseVatsModel" "to" "[I" ∈ tb_ := tb_in 655 (by decide +kernel) rfl
theorem tw_459 : Cond.fieldLink "PromiseVatsModel" 27 "PromiseVatsModel" "settled" "[Z" ∈ tb_ := tb_in 654 (by decide +kernel) rfl
theorem tw_460 : Cond.fieldLink "PromiseVatsModel" 23 "PromiseVatsModel" "gone" "[Z" ∈ tb_ := tb_in 653 (by decide +kernel) rfl
theorem tw_461 : Cond.fieldLink "PromiseVatsModel" 19 "PromiseVatsModel" "home" "[B" ∈ tb_ := tb_in 652 (by decide +kernel) rfl
theorem tw_462 : Cond.fieldLink "PromiseVatsModel" 16 "PromiseVatsModel" "args" "[I" ∈ tb_ := tb_in 651 (by decide +kernel) rfl
theorem tw_463 : Cond.fieldLink "PromiseVatsModel" 13 "PromiseVatsModel" "ops" "[I" ∈ tb_ := tb_in 650 (by decide +kernel) rfl
theorem tw_464 : Cond.fieldLink "PromiseVatsModel" 7 "PromiseVatsModel" "sizes" "[I" ∈ tb_ := tb_in 649 (by decide +kernel) rfl
theorem tw_465 : Cond.methodLink "PromiseVatsModel" 1 objectInit ∈ tb_ := tb_in 645 (by decide +kernel) rfl
theorem tw_466 : Cond.fieldLink "PromiseVatsModel" 94 "PromiseVatsModel" "vats" "I" ∈ tb_ := tb_in 646 (by decide +kernel) rfl
theorem tw_467 : Cond.fieldLink "PromiseVatsModel" 98 "PromiseVatsModel" "objects" "I" ∈ tb_ := tb_in 647 (by decide +kernel) rfl
theorem tw_468 : Cond.fieldLink "PromiseVatsModel" 108 "PromiseVatsModel" "mails" "I" ∈ tb_ := tb_in 670 (by decide +kernel) rfl
theorem tw_469 : Cond.initialized "PromiseVatsModel" ∈ tb_ := tb_in 12 (by decide +kernel) rfl
theorem tw_470 : Cond.code ⟨"PromiseVatsModel", "post", "(IIIIII)V"⟩ prog_12_method_7_code 7 (Option.none : Option FieldType) ∈ tb_ := tb_in 789 (by decide +kernel) rfl
theorem tw_471 : Cond.methodLink "PromiseVatsModel" 111 ⟨"PromiseVatsModel", "post", "(IIIIII)V"⟩ ∈ tb_ := tb_in 786 (by decide +kernel) rfl
theorem tw_472 : Cond.instanceMethod ⟨"PromiseVatsModel", "post", "(IIIIII)V"⟩ ∈ tb_ := tb_in 788 (by decide +kernel) rfl
theorem tw_473 : Cond.selects "PromiseVatsModel" ⟨"PromiseVatsModel", "post", "(IIIIII)V"⟩ ⟨"PromiseVatsModel", "post", "(IIIIII)V"⟩ ∈ tb_ := tb_se 31 (by decide +kernel) rfl
theorem tw_474 : Cond.fieldLink "PromiseVatsModel" 144 "PromiseVatsModel" "resting" "I" ∈ tb_ := tb_in 664 (by decide +kernel) rfl
theorem tw_475 : Cond.code ⟨"PromiseVatsModel", "passes", "(II)Z"⟩ prog_12_method_16_code 3 (Option.some FieldType.boolean) ∈ tb_ := tb_in 797 (by decide +kernel) rfl
theorem tw_476 : Cond.methodLink "PromiseVatsModel" 147 ⟨"PromiseVatsModel", "passes", "(II)Z"⟩ ∈ tb_ := tb_in 794 (by decide +kernel) rfl
theorem tw_477 : Cond.instanceMethod ⟨"PromiseVatsModel", "passes", "(II)Z"⟩ ∈ tb_ := tb_in 796 (by decide +kernel) rfl
theorem tw_478 : Cond.selects "PromiseVatsModel" ⟨"PromiseVatsModel", "passes", "(II)Z"⟩ ⟨"PromiseVatsModel", "passes", "(II)Z"⟩ ∈ tb_ := tb_se 33 (by decide +kernel) rfl
theorem tw_479 : Cond.code ⟨"PromiseVatsModel", "waits", "(I)I"⟩ prog_12_method_17_code 4 (Option.some FieldType.int) ∈ tb_ := tb_in 801 (by decide +kernel) rfl
theorem tw_480 : Cond.methodLink "PromiseVatsModel" 151 ⟨"PromiseVatsModel", "waits", "(I)I"⟩ ∈ tb_ := tb_in 798 (by decide +kernel) rfl
theorem tw_481 : Cond.instanceMethod ⟨"PromiseVatsModel", "waits", "(I)I"⟩ ∈ tb_ := tb_in 800 (by decide +kernel) rfl
theorem tw_482 : Cond.selects "PromiseVatsModel" ⟨"PromiseVatsModel", "waits", "(I)I"⟩ ⟨"PromiseVatsModel", "waits", "(I)I"⟩ ∈ tb_ := tb_se 34 (by decide +kernel) rfl
theorem tw_483 : Cond.code ⟨"PromiseVatsModel", "pack", "(III)V"⟩ prog_12_method_8_code 5 (Option.none : Option FieldType) ∈ tb_ := tb_in 805 (by decide +kernel) rfl
theorem tw_484 : Cond.methodLink "PromiseVatsModel" 157 ⟨"PromiseVatsModel", "pack", "(III)V"⟩ ∈ tb_ := tb_in 802 (by decide +kernel) rfl
theorem tw_485 : Cond.instanceMethod ⟨"PromiseVatsModel", "pack", "(III)V"⟩ ∈ tb_ := tb_in 804 (by decide +kernel) rfl
theorem tw_486 : Cond.selects "PromiseVatsModel" ⟨"PromiseVatsModel", "pack", "(III)V"⟩ ⟨"PromiseVatsModel", "pack", "(III)V"⟩ ∈ tb_ := tb_se 35 (by decide +kernel) rfl
theorem tw_487 : Cond.code ⟨"PromiseVatsModel", "rest", "(IIIII)V"⟩ prog_12_method_14_code 6 (Option.none : Option FieldType) ∈ tb_ := tb_in 809 (by decide +kernel) rfl
theorem tw_488 : Cond.methodLink "PromiseVatsModel" 160 ⟨"PromiseVatsModel", "rest", "(IIIII)V"⟩ ∈ tb_ := tb_in 806 (by decide +kernel) rfl
theorem tw_489 : Cond.instanceMethod ⟨"PromiseVatsModel", "rest", "(IIIII)V"⟩ ∈ tb_ := tb_in 808 (by decide +kernel) rfl
theorem tw_490 : Cond.selects "PromiseVatsModel" ⟨"PromiseVatsModel", "rest", "(IIIII)V"⟩ ⟨"PromiseVatsModel", "rest", "(IIIII)V"⟩ ∈ tb_ := tb_se 36 (by decide +kernel) rfl
theorem tw_491 : Cond.fieldLink "PromiseVatsModel" 154 "PromiseVatsModel" "lost" "I" ∈ tb_ := tb_in 676 (by decide +kernel) rfl
theorem tw_492 : Cond.code ⟨"PromiseVatsModel", "go", "(IIIII)V"⟩ prog_12_method_18_code 8 (Option.none : Option FieldType) ∈ tb_ := tb_in 793 (by decide +kernel) rfl
theorem tw_493 : Cond.methodLink "PromiseVatsModel" 130 ⟨"PromiseVatsModel", "go", "(IIIII)V"⟩ ∈ tb_ := tb_in 790 (by decide +kernel) rfl
theorem tw_494 : Cond.instanceMethod ⟨"PromiseVatsModel", "go", "(IIIII)V"⟩ ∈ tb_ := tb_in 792 (by decide +kernel) rfl
theorem tw_495 : Cond.selects "PromiseVatsModel" ⟨"PromiseVatsModel", "go", "(IIIII)V"⟩ ⟨"PromiseVatsModel", "go", "(IIIII)V"⟩ ∈ tb_ := tb_se 32 (by decide +kernel) rfl
theorem tw_496 : Cond.code ⟨"PromiseVatsModel", "unrest", "(I)V"⟩ prog_12_method_15_code 3 (Option.none : Option FieldType) ∈ tb_ := tb_in 817 (by decide +kernel) rfl
theorem tw_497 : Cond.methodLink "PromiseVatsModel" 163 ⟨"PromiseVatsModel", "unrest", "(I)V"⟩ ∈ tb_ := tb_in 814 (by decide +kernel) rfl
theorem tw_498 : Cond.instanceMethod ⟨"PromiseVatsModel", "unrest", "(I)V"⟩ ∈ tb_ := tb_in 816 (by decide +kernel) rfl
theorem tw_499 : Cond.selects "PromiseVatsModel" ⟨"PromiseVatsModel", "unrest", "(I)V"⟩ ⟨"PromiseVatsModel", "unrest", "(I)V"⟩ ∈ tb_ := tb_se 38 (by decide +kernel) rfl
theorem tw_500 : Cond.code ⟨"PromiseVatsModel", "settle", "(III)V"⟩ prog_12_method_19_code 9 (Option.none : Option FieldType) ∈ tb_ := tb_in 813 (by decide +kernel) rfl
theorem tw_501 : Cond.methodLink "PromiseVatsModel" 134 ⟨"PromiseVatsModel", "settle", "(III)V"⟩ ∈ tb_ := tb_in 810 (by decide +kernel) rfl
theorem tw_502 : Cond.instanceMethod ⟨"PromiseVatsModel", "settle", "(III)V"⟩ ∈ tb_ := tb_in 812 (by decide +kernel) rfl
theorem tw_503 : Cond.selects "PromiseVatsModel" ⟨"PromiseVatsModel", "settle", "(III)V"⟩ ⟨"PromiseVatsModel", "settle", "(III)V"⟩ ∈ tb_ := tb_se 37 (by decide +kernel) rfl
theorem tw_504 : Cond.code ⟨"PromiseVatsModel", "unpack", "(III)V"⟩ prog_12_method_9_code 4 (Option.none : Option FieldType) ∈ tb_ := tb_in 785 (by decide +kernel) rfl
theorem tw_505 : Cond.methodLink "PromiseVatsModel" 126 ⟨"PromiseVatsModel", "unpack", "(III)V"⟩ ∈ tb_ := tb_in 782 (by decide +kernel) rfl
theorem tw_506 : Cond.instanceMethod ⟨"PromiseVatsModel", "unpack", "(III)V"⟩ ∈ tb_ := tb_in 784 (by decide +kernel) rfl
theorem tw_507 : Cond.selects "PromiseVatsModel" ⟨"PromiseVatsModel", "unpack", "(III)V"⟩ ⟨"PromiseVatsModel", "unpack", "(III)V"⟩ ∈ tb_ := tb_se 30 (by decide +kernel) rfl
theorem tw_508 : Cond.code ⟨"PromiseVatsModel", "unmail", "(I)V"⟩ prog_12_method_12_code 3 (Option.none : Option FieldType) ∈ tb_ := tb_in 781 (by decide +kernel) rfl
theorem tw_509 : Cond.methodLink "PromiseVatsModel" 122 ⟨"PromiseVatsModel", "unmail", "(I)V"⟩ ∈ tb_ := tb_in 778 (by decide +kernel) rfl
theorem tw_510 : Cond.instanceMethod ⟨"PromiseVatsModel", "unmail", "(I)V"⟩ ∈ tb_ := tb_in 780 (by decide +kernel) rfl
theorem tw_511 : Cond.selects "PromiseVatsModel" ⟨"PromiseVatsModel", "unmail", "(I)V"⟩ ⟨"PromiseVatsModel", "unmail", "(I)V"⟩ ∈ tb_ := tb_se 29 (by decide +kernel) rfl
theorem tw_512 : Cond.code ⟨"PromiseVatsModel", "oldest", "(I)I"⟩ prog_12_method_11_code 3 (Option.some FieldType.int) ∈ tb_ := tb_in 777 (by decide +kernel) rfl
theorem tw_513 : Cond.methodLink "PromiseVatsModel" 118 ⟨"PromiseVatsModel", "oldest", "(I)I"⟩ ∈ tb_ := tb_in 774 (by decide +kernel) rfl
theorem tw_514 : Cond.instanceMethod ⟨"PromiseVatsModel", "oldest", "(I)I"⟩ ∈ tb_ := tb_in 776 (by decide +kernel) rfl
theorem tw_515 : Cond.selects "PromiseVatsModel" ⟨"PromiseVatsModel", "oldest", "(I)I"⟩ ⟨"PromiseVatsModel", "oldest", "(I)I"⟩ ∈ tb_ := tb_se 28 (by decide +kernel) rfl
theorem tw_516 : Cond.code ⟨"PromiseVatsModel", "vat", "(I)Z"⟩ prog_12_method_2_code 2 (Option.some FieldType.boolean) ∈ tb_ := tb_in 773 (by decide +kernel) rfl
theorem tw_517 : Cond.methodLink "PromiseVatsModel" 115 ⟨"PromiseVatsModel", "vat", "(I)Z"⟩ ∈ tb_ := tb_in 770 (by decide +kernel) rfl
theorem tw_518 : Cond.instanceMethod ⟨"PromiseVatsModel", "vat", "(I)Z"⟩ ∈ tb_ := tb_in 772 (by decide +kernel) rfl
theorem tw_519 : Cond.selects "PromiseVatsModel" ⟨"PromiseVatsModel", "vat", "(I)Z"⟩ ⟨"PromiseVatsModel", "vat", "(I)Z"⟩ ∈ tb_ := tb_se 27 (by decide +kernel) rfl
theorem tw_520 : Cond.code ⟨"PromiseVatsModel", "pai\x72", "(IIII)V"⟩ prog_12_method_10_code 7 (Option.none : Option FieldType) ∈ tb_ := tb_in 821 (by decide +kernel) rfl
theorem tw_521 : Cond.methodLink "PromiseVatsModel" 137 ⟨"PromiseVatsModel", "pai\x72", "(IIII)V"⟩ ∈ tb_ := tb_in 818 (by decide +kernel) rfl
theorem tw_522 : Cond.instanceMethod ⟨"PromiseVatsModel", "pai\x72", "(IIII)V"⟩ ∈ tb_ := tb_in 820 (by decide +kernel) rfl
theorem tw_523 : Cond.selects "PromiseVatsModel" ⟨"PromiseVatsModel", "pai\x72", "(IIII)V"⟩ ⟨"PromiseVatsModel", "pai\x72", "(IIII)V"⟩ ∈ tb_ := tb_se 39 (by decide +kernel) rfl
theorem tw_524 : Cond.code ⟨"PromiseVatsModel", "mourn", "(I)V"⟩ prog_12_method_20_code 3 (Option.none : Option FieldType) ∈ tb_ := tb_in 825 (by decide +kernel) rfl
theorem tw_525 : Cond.methodLink "PromiseVatsModel" 141 ⟨"PromiseVatsModel", "mourn", "(I)V"⟩ ∈ tb_ := tb_in 822 (by decide +kernel) rfl
theorem tw_526 : Cond.instanceMethod ⟨"PromiseVatsModel", "mourn", "(I)V"⟩ ∈ tb_ := tb_in 824 (by decide +kernel) rfl
theorem tw_527 : Cond.selects "PromiseVatsModel" ⟨"PromiseVatsModel", "mourn", "(I)V"⟩ ⟨"PromiseVatsModel", "mourn", "(I)V"⟩ ∈ tb_ := tb_se 40 (by decide +kernel) rfl
theorem tw_528 : Cond.code ⟨"PromiseVatsModel", "inbox", "(I)I"⟩ prog_12_method_22_code 4 (Option.some FieldType.int) ∈ tb_ := tb_in 833 (by decide +kernel) rfl
theorem tw_529 : Cond.methodLink "PromiseVatsModel" 166 ⟨"PromiseVatsModel", "inbox", "(I)I"⟩ ∈ tb_ := tb_in 838 (by decide +kernel) rfl
theorem tw_530 : Cond.instanceMethod ⟨"PromiseVatsModel", "inbox", "(I)I"⟩ ∈ tb_ := tb_in 831 (by decide +kernel) rfl
theorem tw_531 : Cond.selects "PromiseVatsModel" ⟨"PromiseVatsModel", "inbox", "(I)I"⟩ ⟨"PromiseVatsModel", "inbox", "(I)I"⟩ ∈ tb_ := tb_in 832 (by decide +kernel) rfl
theorem tw_532 : Cond.fieldLink "PromiseVatsModel" 172 "PromiseVatsModel" "\x72" "I" ∈ tb_ := tb_in 681 (by decide +kernel) rfl
theorem tw_533 : Cond.fieldLink "PromiseVatsModel" 169 "PromiseVatsModel" "v" "I" ∈ tb_ := tb_in 680 (by decide +kernel) rfl
theorem tw_534 : Cond.fieldLink "PromiseVatsModel" 101 "PromiseVatsModel" "promises" "I" ∈ tb_ := tb_in 648 (by decide +kernel) rfl
theorem tw_535 : Cond.code ⟨"PromiseVatsModel", "fresh", "(II)I"⟩ prog_12_method_24_code 3 (Option.some FieldType.int) ∈ tb_ := tb_in 850 (by decide +kernel) rfl
theorem tw_536 : Cond.methodLink "PromiseVatsModel" 175 ⟨"PromiseVatsModel", "fresh", "(II)I"⟩ ∈ tb_ := tb_in 847 (by decide +kernel) rfl
theorem tw_537 : Cond.instanceMethod ⟨"PromiseVatsModel", "fresh", "(II)I"⟩ ∈ tb_ := tb_in 849 (by decide +kernel) rfl
theorem tw_538 : Cond.selects "PromiseVatsModel" ⟨"PromiseVatsModel", "fresh", "(II)I"⟩ ⟨"PromiseVatsModel", "fresh", "(II)I"⟩ ∈ tb_ := tb_se 42 (by decide +kernel) rfl
theorem tw_539 : Cond.code ⟨"PromiseVatsModel", "send", "(II)I"⟩ prog_12_method_25_code 5 (Option.some FieldType.int) ∈ tb_ := tb_in 854 (by decide +kernel) rfl
theorem tw_540 : Cond.methodLink "PromiseVatsModel" 179 ⟨"PromiseVatsModel", "send", "(II)I"⟩ ∈ tb_ := tb_in 851 (by decide +kernel) rfl
theorem tw_541 : Cond.instanceMethod ⟨"PromiseVatsModel", "send", "(II)I"⟩ ∈ tb_ := tb_in 853 (by decide +kernel) rfl
theorem tw_542 : Cond.selects "PromiseVatsModel" ⟨"PromiseVatsModel", "send", "(II)I"⟩ ⟨"PromiseVatsModel", "send", "(II)I"⟩ ∈ tb_ := tb_se 43 (by decide +kernel) rfl
theorem tw_543 : Cond.code ⟨"PromiseVatsModel", "put", "(I)V"⟩ prog_12_method_26_code 2 (Option.none : Option FieldType) ∈ tb_ := tb_in 858 (by decide +kernel) rfl
theorem tw_544 : Cond.methodLink "PromiseVatsModel" 182 ⟨"PromiseVatsModel", "put", "(I)V"⟩ ∈ tb_ := tb_in 855 (by decide +kernel) rfl
theorem tw_545 : Cond.instanceMethod ⟨"PromiseVatsModel", "put", "(I)V"⟩ ∈ tb_ := tb_in 857 (by decide +kernel) rfl
theorem tw_546 : Cond.selects "PromiseVatsModel" ⟨"PromiseVatsModel", "put", "(I)V"⟩ ⟨"PromiseVatsModel", "put", "(I)V"⟩ ∈ tb_ := tb_se 44 (by decide +kernel) rfl
theorem tw_547 : Cond.code ⟨"PromiseVatsModel", "act", "(IIII)I"⟩ prog_12_method_27_code 5 (Option.some FieldType.int) ∈ tb_ := tb_in 846 (by decide +kernel) rfl
theorem tw_548 : Cond.methodLink "PromiseVatsModel" 185 ⟨"PromiseVatsModel", "act", "(IIII)I"⟩ ∈ tb_ := tb_in 843 (by decide +kernel) rfl
theorem tw_549 : Cond.instanceMethod ⟨"PromiseVatsModel", "act", "(IIII)I"⟩ ∈ tb_ := tb_in 845 (by decide +kernel) rfl
theorem tw_550 : Cond.selects "PromiseVatsModel" ⟨"PromiseVatsModel", "act", "(IIII)I"⟩ ⟨"PromiseVatsModel", "act", "(IIII)I"⟩ ∈ tb_ := tb_se 41 (by decide +kernel) rfl
theorem tw_551 : Cond.code ⟨"PromiseVatsModel", "made", "(I)Z"⟩ prog_12_method_3_code 2 (Option.some FieldType.boolean) ∈ tb_ := tb_in 870 (by decide +kernel) rfl
theorem tw_552 : Cond.methodLink "PromiseVatsModel" 104 ⟨"PromiseVatsModel", "made", "(I)Z"⟩ ∈ tb_ := tb_in 867 (by decide +kernel) rfl
theorem tw_553 : Cond.instanceMethod ⟨"PromiseVatsModel", "made", "(I)Z"⟩ ∈ tb_ := tb_in 869 (by decide +kernel) rfl
theorem tw_554 : Cond.selects "PromiseVatsModel" ⟨"PromiseVatsModel", "made", "(I)Z"⟩ ⟨"PromiseVatsModel", "made", "(I)Z"⟩ ∈ tb_ := tb_se 46 (by decide +kernel) rfl
theorem tw_555 : Cond.fieldLink "PromiseVatsModel" 189 "PromiseVatsModel" "marked" "Z" ∈ tb_ := tb_in 660 (by decide +kernel) rfl
theorem tw_556 : Cond.code ⟨"PromiseVatsModel", "lives", "(I)Z"⟩ prog_12_method_4_code 2 (Option.some FieldType.boolean) ∈ tb_ := tb_in 866 (by decide +kernel) rfl
theorem tw_557 : Cond.methodLink "PromiseVatsModel" 193 ⟨"PromiseVatsModel", "lives", "(I)Z"⟩ ∈ tb_ := tb_in 863 (by decide +kernel) rfl
theorem tw_558 : Cond.instanceMethod ⟨"PromiseVatsModel", "lives", "(I)Z"⟩ ∈ tb_ := tb_in 865 (by decide +kernel) rfl
theorem tw_559 : Cond.selects "PromiseVatsModel" ⟨"PromiseVatsModel", "lives", "(I)Z"⟩ ⟨"PromiseVatsModel", "lives", "(I)Z"⟩ ∈ tb_ := tb_se 45 (by decide +kernel) rfl
theorem tw_560 : Cond.code ⟨"PromiseVatsModel", "mark", "(I)V"⟩ prog_12_method_29_code 2 (Option.none : Option FieldType) ∈ tb_ := tb_in 878 (by decide +kernel) rfl
theorem tw_561 : Cond.methodLink "PromiseVatsModel" 196 ⟨"PromiseVatsModel", "mark", "(I)V"⟩ ∈ tb_ := tb_in 875 (by decide +kernel) rfl
theorem tw_562 : Cond.instanceMethod ⟨"PromiseVatsModel", "mark", "(I)V"⟩ ∈ tb_ := tb_in 877 (by decide +kernel) rfl
theorem tw_563 : Cond.selects "PromiseVatsModel" ⟨"PromiseVatsModel", "mark", "(I)V"⟩ ⟨"PromiseVatsModel", "mark", "(I)V"⟩ ∈ tb_ := tb_se 48 (by decide +kernel) rfl
theorem tw_564 : Cond.code ⟨"PromiseVatsModel", "rooted", "(II)Z"⟩ prog_12_method_30_code 5 (Option.some FieldType.boolean) ∈ tb_ := tb_in 874 (by decide +kernel) rfl
theorem tw_565 : Cond.methodLink "PromiseVatsModel" 199 ⟨"PromiseVatsModel", "rooted", "(II)Z"⟩ ∈ tb_ := tb_in 871 (by decide +kernel) rfl
theorem tw_566 : Cond.instanceMethod ⟨"PromiseVatsModel", "rooted", "(II)Z"⟩ ∈ tb_ := tb_in 873 (by decide +kernel) rfl
theorem tw_567 : Cond.selects "PromiseVatsModel" ⟨"PromiseVatsModel", "rooted", "(II)Z"⟩ ⟨"PromiseVatsModel", "rooted", "(II)Z"⟩ ∈ tb_ := tb_se 47 (by decide +kernel) rfl
theorem tw_568 : Cond.code ⟨"PromiseVatsModel", "spread", "(I)V"⟩ prog_12_method_31_code 4 (Option.none : Option FieldType) ∈ tb_ := tb_in 882 (by decide +kernel) rfl
theorem tw_569 : Cond.methodLink "PromiseVatsModel" 202 ⟨"PromiseVatsModel", "spread", "(I)V"⟩ ∈ tb_ := tb_in 879 (by decide +kernel) rfl
theorem tw_570 : Cond.instanceMethod ⟨"PromiseVatsModel", "spread", "(I)V"⟩ ∈ tb_ := tb_in 881 (by decide +kernel) rfl
theorem tw_571 : Cond.selects "PromiseVatsModel" ⟨"PromiseVatsModel", "spread", "(I)V"⟩ ⟨"PromiseVatsModel", "spread", "(I)V"⟩ ∈ tb_ := tb_se 49 (by decide +kernel) rfl
theorem tw_572 : Cond.code ⟨"PromiseVatsModel", "counts", "(III)Z"⟩ prog_12_method_34_code 4 (Option.some FieldType.boolean) ∈ tb_ := tb_in 894 (by decide +kernel) rfl
theorem tw_573 : Cond.methodLink "PromiseVatsModel" 205 ⟨"PromiseVatsModel", "counts", "(III)Z"⟩ ∈ tb_ := tb_in 891 (by decide +kernel) rfl
theorem tw_574 : Cond.instanceMethod ⟨"PromiseVatsModel", "counts", "(III)Z"⟩ ∈ tb_ := tb_in 893 (by decide +kernel) rfl
theorem tw_575 : Cond.selects "PromiseVatsModel" ⟨"PromiseVatsModel", "counts", "(III)Z"⟩ ⟨"PromiseVatsModel", "counts", "(III)Z"⟩ ∈ tb_ := tb_se 50 (by decide +kernel) rfl
theorem ff_2_0 : ff_ cl_ tb_ [2] 0 "PromiseVats$Program" "ops" "[I" true := ff_1 cf_2 (by decide) rfl
theorem ff_2_1 : ff_ cl_ tb_ [2] 1 "PromiseVats$Program" "xs" "[I" true := ff_1 cf_2 (by decide) rfl
theorem ff_3_4_7 : ff_ cl_ tb_ [3, 4] 7 "PromiseVats$Entity" "exports" "[I" true := ff_c cf_3 (by decide) rfl (ff_1 cf_4 (by decide) rfl)
theorem ff_3_4_8 : ff_ cl_ tb_ [3, 4] 8 "PromiseVats$Entity" "imports" "[I" true := ff_c cf_3 (by decide) rfl (ff_1 cf_4 (by decide) rfl)
theorem ff_3_4_9 : ff_ cl_ tb_ [3, 4] 9 "PromiseVats$Entity" "gifts" "[I" true := ff_c cf_3 (by decide) rfl (ff_1 cf_4 (by decide) rfl)
theorem ff_3_4_3 : ff_ cl_ tb_ [3, 4] 3 "PromiseVats$Entity" "id" "I" true := ff_c cf_3 (by decide) rfl (ff_1 cf_4 (by decide) rfl)
theorem ff_3_4_4 : ff_ cl_ tb_ [3, 4] 4 "PromiseVats$Entity" "home" "I" true := ff_c cf_3 (by decide) rfl (ff_1 cf_4 (by decide) rfl)
theorem ff_3_2 : ff_ cl_ tb_ [3] 2 "PromiseVats$VatObject" "slots" "[LPromiseVats$Entity;" true := ff_1 cf_3 (by decide) rfl
theorem ff_3_0 : ff_ cl_ tb_ [3] 0 "PromiseVats$VatObject" "program" "I" true := ff_1 cf_3 (by decide) rfl
theorem ff_6_2 : ff_ cl_ tb_ [6] 2 "java/util/AbstractList" "modCount" "I" false := ff_1 cf_6 (by decide) rfl
theorem ff_6_0 : ff_ cl_ tb_ [6] 0 "java/util/ArrayList" "elementData" "[Ljava/lang/Object;" false := ff_1 cf_6 (by decide) rfl
theorem ff_7_0 : ff_ cl_ tb_ [7] 0 "PromiseVats$Channel" "messages" "Ljava/util/ArrayList;" true := ff_1 cf_7 (by decide) rfl
theorem ff_5_1 : ff_ cl_ tb_ [5] 1 "PromiseVats$Vat" "calls" "Ljava/util/ArrayList;" true := ff_1 cf_5 (by decide) rfl
theorem ff_5_3 : ff_ cl_ tb_ [5] 3 "PromiseVats$Vat" "latest" "[I" true := ff_1 cf_5 (by decide) rfl
theorem ff_5_0 : ff_ cl_ tb_ [5] 0 "PromiseVats$Vat" "root" "LPromiseVats$VatObject;" true := ff_1 cf_5 (by decide) rfl
theorem ff_5_2 : ff_ cl_ tb_ [5] 2 "PromiseVats$Vat" "channels" "[LPromiseVats$Channel;" true := ff_1 cf_5 (by decide) rfl
theorem ff_0_0 : ff_ cl_ tb_ [0] 0 "PromiseVats" "vats" "[LPromiseVats$Vat;" true := ff_1 cf_0 (by decide) rfl
theorem ff_0_1 : ff_ cl_ tb_ [0] 1 "PromiseVats" "programs" "[LPromiseVats$Program;" true := ff_1 cf_0 (by decide) rfl
theorem ff_0_2 : ff_ cl_ tb_ [0] 2 "PromiseVats" "entities" "[LPromiseVats$Entity;" true := ff_1 cf_0 (by decide) rfl
theorem ff_0_5 : ff_ cl_ tb_ [0] 5 "PromiseVats" "running" "LPromiseVats$Turn;" true := ff_1 cf_0 (by decide) rfl
theorem ff_0_6 : ff_ cl_ tb_ [0] 6 "PromiseVats" "lost" "[LPromiseVats$Promise;" true := ff_1 cf_0 (by decide) rfl
theorem ff_0_8 : ff_ cl_ tb_ [0] 8 "PromiseVats" "found" "[LPromiseVats$Entity;" true := ff_1 cf_0 (by decide) rfl
theorem ff_0_3 : ff_ cl_ tb_ [0] 3 "PromiseVats" "objectsMade" "I" false := ff_1 cf_0 (by decide) rfl
theorem ff_2_2 : ff_ cl_ tb_ [2] 2 "PromiseVats$Program" "length" "I" false := ff_1 cf_2 (by decide) rfl
theorem ff_3_7 : ff_ cl_ tb_ [3] 7 "PromiseVats$Entity" "exports" "[I" true := ff_1 cf_3 (by decide) rfl
theorem ff_3_8 : ff_ cl_ tb_ [3] 8 "PromiseVats$Entity" "imports" "[I" true := ff_1 cf_3 (by decide) rfl
theorem ff_6_1 : ff_ cl_ tb_ [6] 1 "java/util/ArrayList" "size" "I" false := ff_1 cf_6 (by decide) rfl
theorem ff_8_0 : ff_ cl_ tb_ [8] 0 "PromiseVats$Call" "target" "LPromiseVats$Entity;" false := ff_1 cf_8 (by decide) rfl
theorem ff_8_1 : ff_ cl_ tb_ [8] 1 "PromiseVats$Call" "value" "I" true := ff_1 cf_8 (by decide) rfl
theorem ff_8_2 : ff_ cl_ tb_ [8] 2 "PromiseVats$Call" "argument" "LPromiseVats$Entity;" true := ff_1 cf_8 (by decide) rfl
theorem ff_8_3 : ff_ cl_ tb_ [8] 3 "PromiseVats$Call" "answe\x72" "LPromiseVats$Promise;" true := ff_1 cf_8 (by decide) rfl
theorem ff_0_7 : ff_ cl_ tb_ [0] 7 "PromiseVats" "lostCount" "I" false := ff_1 cf_0 (by decide) rfl
theorem ff_4_2 : ff_ cl_ tb_ [4] 2 "PromiseVats$Promise" "waiting" "Ljava/util/ArrayList;" true := ff_1 cf_4 (by decide) rfl
theorem ff_9_0 : ff_ cl_ tb_ [9] 0 "PromiseVats$Message" "kind" "I" true := ff_1 cf_9 (by decide) rfl
theorem ff_9_1 : ff_ cl_ tb_ [9] 1 "PromiseVats$Message" "subject" "LPromiseVats$Entity;" true := ff_1 cf_9 (by decide) rfl
theorem ff_9_2 : ff_ cl_ tb_ [9] 2 "PromiseVats$Message" "argument" "LPromiseVats$Entity;" true := ff_1 cf_9 (by decide) rfl
theorem ff_9_3 : ff_ cl_ tb_ [9] 3 "PromiseVats$Message" "amount" "I" true := ff_1 cf_9 (by decide) rfl
theorem ff_9_4 : ff_ cl_ tb_ [9] 4 "PromiseVats$Message" "call" "LPromiseVats$Call;" false := ff_1 cf_9 (by decide) rfl
theorem ff_4_0 : ff_ cl_ tb_ [4] 0 "PromiseVats$Promise" "open" "Z" false := ff_1 cf_4 (by decide) rfl
theorem ff_4_1 : ff_ cl_ tb_ [4] 1 "PromiseVats$Promise" "outcome" "LPromiseVats$Entity;" false := ff_1 cf_4 (by decide) rfl
theorem ff_1_0 : ff_ cl_ tb_ [1] 0 "PromiseVats$Turn" "self" "LPromiseVats$VatObject;" false := ff_1 cf_1 (by decide) rfl
theorem ff_1_1 : ff_ cl_ tb_ [1] 1 "PromiseVats$Turn" "value" "I" false := ff_1 cf_1 (by decide) rfl
theorem ff_1_2 : ff_ cl_ tb_ [1] 2 "PromiseVats$Turn" "reference" "LPromiseVats$Entity;" false := ff_1 cf_1 (by decide) rfl
theorem ff_1_3 : ff_ cl_ tb_ [1] 3 "PromiseVats$Turn" "skips" "I" false := ff_1 cf_1 (by decide) rfl
theorem ff_3_4 : ff_ cl_ tb_ [3] 4 "PromiseVats$Entity" "home" "I" true := ff_1 cf_3 (by decide) rfl
theorem ff_3_1 : ff_ cl_ tb_ [3] 1 "PromiseVats$VatObject" "amount" "I" false := ff_1 cf_3 (by decide) rfl
theorem ff_3_3 : ff_ cl_ tb_ [3] 3 "PromiseVats$Entity" "id" "I" true := ff_1 cf_3 (by decide) rfl
theorem ff_0_4 : ff_ cl_ tb_ [0] 4 "PromiseVats" "promisesMade" "I" false := ff_1 cf_0 (by decide) rfl
theorem ff_4_3 : ff_ cl_ tb_ [4] 3 "PromiseVats$Entity" "id" "I" true := ff_1 cf_4 (by decide) rfl
theorem ff_4_7 : ff_ cl_ tb_ [4] 7 "PromiseVats$Entity" "exports" "[I" true := ff_1 cf_4 (by decide) rfl
theorem ff_4_8 : ff_ cl_ tb_ [4] 8 "PromiseVats$Entity" "imports" "[I" true := ff_1 cf_4 (by decide) rfl
theorem ff_5_4 : ff_ cl_ tb_ [5] 4 "PromiseVats$Vat" "outputs" "I" false := ff_1 cf_5 (by decide) rfl
theorem ff_4_4 : ff_ cl_ tb_ [4] 4 "PromiseVats$Entity" "home" "I" true := ff_1 cf_4 (by decide) rfl
theorem ff_4_5 : ff_ cl_ tb_ [4] 5 "PromiseVats$Entity" "freed" "Z" false := ff_1 cf_4 (by decide) rfl
theorem ff_3_4_6 : ff_ cl_ tb_ [3, 4] 6 "PromiseVats$Entity" "reached" "Z" false := ff_c cf_3 (by decide) rfl (ff_1 cf_4 (by decide) rfl)
theorem ff_0_9 : ff_ cl_ tb_ [0] 9 "PromiseVats" "foundCount" "I" false := ff_1 cf_0 (by decide) rfl
theorem ff_3_4_5 : ff_ cl_ tb_ [3, 4] 5 "PromiseVats$Entity" "freed" "Z" false := ff_c cf_3 (by decide) rfl (ff_1 cf_4 (by decide) rfl)
theorem ff_10_3 : ff_ cl_ tb_ [10] 3 "PromiseVatsModel" "sizes" "[I" true := ff_1 cf_10 (by decide) rfl
theorem ff_10_4 : ff_ cl_ tb_ [10] 4 "PromiseVatsModel" "ops" "[I" true := ff_1 cf_10 (by decide) rfl
theorem ff_10_5 : ff_ cl_ tb_ [10] 5 "PromiseVatsModel" "args" "[I" true := ff_1 cf_10 (by decide) rfl
theorem ff_10_6 : ff_ cl_ tb_ [10] 6 "PromiseVatsModel" "home" "[B" true := ff_1 cf_10 (by decide) rfl
theorem ff_10_7 : ff_ cl_ tb_ [10] 7 "PromiseVatsModel" "gone" "[Z" true := ff_1 cf_10 (by decide) rfl
theorem ff_10_8 : ff_ cl_ tb_ [10] 8 "PromiseVatsModel" "settled" "[Z" true := ff_1 cf_10 (by decide) rfl
theorem ff_10_9 : ff_ cl_ tb_ [10] 9 "PromiseVatsModel" "to" "[I" true := ff_1 cf_10 (by decide) rfl
theorem ff_10_10 : ff_ cl_ tb_ [10] 10 "PromiseVatsModel" "reached" "[Z" true := ff_1 cf_10 (by decide) rfl
theorem ff_10_11 : ff_ cl_ tb_ [10] 11 "PromiseVatsModel" "programs" "[B" true := ff_1 cf_10 (by decide) rfl
theorem ff_10_12 : ff_ cl_ tb_ [10] 12 "PromiseVatsModel" "numbers" "[I" true := ff_1 cf_10 (by decide) rfl
theorem ff_10_13 : ff_ cl_ tb_ [10] 13 "PromiseVatsModel" "slots" "[I" true := ff_1 cf_10 (by decide) rfl
theorem ff_10_15 : ff_ cl_ tb_ [10] 15 "PromiseVatsModel" "exports" "[I" true := ff_1 cf_10 (by decide) rfl
theorem ff_10_16 : ff_ cl_ tb_ [10] 16 "PromiseVatsModel" "imports" "[I" true := ff_1 cf_10 (by decide) rfl
theorem ff_10_17 : ff_ cl_ tb_ [10] 17 "PromiseVatsModel" "owed" "[I" true := ff_1 cf_10 (by decide) rfl
theorem ff_10_19 : ff_ cl_ tb_ [10] 19 "PromiseVatsModel" "place" "[I" true := ff_1 cf_10 (by decide) rfl
theorem ff_10_20 : ff_ cl_ tb_ [10] 20 "PromiseVatsModel" "target" "[I" true := ff_1 cf_10 (by decide) rfl
theorem ff_10_21 : ff_ cl_ tb_ [10] 21 "PromiseVatsModel" "value" "[I" true := ff_1 cf_10 (by decide) rfl
theorem ff_10_22 : ff_ cl_ tb_ [10] 22 "PromiseVatsModel" "argument" "[I" true := ff_1 cf_10 (by decide) rfl
theorem ff_10_23 : ff_ cl_ tb_ [10] 23 "PromiseVatsModel" "answe\x72" "[I" true := ff_1 cf_10 (by decide) rfl
theorem ff_10_25 : ff_ cl_ tb_ [10] 25 "PromiseVatsModel" "head" "[B" true := ff_1 cf_10 (by decide) rfl
theorem ff_10_26 : ff_ cl_ tb_ [10] 26 "PromiseVatsModel" "about" "[S" true := ff_1 cf_10 (by decide) rfl
theorem ff_10_27 : ff_ cl_ tb_ [10] 27 "PromiseVatsModel" "load" "[I" true := ff_1 cf_10 (by decide) rfl
theorem ff_10_28 : ff_ cl_ tb_ [10] 28 "PromiseVatsModel" "carry" "[S" true := ff_1 cf_10 (by decide) rfl
theorem ff_10_29 : ff_ cl_ tb_ [10] 29 "PromiseVatsModel" "back" "[S" true := ff_1 cf_10 (by decide) rfl
theorem ff_10_31 : ff_ cl_ tb_ [10] 31 "PromiseVatsModel" "losers" "[I" true := ff_1 cf_10 (by decide) rfl
theorem ff_10_32 : ff_ cl_ tb_ [10] 32 "PromiseVatsModel" "outs" "[I" true := ff_1 cf_10 (by decide) rfl
theorem ff_10_33 : ff_ cl_ tb_ [10] 33 "PromiseVatsModel" "out" "[I" true := ff_1 cf_10 (by decide) rfl
theorem ff_10_0 : ff_ cl_ tb_ [10] 0 "PromiseVatsModel" "vats" "I" true := ff_1 cf_10 (by decide) rfl
theorem ff_10_1 : ff_ cl_ tb_ [10] 1 "PromiseVatsModel" "objects" "I" false := ff_1 cf_10 (by decide) rfl
theorem ff_10_24 : ff_ cl_ tb_ [10] 24 "PromiseVatsModel" "mails" "I" false := ff_1 cf_10 (by decide) rfl
theorem ff_10_18 : ff_ cl_ tb_ [10] 18 "PromiseVatsModel" "resting" "I" false := ff_1 cf_10 (by decide) rfl
theorem ff_10_30 : ff_ cl_ tb_ [10] 30 "PromiseVatsModel" "lost" "I" false := ff_1 cf_10 (by decide) rfl
theorem ff_10_34 : ff_ cl_ tb_ [10] 34 "PromiseVatsModel" "v" "I" false := ff_1 cf_10 (by decide) rfl
theorem ff_10_35 : ff_ cl_ tb_ [10] 35 "PromiseVatsModel" "\x72" "I" false := ff_1 cf_10 (by decide) rfl
theorem ff_10_2 : ff_ cl_ tb_ [10] 2 "PromiseVatsModel" "promises" "I" false := ff_1 cf_10 (by decide) rfl
theorem ff_10_14 : ff_ cl_ tb_ [10] 14 "PromiseVatsModel" "marked" "Z" false := ff_1 cf_10 (by decide) rfl
theorem se_0 : ∀ ci ∈ ([0] : List Nat), ∃ q : vw_C, cl_[ci]? = some q ∧ Cond.selects q.1 ⟨"PromiseVats", "isVat", "(I)Z"⟩ ⟨"PromiseVats", "isVat", "(I)Z"⟩ ∈ tb_ := by
  intro ci h
  simp only [List.mem_cons, List.not_mem_nil, or_false] at h
  rcases h with rfl
  · exact ⟨_, rfl, tw_113⟩
theorem se_1 : ∀ ci ∈ ([6] : List Nat), ∃ q : vw_C, cl_[ci]? = some q ∧ Cond.selects q.1 ⟨"java/util/ArrayList", "grow", "(I)[Ljava/lang/Object;"⟩ ⟨"java/util/ArrayList", "grow", "(I)[Ljava/lang/Object;"⟩ ∈ tb_ := by
  intro ci h
  simp only [List.mem_cons, List.not_mem_nil, or_false] at h
  rcases h with rfl
  · exact ⟨_, rfl, tw_154⟩
theorem se_2 : ∀ ci ∈ ([6] : List Nat), ∃ q : vw_C, cl_[ci]? = some q ∧ Cond.selects q.1 ⟨"java/util/ArrayList", "grow", "()[Ljava/lang/Object;"⟩ ⟨"java/util/ArrayList", "grow", "()[Ljava/lang/Object;"⟩ ∈ tb_ := by
  intro ci h
  simp only [List.mem_cons, List.not_mem_nil, or_false] at h
  rcases h with rfl
  · exact ⟨_, rfl, tw_158⟩
theorem se_3 : ∀ ci ∈ ([6] : List Nat), ∃ q : vw_C, cl_[ci]? = some q ∧ Cond.selects q.1 ⟨"java/util/ArrayList", "add", "(Ljava/lang/Object;[Ljava/lang/Object;I)V"⟩ ⟨"java/util/ArrayList", "add", "(Ljava/lang/Object;[Ljava/lang/Object;I)V"⟩ ∈ tb_ := by
  intro ci h
  simp only [List.mem_cons, List.not_mem_nil, or_false] at h
  rcases h with rfl
  · exact ⟨_, rfl, tw_162⟩
theorem se_4 : ∀ ci ∈ ([6] : List Nat), ∃ q : vw_C, cl_[ci]? = some q ∧ Cond.selects q.1 ⟨"java/util/ArrayList", "add", "(Ljava/lang/Object;)Z"⟩ ⟨"java/util/ArrayList", "add", "(Ljava/lang/Object;)Z"⟩ ∈ tb_ := by
  intro ci h
  simp only [List.mem_cons, List.not_mem_nil, or_false] at h
  rcases h with rfl
  · exact ⟨_, rfl, tw_168⟩
theorem se_5 : ∀ ci ∈ ([0] : List Nat), ∃ q : vw_C, cl_[ci]? = some q ∧ Cond.selects q.1 ⟨"PromiseVats", "lose", "(LPromiseVats$Call;)V"⟩ ⟨"PromiseVats", "lose", "(LPromiseVats$Call;)V"⟩ ∈ tb_ := by
  intro ci h
  simp only [List.mem_cons, List.not_mem_nil, or_false] at h
  rcases h with rfl
  · exact ⟨_, rfl, tw_173⟩
theorem se_6 : ∀ ci ∈ ([6] : List Nat), ∃ q : vw_C, cl_[ci]? = some q ∧ Cond.selects q.1 ⟨"java/util/ArrayList", "size", "()I"⟩ ⟨"java/util/ArrayList", "size", "()I"⟩ ∈ tb_ := by
  intro ci h
  simp only [List.mem_cons, List.not_mem_nil, or_false] at h
  rcases h with rfl
  · exact ⟨_, rfl, tw_177⟩
theorem se_7 : ∀ ci ∈ ([0] : List Nat), ∃ q : vw_C, cl_[ci]? = some q ∧ Cond.selects q.1 ⟨"PromiseVats", "post", "(IILPromiseVats$Message;)V"⟩ ⟨"PromiseVats", "post", "(IILPromiseVats$Message;)V"⟩ ∈ tb_ := by
  intro ci h
  simp only [List.mem_cons, List.not_mem_nil, or_false] at h
  rcases h with rfl
  · exact ⟨_, rfl, tw_189⟩
theorem se_8 : ∀ ci ∈ ([0] : List Nat), ∃ q : vw_C, cl_[ci]? = some q ∧ Cond.selects q.1 ⟨"PromiseVats", "packArgument", "(LPromiseVats$Entity;II)V"⟩ ⟨"PromiseVats", "packArgument", "(LPromiseVats$Entity;II)V"⟩ ∈ tb_ := by
  intro ci h
  simp only [List.mem_cons, List.not_mem_nil, or_false] at h
  rcases h with rfl
  · exact ⟨_, rfl, tw_203⟩
theorem se_9 : ∀ ci ∈ ([0] : List Nat), ∃ q : vw_C, cl_[ci]? = some q ∧ Cond.selects q.1 ⟨"PromiseVats", "postCall", "(LPromiseVats$Call;I)V"⟩ ⟨"PromiseVats", "postCall", "(LPromiseVats$Call;I)V"⟩ ∈ tb_ := by
  intro ci h
  simp only [List.mem_cons, List.not_mem_nil, or_false] at h
  rcases h with rfl
  · exact ⟨_, rfl, tw_208⟩
theorem se_10 : ∀ ci ∈ ([0] : List Nat), ∃ q : vw_C, cl_[ci]? = some q ∧ Cond.selects q.1 ⟨"PromiseVats", "waitAt", "(LPromiseVats$Promise;LPromiseVats$Call;)V"⟩ ⟨"PromiseVats", "waitAt", "(LPromiseVats$Promise;LPromiseVats$Call;)V"⟩ ∈ tb_ := by
  intro ci h
  simp only [List.mem_cons, List.not_mem_nil, or_false] at h
  rcases h with rfl
  · exact ⟨_, rfl, tw_213⟩
theorem se_11 : ∀ ci ∈ ([0] : List Nat), ∃ q : vw_C, cl_[ci]? = some q ∧ Cond.selects q.1 ⟨"PromiseVats", "arrive", "(LPromiseVats$Call;I)V"⟩ ⟨"PromiseVats", "arrive", "(LPromiseVats$Call;I)V"⟩ ∈ tb_ := by
  intro ci h
  simp only [List.mem_cons, List.not_mem_nil, or_false] at h
  rcases h with rfl
  · exact ⟨_, rfl, tw_218⟩
theorem se_12 : ∀ ci ∈ ([6] : List Nat), ∃ q : vw_C, cl_[ci]? = some q ∧ Cond.selects q.1 ⟨"java/util/ArrayList", "fastRemove", "([Ljava/lang/Object;I)V"⟩ ⟨"java/util/ArrayList", "fastRemove", "([Ljava/lang/Object;I)V"⟩ ∈ tb_ := by
  intro ci h
  simp only [List.mem_cons, List.not_mem_nil, or_false] at h
  rcases h with rfl
  · exact ⟨_, rfl, tw_233⟩
theorem se_13 : ∀ ci ∈ ([0] : List Nat), ∃ q : vw_C, cl_[ci]? = some q ∧ Cond.selects q.1 ⟨"PromiseVats", "makeObject", "(LPromiseVats$Turn;I)LPromiseVats$VatObject;"⟩ ⟨"PromiseVats", "makeObject", "(LPromiseVats$Turn;I)LPromiseVats$VatObject;"⟩ ∈ tb_ := by
  intro ci h
  simp only [List.mem_cons, List.not_mem_nil, or_false] at h
  rcases h with rfl
  · exact ⟨_, rfl, tw_274⟩
theorem se_14 : ∀ ci ∈ ([0] : List Nat), ∃ q : vw_C, cl_[ci]? = some q ∧ Cond.selects q.1 ⟨"PromiseVats", "callFrom", "(LPromiseVats$Turn;LPromiseVats$Entity;)LPromiseVats$Promise;"⟩ ⟨"PromiseVats", "callFrom", "(LPromiseVats$Turn;LPromiseVats$Entity;)LPromiseVats$Promise;"⟩ ∈ tb_ := by
  intro ci h
  simp only [List.mem_cons, List.not_mem_nil, or_false] at h
  rcases h with rfl
  · exact ⟨_, rfl, tw_278⟩
theorem se_15 : ∀ ci ∈ ([5] : List Nat), ∃ q : vw_C, cl_[ci]? = some q ∧ Cond.selects q.1 ⟨"PromiseVats$Vat", "putOut", "(I)V"⟩ ⟨"PromiseVats$Vat", "putOut", "(I)V"⟩ ∈ tb_ := by
  intro ci h
  simp only [List.mem_cons, List.not_mem_nil, or_false] at h
  rcases h with rfl
  · exact ⟨_, rfl, tw_282⟩
theorem se_16 : ∀ ci ∈ ([6] : List Nat), ∃ q : vw_C, cl_[ci]? = some q ∧ Cond.selects q.1 ⟨"java/util/ArrayList", "elementData", "(I)Ljava/lang/Object;"⟩ ⟨"java/util/ArrayList", "elementData", "(I)Ljava/lang/Object;"⟩ ∈ tb_ := by
  intro ci h
  simp only [List.mem_cons, List.not_mem_nil, or_false] at h
  rcases h with rfl
  · exact ⟨_, rfl, tw_289⟩
theorem se_17 : ∀ ci ∈ ([6] : List Nat), ∃ q : vw_C, cl_[ci]? = some q ∧ Cond.selects q.1 ⟨"java/util/ArrayList", "get", "(I)Ljava/lang/Object;"⟩ ⟨"java/util/ArrayList", "get", "(I)Ljava/lang/Object;"⟩ ∈ tb_ := by
  intro ci h
  simp only [List.mem_cons, List.not_mem_nil, or_false] at h
  rcases h with rfl
  · exact ⟨_, rfl, tw_298⟩
theorem se_18 : ∀ ci ∈ ([6] : List Nat), ∃ q : vw_C, cl_[ci]? = some q ∧ Cond.selects q.1 ⟨"java/util/ArrayList", "clea\x72", "()V"⟩ ⟨"java/util/ArrayList", "clea\x72", "()V"⟩ ∈ tb_ := by
  intro ci h
  simp only [List.mem_cons, List.not_mem_nil, or_false] at h
  rcases h with rfl
  · exact ⟨_, rfl, tw_302⟩
theorem se_19 : ∀ ci ∈ ([0] : List Nat), ∃ q : vw_C, cl_[ci]? = some q ∧ Cond.selects q.1 ⟨"PromiseVats", "resolveIn", "(ILPromiseVats$Promise;LPromiseVats$Entity;)V"⟩ ⟨"PromiseVats", "resolveIn", "(ILPromiseVats$Promise;LPromiseVats$Entity;)V"⟩ ∈ tb_ := by
  intro ci h
  simp only [List.mem_cons, List.not_mem_nil, or_false] at h
  rcases h with rfl
  · exact ⟨_, rfl, tw_306⟩
theorem se_20 : ∀ ci ∈ ([1] : List Nat), ∃ q : vw_C, cl_[ci]? = some q ∧ Cond.selects q.1 ⟨"PromiseVats$Turn", "begin", "(LPromiseVats$VatObject;LPromiseVats$Call;)V"⟩ ⟨"PromiseVats$Turn", "begin", "(LPromiseVats$VatObject;LPromiseVats$Call;)V"⟩ ∈ tb_ := by
  intro ci h
  simp only [List.mem_cons, List.not_mem_nil, or_false] at h
  rcases h with rfl
  · exact ⟨_, rfl, tw_311⟩
theorem se_21 : ∀ ci ∈ ([6] : List Nat), ∃ q : vw_C, cl_[ci]? = some q ∧ Cond.selects q.1 ⟨"java/util/ArrayList", "remove", "(I)Ljava/lang/Object;"⟩ ⟨"java/util/ArrayList", "remove", "(I)Ljava/lang/Object;"⟩ ∈ tb_ := by
  intro ci h
  simp only [List.mem_cons, List.not_mem_nil, or_false] at h
  rcases h with rfl
  · exact ⟨_, rfl, tw_315⟩
theorem se_22 : ∀ ci ∈ ([6] : List Nat), ∃ q : vw_C, cl_[ci]? = some q ∧ Cond.selects q.1 ⟨"java/util/ArrayList", "isEmpty", "()Z"⟩ ⟨"java/util/ArrayList", "isEmpty", "()Z"⟩ ∈ tb_ := by
  intro ci h
  simp only [List.mem_cons, List.not_mem_nil, or_false] at h
  rcases h with rfl
  · exact ⟨_, rfl, tw_319⟩
theorem se_23 : ∀ ci ∈ ([0] : List Nat), ∃ q : vw_C, cl_[ci]? = some q ∧ Cond.selects q.1 ⟨"PromiseVats", "settleLost", "(I)V"⟩ ⟨"PromiseVats", "settleLost", "(I)V"⟩ ∈ tb_ := by
  intro ci h
  simp only [List.mem_cons, List.not_mem_nil, or_false] at h
  rcases h with rfl
  · exact ⟨_, rfl, tw_323⟩
theorem se_24 : ∀ ci ∈ ([0] : List Nat), ∃ q : vw_C, cl_[ci]? = some q ∧ Cond.selects q.1 ⟨"PromiseVats", "perform", "(LPromiseVats$Turn;II)V"⟩ ⟨"PromiseVats", "perform", "(LPromiseVats$Turn;II)V"⟩ ∈ tb_ := by
  intro ci h
  simp only [List.mem_cons, List.not_mem_nil, or_false] at h
  rcases h with rfl
  · exact ⟨_, rfl, tw_327⟩
theorem se_25 : ∀ ci ∈ ([0] : List Nat), ∃ q : vw_C, cl_[ci]? = some q ∧ Cond.selects q.1 ⟨"PromiseVats", "takeMessage", "(LPromiseVats$Message;II)V"⟩ ⟨"PromiseVats", "takeMessage", "(LPromiseVats$Message;II)V"⟩ ∈ tb_ := by
  intro ci h
  simp only [List.mem_cons, List.not_mem_nil, or_false] at h
  rcases h with rfl
  · exact ⟨_, rfl, tw_343⟩
theorem se_26 : ∀ ci ∈ ([0] : List Nat), ∃ q : vw_C, cl_[ci]? = some q ∧ Cond.selects q.1 ⟨"PromiseVats", "unpackArgument", "(LPromiseVats$Entity;II)V"⟩ ⟨"PromiseVats", "unpackArgument", "(LPromiseVats$Entity;II)V"⟩ ∈ tb_ := by
  intro ci h
  simp only [List.mem_cons, List.not_mem_nil, or_false] at h
  rcases h with rfl
  · exact ⟨_, rfl, tw_347⟩
theorem se_27 : ∀ ci ∈ ([0] : List Nat), ∃ q : vw_C, cl_[ci]? = some q ∧ Cond.selects q.1 ⟨"PromiseVats", "flying", "(II)I"⟩ ⟨"PromiseVats", "flying", "(II)I"⟩ ∈ tb_ := by
  intro ci h
  simp only [List.mem_cons, List.not_mem_nil, or_false] at h
  rcases h with rfl
  · exact ⟨_, rfl, tw_351⟩
theorem se_28 : ∀ ci ∈ ([3, 4] : List Nat), ∃ q : vw_C, cl_[ci]? = some q ∧ Cond.selects q.1 ⟨"PromiseVats$Entity", "unpaired", "(I)I"⟩ ⟨"PromiseVats$Entity", "unpaired", "(I)I"⟩ ∈ tb_ := by
  intro ci h
  simp only [List.mem_cons, List.not_mem_nil, or_false] at h
  rcases h with rfl | rfl
  · exact ⟨_, rfl, tw_359⟩
  · exact ⟨_, rfl, tw_360⟩
theorem se_29 : ∀ ci ∈ ([3, 4] : List Nat), ∃ q : vw_C, cl_[ci]? = some q ∧ Cond.selects q.1 ⟨"PromiseVats$Entity", "isExported", "()Z"⟩ ⟨"PromiseVats$Entity", "isExported", "()Z"⟩ ∈ tb_ := by
  intro ci h
  simp only [List.mem_cons, List.not_mem_nil, or_false] at h
  rcases h with rfl | rfl
  · exact ⟨_, rfl, tw_365⟩
  · exact ⟨_, rfl, tw_366⟩
theorem se_30 : ∀ ci ∈ ([4] : List Nat), ∃ q : vw_C, cl_[ci]? = some q ∧ Cond.selects q.1 ⟨"PromiseVats$Promise", "unpaired", "(I)I"⟩ ⟨"PromiseVats$Entity", "unpaired", "(I)I"⟩ ∈ tb_ := by
  intro ci h
  simp only [List.mem_cons, List.not_mem_nil, or_false] at h
  rcases h with rfl
  · exact ⟨_, rfl, tw_370⟩
theorem se_31 : ∀ ci ∈ ([4] : List Nat), ∃ q : vw_C, cl_[ci]? = some q ∧ Cond.selects q.1 ⟨"PromiseVats$Promise", "isExported", "()Z"⟩ ⟨"PromiseVats$Entity", "isExported", "()Z"⟩ ∈ tb_ := by
  intro ci h
  simp only [List.mem_cons, List.not_mem_nil, or_false] at h
  rcases h with rfl
  · exact ⟨_, rfl, tw_373⟩
theorem se_32 : ∀ ci ∈ ([0] : List Nat), ∃ q : vw_C, cl_[ci]? = some q ∧ Cond.selects q.1 ⟨"PromiseVats", "reach", "(LPromiseVats$Entity;)V"⟩ ⟨"PromiseVats", "reach", "(LPromiseVats$Entity;)V"⟩ ∈ tb_ := by
  intro ci h
  simp only [List.mem_cons, List.not_mem_nil, or_false] at h
  rcases h with rfl
  · exact ⟨_, rfl, tw_377⟩
theorem se_33 : ∀ ci ∈ ([3] : List Nat), ∃ q : vw_C, cl_[ci]? = some q ∧ Cond.selects q.1 ⟨"PromiseVats$Entity", "isWanted", "()Z"⟩ ⟨"PromiseVats$Entity", "isWanted", "()Z"⟩ ∈ tb_ := by
  intro ci h
  simp only [List.mem_cons, List.not_mem_nil, or_false] at h
  rcases h with rfl
  · exact ⟨_, rfl, tw_382⟩
theorem se_34 : ∀ ci ∈ ([4] : List Nat), ∃ q : vw_C, cl_[ci]? = some q ∧ Cond.selects q.1 ⟨"PromiseVats$Entity", "isWanted", "()Z"⟩ ⟨"PromiseVats$Promise", "isWanted", "()Z"⟩ ∈ tb_ := by
  intro ci h
  simp only [List.mem_cons, List.not_mem_nil, or_false] at h
  rcases h with rfl
  · exact ⟨_, rfl, tw_385⟩
theorem se_35 : ∀ ci ∈ ([0] : List Nat), ∃ q : vw_C, cl_[ci]? = some q ∧ Cond.selects q.1 ⟨"PromiseVats", "reachCalls", "(Ljava/util/ArrayList;)V"⟩ ⟨"PromiseVats", "reachCalls", "(Ljava/util/ArrayList;)V"⟩ ∈ tb_ := by
  intro ci h
  simp only [List.mem_cons, List.not_mem_nil, or_false] at h
  rcases h with rfl
  · exact ⟨_, rfl, tw_390⟩
theorem se_36 : ∀ ci ∈ ([0] : List Nat), ∃ q : vw_C, cl_[ci]? = some q ∧ Cond.selects q.1 ⟨"PromiseVats", "reachWanted", "(I)V"⟩ ⟨"PromiseVats", "reachWanted", "(I)V"⟩ ∈ tb_ := by
  intro ci h
  simp only [List.mem_cons, List.not_mem_nil, or_false] at h
  rcases h with rfl
  · exact ⟨_, rfl, tw_394⟩
theorem se_37 : ∀ ci ∈ ([0] : List Nat), ∃ q : vw_C, cl_[ci]? = some q ∧ Cond.selects q.1 ⟨"PromiseVats", "reachInside", "(LPromiseVats$Entity;)V"⟩ ⟨"PromiseVats", "reachInside", "(LPromiseVats$Entity;)V"⟩ ∈ tb_ := by
  intro ci h
  simp only [List.mem_cons, List.not_mem_nil, or_false] at h
  rcases h with rfl
  · exact ⟨_, rfl, tw_398⟩
theorem se_38 : ∀ ci ∈ ([0] : List Nat), ∃ q : vw_C, cl_[ci]? = some q ∧ Cond.selects q.1 ⟨"PromiseVats", "releaseUnreached", "(I)V"⟩ ⟨"PromiseVats", "releaseUnreached", "(I)V"⟩ ∈ tb_ := by
  intro ci h
  simp only [List.mem_cons, List.not_mem_nil, or_false] at h
  rcases h with rfl
  · exact ⟨_, rfl, tw_402⟩
theorem se_39 : ∀ ci ∈ ([0] : List Nat), ∃ q : vw_C, cl_[ci]? = some q ∧ Cond.selects q.1 ⟨"PromiseVats", "freeUnreached", "(I)I"⟩ ⟨"PromiseVats", "freeUnreached", "(I)I"⟩ ∈ tb_ := by
  intro ci h
  simp only [List.mem_cons, List.not_mem_nil, or_false] at h
  rcases h with rfl
  · exact ⟨_, rfl, tw_406⟩
theorem se_40 : ∀ ci ∈ ([0] : List Nat), ∃ q : vw_C, cl_[ci]? = some q ∧ Cond.selects q.1 ⟨"PromiseVats", "findReached", "(I)V"⟩ ⟨"PromiseVats", "findReached", "(I)V"⟩ ∈ tb_ := by
  intro ci h
  simp only [List.mem_cons, List.not_mem_nil, or_false] at h
  rcases h with rfl
  · exact ⟨_, rfl, tw_410⟩
theorem se_41 : ∀ ci ∈ ([0] : List Nat), ∃ q : vw_C, cl_[ci]? = some q ∧ Cond.selects q.1 ⟨"PromiseVats", "madeEntity", "(I)LPromiseVats$Entity;"⟩ ⟨"PromiseVats", "madeEntity", "(I)LPromiseVats$Entity;"⟩ ∈ tb_ := by
  intro ci h
  simp only [List.mem_cons, List.not_mem_nil, or_false] at h
  rcases h with rfl
  · exact ⟨_, rfl, tw_425⟩
theorem se_42 : ∀ ci ∈ ([0] : List Nat), ∃ q : vw_C, cl_[ci]? = some q ∧ Cond.selects q.1 ⟨"PromiseVats", "liveEntity", "(I)LPromiseVats$Entity;"⟩ ⟨"PromiseVats", "liveEntity", "(I)LPromiseVats$Entity;"⟩ ∈ tb_ := by
  intro ci h
  simp only [List.mem_cons, List.not_mem_nil, or_false] at h
  rcases h with rfl
  · exact ⟨_, rfl, tw_429⟩
theorem se_43 : ∀ ci ∈ ([10] : List Nat), ∃ q : vw_C, cl_[ci]? = some q ∧ Cond.selects q.1 ⟨"PromiseVatsModel", "post", "(IIIIII)V"⟩ ⟨"PromiseVatsModel", "post", "(IIIIII)V"⟩ ∈ tb_ := by
  intro ci h
  simp only [List.mem_cons, List.not_mem_nil, or_false] at h
  rcases h with rfl
  · exact ⟨_, rfl, tw_473⟩
theorem se_44 : ∀ ci ∈ ([10] : List Nat), ∃ q : vw_C, cl_[ci]? = some q ∧ Cond.selects q.1 ⟨"PromiseVatsModel", "passes", "(II)Z"⟩ ⟨"PromiseVatsModel", "passes", "(II)Z"⟩ ∈ tb_ := by
  intro ci h
  simp only [List.mem_cons, List.not_mem_nil, or_false] at h
  rcases h with rfl
  · exact ⟨_, rfl, tw_478⟩
theorem se_45 : ∀ ci ∈ ([10] : List Nat), ∃ q : vw_C, cl_[ci]? = some q ∧ Cond.selects q.1 ⟨"PromiseVatsModel", "waits", "(I)I"⟩ ⟨"PromiseVatsModel", "waits", "(I)I"⟩ ∈ tb_ := by
  intro ci h
  simp only [List.mem_cons, List.not_mem_nil, or_false] at h
  rcases h with rfl
  · exact ⟨_, rfl, tw_482⟩
theorem se_46 : ∀ ci ∈ ([10] : List Nat), ∃ q : vw_C, cl_[ci]? = some q ∧ Cond.selects q.1 ⟨"PromiseVatsModel", "pack", "(III)V"⟩ ⟨"PromiseVatsModel", "pack", "(III)V"⟩ ∈ tb_ := by
  intro ci h
  simp only [List.mem_cons, List.not_mem_nil, or_false] at h
  rcases h with rfl
  · exact ⟨_, rfl, tw_486⟩
theorem se_47 : ∀ ci ∈ ([10] : List Nat), ∃ q : vw_C, cl_[ci]? = some q ∧ Cond.selects q.1 ⟨"PromiseVatsModel", "rest", "(IIIII)V"⟩ ⟨"PromiseVatsModel", "rest", "(IIIII)V"⟩ ∈ tb_ := by
  intro ci h
  simp only [List.mem_cons, List.not_mem_nil, or_false] at h
  rcases h with rfl
  · exact ⟨_, rfl, tw_490⟩
theorem se_48 : ∀ ci ∈ ([10] : List Nat), ∃ q : vw_C, cl_[ci]? = some q ∧ Cond.selects q.1 ⟨"PromiseVatsModel", "go", "(IIIII)V"⟩ ⟨"PromiseVatsModel", "go", "(IIIII)V"⟩ ∈ tb_ := by
  intro ci h
  simp only [List.mem_cons, List.not_mem_nil, or_false] at h
  rcases h with rfl
  · exact ⟨_, rfl, tw_495⟩
theorem se_49 : ∀ ci ∈ ([10] : List Nat), ∃ q : vw_C, cl_[ci]? = some q ∧ Cond.selects q.1 ⟨"PromiseVatsModel", "unrest", "(I)V"⟩ ⟨"PromiseVatsModel", "unrest", "(I)V"⟩ ∈ tb_ := by
  intro ci h
  simp only [List.mem_cons, List.not_mem_nil, or_false] at h
  rcases h with rfl
  · exact ⟨_, rfl, tw_499⟩
theorem se_50 : ∀ ci ∈ ([10] : List Nat), ∃ q : vw_C, cl_[ci]? = some q ∧ Cond.selects q.1 ⟨"PromiseVatsModel", "settle", "(III)V"⟩ ⟨"PromiseVatsModel", "settle", "(III)V"⟩ ∈ tb_ := by
  intro ci h
  simp only [List.mem_cons, List.not_mem_nil, or_false] at h
  rcases h with rfl
  · exact ⟨_, rfl, tw_503⟩
theorem se_51 : ∀ ci ∈ ([10] : List Nat), ∃ q : vw_C, cl_[ci]? = some q ∧ Cond.selects q.1 ⟨"PromiseVatsModel", "unpack", "(III)V"⟩ ⟨"PromiseVatsModel", "unpack", "(III)V"⟩ ∈ tb_ := by
  intro ci h
  simp only [List.mem_cons, List.not_mem_nil, or_false] at h
  rcases h with rfl
  · exact ⟨_, rfl, tw_507⟩
theorem se_52 : ∀ ci ∈ ([10] : List Nat), ∃ q : vw_C, cl_[ci]? = some q ∧ Cond.selects q.1 ⟨"PromiseVatsModel", "unmail", "(I)V"⟩ ⟨"PromiseVatsModel", "unmail", "(I)V"⟩ ∈ tb_ := by
  intro ci h
  simp only [List.mem_cons, List.not_mem_nil, or_false] at h
  rcases h with rfl
  · exact ⟨_, rfl, tw_511⟩
theorem se_53 : ∀ ci ∈ ([10] : List Nat), ∃ q : vw_C, cl_[ci]? = some q ∧ Cond.selects q.1 ⟨"PromiseVatsModel", "oldest", "(I)I"⟩ ⟨"PromiseVatsModel", "oldest", "(I)I"⟩ ∈ tb_ := by
  intro ci h
  simp only [List.mem_cons, List.not_mem_nil, or_false] at h
  rcases h with rfl
  · exact ⟨_, rfl, tw_515⟩
theorem se_54 : ∀ ci ∈ ([10] : List Nat), ∃ q : vw_C, cl_[ci]? = some q ∧ Cond.selects q.1 ⟨"PromiseVatsModel", "vat", "(I)Z"⟩ ⟨"PromiseVatsModel", "vat", "(I)Z"⟩ ∈ tb_ := by
  intro ci h
  simp only [List.mem_cons, List.not_mem_nil, or_false] at h
  rcases h with rfl
  · exact ⟨_, rfl, tw_519⟩
theorem se_55 : ∀ ci ∈ ([10] : List Nat), ∃ q : vw_C, cl_[ci]? = some q ∧ Cond.selects q.1 ⟨"PromiseVatsModel", "pai\x72", "(IIII)V"⟩ ⟨"PromiseVatsModel", "pai\x72", "(IIII)V"⟩ ∈ tb_ := by
  intro ci h
  simp only [List.mem_cons, List.not_mem_nil, or_false] at h
  rcases h with rfl
  · exact ⟨_, rfl, tw_523⟩
theorem se_56 : ∀ ci ∈ ([10] : List Nat), ∃ q : vw_C, cl_[ci]? = some q ∧ Cond.selects q.1 ⟨"PromiseVatsModel", "mourn", "(I)V"⟩ ⟨"PromiseVatsModel", "mourn", "(I)V"⟩ ∈ tb_ := by
  intro ci h
  simp only [List.mem_cons, List.not_mem_nil, or_false] at h
  rcases h with rfl
  · exact ⟨_, rfl, tw_527⟩
theorem se_57 : ∀ ci ∈ ([10] : List Nat), ∃ q : vw_C, cl_[ci]? = some q ∧ Cond.selects q.1 ⟨"PromiseVatsModel", "inbox", "(I)I"⟩ ⟨"PromiseVatsModel", "inbox", "(I)I"⟩ ∈ tb_ := by
  intro ci h
  simp only [List.mem_cons, List.not_mem_nil, or_false] at h
  rcases h with rfl
  · exact ⟨_, rfl, tw_531⟩
theorem se_58 : ∀ ci ∈ ([10] : List Nat), ∃ q : vw_C, cl_[ci]? = some q ∧ Cond.selects q.1 ⟨"PromiseVatsModel", "fresh", "(II)I"⟩ ⟨"PromiseVatsModel", "fresh", "(II)I"⟩ ∈ tb_ := by
  intro ci h
  simp only [List.mem_cons, List.not_mem_nil, or_false] at h
  rcases h with rfl
  · exact ⟨_, rfl, tw_538⟩
theorem se_59 : ∀ ci ∈ ([10] : List Nat), ∃ q : vw_C, cl_[ci]? = some q ∧ Cond.selects q.1 ⟨"PromiseVatsModel", "send", "(II)I"⟩ ⟨"PromiseVatsModel", "send", "(II)I"⟩ ∈ tb_ := by
  intro ci h
  simp only [List.mem_cons, List.not_mem_nil, or_false] at h
  rcases h with rfl
  · exact ⟨_, rfl, tw_542⟩
theorem se_60 : ∀ ci ∈ ([10] : List Nat), ∃ q : vw_C, cl_[ci]? = some q ∧ Cond.selects q.1 ⟨"PromiseVatsModel", "put", "(I)V"⟩ ⟨"PromiseVatsModel", "put", "(I)V"⟩ ∈ tb_ := by
  intro ci h
  simp only [List.mem_cons, List.not_mem_nil, or_false] at h
  rcases h with rfl
  · exact ⟨_, rfl, tw_546⟩
theorem se_61 : ∀ ci ∈ ([10] : List Nat), ∃ q : vw_C, cl_[ci]? = some q ∧ Cond.selects q.1 ⟨"PromiseVatsModel", "act", "(IIII)I"⟩ ⟨"PromiseVatsModel", "act", "(IIII)I"⟩ ∈ tb_ := by
  intro ci h
  simp only [List.mem_cons, List.not_mem_nil, or_false] at h
  rcases h with rfl
  · exact ⟨_, rfl, tw_550⟩
theorem se_62 : ∀ ci ∈ ([10] : List Nat), ∃ q : vw_C, cl_[ci]? = some q ∧ Cond.selects q.1 ⟨"PromiseVatsModel", "made", "(I)Z"⟩ ⟨"PromiseVatsModel", "made", "(I)Z"⟩ ∈ tb_ := by
  intro ci h
  simp only [List.mem_cons, List.not_mem_nil, or_false] at h
  rcases h with rfl
  · exact ⟨_, rfl, tw_554⟩
theorem se_63 : ∀ ci ∈ ([10] : List Nat), ∃ q : vw_C, cl_[ci]? = some q ∧ Cond.selects q.1 ⟨"PromiseVatsModel", "lives", "(I)Z"⟩ ⟨"PromiseVatsModel", "lives", "(I)Z"⟩ ∈ tb_ := by
  intro ci h
  simp only [List.mem_cons, List.not_mem_nil, or_false] at h
  rcases h with rfl
  · exact ⟨_, rfl, tw_559⟩
theorem se_64 : ∀ ci ∈ ([10] : List Nat), ∃ q : vw_C, cl_[ci]? = some q ∧ Cond.selects q.1 ⟨"PromiseVatsModel", "mark", "(I)V"⟩ ⟨"PromiseVatsModel", "mark", "(I)V"⟩ ∈ tb_ := by
  intro ci h
  simp only [List.mem_cons, List.not_mem_nil, or_false] at h
  rcases h with rfl
  · exact ⟨_, rfl, tw_563⟩
theorem se_65 : ∀ ci ∈ ([10] : List Nat), ∃ q : vw_C, cl_[ci]? = some q ∧ Cond.selects q.1 ⟨"PromiseVatsModel", "rooted", "(II)Z"⟩ ⟨"PromiseVatsModel", "rooted", "(II)Z"⟩ ∈ tb_ := by
  intro ci h
  simp only [List.mem_cons, List.not_mem_nil, or_false] at h
  rcases h with rfl
  · exact ⟨_, rfl, tw_567⟩
theorem se_66 : ∀ ci ∈ ([10] : List Nat), ∃ q : vw_C, cl_[ci]? = some q ∧ Cond.selects q.1 ⟨"PromiseVatsModel", "spread", "(I)V"⟩ ⟨"PromiseVatsModel", "spread", "(I)V"⟩ ∈ tb_ := by
  intro ci h
  simp only [List.mem_cons, List.not_mem_nil, or_false] at h
  rcases h with rfl
  · exact ⟨_, rfl, tw_571⟩
theorem se_67 : ∀ ci ∈ ([10] : List Nat), ∃ q : vw_C, cl_[ci]? = some q ∧ Cond.selects q.1 ⟨"PromiseVatsModel", "counts", "(III)Z"⟩ ⟨"PromiseVatsModel", "counts", "(III)Z"⟩ ∈ tb_ := by
  intro ci h
  simp only [List.mem_cons, List.not_mem_nil, or_false] at h
  rcases h with rfl
  · exact ⟨_, rfl, tw_575⟩
end
section
/-! PromiseVatsModel.<init>(I)V -/
theorem dd_mm_init_0 : decode prog_12_method_1_code 0 = .ok (.aload_n 0, 1) := by decide +kernel
theorem dd_mm_init_1 : decode prog_12_method_1_code 1 = .ok (.invokespecial 1, 3) := by decide +kernel
theorem dd_mm_init_4 : decode prog_12_method_1_code 4 = .ok (.aload_n 0, 1) := by decide +kernel
theorem dd_mm_init_5 : decode prog_12_method_1_code 5 = .ok (.bipush 8, 2) := by decide +kernel
theorem dd_mm_init_7 : decode prog_12_method_1_code 7 = .ok (.newarray .int, 2) := by decide +kernel
theorem dd_mm_init_9 : decode prog_12_method_1_code 9 = .ok (.putfield 7, 3) := by decide +kernel
theorem dd_mm_init_12 : decode prog_12_method_1_code 12 = .ok (.aload_n 0, 1) := by decide +kernel
theorem dd_mm_init_13 : decode prog_12_method_1_code 13 = .ok (.bipush 64, 2) := by decide +kernel
theorem dd_mm_init_15 : decode prog_12_method_1_code 15 = .ok (.newarray .int, 2) := by decide +kernel
theorem dd_mm_init_17 : decode prog_12_method_1_code 17 = .ok (.putfield 13, 3) := by decide +kernel
theorem dd_mm_init_20 : decode prog_12_method_1_code 20 = .ok (.aload_n 0, 1) := by decide +kernel
theorem dd_mm_init_21 : decode prog_12_method_1_code 21 = .ok (.bipush 64, 2) := by decide +kernel
theorem dd_mm_init_23 : decode prog_12_method_1_code 23 = .ok (.newarray .int, 2) := by decide +kernel
theorem dd_mm_init_25 : decode prog_12_method_1_code 25 = .ok (.putfield 16, 3) := by decide +kernel
theorem dd_mm_init_28 : decode prog_12_method_1_code 28 = .ok (.aload_n 0, 1) := by decide +kernel
theorem dd_mm_init_29 : decode prog_12_method_1_code 29 = .ok (.sipush 201, 3) := by decide +kernel
theorem dd_mm_init_32 : decode prog_12_method_1_code 32 = .ok (.newarray .byte, 2) := by decide +kernel
theorem dd_mm_init_34 : decode prog_12_method_1_code 34 = .ok (.putfield 19, 3) := by decide +kernel
theorem dd_mm_init_37 : decode prog_12_method_1_code 37 = .ok (.aload_n 0, 1) := by decide +kernel
theorem dd_mm_init_38 : decode prog_12_method_1_code 38 = .ok (.sipush 201, 3) := by decide +kernel
theorem dd_mm_init_41 : decode prog_12_method_1_code 41 = .ok (.newarray .boolean, 2) := by decide +kernel
theorem dd_mm_init_43 : decode prog_12_method_1_code 43 = .ok (.putfield 23, 3) := by decide +kernel
theorem dd_mm_init_46 : decode prog_12_method_1_code 46 = .ok (.aload_n 0, 1) := by decide +kernel
theorem dd_mm_init_47 : decode prog_12_method_1_code 47 = .ok (.sipush 201, 3) := by decide +kernel
theorem dd_mm_init_50 : decode prog_12_method_1_code 50 = .ok (.newarray .boolean, 2) := by decide +kernel
theorem dd_mm_init_52 : decode prog_12_method_1_code 52 = .ok (.putfield 27, 3) := by decide +kernel
theorem dd_mm_init_55 : decode prog_12_method_1_code 55 = .ok (.aload_n 0, 1) := by decide +kernel
theorem dd_mm_init_56 : decode prog_12_method_1_code 56 = .ok (.sipush 201, 3) := by decide +kernel
theorem dd_mm_init_59 : decode prog_12_method_1_code 59 = .ok (.newarray .int, 2) := by decide +kernel
theorem dd_mm_init_61 : decode prog_12_method_1_code 61 = .ok (.putfield 30, 3) := by decide +kernel
theorem dd_mm_init_64 : decode prog_12_method_1_code 64 = .ok (.aload_n 0, 1) := by decide +kernel
theorem dd_mm_init_65 : decode prog_12_method_1_code 65 = .ok (.sipush 201, 3) := by decide +kernel
theorem dd_mm_init_68 : decode prog_12_method_1_code 68 = .ok (.newarray .boolean, 2) := by decide +kernel
theorem dd_mm_init_70 : decode prog_12_method_1_code 70 = .ok (.putfield 33, 3) := by decide +kernel
theorem dd_mm_init_73 : decode prog_12_method_1_code 73 = .ok (.aload_n 0, 1) := by decide +kernel
theorem dd_mm_init_74 : decode prog_12_method_1_code 74 = .ok (.bipush 61, 2) := by decide +kernel
theorem dd_mm_init_76 : decode prog_12_method_1_code 76 = .ok (.newarray .byte, 2) := by decide +kernel
theorem dd_mm_init_78 : decode prog_12_method_1_code 78 = .ok (.putfield 36, 3) := by decide +kernel
theorem dd_mm_init_81 : decode prog_12_method_1_code 81 = .ok (.aload_n 0, 1) := by decide +kernel
theorem dd_mm_init_82 : decode prog_12_method_1_code 82 = .ok (.bipush 61, 2) := by decide +kernel
theorem dd_mm_init_84 : decode prog_12_method_1_code 84 = .ok (.newarray .int, 2) := by decide +kernel
theorem dd_mm_init_86 : decode prog_12_method_1_code 86 = .ok (.putfield 39, 3) := by decide +kernel
theorem dd_mm_init_89 : decode prog_12_method_1_code 89 = .ok (.aload_n 0, 1) := by decide +kernel
theorem dd_mm_init_90 : decode prog_12_method_1_code 90 = .ok (.sipush 244, 3) := by decide +kernel
theorem dd_mm_init_93 : decode prog_12_method_1_code 93 = .ok (.newarray .int, 2) := by decide +kernel
theorem dd_mm_init_95 : decode prog_12_method_1_code 95 = .ok (.putfield 42, 3) := by decide +kernel
theorem dd_mm_init_98 : decode prog_12_method_1_code 98 = .ok (.aload_n 0, 1) := by decide +kernel
theorem dd_mm_init_99 : decode prog_12_method_1_code 99 = .ok (.sipush 804, 3) := by decide +kernel
theorem dd_mm_init_102 : decode prog_12_method_1_code 102 = .ok (.newarray .int, 2) := by decide +kernel
theorem dd_mm_init_104 : decode prog_12_method_1_code 104 = .ok (.putfield 45, 3) := by decide +kernel
theorem dd_mm_init_107 : decode prog_12_method_1_code 107 = .ok (.aload_n 0, 1) := by decide +kernel
theorem dd_mm_init_108 : decode prog_12_method_1_code 108 = .ok (.sipush 804, 3) := by decide +kernel
theorem dd_mm_init_111 : decode prog_12_method_1_code 111 = .ok (.newarray .int, 2) := by decide +kernel
theorem dd_mm_init_113 : decode prog_12_method_1_code 113 = .ok (.putfield 48, 3) := by decide +kernel
theorem dd_mm_init_116 : decode prog_12_method_1_code 116 = .ok (.aload_n 0, 1) := by decide +kernel
theorem dd_mm_init_117 : decode prog_12_method_1_code 117 = .ok (.sipush 3216, 3) := by decide +kernel
theorem dd_mm_init_120 : decode prog_12_method_1_code 120 = .ok (.newarray .int, 2) := by decide +kernel
theorem dd_mm_init_122 : decode prog_12_method_1_code 122 = .ok (.putfield 51, 3) := by decide +kernel
theorem dd_mm_init_125 : decode prog_12_method_1_code 125 = .ok (.aload_n 0, 1) := by decide +kernel
theorem dd_mm_init_126 : decode prog_12_method_1_code 126 = .ok (.sipush 200, 3) := by decide +kernel
theorem dd_mm_init_129 : decode prog_12_method_1_code 129 = .ok (.newarray .int, 2) := by decide +kernel
theorem dd_mm_init_131 : decode prog_12_method_1_code 131 = .ok (.putfield 54, 3) := by decide +kernel
theorem dd_mm_init_134 : decode prog_12_method_1_code 134 = .ok (.aload_n 0, 1) := by decide +kernel
theorem dd_mm_init_135 : decode prog_12_method_1_code 135 = .ok (.sipush 200, 3) := by decide +kernel
theorem dd_mm_init_138 : decode prog_12_method_1_code 138 = .ok (.newarray .int, 2) := by decide +kernel
theorem dd_mm_init_140 : decode prog_12_method_1_code 140 = .ok (.putfield 57, 3) := by decide +kernel
theorem dd_mm_init_143 : decode prog_12_method_1_code 143 = .ok (.aload_n 0, 1) := by decide +kernel
theorem dd_mm_init_144 : decode prog_12_method_1_code 144 = .ok (.sipush 200, 3) := by decide +kernel
theorem dd_mm_init_147 : decode prog_12_method_1_code 147 = .ok (.newarray .int, 2) := by decide +kernel
theorem dd_mm_init_149 : decode prog_12_method_1_code 149 = .ok (.putfield 60, 3) := by decide +kernel
theorem dd_mm_init_152 : decode prog_12_method_1_code 152 = .ok (.aload_n 0, 1) := by decide +kernel
theorem dd_mm_init_153 : decode prog_12_method_1_code 153 = .ok (.sipush 200, 3) := by decide +kernel
theorem dd_mm_init_156 : decode prog_12_method_1_code 156 = .ok (.newarray .int, 2) := by decide +kernel
theorem dd_mm_init_158 : decode prog_12_method_1_code 158 = .ok (.putfield 63, 3) := by decide +kernel
theorem dd_mm_init_161 : decode prog_12_method_1_code 161 = .ok (.aload_n 0, 1) := by decide +kernel
theorem dd_mm_init_162 : decode prog_12_method_1_code 162 = .ok (.sipush 200, 3) := by decide +kernel
theorem dd_mm_init_165 : decode prog_12_method_1_code 165 = .ok (.newarray .int, 2) := by decide +kernel
theorem dd_mm_init_167 : decode prog_12_method_1_code 167 = .ok (.putfield 66, 3) := by decide +kernel
theorem dd_mm_init_170 : decode prog_12_method_1_code 170 = .ok (.aload_n 0, 1) := by decide +kernel
theorem dd_mm_init_171 : decode prog_12_method_1_code 171 = .ok (.sipush 2100, 3) := by decide +kernel
theorem dd_mm_init_174 : decode prog_12_method_1_code 174 = .ok (.newarray .byte, 2) := by decide +kernel
theorem dd_mm_init_176 : decode prog_12_method_1_code 176 = .ok (.putfield 69, 3) := by decide +kernel
theorem dd_mm_init_179 : decode prog_12_method_1_code 179 = .ok (.aload_n 0, 1) := by decide +kernel
theorem dd_mm_init_180 : decode prog_12_method_1_code 180 = .ok (.sipush 2100, 3) := by decide +kernel
theorem dd_mm_init_183 : decode prog_12_method_1_code 183 = .ok (.newarray .short, 2) := by decide +kernel
theorem dd_mm_init_185 : decode prog_12_method_1_code 185 = .ok (.putfield 72, 3) := by decide +kernel
theorem dd_mm_init_188 : decode prog_12_method_1_code 188 = .ok (.aload_n 0, 1) := by decide +kernel
theorem dd_mm_init_189 : decode prog_12_method_1_code 189 = .ok (.sipush 2100, 3) := by decide +kernel
theorem dd_mm_init_192 : decode prog_12_method_1_code 192 = .ok (.newarray .int, 2) := by decide +kernel
theorem dd_mm_init_194 : decode prog_12_method_1_code 194 = .ok (.putfield 76, 3) := by decide +kernel
theorem dd_mm_init_197 : decode prog_12_method_1_code 197 = .ok (.aload_n 0, 1) := by decide +kernel
theorem dd_mm_init_198 : decode prog_12_method_1_code 198 = .ok (.sipush 2100, 3) := by decide +kernel
theorem dd_mm_init_201 : decode prog_12_method_1_code 201 = .ok (.newarray .short, 2) := by decide +kernel
theorem dd_mm_init_203 : decode prog_12_method_1_code 203 = .ok (.putfield 79, 3) := by decide +kernel
theorem dd_mm_init_206 : decode prog_12_method_1_code 206 = .ok (.aload_n 0, 1) := by decide +kernel
theorem dd_mm_init_207 : decode prog_12_method_1_code 207 = .ok (.sipush 2100, 3) := by decide +kernel
theorem dd_mm_init_210 : decode prog_12_method_1_code 210 = .ok (.newarray .short, 2) := by decide +kernel
theorem dd_mm_init_212 : decode prog_12_method_1_code 212 = .ok (.putfield 82, 3) := by decide +kernel
theorem dd_mm_init_215 : decode prog_12_method_1_code 215 = .ok (.aload_n 0, 1) := by decide +kernel
theorem dd_mm_init_216 : decode prog_12_method_1_code 216 = .ok (.bipush 101, 2) := by decide +kernel
theorem dd_mm_init_218 : decode prog_12_method_1_code 218 = .ok (.newarray .int, 2) := by decide +kernel
theorem dd_mm_init_220 : decode prog_12_method_1_code 220 = .ok (.putfield 85, 3) := by decide +kernel
theorem dd_mm_init_223 : decode prog_12_method_1_code 223 = .ok (.aload_n 0, 1) := by decide +kernel
theorem dd_mm_init_224 : decode prog_12_method_1_code 224 = .ok (.iconst 4, 1) := by decide +kernel
theorem dd_mm_init_225 : decode prog_12_method_1_code 225 = .ok (.newarray .int, 2) := by decide +kernel
theorem dd_mm_init_227 : decode prog_12_method_1_code 227 = .ok (.putfield 88, 3) := by decide +kernel
theorem dd_mm_init_230 : decode prog_12_method_1_code 230 = .ok (.aload_n 0, 1) := by decide +kernel
theorem dd_mm_init_231 : decode prog_12_method_1_code 231 = .ok (.bipush 40, 2) := by decide +kernel
theorem dd_mm_init_233 : decode prog_12_method_1_code 233 = .ok (.newarray .int, 2) := by decide +kernel
theorem dd_mm_init_235 : decode prog_12_method_1_code 235 = .ok (.putfield 91, 3) := by decide +kernel
theorem dd_mm_init_238 : decode prog_12_method_1_code 238 = .ok (.aload_n 0, 1) := by decide +kernel
theorem dd_mm_init_239 : decode prog_12_method_1_code 239 = .ok (.iload_n 1, 1) := by decide +kernel
theorem dd_mm_init_240 : decode prog_12_method_1_code 240 = .ok (.iconst 2, 1) := by decide +kernel
theorem dd_mm_init_241 : decode prog_12_method_1_code 241 = .ok (.if_icmp .ge 7, 3) := by decide +kernel
theorem dd_mm_init_244 : decode prog_12_method_1_code 244 = .ok (.iconst 2, 1) := by decide +kernel
theorem dd_mm_init_245 : decode prog_12_method_1_code 245 = .ok (.goto 13, 3) := by decide +kernel
theorem dd_mm_init_248 : decode prog_12_method_1_code 248 = .ok (.iload_n 1, 1) := by decide +kernel
theorem dd_mm_init_249 : decode prog_12_method_1_code 249 = .ok (.iconst 4, 1) := by decide +kernel
theorem dd_mm_init_250 : decode prog_12_method_1_code 250 = .ok (.if_icmp .le 7, 3) := by decide +kernel
theorem dd_mm_init_253 : decode prog_12_method_1_code 253 = .ok (.iconst 4, 1) := by decide +kernel
theorem dd_mm_init_254 : decode prog_12_method_1_code 254 = .ok (.goto 4, 3) := by decide +kernel
theorem dd_mm_init_257 : decode prog_12_method_1_code 257 = .ok (.iload_n 1, 1) := by decide +kernel
theorem dd_mm_init_258 : decode prog_12_method_1_code 258 = .ok (.putfield 94, 3) := by decide +kernel
theorem dd_mm_init_261 : decode prog_12_method_1_code 261 = .ok (.iconst 0, 1) := by decide +kernel
theorem dd_mm_init_262 : decode prog_12_method_1_code 262 = .ok (.istore_n 2, 1) := by decide +kernel
theorem dd_mm_init_263 : decode prog_12_method_1_code 263 = .ok (.iload_n 2, 1) := by decide +kernel
theorem dd_mm_init_264 : decode prog_12_method_1_code 264 = .ok (.aload_n 0, 1) := by decide +kernel
theorem dd_mm_init_265 : decode prog_12_method_1_code 265 = .ok (.getfield 94, 3) := by decide +kernel
theorem dd_mm_init_268 : decode prog_12_method_1_code 268 = .ok (.if_icmp .ge 41, 3) := by decide +kernel
theorem dd_mm_init_271 : decode prog_12_method_1_code 271 = .ok (.aload_n 0, 1) := by decide +kernel
theorem dd_mm_init_272 : decode prog_12_method_1_code 272 = .ok (.dup, 1) := by decide +kernel
theorem dd_mm_init_273 : decode prog_12_method_1_code 273 = .ok (.getfield 98, 3) := by decide +kernel
theorem dd_mm_init_276 : decode prog_12_method_1_code 276 = .ok (.iconst 1, 1) := by decide +kernel
theorem dd_mm_init_277 : decode prog_12_method_1_code 277 = .ok (.iadd, 1) := by decide +kernel
theorem dd_mm_init_278 : decode prog_12_method_1_code 278 = .ok (.putfield 98, 3) := by decide +kernel
theorem dd_mm_init_281 : decode prog_12_method_1_code 281 = .ok (.aload_n 0, 1) := by decide +kernel
theorem dd_mm_init_282 : decode prog_12_method_1_code 282 = .ok (.getfield 19, 3) := by decide +kernel
theorem dd_mm_init_285 : decode prog_12_method_1_code 285 = .ok (.aload_n 0, 1) := by decide +kernel
theorem dd_mm_init_286 : decode prog_12_method_1_code 286 = .ok (.getfield 98, 3) := by decide +kernel
theorem dd_mm_init_289 : decode prog_12_method_1_code 289 = .ok (.iload_n 2, 1) := by decide +kernel
theorem dd_mm_init_290 : decode prog_12_method_1_code 290 = .ok (.i2b, 1) := by decide +kernel
theorem dd_mm_init_291 : decode prog_12_method_1_code 291 = .ok (.bastore, 1) := by decide +kernel
theorem dd_mm_init_292 : decode prog_12_method_1_code 292 = .ok (.aload_n 0, 1) := by decide +kernel
theorem dd_mm_init_293 : decode prog_12_method_1_code 293 = .ok (.getfield 36, 3) := by decide +kernel
theorem dd_mm_init_296 : decode prog_12_method_1_code 296 = .ok (.aload_n 0, 1) := by decide +kernel
theorem dd_mm_init_297 : decode prog_12_method_1_code 297 = .ok (.getfield 98, 3) := by decide +kernel
theorem dd_mm_init_300 : decode prog_12_method_1_code 300 = .ok (.iload_n 2, 1) := by decide +kernel
theorem dd_mm_init_301 : decode prog_12_method_1_code 301 = .ok (.i2b, 1) := by decide +kernel
theorem dd_mm_init_302 : decode prog_12_method_1_code 302 = .ok (.bastore, 1) := by decide +kernel
theorem dd_mm_init_303 : decode prog_12_method_1_code 303 = .ok (.iinc 2 1, 3) := by decide +kernel
theorem dd_mm_init_306 : decode prog_12_method_1_code 306 = .ok (.goto (-43), 3) := by decide +kernel
theorem dd_mm_init_309 : decode prog_12_method_1_code 309 = .ok (.return_, 1) := by decide +kernel
set_option maxHeartbeats 4000000 in
set_option maxRecDepth 100000 in
theorem kb_mm_init_b263 {p : Program} {l : Launch} {e : Env} {s : State} {m : MethodId} {args : Array Value} {below : List Frame} {meth : Method} {c : Code} {D : va_G} {ac : Nat → ClassId} {a0 : Nat} {gl : gl_T} {rF : Unit} {stF : st_S} {iT jT : Nat}
    (X : cx_ p s m args c prog_12_method_1_code 3 "PromiseVatsModel" tb_ D cl_ (ty_ ac)) (hKs : kn_ D ac a0 gl s) (hlk : meth.locks = false) (hret : meth.sig.returnType = (Option.none : Option FieldType)) (hnm : meth.name = "<init>") : wk_ p l e 1 12 s m args below meth c D cl_ ac a0 3 vb_u rF stF iT jT 263 (fun x : Option Nat × Int32 => [(0, (va_rf x.1)), (2, (.int x.2))]) (fun x : Option Nat × Int32 => []) (st_it (fun rec263 => (fun x : Option Nat × Int32 => mm_init_b263 gl rec263 x.1 x.2)) fu_) := by
  refine wk_it ?_ _
  intro rec263 hr263 x st H locs cells slots i j ls hw hl h hci hcj
  obtain ⟨p0, p2⟩ := x
  have h : mm_init_b263 gl rec263 p0 p2 st = some (rF, stF, i, j) := h
  unfold mm_init_b263 at h
  have hl : lh_ ls 3 [(0, (va_rf p0)), (2, (.int p2))] := hl
  refine W.eq (g2 := F0 m 263 ls []) rfl ?_
  refine lv_iload_n X.1 X.2.1 dd_mm_init_263 rfl (lv_at hl.1 1 rfl) ?_
  refine rr_aldn X dd_mm_init_264 rfl (lv_at hl.1 0 rfl) ?_
  obtain ⟨t192, ht192, h⟩ := st_g_some h
  refine rr_geti X hw ff_10_0 ht192 tw_466 (Or.inl rfl) dd_mm_init_265 ?_
  by_cases hc268 : t192 ≤ p2
  · rw [if_pos hc268] at h
    refine lv_icmp_ge (tgt := 309) X.1 X.2.1 dd_mm_init_268 (by decide) (fun _ => ?_) (fun z => absurd hc268 z)
    obtain ⟨rfl, rfl, rfl, rfl⟩ := st_r_some h
    exact rr_vret X hw hlk hret hci hcj dd_mm_init_309
  · rw [if_neg hc268] at h
    refine lv_icmp_ge (tgt := 309) X.1 X.2.1 dd_mm_init_268 (by decide) (fun z => absurd z hc268) (fun _ => ?_)
    refine rr_aldn X dd_mm_init_271 rfl (lv_at hl.1 0 rfl) ?_
    refine lv_dup X.1 X.2.1 dd_mm_init_272 (rf_cat _) ?_
    obtain ⟨t193, ht193, h⟩ := st_g_some h
    refine rr_geti X hw ff_10_1 ht193 tw_467 (Or.inl rfl) dd_mm_init_273 ?_
    refine lv_iconst (v := (1 : Int32)) X.1 X.2.1 dd_mm_init_276 (by decide) ?_
    refine lv_iadd X.1 X.2.1 dd_mm_init_277 ?_
    obtain ⟨t194, hp278, h⟩ := st_w_some h
    refine rr_put (ty := .int) X hw ff_10_1 hp278 tw_467 (Or.inl rfl) (by decide +kernel) rfl rfl dd_mm_init_278 (fun H locs hw => ?_)
    refine rr_aldn X dd_mm_init_281 rfl (lv_at hl.1 0 rfl) ?_
    obtain ⟨t195, ht195, h⟩ := st_g_some h
    refine rr_getq X hw ff_10_6 ht195 tw_461 (Or.inl rfl) dd_mm_init_282 ?_
    refine rr_aldn X dd_mm_init_285 rfl (lv_at hl.1 0 rfl) ?_
    obtain ⟨t196, ht196, h⟩ := st_g_some h
    refine rr_geti X hw ff_10_1 ht196 tw_467 (Or.inl rfl) dd_mm_init_286 ?_
    refine lv_iload_n X.1 X.2.1 dd_mm_init_289 rfl (lv_at hl.1 1 rfl) ?_
    refine lv_i2b (v := (p2.toInt8.toInt32)) X.1 X.2.1 dd_mm_init_290 rfl ?_
    obtain ⟨t197, hp291, h⟩ := st_w_some h
    refine rr_bast (t := 1) X hw rfl hp291 dd_mm_init_291 (fun H locs hw => ?_)
    refine rr_aldn X dd_mm_init_292 rfl (lv_at hl.1 0 rfl) ?_
    obtain ⟨t198, ht198, h⟩ := st_g_some h
    refine rr_getq X hw ff_10_11 ht198 tw_456 (Or.inl rfl) dd_mm_init_293 ?_
    refine rr_aldn X dd_mm_init_296 rfl (lv_at hl.1 0 rfl) ?_
    obtain ⟨t199, ht199, h⟩ := st_g_some h
    refine rr_geti X hw ff_10_1 ht199 tw_467 (Or.inl rfl) dd_mm_init_297 ?_
    refine lv_iload_n X.1 X.2.1 dd_mm_init_300 rfl (lv_at hl.1 1 rfl) ?_
    refine lv_i2b (v := (p2.toInt8.toInt32)) X.1 X.2.1 dd_mm_init_301 rfl ?_
    obtain ⟨t200, hp302, h⟩ := st_w_some h
    refine rr_bast (t := 1) X hw rfl hp302 dd_mm_init_302 (fun H locs hw => ?_)
    refine rr_iinc (k := 1) (v := (p2 + (1 : Int32))) (lv' := [(2, (.int (p2 + (1 : Int32)))), (0, (va_rf p0))]) X dd_mm_init_303 hl rfl (by rw [show Int32.ofInt (1) = (1 : Int32) from by decide]) (by decide) rfl (fun ls hl => ?_)
    refine lv_goto (tgt := 263) X.1 X.2.1 dd_mm_init_306 (by decide) ?_
    exact hr263 (p0, (p2 + (1 : Int32))) _ _ _ _ _ _ _ _ hw (lh_pk hl [1, 0] rfl) h hci hcj
set_option maxHeartbeats 4000000 in
set_option maxRecDepth 100000 in
theorem kb_mm_init_b258 {p : Program} {l : Launch} {e : Env} {s : State} {m : MethodId} {args : Array Value} {below : List Frame} {meth : Method} {c : Code} {D : va_G} {ac : Nat → ClassId} {a0 : Nat} {gl : gl_T} {rF : Unit} {stF : st_S} {iT jT : Nat}
    (X : cx_ p s m args c prog_12_method_1_code 3 "PromiseVatsModel" tb_ D cl_ (ty_ ac)) (hKs : kn_ D ac a0 gl s) (hlk : meth.locks = false) (hret : meth.sig.returnType = (Option.none : Option FieldType)) (hnm : meth.name = "<init>") : wk_ p l e 1 12 s m args below meth c D cl_ ac a0 3 vb_u rF stF iT jT 258 (fun x : Option Nat × Int32 × Option Nat => [(0, (va_rf x.1))]) (fun x : Option Nat × Int32 × Option Nat => [(.int x.2.1), (va_rf x.2.2)]) (fun x : Option Nat × Int32 × Option Nat => mm_init_b258 gl x.1 x.2.1 x.2.2) := by
  intro x st H locs cells slots i j ls hw hl h hci hcj
  obtain ⟨p0, q0, q1⟩ := x
  have h : mm_init_b258 gl p0 q0 q1 st = some (rF, stF, i, j) := h
  unfold mm_init_b258 at h
  have hl : lh_ ls 3 [(0, (va_rf p0))] := hl
  refine W.eq (g2 := F0 m 258 ls [(.int q0), (va_rf q1)]) rfl ?_
  obtain ⟨t191, hp258, h⟩ := st_w_some h
  refine rr_putF (ty := .int) X hw ff_10_0 hp258 tw_466 hnm (by decide +kernel) rfl rfl dd_mm_init_258 (fun H locs hw => ?_)
  refine lv_iconst (v := (0 : Int32)) X.1 X.2.1 dd_mm_init_261 (by decide) ?_
  refine rr_istn (lv' := [(2, (.int (0 : Int32))), (0, (va_rf p0))]) X dd_mm_init_262 rfl hl (by decide) rfl (fun ls hl => ?_)
  exact (kb_mm_init_b263 X hKs hlk hret hnm) (p0, (0 : Int32)) _ _ _ _ _ _ _ _ hw (lh_pk hl [1, 0] rfl) h hci hcj
set_option maxHeartbeats 4000000 in
set_option maxRecDepth 100000 in
theorem kc_mm_init (l : Launch) (D : va_G) (ac : Nat → ClassId) (a0 : Nat) (gl : gl_T) (v0 : Option Nat) (v1 : Int32) (st : st_S) (rF : Unit) (stF : st_S) (iT jT : Nat) (h : mm_init gl v0 v1 st = some (rF, stF, iT, jT)) :
    ct_ l ⟨"PromiseVatsModel", "<init>", "(I)V"⟩ (Cond.code ⟨"PromiseVatsModel", "<init>", "(I)V"⟩ prog_12_method_1_code 3 (Option.none : Option FieldType) :: tb_) 1 12 D cl_ ac a0 (kn_ D ac a0 gl) [(va_rf v0), (.int v1)] st (vb_u rF) stF iT jT := by
  refine ct_of (kn_ok D ac a0 gl) (plainFor_of_name (by decide +kernel)) (by simp [rf_cat, ic_cat]) (by simp) ?_
  intro p e s m args below meth c ls X hw hKs hlk hret hnm hl
  unfold mm_init at h
  have hl : lh_ ls 3 [(0, (va_rf v0)), (1, (.int v1))] := hl
  obtain ⟨z0, hz0⟩ : ∃ z : Nat, 0 = z := ⟨0, rfl⟩
  obtain ⟨z1, hz1⟩ : ∃ z : Nat, 0 = z := ⟨0, rfl⟩
  refine W.cs hz0 hz1 ?_
  have hci : z0 + iT = iT := by omega
  have hcj : z1 + jT = jT := by omega
  refine rr_aldn X dd_mm_init_0 rfl (lv_at hl.1 0 rfl) ?_
  obtain ⟨t1, ht1, h⟩ := st_g_some h
  refine rr_objI X ht1 tw_465 tw_1 tw_2 hl.1.1 (Nat.le_of_ble_eq_true rfl) (by simp [rf_cat, ic_cat]) dd_mm_init_1 ?_
  refine rr_aldn X dd_mm_init_4 rfl (lv_at hl.1 0 rfl) ?_
  refine lv_bipush (v := (8 : Int32)) X.1 X.2.1 dd_mm_init_5 (by decide) ?_
  obtain ⟨_, hz7, h⟩ := st_g_some h
  have hn7 := so_l_s hz7
  obtain ⟨t3, t4, h, ei, ej⟩ := st_n_some h
  refine rr_newi (t := 0) X hw rfl hn7.1 rfl hn7.2 tw_3 (show z0 + 1 ≤ iT ∧ z1 + (8 : Int32).toNatClampNeg ≤ jT from ⟨ar_1 hci ei, ar_1 hcj ej⟩) dd_mm_init_7 (fun H hw => ?_)
  have hci : z0 + 1 + t3 = iT := ar_2 hci ei
  have hcj : z1 + (8 : Int32).toNatClampNeg + t4 = jT := ar_2 hcj ej
  clear ei ej
  generalize z0 + 1 = t5 at hci ⊢
  generalize z1 + (8 : Int32).toNatClampNeg = t6 at hcj ⊢
  generalize st.2 = t2 at h ⊢
  have h := h
  generalize (st_ad st (.inl (0, (8 : Int32).toNatClampNeg, fun _ => 0))) = t7 at h hw
  obtain ⟨t8, hp9, h⟩ := st_w_some h
  refine rr_putF (ty := .array (.int)) X hw ff_10_3 hp9 tw_464 hnm (by decide +kernel) (rf_narA _ _) (rf_fitA _ _) dd_mm_init_9 (fun H locs hw => ?_)
  refine rr_aldn X dd_mm_init_12 rfl (lv_at hl.1 0 rfl) ?_
  refine lv_bipush (v := (64 : Int32)) X.1 X.2.1 dd_mm_init_13 (by decide) ?_
  obtain ⟨_, hz15, h⟩ := st_g_some h
  have hn15 := so_l_s hz15
  obtain ⟨t10, t11, h, ei, ej⟩ := st_n_some h
  refine rr_newi (t := 0) X hw rfl hn15.1 rfl hn15.2 tw_3 (show t5 + 1 ≤ iT ∧ t6 + (64 : Int32).toNatClampNeg ≤ jT from ⟨ar_1 hci ei, ar_1 hcj ej⟩) dd_mm_init_15 (fun H hw => ?_)
  have hci : t5 + 1 + t10 = iT := ar_2 hci ei
  have hcj : t6 + (64 : Int32).toNatClampNeg + t11 = jT := ar_2 hcj ej
  clear ei ej
  generalize t5 + 1 = t12 at hci ⊢
  generalize t6 + (64 : Int32).toNatClampNeg = t13 at hcj ⊢
  generalize t8.2 = t9 at h ⊢
  have h := h
  generalize (st_ad t8 (.inl (0, (64 : Int32).toNatClampNeg, fun _ => 0))) = t14 at h hw
  obtain ⟨t15, hp17, h⟩ := st_w_some h
  refine rr_putF (ty := .array (.int)) X hw ff_10_4 hp17 tw_463 hnm (by decide +kernel) (rf_narA _ _) (rf_fitA _ _) dd_mm_init_17 (fun H locs hw => ?_)
  refine rr_aldn X dd_mm_init_20 rfl (lv_at hl.1 0 rfl) ?_
  refine lv_bipush (v := (64 : Int32)) X.1 X.2.1 dd_mm_init_21 (by decide) ?_
  obtain ⟨_, hz23, h⟩ := st_g_some h
  have hn23 := so_l_s hz23
  obtain ⟨t17, t18, h, ei, ej⟩ := st_n_some h
  refine rr_newi (t := 0) X hw rfl hn23.1 rfl hn23.2 tw_3 (show t12 + 1 ≤ iT ∧ t13 + (64 : Int32).toNatClampNeg ≤ jT from ⟨ar_1 hci ei, ar_1 hcj ej⟩) dd_mm_init_23 (fun H hw => ?_)
  have hci : t12 + 1 + t17 = iT := ar_2 hci ei
  have hcj : t13 + (64 : Int32).toNatClampNeg + t18 = jT := ar_2 hcj ej
  clear ei ej
  generalize t12 + 1 = t19 at hci ⊢
  generalize t13 + (64 : Int32).toNatClampNeg = t20 at hcj ⊢
  generalize t15.2 = t16 at h ⊢
  have h := h
  generalize (st_ad t15 (.inl (0, (64 : Int32).toNatClampNeg, fun _ => 0))) = t21 at h hw
  obtain ⟨t22, hp25, h⟩ := st_w_some h
  refine rr_putF (ty := .array (.int)) X hw ff_10_5 hp25 tw_462 hnm (by decide +kernel) (rf_narA _ _) (rf_fitA _ _) dd_mm_init_25 (fun H locs hw => ?_)
  refine rr_aldn X dd_mm_init_28 rfl (lv_at hl.1 0 rfl) ?_
  refine lv_sipush (v := (201 : Int32)) X.1 X.2.1 dd_mm_init_29 (by decide) ?_
  obtain ⟨_, hz32, h⟩ := st_g_some h
  have hn32 := so_l_s hz32
  obtain ⟨t24, t25, h, ei, ej⟩ := st_n_some h
  refine rr_newp (t := 1) (ty := .byte) X hw rfl rfl (fun z => z) rfl hn32.1 rfl (ar_4b hn32.2) tw_435 (show t19 + 1 ≤ iT ∧ t20 + (201 : Int32).toNatClampNeg ≤ jT from ⟨ar_1 hci ei, ar_1 hcj ej⟩) dd_mm_init_32 (fun H hw => ?_)
  have hci : t19 + 1 + t24 = iT := ar_2 hci ei
  have hcj : t20 + (201 : Int32).toNatClampNeg + t25 = jT := ar_2 hcj ej
  clear ei ej
  generalize t19 + 1 = t26 at hci ⊢
  generalize t20 + (201 : Int32).toNatClampNeg = t27 at hcj ⊢
  generalize t22.2 = t23 at h ⊢
  have h := h
  generalize (st_ad t22 (.inl (1, (201 : Int32).toNatClampNeg, fun _ => 0))) = t28 at h hw
  obtain ⟨t29, hp34, h⟩ := st_w_some h
  refine rr_putF (ty := .array (.byte)) X hw ff_10_6 hp34 tw_461 hnm (by decide +kernel) (rf_narA _ _) (rf_fitA _ _) dd_mm_init_34 (fun H locs hw => ?_)
  refine rr_aldn X dd_mm_init_37 rfl (lv_at hl.1 0 rfl) ?_
  refine lv_sipush (v := (201 : Int32)) X.1 X.2.1 dd_mm_init_38 (by decide) ?_
  obtain ⟨_, hz41, h⟩ := st_g_some h
  have hn41 := so_l_s hz41
  obtain ⟨t31, t32, h, ei, ej⟩ := st_n_some h
  refine rr_newp (t := 2) (ty := .boolean) X hw rfl rfl (fun z => z) rfl hn41.1 rfl (ar_4b hn41.2) tw_436 (show t26 + 1 ≤ iT ∧ t27 + (201 : Int32).toNatClampNeg ≤ jT from ⟨ar_1 hci ei, ar_1 hcj ej⟩) dd_mm_init_41 (fun H hw => ?_)
  have hci : t26 + 1 + t31 = iT := ar_2 hci ei
  have hcj : t27 + (201 : Int32).toNatClampNeg + t32 = jT := ar_2 hcj ej
  clear ei ej
  generalize t26 + 1 = t33 at hci ⊢
  generalize t27 + (201 : Int32).toNatClampNeg = t34 at hcj ⊢
  generalize t29.2 = t30 at h ⊢
  have h := h
  generalize (st_ad t29 (.inl (2, (201 : Int32).toNatClampNeg, fun _ => 0))) = t35 at h hw
  obtain ⟨t36, hp43, h⟩ := st_w_some h
  refine rr_putF (ty := .array (.boolean)) X hw ff_10_7 hp43 tw_460 hnm (by decide +kernel) (rf_narA _ _) (rf_fitA _ _) dd_mm_init_43 (fun H locs hw => ?_)
  refine rr_aldn X dd_mm_init_46 rfl (lv_at hl.1 0 rfl) ?_
  refine lv_sipush (v := (201 : Int32)) X.1 X.2.1 dd_mm_init_47 (by decide) ?_
  obtain ⟨_, hz50, h⟩ := st_g_some h
  have hn50 := so_l_s hz50
  obtain ⟨t38, t39, h, ei, ej⟩ := st_n_some h
  refine rr_newp (t := 2) (ty := .boolean) X hw rfl rfl (fun z => z) rfl hn50.1 rfl (ar_4b hn50.2) tw_436 (show t33 + 1 ≤ iT ∧ t34 + (201 : Int32).toNatClampNeg ≤ jT from ⟨ar_1 hci ei, ar_1 hcj ej⟩) dd_mm_init_50 (fun H hw => ?_)
  have hci : t33 + 1 + t38 = iT := ar_2 hci ei
  have hcj : t34 + (201 : Int32).toNatClampNeg + t39 = jT := ar_2 hcj ej
  clear ei ej
  generalize t33 + 1 = t40 at hci ⊢
  generalize t34 + (201 : Int32).toNatClampNeg = t41 at hcj ⊢
  generalize t36.2 = t37 at h ⊢
  have h := h
  generalize (st_ad t36 (.inl (2, (201 : Int32).toNatClampNeg, fun _ => 0))) = t42 at h hw
  obtain ⟨t43, hp52, h⟩ := st_w_some h
  refine rr_putF (ty := .array (.boolean)) X hw ff_10_8 hp52 tw_459 hnm (by decide +kernel) (rf_narA _ _) (rf_fitA _ _) dd_mm_init_52 (fun H locs hw => ?_)
  refine rr_aldn X dd_mm_init_55 rfl (lv_at hl.1 0 rfl) ?_
  refine lv_sipush (v := (201 : Int32)) X.1 X.2.1 dd_mm_init_56 (by decide) ?_
  obtain ⟨_, hz59, h⟩ := st_g_some h
  have hn59 := so_l_s hz59
  obtain ⟨t45, t46, h, ei, ej⟩ := st_n_some h
  refine rr_newi (t := 0) X hw rfl hn59.1 rfl hn59.2 tw_3 (show t40 + 1 ≤ iT ∧ t41 + (201 : Int32).toNatClampNeg ≤ jT from ⟨ar_1 hci ei, ar_1 hcj ej⟩) dd_mm_init_59 (fun H hw => ?_)
  have hci : t40 + 1 + t45 = iT := ar_2 hci ei
  have hcj : t41 + (201 : Int32).toNatClampNeg + t46 = jT := ar_2 hcj ej
  clear ei ej
  generalize t40 + 1 = t47 at hci ⊢
  generalize t41 + (201 : Int32).toNatClampNeg = t48 at hcj ⊢
  generalize t43.2 = t44 at h ⊢
  have h := h
  generalize (st_ad t43 (.inl (0, (201 : Int32).toNatClampNeg, fun _ => 0))) = t49 at h hw
  obtain ⟨t50, hp61, h⟩ := st_w_some h
  refine rr_putF (ty := .array (.int)) X hw ff_10_9 hp61 tw_458 hnm (by decide +kernel) (rf_narA _ _) (rf_fitA _ _) dd_mm_init_61 (fun H locs hw => ?_)
  refine rr_aldn X dd_mm_init_64 rfl (lv_at hl.1 0 rfl) ?_
  refine lv_sipush (v := (201 : Int32)) X.1 X.2.1 dd_mm_init_65 (by decide) ?_
  obtain ⟨_, hz68, h⟩ := st_g_some h
  have hn68 := so_l_s hz68
  obtain ⟨t52, t53, h, ei, ej⟩ := st_n_some h
  refine rr_newp (t := 2) (ty := .boolean) X hw rfl rfl (fun z => z) rfl hn68.1 rfl (ar_4b hn68.2) tw_436 (show t47 + 1 ≤ iT ∧ t48 + (201 : Int32).toNatClampNeg ≤ jT from ⟨ar_1 hci ei, ar_1 hcj ej⟩) dd_mm_init_68 (fun H hw => ?_)
  have hci : t47 + 1 + t52 = iT := ar_2 hci ei
  have hcj : t48 + (201 : Int32).toNatClampNeg + t53 = jT := ar_2 hcj ej
  clear ei ej
  generalize t47 + 1 = t54 at hci ⊢
  generalize t48 + (201 : Int32).toNatClampNeg = t55 at hcj ⊢
  generalize t50.2 = t51 at h ⊢
  have h := h
  generalize (st_ad t50 (.inl (2, (201 : Int32).toNatClampNeg, fun _ => 0))) = t56 at h hw
  obtain ⟨t57, hp70, h⟩ := st_w_some h
  refine rr_putF (ty := .array (.boolean)) X hw ff_10_10 hp70 tw_457 hnm (by decide +kernel) (rf_narA _ _) (rf_fitA _ _) dd_mm_init_70 (fun H locs hw => ?_)
  refine rr_aldn X dd_mm_init_73 rfl (lv_at hl.1 0 rfl) ?_
  refine lv_bipush (v := (61 : Int32)) X.1 X.2.1 dd_mm_init_74 (by decide) ?_
  obtain ⟨_, hz76, h⟩ := st_g_some h
  have hn76 := so_l_s hz76
  obtain ⟨t59, t60, h, ei, ej⟩ := st_n_some h
  refine rr_newp (t := 1) (ty := .byte) X hw rfl rfl (fun z => z) rfl hn76.1 rfl (ar_4b hn76.2) tw_435 (show t54 + 1 ≤ iT ∧ t55 + (61 : Int32).toNatClampNeg ≤ jT from ⟨ar_1 hci ei, ar_1 hcj ej⟩) dd_mm_init_76 (fun H hw => ?_)
  have hci : t54 + 1 + t59 = iT := ar_2 hci ei
  have hcj : t55 + (61 : Int32).toNatClampNeg + t60 = jT := ar_2 hcj ej
  clear ei ej
  generalize t54 + 1 = t61 at hci ⊢
  generalize t55 + (61 : Int32).toNatClampNeg = t62 at hcj ⊢
  generalize t57.2 = t58 at h ⊢
  have h := h
  generalize (st_ad t57 (.inl (1, (61 : Int32).toNatClampNeg, fun _ => 0))) = t63 at h hw
  obtain ⟨t64, hp78, h⟩ := st_w_some h
  refine rr_putF (ty := .array (.byte)) X hw ff_10_11 hp78 tw_456 hnm (by decide +kernel) (rf_narA _ _) (rf_fitA _ _) dd_mm_init_78 (fun H locs hw => ?_)
  refine rr_aldn X dd_mm_init_81 rfl (lv_at hl.1 0 rfl) ?_
  refine lv_bipush (v := (61 : Int32)) X.1 X.2.1 dd_mm_init_82 (by decide) ?_
  obtain ⟨_, hz84, h⟩ := st_g_some h
  have hn84 := so_l_s hz84
  obtain ⟨t66, t67, h, ei, ej⟩ := st_n_some h
  refine rr_newi (t := 0) X hw rfl hn84.1 rfl hn84.2 tw_3 (show t61 + 1 ≤ iT ∧ t62 + (61 : Int32).toNatClampNeg ≤ jT from ⟨ar_1 hci ei, ar_1 hcj ej⟩) dd_mm_init_84 (fun H hw => ?_)
  have hci : t61 + 1 + t66 = iT := ar_2 hci ei
  have hcj : t62 + (61 : Int32).toNatClampNeg + t67 = jT := ar_2 hcj ej
  clear ei ej
  generalize t61 + 1 = t68 at hci ⊢
  generalize t62 + (61 : Int32).toNatClampNeg = t69 at hcj ⊢
  generalize t64.2 = t65 at h ⊢
  have h := h
  generalize (st_ad t64 (.inl (0, (61 : Int32).toNatClampNeg, fun _ => 0))) = t70 at h hw
  obtain ⟨t71, hp86, h⟩ := st_w_some h
  refine rr_putF (ty := .array (.int)) X hw ff_10_12 hp86 tw_455 hnm (by decide +kernel) (rf_narA _ _) (rf_fitA _ _) dd_mm_init_86 (fun H locs hw => ?_)
  refine rr_aldn X dd_mm_init_89 rfl (lv_at hl.1 0 rfl) ?_
  refine lv_sipush (v := (244 : Int32)) X.1 X.2.1 dd_mm_init_90 (by decide) ?_
  obtain ⟨_, hz93, h⟩ := st_g_some h
  have hn93 := so_l_s hz93
  obtain ⟨t73, t74, h, ei, ej⟩ := st_n_some h
  refine rr_newi (t := 0) X hw rfl hn93.1 rfl hn93.2 tw_3 (show t68 + 1 ≤ iT ∧ t69 + (244 : Int32).toNatClampNeg ≤ jT from ⟨ar_1 hci ei, ar_1 hcj ej⟩) dd_mm_init_93 (fun H hw => ?_)
  have hci : t68 + 1 + t73 = iT := ar_2 hci ei
  have hcj : t69 + (244 : Int32).toNatClampNeg + t74 = jT := ar_2 hcj ej
  clear ei ej
  generalize t68 + 1 = t75 at hci ⊢
  generalize t69 + (244 : Int32).toNatClampNeg = t76 at hcj ⊢
  generalize t71.2 = t72 at h ⊢
  have h := h
  generalize (st_ad t71 (.inl (0, (244 : Int32).toNatClampNeg, fun _ => 0))) = t77 at h hw
  obtain ⟨t78, hp95, h⟩ := st_w_some h
  refine rr_putF (ty := .array (.int)) X hw ff_10_13 hp95 tw_454 hnm (by decide +kernel) (rf_narA _ _) (rf_fitA _ _) dd_mm_init_95 (fun H locs hw => ?_)
  refine rr_aldn X dd_mm_init_98 rfl (lv_at hl.1 0 rfl) ?_
  refine lv_sipush (v := (804 : Int32)) X.1 X.2.1 dd_mm_init_99 (by decide) ?_
  obtain ⟨_, hz102, h⟩ := st_g_some h
  have hn102 := so_l_s hz102
  obtain ⟨t80, t81, h, ei, ej⟩ := st_n_some h
  refine rr_newi (t := 0) X hw rfl hn102.1 rfl hn102.2 tw_3 (show t75 + 1 ≤ iT ∧ t76 + (804 : Int32).toNatClampNeg ≤ jT from ⟨ar_1 hci ei, ar_1 hcj ej⟩) dd_mm_init_102 (fun H hw => ?_)
  have hci : t75 + 1 + t80 = iT := ar_2 hci ei
  have hcj : t76 + (804 : Int32).toNatClampNeg + t81 = jT := ar_2 hcj ej
  clear ei ej
  generalize t75 + 1 = t82 at hci ⊢
  generalize t76 + (804 : Int32).toNatClampNeg = t83 at hcj ⊢
  generalize t78.2 = t79 at h ⊢
  have h := h
  generalize (st_ad t78 (.inl (0, (804 : Int32).toNatClampNeg, fun _ => 0))) = t84 at h hw
  obtain ⟨t85, hp104, h⟩ := st_w_some h
  refine rr_putF (ty := .array (.int)) X hw ff_10_15 hp104 tw_453 hnm (by decide +kernel) (rf_narA _ _) (rf_fitA _ _) dd_mm_init_104 (fun H locs hw => ?_)
  refine rr_aldn X dd_mm_init_107 rfl (lv_at hl.1 0 rfl) ?_
  refine lv_sipush (v := (804 : Int32)) X.1 X.2.1 dd_mm_init_108 (by decide) ?_
  obtain ⟨_, hz111, h⟩ := st_g_some h
  have hn111 := so_l_s hz111
  obtain ⟨t87, t88, h, ei, ej⟩ := st_n_some h
  refine rr_newi (t := 0) X hw rfl hn111.1 rfl hn111.2 tw_3 (show t82 + 1 ≤ iT ∧ t83 + (804 : Int32).toNatClampNeg ≤ jT from ⟨ar_1 hci ei, ar_1 hcj ej⟩) dd_mm_init_111 (fun H hw => ?_)
  have hci : t82 + 1 + t87 = iT := ar_2 hci ei
  have hcj : t83 + (804 : Int32).toNatClampNeg + t88 = jT := ar_2 hcj ej
  clear ei ej
  generalize t82 + 1 = t89 at hci ⊢
  generalize t83 + (804 : Int32).toNatClampNeg = t90 at hcj ⊢
  generalize t85.2 = t86 at h ⊢
  have h := h
  generalize (st_ad t85 (.inl (0, (804 : Int32).toNatClampNeg, fun _ => 0))) = t91 at h hw
  obtain ⟨t92, hp113, h⟩ := st_w_some h
  refine rr_putF (ty := .array (.int)) X hw ff_10_16 hp113 tw_452 hnm (by decide +kernel) (rf_narA _ _) (rf_fitA _ _) dd_mm_init_113 (fun H locs hw => ?_)
  refine rr_aldn X dd_mm_init_116 rfl (lv_at hl.1 0 rfl) ?_
  refine lv_sipush (v := (3216 : Int32)) X.1 X.2.1 dd_mm_init_117 (by decide) ?_
  obtain ⟨_, hz120, h⟩ := st_g_some h
  have hn120 := so_l_s hz120
  obtain ⟨t94, t95, h, ei, ej⟩ := st_n_some h
  refine rr_newi (t := 0) X hw rfl hn120.1 rfl hn120.2 tw_3 (show t89 + 1 ≤ iT ∧ t90 + (3216 : Int32).toNatClampNeg ≤ jT from ⟨ar_1 hci ei, ar_1 hcj ej⟩) dd_mm_init_120 (fun H hw => ?_)
  have hci : t89 + 1 + t94 = iT := ar_2 hci ei
  have hcj : t90 + (3216 : Int32).toNatClampNeg + t95 = jT := ar_2 hcj ej
  clear ei ej
  generalize t89 + 1 = t96 at hci ⊢
  generalize t90 + (3216 : Int32).toNatClampNeg = t97 at hcj ⊢
  generalize t92.2 = t93 at h ⊢
  have h := h
  generalize (st_ad t92 (.inl (0, (3216 : Int32).toNatClampNeg, fun _ => 0))) = t98 at h hw
  obtain ⟨t99, hp122, h⟩ := st_w_some h
  refine rr_putF (ty := .array (.int)) X hw ff_10_17 hp122 tw_451 hnm (by decide +kernel) (rf_narA _ _) (rf_fitA _ _) dd_mm_init_122 (fun H locs hw => ?_)
  refine rr_aldn X dd_mm_init_125 rfl (lv_at hl.1 0 rfl) ?_
  refine lv_sipush (v := (200 : Int32)) X.1 X.2.1 dd_mm_init_126 (by decide) ?_
  obtain ⟨_, hz129, h⟩ := st_g_some h
  have hn129 := so_l_s hz129
  obtain ⟨t101, t102, h, ei, ej⟩ := st_n_some h
  refine rr_newi (t := 0) X hw rfl hn129.1 rfl hn129.2 tw_3 (show t96 + 1 ≤ iT ∧ t97 + (200 : Int32).toNatClampNeg ≤ jT from ⟨ar_1 hci ei, ar_1 hcj ej⟩) dd_mm_init_129 (fun H hw => ?_)
  have hci : t96 + 1 + t101 = iT := ar_2 hci ei
  have hcj : t97 + (200 : Int32).toNatClampNeg + t102 = jT := ar_2 hcj ej
  clear ei ej
  generalize t96 + 1 = t103 at hci ⊢
  generalize t97 + (200 : Int32).toNatClampNeg = t104 at hcj ⊢
  generalize t99.2 = t100 at h ⊢
  have h := h
  generalize (st_ad t99 (.inl (0, (200 : Int32).toNatClampNeg, fun _ => 0))) = t105 at h hw
  obtain ⟨t106, hp131, h⟩ := st_w_some h
  refine rr_putF (ty := .array (.int)) X hw ff_10_19 hp131 tw_450 hnm (by decide +kernel) (rf_narA _ _) (rf_fitA _ _) dd_mm_init_131 (fun H locs hw => ?_)
  refine rr_aldn X dd_mm_init_134 rfl (lv_at hl.1 0 rfl) ?_
  refine lv_sipush (v := (200 : Int32)) X.1 X.2.1 dd_mm_init_135 (by decide) ?_
  obtain ⟨_, hz138, h⟩ := st_g_some h
  have hn138 := so_l_s hz138
  obtain ⟨t108, t109, h, ei, ej⟩ := st_n_some h
  refine rr_newi (t := 0) X hw rfl hn138.1 rfl hn138.2 tw_3 (show t103 + 1 ≤ iT ∧ t104 + (200 : Int32).toNatClampNeg ≤ jT from ⟨ar_1 hci ei, ar_1 hcj ej⟩) dd_mm_init_138 (fun H hw => ?_)
  have hci : t103 + 1 + t108 = iT := ar_2 hci ei
  have hcj : t104 + (200 : Int32).toNatClampNeg + t109 = jT := ar_2 hcj ej
  clear ei ej
  generalize t103 + 1 = t110 at hci ⊢
  generalize t104 + (200 : Int32).toNatClampNeg = t111 at hcj ⊢
  generalize t106.2 = t107 at h ⊢
  have h := h
  generalize (st_ad t106 (.inl (0, (200 : Int32).toNatClampNeg, fun _ => 0))) = t112 at h hw
  obtain ⟨t113, hp140, h⟩ := st_w_some h
  refine rr_putF (ty := .array (.int)) X hw ff_10_20 hp140 tw_449 hnm (by decide +kernel) (rf_narA _ _) (rf_fitA _ _) dd_mm_init_140 (fun H locs hw => ?_)
  refine rr_aldn X dd_mm_init_143 rfl (lv_at hl.1 0 rfl) ?_
  refine lv_sipush (v := (200 : Int32)) X.1 X.2.1 dd_mm_init_144 (by decide) ?_
  obtain ⟨_, hz147, h⟩ := st_g_some h
  have hn147 := so_l_s hz147
  obtain ⟨t115, t116, h, ei, ej⟩ := st_n_some h
  refine rr_newi (t := 0) X hw rfl hn147.1 rfl hn147.2 tw_3 (show t110 + 1 ≤ iT ∧ t111 + (200 : Int32).toNatClampNeg ≤ jT from ⟨ar_1 hci ei, ar_1 hcj ej⟩) dd_mm_init_147 (fun H hw => ?_)
  have hci : t110 + 1 + t115 = iT := ar_2 hci ei
  have hcj : t111 + (200 : Int32).toNatClampNeg + t116 = jT := ar_2 hcj ej
  clear ei ej
  generalize t110 + 1 = t117 at hci ⊢
  generalize t111 + (200 : Int32).toNatClampNeg = t118 at hcj ⊢
  generalize t113.2 = t114 at h ⊢
  have h := h
  generalize (st_ad t113 (.inl (0, (200 : Int32).toNatClampNeg, fun _ => 0))) = t119 at h hw
  obtain ⟨t120, hp149, h⟩ := st_w_some h
  refine rr_putF (ty := .array (.int)) X hw ff_10_21 hp149 tw_448 hnm (by decide +kernel) (rf_narA _ _) (rf_fitA _ _) dd_mm_init_149 (fun H locs hw => ?_)
  refine rr_aldn X dd_mm_init_152 rfl (lv_at hl.1 0 rfl) ?_
  refine lv_sipush (v := (200 : Int32)) X.1 X.2.1 dd_mm_init_153 (by decide) ?_
  obtain ⟨_, hz156, h⟩ := st_g_some h
  have hn156 := so_l_s hz156
  obtain ⟨t122, t123, h, ei, ej⟩ := st_n_some h
  refine rr_newi (t := 0) X hw rfl hn156.1 rfl hn156.2 tw_3 (show t117 + 1 ≤ iT ∧ t118 + (200 : Int32).toNatClampNeg ≤ jT from ⟨ar_1 hci ei, ar_1 hcj ej⟩) dd_mm_init_156 (fun H hw => ?_)
  have hci : t117 + 1 + t122 = iT := ar_2 hci ei
  have hcj : t118 + (200 : Int32).toNatClampNeg + t123 = jT := ar_2 hcj ej
  clear ei ej
  generalize t117 + 1 = t124 at hci ⊢
  generalize t118 + (200 : Int32).toNatClampNeg = t125 at hcj ⊢
  generalize t120.2 = t121 at h ⊢
  have h := h
  generalize (st_ad t120 (.inl (0, (200 : Int32).toNatClampNeg, fun _ => 0))) = t126 at h hw
  obtain ⟨t127, hp158, h⟩ := st_w_some h
  refine rr_putF (ty := .array (.int)) X hw ff_10_22 hp158 tw_447 hnm (by decide +kernel) (rf_narA _ _) (rf_fitA _ _) dd_mm_init_158 (fun H locs hw => ?_)
  refine rr_aldn X dd_mm_init_161 rfl (lv_at hl.1 0 rfl) ?_
  refine lv_sipush (v := (200 : Int32)) X.1 X.2.1 dd_mm_init_162 (by decide) ?_
  obtain ⟨_, hz165, h⟩ := st_g_some h
  have hn165 := so_l_s hz165
  obtain ⟨t129, t130, h, ei, ej⟩ := st_n_some h
  refine rr_newi (t := 0) X hw rfl hn165.1 rfl hn165.2 tw_3 (show t124 + 1 ≤ iT ∧ t125 + (200 : Int32).toNatClampNeg ≤ jT from ⟨ar_1 hci ei, ar_1 hcj ej⟩) dd_mm_init_165 (fun H hw => ?_)
  have hci : t124 + 1 + t129 = iT := ar_2 hci ei
  have hcj : t125 + (200 : Int32).toNatClampNeg + t130 = jT := ar_2 hcj ej
  clear ei ej
  generalize t124 + 1 = t131 at hci ⊢
  generalize t125 + (200 : Int32).toNatClampNeg = t132 at hcj ⊢
  generalize t127.2 = t128 at h ⊢
  have h := h
  generalize (st_ad t127 (.inl (0, (200 : Int32).toNatClampNeg, fun _ => 0))) = t133 at h hw
  obtain ⟨t134, hp167, h⟩ := st_w_some h
  refine rr_putF (ty := .array (.int)) X hw ff_10_23 hp167 tw_446 hnm (by decide +kernel) (rf_narA _ _) (rf_fitA _ _) dd_mm_init_167 (fun H locs hw => ?_)
  refine rr_aldn X dd_mm_init_170 rfl (lv_at hl.1 0 rfl) ?_
  refine lv_sipush (v := (2100 : Int32)) X.1 X.2.1 dd_mm_init_171 (by decide) ?_
  obtain ⟨_, hz174, h⟩ := st_g_some h
  have hn174 := so_l_s hz174
  obtain ⟨t136, t137, h, ei, ej⟩ := st_n_some h
  refine rr_newp (t := 1) (ty := .byte) X hw rfl rfl (fun z => z) rfl hn174.1 rfl (ar_4b hn174.2) tw_435 (show t131 + 1 ≤ iT ∧ t132 + (2100 : Int32).toNatClampNeg ≤ jT from ⟨ar_1 hci ei, ar_1 hcj ej⟩) dd_mm_init_174 (fun H hw => ?_)
  have hci : t131 + 1 + t136 = iT := ar_2 hci ei
  have hcj : t132 + (2100 : Int32).toNatClampNeg + t137 = jT := ar_2 hcj ej
  clear ei ej
  generalize t131 + 1 = t138 at hci ⊢
  generalize t132 + (2100 : Int32).toNatClampNeg = t139 at hcj ⊢
  generalize t134.2 = t135 at h ⊢
  have h := h
  generalize (st_ad t134 (.inl (1, (2100 : Int32).toNatClampNeg, fun _ => 0))) = t140 at h hw
  obtain ⟨t141, hp176, h⟩ := st_w_some h
  refine rr_putF (ty := .array (.byte)) X hw ff_10_25 hp176 tw_445 hnm (by decide +kernel) (rf_narA _ _) (rf_fitA _ _) dd_mm_init_176 (fun H locs hw => ?_)
  refine rr_aldn X dd_mm_init_179 rfl (lv_at hl.1 0 rfl) ?_
  refine lv_sipush (v := (2100 : Int32)) X.1 X.2.1 dd_mm_init_180 (by decide) ?_
  obtain ⟨_, hz183, h⟩ := st_g_some h
  have hn183 := so_l_s hz183
  obtain ⟨t143, t144, h, ei, ej⟩ := st_n_some h
  refine rr_newp (t := 3) (ty := .short) X hw rfl rfl (fun z => z) rfl hn183.1 rfl (ar_4s hn183.2) tw_437 (show t138 + 1 ≤ iT ∧ t139 + (2100 : Int32).toNatClampNeg ≤ jT from ⟨ar_1 hci ei, ar_1 hcj ej⟩) dd_mm_init_183 (fun H hw => ?_)
  have hci : t138 + 1 + t143 = iT := ar_2 hci ei
  have hcj : t139 + (2100 : Int32).toNatClampNeg + t144 = jT := ar_2 hcj ej
  clear ei ej
  generalize t138 + 1 = t145 at hci ⊢
  generalize t139 + (2100 : Int32).toNatClampNeg = t146 at hcj ⊢
  generalize t141.2 = t142 at h ⊢
  have h := h
  generalize (st_ad t141 (.inl (3, (2100 : Int32).toNatClampNeg, fun _ => 0))) = t147 at h hw
  obtain ⟨t148, hp185, h⟩ := st_w_some h
  refine rr_putF (ty := .array (.short)) X hw ff_10_26 hp185 tw_444 hnm (by decide +kernel) (rf_narA _ _) (rf_fitA _ _) dd_mm_init_185 (fun H locs hw => ?_)
  refine rr_aldn X dd_mm_init_188 rfl (lv_at hl.1 0 rfl) ?_
  refine lv_sipush (v := (2100 : Int32)) X.1 X.2.1 dd_mm_init_189 (by decide) ?_
  obtain ⟨_, hz192, h⟩ := st_g_some h
  have hn192 := so_l_s hz192
  obtain ⟨t150, t151, h, ei, ej⟩ := st_n_some h
  refine rr_newi (t := 0) X hw rfl hn192.1 rfl hn192.2 tw_3 (show t145 + 1 ≤ iT ∧ t146 + (2100 : Int32).toNatClampNeg ≤ jT from ⟨ar_1 hci ei, ar_1 hcj ej⟩) dd_mm_init_192 (fun H hw => ?_)
  have hci : t145 + 1 + t150 = iT := ar_2 hci ei
  have hcj : t146 + (2100 : Int32).toNatClampNeg + t151 = jT := ar_2 hcj ej
  clear ei ej
  generalize t145 + 1 = t152 at hci ⊢
  generalize t146 + (2100 : Int32).toNatClampNeg = t153 at hcj ⊢
  generalize t148.2 = t149 at h ⊢
  have h := h
  generalize (st_ad t148 (.inl (0, (2100 : Int32).toNatClampNeg, fun _ => 0))) = t154 at h hw
  obtain ⟨t155, hp194, h⟩ := st_w_some h
  refine rr_putF (ty := .array (.int)) X hw ff_10_27 hp194 tw_443 hnm (by decide +kernel) (rf_narA _ _) (rf_fitA _ _) dd_mm_init_194 (fun H locs hw => ?_)
  refine rr_aldn X dd_mm_init_197 rfl (lv_at hl.1 0 rfl) ?_
  refine lv_sipush (v := (2100 : Int32)) X.1 X.2.1 dd_mm_init_198 (by decide) ?_
  obtain ⟨_, hz201, h⟩ := st_g_some h
  have hn201 := so_l_s hz201
  obtain ⟨t157, t158, h, ei, ej⟩ := st_n_some h
  refine rr_newp (t := 3) (ty := .short) X hw rfl rfl (fun z => z) rfl hn201.1 rfl (ar_4s hn201.2) tw_437 (show t152 + 1 ≤ iT ∧ t153 + (2100 : Int32).toNatClampNeg ≤ jT from ⟨ar_1 hci ei, ar_1 hcj ej⟩) dd_mm_init_201 (fun H hw => ?_)
  have hci : t152 + 1 + t157 = iT := ar_2 hci ei
  have hcj : t153 + (2100 : Int32).toNatClampNeg + t158 = jT := ar_2 hcj ej
  clear ei ej
  generalize t152 + 1 = t159 at hci ⊢
  generalize t153 + (2100 : Int32).toNatClampNeg = t160 at hcj ⊢
  generalize t155.2 = t156 at h ⊢
  have h := h
  generalize (st_ad t155 (.inl (3, (2100 : Int32).toNatClampNeg, fun _ => 0))) = t161 at h hw
  obtain ⟨t162, hp203, h⟩ := st_w_some h
  refine rr_putF (ty := .array (.short)) X hw ff_10_28 hp203 tw_442 hnm (by decide +kernel) (rf_narA _ _) (rf_fitA _ _) dd_mm_init_203 (fun H locs hw => ?_)
  refine rr_aldn X dd_mm_init_206 rfl (lv_at hl.1 0 rfl) ?_
  refine lv_sipush (v := (2100 : Int32)) X.1 X.2.1 dd_mm_init_207 (by decide) ?_
  obtain ⟨_, hz210, h⟩ := st_g_some h
  have hn210 := so_l_s hz210
  obtain ⟨t164, t165, h, ei, ej⟩ := st_n_some h
  refine rr_newp (t := 3) (ty := .short) X hw rfl rfl (fun z => z) rfl hn210.1 rfl (ar_4s hn210.2) tw_437 (show t159 + 1 ≤ iT ∧ t160 + (2100 : Int32).toNatClampNeg ≤ jT from ⟨ar_1 hci ei, ar_1 hcj ej⟩) dd_mm_init_210 (fun H hw => ?_)
  have hci : t159 + 1 + t164 = iT := ar_2 hci ei
  have hcj : t160 + (2100 : Int32).toNatClampNeg + t165 = jT := ar_2 hcj ej
  clear ei ej
  generalize t159 + 1 = t166 at hci ⊢
  generalize t160 + (2100 : Int32).toNatClampNeg = t167 at hcj ⊢
  generalize t162.2 = t163 at h ⊢
  have h := h
  generalize (st_ad t162 (.inl (3, (2100 : Int32).toNatClampNeg, fun _ => 0))) = t168 at h hw
  obtain ⟨t169, hp212, h⟩ := st_w_some h
  refine rr_putF (ty := .array (.short)) X hw ff_10_29 hp212 tw_441 hnm (by decide +kernel) (rf_narA _ _) (rf_fitA _ _) dd_mm_init_212 (fun H locs hw => ?_)
  refine rr_aldn X dd_mm_init_215 rfl (lv_at hl.1 0 rfl) ?_
  refine lv_bipush (v := (101 : Int32)) X.1 X.2.1 dd_mm_init_216 (by decide) ?_
  obtain ⟨_, hz218, h⟩ := st_g_some h
  have hn218 := so_l_s hz218
  obtain ⟨t171, t172, h, ei, ej⟩ := st_n_some h
  refine rr_newi (t := 0) X hw rfl hn218.1 rfl hn218.2 tw_3 (show t166 + 1 ≤ iT ∧ t167 + (101 : Int32).toNatClampNeg ≤ jT from ⟨ar_1 hci ei, ar_1 hcj ej⟩) dd_mm_init_218 (fun H hw => ?_)
  have hci : t166 + 1 + t171 = iT := ar_2 hci ei
  have hcj : t167 + (101 : Int32).toNatClampNeg + t172 = jT := ar_2 hcj ej
  clear ei ej
  generalize t166 + 1 = t173 at hci ⊢
  generalize t167 + (101 : Int32).toNatClampNeg = t174 at hcj ⊢
  generalize t169.2 = t170 at h ⊢
  have h := h
  generalize (st_ad t169 (.inl (0, (101 : Int32).toNatClampNeg, fun _ => 0))) = t175 at h hw
  obtain ⟨t176, hp220, h⟩ := st_w_some h
  refine rr_putF (ty := .array (.int)) X hw ff_10_31 hp220 tw_440 hnm (by decide +kernel) (rf_narA _ _) (rf_fitA _ _) dd_mm_init_220 (fun H locs hw => ?_)
  refine rr_aldn X dd_mm_init_223 rfl (lv_at hl.1 0 rfl) ?_
  refine lv_iconst (v := (4 : Int32)) X.1 X.2.1 dd_mm_init_224 (by decide) ?_
  obtain ⟨_, hz225, h⟩ := st_g_some h
  have hn225 := so_l_s hz225
  obtain ⟨t178, t179, h, ei, ej⟩ := st_n_some h
  refine rr_newi (t := 0) X hw rfl hn225.1 rfl hn225.2 tw_3 (show t173 + 1 ≤ iT ∧ t174 + (4 : Int32).toNatClampNeg ≤ jT from ⟨ar_1 hci ei, ar_1 hcj ej⟩) dd_mm_init_225 (fun H hw => ?_)
  have hci : t173 + 1 + t178 = iT := ar_2 hci ei
  have hcj : t174 + (4 : Int32).toNatClampNeg + t179 = jT := ar_2 hcj ej
  clear ei ej
  generalize t173 + 1 = t180 at hci ⊢
  generalize t174 + (4 : Int32).toNatClampNeg = t181 at hcj ⊢
  generalize t176.2 = t177 at h ⊢
  have h := h
  generalize (st_ad t176 (.inl (0, (4 : Int32).toNatClampNeg, fun _ => 0))) = t182 at h hw
  obtain ⟨t183, hp227, h⟩ := st_w_some h
  refine rr_putF (ty := .array (.int)) X hw ff_10_32 hp227 tw_439 hnm (by decide +kernel) (rf_narA _ _) (rf_fitA _ _) dd_mm_init_227 (fun H locs hw => ?_)
  refine rr_aldn X dd_mm_init_230 rfl (lv_at hl.1 0 rfl) ?_
  refine lv_bipush (v := (40 : Int32)) X.1 X.2.1 dd_mm_init_231 (by decide) ?_
  obtain ⟨_, hz233, h⟩ := st_g_some h
  have hn233 := so_l_s hz233
  obtain ⟨t185, t186, h, ei, ej⟩ := st_n_some h
  refine rr_newi (t := 0) X hw rfl hn233.1 rfl hn233.2 tw_3 (show t180 + 1 ≤ iT ∧ t181 + (40 : Int32).toNatClampNeg ≤ jT from ⟨ar_1 hci ei, ar_1 hcj ej⟩) dd_mm_init_233 (fun H hw => ?_)
  have hci : t180 + 1 + t185 = iT := ar_2 hci ei
  have hcj : t181 + (40 : Int32).toNatClampNeg + t186 = jT := ar_2 hcj ej
  clear ei ej
  generalize t180 + 1 = t187 at hci ⊢
  generalize t181 + (40 : Int32).toNatClampNeg = t188 at hcj ⊢
  generalize t183.2 = t184 at h ⊢
  have h := h
  generalize (st_ad t183 (.inl (0, (40 : Int32).toNatClampNeg, fun _ => 0))) = t189 at h hw
  obtain ⟨t190, hp235, h⟩ := st_w_some h
  refine rr_putF (ty := .array (.int)) X hw ff_10_33 hp235 tw_438 hnm (by decide +kernel) (rf_narA _ _) (rf_fitA _ _) dd_mm_init_235 (fun H locs hw => ?_)
  refine rr_aldn X dd_mm_init_238 rfl (lv_at hl.1 0 rfl) ?_
  refine lv_iload_n X.1 X.2.1 dd_mm_init_239 rfl (lv_at hl.1 1 rfl) ?_
  refine lv_iconst (v := (2 : Int32)) X.1 X.2.1 dd_mm_init_240 (by decide) ?_
  by_cases hc241 : (2 : Int32) ≤ v1
  · rw [if_pos hc241] at h
    refine lv_icmp_ge (tgt := 248) X.1 X.2.1 dd_mm_init_241 (by decide) (fun _ => ?_) (fun z => absurd hc241 z)
    refine lv_iload_n X.1 X.2.1 dd_mm_init_248 rfl (lv_at hl.1 1 rfl) ?_
    refine lv_iconst (v := (4 : Int32)) X.1 X.2.1 dd_mm_init_249 (by decide) ?_
    by_cases hc250 : v1 ≤ (4 : Int32)
    · rw [if_pos hc250] at h
      refine lv_icmp_le (tgt := 257) X.1 X.2.1 dd_mm_init_250 (by decide) (fun _ => ?_) (fun z => absurd hc250 z)
      refine lv_iload_n X.1 X.2.1 dd_mm_init_257 rfl (lv_at hl.1 1 rfl) ?_
      exact (kb_mm_init_b258 X hKs hlk hret hnm) (v0, v1, v0) _ _ _ _ _ _ _ _ hw (lh_pk hl [0] rfl) h hci hcj
    · rw [if_neg hc250] at h
      refine lv_icmp_le (tgt := 257) X.1 X.2.1 dd_mm_init_250 (by decide) (fun z => absurd z hc250) (fun _ => ?_)
      refine lv_iconst (v := (4 : Int32)) X.1 X.2.1 dd_mm_init_253 (by decide) ?_
      refine lv_goto (tgt := 258) X.1 X.2.1 dd_mm_init_254 (by decide) ?_
      exact (kb_mm_init_b258 X hKs hlk hret hnm) (v0, (4 : Int32), v0) _ _ _ _ _ _ _ _ hw (lh_pk hl [0] rfl) h hci hcj
  · rw [if_neg hc241] at h
    refine lv_icmp_ge (tgt := 248) X.1 X.2.1 dd_mm_init_241 (by decide) (fun z => absurd z hc241) (fun _ => ?_)
    refine lv_iconst (v := (2 : Int32)) X.1 X.2.1 dd_mm_init_244 (by decide) ?_
    refine lv_goto (tgt := 258) X.1 X.2.1 dd_mm_init_245 (by decide) ?_
    exact (kb_mm_init_b258 X hKs hlk hret hnm) (v0, (2 : Int32), v0) _ _ _ _ _ _ _ _ hw (lh_pk hl [0] rfl) h hci hcj
end
