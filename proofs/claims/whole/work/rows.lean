section
-- ===== PART A: goes FIRST, ahead of the names: the tables' words, and 'selects' of the private methods out of them =====
/-- a private method of a class that the tables say can be made, by its rows of tables_1 -/
def lw_okq (q : MethodName × Nat) : Prop := (q.1.cls ≠ "java/lang/invoke/MethodHandle" ∧ q.1.cls ≠ "java/lang/invoke/VarHandle") ∧ Cond.instantiable q.1.cls q.2 ∈ tables_1 ∧ Cond.privateMethod q.1 ∈ tables_1 ∧ Cond.instanceMethod q.1 ∈ tables_1
theorem lw_p0 : lw_okq (⟨"PromiseVats", "isVat", "(I)Z"⟩, 10) := ⟨⟨by decide +kernel, by decide +kernel⟩, List.mem_of_getElem? (i := 22) (by decide +kernel), List.mem_of_getElem? (i := 269) (by decide +kernel), List.mem_of_getElem? (i := 270) (by decide +kernel)⟩
theorem lw_p1 : lw_okq (⟨"PromiseVats", "arrive", "(LPromiseVats$Call;I)V"⟩, 10) := ⟨⟨by decide +kernel, by decide +kernel⟩, List.mem_of_getElem? (i := 22) (by decide +kernel), List.mem_of_getElem? (i := 305) (by decide +kernel), List.mem_of_getElem? (i := 306) (by decide +kernel)⟩
theorem lw_p2 : lw_okq (⟨"PromiseVats", "waitAt", "(LPromiseVats$Promise;LPromiseVats$Call;)V"⟩, 10) := ⟨⟨by decide +kernel, by decide +kernel⟩, List.mem_of_getElem? (i := 22) (by decide +kernel), List.mem_of_getElem? (i := 309) (by decide +kernel), List.mem_of_getElem? (i := 310) (by decide +kernel)⟩
theorem lw_p3 : lw_okq (⟨"PromiseVats", "lose", "(LPromiseVats$Call;)V"⟩, 10) := ⟨⟨by decide +kernel, by decide +kernel⟩, List.mem_of_getElem? (i := 22) (by decide +kernel), List.mem_of_getElem? (i := 313) (by decide +kernel), List.mem_of_getElem? (i := 314) (by decide +kernel)⟩
theorem lw_p4 : lw_okq (⟨"java/util/ArrayList", "add", "(Ljava/lang/Object;[Ljava/lang/Object;I)V"⟩, 3) := ⟨⟨by decide +kernel, by decide +kernel⟩, List.mem_of_getElem? (i := 156) (by decide +kernel), List.mem_of_getElem? (i := 321) (by decide +kernel), List.mem_of_getElem? (i := 322) (by decide +kernel)⟩
theorem lw_p5 : lw_okq (⟨"java/util/ArrayList", "grow", "()[Ljava/lang/Object;"⟩, 3) := ⟨⟨by decide +kernel, by decide +kernel⟩, List.mem_of_getElem? (i := 156) (by decide +kernel), List.mem_of_getElem? (i := 325) (by decide +kernel), List.mem_of_getElem? (i := 326) (by decide +kernel)⟩
theorem lw_p6 : lw_okq (⟨"java/util/ArrayList", "grow", "(I)[Ljava/lang/Object;"⟩, 3) := ⟨⟨by decide +kernel, by decide +kernel⟩, List.mem_of_getElem? (i := 156) (by decide +kernel), List.mem_of_getElem? (i := 329) (by decide +kernel), List.mem_of_getElem? (i := 330) (by decide +kernel)⟩
theorem lw_p7 : lw_okq (⟨"PromiseVats", "postCall", "(LPromiseVats$Call;I)V"⟩, 10) := ⟨⟨by decide +kernel, by decide +kernel⟩, List.mem_of_getElem? (i := 22) (by decide +kernel), List.mem_of_getElem? (i := 371) (by decide +kernel), List.mem_of_getElem? (i := 372) (by decide +kernel)⟩
theorem lw_p8 : lw_okq (⟨"PromiseVats", "packArgument", "(LPromiseVats$Entity;II)V"⟩, 10) := ⟨⟨by decide +kernel, by decide +kernel⟩, List.mem_of_getElem? (i := 22) (by decide +kernel), List.mem_of_getElem? (i := 375) (by decide +kernel), List.mem_of_getElem? (i := 376) (by decide +kernel)⟩
theorem lw_p9 : lw_okq (⟨"PromiseVats", "post", "(IILPromiseVats$Message;)V"⟩, 10) := ⟨⟨by decide +kernel, by decide +kernel⟩, List.mem_of_getElem? (i := 22) (by decide +kernel), List.mem_of_getElem? (i := 405) (by decide +kernel), List.mem_of_getElem? (i := 406) (by decide +kernel)⟩
theorem lw_p10 : lw_okq (⟨"java/util/ArrayList", "fastRemove", "([Ljava/lang/Object;I)V"⟩, 3) := ⟨⟨by decide +kernel, by decide +kernel⟩, List.mem_of_getElem? (i := 156) (by decide +kernel), List.mem_of_getElem? (i := 427) (by decide +kernel), List.mem_of_getElem? (i := 428) (by decide +kernel)⟩
theorem lw_p11 : lw_okq (⟨"PromiseVats", "perform", "(LPromiseVats$Turn;II)V"⟩, 10) := ⟨⟨by decide +kernel, by decide +kernel⟩, List.mem_of_getElem? (i := 22) (by decide +kernel), List.mem_of_getElem? (i := 436) (by decide +kernel), List.mem_of_getElem? (i := 437) (by decide +kernel)⟩
theorem lw_p12 : lw_okq (⟨"PromiseVats", "makeObject", "(LPromiseVats$Turn;I)LPromiseVats$VatObject;"⟩, 10) := ⟨⟨by decide +kernel, by decide +kernel⟩, List.mem_of_getElem? (i := 22) (by decide +kernel), List.mem_of_getElem? (i := 440) (by decide +kernel), List.mem_of_getElem? (i := 441) (by decide +kernel)⟩
theorem lw_p13 : lw_okq (⟨"PromiseVats", "callFrom", "(LPromiseVats$Turn;LPromiseVats$Entity;)LPromiseVats$Promise;"⟩, 10) := ⟨⟨by decide +kernel, by decide +kernel⟩, List.mem_of_getElem? (i := 22) (by decide +kernel), List.mem_of_getElem? (i := 444) (by decide +kernel), List.mem_of_getElem? (i := 445) (by decide +kernel)⟩
theorem lw_p14 : lw_okq (⟨"PromiseVats", "settleLost", "(I)V"⟩, 10) := ⟨⟨by decide +kernel, by decide +kernel⟩, List.mem_of_getElem? (i := 22) (by decide +kernel), List.mem_of_getElem? (i := 479) (by decide +kernel), List.mem_of_getElem? (i := 480) (by decide +kernel)⟩
theorem lw_p15 : lw_okq (⟨"PromiseVats", "resolveIn", "(ILPromiseVats$Promise;LPromiseVats$Entity;)V"⟩, 10) := ⟨⟨by decide +kernel, by decide +kernel⟩, List.mem_of_getElem? (i := 22) (by decide +kernel), List.mem_of_getElem? (i := 483) (by decide +kernel), List.mem_of_getElem? (i := 484) (by decide +kernel)⟩
def lw_privs_1 : List (MethodName × Nat) := [(⟨"PromiseVats", "isVat", "(I)Z"⟩, 10), (⟨"PromiseVats", "arrive", "(LPromiseVats$Call;I)V"⟩, 10), (⟨"PromiseVats", "waitAt", "(LPromiseVats$Promise;LPromiseVats$Call;)V"⟩, 10), (⟨"PromiseVats", "lose", "(LPromiseVats$Call;)V"⟩, 10), (⟨"java/util/ArrayList", "add", "(Ljava/lang/Object;[Ljava/lang/Object;I)V"⟩, 3), (⟨"java/util/ArrayList", "grow", "()[Ljava/lang/Object;"⟩, 3), (⟨"java/util/ArrayList", "grow", "(I)[Ljava/lang/Object;"⟩, 3), (⟨"PromiseVats", "postCall", "(LPromiseVats$Call;I)V"⟩, 10), (⟨"PromiseVats", "packArgument", "(LPromiseVats$Entity;II)V"⟩, 10), (⟨"PromiseVats", "post", "(IILPromiseVats$Message;)V"⟩, 10), (⟨"java/util/ArrayList", "fastRemove", "([Ljava/lang/Object;I)V"⟩, 3), (⟨"PromiseVats", "perform", "(LPromiseVats$Turn;II)V"⟩, 10), (⟨"PromiseVats", "makeObject", "(LPromiseVats$Turn;I)LPromiseVats$VatObject;"⟩, 10), (⟨"PromiseVats", "callFrom", "(LPromiseVats$Turn;LPromiseVats$Entity;)LPromiseVats$Promise;"⟩, 10), (⟨"PromiseVats", "settleLost", "(I)V"⟩, 10), (⟨"PromiseVats", "resolveIn", "(ILPromiseVats$Promise;LPromiseVats$Entity;)V"⟩, 10)]
theorem lw_r1 : ∀ q ∈ lw_privs_1, lw_okq q := List.forall_mem_cons.mpr ⟨lw_p0, List.forall_mem_cons.mpr ⟨lw_p1, List.forall_mem_cons.mpr ⟨lw_p2, List.forall_mem_cons.mpr ⟨lw_p3, List.forall_mem_cons.mpr ⟨lw_p4, List.forall_mem_cons.mpr ⟨lw_p5, List.forall_mem_cons.mpr ⟨lw_p6, List.forall_mem_cons.mpr ⟨lw_p7, List.forall_mem_cons.mpr ⟨lw_p8, List.forall_mem_cons.mpr ⟨lw_p9, List.forall_mem_cons.mpr ⟨lw_p10, List.forall_mem_cons.mpr ⟨lw_p11, List.forall_mem_cons.mpr ⟨lw_p12, List.forall_mem_cons.mpr ⟨lw_p13, List.forall_mem_cons.mpr ⟨lw_p14, List.forall_mem_cons.mpr ⟨lw_p15, fun _ h => absurd h List.not_mem_nil⟩⟩⟩⟩⟩⟩⟩⟩⟩⟩⟩⟩⟩⟩⟩⟩
theorem lw_p16 : lw_okq (⟨"PromiseVats", "unpackArgument", "(LPromiseVats$Entity;II)V"⟩, 10) := ⟨⟨by decide +kernel, by decide +kernel⟩, List.mem_of_getElem? (i := 22) (by decide +kernel), List.mem_of_getElem? (i := 510) (by decide +kernel), List.mem_of_getElem? (i := 511) (by decide +kernel)⟩
theorem lw_p17 : lw_okq (⟨"PromiseVats", "takeMessage", "(LPromiseVats$Message;II)V"⟩, 10) := ⟨⟨by decide +kernel, by decide +kernel⟩, List.mem_of_getElem? (i := 22) (by decide +kernel), List.mem_of_getElem? (i := 514) (by decide +kernel), List.mem_of_getElem? (i := 515) (by decide +kernel)⟩
theorem lw_p18 : lw_okq (⟨"PromiseVats", "findReached", "(I)V"⟩, 10) := ⟨⟨by decide +kernel, by decide +kernel⟩, List.mem_of_getElem? (i := 22) (by decide +kernel), List.mem_of_getElem? (i := 528) (by decide +kernel), List.mem_of_getElem? (i := 529) (by decide +kernel)⟩
theorem lw_p19 : lw_okq (⟨"PromiseVats", "reach", "(LPromiseVats$Entity;)V"⟩, 10) := ⟨⟨by decide +kernel, by decide +kernel⟩, List.mem_of_getElem? (i := 22) (by decide +kernel), List.mem_of_getElem? (i := 532) (by decide +kernel), List.mem_of_getElem? (i := 533) (by decide +kernel)⟩
theorem lw_p20 : lw_okq (⟨"PromiseVats", "reachWanted", "(I)V"⟩, 10) := ⟨⟨by decide +kernel, by decide +kernel⟩, List.mem_of_getElem? (i := 22) (by decide +kernel), List.mem_of_getElem? (i := 536) (by decide +kernel), List.mem_of_getElem? (i := 537) (by decide +kernel)⟩
theorem lw_p21 : lw_okq (⟨"PromiseVats", "reachCalls", "(Ljava/util/ArrayList;)V"⟩, 10) := ⟨⟨by decide +kernel, by decide +kernel⟩, List.mem_of_getElem? (i := 22) (by decide +kernel), List.mem_of_getElem? (i := 564) (by decide +kernel), List.mem_of_getElem? (i := 565) (by decide +kernel)⟩
theorem lw_p22 : lw_okq (⟨"PromiseVats", "reachInside", "(LPromiseVats$Entity;)V"⟩, 10) := ⟨⟨by decide +kernel, by decide +kernel⟩, List.mem_of_getElem? (i := 22) (by decide +kernel), List.mem_of_getElem? (i := 568) (by decide +kernel), List.mem_of_getElem? (i := 569) (by decide +kernel)⟩
theorem lw_p23 : lw_okq (⟨"PromiseVats", "freeUnreached", "(I)I"⟩, 10) := ⟨⟨by decide +kernel, by decide +kernel⟩, List.mem_of_getElem? (i := 22) (by decide +kernel), List.mem_of_getElem? (i := 572) (by decide +kernel), List.mem_of_getElem? (i := 573) (by decide +kernel)⟩
theorem lw_p24 : lw_okq (⟨"PromiseVats", "releaseUnreached", "(I)V"⟩, 10) := ⟨⟨by decide +kernel, by decide +kernel⟩, List.mem_of_getElem? (i := 22) (by decide +kernel), List.mem_of_getElem? (i := 576) (by decide +kernel), List.mem_of_getElem? (i := 577) (by decide +kernel)⟩
theorem lw_p25 : lw_okq (⟨"PromiseVats", "madeEntity", "(I)LPromiseVats$Entity;"⟩, 10) := ⟨⟨by decide +kernel, by decide +kernel⟩, List.mem_of_getElem? (i := 22) (by decide +kernel), List.mem_of_getElem? (i := 603) (by decide +kernel), List.mem_of_getElem? (i := 604) (by decide +kernel)⟩
theorem lw_p26 : lw_okq (⟨"PromiseVats", "liveEntity", "(I)LPromiseVats$Entity;"⟩, 10) := ⟨⟨by decide +kernel, by decide +kernel⟩, List.mem_of_getElem? (i := 22) (by decide +kernel), List.mem_of_getElem? (i := 611) (by decide +kernel), List.mem_of_getElem? (i := 612) (by decide +kernel)⟩
theorem lw_p27 : lw_okq (⟨"PromiseVatsModel", "vat", "(I)Z"⟩, 36) := ⟨⟨by decide +kernel, by decide +kernel⟩, List.mem_of_getElem? (i := 641) (by decide +kernel), List.mem_of_getElem? (i := 771) (by decide +kernel), List.mem_of_getElem? (i := 772) (by decide +kernel)⟩
theorem lw_p28 : lw_okq (⟨"PromiseVatsModel", "oldest", "(I)I"⟩, 36) := ⟨⟨by decide +kernel, by decide +kernel⟩, List.mem_of_getElem? (i := 641) (by decide +kernel), List.mem_of_getElem? (i := 775) (by decide +kernel), List.mem_of_getElem? (i := 776) (by decide +kernel)⟩
theorem lw_p29 : lw_okq (⟨"PromiseVatsModel", "unmail", "(I)V"⟩, 36) := ⟨⟨by decide +kernel, by decide +kernel⟩, List.mem_of_getElem? (i := 641) (by decide +kernel), List.mem_of_getElem? (i := 779) (by decide +kernel), List.mem_of_getElem? (i := 780) (by decide +kernel)⟩
theorem lw_p30 : lw_okq (⟨"PromiseVatsModel", "unpack", "(III)V"⟩, 36) := ⟨⟨by decide +kernel, by decide +kernel⟩, List.mem_of_getElem? (i := 641) (by decide +kernel), List.mem_of_getElem? (i := 783) (by decide +kernel), List.mem_of_getElem? (i := 784) (by decide +kernel)⟩
theorem lw_p31 : lw_okq (⟨"PromiseVatsModel", "post", "(IIIIII)V"⟩, 36) := ⟨⟨by decide +kernel, by decide +kernel⟩, List.mem_of_getElem? (i := 641) (by decide +kernel), List.mem_of_getElem? (i := 787) (by decide +kernel), List.mem_of_getElem? (i := 788) (by decide +kernel)⟩
def lw_privs_2 : List (MethodName × Nat) := [(⟨"PromiseVats", "unpackArgument", "(LPromiseVats$Entity;II)V"⟩, 10), (⟨"PromiseVats", "takeMessage", "(LPromiseVats$Message;II)V"⟩, 10), (⟨"PromiseVats", "findReached", "(I)V"⟩, 10), (⟨"PromiseVats", "reach", "(LPromiseVats$Entity;)V"⟩, 10), (⟨"PromiseVats", "reachWanted", "(I)V"⟩, 10), (⟨"PromiseVats", "reachCalls", "(Ljava/util/ArrayList;)V"⟩, 10), (⟨"PromiseVats", "reachInside", "(LPromiseVats$Entity;)V"⟩, 10), (⟨"PromiseVats", "freeUnreached", "(I)I"⟩, 10), (⟨"PromiseVats", "releaseUnreached", "(I)V"⟩, 10), (⟨"PromiseVats", "madeEntity", "(I)LPromiseVats$Entity;"⟩, 10), (⟨"PromiseVats", "liveEntity", "(I)LPromiseVats$Entity;"⟩, 10), (⟨"PromiseVatsModel", "vat", "(I)Z"⟩, 36), (⟨"PromiseVatsModel", "oldest", "(I)I"⟩, 36), (⟨"PromiseVatsModel", "unmail", "(I)V"⟩, 36), (⟨"PromiseVatsModel", "unpack", "(III)V"⟩, 36), (⟨"PromiseVatsModel", "post", "(IIIIII)V"⟩, 36)]
theorem lw_r2 : ∀ q ∈ lw_privs_2, lw_okq q := List.forall_mem_cons.mpr ⟨lw_p16, List.forall_mem_cons.mpr ⟨lw_p17, List.forall_mem_cons.mpr ⟨lw_p18, List.forall_mem_cons.mpr ⟨lw_p19, List.forall_mem_cons.mpr ⟨lw_p20, List.forall_mem_cons.mpr ⟨lw_p21, List.forall_mem_cons.mpr ⟨lw_p22, List.forall_mem_cons.mpr ⟨lw_p23, List.forall_mem_cons.mpr ⟨lw_p24, List.forall_mem_cons.mpr ⟨lw_p25, List.forall_mem_cons.mpr ⟨lw_p26, List.forall_mem_cons.mpr ⟨lw_p27, List.forall_mem_cons.mpr ⟨lw_p28, List.forall_mem_cons.mpr ⟨lw_p29, List.forall_mem_cons.mpr ⟨lw_p30, List.forall_mem_cons.mpr ⟨lw_p31, fun _ h => absurd h List.not_mem_nil⟩⟩⟩⟩⟩⟩⟩⟩⟩⟩⟩⟩⟩⟩⟩⟩
theorem lw_p32 : lw_okq (⟨"PromiseVatsModel", "go", "(IIIII)V"⟩, 36) := ⟨⟨by decide +kernel, by decide +kernel⟩, List.mem_of_getElem? (i := 641) (by decide +kernel), List.mem_of_getElem? (i := 791) (by decide +kernel), List.mem_of_getElem? (i := 792) (by decide +kernel)⟩
theorem lw_p33 : lw_okq (⟨"PromiseVatsModel", "passes", "(II)Z"⟩, 36) := ⟨⟨by decide +kernel, by decide +kernel⟩, List.mem_of_getElem? (i := 641) (by decide +kernel), List.mem_of_getElem? (i := 795) (by decide +kernel), List.mem_of_getElem? (i := 796) (by decide +kernel)⟩
theorem lw_p34 : lw_okq (⟨"PromiseVatsModel", "waits", "(I)I"⟩, 36) := ⟨⟨by decide +kernel, by decide +kernel⟩, List.mem_of_getElem? (i := 641) (by decide +kernel), List.mem_of_getElem? (i := 799) (by decide +kernel), List.mem_of_getElem? (i := 800) (by decide +kernel)⟩
theorem lw_p35 : lw_okq (⟨"PromiseVatsModel", "pack", "(III)V"⟩, 36) := ⟨⟨by decide +kernel, by decide +kernel⟩, List.mem_of_getElem? (i := 641) (by decide +kernel), List.mem_of_getElem? (i := 803) (by decide +kernel), List.mem_of_getElem? (i := 804) (by decide +kernel)⟩
theorem lw_p36 : lw_okq (⟨"PromiseVatsModel", "rest", "(IIIII)V"⟩, 36) := ⟨⟨by decide +kernel, by decide +kernel⟩, List.mem_of_getElem? (i := 641) (by decide +kernel), List.mem_of_getElem? (i := 807) (by decide +kernel), List.mem_of_getElem? (i := 808) (by decide +kernel)⟩
theorem lw_p37 : lw_okq (⟨"PromiseVatsModel", "settle", "(III)V"⟩, 36) := ⟨⟨by decide +kernel, by decide +kernel⟩, List.mem_of_getElem? (i := 641) (by decide +kernel), List.mem_of_getElem? (i := 811) (by decide +kernel), List.mem_of_getElem? (i := 812) (by decide +kernel)⟩
theorem lw_p38 : lw_okq (⟨"PromiseVatsModel", "unrest", "(I)V"⟩, 36) := ⟨⟨by decide +kernel, by decide +kernel⟩, List.mem_of_getElem? (i := 641) (by decide +kernel), List.mem_of_getElem? (i := 815) (by decide +kernel), List.mem_of_getElem? (i := 816) (by decide +kernel)⟩
theorem lw_p39 : lw_okq (⟨"PromiseVatsModel", "pair", "(IIII)V"⟩, 36) := ⟨⟨by decide +kernel, by decide +kernel⟩, List.mem_of_getElem? (i := 641) (by decide +kernel), List.mem_of_getElem? (i := 819) (by decide +kernel), List.mem_of_getElem? (i := 820) (by decide +kernel)⟩
theorem lw_p40 : lw_okq (⟨"PromiseVatsModel", "mourn", "(I)V"⟩, 36) := ⟨⟨by decide +kernel, by decide +kernel⟩, List.mem_of_getElem? (i := 641) (by decide +kernel), List.mem_of_getElem? (i := 823) (by decide +kernel), List.mem_of_getElem? (i := 824) (by decide +kernel)⟩
theorem lw_p41 : lw_okq (⟨"PromiseVatsModel", "act", "(IIII)I"⟩, 36) := ⟨⟨by decide +kernel, by decide +kernel⟩, List.mem_of_getElem? (i := 641) (by decide +kernel), List.mem_of_getElem? (i := 844) (by decide +kernel), List.mem_of_getElem? (i := 845) (by decide +kernel)⟩
theorem lw_p42 : lw_okq (⟨"PromiseVatsModel", "fresh", "(II)I"⟩, 36) := ⟨⟨by decide +kernel, by decide +kernel⟩, List.mem_of_getElem? (i := 641) (by decide +kernel), List.mem_of_getElem? (i := 848) (by decide +kernel), List.mem_of_getElem? (i := 849) (by decide +kernel)⟩
theorem lw_p43 : lw_okq (⟨"PromiseVatsModel", "send", "(II)I"⟩, 36) := ⟨⟨by decide +kernel, by decide +kernel⟩, List.mem_of_getElem? (i := 641) (by decide +kernel), List.mem_of_getElem? (i := 852) (by decide +kernel), List.mem_of_getElem? (i := 853) (by decide +kernel)⟩
theorem lw_p44 : lw_okq (⟨"PromiseVatsModel", "put", "(I)V"⟩, 36) := ⟨⟨by decide +kernel, by decide +kernel⟩, List.mem_of_getElem? (i := 641) (by decide +kernel), List.mem_of_getElem? (i := 856) (by decide +kernel), List.mem_of_getElem? (i := 857) (by decide +kernel)⟩
theorem lw_p45 : lw_okq (⟨"PromiseVatsModel", "lives", "(I)Z"⟩, 36) := ⟨⟨by decide +kernel, by decide +kernel⟩, List.mem_of_getElem? (i := 641) (by decide +kernel), List.mem_of_getElem? (i := 864) (by decide +kernel), List.mem_of_getElem? (i := 865) (by decide +kernel)⟩
theorem lw_p46 : lw_okq (⟨"PromiseVatsModel", "made", "(I)Z"⟩, 36) := ⟨⟨by decide +kernel, by decide +kernel⟩, List.mem_of_getElem? (i := 641) (by decide +kernel), List.mem_of_getElem? (i := 868) (by decide +kernel), List.mem_of_getElem? (i := 869) (by decide +kernel)⟩
theorem lw_p47 : lw_okq (⟨"PromiseVatsModel", "rooted", "(II)Z"⟩, 36) := ⟨⟨by decide +kernel, by decide +kernel⟩, List.mem_of_getElem? (i := 641) (by decide +kernel), List.mem_of_getElem? (i := 872) (by decide +kernel), List.mem_of_getElem? (i := 873) (by decide +kernel)⟩
def lw_privs_3 : List (MethodName × Nat) := [(⟨"PromiseVatsModel", "go", "(IIIII)V"⟩, 36), (⟨"PromiseVatsModel", "passes", "(II)Z"⟩, 36), (⟨"PromiseVatsModel", "waits", "(I)I"⟩, 36), (⟨"PromiseVatsModel", "pack", "(III)V"⟩, 36), (⟨"PromiseVatsModel", "rest", "(IIIII)V"⟩, 36), (⟨"PromiseVatsModel", "settle", "(III)V"⟩, 36), (⟨"PromiseVatsModel", "unrest", "(I)V"⟩, 36), (⟨"PromiseVatsModel", "pair", "(IIII)V"⟩, 36), (⟨"PromiseVatsModel", "mourn", "(I)V"⟩, 36), (⟨"PromiseVatsModel", "act", "(IIII)I"⟩, 36), (⟨"PromiseVatsModel", "fresh", "(II)I"⟩, 36), (⟨"PromiseVatsModel", "send", "(II)I"⟩, 36), (⟨"PromiseVatsModel", "put", "(I)V"⟩, 36), (⟨"PromiseVatsModel", "lives", "(I)Z"⟩, 36), (⟨"PromiseVatsModel", "made", "(I)Z"⟩, 36), (⟨"PromiseVatsModel", "rooted", "(II)Z"⟩, 36)]
theorem lw_r3 : ∀ q ∈ lw_privs_3, lw_okq q := List.forall_mem_cons.mpr ⟨lw_p32, List.forall_mem_cons.mpr ⟨lw_p33, List.forall_mem_cons.mpr ⟨lw_p34, List.forall_mem_cons.mpr ⟨lw_p35, List.forall_mem_cons.mpr ⟨lw_p36, List.forall_mem_cons.mpr ⟨lw_p37, List.forall_mem_cons.mpr ⟨lw_p38, List.forall_mem_cons.mpr ⟨lw_p39, List.forall_mem_cons.mpr ⟨lw_p40, List.forall_mem_cons.mpr ⟨lw_p41, List.forall_mem_cons.mpr ⟨lw_p42, List.forall_mem_cons.mpr ⟨lw_p43, List.forall_mem_cons.mpr ⟨lw_p44, List.forall_mem_cons.mpr ⟨lw_p45, List.forall_mem_cons.mpr ⟨lw_p46, List.forall_mem_cons.mpr ⟨lw_p47, fun _ h => absurd h List.not_mem_nil⟩⟩⟩⟩⟩⟩⟩⟩⟩⟩⟩⟩⟩⟩⟩⟩
theorem lw_p48 : lw_okq (⟨"PromiseVatsModel", "mark", "(I)V"⟩, 36) := ⟨⟨by decide +kernel, by decide +kernel⟩, List.mem_of_getElem? (i := 641) (by decide +kernel), List.mem_of_getElem? (i := 876) (by decide +kernel), List.mem_of_getElem? (i := 877) (by decide +kernel)⟩
theorem lw_p49 : lw_okq (⟨"PromiseVatsModel", "spread", "(I)V"⟩, 36) := ⟨⟨by decide +kernel, by decide +kernel⟩, List.mem_of_getElem? (i := 641) (by decide +kernel), List.mem_of_getElem? (i := 880) (by decide +kernel), List.mem_of_getElem? (i := 881) (by decide +kernel)⟩
theorem lw_p50 : lw_okq (⟨"PromiseVatsModel", "counts", "(III)Z"⟩, 36) := ⟨⟨by decide +kernel, by decide +kernel⟩, List.mem_of_getElem? (i := 641) (by decide +kernel), List.mem_of_getElem? (i := 892) (by decide +kernel), List.mem_of_getElem? (i := 893) (by decide +kernel)⟩
def lw_privs_4 : List (MethodName × Nat) := [(⟨"PromiseVatsModel", "mark", "(I)V"⟩, 36), (⟨"PromiseVatsModel", "spread", "(I)V"⟩, 36), (⟨"PromiseVatsModel", "counts", "(III)Z"⟩, 36)]
theorem lw_r4 : ∀ q ∈ lw_privs_4, lw_okq q := List.forall_mem_cons.mpr ⟨lw_p48, List.forall_mem_cons.mpr ⟨lw_p49, List.forall_mem_cons.mpr ⟨lw_p50, fun _ h => absurd h List.not_mem_nil⟩⟩⟩
def lw_privs : List (MethodName × Nat) := lw_privs_1 ++ (lw_privs_2 ++ (lw_privs_3 ++ (lw_privs_4)))
def lw_tbl : List Cond := k2_sels lw_privs ++ tables_1
theorem lw_privs_ok : ∀ q ∈ lw_privs, lw_okq q := by
  show ∀ q ∈ lw_privs_1 ++ (lw_privs_2 ++ (lw_privs_3 ++ (lw_privs_4))), lw_okq q
  exact List.forall_mem_append.mpr ⟨lw_r1, List.forall_mem_append.mpr ⟨lw_r2, List.forall_mem_append.mpr ⟨lw_r3, lw_r4⟩⟩⟩
/-- the words of the tables that stay over a warming: what every contract asks -/
def tb_ : List Cond := lw_tbl.filter goodWord
theorem tb_good : GoodIn tb_ tb_ := fun w h => ⟨h, good_of_word (List.mem_filter.mp h).2⟩
theorem tb_in {w : Cond} (i : Nat) (h : tables_1[i]? = some w) (hg : goodWord w = true) : w ∈ tb_ := List.mem_filter.mpr ⟨List.mem_append_right _ (List.mem_of_getElem? h), hg⟩
theorem tb_se {w : Cond} (i : Nat) (h : (k2_sels lw_privs)[i]? = some w) (hg : goodWord w = true) : w ∈ tb_ := List.mem_filter.mpr ⟨List.mem_append_left _ (List.mem_of_getElem? h), hg⟩
end
section
/-! The store: what the walks know of the heap. A cell is a row of ints, a row of references (their type's number, length, contents) or an object (its class's number, its fields). A store: what lies at each address, and how many cells the heap has. A program over it: its answer, the store behind it, the cells and the slots that it has made. -/
abbrev ce_E : Type := (Nat × Nat × (Nat → Int32)) ⊕ (Nat × Nat × (Nat → Option Nat)) ⊕ (Nat × List Value)
abbrev st_S : Type := (Nat → Option ce_E) × Nat
abbrev st_M (α : Type) : Type := st_S → Option (α × st_S × Nat × Nat)
def ce_v (ac : Nat → ClassId) (e : ce_E) : va_E := match e with
  | .inl x => .inl (ac x.1, x.2.1, .inl x.2.2)
  | .inr (.inl x) => .inl (ac x.1, x.2.1, .inr (.inr (.inr (.inr x.2.2))))
  | .inr (.inr o) => .inr o
/-- a row of no places: nobody can write into it -/
def ce_0 (e : ce_E) : Prop := ∃ (t : Nat) (f : Nat → Option Nat), e = .inr (.inl (t, 0, f))
def st_up (st : st_S) (a : Nat) (e : ce_E) : st_S := (fun q => if q = a then some e else st.1 q, st.2)
def st_ad (st : st_S) (e : ce_E) : st_S := (fun q => if q = st.2 then some e else st.1 q, st.2 + 1)
def st_r {α : Type} (a : α) : st_M α := fun st => some (a, st, 0, 0)
def st_b {α β : Type} (x : st_M α) (f : α → st_M β) : st_M β := fun st => match x st with
  | none => none
  | some (a, st1, i1, j1) => match f a st1 with
    | none => none
    | some (b, st2, i2, j2) => some (b, st2, i1 + i2, j1 + j2)
/-- a read, then the rest -/
def st_g {α β : Type} (f : st_S → Option α) (k : α → st_M β) : st_M β := fun st => (f st).bind (fun a => k a st)
/-- a write, then the rest -/
def st_w {β : Type} (f : st_S → Option st_S) (k : st_M β) : st_M β := fun st => (f st).bind k
/-- a new cell of j slots, then the rest -/
def st_n {β : Type} (e : ce_E) (j : Nat) (k : Nat → st_M β) : st_M β := fun st => match k st.2 (st_ad st e) with
  | none => none
  | some (b, st2, i2, j2) => some (b, st2, 1 + i2, j + j2)
theorem st_r_some {α : Type} {a r : α} {st stF : st_S} {i j : Nat} (h : st_r a st = some (r, stF, i, j)) : r = a ∧ stF = st ∧ i = 0 ∧ j = 0 := by
  simp only [st_r, Option.some.injEq, Prod.mk.injEq] at h
  exact ⟨h.1.symm, h.2.1.symm, h.2.2.1.symm, h.2.2.2.symm⟩
theorem st_b_some {α β : Type} {x : st_M α} {f : α → st_M β} {st stF : st_S} {r : β} {i j : Nat} (h : st_b x f st = some (r, stF, i, j)) :
    ∃ (a : α) (st1 : st_S) (i1 j1 i2 j2 : Nat), x st = some (a, st1, i1, j1) ∧ f a st1 = some (r, stF, i2, j2) ∧ i = i1 + i2 ∧ j = j1 + j2 := by
  unfold st_b at h
  split at h
  · cases h
  · rename_i a st1 i1 j1 hx
    split at h
    · cases h
    · rename_i b st2 i2 j2 hf
      simp only [Option.some.injEq, Prod.mk.injEq] at h
      obtain ⟨rfl, rfl, rfl, rfl⟩ := h
      exact ⟨a, st1, i1, j1, i2, j2, hx, hf, rfl, rfl⟩
theorem st_g_some {α β : Type} {f : st_S → Option α} {k : α → st_M β} {st : st_S} {x : β × st_S × Nat × Nat} (h : st_g f k st = some x) : ∃ a : α, f st = some a ∧ k a st = some x := Option.bind_eq_some_iff.mp h
theorem st_w_some {β : Type} {f : st_S → Option st_S} {k : st_M β} {st : st_S} {x : β × st_S × Nat × Nat} (h : st_w f k st = some x) : ∃ st1 : st_S, f st = some st1 ∧ k st1 = some x := Option.bind_eq_some_iff.mp h
theorem st_n_some {β : Type} {e : ce_E} {j0 : Nat} {k : Nat → st_M β} {st stF : st_S} {r : β} {i j : Nat} (h : st_n e j0 k st = some (r, stF, i, j)) :
    ∃ i2 j2 : Nat, k st.2 (st_ad st e) = some (r, stF, i2, j2) ∧ i = 1 + i2 ∧ j = j0 + j2 := by
  unfold st_n at h
  split at h
  · cases h
  · rename_i b st2 i2 j2 hk
    simp only [Option.some.injEq, Prod.mk.injEq] at h
    obtain ⟨rfl, rfl, rfl, rfl⟩ := h
    exact ⟨i2, j2, hk, rfl, rfl⟩
/-! what a program reads and writes -/
/-- a field of an object of one of the classes cis -/
def so_g (st : st_S) (r : Option Nat) (cis : List Nat) (k : Nat) : Option Value := match r with
  | none => none
  | some a => match st.1 a with
    | some (.inr (.inr o)) => if o.1 ∈ cis then o.2[k]? else none
    | _ => none
def so_vi (v : Value) : Option Int32 := match v with
  | .int x => some x
  | _ => none
def so_vq (v : Value) : Option (Option Nat) := match v with
  | .null => some none
  | .ref a => some (some a)
  | _ => none
def so_gi (r : Option Nat) (cis : List Nat) (k : Nat) (st : st_S) : Option Int32 := (so_g st r cis k).bind so_vi
def so_gq (r : Option Nat) (cis : List Nat) (k : Nat) (st : st_S) : Option (Option Nat) := (so_g st r cis k).bind so_vq
def so_p (r : Option Nat) (cis : List Nat) (k : Nat) (v : Value) (st : st_S) : Option st_S := match r with
  | none => none
  | some a => match st.1 a with
    | some (.inr (.inr o)) => if o.1 ∈ cis ∧ k < o.2.length then some (st_up st a (.inr (.inr (o.1, o.2.set k v)))) else none
    | _ => none
/-- the class of an object -/
def so_c (r : Option Nat) (st : st_S) : Option Nat := match r with
  | none => none
  | some a => match st.1 a with
    | some (.inr (.inr o)) => some o.1
    | _ => none
/-- rows of type t: a place read, a place written, the length -/
def so_li (r : Option Nat) (t : Nat) (x : Int32) (st : st_S) : Option Int32 := match r with
  | none => none
  | some a => match st.1 a with
    | some (.inl o) => if o.1 = t ∧ ¬ x < 0 ∧ x.toNatClampNeg < o.2.1 then some (o.2.2 x.toNatClampNeg) else none
    | _ => none
def so_si (r : Option Nat) (t : Nat) (x y : Int32) (st : st_S) : Option st_S := match r with
  | none => none
  | some a => match st.1 a with
    | some (.inl o) => if o.1 = t ∧ ¬ x < 0 ∧ x.toNatClampNeg < o.2.1 then some (st_up st a (.inl (o.1, o.2.1, upd o.2.2 x.toNatClampNeg y))) else none
    | _ => none
def so_lq (r : Option Nat) (ts : List Nat) (x : Int32) (st : st_S) : Option (Option Nat) := match r with
  | none => none
  | some a => match st.1 a with
    | some (.inr (.inl o)) => if o.1 ∈ ts ∧ ¬ x < 0 ∧ x.toNatClampNeg < o.2.1 then some (o.2.2 x.toNatClampNeg) else none
    | _ => none
/-- what is stored is null or an object of one of the classes cis -/
def so_is (st : st_S) (q : Option Nat) (cis : List Nat) : Bool := match q with
  | none => true
  | some b => match st.1 b with
    | some (.inr (.inr o)) => decide (o.1 ∈ cis)
    | _ => false
def so_sq (r : Option Nat) (ts : List Nat) (cis : List Nat) (x : Int32) (q : Option Nat) (st : st_S) : Option st_S := match r with
  | none => none
  | some a => match st.1 a with
    | some (.inr (.inl o)) => if o.1 ∈ ts ∧ ¬ x < 0 ∧ x.toNatClampNeg < o.2.1 ∧ so_is st q cis = true then some (st_up st a (.inr (.inl (o.1, o.2.1, va_up o.2.2 x.toNatClampNeg q)))) else none
    | _ => none
def so_n (r : Option Nat) (ts : List Nat) (st : st_S) : Option Int32 := match r with
  | none => none
  | some a => match st.1 a with
    | some (.inl o) => if o.1 ∈ ts then some (Int32.ofNat o.2.1) else none
    | some (.inr (.inl o)) => if o.1 ∈ ts then some (Int32.ofNat o.2.1) else none
    | _ => none
theorem so_g_some {st : st_S} {r : Option Nat} {cis : List Nat} {k : Nat} {v : Value} (h : so_g st r cis k = some v) : ∃ (a ci : Nat) (fs : List Value), r = some a ∧ st.1 a = some (.inr (.inr (ci, fs))) ∧ ci ∈ cis ∧ fs[k]? = some v := by
  unfold so_g at h
  split at h
  · cases h
  · rename_i a
    split at h
    · rename_i o ho
      obtain ⟨ci, fs⟩ := o
      split at h
      · rename_i hc
        exact ⟨a, ci, fs, rfl, ho, hc, h⟩
      · cases h
    · cases h
theorem so_gi_some {st : st_S} {r : Option Nat} {cis : List Nat} {k : Nat} {x : Int32} (h : so_gi r cis k st = some x) : so_g st r cis k = some (.int x) := by
  obtain ⟨v, h1, h2⟩ := Option.bind_eq_some_iff.mp h
  rw [h1]
  cases v <;> simp_all [so_vi]
theorem so_gq_some {st : st_S} {r : Option Nat} {cis : List Nat} {k : Nat} {x : Option Nat} (h : so_gq r cis k st = some x) : so_g st r cis k = some (va_rf x) := by
  obtain ⟨v, h1, h2⟩ := Option.bind_eq_some_iff.mp h
  rw [h1]
  cases v <;> simp_all [so_vq, va_rf] <;> (subst h2; rfl)
theorem so_p_some {st st' : st_S} {r : Option Nat} {cis : List Nat} {k : Nat} {v : Value} (h : so_p r cis k v st = some st') : ∃ (a ci : Nat) (fs : List Value), r = some a ∧ st.1 a = some (.inr (.inr (ci, fs))) ∧ ci ∈ cis ∧ k < fs.length ∧ st' = st_up st a (.inr (.inr (ci, fs.set k v))) := by
  unfold so_p at h
  split at h
  · cases h
  · rename_i a
    split at h
    · rename_i o ho
      obtain ⟨ci, fs⟩ := o
      split at h
      · rename_i hc
        exact ⟨a, ci, fs, rfl, ho, hc.1, hc.2, (Option.some.inj h).symm⟩
      · cases h
    · cases h
theorem so_c_some {st : st_S} {r : Option Nat} {ci : Nat} (h : so_c r st = some ci) : ∃ (a : Nat) (fs : List Value), r = some a ∧ st.1 a = some (.inr (.inr (ci, fs))) := by
  unfold so_c at h
  split at h
  · cases h
  · rename_i a
    split at h
    · rename_i o ho
      obtain ⟨cj, fs⟩ := o
      cases h
      exact ⟨a, fs, rfl, ho⟩
    · cases h
theorem so_li_some {st : st_S} {r : Option Nat} {t : Nat} {x y : Int32} (h : so_li r t x st = some y) : ∃ (a n : Nat) (f : Nat → Int32), r = some a ∧ st.1 a = some (.inl (t, n, f)) ∧ vp_in x n ∧ y = f x.toNatClampNeg := by
  unfold so_li at h
  split at h
  · cases h
  · rename_i a
    split at h
    · rename_i o ho
      obtain ⟨t', n, f⟩ := o
      split at h
      · rename_i hc
        obtain ⟨rfl, h1, h2⟩ := hc
        exact ⟨a, n, f, rfl, ho, fun z => z.elim h1 (fun z => Nat.not_le.mpr h2 z), (Option.some.inj h).symm⟩
      · cases h
    · cases h
theorem so_si_some {st st' : st_S} {r : Option Nat} {t : Nat} {x y : Int32} (h : so_si r t x y st = some st') : ∃ (a n : Nat) (f : Nat → Int32), r = some a ∧ st.1 a = some (.inl (t, n, f)) ∧ vp_in x n ∧ st' = st_up st a (.inl (t, n, upd f x.toNatClampNeg y)) := by
  unfold so_si at h
  split at h
  · cases h
  · rename_i a
    split at h
    · rename_i o ho
      obtain ⟨t', n, f⟩ := o
      split at h
      · rename_i hc
        obtain ⟨rfl, h1, h2⟩ := hc
        exact ⟨a, n, f, rfl, ho, fun z => z.elim h1 (fun z => Nat.not_le.mpr h2 z), (Option.some.inj h).symm⟩
      · cases h
    · cases h
theorem so_lq_some {st : st_S} {r : Option Nat} {ts : List Nat} {x : Int32} {y : Option Nat} (h : so_lq r ts x st = some y) : ∃ (a t n : Nat) (f : Nat → Option Nat), r = some a ∧ st.1 a = some (.inr (.inl (t, n, f))) ∧ t ∈ ts ∧ vp_in x n ∧ y = f x.toNatClampNeg := by
  unfold so_lq at h
  split at h
  · cases h
  · rename_i a
    split at h
    · rename_i o ho
      obtain ⟨t', n, f⟩ := o
      split at h
      · rename_i hc
        obtain ⟨h0, h1, h2⟩ := hc
        exact ⟨a, t', n, f, rfl, ho, h0, fun z => z.elim h1 (fun z => Nat.not_le.mpr h2 z), (Option.some.inj h).symm⟩
      · cases h
    · cases h
theorem so_sq_some {st st' : st_S} {r : Option Nat} {ts cis : List Nat} {x : Int32} {q : Option Nat} (h : so_sq r ts cis x q st = some st') : ∃ (a t n : Nat) (f : Nat → Option Nat), r = some a ∧ st.1 a = some (.inr (.inl (t, n, f))) ∧ t ∈ ts ∧ vp_in x n ∧ so_is st q cis = true ∧ st' = st_up st a (.inr (.inl (t, n, va_up f x.toNatClampNeg q))) := by
  unfold so_sq at h
  split at h
  · cases h
  · rename_i a
    split at h
    · rename_i o ho
      obtain ⟨t', n, f⟩ := o
      split at h
      · rename_i hc
        obtain ⟨h0, h1, h2, h3⟩ := hc
        exact ⟨a, t', n, f, rfl, ho, h0, fun z => z.elim h1 (fun z => Nat.not_le.mpr h2 z), h3, (Option.some.inj h).symm⟩
      · cases h
    · cases h
theorem so_is_some {st : st_S} {b : Nat} {cis : List Nat} (h : so_is st (some b) cis = true) : ∃ (ci : Nat) (fs : List Value), st.1 b = some (.inr (.inr (ci, fs))) ∧ ci ∈ cis := by
  unfold so_is at h
  split at h
  · rename_i z
    cases z
  · rename_i b' z
    cases z
    split at h
    · rename_i o ho
      exact ⟨o.1, o.2, ho, of_decide_eq_true h⟩
    · cases h
end
section
/-! The rows of the walks over stores: one a kind of instruction. -/
/-- the heap H holds the store st: all of it at a0 or above, but rows of no places -/
def wd_ (D : va_G) (cl : List vw_C) (ac : Nat → ClassId) (a0 : Nat) (st : st_S) (H : Heap) : Prop :=
  H.size = st.2 ∧ a0 ≤ st.2 ∧ ∀ (a : Nat) (e : ce_E), st.1 a = some e → (a0 ≤ a ∨ ce_0 e) ∧ va_at D cl (a, ce_v ac e) H
theorem wd_up {D : va_G} {cl : List vw_C} {ac : Nat → ClassId} {a0 : Nat} {st : st_S} {H H1 : Heap} {a : Nat} {e : ce_E} (h : wd_ D cl ac a0 st H) (he : va_at D cl (a, ce_v ac e) H1) (hz : H1.size = H.size) (oq : ∀ q : Nat, q ≠ a → H1[q]? = H[q]?) (ha : a0 ≤ a) : wd_ D cl ac a0 (st_up st a e) H1 := by
  obtain ⟨h1, h2, h3⟩ := h
  refine ⟨hz.trans h1, h2, fun b x hb => ?_⟩
  by_cases hba : b = a
  · subst hba
    simp only [st_up, if_pos] at hb
    cases hb
    exact ⟨Or.inl ha, he⟩
  · simp only [st_up, if_neg hba] at hb
    exact ⟨(h3 b x hb).1, (h3 b x hb).2.kept (oq b hba)⟩
theorem wd_ad {D : va_G} {cl : List vw_C} {ac : Nat → ClassId} {a0 : Nat} {st : st_S} {H H1 : Heap} {e : ce_E} (h : wd_ D cl ac a0 st H) (he : va_at D cl (st.2, ce_v ac e) H1) (hz : H1.size = st.2 + 1) (oq : ∀ q : Nat, q < st.2 → H1[q]? = H[q]?) : wd_ D cl ac a0 (st_ad st e) H1 := by
  obtain ⟨h1, h2, h3⟩ := h
  refine ⟨hz, Nat.le_succ_of_le h2, fun b x hb => ?_⟩
  by_cases hba : b = st.2
  · subst hba
    simp only [st_ad, if_pos] at hb
    cases hb
    exact ⟨Or.inl h2, he⟩
  · simp only [st_ad, if_neg hba] at hb
    have hlt : b < st.2 := by rw [← h1]; exact (h3 b x hb).2.lt
    exact ⟨(h3 b x hb).1, (h3 b x hb).2.kept (oq b hlt)⟩
/-- and since H0 nothing below a0 has changed -/
def ww_ (D : va_G) (cl : List vw_C) (ac : Nat → ClassId) (a0 : Nat) (st : st_S) (H0 H : Heap) (locs : List Loc) : Prop :=
  wd_ D cl ac a0 st H ∧ va_S (fun q => a0 ≤ q) H0 H locs ∧ a0 ≤ H0.size
/-- what a walk knows of its method and of the tables -/
def cx_ (p : Program) (s : State) (m : MethodId) (args : Array Value) (c : Code) (cc : ByteArray) (nL : Nat) (own : String) (tb : List Cond) (D : va_G) (cl : List vw_C) (tys : List (ClassId × FieldType)) : Prop :=
  p.tables.exec = Jvm.exec ∧ c.code = cc ∧ c.maxLocals = nL ∧ s.vm.findClass own = some m.cls ∧ (∀ w ∈ tb, w.before args s = true) ∧ va_K D cl tys s
/-- a class of the list: its fields' words, types and names -/
def cf_ (cl : List vw_C) (tb : List Cond) (ci : Nat) (C : String) (T : u_T) (N : Nat) (ty : Nat → FieldType) : Prop :=
  cl[ci]? = some (C, T, N) ∧ (∀ w ∈ u_ws C T N, w ∈ tb) ∧ (∀ k, k < N → parseFieldDescriptor (T k).2.2.1 = some (ty k)) ∧ ∀ a, a < N → ∀ b, b < N → a ≠ b → (T a).2.1 ≠ (T b).2.1
/-- field k of each of the classes cis -/
def ff_ (cl : List vw_C) (tb : List Cond) (cis : List Nat) (k : Nat) (dcl nm ds : String) (fin : Bool) : Prop :=
  ∀ ci ∈ cis, ∃ (C : String) (T : u_T) (N : Nat) (ty : Nat → FieldType), cf_ cl tb ci C T N ty ∧ k < N ∧ T k = (dcl, nm, ds, fin)
theorem ff_1 {cl : List vw_C} {tb : List Cond} {ci k N : Nat} {dcl nm ds C : String} {fin : Bool} {T : u_T} {ty : Nat → FieldType} (h : cf_ cl tb ci C T N ty) (hk : k < N) (hT : T k = (dcl, nm, ds, fin)) : ff_ cl tb [ci] k dcl nm ds fin := by
  intro cj hj
  rw [List.mem_singleton.mp hj]
  exact ⟨C, T, N, ty, h, hk, hT⟩
theorem ff_c {cl : List vw_C} {tb : List Cond} {ci k N : Nat} {cis : List Nat} {dcl nm ds C : String} {fin : Bool} {T : u_T} {ty : Nat → FieldType} (h : cf_ cl tb ci C T N ty) (hk : k < N) (hT : T k = (dcl, nm, ds, fin)) (h2 : ff_ cl tb cis k dcl nm ds fin) : ff_ cl tb (ci :: cis) k dcl nm ds fin := by
  intro cj hj
  rcases List.mem_cons.mp hj with rfl | hj
  · exact ⟨C, T, N, ty, h, hk, hT⟩
  · exact h2 cj hj
theorem va_P1 {D : va_G} {cl : List vw_C} {x : Nat × va_E} {H : Heap} (h : va_at D cl x H) : va_P D cl [x] H := by
  intro i q hi
  have hz : i < 1 := (List.getElem?_eq_some_iff.mp hi).1
  rw [show i = 0 by omega] at hi
  cases hi
  exact h
section RRA
variable {p : Program} {l : Launch} {e : Env} {R : Room} {s : State} {m : MethodId} {args : Array Value} {below : List Frame} {meth : Method} {c : Code} {H : Heap} {locs : List Loc} {cells slots : Nat} {Q : State → Prop}
variable {cc : ByteArray} {pc nL : Nat} {ls : Array Slot} {rest : List Value} {D : va_G} {cl : List vw_C} {ac : Nat → ClassId} {tys : List (ClassId × FieldType)} {a0 : Nat} {H0 : Heap} {st st' : st_S} {own : String} {tb : List Cond}
theorem rr_get {cis : List Nat} {k index : Nat} {dcl nm ds ref : String} {fin : Bool} {v : Value} {r : Option Nat} (X : cx_ p s m args c cc nL own tb D cl tys) (hw : ww_ D cl ac a0 st H0 H locs) (hf : ff_ cl tb cis k dcl nm ds fin) (hv : so_g st r cis k = some v)
    (hlink : Cond.fieldLink own index ref nm ds ∈ tb) (hsame : ref = dcl ∨ Cond.sameField ref dcl nm ds ∈ tb) (hdg : decode cc pc = .ok (.getfield index, 3))
    (kk : W p l e R s m args below meth c H locs cells slots Q (F0 m (pc + 3) ls (v :: rest))) : W p l e R s m args below meth c H locs cells slots Q (F0 m pc ls (va_rf r :: rest)) := by
  obtain ⟨a, ci, fs, rfl, ha, hc, hk⟩ := so_g_some hv
  obtain ⟨C, T, N, ty, ⟨h1, h2, -, -⟩, hkN, hT⟩ := hf ci hc
  obtain ⟨x1, x2, x3, x4, x5, x6⟩ := X
  have hP : va_P D cl [(a, .inr (ci, fs))] H := va_P1 (hw.1.2.2 a _ ha).2
  have hl : (Cond.fieldLink own index ref (T k).2.1 (T k).2.2.1).before args s = true := by rw [hT]; exact x5 _ hlink
  have hs : ∀ x, s.fieldFound? (T k).1 (T k).2.1 (T k).2.2.1 = some x → s.fieldFound? ref (T k).2.1 (T k).2.2.1 = some x := by
    rw [hT]
    intro x hx
    rcases hsame with rfl | h
    · exact hx
    · exact u_same (x5 _ h) x hx
  exact va_get (D := D) (ci := ci) (v := v) (C := C) (T := T) (N := N) x1 x2 x5 h2 x4 x6 hP 0 rfl h1 k hkN hl hs hk hdg kk
theorem rr_geti {cis : List Nat} {k index : Nat} {dcl nm ds ref : String} {fin : Bool} {v : Int32} {r : Option Nat} (X : cx_ p s m args c cc nL own tb D cl tys) (hw : ww_ D cl ac a0 st H0 H locs) (hf : ff_ cl tb cis k dcl nm ds fin) (hv : so_gi r cis k st = some v)
    (hlink : Cond.fieldLink own index ref nm ds ∈ tb) (hsame : ref = dcl ∨ Cond.sameField ref dcl nm ds ∈ tb) (hdg : decode cc pc = .ok (.getfield index, 3))
    (kk : W p l e R s m args below meth c H locs cells slots Q (F0 m (pc + 3) ls (.int v :: rest))) : W p l e R s m args below meth c H locs cells slots Q (F0 m pc ls (va_rf r :: rest)) :=
  rr_get X hw hf (so_gi_some hv) hlink hsame hdg kk
theorem rr_getq {cis : List Nat} {k index : Nat} {dcl nm ds ref : String} {fin : Bool} {v : Option Nat} {r : Option Nat} (X : cx_ p s m args c cc nL own tb D cl tys) (hw : ww_ D cl ac a0 st H0 H locs) (hf : ff_ cl tb cis k dcl nm ds fin) (hv : so_gq r cis k st = some v)
    (hlink : Cond.fieldLink own index ref nm ds ∈ tb) (hsame : ref = dcl ∨ Cond.sameField ref dcl nm ds ∈ tb) (hdg : decode cc pc = .ok (.getfield index, 3))
    (kk : W p l e R s m args below meth c H locs cells slots Q (F0 m (pc + 3) ls (va_rf v :: rest))) : W p l e R s m args below meth c H locs cells slots Q (F0 m pc ls (va_rf r :: rest)) :=
  rr_get X hw hf (so_gq_some hv) hlink hsame hdg kk
theorem rr_put {cis : List Nat} {k index : Nat} {dcl nm ds ref : String} {v : Value} {ty : FieldType} {r : Option Nat} (X : cx_ p s m args c cc nL own tb D cl tys) (hw : ww_ D cl ac a0 st H0 H locs) (hf : ff_ cl tb cis k dcl nm ds false) (hv : so_p r cis k v st = some st')
    (hlink : Cond.fieldLink own index ref nm ds ∈ tb) (hsame : ref = dcl ∨ Cond.sameField ref dcl nm ds ∈ tb) (hd : parseFieldDescriptor ds = some ty) (hn : narrow ty v = v) (hfit : fits ty v = true) (hdg : decode cc pc = .ok (.putfield index, 3))
    (kk : ∀ (H1 : Heap) (locs1 : List Loc), ww_ D cl ac a0 st' H0 H1 locs1 → W p l e R s m args below meth c H1 locs1 cells slots Q (F0 m (pc + 3) ls rest)) : W p l e R s m args below meth c H locs cells slots Q (F0 m pc ls (v :: va_rf r :: rest)) := by
  obtain ⟨a, ci, fs, rfl, ha, hc, hl, rfl⟩ := so_p_some hv
  obtain ⟨C, T, N, ty0, ⟨g1, g2, g3, g4⟩, hkN, hT⟩ := hf ci hc
  obtain ⟨x1, x2, x3, x4, x5, x6⟩ := X
  have hap := va_apart (own := own) x5 g2 ty0 g3 g4 x6 g1
  have hat := hw.1.2.2 a _ ha
  have ha0 : a0 ≤ a := hat.1.elim id (fun ⟨_, _, z⟩ => by cases z)
  obtain ⟨r, h1, cell, q1, q2, q3, q4⟩ : va_at D cl (a, .inr (ci, fs)) H := hat.2
  have hr : r = (C, T, N) := Option.some.inj (h1.symm.trans g1)
  subst hr
  obtain ⟨hS, hfc, kC, hkC, hkind⟩ := x6.1 ci _ g1
  obtain ⟨cf, kf, fi, f, hi, hsl⟩ := hS k hkN
  have hi : s.fieldFound? (T k).1 (T k).2.1 (T k).2.2.1 = some (cf, kf, fi, f) := hi
  have hlay := x5 _ (g2 _ (u_in_lay hkN))
  unfold u_lay at hlay
  rw [if_neg (by rw [hT]; simp)] at hlay
  have hst := (u_facts hfc hkC (u_lays x5 g2 hkN) hi).1
  have h6 := u_store hfc hkC hkind hlay hi (by rw [hT]; exact hd) hn hfit
  have hi2 : s.fieldFound? ref nm ds = some (cf, kf, fi, f) := by
    have hi3 : s.fieldFound? dcl nm ds = some (cf, kf, fi, f) := by have := hi; rw [hT] at this; exact this
    rcases hsame with rfl | h
    · exact hi3
    · exact u_same (x5 _ h) _ hi3
  refine W.putK x1 x2 (f := f) (own := own) (ref := ref) (name := nm) (desc := ds) (index := index) ⟨x4, x5 _ hlink, ⟨_, _, _, hi2⟩, hst⟩ (by rw [q2]; exact h6) q1 q3 (by rw [hsl]; exact k2_hasslot (q4 k hkN)) rfl rfl hdg fun H' e1 e2 e3 => ?_
  rw [hsl] at e1
  exact kk H' _ ⟨wd_up hw.1 ⟨_, g1, t_OB.to (V := updV (vp_V fs) k v) ⟨_, e1, q2, q3, t_set q4 hap hkN v⟩ (fun j _ => vp_updV_set hl v j)⟩ e2 e3 ha0, va_S.put hw.2.1 e2 e3 ha0, hw.2.2⟩
/-- a final field, in its class's constructor -/
theorem rr_putF {cis : List Nat} {k index : Nat} {nm ds : String} {v : Value} {ty : FieldType} {r : Option Nat} (X : cx_ p s m args c cc nL own tb D cl tys) (hw : ww_ D cl ac a0 st H0 H locs) (hf : ff_ cl tb cis k own nm ds true) (hv : so_p r cis k v st = some st')
    (hlink : Cond.fieldLink own index own nm ds ∈ tb) (hin : meth.name = "<init>") (hd : parseFieldDescriptor ds = some ty) (hn : narrow ty v = v) (hfit : fits ty v = true) (hdg : decode cc pc = .ok (.putfield index, 3))
    (kk : ∀ (H1 : Heap) (locs1 : List Loc), ww_ D cl ac a0 st' H0 H1 locs1 → W p l e R s m args below meth c H1 locs1 cells slots Q (F0 m (pc + 3) ls rest)) : W p l e R s m args below meth c H locs cells slots Q (F0 m pc ls (v :: va_rf r :: rest)) := by
  obtain ⟨a, ci, fs, rfl, ha, hc, hl, rfl⟩ := so_p_some hv
  obtain ⟨C, T, N, ty0, ⟨g1, g2, g3, g4⟩, hkN, hT⟩ := hf ci hc
  obtain ⟨x1, x2, x3, x4, x5, x6⟩ := X
  have hap := va_apart (own := own) x5 g2 ty0 g3 g4 x6 g1
  have hat := hw.1.2.2 a _ ha
  have ha0 : a0 ≤ a := hat.1.elim id (fun ⟨_, _, z⟩ => by cases z)
  obtain ⟨r, h1, cell, q1, q2, q3, q4⟩ : va_at D cl (a, .inr (ci, fs)) H := hat.2
  have hr : r = (C, T, N) := Option.some.inj (h1.symm.trans g1)
  subst hr
  obtain ⟨hS, hfc, kC, hkC, hkind⟩ := x6.1 ci _ g1
  obtain ⟨cf, kf, fi, f, hi, hsl⟩ := hS k hkN
  have hi : s.fieldFound? (T k).1 (T k).2.1 (T k).2.2.1 = some (cf, kf, fi, f) := hi
  have hlay := x5 _ (g2 _ (u_in_lay hkN))
  unfold u_lay at hlay
  rw [if_pos (by rw [hT])] at hlay
  have hst := (u_facts hfc hkC (u_lays x5 g2 hkN) hi).1
  have hcf : m.cls = cf := by
    obtain ⟨_, _, c', _, _, _, -, -, hf', -, -, -, hown2, -⟩ := Cond.laysFinal_spec hlay
    have e1 : c' = cf := by have := hi.symm.trans hf'; simp at this; exact this.1.symm
    rw [hT] at hown2
    rw [← e1]
    exact Option.some.inj (x4.symm.trans hown2)
  have h6 := u_fits hfc hkC hkind (Or.inr hlay) hi (by rw [hT]; exact hd) hn hfit
  have hi2 : s.fieldFound? own nm ds = some (cf, kf, fi, f) := by have := hi; rw [hT] at this; exact this
  refine W.putFinK x1 x2 (own := own) (ref := own) (name := nm) (desc := ds) (index := index) x4 (x5 _ hlink) hi2 hst hcf hin (by rw [q2]; exact h6) q1 q3 (by rw [hsl]; exact k2_hasslot (q4 k hkN)) rfl rfl hdg fun H' e1 e2 e3 => ?_
  rw [hsl] at e1
  exact kk H' _ ⟨wd_up hw.1 ⟨_, g1, t_OB.to (V := updV (vp_V fs) k v) ⟨_, e1, q2, q3, t_set q4 hap hkN v⟩ (fun j _ => vp_updV_set hl v j)⟩ e2 e3 ha0, va_S.put hw.2.1 e2 e3 ha0, hw.2.2⟩
theorem rr_iald {t : Nat} {r : Option Nat} {x y : Int32} (X : cx_ p s m args c cc nL own tb D cl tys) (hw : ww_ D cl ac a0 st H0 H locs) (ht : tys[t]? = some (ac t, .int)) (hv : so_li r t x st = some y) (hdg : decode cc pc = .ok (.iaload, 1))
    (kk : W p l e R s m args below meth c H locs cells slots Q (F0 m (pc + 1) ls (.int y :: rest))) : W p l e R s m args below meth c H locs cells slots Q (F0 m pc ls (.int x :: va_rf r :: rest)) := by
  obtain ⟨a, n, f, rfl, ha, hin, rfl⟩ := so_li_some hv
  have hP : va_P D cl [(a, .inl (ac t, n, .inl f))] H := va_P1 (hw.1.2.2 a _ ha).2
  exact va_iald X.1 X.2.1 X.2.2.2.2.2 hP 0 t rfl ht hin hdg kk
theorem rr_iast {t : Nat} {r : Option Nat} {x y : Int32} (X : cx_ p s m args c cc nL own tb D cl tys) (hw : ww_ D cl ac a0 st H0 H locs) (ht : tys[t]? = some (ac t, .int)) (hv : so_si r t x y st = some st') (hdg : decode cc pc = .ok (.iastore, 1))
    (kk : ∀ (H1 : Heap) (locs1 : List Loc), ww_ D cl ac a0 st' H0 H1 locs1 → W p l e R s m args below meth c H1 locs1 cells slots Q (F0 m (pc + 1) ls rest)) : W p l e R s m args below meth c H locs cells slots Q (F0 m pc ls (.int y :: .int x :: va_rf r :: rest)) := by
  obtain ⟨a, n, f, rfl, ha, hin, rfl⟩ := so_si_some hv
  have hat := hw.1.2.2 a _ ha
  have ha0 : a0 ≤ a := hat.1.elim id (fun ⟨_, _, z⟩ => by cases z)
  have hc : H[a]? = some (vp_cell (ac t) (n, .inl f)) := hat.2
  refine W.iast X.1 X.2.1 hc ((X.2.2.2.2.2.2 t _ ht).1 n (fun j => .int (f j))) (fun q => by cases q) (by show ¬ (x < 0 ∨ (arrV _ _ _).slots.size ≤ _); rw [arrV_size]; exact hin) rfl rfl hdg fun H1 e1 z oq => ?_
  refine kk H1 _ ⟨wd_up hw.1 ?_ z oq ha0, va_S.put hw.2.1 z oq ha0, hw.2.2⟩
  show H1[a]? = some (vp_cell _ _)
  rw [e1, vp_cell_i, vp_cell_i, arrV_store]
  congr 2
  funext q
  by_cases hq : q = x.toNatClampNeg
  · subst hq
    simp [updV, upd]
  · simp [updV, upd, hq]
theorem rr_aald {ts : List Nat} {r y : Option Nat} {x : Int32} (X : cx_ p s m args c cc nL own tb D cl tys) (hw : ww_ D cl ac a0 st H0 H locs) (ht : ∀ t ∈ ts, ∃ E : String, tys[t]? = some (ac t, .object E)) (hv : so_lq r ts x st = some y) (hdg : decode cc pc = .ok (.aaload, 1))
    (kk : W p l e R s m args below meth c H locs cells slots Q (F0 m (pc + 1) ls (va_rf y :: rest))) : W p l e R s m args below meth c H locs cells slots Q (F0 m pc ls (.int x :: va_rf r :: rest)) := by
  obtain ⟨a, t, n, f, rfl, ha, hm, hin, rfl⟩ := so_lq_some hv
  obtain ⟨E, hE⟩ := ht t hm
  have hP : va_P D cl [(a, .inl (ac t, n, .inr (.inr (.inr (.inr f)))))] H := va_P1 (hw.1.2.2 a _ ha).2
  exact va_aldq X.1 X.2.1 X.2.2.2.2.2 hP 0 t rfl hE hin hdg kk
theorem rr_aast {ts cis : List Nat} {r y : Option Nat} {x : Int32} (X : cx_ p s m args c cc nL own tb D cl tys) (hw : ww_ D cl ac a0 st H0 H locs)
    (ht : ∀ t ∈ ts, ∃ E : String, tys[t]? = some (ac t, .object E) ∧ ∀ ci ∈ cis, ∃ q : vw_C, cl[ci]? = some q ∧ ∀ comp c0 : ClassId, s.vm.findClass E = some comp → s.vm.findClass q.1 = some c0 → s.vm.assignable c0 comp = true)
    (hv : so_sq r ts cis x y st = some st') (hdg : decode cc pc = .ok (.aastore, 1))
    (kk : ∀ (H1 : Heap) (locs1 : List Loc), ww_ D cl ac a0 st' H0 H1 locs1 → W p l e R s m args below meth c H1 locs1 cells slots Q (F0 m (pc + 1) ls rest)) : W p l e R s m args below meth c H locs cells slots Q (F0 m pc ls (va_rf y :: .int x :: va_rf r :: rest)) := by
  obtain ⟨a, t, n, f, rfl, ha, hm, hin, his, rfl⟩ := so_sq_some hv
  obtain ⟨E, hE, hasg⟩ := ht t hm
  have hlt : x.toNatClampNeg < n := Nat.not_le.mp fun q => hin (Or.inr q)
  have h0 : ¬ x < 0 := fun q => hin (Or.inl q)
  have hat := hw.1.2.2 a _ ha
  have ha0 : a0 ≤ a := hat.1.elim id (fun ⟨_, _, z⟩ => by cases z; exact absurd hlt (Nat.not_lt_zero _))
  have hc : H[a]? = some (vp_cell (ac t) (n, .inr (.inr (.inr (.inr f))))) := hat.2
  have hK := X.2.2.2.2.2
  have fin : ∀ (H1 : Heap), H1[a]? = some ((vp_cell (ac t) (n, .inr (.inr (.inr (.inr f))))).setSlot x.toNatClampNeg (va_rf y)) → va_at D cl (a, ce_v ac (.inr (.inl (t, n, va_up f x.toNatClampNeg y)))) H1 := by
    intro H1 e1
    show H1[a]? = some (vp_cell _ _)
    rw [e1, vp_cell_q, vp_cell_q, arrV_store]
    congr 2
    funext q
    by_cases hq : q = x.toNatClampNeg
    · subst hq
      simp [updV, va_up]
    · simp [updV, va_up, hq]
  cases y with
  | none =>
    refine va_WaastN (C := E) X.1 X.2.1 hc ((hK.2 t _ hE).1 n (fun j => va_rf (f j))) (fun h => by cases h) (by show ¬ (x < 0 ∨ (arrV _ _ _).slots.size ≤ _); rw [arrV_size]; exact hin) rfl rfl hdg fun H1 e1 z oq => ?_
    exact kk H1 _ ⟨wd_up hw.1 (fin H1 e1) z oq ha0, va_S.put hw.2.1 z oq ha0, hw.2.2⟩
  | some b =>
    obtain ⟨ci, fs, hb, hci⟩ := so_is_some his
    obtain ⟨q, hq, hg⟩ := hasg ci hci
    obtain ⟨q', hq', cellV, g1, g2, g3, -⟩ : va_at D cl (b, .inr (ci, fs)) H := (hw.1.2.2 b _ hb).2
    have hcls := (hK.1 ci q hq).2
    obtain ⟨kA, comp, k1, k2, k3, -⟩ := (hK.2 t _ hE).2
    obtain ⟨kE, hkE, -⟩ := Vm.findClass_spec k3
    obtain ⟨kC, hkC, -⟩ := hcls.2
    refine W.aast X.1 X.2.1 hc (fun q h => by cases h) (fun h => by cases h) k1 k2 rfl hkE ⟨h0, by show _ < (arrV _ _ _).slots.size; rw [arrV_size]; exact hlt⟩ g1 (fun q h => by rw [g3] at h; cases h) (by rw [g2]; exact hkC) (by rw [g2]; exact hg _ _ k3 hcls.1) rfl rfl hdg fun H1 e1 z oq => ?_
    exact kk H1 _ ⟨wd_up hw.1 (fin H1 e1) z oq ha0, va_S.put hw.2.1 z oq ha0, hw.2.2⟩
theorem rr_alen {ts : List Nat} {r : Option Nat} {x : Int32} (X : cx_ p s m args c cc nL own tb D cl tys) (hw : ww_ D cl ac a0 st H0 H locs) (ht : ∀ t ∈ ts, ∃ E : FieldType, tys[t]? = some (ac t, E)) (hv : so_n r ts st = some x) (hdg : decode cc pc = .ok (.arraylength, 1))
    (kk : W p l e R s m args below meth c H locs cells slots Q (F0 m (pc + 1) ls (.int x :: rest))) : W p l e R s m args below meth c H locs cells slots Q (F0 m pc ls (va_rf r :: rest)) := by
  unfold so_n at hv
  split at hv
  · cases hv
  · rename_i a
    split at hv
    · rename_i o ho
      obtain ⟨t, n, f⟩ := o
      split at hv
      · rename_i hm
        obtain ⟨E, hE⟩ := ht t hm
        have hP : va_P D cl [(a, .inl (ac t, n, .inl f))] H := va_P1 (hw.1.2.2 a _ ho).2
        exact va_alen X.1 X.2.1 X.2.2.2.2.2 hP 0 t rfl hE (Option.some.inj hv) hdg kk
      · cases hv
    · rename_i o ho
      obtain ⟨t, n, f⟩ := o
      split at hv
      · rename_i hm
        obtain ⟨E, hE⟩ := ht t hm
        have hP : va_P D cl [(a, .inl (ac t, n, .inr (.inr (.inr (.inr f)))))] H := va_P1 (hw.1.2.2 a _ ho).2
        exact va_alen X.1 X.2.1 X.2.2.2.2.2 hP 0 t rfl hE (Option.some.inj hv) hdg kk
      · cases hv
    · cases hv
theorem rr_new {ci index N : Nat} {C : String} {T : u_T} {ty : Nat → FieldType} {fs : List Value} (X : cx_ p s m args c cc nL own tb D cl tys) (hw : ww_ D cl ac a0 st H0 H locs) (hf : cf_ cl tb ci C T N ty) (hfs : ∀ j, j < N → defaultValue (ty j) = vp_V fs j)
    (hcl : Cond.classLink own index C ∈ tb) (hinst : Cond.instantiable C N ∈ tb) (hini : Cond.initialized C ∈ tb) (hr : cells + 1 ≤ R.cells ∧ slots + N ≤ R.slots) (hdg : decode cc pc = .ok (.new index, 3))
    (kk : ∀ H1 : Heap, ww_ D cl ac a0 (st_ad st (.inr (.inr (ci, fs)))) H0 H1 locs → W p l e R s m args below meth c H1 locs (cells + 1) (slots + N) Q (F0 m (pc + 3) ls (va_rf (some st.2) :: rest))) : W p l e R s m args below meth c H locs cells slots Q (F0 m pc ls rest) := by
  obtain ⟨g1, g2, g3, g4⟩ := hf
  obtain ⟨x1, x2, x3, x4, x5, x6⟩ := X
  have hKn := x6.1 ci _ g1
  refine W.newcK x1 x2 x4 (x5 _ hcl) (x5 _ hinst) (x5 _ hini) rfl hdg hr.1 hr.2 hKn.2.1 hw.1.1 fun H1 kC hkC e1 z1 o1 => ?_
  refine kk H1 ⟨wd_ad hw.1 ⟨_, g1, (u_born ty x5 g2 hKn hkC e1 g3).to hfs⟩ z1 o1, ⟨?_, ?_, hw.2.1.2.2⟩, hw.2.2⟩
  · have h1 := hw.2.1.1
    have h2 := hw.1.1
    omega
  · intro q h1 h2
    have h3 := hw.2.1.1
    have h4 := hw.1.1
    exact (o1 q (by omega)).trans (hw.2.1.2.1 q h1 h2)
theorem rr_newi {t N : Nat} {x : Int32} (X : cx_ p s m args c cc nL own tb D cl tys) (hw : ww_ D cl ac a0 st H0 H locs) (ht : tys[t]? = some (ac t, .int)) (hn : ¬ x < 0) (hN : x.toNatClampNeg = N) (hbytes : N * 4 ≤ 536870912)
    (harr : Cond.arrayClass .int ∈ tb) (hr : cells + 1 ≤ R.cells ∧ slots + N ≤ R.slots) (hdg : decode cc pc = .ok (.newarray .int, 2))
    (kk : ∀ H1 : Heap, ww_ D cl ac a0 (st_ad st (.inl (t, N, fun _ => 0))) H0 H1 locs → W p l e R s m args below meth c H1 locs (cells + 1) (slots + N) Q (F0 m (pc + 2) ls (va_rf (some st.2) :: rest))) : W p l e R s m args below meth c H locs cells slots Q (F0 m pc ls (.int x :: rest)) := by
  obtain ⟨x1, x2, x3, x4, x5, x6⟩ := X
  refine va_newaK (atype := .int) x1 x2 (x5 _ harr) rfl hdg rfl hn hN hbytes hr.1 hr.2 hw.1.1 fun H1 cA e1 z1 o1 hAr hNm => ?_
  have hNm2 : s.vm.findClass ("[" ++ FieldType.int.toString) = some (ac t) := (x6.2 t _ ht).2
  have hcA : cA = ac t := Option.some.inj (hNm.symm.trans hNm2)
  subst hcA
  refine kk H1 ⟨wd_ad hw.1 ?_ z1 o1, ⟨?_, ?_, hw.2.1.2.2⟩, hw.2.2⟩
  · exact e1
  · have h1 := hw.2.1.1
    have h2 := hw.1.1
    omega
  · intro q h1 h2
    have h3 := hw.2.1.1
    have h4 := hw.1.1
    exact (o1 q (by omega)).trans (hw.2.1.2.1 q h1 h2)
theorem rr_newq {t N index : Nat} {E : String} {x : Int32} (X : cx_ p s m args c cc nL own tb D cl tys) (hw : ww_ D cl ac a0 st H0 H locs) (ht : tys[t]? = some (ac t, .object E)) (hn : ¬ x < 0) (hN : x.toNatClampNeg = N) (hbytes : N * 4 ≤ 536870912)
    (hcl : Cond.classLink own index E ∈ tb) (hover : va_AO E s) (hr : cells + 1 ≤ R.cells ∧ slots + N ≤ R.slots) (hdg : decode cc pc = .ok (.anewarray index, 3))
    (kk : ∀ H1 : Heap, ww_ D cl ac a0 (st_ad st (.inr (.inl (t, N, fun _ => none)))) H0 H1 locs → W p l e R s m args below meth c H1 locs (cells + 1) (slots + N) Q (F0 m (pc + 3) ls (va_rf (some st.2) :: rest))) : W p l e R s m args below meth c H locs cells slots Q (F0 m pc ls (.int x :: rest)) := by
  obtain ⟨x1, x2, x3, x4, x5, x6⟩ := X
  subst hN
  refine W.anew x1 x2 x4 (x5 _ hcl) (va_AO.use hover) rfl hdg rfl hn hbytes hr.1 hr.2 fun cA kA comp f1 f2 f3 f4 => ?_
  obtain ⟨kA2, comp2, r1, r2, r3, r4⟩ := (x6.2 t _ ht).2
  have hcA : cA = ac t := Option.some.inj (f1.symm.trans r4)
  subst hcA
  have hz := hw.1.1
  have h1 := hw.2.1.1
  generalize hH1 : H.push ({ cls := ac t, slots := Array.replicate x.toNatClampNeg .null, vm := .none } : Cell) = H1
  have z1 : H1.size = st.2 + 1 := by rw [← hH1, Array.size_push, hz]
  have e1 : H1[st.2]? = some (arrV (ac t) x.toNatClampNeg (fun _ => .null)) := by rw [← hH1, ← hz, Array.getElem?_push_size, ← arrV_new]
  have o1 : ∀ q : Nat, q < st.2 → H1[q]? = H[q]? := fun q hq => by rw [← hH1, Array.getElem?_push, if_neg (by omega)]
  rw [hz]
  refine kk H1 ⟨wd_ad hw.1 ?_ z1 o1, ⟨by omega, ?_, hw.2.1.2.2⟩, hw.2.2⟩
  · exact e1
  · intro q h2 h3
    exact (o1 q (by omega)).trans (hw.2.1.2.1 q h2 h3)
end RRA
end
section
/-! Locals whose values all take one place; contracts over stores; calls. -/
theorem rf_cat (r : Option Nat) : (va_rf r).category = 1 := by cases r <;> rfl
def lh_ (ls : Array Slot) (nL : Nat) (lv : List (Nat × Value)) : Prop := lv_has ls nL lv ∧ ∀ q ∈ lv, q.2.category = 1
def la_ : Nat → List Value → List (Nat × Value)
  | _, [] => []
  | i, v :: vs => (i, v) :: la_ (i + 1) vs
theorem la_eq : ∀ (vs : List Value) (i : Nat), (∀ v ∈ vs, v.category = 1) → lv_args i vs = la_ i vs
  | [], _, _ => rfl
  | v :: vs, i, h => by
    have h1 : v.category = 1 := h v List.mem_cons_self
    have h2 : ¬ v.category = 2 := by omega
    unfold lv_args la_
    rw [if_neg h2, la_eq vs (i + 1) (fun w hw => h w (List.mem_cons_of_mem _ hw))]
theorem la_cat : ∀ (vs : List Value) (i : Nat), (∀ v ∈ vs, v.category = 1) → ∀ q ∈ la_ i vs, q.2.category = 1
  | [], _, _, q, hq => by cases hq
  | v :: vs, i, h, q, hq => by
    rcases List.mem_cons.mp hq with rfl | hq
    · exact h v List.mem_cons_self
    · exact la_cat vs (i + 1) (fun w hw => h w (List.mem_cons_of_mem _ hw)) q hq
theorem la_len : ∀ (vs : List Value), (∀ v ∈ vs, v.category = 1) → (lg_sl vs).length = vs.length
  | [], _ => rfl
  | v :: vs, h => by
    have h1 : v.category = 1 := h v List.mem_cons_self
    have h2 : ¬ v.category = 2 := by omega
    have h3 := la_len vs (fun w hw => h w (List.mem_cons_of_mem _ hw))
    unfold lg_sl at h3 ⊢
    rw [List.flatMap_cons, if_neg h2, List.length_append, h3]
    simp
    omega
theorem lh_fil {lv : List (Nat × Value)} {i : Nat} (h : ∀ q ∈ lv, q.2.category = 1) : lv.filter (fun q => !(q.1 == i) && !(q.1 + 1 == i && q.2.category == 2)) = lv.filter (fun q => !(q.1 == i)) := by
  refine List.filter_congr fun q hq => ?_
  have h1 := h q hq
  have h2 : (q.2.category == 2) = false := by rw [h1]; rfl
  rw [h2]
  simp
theorem lh_st {ls ls' : Array Slot} {nL i : Nat} {v : Value} {lv lv' : List (Nat × Value)} (h : lh_ ls nL lv) (hv : v.category = 1) (h' : lv_has ls' nL ((i, v) :: lv.filter (fun q => !(q.1 == i) && !(q.1 + 1 == i && q.2.category == 2)))) (hl : (i, v) :: lv.filter (fun q => !(q.1 == i)) = lv') : lh_ ls' nL lv' := by
  rw [lh_fil h.2] at h'
  subst hl
  refine ⟨h', fun q hq => ?_⟩
  rcases List.mem_cons.mp hq with rfl | hq
  · exact hv
  · exact h.2 q (List.mem_filter.mp hq).1
/-- fewer listed values, in any order: by their places -/
theorem lh_pk {ls : Array Slot} {nL : Nat} {lv lv' : List (Nat × Value)} (h : lh_ ls nL lv) (ks : List Nat) (hl : lv_pick lv ks = lv') : lh_ ls nL lv' := by
  refine ⟨lv_sub h.1 ks hl, fun q hq => ?_⟩
  rw [← hl] at hq
  obtain ⟨k, -, hk⟩ := List.mem_filterMap.mp hq
  exact h.2 q (List.mem_of_getElem? hk)
section RRB
variable {p : Program} {l : Launch} {e : Env} {R : Room} {s : State} {m : MethodId} {args : Array Value} {below : List Frame} {meth : Method} {c : Code} {H : Heap} {locs : List Loc} {cells slots : Nat} {Q : State → Prop}
variable {cc : ByteArray} {pc nL : Nat} {ls : Array Slot} {rest : List Value} {D : va_G} {cl : List vw_C} {ac : Nat → ClassId} {tys : List (ClassId × FieldType)} {a0 : Nat} {H0 : Heap} {st st' : st_S} {own : String} {tb : List Cond}
theorem rr_aldn {k : Fin 4} {i : Nat} {r : Option Nat} (X : cx_ p s m args c cc nL own tb D cl tys) (hdg : decode cc pc = .ok (.aload_n k, 1)) (hi : (k : Nat) = i) (hl : ls[i]? = some (.val (va_rf r)))
    (kk : W p l e R s m args below meth c H locs cells slots Q (F0 m (pc + 1) ls (va_rf r :: rest))) : W p l e R s m args below meth c H locs cells slots Q (F0 m pc ls rest) := by
  cases r with
  | none => exact lv_aload_nN X.1 X.2.1 hdg hi hl kk
  | some a => exact lv_aload_n X.1 X.2.1 hdg hi hl kk
theorem rr_ald {i : Nat} {r : Option Nat} (X : cx_ p s m args c cc nL own tb D cl tys) (hdg : decode cc pc = .ok (.aload i, 2)) (hl : ls[i]? = some (.val (va_rf r)))
    (kk : W p l e R s m args below meth c H locs cells slots Q (F0 m (pc + 2) ls (va_rf r :: rest))) : W p l e R s m args below meth c H locs cells slots Q (F0 m pc ls rest) := by
  cases r with
  | none => exact lv_aloadN X.1 X.2.1 hdg hl kk
  | some a => exact lv_aload X.1 X.2.1 hdg hl kk
theorem rr_astn {k : Fin 4} {i nL' : Nat} {r : Option Nat} {lv lv' : List (Nat × Value)} (X : cx_ p s m args c cc nL own tb D cl tys) (hdg : decode cc pc = .ok (.astore_n k, 1)) (hi : (k : Nat) = i) (h : lh_ ls nL' lv) (hn : i < nL') (hl : (i, va_rf r) :: lv.filter (fun q => !(q.1 == i)) = lv')
    (kk : ∀ ls' : Array Slot, lh_ ls' nL' lv' → W p l e R s m args below meth c H locs cells slots Q (F0 m (pc + 1) ls' rest)) : W p l e R s m args below meth c H locs cells slots Q (F0 m pc ls (va_rf r :: rest)) := by
  cases r with
  | none => exact lv_astore_nN X.1 X.2.1 hdg hi h.1 hn rfl (fun ls' h' => kk ls' (lh_st h rfl h' hl))
  | some a => exact lv_astore_n X.1 X.2.1 hdg hi h.1 hn rfl (fun ls' h' => kk ls' (lh_st h rfl h' hl))
theorem rr_ast {i nL' : Nat} {r : Option Nat} {lv lv' : List (Nat × Value)} (X : cx_ p s m args c cc nL own tb D cl tys) (hdg : decode cc pc = .ok (.astore i, 2)) (h : lh_ ls nL' lv) (hn : i < nL') (hl : (i, va_rf r) :: lv.filter (fun q => !(q.1 == i)) = lv')
    (kk : ∀ ls' : Array Slot, lh_ ls' nL' lv' → W p l e R s m args below meth c H locs cells slots Q (F0 m (pc + 2) ls' rest)) : W p l e R s m args below meth c H locs cells slots Q (F0 m pc ls (va_rf r :: rest)) := by
  cases r with
  | none => exact lv_astoreN X.1 X.2.1 hdg h.1 hn rfl (fun ls' h' => kk ls' (lh_st h rfl h' hl))
  | some a => exact lv_astore X.1 X.2.1 hdg h.1 hn rfl (fun ls' h' => kk ls' (lh_st h rfl h' hl))
theorem rr_istn {k : Fin 4} {i nL' : Nat} {x : Int32} {lv lv' : List (Nat × Value)} (X : cx_ p s m args c cc nL own tb D cl tys) (hdg : decode cc pc = .ok (.istore_n k, 1)) (hi : (k : Nat) = i) (h : lh_ ls nL' lv) (hn : i < nL') (hl : (i, Value.int x) :: lv.filter (fun q => !(q.1 == i)) = lv')
    (kk : ∀ ls' : Array Slot, lh_ ls' nL' lv' → W p l e R s m args below meth c H locs cells slots Q (F0 m (pc + 1) ls' rest)) : W p l e R s m args below meth c H locs cells slots Q (F0 m pc ls (.int x :: rest)) :=
  lv_istore_n X.1 X.2.1 hdg hi h.1 hn rfl (fun ls' h' => kk ls' (lh_st h rfl h' hl))
theorem rr_ist {i nL' : Nat} {x : Int32} {lv lv' : List (Nat × Value)} (X : cx_ p s m args c cc nL own tb D cl tys) (hdg : decode cc pc = .ok (.istore i, 2)) (h : lh_ ls nL' lv) (hn : i < nL') (hl : (i, Value.int x) :: lv.filter (fun q => !(q.1 == i)) = lv')
    (kk : ∀ ls' : Array Slot, lh_ ls' nL' lv' → W p l e R s m args below meth c H locs cells slots Q (F0 m (pc + 2) ls' rest)) : W p l e R s m args below meth c H locs cells slots Q (F0 m pc ls (.int x :: rest)) :=
  lv_istore X.1 X.2.1 hdg h.1 hn rfl (fun ls' h' => kk ls' (lh_st h rfl h' hl))
theorem rr_iinc {i nL' k : Nat} {n : Int} {x v : Int32} {lv lv' : List (Nat × Value)} (X : cx_ p s m args c cc nL own tb D cl tys) (hdg : decode cc pc = .ok (.iinc i n, 3)) (h : lh_ ls nL' lv) (hk : lv[k]? = some (i, .int x)) (hv : x + Int32.ofInt n = v) (hn : i < nL') (hl : (i, Value.int v) :: lv.filter (fun q => !(q.1 == i)) = lv')
    (kk : ∀ ls' : Array Slot, lh_ ls' nL' lv' → W p l e R s m args below meth c H locs cells slots Q (F0 m (pc + 3) ls' rest)) : W p l e R s m args below meth c H locs cells slots Q (F0 m pc ls rest) :=
  lv_iinc X.1 X.2.1 hdg h.1 hk hv hn rfl (fun ls' h' => kk ls' (lh_st h rfl h' hl))
theorem rr_ifnull {r : Option Nat} {off : Int} {tgt : Nat} (X : cx_ p s m args c cc nL own tb D cl tys) (hdg : decode cc pc = .ok (.ifnull off, 3)) (ht : (pc : Int) + off = (tgt : Int))
    (kt : r = none → W p l e R s m args below meth c H locs cells slots Q (F0 m tgt ls rest)) (kf : ¬ r = none → W p l e R s m args below meth c H locs cells slots Q (F0 m (pc + 3) ls rest)) : W p l e R s m args below meth c H locs cells slots Q (F0 m pc ls (va_rf r :: rest)) := by
  cases r with
  | none => exact lv_ifnullN X.1 X.2.1 hdg ht (kt rfl)
  | some a => exact lv_ifnull X.1 X.2.1 hdg (kf (by simp))
theorem rr_ifnonnull {r : Option Nat} {off : Int} {tgt : Nat} (X : cx_ p s m args c cc nL own tb D cl tys) (hdg : decode cc pc = .ok (.ifnonnull off, 3)) (ht : (pc : Int) + off = (tgt : Int))
    (kt : ¬ r = none → W p l e R s m args below meth c H locs cells slots Q (F0 m tgt ls rest)) (kf : r = none → W p l e R s m args below meth c H locs cells slots Q (F0 m (pc + 3) ls rest)) : W p l e R s m args below meth c H locs cells slots Q (F0 m pc ls (va_rf r :: rest)) := by
  cases r with
  | none => exact lv_ifnonnullN X.1 X.2.1 hdg (kf rfl)
  | some a => exact lv_ifnonnull X.1 X.2.1 hdg ht (kt (by simp))
end RRB
/-! contracts -/
def ct_P (D : va_G) (cl : List vw_C) (ac : Nat → ClassId) (a0 : Nat) (K : State → Prop) (av : List Value) (st : st_S) : Array Value → State → Prop := va_Pc av (fun U => wd_ D cl ac a0 st U.heap ∧ K U)
def ct_Q (D : va_G) (cl : List vw_C) (ac : Nat → ClassId) (a0 : Nat) (rv : Option Value) (st' : st_S) : Array Value → State → Outcome → State → Prop := fun _ S oc t => oc = .returned rv ∧ wd_ D cl ac a0 st' t.heap ∧ va_F (fun q => a0 ≤ q) S t
/-- method y, called with av at the store st, answers rv, and the store is st'; i cells with j slots are made -/
def ct_ (l : Launch) (y : MethodName) (ws : List Cond) (fr lo : Nat) (D : va_G) (cl : List vw_C) (ac : Nat → ClassId) (a0 : Nat) (K : State → Prop) (av : List Value) (st : st_S) (rv : Option Value) (st' : st_S) (i j : Nat) : Prop :=
  Met l y ws ({ frames := fr, cells := i, slots := j, locals := lo }) (ct_P D cl ac a0 K av st) (ct_Q D cl ac a0 rv st') i j (fun q => a0 ≤ q)
/-- what a contract's K must bear: it stays over calls and over what is written at a0 and above -/
def kk_ (D : va_G) (cl : List vw_C) (tys : List (ClassId × FieldType)) (a0 : Nat) (K : State → Prop) : Prop :=
  (∀ U : State, K U → va_K D cl tys U) ∧ (∀ (a : Array Value) (U : State) (g : JFrame) (mk : MethodId), K U → K (U.calling g mk a)) ∧
  ∀ (s U : State) (H : Heap) (locs : List Loc), K s → va_S (fun q => a0 ≤ q) s.heap H locs → U.heap = H → s.WarmedH U.vm → K U
theorem ct_of {l : Launch} {y : MethodName} {cc : ByteArray} {maxL : Nat} {ret : Option FieldType} {tb : List Cond} {fr lo : Nat} {D : va_G} {cl : List vw_C} {ac : Nat → ClassId} {tys : List (ClassId × FieldType)} {a0 : Nat} {K : State → Prop} {av : List Value} {st : st_S} {rv : Option Value} {st' : st_S} {i j : Nat}
    (hK : kk_ D cl tys a0 K) (hy : plainName y.cls = true) (hcat : ∀ v ∈ av, v.category = 1) (hlen : av.length ≤ maxL)
    (body : ∀ (p : Program) (e : Env) (s : State) (m : MethodId) (args : Array Value) (below : List Frame) (meth : Method) (c : Code) (ls : Array Slot), cx_ p s m args c cc maxL y.cls tb D cl tys → ww_ D cl ac a0 st s.heap s.heap [] → K s → meth.locks = false → meth.sig.returnType = ret → meth.name = y.name → lh_ ls maxL (la_ 0 av) →
      W p l e ({ frames := fr, cells := i, slots := j, locals := lo }) s m args below meth c s.heap [] 0 0 (MQ below (ct_Q D cl ac a0 rv st') args s i j (fun q => a0 ≤ q)) (F0 m 0 ls [])) :
    ct_ l y (Cond.code y cc maxL ret :: tb) fr lo D cl ac a0 K av st rv st' i j := by
  refine Met.ofW (cc := cc) (maxL := maxL) (ret := ret) hy rfl ?_
  intro p e s m args below meth c s₁ B hml hv
  obtain ⟨rfl, hw, hKs⟩ := hv
  have hts := atoms_spec (ws := Cond.code y cc maxL ret :: tb) B.pre
  have hl := lv_entry av (n := maxL) (by rw [la_len av hcat]; exact hlen)
  rw [lg_entry_eq]
  rw [la_eq av 0 hcat] at hl
  exact body p e s m _ below meth c _ ⟨B.exec, B.bytes, hml, findClass_of_methodNamed B.named, fun w h => hts w (List.mem_cons_of_mem _ h), hK.1 s hKs⟩ ⟨hw, va_S.rf, by rw [hw.1]; exact hw.2.1⟩ hKs B.notSynchronized B.returns (name_of_methodNamed B.named B.method).1 ⟨hl, la_cat av 0 hcat⟩
section RRC
variable {p : Program} {l : Launch} {e : Env} {R : Room} {s : State} {m : MethodId} {args : Array Value} {below : List Frame} {meth : Method} {c : Code} {H : Heap} {locs : List Loc} {cells slots : Nat} {Q : State → Prop}
variable {cc : ByteArray} {pc nL : Nat} {ls : Array Slot} {rest st0 : List Value} {D : va_G} {cl : List vw_C} {ac : Nat → ClassId} {tys : List (ClassId × FieldType)} {a0 : Nat} {H0 : Heap} {st st' : st_S} {own : String} {tb : List Cond} {K : State → Prop}
variable {index n maxL fr lo i j : Nat} {y : MethodName} {bytes : ByteArray} {ret : Option FieldType} {As : List Value} {rv : Option Value}
theorem ct_go {a : Array Value} (hr : va_Run p l e R s m args below meth c H locs cells slots i j (F0 m pc ls st0) rest (ct_Q D cl ac a0 rv st' a) (fun q => a0 ≤ q)) (hw : ww_ D cl ac a0 st H0 H locs)
    (kk : ∀ (H1 : Heap) (locs1 : List Loc), ww_ D cl ac a0 st' H0 H1 locs1 → W p l e R s m args below meth c H1 locs1 (cells + i) (slots + j) Q (F0 m (pc + 3) ls (rv.toList ++ rest))) : W p l e R s m args below meth c H locs cells slots Q (F0 m pc ls st0) := by
  intro T hT X
  obtain ⟨v, st₀, t, T', L, h0, X', hL, e1, e2, ⟨hv, hw1, hz, hk⟩, stp⟩ := hr T hT X
  cases hv
  obtain ⟨hwd, hS, ha0⟩ := hw
  rw [h0] at hz hk
  obtain ⟨t2, a1, b1⟩ := kk T'.heap (locs ++ L) ⟨by rw [e1]; exact hw1, ⟨Nat.le_trans hS.1 (by rw [e1]; exact hz), fun q h1 h2 => by
      rw [e1, hk q (Nat.lt_of_lt_of_le h1 hS.1) h2]
      exact hS.2.1 q h1 h2, fun q hq => by
      rcases List.mem_append.mp hq with h | h
      · exact hS.2.2 q h
      · exact hL q h⟩, ha0⟩ T' rfl X'
  exact ⟨t2, stp t2 a1, b1⟩
theorem gi_c {y : MethodName} {bytes : ByteArray} {maxL : Nat} {ret : Option FieldType} (hG : GoodIn tb tb) (hc : Cond.code y bytes maxL ret ∈ tb) : GoodIn tb (Cond.code y bytes maxL ret :: tb) := by
  intro w hw
  rcases List.mem_cons.mp hw with rfl | hw
  · exact hG _ hc
  · exact hG w hw
theorem ct_pre (hK : kk_ D cl tys a0 K) (hKs : K s) (hw : ww_ D cl ac a0 st s.heap H locs) (av : List Value) : FrameBlind (ct_P D cl ac a0 K av st) ∧ ∀ U : State, U.heap = H → s.WarmedH U.vm → ct_P D cl ac a0 K av st av.toArray U :=
  ⟨fun a U g mk q => ⟨q.1, q.2.1, hK.2.1 a U g mk q.2.2⟩, fun U hU hW => ⟨rfl, by rw [hU]; exact hw.1, hK.2.2 s U H locs hKs hw.2.1 hU hW⟩⟩
theorem rr_callS (X : cx_ p s m args c cc nL own tb D cl tys) (hw : ww_ D cl ac a0 st s.heap H locs) (hK : kk_ D cl tys a0 K) (hKs : K s) (hM : ct_ l y (Cond.code y bytes maxL ret :: tb) fr lo D cl ac a0 K As st rv st' i j)
    (hG : GoodIn tb tb) (hcode : Cond.code y bytes maxL ret ∈ tb) (hini : Cond.initialized y.cls ∈ tb) (hlink : Cond.methodLink own index y ∈ tb) (hstat : Cond.static y ∈ tb)
    (hd : y.cls ≠ "java/lang/invoke/MethodHandle" ∧ y.cls ≠ "java/lang/invoke/VarHandle" ∧ (parseMethodDescriptor y.desc).map (fun d => d.parameters.length) = some n) (hn : As.length = n)
    (hR : fr + 1 ≤ R.frames ∧ 8 + (maxL + 11) + lo ≤ R.locals) (hT : cells + i ≤ R.cells ∧ slots + j ≤ R.slots) (hls : ls.size = nL) (hrm : (rest.map fun v => v.category).sum ≤ 8) (hst : st0 = As.reverse ++ rest) (hdg : decode cc pc = .ok (.invokestatic index, 3))
    {sk : List Value} (hsk : rv.toList ++ rest = sk) (kk : ∀ (H1 : Heap) (locs1 : List Loc), ww_ D cl ac a0 st' s.heap H1 locs1 → W p l e R s m args below meth c H1 locs1 (cells + i) (slots + j) Q (F0 m (pc + 3) ls sk)) : W p l e R s m args below meth c H locs cells slots Q (F0 m pc ls st0) := by
  obtain ⟨x1, x2, x3, x4, x5, x6⟩ := X
  subst hst hsk
  refine ct_go (va_runS (As := As) (rest := rest) ⟨x1, x2, x3, x4, x5⟩ hM ⟨callB_of n x5 (gi_c hG hcode) rfl rfl rfl (x5 _ hini) (x5 _ hlink) hd hR, x5 _ hstat⟩ (ct_pre hK hKs hw As) rfl hn hls rfl (lv_room hrm) hdg hT) hw kk
theorem rr_callI {b : Nat} (X : cx_ p s m args c cc nL own tb D cl tys) (hw : ww_ D cl ac a0 st s.heap H locs) (hK : kk_ D cl tys a0 K) (hKs : K s) (hM : ct_ l y (Cond.code y bytes maxL none :: tb) fr lo D cl ac a0 K (va_rf (some b) :: As) st rv st' i j)
    (hG : GoodIn tb tb) (hcode : Cond.code y bytes maxL none ∈ tb) (hini : Cond.initialized y.cls ∈ tb) (hlink : Cond.methodLink own index y ∈ tb) (hinst : Cond.instanceMethod y ∈ tb) (hy1 : y.name = "<init>")
    (hd : y.cls ≠ "java/lang/invoke/MethodHandle" ∧ y.cls ≠ "java/lang/invoke/VarHandle" ∧ (parseMethodDescriptor y.desc).map (fun d => d.parameters.length) = some n) (hn : As.length = n)
    (hR : fr + 1 ≤ R.frames ∧ 8 + (maxL + 11) + lo ≤ R.locals) (hT : cells + i ≤ R.cells ∧ slots + j ≤ R.slots) (hls : ls.size = nL) (hrm : (rest.map fun v => v.category).sum ≤ 8) (hst : st0 = As.reverse ++ va_rf (some b) :: rest) (hdg : decode cc pc = .ok (.invokespecial index, 3))
    {sk : List Value} (hsk : rv.toList ++ rest = sk) (kk : ∀ (H1 : Heap) (locs1 : List Loc), ww_ D cl ac a0 st' s.heap H1 locs1 → W p l e R s m args below meth c H1 locs1 (cells + i) (slots + j) Q (F0 m (pc + 3) ls sk)) : W p l e R s m args below meth c H locs cells slots Q (F0 m pc ls st0) := by
  obtain ⟨x1, x2, x3, x4, x5, x6⟩ := X
  subst hst hsk
  refine ct_go (va_runI (b := b) (As := As) (rest := rest) ⟨x1, x2, x3, x4, x5⟩ hM ⟨callB_of n x5 (gi_c hG hcode) rfl rfl rfl (x5 _ hini) (x5 _ hlink) hd hR, hy1, x5 _ hinst⟩ (ct_pre hK hKs hw (va_rf (some b) :: As)) rfl hn hls rfl (lv_room hrm) hdg hT) hw kk
/-- the receiver: an object of class ci -/
theorem rr_recv {b ci : Nat} {q : vw_C} {fs : List Value} (X : cx_ p s m args c cc nL own tb D cl tys) (hw : ww_ D cl ac a0 st H0 H locs) (hc : cl[ci]? = some q) (hb : st.1 b = some (.inr (.inr (ci, fs)))) : ∃ cell : Cell, H[b]? = some cell ∧ cell.vm.isStatics = false ∧ s.vm.findClass q.1 = some cell.cls := by
  have hP : va_P D cl [(b, .inr (ci, fs))] H := va_P1 (hw.1.2.2 b _ hb).2
  exact va_recv (q0 := 0) (fs := fs) X.2.2.2.2.2 hP hc rfl
/-- the receiver's class, if it is one of cis -/
def so_cm (r : Option Nat) (cis : List Nat) (st : st_S) : Option Nat := match r with
  | none => none
  | some a => match st.1 a with
    | some (.inr (.inr o)) => if o.1 ∈ cis then some o.1 else none
    | _ => none
theorem so_cm_some {st : st_S} {r : Option Nat} {cis : List Nat} {ci : Nat} (h : so_cm r cis st = some ci) : ∃ (a : Nat) (fs : List Value), r = some a ∧ st.1 a = some (.inr (.inr (ci, fs))) ∧ ci ∈ cis := by
  unfold so_cm at h
  split at h
  · cases h
  · rename_i a
    split at h
    · rename_i o ho
      obtain ⟨cj, fs⟩ := o
      split at h
      · rename_i hc
        cases h
        exact ⟨a, fs, rfl, ho, hc⟩
      · cases h
    · cases h
theorem rr_callV {r : Option Nat} {ci : Nat} {cis : List Nat} (X : cx_ p s m args c cc nL own tb D cl tys) (hw : ww_ D cl ac a0 st s.heap H locs) (hK : kk_ D cl tys a0 K) (hKs : K s) (hM : ct_ l y (Cond.code y bytes maxL ret :: tb) fr lo D cl ac a0 K (va_rf r :: As) st rv st' i j)
    (hG : GoodIn tb tb) (hcode : Cond.code y bytes maxL ret ∈ tb) (hini : Cond.initialized y.cls ∈ tb) (hlink : Cond.methodLink own index y ∈ tb) (hinst : Cond.instanceMethod y ∈ tb) (hcs : ∀ ci ∈ cis, ∃ q : vw_C, cl[ci]? = some q ∧ Cond.selects q.1 y y ∈ tb) (hrc : so_cm r cis st = some ci)
    (hd : y.cls ≠ "java/lang/invoke/MethodHandle" ∧ y.cls ≠ "java/lang/invoke/VarHandle" ∧ (parseMethodDescriptor y.desc).map (fun d => d.parameters.length) = some n) (hn : As.length = n)
    (hR : fr + 1 ≤ R.frames ∧ 8 + (maxL + 11) + lo ≤ R.locals) (hT : cells + i ≤ R.cells ∧ slots + j ≤ R.slots) (hls : ls.size = nL) (hrm : (rest.map fun v => v.category).sum ≤ 8) (hst : st0 = As.reverse ++ va_rf r :: rest) (hdg : decode cc pc = .ok (.invokevirtual index, 3))
    {sk : List Value} (hsk : rv.toList ++ rest = sk) (kk : ∀ (H1 : Heap) (locs1 : List Loc), ww_ D cl ac a0 st' s.heap H1 locs1 → W p l e R s m args below meth c H1 locs1 (cells + i) (slots + j) Q (F0 m (pc + 3) ls sk)) : W p l e R s m args below meth c H locs cells slots Q (F0 m pc ls st0) := by
  obtain ⟨b, fs, rfl, hb, hci⟩ := so_cm_some hrc
  obtain ⟨q, hc, hsel⟩ := hcs ci hci
  have hrv := rr_recv X hw hc hb
  obtain ⟨x1, x2, x3, x4, x5, x6⟩ := X
  subst hst hsk
  have hp := ct_pre hK hKs hw (va_rf (some b) :: As)
  exact ct_go (va_runV (C := q.1) (b := b) (As := As) (rest := rest) ⟨x1, x2, x3, x4, x5⟩ hM ⟨callB_of n x5 (gi_c hG hcode) rfl rfl rfl (x5 _ hini) (x5 _ hlink) hd hR, x5 _ hinst, x5 _ hsel⟩ ⟨hp.1, hrv, hp.2⟩ rfl hn hls rfl (lv_room hrm) hdg hT) hw kk
theorem rr_vret (X : cx_ p s m args c cc nL own tb D cl tys) (hw : ww_ D cl ac a0 st s.heap H locs) (hlocks : meth.locks = false) (hr : meth.sig.returnType = none) (hi : cells = i) (hj : slots = j) (hdg : decode cc pc = .ok (.return_, 1)) :
    W p l e R s m args below meth c H locs cells slots (MQ below (ct_Q D cl ac a0 none st) args s i j (fun q => a0 ≤ q)) (F0 m pc ls []) := by
  subst hi hj
  exact W.vret X.1 X.2.1 hr (fun t ht hW => ⟨rfl, by rw [ht]; exact hw.1, hw.2.1.F ht⟩) hw.2.1.2.2 hdg hlocks
theorem rr_iret {x : Int32} {ty : FieldType} (X : cx_ p s m args c cc nL own tb D cl tys) (hw : ww_ D cl ac a0 st s.heap H locs) (hlocks : meth.locks = false) (hr : meth.sig.returnType = some ty) (hty : narrow ty (.int x) = .int x) (hi : cells = i) (hj : slots = j) (hdg : decode cc pc = .ok (.ireturn, 1)) :
    W p l e R s m args below meth c H locs cells slots (MQ below (ct_Q D cl ac a0 (some (.int x)) st) args s i j (fun q => a0 ≤ q)) (F0 m pc ls [.int x]) := by
  subst hi hj
  exact W.zret X.1 X.2.1 hr hty (fun t ht hW => ⟨rfl, by rw [ht]; exact hw.1, hw.2.1.F ht⟩) hw.2.1.2.2 hdg hlocks
theorem rr_aret {r : Option Nat} {ty : FieldType} (X : cx_ p s m args c cc nL own tb D cl tys) (hw : ww_ D cl ac a0 st s.heap H locs) (hlocks : meth.locks = false) (hr : meth.sig.returnType = some ty) (hty : (∃ n, ty = .object n) ∨ ∃ t, ty = .array t) (hi : cells = i) (hj : slots = j) (hdg : decode cc pc = .ok (.areturn, 1)) :
    W p l e R s m args below meth c H locs cells slots (MQ below (ct_Q D cl ac a0 (some (va_rf r)) st) args s i j (fun q => a0 ≤ q)) (F0 m pc ls [va_rf r]) := by
  subst hi hj
  exact W.aret X.1 X.2.1 hr hty (by cases r with | none => exact Or.inl rfl | some a => exact Or.inr ⟨a, rfl⟩) (fun t ht hW => ⟨rfl, by rw [ht]; exact hw.1, hw.2.1.F ht⟩) hw.2.1.2.2 hdg hlocks
end RRC
/-! blocks: a place of a method, its locals and stack out of a tuple, and the program from there to the method's end -/
def wk_ {α β : Type} (p : Program) (l : Launch) (e : Env) (fr lo : Nat) (s : State) (m : MethodId) (args : Array Value) (below : List Frame) (meth : Method) (c : Code) (D : va_G) (cl : List vw_C) (ac : Nat → ClassId) (a0 nL : Nat) (vb : β → Option Value) (rF : β) (stF : st_S) (iT jT pc : Nat) (lv : α → List (Nat × Value)) (sk : α → List Value) (f : α → st_M β) : Prop :=
  ∀ (x : α) (st : st_S) (H : Heap) (locs : List Loc) (cells slots i j : Nat) (ls : Array Slot), ww_ D cl ac a0 st s.heap H locs → lh_ ls nL (lv x) → f x st = some (rF, stF, i, j) → cells + i = iT → slots + j = jT →
    W p l e ({ frames := fr, cells := iT, slots := jT, locals := lo }) s m args below meth c H locs cells slots (MQ below (ct_Q D cl ac a0 (vb rF) stF) args s iT jT (fun q => a0 ≤ q)) (F0 m pc ls (sk x))
/-- a loop: n rounds at most -/
def st_it {α β : Type} (F : (α → st_M β) → α → st_M β) : Nat → α → st_M β
  | 0 => fun _ _ => none
  | n + 1 => F (st_it F n)
theorem wk_it {α β : Type} {p : Program} {l : Launch} {e : Env} {fr lo : Nat} {s : State} {m : MethodId} {args : Array Value} {below : List Frame} {meth : Method} {c : Code} {D : va_G} {cl : List vw_C} {ac : Nat → ClassId} {a0 nL : Nat} {vb : β → Option Value} {rF : β} {stF : st_S} {iT jT pc : Nat} {lv : α → List (Nat × Value)} {sk : α → List Value} {F : (α → st_M β) → α → st_M β}
    (h : ∀ f : α → st_M β, wk_ p l e fr lo s m args below meth c D cl ac a0 nL vb rF stF iT jT pc lv sk f → wk_ p l e fr lo s m args below meth c D cl ac a0 nL vb rF stF iT jT pc lv sk (F f)) :
    ∀ n : Nat, wk_ p l e fr lo s m args below meth c D cl ac a0 nL vb rF stF iT jT pc lv sk (st_it F n)
  | 0 => fun _ _ _ _ _ _ _ _ _ _ _ h1 _ _ => by cases h1
  | n + 1 => h _ (wk_it h n)
def vb_u (_ : Unit) : Option Value := none
def vb_i (x : Int32) : Option Value := some (.int x)
def vb_q (x : Option Nat) : Option Value := some (va_rf x)
end
section
/-! further rows: nulls, truths, lengths, casts, calls of inherited methods -/
def fu_ : Nat := 5000
def so_z (x : Int32) (_ : st_S) : Option Unit := if x = 0 ∨ x = 1 then some () else none
theorem so_z_or {x : Int32} {st : st_S} {u : Unit} (h : so_z x st = some u) : x = 0 ∨ x = 1 := by
  unfold so_z at h
  split at h
  · assumption
  · cases h
theorem so_z_n {x : Int32} {st : st_S} {u : Unit} (h : so_z x st = some u) : narrow .boolean (.int x) = .int x := by
  rcases so_z_or h with rfl | rfl <;> rfl
theorem so_z_f {x : Int32} {st : st_S} {u : Unit} (h : so_z x st = some u) : fits .boolean (.int x) = true := by
  rcases so_z_or h with rfl | rfl <;> rfl
def so_l (x : Int32) (_ : st_S) : Option Unit := if ¬ x < 0 ∧ x.toNatClampNeg * 4 ≤ 536870912 then some () else none
theorem so_l_s {x : Int32} {st : st_S} {u : Unit} (h : so_l x st = some u) : ¬ x < 0 ∧ x.toNatClampNeg * 4 ≤ 536870912 := by
  unfold so_l at h
  split at h
  · assumption
  · cases h
theorem rf_nar (C : String) (r : Option Nat) : narrow (.object C) (va_rf r) = va_rf r := by cases r <;> rfl
theorem rf_fit (C : String) (r : Option Nat) : fits (.object C) (va_rf r) = true := by cases r <;> rfl
theorem rf_narA (t : FieldType) (r : Option Nat) : narrow (.array t) (va_rf r) = va_rf r := by cases r <;> rfl
theorem rf_fitA (t : FieldType) (r : Option Nat) : fits (.array t) (va_rf r) = true := by cases r <;> rfl
/-- instanceof: objects of the classes yes are, those of the classes no are not -/
def so_i (r : Option Nat) (yes no : List Nat) (st : st_S) : Option Int32 := match r with
  | none => some 0
  | some a => match st.1 a with
    | some (.inr (.inr o)) => if o.1 ∈ yes then some 1 else if o.1 ∈ no then some 0 else none
    | _ => none
def so_k (r : Option Nat) (yes : List Nat) (st : st_S) : Option Unit := match r with
  | none => some ()
  | some a => match st.1 a with
    | some (.inr (.inr o)) => if o.1 ∈ yes then some () else none
    | _ => none
/-- an object of class ci is a nm, or isn't -/
def cy_ (cl : List vw_C) (yes : List Nat) (nm : String) (s : State) : Prop := ∀ ci ∈ yes, ∃ q : vw_C, cl[ci]? = some q ∧ (q.1 = nm ∨ va_Nw (.castable q.1 nm) s)
def cn_ (cl : List vw_C) (no : List Nat) (nm : String) (s : State) : Prop := ∀ ci ∈ no, ∃ q : vw_C, cl[ci]? = some q ∧ va_Nc q.1 nm s
section RRD
variable {p : Program} {l : Launch} {e : Env} {R : Room} {s : State} {m : MethodId} {args : Array Value} {below : List Frame} {meth : Method} {c : Code} {H : Heap} {locs : List Loc} {cells slots : Nat} {Q : State → Prop}
variable {cc : ByteArray} {pc nL : Nat} {ls : Array Slot} {rest st0 : List Value} {D : va_G} {cl : List vw_C} {ac : Nat → ClassId} {tys : List (ClassId × FieldType)} {a0 : Nat} {H0 : Heap} {st st' : st_S} {own : String} {tb : List Cond} {K : State → Prop}
variable {index n maxL fr lo i j : Nat} {y : MethodName} {bytes : ByteArray} {ret : Option FieldType} {As : List Value} {rv : Option Value}
theorem rr_null (X : cx_ p s m args c cc nL own tb D cl tys) (hdg : decode cc pc = .ok (.aconst_null, 1)) (kk : W p l e R s m args below meth c H locs cells slots Q (F0 m (pc + 1) ls (va_rf none :: rest))) : W p l e R s m args below meth c H locs cells slots Q (F0 m pc ls rest) :=
  lv_null X.1 X.2.1 hdg kk
theorem rr_isY {nm : String} {yes : List Nat} {ci : Nat} (X : cx_ p s m args c cc nL own tb D cl tys) (hy : cy_ cl yes nm s) (hci : ci ∈ yes) : ∃ q : vw_C, cl[ci]? = some q ∧ ((∃ cC : ClassId, ClassAt s nm cC ∧ q.1 = nm) ∨ va_Nw (.castable q.1 nm) s) := by
  obtain ⟨q, h1, h2⟩ := hy ci hci
  refine ⟨q, h1, ?_⟩
  rcases h2 with h2 | h2
  · exact Or.inl ⟨_, by rw [← h2]; exact (X.2.2.2.2.2.1 ci q h1).2, h2⟩
  · exact Or.inr h2
theorem rr_inst {nm : String} {yes no : List Nat} {r : Option Nat} {x : Int32} (X : cx_ p s m args c cc nL own tb D cl tys) (hw : ww_ D cl ac a0 st H0 H locs) (hy : cy_ cl yes nm s) (hn : cn_ cl no nm s) (hv : so_i r yes no st = some x)
    (hlink : Cond.classLink own index nm ∈ tb) (hdg : decode cc pc = .ok (.instanceof index, 3)) (kk : W p l e R s m args below meth c H locs cells slots Q (F0 m (pc + 3) ls (.int x :: rest))) : W p l e R s m args below meth c H locs cells slots Q (F0 m pc ls (va_rf r :: rest)) := by
  unfold so_i at hv
  split at hv
  · cases hv
    exact lv_instN X.1 X.2.1 hdg kk
  · rename_i a
    split at hv
    · rename_i o ho
      obtain ⟨ci, fs⟩ := o
      split at hv
      · rename_i hci
        cases hv
        obtain ⟨q, h1, h2⟩ := rr_isY X hy hci
        have hrv := rr_recv X hw h1 ho
        rcases h2 with ⟨cC, h2, h3⟩ | h2
        · exact va_instS X.1 X.2.1 X.2.2.2.1 (X.2.2.2.2.1 _ hlink) h2 (h3 ▸ hrv) hdg kk
        · exact va_instY X.1 X.2.1 X.2.2.2.1 (X.2.2.2.2.1 _ hlink) h2 hrv hdg kk
      · split at hv
        · rename_i hci
          cases hv
          obtain ⟨q, h1, h2⟩ := hn ci hci
          exact va_instNo X.1 X.2.1 X.2.2.2.1 (X.2.2.2.2.1 _ hlink) h2 (rr_recv X hw h1 ho) hdg kk
        · cases hv
    · cases hv
theorem rr_cast {nm : String} {yes : List Nat} {r : Option Nat} {u : Unit} (X : cx_ p s m args c cc nL own tb D cl tys) (hw : ww_ D cl ac a0 st H0 H locs) (hy : cy_ cl yes nm s) (hv : so_k r yes st = some u)
    (hlink : Cond.classLink own index nm ∈ tb) (hdg : decode cc pc = .ok (.checkcast index, 3)) (kk : W p l e R s m args below meth c H locs cells slots Q (F0 m (pc + 3) ls (va_rf r :: rest))) : W p l e R s m args below meth c H locs cells slots Q (F0 m pc ls (va_rf r :: rest)) := by
  unfold so_k at hv
  split at hv
  · exact lv_castN X.1 X.2.1 hdg kk
  · rename_i a
    split at hv
    · rename_i o ho
      obtain ⟨ci, fs⟩ := o
      split at hv
      · rename_i hci
        obtain ⟨q, h1, h2⟩ := rr_isY X hy hci
        have hrv := rr_recv X hw h1 ho
        rcases h2 with ⟨cC, h2, h3⟩ | h2
        · exact va_castS X.1 X.2.1 X.2.2.2.1 (X.2.2.2.2.1 _ hlink) h2 (h3 ▸ hrv) hdg kk
        · exact va_castY X.1 X.2.1 X.2.2.2.1 (X.2.2.2.2.1 _ hlink) h2 hrv hdg kk
      · cases hv
    · cases hv
theorem rr_objI {r : Option Nat} {ci : Nat} (X : cx_ p s m args c cc nL own tb D cl tys) (hrc : so_c r st = some ci) (hlink : Cond.methodLink own index objectInit ∈ tb) (hinst : Cond.instanceMethod objectInit ∈ tb) (hcode : Cond.code objectInit ⟨#[0xb1]⟩ 1 none ∈ tb)
    (hls : ls.size = nL) (hfr : 1 ≤ R.frames) (hlo : (rest.map fun v => v.category).sum + 12 ≤ R.locals) (hdg : decode cc pc = .ok (.invokespecial index, 3)) (kk : W p l e R s m args below meth c H locs cells slots Q (F0 m (pc + 3) ls rest)) : W p l e R s m args below meth c H locs cells slots Q (F0 m pc ls (va_rf r :: rest)) := by
  obtain ⟨b, fs, rfl, hb⟩ := so_c_some hrc
  obtain ⟨x1, x2, x3, x4, x5, x6⟩ := X
  exact W.objInit x1 x2 x4 (x5 _ hlink) (x5 _ hinst) (x5 _ hcode) rfl (hls.trans x3.symm) rfl hdg hfr (by show 2 * 0 + _ + 12 ≤ _; omega) kk
/-- a call of a method that another class has: x as it is named, y as it is selected -/
theorem rr_callU {r : Option Nat} {ci : Nat} {cis : List Nat} {x : MethodName} {owner : String} (X : cx_ p s m args c cc nL own tb D cl tys) (hw : ww_ D cl ac a0 st s.heap H locs) (hK : kk_ D cl tys a0 K) (hKs : K s) (hM : ct_ l y (Cond.code y bytes maxL ret :: tb) fr lo D cl ac a0 K (va_rf r :: As) st rv st' i j)
    (hG : GoodIn tb tb) (hcode : Cond.code y bytes maxL ret ∈ tb) (hini : Cond.initialized y.cls ∈ tb) (hlink : Cond.methodLink own index x ∈ tb) (hsame : Cond.sameMethod x.cls owner x.name x.desc ∈ tb) (hdecl : va_Decl s ⟨owner, x.name, x.desc⟩) (hinst : Cond.instanceMethod y ∈ tb) (hcs : ∀ ci ∈ cis, ∃ q : vw_C, cl[ci]? = some q ∧ Cond.selects q.1 x y ∈ tb) (hrc : so_cm r cis st = some ci)
    (hd : owner ≠ "java/lang/invoke/MethodHandle" ∧ owner ≠ "java/lang/invoke/VarHandle" ∧ (parseMethodDescriptor x.desc).map (fun d => d.parameters.length) = some n) (hn : As.length = n)
    (hR : fr + 1 ≤ R.frames ∧ 8 + (maxL + 11) + lo ≤ R.locals) (hT : cells + i ≤ R.cells ∧ slots + j ≤ R.slots) (hls : ls.size = nL) (hrm : (rest.map fun v => v.category).sum ≤ 8) (hst : st0 = As.reverse ++ va_rf r :: rest) (hdg : decode cc pc = .ok (.invokevirtual index, 3))
    {sk : List Value} (hsk : rv.toList ++ rest = sk) (kk : ∀ (H1 : Heap) (locs1 : List Loc), ww_ D cl ac a0 st' s.heap H1 locs1 → W p l e R s m args below meth c H1 locs1 (cells + i) (slots + j) Q (F0 m (pc + 3) ls sk)) : W p l e R s m args below meth c H locs cells slots Q (F0 m pc ls st0) := by
  obtain ⟨b, fs, rfl, hb, hci⟩ := so_cm_some hrc
  obtain ⟨q, hc, hsel⟩ := hcs ci hci
  have hrv := rr_recv X hw hc hb
  obtain ⟨x1, x2, x3, x4, x5, x6⟩ := X
  subst hst hsk
  have hp := ct_pre hK hKs hw (va_rf (some b) :: As)
  have hG2 := gi_c (bytes := bytes) (maxL := maxL) (ret := ret) (y := y) hG hcode
  refine ct_go (va_runU (C := q.1) (owner := owner) (x := x) (b := b) (As := As) (rest := rest) ⟨x1, x2, x3, x4, x5⟩ hM ⟨⟨rfl, rfl, hR.1, hR.2, pay_in x5 hG2, List.mem_cons_self⟩, x5 _ hcode, x5 _ hini, ⟨hd.1, hd.2.1⟩, fun sig h => ?_, x5 _ hlink, x5 _ hsame, hdecl, x5 _ hsel, x5 _ hinst⟩ ⟨hp.1, hrv, hp.2⟩ rfl hn hls rfl (lv_room hrm) hdg hT) hw kk
  have h2 := hd.2.2
  rw [h] at h2
  exact (Option.some.inj h2).symm
end RRD
end
section
/-! The claim's classes, its rows' types, what a contract knows of the start. Printed from the tables' words. -/
def ct_0 : u_T := fun k => match k with
  | 0 => ("PromiseVats", "vats", "[LPromiseVats$Vat;", true)
  | 1 => ("PromiseVats", "programs", "[LPromiseVats$Program;", true)
  | 2 => ("PromiseVats", "entities", "[LPromiseVats$Entity;", true)
  | 3 => ("PromiseVats", "objectsMade", "I", false)
  | 4 => ("PromiseVats", "promisesMade", "I", false)
  | 5 => ("PromiseVats", "running", "LPromiseVats$Turn;", true)
  | 6 => ("PromiseVats", "lost", "[LPromiseVats$Promise;", true)
  | 7 => ("PromiseVats", "lostCount", "I", false)
  | 8 => ("PromiseVats", "found", "[LPromiseVats$Entity;", true)
  | _ => ("PromiseVats", "foundCount", "I", false)
def cy_0 : Nat → FieldType := fun k => match k with
  | 0 => .array (.object "PromiseVats$Vat")
  | 1 => .array (.object "PromiseVats$Program")
  | 2 => .array (.object "PromiseVats$Entity")
  | 3 => .int
  | 4 => .int
  | 5 => .object "PromiseVats$Turn"
  | 6 => .array (.object "PromiseVats$Promise")
  | 7 => .int
  | 8 => .array (.object "PromiseVats$Entity")
  | _ => .int
def cd_0 : List Value := [.null, .null, .null, .int 0, .int 0, .null, .null, .int 0, .null, .int 0]
def ct_1 : u_T := fun k => match k with
  | 0 => ("PromiseVats$Turn", "self", "LPromiseVats$VatObject;", false)
  | 1 => ("PromiseVats$Turn", "value", "I", false)
  | 2 => ("PromiseVats$Turn", "reference", "LPromiseVats$Entity;", false)
  | _ => ("PromiseVats$Turn", "skips", "I", false)
def cy_1 : Nat → FieldType := fun k => match k with
  | 0 => .object "PromiseVats$VatObject"
  | 1 => .int
  | 2 => .object "PromiseVats$Entity"
  | _ => .int
def cd_1 : List Value := [.null, .int 0, .null, .int 0]
def ct_2 : u_T := fun k => match k with
  | 0 => ("PromiseVats$Program", "ops", "[I", true)
  | 1 => ("PromiseVats$Program", "xs", "[I", true)
  | _ => ("PromiseVats$Program", "length", "I", false)
def cy_2 : Nat → FieldType := fun k => match k with
  | 0 => .array (.int)
  | 1 => .array (.int)
  | _ => .int
def cd_2 : List Value := [.null, .null, .int 0]
def ct_3 : u_T := fun k => match k with
  | 0 => ("PromiseVats$VatObject", "program", "I", true)
  | 1 => ("PromiseVats$VatObject", "amount", "I", false)
  | 2 => ("PromiseVats$VatObject", "slots", "[LPromiseVats$Entity;", true)
  | 3 => ("PromiseVats$Entity", "id", "I", true)
  | 4 => ("PromiseVats$Entity", "home", "I", true)
  | 5 => ("PromiseVats$Entity", "freed", "Z", false)
  | 6 => ("PromiseVats$Entity", "reached", "Z", false)
  | 7 => ("PromiseVats$Entity", "exports", "[I", true)
  | 8 => ("PromiseVats$Entity", "imports", "[I", true)
  | _ => ("PromiseVats$Entity", "gifts", "[I", true)
def cy_3 : Nat → FieldType := fun k => match k with
  | 0 => .int
  | 1 => .int
  | 2 => .array (.object "PromiseVats$Entity")
  | 3 => .int
  | 4 => .int
  | 5 => .boolean
  | 6 => .boolean
  | 7 => .array (.int)
  | 8 => .array (.int)
  | _ => .array (.int)
def cd_3 : List Value := [.int 0, .int 0, .null, .int 0, .int 0, .int 0, .int 0, .null, .null, .null]
def ct_4 : u_T := fun k => match k with
  | 0 => ("PromiseVats$Promise", "open", "Z", false)
  | 1 => ("PromiseVats$Promise", "outcome", "LPromiseVats$Entity;", false)
  | 2 => ("PromiseVats$Promise", "waiting", "Ljava/util/ArrayList;", true)
  | 3 => ("PromiseVats$Entity", "id", "I", true)
  | 4 => ("PromiseVats$Entity", "home", "I", true)
  | 5 => ("PromiseVats$Entity", "freed", "Z", false)
  | 6 => ("PromiseVats$Entity", "reached", "Z", false)
  | 7 => ("PromiseVats$Entity", "exports", "[I", true)
  | 8 => ("PromiseVats$Entity", "imports", "[I", true)
  | _ => ("PromiseVats$Entity", "gifts", "[I", true)
def cy_4 : Nat → FieldType := fun k => match k with
  | 0 => .boolean
  | 1 => .object "PromiseVats$Entity"
  | 2 => .object "java/util/ArrayList"
  | 3 => .int
  | 4 => .int
  | 5 => .boolean
  | 6 => .boolean
  | 7 => .array (.int)
  | 8 => .array (.int)
  | _ => .array (.int)
def cd_4 : List Value := [.int 0, .null, .null, .int 0, .int 0, .int 0, .int 0, .null, .null, .null]
def ct_5 : u_T := fun k => match k with
  | 0 => ("PromiseVats$Vat", "root", "LPromiseVats$VatObject;", true)
  | 1 => ("PromiseVats$Vat", "calls", "Ljava/util/ArrayList;", true)
  | 2 => ("PromiseVats$Vat", "channels", "[LPromiseVats$Channel;", true)
  | 3 => ("PromiseVats$Vat", "latest", "[I", true)
  | _ => ("PromiseVats$Vat", "outputs", "I", false)
def cy_5 : Nat → FieldType := fun k => match k with
  | 0 => .object "PromiseVats$VatObject"
  | 1 => .object "java/util/ArrayList"
  | 2 => .array (.object "PromiseVats$Channel")
  | 3 => .array (.int)
  | _ => .int
def cd_5 : List Value := [.null, .null, .null, .null, .int 0]
def ct_6 : u_T := fun k => match k with
  | 0 => ("java/util/ArrayList", "elementData", "[Ljava/lang/Object;", false)
  | 1 => ("java/util/ArrayList", "size", "I", false)
  | _ => ("java/util/AbstractList", "modCount", "I", false)
def cy_6 : Nat → FieldType := fun k => match k with
  | 0 => .array (.object "java/lang/Object")
  | 1 => .int
  | _ => .int
def cd_6 : List Value := [.null, .int 0, .int 0]
def ct_7 : u_T := fun k => match k with
  | _ => ("PromiseVats$Channel", "messages", "Ljava/util/ArrayList;", true)
def cy_7 : Nat → FieldType := fun k => match k with
  | _ => .object "java/util/ArrayList"
def cd_7 : List Value := [.null]
def ct_8 : u_T := fun k => match k with
  | 0 => ("PromiseVats$Call", "target", "LPromiseVats$Entity;", false)
  | 1 => ("PromiseVats$Call", "value", "I", true)
  | 2 => ("PromiseVats$Call", "argument", "LPromiseVats$Entity;", true)
  | _ => ("PromiseVats$Call", "answe\x72", "LPromiseVats$Promise;", true)
def cy_8 : Nat → FieldType := fun k => match k with
  | 0 => .object "PromiseVats$Entity"
  | 1 => .int
  | 2 => .object "PromiseVats$Entity"
  | _ => .object "PromiseVats$Promise"
def cd_8 : List Value := [.null, .int 0, .null, .null]
def ct_9 : u_T := fun k => match k with
  | 0 => ("PromiseVats$Message", "kind", "I", true)
  | 1 => ("PromiseVats$Message", "subject", "LPromiseVats$Entity;", true)
  | 2 => ("PromiseVats$Message", "argument", "LPromiseVats$Entity;", true)
  | 3 => ("PromiseVats$Message", "amount", "I", true)
  | _ => ("PromiseVats$Message", "call", "LPromiseVats$Call;", false)
def cy_9 : Nat → FieldType := fun k => match k with
  | 0 => .int
  | 1 => .object "PromiseVats$Entity"
  | 2 => .object "PromiseVats$Entity"
  | 3 => .int
  | _ => .object "PromiseVats$Call"
def cd_9 : List Value := [.int 0, .null, .null, .int 0, .null]
def ct_10 : u_T := fun k => match k with
  | 0 => ("PromiseVatsModel", "vats", "I", true)
  | 1 => ("PromiseVatsModel", "objects", "I", false)
  | 2 => ("PromiseVatsModel", "promises", "I", false)
  | 3 => ("PromiseVatsModel", "sizes", "[I", true)
  | 4 => ("PromiseVatsModel", "ops", "[I", true)
  | 5 => ("PromiseVatsModel", "args", "[I", true)
  | 6 => ("PromiseVatsModel", "home", "[B", true)
  | 7 => ("PromiseVatsModel", "gone", "[Z", true)
  | 8 => ("PromiseVatsModel", "settled", "[Z", true)
  | 9 => ("PromiseVatsModel", "to", "[I", true)
  | 10 => ("PromiseVatsModel", "reached", "[Z", true)
  | 11 => ("PromiseVatsModel", "programs", "[B", true)
  | 12 => ("PromiseVatsModel", "numbers", "[I", true)
  | 13 => ("PromiseVatsModel", "slots", "[I", true)
  | 14 => ("PromiseVatsModel", "marked", "Z", false)
  | 15 => ("PromiseVatsModel", "exports", "[I", true)
  | 16 => ("PromiseVatsModel", "imports", "[I", true)
  | 17 => ("PromiseVatsModel", "owed", "[I", true)
  | 18 => ("PromiseVatsModel", "resting", "I", false)
  | 19 => ("PromiseVatsModel", "place", "[I", true)
  | 20 => ("PromiseVatsModel", "target", "[I", true)
  | 21 => ("PromiseVatsModel", "value", "[I", true)
  | 22 => ("PromiseVatsModel", "argument", "[I", true)
  | 23 => ("PromiseVatsModel", "answe\x72", "[I", true)
  | 24 => ("PromiseVatsModel", "mails", "I", false)
  | 25 => ("PromiseVatsModel", "head", "[B", true)
  | 26 => ("PromiseVatsModel", "about", "[S", true)
  | 27 => ("PromiseVatsModel", "load", "[I", true)
  | 28 => ("PromiseVatsModel", "carry", "[S", true)
  | 29 => ("PromiseVatsModel", "back", "[S", true)
  | 30 => ("PromiseVatsModel", "lost", "I", false)
  | 31 => ("PromiseVatsModel", "losers", "[I", true)
  | 32 => ("PromiseVatsModel", "outs", "[I", true)
  | 33 => ("PromiseVatsModel", "out", "[I", true)
  | 34 => ("PromiseVatsModel", "v", "I", false)
  | _ => ("PromiseVatsModel", "\x72", "I", false)
def cy_10 : Nat → FieldType := fun k => match k with
  | 0 => .int
  | 1 => .int
  | 2 => .int
  | 3 => .array (.int)
  | 4 => .array (.int)
  | 5 => .array (.int)
  | 6 => .array (.byte)
  | 7 => .array (.boolean)
  | 8 => .array (.boolean)
  | 9 => .array (.int)
  | 10 => .array (.boolean)
  | 11 => .array (.byte)
  | 12 => .array (.int)
  | 13 => .array (.int)
  | 14 => .boolean
  | 15 => .array (.int)
  | 16 => .array (.int)
  | 17 => .array (.int)
  | 18 => .int
  | 19 => .array (.int)
  | 20 => .array (.int)
  | 21 => .array (.int)
  | 22 => .array (.int)
  | 23 => .array (.int)
  | 24 => .int
  | 25 => .array (.byte)
  | 26 => .array (.short)
  | 27 => .array (.int)
  | 28 => .array (.short)
  | 29 => .array (.short)
  | 30 => .int
  | 31 => .array (.int)
  | 32 => .array (.int)
  | 33 => .array (.int)
  | 34 => .int
  | _ => .int
def cd_10 : List Value := [.int 0, .int 0, .int 0, .null, .null, .null, .null, .null, .null, .null, .null, .null, .null, .null, .int 0, .null, .null, .null, .int 0, .null, .null, .null, .null, .null, .int 0, .null, .null, .null, .null, .null, .int 0, .null, .null, .null, .int 0, .int 0]
def cl_ : List vw_C := [("PromiseVats", ct_0, 10), ("PromiseVats$Turn", ct_1, 4), ("PromiseVats$Program", ct_2, 3), ("PromiseVats$VatObject", ct_3, 10), ("PromiseVats$Promise", ct_4, 10), ("PromiseVats$Vat", ct_5, 5), ("java/util/ArrayList", ct_6, 3), ("PromiseVats$Channel", ct_7, 1), ("PromiseVats$Call", ct_8, 4), ("PromiseVats$Message", ct_9, 5), ("PromiseVatsModel", ct_10, 36)]
def ty_ (ac : Nat → ClassId) : List (ClassId × FieldType) := [(ac 0, .int), (ac 1, .byte), (ac 2, .boolean), (ac 3, .short), (ac 4, .object "PromiseVats$Vat"), (ac 5, .object "PromiseVats$Program"), (ac 6, .object "PromiseVats$Entity"), (ac 7, .object "PromiseVats$Promise"), (ac 8, .object "PromiseVats$Channel"), (ac 9, .object "java/lang/Object")]
theorem cw_0 : ∀ k, k < 10 → u_lay "PromiseVats" ct_0 k ∈ tb_ := by
  intro k hk
  match k, hk with
  | 0, _ => exact tb_in 226 (by decide +kernel) rfl
  | 1, _ => exact tb_in 228 (by decide +kernel) rfl
  | 2, _ => exact tb_in 230 (by decide +kernel) rfl
  | 3, _ => exact tb_in 232 (by decide +kernel) rfl
  | 4, _ => exact tb_in 234 (by decide +kernel) rfl
  | 5, _ => exact tb_in 236 (by decide +kernel) rfl
  | 6, _ => exact tb_in 238 (by decide +kernel) rfl
  | 7, _ => exact tb_in 240 (by decide +kernel) rfl
  | 8, _ => exact tb_in 242 (by decide +kernel) rfl
  | 9, _ => exact tb_in 244 (by decide +kernel) rfl
  | k + 10, hk => exact absurd hk (by omega)
theorem cf_0 : cf_ cl_ tb_ 0 "PromiseVats" ct_0 10 cy_0 := ⟨rfl, fun w h => by
  obtain ⟨k, hk, rfl⟩ := List.mem_map.mp h
  exact cw_0 k (List.mem_range.mp hk), by decide +kernel, by decide +kernel⟩
theorem cb_0 : ∀ j, j < 10 → defaultValue (cy_0 j) = vp_V cd_0 j := by decide +kernel
theorem cw_1 : ∀ k, k < 4 → u_lay "PromiseVats$Turn" ct_1 k ∈ tb_ := by
  intro k hk
  match k, hk with
  | 0, _ => exact tb_in 55 (by decide +kernel) rfl
  | 1, _ => exact tb_in 57 (by decide +kernel) rfl
  | 2, _ => exact tb_in 59 (by decide +kernel) rfl
  | 3, _ => exact tb_in 61 (by decide +kernel) rfl
  | k + 4, hk => exact absurd hk (by omega)
theorem cf_1 : cf_ cl_ tb_ 1 "PromiseVats$Turn" ct_1 4 cy_1 := ⟨rfl, fun w h => by
  obtain ⟨k, hk, rfl⟩ := List.mem_map.mp h
  exact cw_1 k (List.mem_range.mp hk), by decide +kernel, by decide +kernel⟩
theorem cb_1 : ∀ j, j < 4 → defaultValue (cy_1 j) = vp_V cd_1 j := by decide +kernel
theorem cw_2 : ∀ k, k < 3 → u_lay "PromiseVats$Program" ct_2 k ∈ tb_ := by
  intro k hk
  match k, hk with
  | 0, _ => exact tb_in 76 (by decide +kernel) rfl
  | 1, _ => exact tb_in 78 (by decide +kernel) rfl
  | 2, _ => exact tb_in 80 (by decide +kernel) rfl
  | k + 3, hk => exact absurd hk (by omega)
theorem cf_2 : cf_ cl_ tb_ 2 "PromiseVats$Program" ct_2 3 cy_2 := ⟨rfl, fun w h => by
  obtain ⟨k, hk, rfl⟩ := List.mem_map.mp h
  exact cw_2 k (List.mem_range.mp hk), by decide +kernel, by decide +kernel⟩
theorem cb_2 : ∀ j, j < 3 → defaultValue (cy_2 j) = vp_V cd_2 j := by decide +kernel
theorem cw_3 : ∀ k, k < 10 → u_lay "PromiseVats$VatObject" ct_3 k ∈ tb_ := by
  intro k hk
  match k, hk with
  | 0, _ => exact tb_in 129 (by decide +kernel) rfl
  | 1, _ => exact tb_in 131 (by decide +kernel) rfl
  | 2, _ => exact tb_in 133 (by decide +kernel) rfl
  | 3, _ => exact tb_in 135 (by decide +kernel) rfl
  | 4, _ => exact tb_in 137 (by decide +kernel) rfl
  | 5, _ => exact tb_in 139 (by decide +kernel) rfl
  | 6, _ => exact tb_in 141 (by decide +kernel) rfl
  | 7, _ => exact tb_in 143 (by decide +kernel) rfl
  | 8, _ => exact tb_in 145 (by decide +kernel) rfl
  | 9, _ => exact tb_in 147 (by decide +kernel) rfl
  | k + 10, hk => exact absurd hk (by omega)
theorem cf_3 : cf_ cl_ tb_ 3 "PromiseVats$VatObject" ct_3 10 cy_3 := ⟨rfl, fun w h => by
  obtain ⟨k, hk, rfl⟩ := List.mem_map.mp h
  exact cw_3 k (List.mem_range.mp hk), by decide +kernel, by decide +kernel⟩
theorem cb_3 : ∀ j, j < 10 → defaultValue (cy_3 j) = vp_V cd_3 j := by decide +kernel
theorem cw_4 : ∀ k, k < 10 → u_lay "PromiseVats$Promise" ct_4 k ∈ tb_ := by
  intro k hk
  match k, hk with
  | 0, _ => exact tb_in 459 (by decide +kernel) rfl
  | 1, _ => exact tb_in 461 (by decide +kernel) rfl
  | 2, _ => exact tb_in 463 (by decide +kernel) rfl
  | 3, _ => exact tb_in 465 (by decide +kernel) rfl
  | 4, _ => exact tb_in 466 (by decide +kernel) rfl
  | 5, _ => exact tb_in 467 (by decide +kernel) rfl
  | 6, _ => exact tb_in 468 (by decide +kernel) rfl
  | 7, _ => exact tb_in 469 (by decide +kernel) rfl
  | 8, _ => exact tb_in 470 (by decide +kernel) rfl
  | 9, _ => exact tb_in 471 (by decide +kernel) rfl
  | k + 10, hk => exact absurd hk (by omega)
theorem cf_4 : cf_ cl_ tb_ 4 "PromiseVats$Promise" ct_4 10 cy_4 := ⟨rfl, fun w h => by
  obtain ⟨k, hk, rfl⟩ := List.mem_map.mp h
  exact cw_4 k (List.mem_range.mp hk), by decide +kernel, by decide +kernel⟩
theorem cb_4 : ∀ j, j < 10 → defaultValue (cy_4 j) = vp_V cd_4 j := by decide +kernel
theorem cw_5 : ∀ k, k < 5 → u_lay "PromiseVats$Vat" ct_5 k ∈ tb_ := by
  intro k hk
  match k, hk with
  | 0, _ => exact tb_in 205 (by decide +kernel) rfl
  | 1, _ => exact tb_in 207 (by decide +kernel) rfl
  | 2, _ => exact tb_in 209 (by decide +kernel) rfl
  | 3, _ => exact tb_in 211 (by decide +kernel) rfl
  | 4, _ => exact tb_in 213 (by decide +kernel) rfl
  | k + 5, hk => exact absurd hk (by omega)
theorem cf_5 : cf_ cl_ tb_ 5 "PromiseVats$Vat" ct_5 5 cy_5 := ⟨rfl, fun w h => by
  obtain ⟨k, hk, rfl⟩ := List.mem_map.mp h
  exact cw_5 k (List.mem_range.mp hk), by decide +kernel, by decide +kernel⟩
theorem cb_5 : ∀ j, j < 5 → defaultValue (cy_5 j) = vp_V cd_5 j := by decide +kernel
theorem cw_6 : ∀ k, k < 3 → u_lay "java/util/ArrayList" ct_6 k ∈ tb_ := by
  intro k hk
  match k, hk with
  | 0, _ => exact tb_in 174 (by decide +kernel) rfl
  | 1, _ => exact tb_in 176 (by decide +kernel) rfl
  | 2, _ => exact tb_in 178 (by decide +kernel) rfl
  | k + 3, hk => exact absurd hk (by omega)
theorem cf_6 : cf_ cl_ tb_ 6 "java/util/ArrayList" ct_6 3 cy_6 := ⟨rfl, fun w h => by
  obtain ⟨k, hk, rfl⟩ := List.mem_map.mp h
  exact cw_6 k (List.mem_range.mp hk), by decide +kernel, by decide +kernel⟩
theorem cb_6 : ∀ j, j < 3 → defaultValue (cy_6 j) = vp_V cd_6 j := by decide +kernel
theorem cw_7 : ∀ k, k < 1 → u_lay "PromiseVats$Channel" ct_7 k ∈ tb_ := by
  intro k hk
  match k, hk with
  | 0, _ => exact tb_in 192 (by decide +kernel) rfl
  | k + 1, hk => exact absurd hk (by omega)
theorem cf_7 : cf_ cl_ tb_ 7 "PromiseVats$Channel" ct_7 1 cy_7 := ⟨rfl, fun w h => by
  obtain ⟨k, hk, rfl⟩ := List.mem_map.mp h
  exact cw_7 k (List.mem_range.mp hk), by decide +kernel, by decide +kernel⟩
theorem cb_7 : ∀ j, j < 1 → defaultValue (cy_7 j) = vp_V cd_7 j := by decide +kernel
theorem cw_8 : ∀ k, k < 4 → u_lay "PromiseVats$Call" ct_8 k ∈ tb_ := by
  intro k hk
  match k, hk with
  | 0, _ => exact tb_in 295 (by decide +kernel) rfl
  | 1, _ => exact tb_in 297 (by decide +kernel) rfl
  | 2, _ => exact tb_in 299 (by decide +kernel) rfl
  | 3, _ => exact tb_in 301 (by decide +kernel) rfl
  | k + 4, hk => exact absurd hk (by omega)
theorem cf_8 : cf_ cl_ tb_ 8 "PromiseVats$Call" ct_8 4 cy_8 := ⟨rfl, fun w h => by
  obtain ⟨k, hk, rfl⟩ := List.mem_map.mp h
  exact cw_8 k (List.mem_range.mp hk), by decide +kernel, by decide +kernel⟩
theorem cb_8 : ∀ j, j < 4 → defaultValue (cy_8 j) = vp_V cd_8 j := by decide +kernel
theorem cw_9 : ∀ k, k < 5 → u_lay "PromiseVats$Message" ct_9 k ∈ tb_ := by
  intro k hk
  match k, hk with
  | 0, _ => exact tb_in 393 (by decide +kernel) rfl
  | 1, _ => exact tb_in 395 (by decide +kernel) rfl
  | 2, _ => exact tb_in 397 (by decide +kernel) rfl
  | 3, _ => exact tb_in 399 (by decide +kernel) rfl
  | 4, _ => exact tb_in 401 (by decide +kernel) rfl
  | k + 5, hk => exact absurd hk (by omega)
theorem cf_9 : cf_ cl_ tb_ 9 "PromiseVats$Message" ct_9 5 cy_9 := ⟨rfl, fun w h => by
  obtain ⟨k, hk, rfl⟩ := List.mem_map.mp h
  exact cw_9 k (List.mem_range.mp hk), by decide +kernel, by decide +kernel⟩
theorem cb_9 : ∀ j, j < 5 → defaultValue (cy_9 j) = vp_V cd_9 j := by decide +kernel
theorem cw_10 : ∀ k, k < 36 → u_lay "PromiseVatsModel" ct_10 k ∈ tb_ := by
  intro k hk
  match k, hk with
  | 0, _ => exact tb_in 682 (by decide +kernel) rfl
  | 1, _ => exact tb_in 684 (by decide +kernel) rfl
  | 2, _ => exact tb_in 686 (by decide +kernel) rfl
  | 3, _ => exact tb_in 688 (by decide +kernel) rfl
  | 4, _ => exact tb_in 690 (by decide +kernel) rfl
  | 5, _ => exact tb_in 692 (by decide +kernel) rfl
  | 6, _ => exact tb_in 694 (by decide +kernel) rfl
  | 7, _ => exact tb_in 696 (by decide +kernel) rfl
  | 8, _ => exact tb_in 698 (by decide +kernel) rfl
  | 9, _ => exact tb_in 700 (by decide +kernel) rfl
  | 10, _ => exact tb_in 702 (by decide +kernel) rfl
  | 11, _ => exact tb_in 704 (by decide +kernel) rfl
  | 12, _ => exact tb_in 706 (by decide +kernel) rfl
  | 13, _ => exact tb_in 708 (by decide +kernel) rfl
  | 14, _ => exact tb_in 710 (by decide +kernel) rfl
  | 15, _ => exact tb_in 712 (by decide +kernel) rfl
  | 16, _ => exact tb_in 714 (by decide +kernel) rfl
  | 17, _ => exact tb_in 716 (by decide +kernel) rfl
  | 18, _ => exact tb_in 718 (by decide +kernel) rfl
  | 19, _ => exact tb_in 720 (by decide +kernel) rfl
  | 20, _ => exact tb_in 722 (by decide +kernel) rfl
  | 21, _ => exact tb_in 724 (by decide +kernel) rfl
  | 22, _ => exact tb_in 726 (by decide +kernel) rfl
  | 23, _ => exact tb_in 728 (by decide +kernel) rfl
  | 24, _ => exact tb_in 730 (by decide +kernel) rfl
  | 25, _ => exact tb_in 732 (by decide +kernel) rfl
  | 26, _ => exact tb_in 734 (by decide +kernel) rfl
  | 27, _ => exact tb_in 736 (by decide +kernel) rfl
  | 28, _ => exact tb_in 738 (by decide +kernel) rfl
  | 29, _ => exact tb_in 740 (by decide +kernel) rfl
  | 30, _ => exact tb_in 742 (by decide +kernel) rfl
  | 31, _ => exact tb_in 744 (by decide +kernel) rfl
  | 32, _ => exact tb_in 746 (by decide +kernel) rfl
  | 33, _ => exact tb_in 748 (by decide +kernel) rfl
  | 34, _ => exact tb_in 750 (by decide +kernel) rfl
  | 35, _ => exact tb_in 752 (by decide +kernel) rfl
  | k + 36, hk => exact absurd hk (by omega)
theorem cf_10 : cf_ cl_ tb_ 10 "PromiseVatsModel" ct_10 36 cy_10 := ⟨rfl, fun w h => by
  obtain ⟨k, hk, rfl⟩ := List.mem_map.mp h
  exact cw_10 k (List.mem_range.mp hk), by decide +kernel, by decide +kernel⟩
theorem cb_10 : ∀ j, j < 36 → defaultValue (cy_10 j) = vp_V cd_10 j := by decide +kernel
def ca_ : List (String × String) := [("PromiseVats$Promise", "PromiseVats$Promise"), ("PromiseVats$Call", "PromiseVats$Call"), ("PromiseVats$VatObject", "PromiseVats$VatObject"), ("PromiseVats$Message", "PromiseVats$Message"), ("PromiseVats", "java/lang/Object"), ("PromiseVats$Turn", "java/lang/Object"), ("PromiseVats$Program", "java/lang/Object"), ("PromiseVats$VatObject", "java/lang/Object"), ("PromiseVats$Vat", "java/lang/Object"), ("PromiseVats$Channel", "java/lang/Object"), ("PromiseVatsModel", "java/lang/Object"), ("PromiseVats$Call", "java/lang/Object"), ("PromiseVats$Message", "java/lang/Object"), ("PromiseVats$Promise", "java/lang/Object"), ("PromiseVats$Promise", "PromiseVats$Entity"), ("PromiseVats$VatObject", "PromiseVats$Entity")]
def nc_ : List (String × String) := [("PromiseVats", "PromiseVats$Promise"), ("PromiseVats$Turn", "PromiseVats$Promise"), ("PromiseVats$Program", "PromiseVats$Promise"), ("PromiseVats$VatObject", "PromiseVats$Promise"), ("PromiseVats$Vat", "PromiseVats$Promise"), ("java/util/ArrayList", "PromiseVats$Promise"), ("PromiseVats$Channel", "PromiseVats$Promise"), ("PromiseVatsModel", "PromiseVats$Promise"), ("PromiseVats$Call", "PromiseVats$Promise"), ("PromiseVats$Message", "PromiseVats$Promise"), ("PromiseVats", "PromiseVats$VatObject"), ("PromiseVats$Turn", "PromiseVats$VatObject"), ("PromiseVats$Program", "PromiseVats$VatObject"), ("PromiseVats$Vat", "PromiseVats$VatObject"), ("java/util/ArrayList", "PromiseVats$VatObject"), ("PromiseVats$Channel", "PromiseVats$VatObject"), ("PromiseVatsModel", "PromiseVats$VatObject"), ("PromiseVats$Call", "PromiseVats$VatObject"), ("PromiseVats$Message", "PromiseVats$VatObject"), ("PromiseVats$Promise", "PromiseVats$VatObject")]
def ao_ : List String := ["PromiseVats$Vat", "PromiseVats$Program", "PromiseVats$Entity", "PromiseVats$Promise", "PromiseVats$Channel", "java/lang/Object"]
def nl_ : List (String × Nat × MethodName × String) := [("PromiseVats", 38, ⟨"PromiseVats$Turn", "<init>", "()V"⟩, "PromiseVats"), ("PromiseVats", 52, ⟨"PromiseVats$Program", "<init>", "()V"⟩, "PromiseVats"), ("PromiseVats$Vat", 32, ⟨"PromiseVats$Channel", "<init>", "()V"⟩, "PromiseVats")]
/-- what is fixed at the start: the empty row of all empty lists, the class object of Object[], the script's cell, its length, its ints -/
abbrev gl_T : Type := Nat × Nat × Nat × Nat × (Nat → Int32)
def kn_ (D : va_G) (ac : Nat → ClassId) (a0 : Nat) (gl : gl_T) (U : State) : Prop :=
  va_K D cl_ (ty_ ac) U ∧ (∀ q ∈ ca_, va_Nw (.castable q.1 q.2) U) ∧ (∀ q ∈ nc_, va_Nc q.1 q.2 U) ∧ (∀ C ∈ ao_, va_AO C U) ∧ (∀ q ∈ nl_, va_Nw (.methodLinkNest q.1 q.2.1 q.2.2.1 q.2.2.2) U) ∧
  va_Z "java/util/ArrayList" "DEFAULTCAPACITY_EMPTY_ELEMENTDATA" "[Ljava/lang/Object;" (.ref gl.1) (fun q => a0 ≤ q) U U.heap ∧ va_T (.object "java/lang/Object") gl.1 0 (fun _ => .null) (fun q => a0 ≤ q) U U.heap ∧
  va_Mi "[Ljava/lang/Object;" gl.2.1 U ∧ va_Dc U ∧ va_X gl.2.2.1 gl.2.2.2.1 gl.2.2.2.2 U U.heap ∧ gl.2.2.1 < a0 ∧ a0 ≤ U.heap.size
theorem kn_go {D : va_G} {ac : Nat → ClassId} {a0 : Nat} {gl : gl_T} {u U : State} (h : kn_ D ac a0 gl u) (hal : u.vm.Alike U.vm) (hc : ∀ q ∈ ca_, va_Nw (.castable q.1 q.2) u → va_Nw (.castable q.1 q.2) U) (hn : ∀ q ∈ nl_, va_Nw (.methodLinkNest q.1 q.2.1 q.2.2.1 q.2.2.2) u → va_Nw (.methodLinkNest q.1 q.2.1 q.2.2.1 q.2.2.2) U)
    (hH : ∀ q : Nat, q < u.heap.size → ¬ a0 ≤ q → U.heap[q]? = u.heap[q]?) (hz : u.heap.size ≤ U.heap.size) : kn_ D ac a0 gl U := by
  obtain ⟨k1, k2, k3, k4, k5, k6, k7, k8, k9, k10, k11, k12⟩ := h
  exact ⟨k1.moved hal, fun q hq => hc q hq (k2 q hq), fun q hq => (k3 q hq).moved hal, fun C hC => (k4 C hC).moved hal, fun q hq => hn q hq (k5 q hq), (k6.moved hal).kept hH, (k7.moved hal).kept hH, k8.moved hal, k9.moved hal, (k10.moved hal).kept (hH _ (by omega) (by omega)), k11, by omega⟩
theorem kn_ok (D : va_G) (ac : Nat → ClassId) (a0 : Nat) (gl : gl_T) : kk_ D cl_ (ty_ ac) a0 (kn_ D ac a0 gl) := by
  refine ⟨fun U h => h.1, fun a U g mk h => ?_, fun s U H locs h hS hU hW => ?_⟩
  · exact kn_go h (Vm.Alike.refl U.vm) (fun q _ z => va_Nw.same rfl rfl z) (fun q _ z => va_Nw.same rfl rfl z) (fun q _ _ => rfl) (Nat.le_refl _)
  · subst hU
    exact kn_go h hW.alike (fun q _ z => va_Nw.warmC hW z) (fun q _ z => va_Nw.warmM hW z) hS.2.1 hS.1
end
section
/-! rows of the claim: rows of bytes, booleans and shorts; a class's own private constructor; lengths of lists' rows; statics; copies; class objects -/
section RRE
variable {p : Program} {l : Launch} {e : Env} {R : Room} {s : State} {m : MethodId} {args : Array Value} {below : List Frame} {meth : Method} {c : Code} {H : Heap} {locs : List Loc} {cells slots : Nat} {Q : State → Prop}
variable {cc : ByteArray} {pc nL : Nat} {ls : Array Slot} {rest st0 : List Value} {D : va_G} {cl : List vw_C} {ac : Nat → ClassId} {tys : List (ClassId × FieldType)} {a0 : Nat} {H0 : Heap} {st st' : st_S} {own : String} {tb : List Cond} {K : State → Prop}
variable {index n maxL fr lo i j : Nat} {y : MethodName} {bytes : ByteArray} {ret : Option FieldType} {As : List Value} {rv : Option Value}
theorem rr_bald {t : Nat} {r : Option Nat} {x y : Int32} (X : cx_ p s m args c cc nL own tb D cl tys) (hw : ww_ D cl ac a0 st H0 H locs) (ht : tys[t]? = some (ac t, .byte)) (hv : so_li r t x st = some y) (hdg : decode cc pc = .ok (.baload, 1))
    (kk : W p l e R s m args below meth c H locs cells slots Q (F0 m (pc + 1) ls (.int y :: rest))) : W p l e R s m args below meth c H locs cells slots Q (F0 m pc ls (.int x :: va_rf r :: rest)) := by
  obtain ⟨a, n, f, rfl, ha, hin, rfl⟩ := so_li_some hv
  have hP : va_P D cl [(a, .inl (ac t, n, .inl f))] H := va_P1 (hw.1.2.2 a _ ha).2
  exact va_bald X.1 X.2.1 X.2.2.2.2.2 hP 0 t rfl ht hin hdg kk
theorem rr_zald {t : Nat} {r : Option Nat} {x y : Int32} (X : cx_ p s m args c cc nL own tb D cl tys) (hw : ww_ D cl ac a0 st H0 H locs) (ht : tys[t]? = some (ac t, .boolean)) (hv : so_li r t x st = some y) (hdg : decode cc pc = .ok (.baload, 1))
    (kk : W p l e R s m args below meth c H locs cells slots Q (F0 m (pc + 1) ls (.int y :: rest))) : W p l e R s m args below meth c H locs cells slots Q (F0 m pc ls (.int x :: va_rf r :: rest)) := by
  obtain ⟨a, n, f, rfl, ha, hin, rfl⟩ := so_li_some hv
  have hP : va_P D cl [(a, .inl (ac t, n, .inl f))] H := va_P1 (hw.1.2.2 a _ ha).2
  exact va_zald X.1 X.2.1 X.2.2.2.2.2 hP 0 t rfl ht hin hdg kk
theorem rr_sald {t : Nat} {r : Option Nat} {x y : Int32} (X : cx_ p s m args c cc nL own tb D cl tys) (hw : ww_ D cl ac a0 st H0 H locs) (ht : tys[t]? = some (ac t, .short)) (hv : so_li r t x st = some y) (hdg : decode cc pc = .ok (.saload, 1))
    (kk : W p l e R s m args below meth c H locs cells slots Q (F0 m (pc + 1) ls (.int y :: rest))) : W p l e R s m args below meth c H locs cells slots Q (F0 m pc ls (.int x :: va_rf r :: rest)) := by
  obtain ⟨a, n, f, rfl, ha, hin, rfl⟩ := so_li_some hv
  have hP : va_P D cl [(a, .inl (ac t, n, .inl f))] H := va_P1 (hw.1.2.2 a _ ha).2
  exact va_sald X.1 X.2.1 X.2.2.2.2.2 hP 0 t rfl ht hin hdg kk
theorem rr_cell {t n : Nat} {f : Nat → Int32} {x z : Int32} {a : Nat} {H1 : Heap} (e1 : H1[a]? = some ((vp_cell (ac t) (n, .inl f)).setSlot x.toNatClampNeg (.int z))) : va_at D cl (a, ce_v ac (.inl (t, n, upd f x.toNatClampNeg z))) H1 := by
  show H1[a]? = some (vp_cell _ _)
  rw [e1, vp_cell_i, vp_cell_i, arrV_store]
  congr 2
  funext q
  by_cases hq : q = x.toNatClampNeg
  · subst hq
    simp [updV, upd]
  · simp [updV, upd, hq]
theorem rr_bast {t : Nat} {r : Option Nat} {x y : Int32} (X : cx_ p s m args c cc nL own tb D cl tys) (hw : ww_ D cl ac a0 st H0 H locs) (ht : tys[t]? = some (ac t, .byte)) (hv : so_si r t x y.toInt8.toInt32 st = some st') (hdg : decode cc pc = .ok (.bastore, 1))
    (kk : ∀ (H1 : Heap) (locs1 : List Loc), ww_ D cl ac a0 st' H0 H1 locs1 → W p l e R s m args below meth c H1 locs1 cells slots Q (F0 m (pc + 1) ls rest)) : W p l e R s m args below meth c H locs cells slots Q (F0 m pc ls (.int y :: .int x :: va_rf r :: rest)) := by
  obtain ⟨a, n, f, rfl, ha, hin, rfl⟩ := so_si_some hv
  have hat := hw.1.2.2 a _ ha
  have ha0 : a0 ≤ a := hat.1.elim id (fun ⟨_, _, z⟩ => by cases z)
  have hc : H[a]? = some (vp_cell (ac t) (n, .inl f)) := hat.2
  refine W.bast X.1 X.2.1 hc ((X.2.2.2.2.2.2 t _ ht).1 n (fun j => .int (f j))) (fun q => by cases q) (by show ¬ (x < 0 ∨ (arrV _ _ _).slots.size ≤ _); rw [arrV_size]; exact hin) rfl rfl hdg fun H1 e1 z oq => ?_
  exact kk H1 _ ⟨wd_up hw.1 (rr_cell e1) z oq ha0, va_S.put hw.2.1 z oq ha0, hw.2.2⟩
theorem rr_sast {t : Nat} {r : Option Nat} {x y : Int32} (X : cx_ p s m args c cc nL own tb D cl tys) (hw : ww_ D cl ac a0 st H0 H locs) (ht : tys[t]? = some (ac t, .short)) (hv : so_si r t x y.toInt16.toInt32 st = some st') (hdg : decode cc pc = .ok (.sastore, 1))
    (kk : ∀ (H1 : Heap) (locs1 : List Loc), ww_ D cl ac a0 st' H0 H1 locs1 → W p l e R s m args below meth c H1 locs1 cells slots Q (F0 m (pc + 1) ls rest)) : W p l e R s m args below meth c H locs cells slots Q (F0 m pc ls (.int y :: .int x :: va_rf r :: rest)) := by
  obtain ⟨a, n, f, rfl, ha, hin, rfl⟩ := so_si_some hv
  have hat := hw.1.2.2 a _ ha
  have ha0 : a0 ≤ a := hat.1.elim id (fun ⟨_, _, z⟩ => by cases z)
  have hc : H[a]? = some (vp_cell (ac t) (n, .inl f)) := hat.2
  refine W.sast X.1 X.2.1 hc ((X.2.2.2.2.2.2 t _ ht).1 n (fun j => .int (f j))) (fun q => by cases q) (by show ¬ (x < 0 ∨ (arrV _ _ _).slots.size ≤ _); rw [arrV_size]; exact hin) rfl rfl hdg fun H1 e1 z oq => ?_
  exact kk H1 _ ⟨wd_up hw.1 (rr_cell e1) z oq ha0, va_S.put hw.2.1 z oq ha0, hw.2.2⟩
theorem rr_zast {t : Nat} {r : Option Nat} {x y : Int32} {u : Unit} (X : cx_ p s m args c cc nL own tb D cl tys) (hw : ww_ D cl ac a0 st H0 H locs) (ht : tys[t]? = some (ac t, .boolean)) (hz : so_z y st = some u) (hv : so_si r t x y st = some st') (hdg : decode cc pc = .ok (.bastore, 1))
    (kk : ∀ (H1 : Heap) (locs1 : List Loc), ww_ D cl ac a0 st' H0 H1 locs1 → W p l e R s m args below meth c H1 locs1 cells slots Q (F0 m (pc + 1) ls rest)) : W p l e R s m args below meth c H locs cells slots Q (F0 m pc ls (.int y :: .int x :: va_rf r :: rest)) := by
  obtain ⟨a, n, f, rfl, ha, hin, rfl⟩ := so_si_some hv
  have hat := hw.1.2.2 a _ ha
  have ha0 : a0 ≤ a := hat.1.elim id (fun ⟨_, _, z⟩ => by cases z)
  have hc : H[a]? = some (vp_cell (ac t) (n, .inl f)) := hat.2
  refine W.zast X.1 X.2.1 hc ((X.2.2.2.2.2.2 t _ ht).1 n (fun j => .int (f j))) (fun q => by cases q) (by show ¬ (x < 0 ∨ (arrV _ _ _).slots.size ≤ _); rw [arrV_size]; exact hin) rfl rfl hdg fun H1 e1 z oq => ?_
  rw [so_z_n hz] at e1
  exact kk H1 _ ⟨wd_up hw.1 (rr_cell e1) z oq ha0, va_S.put hw.2.1 z oq ha0, hw.2.2⟩
/-- a new row of a small type -/
theorem rr_newp {t N : Nat} {x : Int32} {atype : ArrayType} {ty : FieldType} (X : cx_ p s m args c cc nL own tb D cl tys) (hw : ww_ D cl ac a0 st H0 H locs) (hty : newarray.typeOf atype = ty) (ht : tys[t]? = some (ac t, ty)) (hra : va_RA s (ac t) ty → s.vm.findClass ("[" ++ ty.toString) = some (ac t)) (hdf : defaultValue ty = .int 0) (hn : ¬ x < 0) (hN : x.toNatClampNeg = N) (hbytes : N * componentBytes ty ≤ 536870912)
    (harr : Cond.arrayClass ty ∈ tb) (hr : cells + 1 ≤ R.cells ∧ slots + N ≤ R.slots) (hdg : decode cc pc = .ok (.newarray atype, 2))
    (kk : ∀ H1 : Heap, ww_ D cl ac a0 (st_ad st (.inl (t, N, fun _ => 0))) H0 H1 locs → W p l e R s m args below meth c H1 locs (cells + 1) (slots + N) Q (F0 m (pc + 2) ls (va_rf (some st.2) :: rest))) : W p l e R s m args below meth c H locs cells slots Q (F0 m pc ls (.int x :: rest)) := by
  subst hty
  obtain ⟨x1, x2, x3, x4, x5, x6⟩ := X
  refine va_newaK (atype := atype) x1 x2 (x5 _ harr) rfl hdg rfl hn hN hbytes hr.1 hr.2 hw.1.1 fun H1 cA e1 z1 o1 hAr hNm => ?_
  have hNm2 := hra (x6.2 t _ ht).2
  have hcA : cA = ac t := Option.some.inj (hNm.symm.trans hNm2)
  subst hcA
  refine kk H1 ⟨wd_ad hw.1 ?_ z1 o1, ⟨?_, ?_, hw.2.1.2.2⟩, hw.2.2⟩
  · rw [hdf] at e1
    exact e1
  · have h1 := hw.2.1.1
    have h2 := hw.1.1
    omega
  · intro q h1 h2
    have h3 := hw.2.1.1
    have h4 := hw.1.1
    exact (o1 q (by omega)).trans (hw.2.1.2.1 q h1 h2)
/-- a private constructor of a nest mate -/
theorem rr_callN {b : Nat} {host : String} (X : cx_ p s m args c cc nL own tb D cl tys) (hw : ww_ D cl ac a0 st s.heap H locs) (hK : kk_ D cl tys a0 K) (hKs : K s) (hM : ct_ l y (Cond.code y bytes maxL none :: tb) fr lo D cl ac a0 K (va_rf (some b) :: As) st rv st' i j)
    (hG : GoodIn tb tb) (hcode : Cond.code y bytes maxL none ∈ tb) (hini : Cond.initialized y.cls ∈ tb) (hlink : va_Nw (.methodLinkNest own index y host) s) (hinst : Cond.instanceMethod y ∈ tb) (hy1 : y.name = "<init>")
    (hd : y.cls ≠ "java/lang/invoke/MethodHandle" ∧ y.cls ≠ "java/lang/invoke/VarHandle" ∧ (parseMethodDescriptor y.desc).map (fun d => d.parameters.length) = some n) (hn : As.length = n)
    (hR : fr + 1 ≤ R.frames ∧ 8 + (maxL + 11) + lo ≤ R.locals) (hT : cells + i ≤ R.cells ∧ slots + j ≤ R.slots) (hls : ls.size = nL) (hrm : (rest.map fun v => v.category).sum ≤ 8) (hst : st0 = As.reverse ++ va_rf (some b) :: rest) (hdg : decode cc pc = .ok (.invokespecial index, 3))
    {sk : List Value} (hsk : rv.toList ++ rest = sk) (kk : ∀ (H1 : Heap) (locs1 : List Loc), ww_ D cl ac a0 st' s.heap H1 locs1 → W p l e R s m args below meth c H1 locs1 (cells + i) (slots + j) Q (F0 m (pc + 3) ls sk)) : W p l e R s m args below meth c H locs cells slots Q (F0 m pc ls st0) := by
  obtain ⟨x1, x2, x3, x4, x5, x6⟩ := X
  subst hst hsk
  exact ct_go (va_runIN (b := b) (As := As) (rest := rest) (host := host) ⟨x1, x2, x3, x4, x5⟩ hM ⟨va_cnB n x5 (gi_c hG hcode) rfl rfl rfl hlink (x5 _ hini) hd hR, hy1, x5 _ hinst⟩ (ct_pre hK hKs hw (va_rf (some b) :: As)) rfl hn hls rfl (lv_room hrm) hdg hT) hw kk
end RRE
end
